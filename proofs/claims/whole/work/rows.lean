section
-- ===== PART A: goes FIRST, ahead of the names: the tables' words, and 'selects' of the private methods out of them =====
/-- a private method of a class that the tables say can be made, by its rows of tables_1 -/
def lw_okq (q : MethodName × Nat) : Prop := (q.1.cls ≠ "java/lang/invoke/MethodHandle" ∧ q.1.cls ≠ "java/lang/invoke/VarHandle") ∧ Cond.instantiable q.1.cls q.2 ∈ tables_1 ∧ Cond.privateMethod q.1 ∈ tables_1 ∧ Cond.instanceMethod q.1 ∈ tables_1
theorem lw_p0 : lw_okq (⟨"LoopJudge", "countRoots", "(III)I"⟩, 11) := ⟨⟨by decide +kernel, by decide +kernel⟩, List.mem_of_getElem? (i := 15) (by decide +kernel), List.mem_of_getElem? (i := 297) (by decide +kernel), List.mem_of_getElem? (i := 298) (by decide +kernel)⟩
theorem lw_p1 : lw_okq (⟨"LoopJudge$Chain", "addHalf", "([JI)V"⟩, 3) := ⟨⟨by decide +kernel, by decide +kernel⟩, List.mem_of_getElem? (i := 128) (by decide +kernel), List.mem_of_getElem? (i := 310) (by decide +kernel), List.mem_of_getElem? (i := 311) (by decide +kernel)⟩
theorem lw_p2 : lw_okq (⟨"LoopJudge$Chain", "addUnlessZero", "()V"⟩, 3) := ⟨⟨by decide +kernel, by decide +kernel⟩, List.mem_of_getElem? (i := 128) (by decide +kernel), List.mem_of_getElem? (i := 314) (by decide +kernel), List.mem_of_getElem? (i := 315) (by decide +kernel)⟩
theorem lw_p3 : lw_okq (⟨"LoopJudge$Chain", "addRemainder", "(I)V"⟩, 3) := ⟨⟨by decide +kernel, by decide +kernel⟩, List.mem_of_getElem? (i := 128) (by decide +kernel), List.mem_of_getElem? (i := 318) (by decide +kernel), List.mem_of_getElem? (i := 319) (by decide +kernel)⟩
theorem lw_p4 : lw_okq (⟨"LoopJudge$Judge", "countByChain", "()V"⟩, 5) := ⟨⟨by decide +kernel, by decide +kernel⟩, List.mem_of_getElem? (i := 122) (by decide +kernel), List.mem_of_getElem? (i := 336) (by decide +kernel), List.mem_of_getElem? (i := 337) (by decide +kernel)⟩
theorem lw_p5 : lw_okq (⟨"LoopJudge$Judge", "signTurns", "()I"⟩, 5) := ⟨⟨by decide +kernel, by decide +kernel⟩, List.mem_of_getElem? (i := 122) (by decide +kernel), List.mem_of_getElem? (i := 340) (by decide +kernel), List.mem_of_getElem? (i := 341) (by decide +kernel)⟩
theorem lw_p6 : lw_okq (⟨"LoopJudge$Judge", "turn", "([J)V"⟩, 5) := ⟨⟨by decide +kernel, by decide +kernel⟩, List.mem_of_getElem? (i := 122) (by decide +kernel), List.mem_of_getElem? (i := 351) (by decide +kernel), List.mem_of_getElem? (i := 352) (by decide +kernel)⟩
theorem lw_p7 : lw_okq (⟨"LoopJudge", "bookOf", "(I)LLoopJudge$SpanBook;"⟩, 11) := ⟨⟨by decide +kernel, by decide +kernel⟩, List.mem_of_getElem? (i := 15) (by decide +kernel), List.mem_of_getElem? (i := 382) (by decide +kernel), List.mem_of_getElem? (i := 383) (by decide +kernel)⟩
theorem lw_p8 : lw_okq (⟨"LoopJudge$SpanBook", "isOf", "(LLoopJudge$Setting;)Z"⟩, 9) := ⟨⟨by decide +kernel, by decide +kernel⟩, List.mem_of_getElem? (i := 170) (by decide +kernel), List.mem_of_getElem? (i := 390) (by decide +kernel), List.mem_of_getElem? (i := 391) (by decide +kernel)⟩
theorem lw_p9 : lw_okq (⟨"LoopJudge$SpanBook", "collect", "(LLoopJudge$Setting;LLoopJudge$Judge;)V"⟩, 9) := ⟨⟨by decide +kernel, by decide +kernel⟩, List.mem_of_getElem? (i := 170) (by decide +kernel), List.mem_of_getElem? (i := 395) (by decide +kernel), List.mem_of_getElem? (i := 396) (by decide +kernel)⟩
theorem lw_p10 : lw_okq (⟨"LoopJudge$SpanBook", "addGain", "(I)V"⟩, 9) := ⟨⟨by decide +kernel, by decide +kernel⟩, List.mem_of_getElem? (i := 170) (by decide +kernel), List.mem_of_getElem? (i := 407) (by decide +kernel), List.mem_of_getElem? (i := 408) (by decide +kernel)⟩
theorem lw_p11 : lw_okq (⟨"LoopJudge$SpanBook", "orderByWidth", "()V"⟩, 9) := ⟨⟨by decide +kernel, by decide +kernel⟩, List.mem_of_getElem? (i := 170) (by decide +kernel), List.mem_of_getElem? (i := 411) (by decide +kernel), List.mem_of_getElem? (i := 412) (by decide +kernel)⟩
theorem lw_p12 : lw_okq (⟨"LoopJudge$SpanBook", "widthOf", "(I)I"⟩, 9) := ⟨⟨by decide +kernel, by decide +kernel⟩, List.mem_of_getElem? (i := 170) (by decide +kernel), List.mem_of_getElem? (i := 415) (by decide +kernel), List.mem_of_getElem? (i := 416) (by decide +kernel)⟩
theorem lw_p13 : lw_okq (⟨"LoopJudge$Tape", "readTerms", "(I)I"⟩, 7) := ⟨⟨by decide +kernel, by decide +kernel⟩, List.mem_of_getElem? (i := 68) (by decide +kernel), List.mem_of_getElem? (i := 477) (by decide +kernel), List.mem_of_getElem? (i := 478) (by decide +kernel)⟩
theorem lw_p14 : lw_okq (⟨"LoopJudge$Tape", "nextLetter", "()I"⟩, 7) := ⟨⟨by decide +kernel, by decide +kernel⟩, List.mem_of_getElem? (i := 68) (by decide +kernel), List.mem_of_getElem? (i := 481) (by decide +kernel), List.mem_of_getElem? (i := 482) (by decide +kernel)⟩
theorem lw_p15 : lw_okq (⟨"LoopJudge$Tape", "readTerm", "()Z"⟩, 7) := ⟨⟨by decide +kernel, by decide +kernel⟩, List.mem_of_getElem? (i := 68) (by decide +kernel), List.mem_of_getElem? (i := 485) (by decide +kernel), List.mem_of_getElem? (i := 486) (by decide +kernel)⟩
def lw_privs_1 : List (MethodName × Nat) := [(⟨"LoopJudge", "countRoots", "(III)I"⟩, 11), (⟨"LoopJudge$Chain", "addHalf", "([JI)V"⟩, 3), (⟨"LoopJudge$Chain", "addUnlessZero", "()V"⟩, 3), (⟨"LoopJudge$Chain", "addRemainder", "(I)V"⟩, 3), (⟨"LoopJudge$Judge", "countByChain", "()V"⟩, 5), (⟨"LoopJudge$Judge", "signTurns", "()I"⟩, 5), (⟨"LoopJudge$Judge", "turn", "([J)V"⟩, 5), (⟨"LoopJudge", "bookOf", "(I)LLoopJudge$SpanBook;"⟩, 11), (⟨"LoopJudge$SpanBook", "isOf", "(LLoopJudge$Setting;)Z"⟩, 9), (⟨"LoopJudge$SpanBook", "collect", "(LLoopJudge$Setting;LLoopJudge$Judge;)V"⟩, 9), (⟨"LoopJudge$SpanBook", "addGain", "(I)V"⟩, 9), (⟨"LoopJudge$SpanBook", "orderByWidth", "()V"⟩, 9), (⟨"LoopJudge$SpanBook", "widthOf", "(I)I"⟩, 9), (⟨"LoopJudge$Tape", "readTerms", "(I)I"⟩, 7), (⟨"LoopJudge$Tape", "nextLetter", "()I"⟩, 7), (⟨"LoopJudge$Tape", "readTerm", "()Z"⟩, 7)]
theorem lw_r1 : ∀ q ∈ lw_privs_1, lw_okq q := List.forall_mem_cons.mpr ⟨lw_p0, List.forall_mem_cons.mpr ⟨lw_p1, List.forall_mem_cons.mpr ⟨lw_p2, List.forall_mem_cons.mpr ⟨lw_p3, List.forall_mem_cons.mpr ⟨lw_p4, List.forall_mem_cons.mpr ⟨lw_p5, List.forall_mem_cons.mpr ⟨lw_p6, List.forall_mem_cons.mpr ⟨lw_p7, List.forall_mem_cons.mpr ⟨lw_p8, List.forall_mem_cons.mpr ⟨lw_p9, List.forall_mem_cons.mpr ⟨lw_p10, List.forall_mem_cons.mpr ⟨lw_p11, List.forall_mem_cons.mpr ⟨lw_p12, List.forall_mem_cons.mpr ⟨lw_p13, List.forall_mem_cons.mpr ⟨lw_p14, List.forall_mem_cons.mpr ⟨lw_p15, fun _ h => absurd h List.not_mem_nil⟩⟩⟩⟩⟩⟩⟩⟩⟩⟩⟩⟩⟩⟩⟩⟩
theorem lw_p16 : lw_okq (⟨"LoopJudge$Tape", "readPower", "()V"⟩, 7) := ⟨⟨by decide +kernel, by decide +kernel⟩, List.mem_of_getElem? (i := 68) (by decide +kernel), List.mem_of_getElem? (i := 489) (by decide +kernel), List.mem_of_getElem? (i := 490) (by decide +kernel)⟩
theorem lw_p17 : lw_okq (⟨"LoopJudgeModel", "notes", "()V"⟩, 29) := ⟨⟨by decide +kernel, by decide +kernel⟩, List.mem_of_getElem? (i := 587) (by decide +kernel), List.mem_of_getElem? (i := 694) (by decide +kernel), List.mem_of_getElem? (i := 695) (by decide +kernel)⟩
theorem lw_p18 : lw_okq (⟨"LoopJudgeModel", "degreeOf", "(I)I"⟩, 29) := ⟨⟨by decide +kernel, by decide +kernel⟩, List.mem_of_getElem? (i := 587) (by decide +kernel), List.mem_of_getElem? (i := 718) (by decide +kernel), List.mem_of_getElem? (i := 719) (by decide +kernel)⟩
theorem lw_p19 : lw_okq (⟨"LoopJudgeModel", "loops", "(I)V"⟩, 29) := ⟨⟨by decide +kernel, by decide +kernel⟩, List.mem_of_getElem? (i := 587) (by decide +kernel), List.mem_of_getElem? (i := 722) (by decide +kernel), List.mem_of_getElem? (i := 723) (by decide +kernel)⟩
theorem lw_p20 : lw_okq (⟨"LoopJudgeModel", "countsBy", "(I)I"⟩, 29) := ⟨⟨by decide +kernel, by decide +kernel⟩, List.mem_of_getElem? (i := 587) (by decide +kernel), List.mem_of_getElem? (i := 739) (by decide +kernel), List.mem_of_getElem? (i := 740) (by decide +kernel)⟩
theorem lw_p21 : lw_okq (⟨"LoopJudgeModel", "turns", "(I)V"⟩, 29) := ⟨⟨by decide +kernel, by decide +kernel⟩, List.mem_of_getElem? (i := 587) (by decide +kernel), List.mem_of_getElem? (i := 743) (by decide +kernel), List.mem_of_getElem? (i := 744) (by decide +kernel)⟩
theorem lw_p22 : lw_okq (⟨"LoopJudgeModel", "multiplies", "(I)V"⟩, 29) := ⟨⟨by decide +kernel, by decide +kernel⟩, List.mem_of_getElem? (i := 587) (by decide +kernel), List.mem_of_getElem? (i := 747) (by decide +kernel), List.mem_of_getElem? (i := 748) (by decide +kernel)⟩
theorem lw_p23 : lw_okq (⟨"LoopJudgeModel", "counts", "()V"⟩, 29) := ⟨⟨by decide +kernel, by decide +kernel⟩, List.mem_of_getElem? (i := 587) (by decide +kernel), List.mem_of_getElem? (i := 751) (by decide +kernel), List.mem_of_getElem? (i := 752) (by decide +kernel)⟩
theorem lw_p24 : lw_okq (⟨"LoopJudgeModel", "squares", "(JJJ)V"⟩, 29) := ⟨⟨by decide +kernel, by decide +kernel⟩, List.mem_of_getElem? (i := 587) (by decide +kernel), List.mem_of_getElem? (i := 755) (by decide +kernel), List.mem_of_getElem? (i := 756) (by decide +kernel)⟩
theorem lw_p25 : lw_okq (⟨"LoopJudgeModel", "square", "(I)V"⟩, 29) := ⟨⟨by decide +kernel, by decide +kernel⟩, List.mem_of_getElem? (i := 587) (by decide +kernel), List.mem_of_getElem? (i := 762) (by decide +kernel), List.mem_of_getElem? (i := 763) (by decide +kernel)⟩
theorem lw_p26 : lw_okq (⟨"LoopJudgeModel", "more", "(III)V"⟩, 29) := ⟨⟨by decide +kernel, by decide +kernel⟩, List.mem_of_getElem? (i := 587) (by decide +kernel), List.mem_of_getElem? (i := 766) (by decide +kernel), List.mem_of_getElem? (i := 767) (by decide +kernel)⟩
theorem lw_p27 : lw_okq (⟨"LoopJudgeModel", "two", "(JJJ)V"⟩, 29) := ⟨⟨by decide +kernel, by decide +kernel⟩, List.mem_of_getElem? (i := 587) (by decide +kernel), List.mem_of_getElem? (i := 770) (by decide +kernel), List.mem_of_getElem? (i := 771) (by decide +kernel)⟩
theorem lw_p28 : lw_okq (⟨"LoopJudgeModel", "apart", "(I)V"⟩, 29) := ⟨⟨by decide +kernel, by decide +kernel⟩, List.mem_of_getElem? (i := 587) (by decide +kernel), List.mem_of_getElem? (i := 774) (by decide +kernel), List.mem_of_getElem? (i := 775) (by decide +kernel)⟩
theorem lw_p29 : lw_okq (⟨"LoopJudgeModel", "three", "(JJJJ)V"⟩, 29) := ⟨⟨by decide +kernel, by decide +kernel⟩, List.mem_of_getElem? (i := 587) (by decide +kernel), List.mem_of_getElem? (i := 778) (by decide +kernel), List.mem_of_getElem? (i := 779) (by decide +kernel)⟩
theorem lw_p30 : lw_okq (⟨"LoopJudgeModel", "passes", "(I)V"⟩, 29) := ⟨⟨by decide +kernel, by decide +kernel⟩, List.mem_of_getElem? (i := 587) (by decide +kernel), List.mem_of_getElem? (i := 782) (by decide +kernel), List.mem_of_getElem? (i := 783) (by decide +kernel)⟩
theorem lw_p31 : lw_okq (⟨"LoopJudgeModel", "four", "()V"⟩, 29) := ⟨⟨by decide +kernel, by decide +kernel⟩, List.mem_of_getElem? (i := 587) (by decide +kernel), List.mem_of_getElem? (i := 786) (by decide +kernel), List.mem_of_getElem? (i := 787) (by decide +kernel)⟩
def lw_privs_2 : List (MethodName × Nat) := [(⟨"LoopJudge$Tape", "readPower", "()V"⟩, 7), (⟨"LoopJudgeModel", "notes", "()V"⟩, 29), (⟨"LoopJudgeModel", "degreeOf", "(I)I"⟩, 29), (⟨"LoopJudgeModel", "loops", "(I)V"⟩, 29), (⟨"LoopJudgeModel", "countsBy", "(I)I"⟩, 29), (⟨"LoopJudgeModel", "turns", "(I)V"⟩, 29), (⟨"LoopJudgeModel", "multiplies", "(I)V"⟩, 29), (⟨"LoopJudgeModel", "counts", "()V"⟩, 29), (⟨"LoopJudgeModel", "squares", "(JJJ)V"⟩, 29), (⟨"LoopJudgeModel", "square", "(I)V"⟩, 29), (⟨"LoopJudgeModel", "more", "(III)V"⟩, 29), (⟨"LoopJudgeModel", "two", "(JJJ)V"⟩, 29), (⟨"LoopJudgeModel", "apart", "(I)V"⟩, 29), (⟨"LoopJudgeModel", "three", "(JJJJ)V"⟩, 29), (⟨"LoopJudgeModel", "passes", "(I)V"⟩, 29), (⟨"LoopJudgeModel", "four", "()V"⟩, 29)]
theorem lw_r2 : ∀ q ∈ lw_privs_2, lw_okq q := List.forall_mem_cons.mpr ⟨lw_p16, List.forall_mem_cons.mpr ⟨lw_p17, List.forall_mem_cons.mpr ⟨lw_p18, List.forall_mem_cons.mpr ⟨lw_p19, List.forall_mem_cons.mpr ⟨lw_p20, List.forall_mem_cons.mpr ⟨lw_p21, List.forall_mem_cons.mpr ⟨lw_p22, List.forall_mem_cons.mpr ⟨lw_p23, List.forall_mem_cons.mpr ⟨lw_p24, List.forall_mem_cons.mpr ⟨lw_p25, List.forall_mem_cons.mpr ⟨lw_p26, List.forall_mem_cons.mpr ⟨lw_p27, List.forall_mem_cons.mpr ⟨lw_p28, List.forall_mem_cons.mpr ⟨lw_p29, List.forall_mem_cons.mpr ⟨lw_p30, List.forall_mem_cons.mpr ⟨lw_p31, fun _ h => absurd h List.not_mem_nil⟩⟩⟩⟩⟩⟩⟩⟩⟩⟩⟩⟩⟩⟩⟩⟩
theorem lw_p32 : lw_okq (⟨"LoopJudgeModel", "laysRows", "()V"⟩, 29) := ⟨⟨by decide +kernel, by decide +kernel⟩, List.mem_of_getElem? (i := 587) (by decide +kernel), List.mem_of_getElem? (i := 796) (by decide +kernel), List.mem_of_getElem? (i := 797) (by decide +kernel)⟩
theorem lw_p33 : lw_okq (⟨"LoopJudgeModel", "addsRow", "()V"⟩, 29) := ⟨⟨by decide +kernel, by decide +kernel⟩, List.mem_of_getElem? (i := 587) (by decide +kernel), List.mem_of_getElem? (i := 800) (by decide +kernel), List.mem_of_getElem? (i := 801) (by decide +kernel)⟩
theorem lw_p34 : lw_okq (⟨"LoopJudgeModel", "divides", "(I)V"⟩, 29) := ⟨⟨by decide +kernel, by decide +kernel⟩, List.mem_of_getElem? (i := 587) (by decide +kernel), List.mem_of_getElem? (i := 804) (by decide +kernel), List.mem_of_getElem? (i := 805) (by decide +kernel)⟩
theorem lw_p35 : lw_okq (⟨"LoopJudgeModel", "shortens", "()V"⟩, 29) := ⟨⟨by decide +kernel, by decide +kernel⟩, List.mem_of_getElem? (i := 587) (by decide +kernel), List.mem_of_getElem? (i := 808) (by decide +kernel), List.mem_of_getElem? (i := 809) (by decide +kernel)⟩
theorem lw_p36 : lw_okq (⟨"LoopJudgeModel", "laysSpans", "(I)I"⟩, 29) := ⟨⟨by decide +kernel, by decide +kernel⟩, List.mem_of_getElem? (i := 587) (by decide +kernel), List.mem_of_getElem? (i := 828) (by decide +kernel), List.mem_of_getElem? (i := 829) (by decide +kernel)⟩
theorem lw_p37 : lw_okq (⟨"LoopJudgeModel", "isSteady", "(I)Z"⟩, 29) := ⟨⟨by decide +kernel, by decide +kernel⟩, List.mem_of_getElem? (i := 587) (by decide +kernel), List.mem_of_getElem? (i := 832) (by decide +kernel), List.mem_of_getElem? (i := 833) (by decide +kernel)⟩
theorem lw_p38 : lw_okq (⟨"LoopJudgeModel", "terms", "(I)V"⟩, 29) := ⟨⟨by decide +kernel, by decide +kernel⟩, List.mem_of_getElem? (i := 587) (by decide +kernel), List.mem_of_getElem? (i := 869) (by decide +kernel), List.mem_of_getElem? (i := 870) (by decide +kernel)⟩
theorem lw_p39 : lw_okq (⟨"LoopJudgeModel", "looks", "()I"⟩, 29) := ⟨⟨by decide +kernel, by decide +kernel⟩, List.mem_of_getElem? (i := 587) (by decide +kernel), List.mem_of_getElem? (i := 873) (by decide +kernel), List.mem_of_getElem? (i := 874) (by decide +kernel)⟩
theorem lw_p40 : lw_okq (⟨"LoopJudgeModel", "goesBy", "(Z)Z"⟩, 29) := ⟨⟨by decide +kernel, by decide +kernel⟩, List.mem_of_getElem? (i := 587) (by decide +kernel), List.mem_of_getElem? (i := 877) (by decide +kernel), List.mem_of_getElem? (i := 878) (by decide +kernel)⟩
theorem lw_p41 : lw_okq (⟨"LoopJudgeModel", "term", "(III)I"⟩, 29) := ⟨⟨by decide +kernel, by decide +kernel⟩, List.mem_of_getElem? (i := 587) (by decide +kernel), List.mem_of_getElem? (i := 881) (by decide +kernel), List.mem_of_getElem? (i := 882) (by decide +kernel)⟩
theorem lw_p42 : lw_okq (⟨"LoopJudgeModel", "found", "(IIII)I"⟩, 29) := ⟨⟨by decide +kernel, by decide +kernel⟩, List.mem_of_getElem? (i := 587) (by decide +kernel), List.mem_of_getElem? (i := 921) (by decide +kernel), List.mem_of_getElem? (i := 922) (by decide +kernel)⟩
def lw_privs_3 : List (MethodName × Nat) := [(⟨"LoopJudgeModel", "laysRows", "()V"⟩, 29), (⟨"LoopJudgeModel", "addsRow", "()V"⟩, 29), (⟨"LoopJudgeModel", "divides", "(I)V"⟩, 29), (⟨"LoopJudgeModel", "shortens", "()V"⟩, 29), (⟨"LoopJudgeModel", "laysSpans", "(I)I"⟩, 29), (⟨"LoopJudgeModel", "isSteady", "(I)Z"⟩, 29), (⟨"LoopJudgeModel", "terms", "(I)V"⟩, 29), (⟨"LoopJudgeModel", "looks", "()I"⟩, 29), (⟨"LoopJudgeModel", "goesBy", "(Z)Z"⟩, 29), (⟨"LoopJudgeModel", "term", "(III)I"⟩, 29), (⟨"LoopJudgeModel", "found", "(IIII)I"⟩, 29)]
theorem lw_r3 : ∀ q ∈ lw_privs_3, lw_okq q := List.forall_mem_cons.mpr ⟨lw_p32, List.forall_mem_cons.mpr ⟨lw_p33, List.forall_mem_cons.mpr ⟨lw_p34, List.forall_mem_cons.mpr ⟨lw_p35, List.forall_mem_cons.mpr ⟨lw_p36, List.forall_mem_cons.mpr ⟨lw_p37, List.forall_mem_cons.mpr ⟨lw_p38, List.forall_mem_cons.mpr ⟨lw_p39, List.forall_mem_cons.mpr ⟨lw_p40, List.forall_mem_cons.mpr ⟨lw_p41, List.forall_mem_cons.mpr ⟨lw_p42, fun _ h => absurd h List.not_mem_nil⟩⟩⟩⟩⟩⟩⟩⟩⟩⟩⟩
def lw_privs : List (MethodName × Nat) := lw_privs_1 ++ (lw_privs_2 ++ (lw_privs_3))
def lw_tbl : List Cond := k2_sels lw_privs ++ tables_1
theorem lw_privs_ok : ∀ q ∈ lw_privs, lw_okq q := by
  show ∀ q ∈ lw_privs_1 ++ (lw_privs_2 ++ (lw_privs_3)), lw_okq q
  exact List.forall_mem_append.mpr ⟨lw_r1, List.forall_mem_append.mpr ⟨lw_r2, lw_r3⟩⟩
end
section
/-! ===== BEGIN words of one list among another's, by their places ===== -/
theorem goodIn_r {big : List Cond} (ws : List Cond) (ps : List Nat) (hp : ws = ps.filterMap (fun i => big[i]?)) (h : ws.all goodWord = true) : GoodIn big ws := by
  intro w hw
  have h1 := List.all_eq_true.mp h w hw
  rw [hp] at hw
  obtain ⟨i, -, hi⟩ := List.mem_filterMap.mp hw
  have hm : w ∈ big := by first | exact List.mem_of_getElem? hi | exact List.getElem?_mem hi
  exact ⟨hm, good_of_word h1⟩
theorem goodIn_app {big a b : List Cond} (ha : GoodIn big a) (hb : GoodIn big b) : GoodIn big (a ++ b) := fun w h => (List.mem_append.mp h).elim (ha w) (hb w)
theorem goodIn_ca {big a b : List Cond} {c : Cond} (ha : GoodIn big (c :: a)) (hb : GoodIn big b) : GoodIn big (c :: (a ++ b)) := fun w h => (List.mem_cons.mp h).elim (fun e => ha w (List.mem_cons.mpr (Or.inl e))) (fun h => (List.mem_append.mp h).elim (fun h => ha w (List.mem_cons.mpr (Or.inr h))) (hb w))
theorem goodIn_sub {big ws : List Cond} (hm : ∀ w ∈ ws, w ∈ big) (h : ws.all goodWord = true) : GoodIn big ws := fun w hw => ⟨hm w hw, good_of_word (List.all_eq_true.mp h w hw)⟩
/-! ===== END ===== -/

/-! ===== BEGIN printed: names, fields, word lists, decode rows ===== -/
def RX0 : String := "LoopJudge$Chain"
def TX0 : u_T := fun k => match k with
  | 0 => ("LoopJudge$Chain", "lines", "[[J", true)
  | 1 => ("LoopJudge$Chain", "degrees", "[I", true)
  | _ => ("LoopJudge$Chain", "size", "I", false)
def tyX0 : Nat → FieldType := fun k => match k with
  | 0 => .array (.array .long)
  | 1 => .array .int
  | _ => .int
abbrev wsX00 : List Cond := u_ws RX0 TX0 3
theorem nmX0 : ∀ a, a < 3 → ∀ b, b < 3 → a ≠ b → (TX0 a).2.1 ≠ (TX0 b).2.1 := by decide +kernel
theorem tyX0_ok : ∀ k, k < 3 → parseFieldDescriptor (TX0 k).2.2.1 = some (tyX0 k) := by decide +kernel
abbrev cX0_init : ByteArray := prog_2_method_1_code
def yX0_init : MethodName := ⟨RX0, "<init>", "()V"⟩
abbrev cX0_fill : ByteArray := prog_2_method_2_code
def yX0_fill : MethodName := ⟨RX0, "fill", "([J)V"⟩
abbrev cX0_addHalf : ByteArray := prog_2_method_3_code
def yX0_addHalf : MethodName := ⟨RX0, "addHalf", "([JI)V"⟩
abbrev cX0_addRemainder : ByteArray := prog_2_method_4_code
def yX0_addRemainder : MethodName := ⟨RX0, "addRemainder", "(I)V"⟩
abbrev cX0_addUnlessZero : ByteArray := prog_2_method_5_code
def yX0_addUnlessZero : MethodName := ⟨RX0, "addUnlessZero", "()V"⟩
abbrev cX0_strike : ByteArray := prog_2_method_6_code
def yX0_strike : MethodName := ⟨RX0, "strike", "([JI[JI)V"⟩
abbrev cX0_takeLowestTerms : ByteArray := prog_2_method_7_code
def yX0_takeLowestTerms : MethodName := ⟨RX0, "takeLowestTerms", "([J)V"⟩
def RX1 : String := "LoopJudge$Judge"
def TX1 : u_T := fun k => match k with
  | 0 => ("LoopJudge$Judge", "chain", "LLoopJudge$Chain;", true)
  | 1 => ("LoopJudge$Judge", "turned", "[J", true)
  | 2 => ("LoopJudge$Judge", "right", "I", false)
  | 3 => ("LoopJudge$Judge", "even", "I", false)
  | _ => ("LoopJudge$Judge", "left", "I", false)
def tyX1 : Nat → FieldType := fun k => match k with
  | 0 => .object "LoopJudge$Chain"
  | 1 => .array .long
  | 2 => .int
  | 3 => .int
  | _ => .int
abbrev wsX10 : List Cond := u_ws RX1 TX1 5
theorem nmX1 : ∀ a, a < 5 → ∀ b, b < 5 → a ≠ b → (TX1 a).2.1 ≠ (TX1 b).2.1 := by decide +kernel
theorem tyX1_ok : ∀ k, k < 5 → parseFieldDescriptor (TX1 k).2.2.1 = some (tyX1 k) := by decide +kernel
abbrev cX1_init : ByteArray := prog_3_method_1_code
def yX1_init : MethodName := ⟨RX1, "<init>", "()V"⟩
abbrev cX1_countRootsOf : ByteArray := prog_3_method_2_code
def yX1_countRootsOf : MethodName := ⟨RX1, "countRootsOf", "(I[J)V"⟩
abbrev cX1_isSteady : ByteArray := prog_3_method_3_code
def yX1_isSteady : MethodName := ⟨RX1, "isSteady", "(I[J)Z"⟩
abbrev cX1_turn : ByteArray := prog_3_method_4_code
def yX1_turn : MethodName := ⟨RX1, "turn", "([J)V"⟩
abbrev cX1_partBelow : ByteArray := prog_3_method_5_code
def yX1_partBelow : MethodName := ⟨RX1, "partBelow", "([JII)J"⟩
abbrev cX1_countByChain : ByteArray := prog_3_method_6_code
def yX1_countByChain : MethodName := ⟨RX1, "countByChain", "()V"⟩
abbrev cX1_signTurns : ByteArray := prog_3_method_7_code
def yX1_signTurns : MethodName := ⟨RX1, "signTurns", "()I"⟩
abbrev cX1_rootsOnAxis : ByteArray := prog_3_method_8_code
def yX1_rootsOnAxis : MethodName := ⟨RX1, "rootsOnAxis", "([JI)I"⟩
abbrev cX1_rootsOnAxisOfFour : ByteArray := prog_3_method_9_code
def yX1_rootsOnAxisOfFour : MethodName := ⟨RX1, "rootsOnAxisOfFour", "(JJJ)I"⟩
abbrev cX1_isSteadyByAxis : ByteArray := prog_3_method_10_code
def yX1_isSteadyByAxis : MethodName := ⟨RX1, "isSteadyByAxis", "([J)Z"⟩
def RX2 : String := "LoopJudge$Past"
def TX2 : u_T := fun k => match k with
  | 0 => ("LoopJudge$Past", "settings", "[LLoopJudge$Setting;", true)
  | 1 => ("LoopJudge$Past", "newest", "I", false)
  | _ => ("LoopJudge$Past", "known", "I", false)
def tyX2 : Nat → FieldType := fun k => match k with
  | 0 => .array (.object "LoopJudge$Setting")
  | 1 => .int
  | _ => .int
abbrev wsX20 : List Cond := u_ws RX2 TX2 3
theorem nmX2 : ∀ a, a < 3 → ∀ b, b < 3 → a ≠ b → (TX2 a).2.1 ≠ (TX2 b).2.1 := by decide +kernel
theorem tyX2_ok : ∀ k, k < 3 → parseFieldDescriptor (TX2 k).2.2.1 = some (tyX2 k) := by decide +kernel
abbrev cX2_init : ByteArray := prog_4_method_1_code
def yX2_init : MethodName := ⟨RX2, "<init>", "()V"⟩
abbrev cX2_keep : ByteArray := prog_4_method_2_code
def yX2_keep : MethodName := ⟨RX2, "keep", "(LLoopJudge$Setting;)V"⟩
abbrev cX2_giveBack : ByteArray := prog_4_method_3_code
def yX2_giveBack : MethodName := ⟨RX2, "giveBack", "(LLoopJudge$Setting;)V"⟩
abbrev cX2_become : ByteArray := prog_4_method_4_code
def yX2_become : MethodName := ⟨RX2, "become", "(LLoopJudge$Past;)V"⟩
def RX3 : String := "LoopJudge$Setting"
def TX3 : u_T := fun k => match k with
  | 0 => ("LoopJudge$Setting", "parts", "[I", true)
  | 1 => ("LoopJudge$Setting", "gainTold", "I", false)
  | _ => ("LoopJudge$Setting", "draw", "I", false)
def tyX3 : Nat → FieldType := fun k => match k with
  | 0 => .array .int
  | 1 => .int
  | _ => .int
abbrev wsX30 : List Cond := u_ws RX3 TX3 3
theorem nmX3 : ∀ a, a < 3 → ∀ b, b < 3 → a ≠ b → (TX3 a).2.1 ≠ (TX3 b).2.1 := by decide +kernel
theorem tyX3_ok : ∀ k, k < 3 → parseFieldDescriptor (TX3 k).2.2.1 = some (tyX3 k) := by decide +kernel
abbrev cX3_init : ByteArray := prog_5_method_1_code
def yX3_init : MethodName := ⟨RX3, "<init>", "()V"⟩
abbrev cX3_begin : ByteArray := prog_5_method_2_code
def yX3_begin : MethodName := ⟨RX3, "begin", "()V"⟩
abbrev cX3_become : ByteArray := prog_5_method_3_code
def yX3_become : MethodName := ⟨RX3, "become", "(LLoopJudge$Setting;)V"⟩
abbrev cX3_degreeTold : ByteArray := prog_5_method_4_code
def yX3_degreeTold : MethodName := ⟨RX3, "degreeTold", "(I)I"⟩
abbrev cX3_fillLoop : ByteArray := prog_5_method_5_code
def yX3_fillLoop : MethodName := ⟨RX3, "fillLoop", "([JI)V"⟩
abbrev cX3_drawOnce : ByteArray := prog_5_method_6_code
def yX3_drawOnce : MethodName := ⟨RX3, "drawOnce", "()V"⟩
def RX4 : String := "LoopJudge$Shelf"
def TX4 : u_T := fun k => match k with
  | 0 => ("LoopJudge$Shelf", "lanes", "[I", true)
  | 1 => ("LoopJudge$Shelf", "sizes", "[I", true)
  | _ => ("LoopJudge$Shelf", "items", "[[J", true)
def tyX4 : Nat → FieldType := fun k => match k with
  | 0 => .array .int
  | 1 => .array .int
  | _ => .array (.array .long)
abbrev wsX40 : List Cond := u_ws RX4 TX4 3
theorem nmX4 : ∀ a, a < 3 → ∀ b, b < 3 → a ≠ b → (TX4 a).2.1 ≠ (TX4 b).2.1 := by decide +kernel
theorem tyX4_ok : ∀ k, k < 3 → parseFieldDescriptor (TX4 k).2.2.1 = some (tyX4 k) := by decide +kernel
abbrev cX4_init : ByteArray := prog_6_method_1_code
def yX4_init : MethodName := ⟨RX4, "<init>", "()V"⟩
abbrev cX4_isMissing : ByteArray := prog_6_method_2_code
def yX4_isMissing : MethodName := ⟨RX4, "isMissing", "(I)Z"⟩
abbrev cX4_renew : ByteArray := prog_6_method_3_code
def yX4_renew : MethodName := ⟨RX4, "renew", "(III)V"⟩
abbrev cX4_remove : ByteArray := prog_6_method_4_code
def yX4_remove : MethodName := ⟨RX4, "remove", "(I)V"⟩
abbrev cX4_refusal : ByteArray := prog_6_method_5_code
def yX4_refusal : MethodName := ⟨RX4, "refusal", "(IIII)I"⟩
abbrev cX4_hasItems : ByteArray := prog_6_method_6_code
def yX4_hasItems : MethodName := ⟨RX4, "hasItems", "(III)Z"⟩
abbrev cX4_holdsParts : ByteArray := prog_6_method_7_code
def yX4_holdsParts : MethodName := ⟨RX4, "holdsParts", "(III)Z"⟩
def RX5 : String := "LoopJudge$SpanBook"
def TX5 : u_T := fun k => match k with
  | 0 => ("LoopJudge$SpanBook", "by", "I", true)
  | 1 => ("LoopJudge$SpanBook", "parts", "[I", true)
  | 2 => ("LoopJudge$SpanBook", "loop", "[J", true)
  | 3 => ("LoopJudge$SpanBook", "least", "[I", true)
  | 4 => ("LoopJudge$SpanBook", "greatest", "[I", true)
  | 5 => ("LoopJudge$SpanBook", "byWidth", "[I", true)
  | 6 => ("LoopJudge$SpanBook", "made", "Z", false)
  | 7 => ("LoopJudge$SpanBook", "size", "I", false)
  | _ => ("LoopJudge$SpanBook", "steadyGains", "I", false)
def tyX5 : Nat → FieldType := fun k => match k with
  | 0 => .int
  | 1 => .array .int
  | 2 => .array .long
  | 3 => .array .int
  | 4 => .array .int
  | 5 => .array .int
  | 6 => .boolean
  | 7 => .int
  | _ => .int
abbrev wsX50 : List Cond := u_ws RX5 TX5 9
theorem nmX5 : ∀ a, a < 9 → ∀ b, b < 9 → a ≠ b → (TX5 a).2.1 ≠ (TX5 b).2.1 := by decide +kernel
theorem tyX5_ok : ∀ k, k < 9 → parseFieldDescriptor (TX5 k).2.2.1 = some (tyX5 k) := by decide +kernel
abbrev cX5_init : ByteArray := prog_7_method_1_code
def yX5_init : MethodName := ⟨RX5, "<init>", "(I)V"⟩
abbrev cX5_refresh : ByteArray := prog_7_method_2_code
def yX5_refresh : MethodName := ⟨RX5, "refresh", "(LLoopJudge$Setting;LLoopJudge$Judge;)V"⟩
abbrev cX5_endOf : ByteArray := prog_7_method_3_code
def yX5_endOf : MethodName := ⟨RX5, "endOf", "(II)I"⟩
abbrev cX5_isOf : ByteArray := prog_7_method_4_code
def yX5_isOf : MethodName := ⟨RX5, "isOf", "(LLoopJudge$Setting;)Z"⟩
abbrev cX5_collect : ByteArray := prog_7_method_5_code
def yX5_collect : MethodName := ⟨RX5, "collect", "(LLoopJudge$Setting;LLoopJudge$Judge;)V"⟩
abbrev cX5_addGain : ByteArray := prog_7_method_6_code
def yX5_addGain : MethodName := ⟨RX5, "addGain", "(I)V"⟩
abbrev cX5_orderByWidth : ByteArray := prog_7_method_7_code
def yX5_orderByWidth : MethodName := ⟨RX5, "orderByWidth", "()V"⟩
abbrev cX5_widthOf : ByteArray := prog_7_method_8_code
def yX5_widthOf : MethodName := ⟨RX5, "widthOf", "(I)I"⟩
def RX6 : String := "LoopJudge$Tape"
def TX6 : u_T := fun k => match k with
  | 0 => ("LoopJudge$Tape", "letters", "[B", true)
  | 1 => ("LoopJudge$Tape", "parts", "[I", true)
  | 2 => ("LoopJudge$Tape", "tellsQ", "Z", false)
  | 3 => ("LoopJudge$Tape", "size", "I", false)
  | 4 => ("LoopJudge$Tape", "place", "I", false)
  | 5 => ("LoopJudge$Tape", "figure", "I", false)
  | _ => ("LoopJudge$Tape", "power", "I", false)
def tyX6 : Nat → FieldType := fun k => match k with
  | 0 => .array .byte
  | 1 => .array .int
  | 2 => .boolean
  | 3 => .int
  | 4 => .int
  | 5 => .int
  | _ => .int
abbrev wsX60 : List Cond := u_ws RX6 TX6 7
theorem nmX6 : ∀ a, a < 7 → ∀ b, b < 7 → a ≠ b → (TX6 a).2.1 ≠ (TX6 b).2.1 := by decide +kernel
theorem tyX6_ok : ∀ k, k < 7 → parseFieldDescriptor (TX6 k).2.2.1 = some (tyX6 k) := by decide +kernel
abbrev cX6_init : ByteArray := prog_8_method_1_code
def yX6_init : MethodName := ⟨RX6, "<init>", "()V"⟩
abbrev cX6_append : ByteArray := prog_8_method_2_code
def yX6_append : MethodName := ⟨RX6, "append", "(I)Z"⟩
abbrev cX6_readText : ByteArray := prog_8_method_3_code
def yX6_readText : MethodName := ⟨RX6, "readText", "()I"⟩
abbrev cX6_readTerms : ByteArray := prog_8_method_4_code
def yX6_readTerms : MethodName := ⟨RX6, "readTerms", "(I)I"⟩
abbrev cX6_readTerm : ByteArray := prog_8_method_5_code
def yX6_readTerm : MethodName := ⟨RX6, "readTerm", "()Z"⟩
abbrev cX6_readPower : ByteArray := prog_8_method_6_code
def yX6_readPower : MethodName := ⟨RX6, "readPower", "()V"⟩
abbrev cX6_nextLetter : ByteArray := prog_8_method_7_code
def yX6_nextLetter : MethodName := ⟨RX6, "nextLetter", "()I"⟩
def RX7 : String := "LoopJudge"
def TX7 : u_T := fun k => match k with
  | 0 => ("LoopJudge", "now", "LLoopJudge$Setting;", true)
  | 1 => ("LoopJudge", "past", "LLoopJudge$Past;", true)
  | 2 => ("LoopJudge", "keptNow", "LLoopJudge$Setting;", true)
  | 3 => ("LoopJudge", "keptPast", "LLoopJudge$Past;", true)
  | 4 => ("LoopJudge", "kept", "Z", false)
  | 5 => ("LoopJudge", "tape", "LLoopJudge$Tape;", true)
  | 6 => ("LoopJudge", "shelf", "LLoopJudge$Shelf;", true)
  | 7 => ("LoopJudge", "judge", "LLoopJudge$Judge;", true)
  | 8 => ("LoopJudge", "axisSpans", "LLoopJudge$SpanBook;", true)
  | 9 => ("LoopJudge", "circleSpans", "LLoopJudge$SpanBook;", true)
  | _ => ("LoopJudge", "poly", "[J", true)
def tyX7 : Nat → FieldType := fun k => match k with
  | 0 => .object "LoopJudge$Setting"
  | 1 => .object "LoopJudge$Past"
  | 2 => .object "LoopJudge$Setting"
  | 3 => .object "LoopJudge$Past"
  | 4 => .boolean
  | 5 => .object "LoopJudge$Tape"
  | 6 => .object "LoopJudge$Shelf"
  | 7 => .object "LoopJudge$Judge"
  | 8 => .object "LoopJudge$SpanBook"
  | 9 => .object "LoopJudge$SpanBook"
  | _ => .array .long
abbrev wsX70 : List Cond := u_ws RX7 TX7 11
theorem nmX7 : ∀ a, a < 11 → ∀ b, b < 11 → a ≠ b → (TX7 a).2.1 ≠ (TX7 b).2.1 := by decide +kernel
theorem tyX7_ok : ∀ k, k < 11 → parseFieldDescriptor (TX7 k).2.2.1 = some (tyX7 k) := by decide +kernel
abbrev cX7_init : ByteArray := prog_1_method_1_code
def yX7_init : MethodName := ⟨RX7, "<init>", "()V"⟩
abbrev cX7_part : ByteArray := prog_1_method_2_code
def yX7_part : MethodName := ⟨RX7, "part", "(III)I"⟩
abbrev cX7_gain : ByteArray := prog_1_method_3_code
def yX7_gain : MethodName := ⟨RX7, "gain", "(I)I"⟩
abbrev cX7_told : ByteArray := prog_1_method_4_code
def yX7_told : MethodName := ⟨RX7, "told", "(II)I"⟩
abbrev cX7_count : ByteArray := prog_1_method_5_code
def yX7_count : MethodName := ⟨RX7, "count", "(I)I"⟩
abbrev cX7_roots : ByteArray := prog_1_method_6_code
def yX7_roots : MethodName := ⟨RX7, "roots", "(II)I"⟩
abbrev cX7_at : ByteArray := prog_1_method_7_code
def yX7_at : MethodName := ⟨RX7, "at", "(III)I"⟩
abbrev cX7_row : ByteArray := prog_1_method_8_code
def yX7_row : MethodName := ⟨RX7, "row", "(III)J"⟩
abbrev cX7_rows : ByteArray := prog_1_method_9_code
def yX7_rows : MethodName := ⟨RX7, "rows", "()I"⟩
abbrev cX7_span : ByteArray := prog_1_method_10_code
def yX7_span : MethodName := ⟨RX7, "span", "(III)I"⟩
abbrev cX7_widest : ByteArray := prog_1_method_11_code
def yX7_widest : MethodName := ⟨RX7, "widest", "(III)I"⟩
abbrev cX7_spans : ByteArray := prog_1_method_12_code
def yX7_spans : MethodName := ⟨RX7, "spans", "(II)I"⟩
abbrev cX7_corners : ByteArray := prog_1_method_13_code
def yX7_corners : MethodName := ⟨RX7, "corners", "(I)I"⟩
abbrev cX7_neighbours : ByteArray := prog_1_method_14_code
def yX7_neighbours : MethodName := ⟨RX7, "neighbours", "(I)I"⟩
abbrev cX7_off : ByteArray := prog_1_method_15_code
def yX7_off : MethodName := ⟨RX7, "off", "(II)I"⟩
abbrev cX7_type : ByteArray := prog_1_method_16_code
def yX7_type : MethodName := ⟨RX7, "type", "(I)I"⟩
abbrev cX7_read : ByteArray := prog_1_method_17_code
def yX7_read : MethodName := ⟨RX7, "read", "()I"⟩
abbrev cX7_drift : ByteArray := prog_1_method_18_code
def yX7_drift : MethodName := ⟨RX7, "drift", "(I)I"⟩
abbrev cX7_undo : ByteArray := prog_1_method_19_code
def yX7_undo : MethodName := ⟨RX7, "undo", "()I"⟩
abbrev cX7_seed : ByteArray := prog_1_method_20_code
def yX7_seed : MethodName := ⟨RX7, "seed", "(I)I"⟩
abbrev cX7_image : ByteArray := prog_1_method_21_code
def yX7_image : MethodName := ⟨RX7, "image", "()I"⟩
abbrev cX7_restore : ByteArray := prog_1_method_22_code
def yX7_restore : MethodName := ⟨RX7, "restore", "()I"⟩
abbrev cX7_judged : ByteArray := prog_1_method_23_code
def yX7_judged : MethodName := ⟨RX7, "judged", "(IIII)I"⟩
abbrev cX7_film : ByteArray := prog_1_method_24_code
def yX7_film : MethodName := ⟨RX7, "film", "(IIII)I"⟩
abbrev cX7_sheet : ByteArray := prog_1_method_25_code
def yX7_sheet : MethodName := ⟨RX7, "sheet", "(III)I"⟩
abbrev cX7_drop : ByteArray := prog_1_method_26_code
def yX7_drop : MethodName := ⟨RX7, "drop", "(I)I"⟩
abbrev cX7_item : ByteArray := prog_1_method_27_code
def yX7_item : MethodName := ⟨RX7, "item", "(IIIJ)I"⟩
abbrev cX7_copy : ByteArray := prog_1_method_28_code
def yX7_copy : MethodName := ⟨RX7, "copy", "(IIIII)I"⟩
abbrev cX7_countRoots : ByteArray := prog_1_method_29_code
def yX7_countRoots : MethodName := ⟨RX7, "countRoots", "(III)I"⟩
abbrev cX7_bookOf : ByteArray := prog_1_method_30_code
def yX7_bookOf : MethodName := ⟨RX7, "bookOf", "(I)LLoopJudge$SpanBook;"⟩
abbrev cX7_isChoice : ByteArray := prog_1_method_31_code
def yX7_isChoice : MethodName := ⟨RX7, "isChoice", "(II)Z"⟩
abbrev cX7_isPart : ByteArray := prog_1_method_32_code
def yX7_isPart : MethodName := ⟨RX7, "isPart", "(J)Z"⟩
abbrev cX7_isGain : ByteArray := prog_1_method_33_code
def yX7_isGain : MethodName := ⟨RX7, "isGain", "(I)Z"⟩
abbrev cX7_orNone : ByteArray := prog_1_method_34_code
def yX7_orNone : MethodName := ⟨RX7, "orNone", "(I)I"⟩
abbrev cX7_degreeOf : ByteArray := prog_1_method_35_code
def yX7_degreeOf : MethodName := ⟨RX7, "degreeOf", "([J)I"⟩
abbrev cX7_oddsOf : ByteArray := prog_1_method_36_code
def yX7_oddsOf : MethodName := ⟨RX7, "oddsOf", "(II)I"⟩
abbrev cX7_commonDivisor : ByteArray := prog_1_method_37_code
def yX7_commonDivisor : MethodName := ⟨RX7, "commonDivisor", "(JJ)J"⟩
abbrev cX7_cutTo : ByteArray := prog_1_method_38_code
def yX7_cutTo : MethodName := ⟨RX7, "cutTo", "(IJ)J"⟩
def RX8 : String := "LoopJudgeModel"
def TX8 : u_T := fun k => match k with
  | 0 => ("LoopJudgeModel", "st", "[I", true)
  | 1 => ("LoopJudgeModel", "past", "[I", true)
  | 2 => ("LoopJudgeModel", "acts", "I", false)
  | 3 => ("LoopJudgeModel", "image", "[I", true)
  | 4 => ("LoopJudgeModel", "imagePast", "[I", true)
  | 5 => ("LoopJudgeModel", "imageActs", "I", false)
  | 6 => ("LoopJudgeModel", "tape", "[I", true)
  | 7 => ("LoopJudgeModel", "tapeMany", "I", false)
  | 8 => ("LoopJudgeModel", "laneOf", "[I", true)
  | 9 => ("LoopJudgeModel", "sizeOf", "[I", true)
  | 10 => ("LoopJudgeModel", "items", "[J", true)
  | 11 => ("LoopJudgeModel", "p", "[J", true)
  | 12 => ("LoopJudgeModel", "right", "I", false)
  | 13 => ("LoopJudgeModel", "even", "I", false)
  | 14 => ("LoopJudgeModel", "left", "I", false)
  | 15 => ("LoopJudgeModel", "a", "[J", true)
  | 16 => ("LoopJudgeModel", "changes", "I", false)
  | 17 => ("LoopJudgeModel", "lastSign", "I", false)
  | 18 => ("LoopJudgeModel", "turned", "[J", true)
  | 19 => ("LoopJudgeModel", "product", "[J", true)
  | 20 => ("LoopJudgeModel", "rows", "[J", true)
  | 21 => ("LoopJudgeModel", "rowMany", "I", false)
  | 22 => ("LoopJudgeModel", "u", "[J", true)
  | 23 => ("LoopJudgeModel", "from", "[I", true)
  | 24 => ("LoopJudgeModel", "to", "[I", true)
  | 25 => ("LoopJudgeModel", "spanMany", "I", false)
  | 26 => ("LoopJudgeModel", "readAt", "I", false)
  | 27 => ("LoopJudgeModel", "isFault", "Z", false)
  | _ => ("LoopJudgeModel", "read", "[I", true)
def tyX8 : Nat → FieldType := fun k => match k with
  | 0 => .array .int
  | 1 => .array .int
  | 2 => .int
  | 3 => .array .int
  | 4 => .array .int
  | 5 => .int
  | 6 => .array .int
  | 7 => .int
  | 8 => .array .int
  | 9 => .array .int
  | 10 => .array .long
  | 11 => .array .long
  | 12 => .int
  | 13 => .int
  | 14 => .int
  | 15 => .array .long
  | 16 => .int
  | 17 => .int
  | 18 => .array .long
  | 19 => .array .long
  | 20 => .array .long
  | 21 => .int
  | 22 => .array .long
  | 23 => .array .int
  | 24 => .array .int
  | 25 => .int
  | 26 => .int
  | 27 => .boolean
  | _ => .array .int
abbrev wsX80 : List Cond := u_ws RX8 TX8 29
theorem nmX8 : ∀ a, a < 29 → ∀ b, b < 29 → a ≠ b → (TX8 a).2.1 ≠ (TX8 b).2.1 := by decide +kernel
theorem tyX8_ok : ∀ k, k < 29 → parseFieldDescriptor (TX8 k).2.2.1 = some (tyX8 k) := by decide +kernel
abbrev cX8_init : ByteArray := prog_10_method_1_code
def yX8_init : MethodName := ⟨RX8, "<init>", "()V"⟩
abbrev cX8_in : ByteArray := prog_10_method_2_code
def yX8_in : MethodName := ⟨RX8, "in", "(JJJ)Z"⟩
abbrev cX8_bring : ByteArray := prog_10_method_3_code
def yX8_bring : MethodName := ⟨RX8, "bring", "([II[III)V"⟩
abbrev cX8_notes : ByteArray := prog_10_method_4_code
def yX8_notes : MethodName := ⟨RX8, "notes", "()V"⟩
abbrev cX8_degree : ByteArray := prog_10_method_5_code
def yX8_degree : MethodName := ⟨RX8, "degree", "([JI)I"⟩
abbrev cX8_loops : ByteArray := prog_10_method_6_code
def yX8_loops : MethodName := ⟨RX8, "loops", "(I)V"⟩
abbrev cX8_sign : ByteArray := prog_10_method_7_code
def yX8_sign : MethodName := ⟨RX8, "sign", "(J)I"⟩
abbrev cX8_more : ByteArray := prog_10_method_8_code
def yX8_more : MethodName := ⟨RX8, "more", "(III)V"⟩
abbrev cX8_square : ByteArray := prog_10_method_9_code
def yX8_square : MethodName := ⟨RX8, "square", "(I)V"⟩
abbrev cX8_squares : ByteArray := prog_10_method_10_code
def yX8_squares : MethodName := ⟨RX8, "squares", "(JJJ)V"⟩
abbrev cX8_two : ByteArray := prog_10_method_11_code
def yX8_two : MethodName := ⟨RX8, "two", "(JJJ)V"⟩
abbrev cX8_passes : ByteArray := prog_10_method_12_code
def yX8_passes : MethodName := ⟨RX8, "passes", "(I)V"⟩
abbrev cX8_three : ByteArray := prog_10_method_13_code
def yX8_three : MethodName := ⟨RX8, "three", "(JJJJ)V"⟩
abbrev cX8_four : ByteArray := prog_10_method_14_code
def yX8_four : MethodName := ⟨RX8, "four", "()V"⟩
abbrev cX8_apart : ByteArray := prog_10_method_15_code
def yX8_apart : MethodName := ⟨RX8, "apart", "(I)V"⟩
abbrev cX8_counts : ByteArray := prog_10_method_16_code
def yX8_counts : MethodName := ⟨RX8, "counts", "()V"⟩
abbrev cX8_multiplies : ByteArray := prog_10_method_17_code
def yX8_multiplies : MethodName := ⟨RX8, "multiplies", "(I)V"⟩
abbrev cX8_turns : ByteArray := prog_10_method_18_code
def yX8_turns : MethodName := ⟨RX8, "turns", "(I)V"⟩
abbrev cX8_countsBy : ByteArray := prog_10_method_19_code
def yX8_countsBy : MethodName := ⟨RX8, "countsBy", "(I)I"⟩
abbrev cX8_isSteady : ByteArray := prog_10_method_20_code
def yX8_isSteady : MethodName := ⟨RX8, "isSteady", "(I)Z"⟩
abbrev cX8_isPart : ByteArray := prog_10_method_21_code
def yX8_isPart : MethodName := ⟨RX8, "isPart", "(II)Z"⟩
abbrev cX8_part : ByteArray := prog_10_method_22_code
def yX8_part : MethodName := ⟨RX8, "part", "(III)I"⟩
abbrev cX8_isGain : ByteArray := prog_10_method_23_code
def yX8_isGain : MethodName := ⟨RX8, "isGain", "(I)Z"⟩
abbrev cX8_gain : ByteArray := prog_10_method_24_code
def yX8_gain : MethodName := ⟨RX8, "gain", "(I)I"⟩
abbrev cX8_told : ByteArray := prog_10_method_25_code
def yX8_told : MethodName := ⟨RX8, "told", "(II)I"⟩
abbrev cX8_degreeOf : ByteArray := prog_10_method_26_code
def yX8_degreeOf : MethodName := ⟨RX8, "degreeOf", "(I)I"⟩
abbrev cX8_count : ByteArray := prog_10_method_27_code
def yX8_count : MethodName := ⟨RX8, "count", "(I)I"⟩
abbrev cX8_roots : ByteArray := prog_10_method_28_code
def yX8_roots : MethodName := ⟨RX8, "roots", "(II)I"⟩
abbrev cX8_at : ByteArray := prog_10_method_29_code
def yX8_at : MethodName := ⟨RX8, "at", "(III)I"⟩
abbrev cX8_divisor : ByteArray := prog_10_method_30_code
def yX8_divisor : MethodName := ⟨RX8, "divisor", "(JJ)J"⟩
abbrev cX8_shortens : ByteArray := prog_10_method_31_code
def yX8_shortens : MethodName := ⟨RX8, "shortens", "()V"⟩
abbrev cX8_divides : ByteArray := prog_10_method_32_code
def yX8_divides : MethodName := ⟨RX8, "divides", "(I)V"⟩
abbrev cX8_addsRow : ByteArray := prog_10_method_33_code
def yX8_addsRow : MethodName := ⟨RX8, "addsRow", "()V"⟩
abbrev cX8_laysRows : ByteArray := prog_10_method_34_code
def yX8_laysRows : MethodName := ⟨RX8, "laysRows", "()V"⟩
abbrev cX8_row : ByteArray := prog_10_method_35_code
def yX8_row : MethodName := ⟨RX8, "row", "(III)J"⟩
abbrev cX8_rows : ByteArray := prog_10_method_36_code
def yX8_rows : MethodName := ⟨RX8, "rows", "()I"⟩
abbrev cX8_laysSpans : ByteArray := prog_10_method_37_code
def yX8_laysSpans : MethodName := ⟨RX8, "laysSpans", "(I)I"⟩
abbrev cX8_isAsk : ByteArray := prog_10_method_38_code
def yX8_isAsk : MethodName := ⟨RX8, "isAsk", "(III)Z"⟩
abbrev cX8_span : ByteArray := prog_10_method_39_code
def yX8_span : MethodName := ⟨RX8, "span", "(III)I"⟩
abbrev cX8_widest : ByteArray := prog_10_method_40_code
def yX8_widest : MethodName := ⟨RX8, "widest", "(III)I"⟩
abbrev cX8_spans : ByteArray := prog_10_method_41_code
def yX8_spans : MethodName := ⟨RX8, "spans", "(II)I"⟩
abbrev cX8_corners : ByteArray := prog_10_method_42_code
def yX8_corners : MethodName := ⟨RX8, "corners", "(I)I"⟩
abbrev cX8_neighbours : ByteArray := prog_10_method_43_code
def yX8_neighbours : MethodName := ⟨RX8, "neighbours", "(I)I"⟩
abbrev cX8_off : ByteArray := prog_10_method_44_code
def yX8_off : MethodName := ⟨RX8, "off", "(II)I"⟩
abbrev cX8_type : ByteArray := prog_10_method_45_code
def yX8_type : MethodName := ⟨RX8, "type", "(I)I"⟩
abbrev cX8_looks : ByteArray := prog_10_method_46_code
def yX8_looks : MethodName := ⟨RX8, "looks", "()I"⟩
abbrev cX8_goesBy : ByteArray := prog_10_method_47_code
def yX8_goesBy : MethodName := ⟨RX8, "goesBy", "(Z)Z"⟩
abbrev cX8_term : ByteArray := prog_10_method_48_code
def yX8_term : MethodName := ⟨RX8, "term", "(III)I"⟩
abbrev cX8_terms : ByteArray := prog_10_method_49_code
def yX8_terms : MethodName := ⟨RX8, "terms", "(I)V"⟩
abbrev cX8_read : ByteArray := prog_10_method_50_code
def yX8_read : MethodName := ⟨RX8, "read", "()I"⟩
abbrev cX8_drift : ByteArray := prog_10_method_51_code
def yX8_drift : MethodName := ⟨RX8, "drift", "(I)I"⟩
abbrev cX8_undo : ByteArray := prog_10_method_52_code
def yX8_undo : MethodName := ⟨RX8, "undo", "()I"⟩
abbrev cX8_seed : ByteArray := prog_10_method_53_code
def yX8_seed : MethodName := ⟨RX8, "seed", "(I)I"⟩
abbrev cX8_image : ByteArray := prog_10_method_54_code
def yX8_image : MethodName := ⟨RX8, "image", "()I"⟩
abbrev cX8_restore : ByteArray := prog_10_method_55_code
def yX8_restore : MethodName := ⟨RX8, "restore", "()I"⟩
abbrev cX8_isSheet : ByteArray := prog_10_method_56_code
def yX8_isSheet : MethodName := ⟨RX8, "isSheet", "(II)Z"⟩
abbrev cX8_found : ByteArray := prog_10_method_57_code
def yX8_found : MethodName := ⟨RX8, "found", "(IIII)I"⟩
abbrev cX8_judged : ByteArray := prog_10_method_58_code
def yX8_judged : MethodName := ⟨RX8, "judged", "(IIII)I"⟩
abbrev cX8_film : ByteArray := prog_10_method_59_code
def yX8_film : MethodName := ⟨RX8, "film", "(IIII)I"⟩
abbrev cX8_lowest : ByteArray := prog_10_method_60_code
def yX8_lowest : MethodName := ⟨RX8, "lowest", "(JI)J"⟩
abbrev cX8_sheet : ByteArray := prog_10_method_61_code
def yX8_sheet : MethodName := ⟨RX8, "sheet", "(III)I"⟩
abbrev cX8_drop : ByteArray := prog_10_method_62_code
def yX8_drop : MethodName := ⟨RX8, "drop", "(I)I"⟩
abbrev cX8_item : ByteArray := prog_10_method_63_code
def yX8_item : MethodName := ⟨RX8, "item", "(IIIJ)I"⟩
abbrev cX8_copy : ByteArray := prog_10_method_64_code
def yX8_copy : MethodName := ⟨RX8, "copy", "(IIIII)I"⟩
def RJ6 : String := "java/lang/Integer"
def TJ6 : u_T := fun k => match k with
  | _ => ("", "", "", false)
def tyJ6 : Nat → FieldType := fun k => match k with
  | _ => .int
abbrev wsJ60 : List Cond := u_ws RJ6 TJ6 0
theorem nmJ6 : ∀ a, a < 0 → ∀ b, b < 0 → a ≠ b → (TJ6 a).2.1 ≠ (TJ6 b).2.1 := by decide +kernel
theorem tyJ6_ok : ∀ k, k < 0 → parseFieldDescriptor (TJ6 k).2.2.1 = some (tyJ6 k) := by decide +kernel
abbrev cJ6_bitCount_0f7a4 : ByteArray := prog_11_method_49_code
def yJ6_bitCount_0f7a4 : MethodName := ⟨RJ6, "bitCount", "(I)I"⟩
def RJ9 : String := "java/lang/Math"
def TJ9 : u_T := fun k => match k with
  | _ => ("", "", "", false)
def tyJ9 : Nat → FieldType := fun k => match k with
  | _ => .int
abbrev wsJ90 : List Cond := u_ws RJ9 TJ9 0
theorem nmJ9 : ∀ a, a < 0 → ∀ b, b < 0 → a ≠ b → (TJ9 a).2.1 ≠ (TJ9 b).2.1 := by decide +kernel
theorem tyJ9_ok : ∀ k, k < 0 → parseFieldDescriptor (TJ9 k).2.2.1 = some (tyJ9 k) := by decide +kernel
abbrev cJ9_abs_067f4 : ByteArray := prog_12_method_61_code
def yJ9_abs_067f4 : MethodName := ⟨RJ9, "abs", "(J)J"⟩
def RJ10 : String := "java/lang/System"
def TJ10 : u_T := fun k => match k with
  | _ => ("", "", "", false)
def tyJ10 : Nat → FieldType := fun k => match k with
  | _ => .int
abbrev wsJ100 : List Cond := u_ws RJ10 TJ10 0
theorem nmJ10 : ∀ a, a < 0 → ∀ b, b < 0 → a ≠ b → (TJ10 a).2.1 ≠ (TJ10 b).2.1 := by decide +kernel
theorem tyJ10_ok : ∀ k, k < 0 → parseFieldDescriptor (TJ10 k).2.2.1 = some (tyJ10 k) := by decide +kernel
def RJ7 : String := "java/util/Arrays"
def TJ7 : u_T := fun k => match k with
  | _ => ("", "", "", false)
def tyJ7 : Nat → FieldType := fun k => match k with
  | _ => .int
abbrev wsJ70 : List Cond := u_ws RJ7 TJ7 0
theorem nmJ7 : ∀ a, a < 0 → ∀ b, b < 0 → a ≠ b → (TJ7 a).2.1 ≠ (TJ7 b).2.1 := by decide +kernel
theorem tyJ7_ok : ∀ k, k < 0 → parseFieldDescriptor (TJ7 k).2.2.1 = some (tyJ7 k) := by decide +kernel
abbrev cJ7_fill_d0a16 : ByteArray := prog_14_method_101_code
def yJ7_fill_d0a16 : MethodName := ⟨RJ7, "fill", "([JJ)V"⟩
abbrev cJ7_fill_53178 : ByteArray := prog_14_method_103_code
def yJ7_fill_53178 : MethodName := ⟨RJ7, "fill", "([II)V"⟩
def RL : String := "LoopJudgeLaw"
abbrev cL_law : ByteArray := code
def yL_law : MethodName := ⟨RL, "law", "([I)Z"⟩
abbrev vwCl : List vw_C := [(RX0, TX0, 3), (RX1, TX1, 5), (RX2, TX2, 3), (RX3, TX3, 3), (RX4, TX4, 3), (RX5, TX5, 9), (RX6, TX6, 7), (RX7, TX7, 11), (RX8, TX8, 29)]
end
section
/-! ===== the small machine: handles instead of addresses, a heap that is a function of handles ===== -/
def TB : List Cond := lw_tbl.filter goodWord
theorem tb_of {w : Cond} (h : w ∈ lw_tbl) (g : goodWord w = true) : w ∈ TB := List.mem_filter.mpr ⟨h, g⟩
theorem tb_in {w : Cond} (h : w ∈ TB) : w ∈ lw_tbl := (List.mem_filter.mp h).1
theorem tb_good {w : Cond} (h : w ∈ TB) : (w.onTables && w.keeps) = true ∨ ∃ ty, w = .arrayClass ty := good_of_word (List.mem_filter.mp h).2
abbrev mE : Type := (FieldType × vp_A) ⊕ (Nat × (Nat → Value))
abbrev mHp : Type := Nat → mE
/-- an array of ints, of longs, of bytes, of references -/
abbrev eI (n : Nat) (f : Nat → Int32) : mE := .inl (.int, n, .inl f)
abbrev eB (n : Nat) (f : Nat → Int32) : mE := .inl (.byte, n, .inl f)
abbrev eL (n : Nat) (f : Nat → Int64) : mE := .inl (.long, n, .inr (.inl f))
abbrev eR (ty : FieldType) (n : Nat) (f : Nat → Option Nat) : mE := .inl (ty, n, .inr (.inr (.inr (.inr f))))
abbrev eO (ci : Nat) (f : Nat → Value) : mE := .inr (ci, f)
/-- handles from here on stand for cells that are not the system's: the script, a static array -/
def mSC : Nat := 1000000
def mJ : mE := .inr (99, fun _ => .null)
def mv (ad : Nat → Nat) (v : Value) : Value := match v with
  | .ref h => .ref (ad h)
  | w => w
def mA (ad : Nat → Nat) (a : vp_A) : vp_A := match a with
  | (n, .inr (.inr (.inr (.inr f)))) => (n, .inr (.inr (.inr (.inr (fun i => (f i).map ad)))))
  | b => b
def mN (ci : Nat) : Nat := match vwCl[ci]? with
  | some q => q.2.2
  | none => 0
def mcell (dA : FieldType → ClassId) (ad : Nat → Nat) (c : mE) : va_E := match c with
  | .inl a => .inl (dA a.1, mA ad a.2)
  | .inr o => .inr (o.1, (List.range (mN o.1)).map fun k => mv ad (o.2 k))
def mws (dA : FieldType → ClassId) (ad : Nat → Nat) (n : Nat) (hp : mHp) : va_W := (List.range n).map fun h => (ad h, mcell dA ad (hp h))
theorem mws_at {dA : FieldType → ClassId} {ad : Nat → Nat} {n : Nat} {hp : mHp} {h : Nat} (hl : h < n) : (mws dA ad n hp)[h]? = some (ad h, mcell dA ad (hp h)) := by
  unfold mws
  rw [List.getElem?_map, List.getElem?_range hl]
  rfl
theorem mws_no {dA : FieldType → ClassId} {ad : Nat → Nat} {n : Nat} {hp : mHp} {h : Nat} (hl : ¬ h < n) : (mws dA ad n hp)[h]? = none := by
  apply List.getElem?_eq_none
  unfold mws
  rw [List.length_map, List.length_range]
  omega
theorem mws_len {dA : FieldType → ClassId} {ad : Nat → Nat} {n : Nat} {hp : mHp} : (mws dA ad n hp).length = n := by
  unfold mws
  rw [List.length_map, List.length_range]
theorem mws_set {dA : FieldType → ClassId} {ad : Nat → Nat} {n : Nat} {hp : mHp} {h : Nat} {c : mE} : (mws dA ad n hp).set h (ad h, mcell dA ad c) = mws dA ad n (va_up hp h c) := by
  apply List.ext_getElem?
  intro i
  rw [List.getElem?_set, mws_len]
  by_cases hi : i < n
  · rw [mws_at hi, mws_at hi]
    by_cases e : h = i
    · subst e
      rw [if_pos rfl, if_pos hi, va_up_self]
    · rw [if_neg e, va_up_ne _ _ (fun q => e q.symm)]
  · rw [mws_no hi, mws_no hi]
    by_cases e : h = i
    · subst e
      rw [if_pos rfl, if_neg hi]
    · rw [if_neg e]
theorem mws_push {dA : FieldType → ClassId} {ad : Nat → Nat} {n : Nat} {hp : mHp} {c : mE} : mws dA ad n hp ++ [(ad n, mcell dA ad c)] = mws dA ad (n + 1) (va_up hp n c) := by
  unfold mws
  rw [List.range_succ, List.map_append]
  congr 1
  · apply List.map_congr_left
    intro a ha
    rw [va_up_ne _ _ (Nat.ne_of_lt (List.mem_range.mp ha))]
  · rw [List.map_singleton, va_up_self]
abbrev mK : Type := (Program × Launch × Env × Room × State × MethodId) × (Array Value × List Frame × Method × Code) × (va_G × (FieldType → ClassId) × (Nat → Nat) × Nat) × (State → Prop)
/-- a method: its class, name, code, locals, what it returns; its level, how many cells and slots it makes -/
abbrev MD : Type := String × MethodName × ByteArray × Nat × Option FieldType × Nat × Nat × Nat
abbrev dOwn (M : MD) : String := M.1
abbrev dY (M : MD) : MethodName := M.2.1
abbrev dC (M : MD) : ByteArray := M.2.2.1
abbrev dL (M : MD) : Nat := M.2.2.2.1
abbrev dR (M : MD) : Option FieldType := M.2.2.2.2.1
abbrev dV (M : MD) : Nat := M.2.2.2.2.2.1
abbrev dMc (M : MD) : Nat := M.2.2.2.2.2.2.1
abbrev dMs (M : MD) : Nat := M.2.2.2.2.2.2.2
def mRm (v mc ms : Nat) : Room := { frames := v, cells := mc, slots := ms, locals := 40 * v }
/-- the static array's places -/
def mCS : List Int32 := [-1, -1, 1, 1, -1, 1, 1, -1, -1, 1, -1, 1, 1, -1, -1, 1, -1, -1, 1, 1]
abbrev tyS : FieldType := .object "LoopJudge$Setting"
abbrev tyJJ : FieldType := .array .long
abbrev mty (dA : FieldType → ClassId) : List (ClassId × FieldType) := [(dA .int, .int), (dA .long, .long), (dA .byte, .byte), (dA tyJJ, tyJJ), (dA tyS, tyS)]
abbrev mAc (base : Nat) : Nat → Prop := fun q => base ≤ q
def mAOA (U : State) : Prop := (Cond.arrayOver (.array .long)).before #[] U = true
/-- words that are not among the tables' good ones, and the static array -/
def mEnv (ad : Nat → Nat) (base : Nat) (U : State) (H : Heap) : Prop :=
  (va_Nw (.methodLinkNest RX0 24 yX7_degreeOf RX7) U ∧ va_Nw (.methodLinkNest RX0 59 yX7_commonDivisor RX7) U ∧ va_Nw (.methodLinkNest RX1 42 yX7_degreeOf RX7) U ∧ va_Nw (.methodLinkNest RX4 37 yX7_isPart RX7) U) ∧ va_AO "LoopJudge$Setting" U ∧ mAOA U ∧
  va_Z "LoopJudge" "CORNER_SIDES" "[I" (.ref (ad (mSC + 1))) (mAc base) U H ∧ va_T .int (ad (mSC + 1)) 20 (fun j => .int (mCS.getD j 0)) (mAc base) U H
def mOk (K : mK) (M : MD) : Prop :=
  K.1.1.tables.exec = Jvm.exec ∧ K.2.1.2.2.2.code = dC M ∧ K.2.1.2.2.2.maxLocals = dL M ∧ K.1.2.2.2.2.1.vm.findClass (dOwn M) = some K.1.2.2.2.2.2.cls ∧ (∀ w ∈ TB, w.before K.2.1.1 K.1.2.2.2.2.1 = true) ∧
  va_K K.2.2.1.1 vwCl (mty K.2.2.1.2.1) K.1.2.2.2.2.1 ∧ K.2.2.1.2.2.2 ≤ K.1.2.2.2.2.1.heap.size ∧ (∀ h, h < mSC → K.2.2.1.2.2.1 h = K.2.2.1.2.2.2 + h) ∧ mEnv K.2.2.1.2.2.1 K.2.2.1.2.2.2 K.1.2.2.2.2.1 K.1.2.2.2.2.1.heap ∧ K.1.2.2.2.1 = mRm (dV M) (dMc M) (dMs M)
def mRel (K : mK) (cs n : Nat) (hp : mHp) (H : Heap) (locs : List Loc) : Prop :=
  va_P K.2.2.1.1 vwCl (mws K.2.2.1.2.1 K.2.2.1.2.2.1 n hp) H ∧ K.2.2.1.2.2.2 + n = K.1.2.2.2.2.1.heap.size + cs ∧ va_S (mAc K.2.2.1.2.2.2) K.1.2.2.2.2.1.heap H locs ∧ (∀ h, n ≤ h → hp h = mJ) ∧ n ≤ mSC
/-- the known locals: what isn't known is a .retAddr -/
def mlv (ad : Nat → Nat) (lv : List Value) : List (Nat × Value) := lv.zipIdx.filterMap fun q => match q.1 with
  | .retAddr _ => none
  | v => some (q.2, mv ad v)
def mW (K : mK) (M : MD) (cells slots n : Nat) (hp : mHp) (pc : Nat) (lv st : List Value) : Prop :=
  mOk K M → ∀ (H : Heap) (locs : List Loc) (ls : Array Slot), mRel K cells n hp H locs → lv_has ls (dL M) (mlv K.2.2.1.2.2.1 lv) →
    W K.1.1 K.1.2.1 K.1.2.2.1 K.1.2.2.2.1 K.1.2.2.2.2.1 K.1.2.2.2.2.2 K.2.1.1 K.2.1.2.1 K.2.1.2.2.1 K.2.1.2.2.2 H locs cells slots K.2.2.2 (F0 K.1.2.2.2.2.2 pc ls (st.map (mv K.2.2.1.2.2.1)))
theorem mlv_mem {ad : Nat → Nat} {lv : List Value} {i : Nat} {v : Value} (h : lv[i]? = some v) (hv : ∀ k, v ≠ .retAddr k) : (i, mv ad v) ∈ mlv ad lv := by
  unfold mlv
  refine List.mem_filterMap.mpr ⟨(v, i), List.mem_of_getElem? (i := i) ?_, ?_⟩
  · rw [List.getElem?_zipIdx, h]
    simp
  · cases v <;> first | rfl | exact absurd rfl (hv _)
theorem mlv_of {ad : Nat → Nat} {lv : List Value} {i : Nat} {w : Value} (h : (i, w) ∈ mlv ad lv) : ∃ v, lv[i]? = some v ∧ (∀ k, v ≠ .retAddr k) ∧ w = mv ad v := by
  unfold mlv at h
  obtain ⟨⟨v, j⟩, h1, h2⟩ := List.mem_filterMap.mp h
  obtain ⟨k, hk⟩ := List.getElem?_of_mem h1
  rw [List.getElem?_zipIdx] at hk
  cases hv : lv[k]? with
  | none => rw [hv] at hk; cases hk
  | some u =>
    rw [hv] at hk
    simp at hk
    obtain ⟨rfl, rfl⟩ := hk
    cases u <;> first | (simp at h2; obtain ⟨rfl, rfl⟩ := h2; exact ⟨_, hv, fun k q => (by cases q), rfl⟩) | (simp at h2)
theorem mls_at {ad : Nat → Nat} {nL : Nat} {ls : Array Slot} {lv : List Value} (h : lv_has ls nL (mlv ad lv)) {i : Nat} {v : Value} (hv : lv[i]? = some v) (hn : ∀ k, v ≠ .retAddr k) : ls[i]? = some (.val (mv ad v)) := h.2.2 _ (mlv_mem hv hn)
/-- a store: an older long's first half is lost where its second one is written -/
def mst (lv : List Value) (i : Nat) (v : Value) : List Value := match i with
  | 0 => lv.set 0 v
  | k + 1 => match lv[k]? with
    | some (.long _) => (lv.set (k + 1) v).set k (.retAddr 0)
    | some (.double _) => (lv.set (k + 1) v).set k (.retAddr 0)
    | _ => lv.set (k + 1) v
def mst2 (lv : List Value) (i : Nat) (v : Value) : List Value := (mst lv i v).set (i + 1) (.retAddr 0)
theorem mv_cat (ad : Nat → Nat) (v : Value) : (mv ad v).category = v.category := by cases v <;> rfl
theorem mst_get {lv : List Value} {i : Nat} {v u : Value} {j : Nat} (h : (mst lv i v)[j]? = some u) (hu : ∀ k, u ≠ .retAddr k) : (j = i ∧ u = v) ∨ (j ≠ i ∧ lv[j]? = some u ∧ ¬ (j + 1 = i ∧ u.category = 2)) := by
  unfold mst at h
  cases i with
  | zero =>
    dsimp only at h
    rw [List.getElem?_set] at h
    by_cases e : 0 = j
    · rw [if_pos e] at h
      split at h
      · exact Or.inl ⟨e.symm, (Option.some.inj h).symm⟩
      · cases h
    · rw [if_neg e] at h
      exact Or.inr ⟨fun q => e q.symm, h, fun q => by omega⟩
  | succ k =>
    dsimp only at h
    have base : ∀ z : Option Value, (lv.set (k + 1) v)[j]? = some u → lv[k]? = z → (∀ x, z = some x → x.category ≠ 2) → (j = k + 1 ∧ u = v) ∨ (j ≠ k + 1 ∧ lv[j]? = some u ∧ ¬ (j + 1 = k + 1 ∧ u.category = 2)) := by
      intro z h0 hz hc
      rw [List.getElem?_set] at h0
      by_cases e : k + 1 = j
      · rw [if_pos e] at h0
        split at h0
        · exact Or.inl ⟨e.symm, (Option.some.inj h0).symm⟩
        · cases h0
      · rw [if_neg e] at h0
        refine Or.inr ⟨fun q => e q.symm, h0, fun q => ?_⟩
        have e2 : j = k := by omega
        rw [e2] at h0
        exact hc u (by rw [← hz, h0]) q.2
    have two : ((lv.set (k + 1) v).set k (.retAddr 0))[j]? = some u → (j = k + 1 ∧ u = v) ∨ (j ≠ k + 1 ∧ lv[j]? = some u ∧ ¬ (j + 1 = k + 1 ∧ u.category = 2)) := by
      intro h0
      rw [List.getElem?_set] at h0
      by_cases e : k = j
      · rw [if_pos e] at h0
        split at h0
        · exact absurd (Option.some.inj h0).symm (hu 0)
        · cases h0
      · rw [if_neg e, List.getElem?_set] at h0
        by_cases e1 : k + 1 = j
        · rw [if_pos e1] at h0
          split at h0
          · exact Or.inl ⟨e1.symm, (Option.some.inj h0).symm⟩
          · cases h0
        · rw [if_neg e1] at h0
          exact Or.inr ⟨fun q => e1 q.symm, h0, fun q => by omega⟩
    cases hz : lv[k]? with
    | none =>
      rw [hz] at h
      exact base _ h hz (fun x q => by cases q)
    | some z =>
      rw [hz] at h
      cases z with
      | long _ => exact two h
      | double _ => exact two h
      | int _ => exact base _ h hz (fun x q => by cases q; simp [Value.category])
      | float _ => exact base _ h hz (fun x q => by cases q; simp [Value.category])
      | null => exact base _ h hz (fun x q => by cases q; simp [Value.category])
      | ref _ => exact base _ h hz (fun x q => by cases q; simp [Value.category])
      | retAddr _ => exact base _ h hz (fun x q => by cases q; simp [Value.category])
theorem mls_st {ad : Nat → Nat} {nL i : Nat} {ls : Array Slot} {lv : List Value} {v : Value} (h : lv_has ls nL ((i, mv ad v) :: (mlv ad lv).filter (fun q => !(q.1 == i) && !(q.1 + 1 == i && q.2.category == 2)))) : lv_has ls nL (mlv ad (mst lv i v)) := by
  refine ⟨h.1, h.2.1, fun q hq => h.2.2 q ?_⟩
  obtain ⟨j, w⟩ := q
  obtain ⟨u, h1, h2, rfl⟩ := mlv_of hq
  rcases mst_get h1 h2 with ⟨rfl, rfl⟩ | ⟨hj, h3, h4⟩
  · exact List.mem_cons_self
  · refine List.mem_cons_of_mem _ (List.mem_filter.mpr ⟨mlv_mem h3 h2, ?_⟩)
    rw [mv_cat]
    simp only [Bool.and_eq_true, Bool.not_eq_true', beq_eq_false_iff_ne, ne_eq, Bool.and_eq_false_iff]
    refine ⟨hj, ?_⟩
    by_cases e : j + 1 = i
    · exact Or.inr (fun q => h4 ⟨e, q⟩)
    · exact Or.inl e
theorem mls_st2 {ad : Nat → Nat} {nL i : Nat} {ls : Array Slot} {lv : List Value} {v : Value} (h : lv_has ls nL ((i, mv ad v) :: (mlv ad lv).filter (fun q => !(q.1 == i) && (!(q.1 == i + 1) && !(q.1 + 1 == i && q.2.category == 2))))) : lv_has ls nL (mlv ad (mst2 lv i v)) := by
  refine ⟨h.1, h.2.1, fun q hq => h.2.2 q ?_⟩
  obtain ⟨j, w⟩ := q
  obtain ⟨u, h1, h2, rfl⟩ := mlv_of hq
  unfold mst2 at h1
  rw [List.getElem?_set] at h1
  by_cases e1 : i + 1 = j
  · rw [if_pos e1] at h1
    split at h1
    · exact absurd (Option.some.inj h1).symm (h2 0)
    · cases h1
  · rw [if_neg e1] at h1
    rcases mst_get h1 h2 with ⟨rfl, rfl⟩ | ⟨hj, h3, h4⟩
    · exact List.mem_cons_self
    · refine List.mem_cons_of_mem _ (List.mem_filter.mpr ⟨mlv_mem h3 h2, ?_⟩)
      rw [mv_cat]
      simp only [Bool.and_eq_true, Bool.not_eq_true', beq_eq_false_iff_ne, ne_eq, Bool.and_eq_false_iff]
      refine ⟨hj, fun q => e1 q.symm, ?_⟩
      by_cases e : j + 1 = i
      · exact Or.inr (fun q => h4 ⟨e, q⟩)
      · exact Or.inl e
end
section
section MR
variable {K : mK} {M : MD} {cs sl n : Nat} {hp : mHp} {pc : Nat} {lv st : List Value}
theorem m_iconst {z : Int} {v : Int32} (hd : decode (dC M) pc = .ok (.iconst z, 1)) (hv : Int32.ofInt z = v) (kk : mW K M cs sl n hp (pc + 1) lv (.int v :: st)) : mW K M cs sl n hp pc lv (st) := fun hk H locs ls hR hl => lv_iconst hk.1 hk.2.1 hd hv (kk hk H locs ls hR hl)
theorem m_bipush {z : Int} {v : Int32} (hd : decode (dC M) pc = .ok (.bipush z, 2)) (hv : (Int8.ofInt z).toInt32 = v) (kk : mW K M cs sl n hp (pc + 2) lv (.int v :: st)) : mW K M cs sl n hp pc lv (st) := fun hk H locs ls hR hl => lv_bipush hk.1 hk.2.1 hd hv (kk hk H locs ls hR hl)
theorem m_sipush {z : Int} {v : Int32} (hd : decode (dC M) pc = .ok (.sipush z, 3)) (hv : (Int16.ofInt z).toInt32 = v) (kk : mW K M cs sl n hp (pc + 3) lv (.int v :: st)) : mW K M cs sl n hp pc lv (st) := fun hk H locs ls hR hl => lv_sipush hk.1 hk.2.1 hd hv (kk hk H locs ls hR hl)
theorem m_lconst {z : Fin 2} {v : Int64} (hd : decode (dC M) pc = .ok (.lconst z, 1)) (hv : Int64.ofNat (z : Nat) = v) (kk : mW K M cs sl n hp (pc + 1) lv (.long v :: st)) : mW K M cs sl n hp pc lv (st) := fun hk H locs ls hR hl => lv_lconst hk.1 hk.2.1 hd hv (kk hk H locs ls hR hl)
theorem m_ldc {ix : Nat} {v : Int32} (hd : decode (dC M) pc = .ok (.ldc ix, 2)) (hc : Cond.constant (dOwn M) ix v ∈ TB) (kk : mW K M cs sl n hp (pc + 2) lv (.int v :: st)) : mW K M cs sl n hp pc lv (st) := fun hk H locs ls hR hl => lv_ldc hk.1 hk.2.1 hk.2.2.2.1 (hk.2.2.2.2.1 _ hc) hd (kk hk H locs ls hR hl)
theorem m_ldcw {ix : Nat} {v : Int32} (hd : decode (dC M) pc = .ok (.ldc_w ix, 3)) (hc : Cond.constant (dOwn M) ix v ∈ TB) (kk : mW K M cs sl n hp (pc + 3) lv (.int v :: st)) : mW K M cs sl n hp pc lv (st) := fun hk H locs ls hR hl => lv_ldcw hk.1 hk.2.1 hk.2.2.2.1 (hk.2.2.2.2.1 _ hc) hd (kk hk H locs ls hR hl)
theorem m_ldc2 {ix : Nat} {v : Int64} (hd : decode (dC M) pc = .ok (.ldc2_w ix, 3)) (hc : Cond.constantLong (dOwn M) ix v ∈ TB) (kk : mW K M cs sl n hp (pc + 3) lv (.long v :: st)) : mW K M cs sl n hp pc lv (st) := fun hk H locs ls hR hl => lv_ldc2 hk.1 hk.2.1 hk.2.2.2.1 (hk.2.2.2.2.1 _ hc) hd (kk hk H locs ls hR hl)
theorem m_iload_n {k : Fin 4} {x : Int32} (hd : decode (dC M) pc = .ok (.iload_n k, 1)) (hv : lv[(k : Nat)]? = some (.int x)) (kk : mW K M cs sl n hp (pc + 1) lv (.int x :: st)) : mW K M cs sl n hp pc lv (st) := fun hk H locs ls hR hl => lv_iload_n hk.1 hk.2.1 hd rfl (mls_at hl hv (fun _ q => by cases q)) (kk hk H locs ls hR hl)
theorem m_iload {k : Nat} {x : Int32} (hd : decode (dC M) pc = .ok (.iload k, 2)) (hv : lv[k]? = some (.int x)) (kk : mW K M cs sl n hp (pc + 2) lv (.int x :: st)) : mW K M cs sl n hp pc lv (st) := fun hk H locs ls hR hl => lv_iload hk.1 hk.2.1 hd (mls_at hl hv (fun _ q => by cases q)) (kk hk H locs ls hR hl)
theorem m_istore_n {k : Fin 4} {x : Int32} (hd : decode (dC M) pc = .ok (.istore_n k, 1)) (hn : (k : Nat) < dL M) (kk : mW K M cs sl n hp (pc + 1) (mst lv (k : Nat) (.int x)) st) : mW K M cs sl n hp pc lv (.int x :: st) := fun hk H locs ls hR hl => lv_istore_n hk.1 hk.2.1 hd rfl hl hn rfl (fun ls' hl' => kk hk H locs ls' hR (mls_st (v := .int x) hl'))
theorem m_istore {k : Nat} {x : Int32} (hd : decode (dC M) pc = .ok (.istore k, 2)) (hn : k < dL M) (kk : mW K M cs sl n hp (pc + 2) (mst lv k (.int x)) st) : mW K M cs sl n hp pc lv (.int x :: st) := fun hk H locs ls hR hl => lv_istore hk.1 hk.2.1 hd hl hn rfl (fun ls' hl' => kk hk H locs ls' hR (mls_st (v := .int x) hl'))
theorem m_lload_n {k : Fin 4} {x : Int64} (hd : decode (dC M) pc = .ok (.lload_n k, 1)) (hv : lv[(k : Nat)]? = some (.long x)) (kk : mW K M cs sl n hp (pc + 1) lv (.long x :: st)) : mW K M cs sl n hp pc lv (st) := fun hk H locs ls hR hl => lv_lload_n hk.1 hk.2.1 hd rfl (mls_at hl hv (fun _ q => by cases q)) (kk hk H locs ls hR hl)
theorem m_lload {k : Nat} {x : Int64} (hd : decode (dC M) pc = .ok (.lload k, 2)) (hv : lv[k]? = some (.long x)) (kk : mW K M cs sl n hp (pc + 2) lv (.long x :: st)) : mW K M cs sl n hp pc lv (st) := fun hk H locs ls hR hl => lv_lload hk.1 hk.2.1 hd (mls_at hl hv (fun _ q => by cases q)) (kk hk H locs ls hR hl)
theorem m_lstore_n {k : Fin 4} {x : Int64} (hd : decode (dC M) pc = .ok (.lstore_n k, 1)) (hn : (k : Nat) + 1 < dL M) (kk : mW K M cs sl n hp (pc + 1) (mst2 lv (k : Nat) (.long x)) st) : mW K M cs sl n hp pc lv (.long x :: st) := fun hk H locs ls hR hl => lv_lstore_n hk.1 hk.2.1 hd rfl hl hn rfl (fun ls' hl' => kk hk H locs ls' hR (mls_st2 (v := .long x) hl'))
theorem m_lstore {k : Nat} {x : Int64} (hd : decode (dC M) pc = .ok (.lstore k, 2)) (hn : k + 1 < dL M) (kk : mW K M cs sl n hp (pc + 2) (mst2 lv k (.long x)) st) : mW K M cs sl n hp pc lv (.long x :: st) := fun hk H locs ls hR hl => lv_lstore hk.1 hk.2.1 hd hl hn rfl (fun ls' hl' => kk hk H locs ls' hR (mls_st2 (v := .long x) hl'))
theorem m_aload_n {k : Fin 4} {x : Nat} (hd : decode (dC M) pc = .ok (.aload_n k, 1)) (hv : lv[(k : Nat)]? = some (.ref x)) (kk : mW K M cs sl n hp (pc + 1) lv (.ref x :: st)) : mW K M cs sl n hp pc lv (st) := fun hk H locs ls hR hl => lv_aload_n hk.1 hk.2.1 hd rfl (mls_at hl hv (fun _ q => by cases q)) (kk hk H locs ls hR hl)
theorem m_aload {k : Nat} {x : Nat} (hd : decode (dC M) pc = .ok (.aload k, 2)) (hv : lv[k]? = some (.ref x)) (kk : mW K M cs sl n hp (pc + 2) lv (.ref x :: st)) : mW K M cs sl n hp pc lv (st) := fun hk H locs ls hR hl => lv_aload hk.1 hk.2.1 hd (mls_at hl hv (fun _ q => by cases q)) (kk hk H locs ls hR hl)
theorem m_astore_n {k : Fin 4} {x : Nat} (hd : decode (dC M) pc = .ok (.astore_n k, 1)) (hn : (k : Nat) < dL M) (kk : mW K M cs sl n hp (pc + 1) (mst lv (k : Nat) (.ref x)) st) : mW K M cs sl n hp pc lv (.ref x :: st) := fun hk H locs ls hR hl => lv_astore_n hk.1 hk.2.1 hd rfl hl hn rfl (fun ls' hl' => kk hk H locs ls' hR (mls_st (v := .ref x) hl'))
theorem m_astore {k : Nat} {x : Nat} (hd : decode (dC M) pc = .ok (.astore k, 2)) (hn : k < dL M) (kk : mW K M cs sl n hp (pc + 2) (mst lv k (.ref x)) st) : mW K M cs sl n hp pc lv (.ref x :: st) := fun hk H locs ls hR hl => lv_astore hk.1 hk.2.1 hd hl hn rfl (fun ls' hl' => kk hk H locs ls' hR (mls_st (v := .ref x) hl'))
theorem m_iinc {k : Nat} {z : Int} {x v : Int32} (hd : decode (dC M) pc = .ok (.iinc k z, 3)) (hx : lv[k]? = some (.int x)) (hv : x + Int32.ofInt z = v) (hn : k < dL M) (kk : mW K M cs sl n hp (pc + 3) (mst lv k (.int v)) st) : mW K M cs sl n hp pc lv st := fun hk H locs ls hR hl => by
  obtain ⟨j, hj⟩ := List.getElem?_of_mem (mlv_mem (ad := K.2.2.1.2.2.1) hx (fun _ q => by cases q))
  exact lv_iinc hk.1 hk.2.1 hd hl hj hv hn rfl (fun ls' hl' => kk hk H locs ls' hR (mls_st (v := .int v) hl'))
theorem m_iadd {x y : Int32} (hd : decode (dC M) pc = .ok (.iadd, 1)) (kk : mW K M cs sl n hp (pc + 1) lv (.int (x + y) :: st)) : mW K M cs sl n hp pc lv (.int y :: .int x :: st) := fun hk H locs ls hR hl => lv_iadd hk.1 hk.2.1 hd (kk hk H locs ls hR hl)
theorem m_isub {x y : Int32} (hd : decode (dC M) pc = .ok (.isub, 1)) (kk : mW K M cs sl n hp (pc + 1) lv (.int (x - y) :: st)) : mW K M cs sl n hp pc lv (.int y :: .int x :: st) := fun hk H locs ls hR hl => lv_isub hk.1 hk.2.1 hd (kk hk H locs ls hR hl)
theorem m_imul {x y : Int32} (hd : decode (dC M) pc = .ok (.imul, 1)) (kk : mW K M cs sl n hp (pc + 1) lv (.int (x * y) :: st)) : mW K M cs sl n hp pc lv (.int y :: .int x :: st) := fun hk H locs ls hR hl => lv_imul hk.1 hk.2.1 hd (kk hk H locs ls hR hl)
theorem m_iand {x y : Int32} (hd : decode (dC M) pc = .ok (.iand, 1)) (kk : mW K M cs sl n hp (pc + 1) lv (.int (x &&& y) :: st)) : mW K M cs sl n hp pc lv (.int y :: .int x :: st) := fun hk H locs ls hR hl => lv_iand hk.1 hk.2.1 hd (kk hk H locs ls hR hl)
theorem m_ior {x y : Int32} (hd : decode (dC M) pc = .ok (.ior, 1)) (kk : mW K M cs sl n hp (pc + 1) lv (.int (x ||| y) :: st)) : mW K M cs sl n hp pc lv (.int y :: .int x :: st) := fun hk H locs ls hR hl => lv_ior hk.1 hk.2.1 hd (kk hk H locs ls hR hl)
theorem m_ishl {x y : Int32} (hd : decode (dC M) pc = .ok (.ishl, 1)) (kk : mW K M cs sl n hp (pc + 1) lv (.int (x <<< (y &&& 31)) :: st)) : mW K M cs sl n hp pc lv (.int y :: .int x :: st) := fun hk H locs ls hR hl => lv_ishl hk.1 hk.2.1 hd (kk hk H locs ls hR hl)
theorem m_ishr {x y : Int32} (hd : decode (dC M) pc = .ok (.ishr, 1)) (kk : mW K M cs sl n hp (pc + 1) lv (.int (x >>> (y &&& 31)) :: st)) : mW K M cs sl n hp pc lv (.int y :: .int x :: st) := fun hk H locs ls hR hl => lv_ishr hk.1 hk.2.1 hd (kk hk H locs ls hR hl)
theorem m_iushr {x y : Int32} (hd : decode (dC M) pc = .ok (.iushr, 1)) (kk : mW K M cs sl n hp (pc + 1) lv (.int ((x.toUInt32 >>> (y.toUInt32 &&& Int32.toUInt32 31)).toInt32) :: st)) : mW K M cs sl n hp pc lv (.int y :: .int x :: st) := fun hk H locs ls hR hl => lv_iushr hk.1 hk.2.1 hd rfl (kk hk H locs ls hR hl)
theorem m_ladd {x y : Int64} (hd : decode (dC M) pc = .ok (.ladd, 1)) (kk : mW K M cs sl n hp (pc + 1) lv (.long (x + y) :: st)) : mW K M cs sl n hp pc lv (.long y :: .long x :: st) := fun hk H locs ls hR hl => lv_ladd hk.1 hk.2.1 hd (kk hk H locs ls hR hl)
theorem m_lsub {x y : Int64} (hd : decode (dC M) pc = .ok (.lsub, 1)) (kk : mW K M cs sl n hp (pc + 1) lv (.long (x - y) :: st)) : mW K M cs sl n hp pc lv (.long y :: .long x :: st) := fun hk H locs ls hR hl => lv_lsub hk.1 hk.2.1 hd (kk hk H locs ls hR hl)
theorem m_lmul {x y : Int64} (hd : decode (dC M) pc = .ok (.lmul, 1)) (kk : mW K M cs sl n hp (pc + 1) lv (.long (x * y) :: st)) : mW K M cs sl n hp pc lv (.long y :: .long x :: st) := fun hk H locs ls hR hl => lv_lmul hk.1 hk.2.1 hd (kk hk H locs ls hR hl)
theorem m_land {x y : Int64} (hd : decode (dC M) pc = .ok (.land, 1)) (kk : mW K M cs sl n hp (pc + 1) lv (.long (x &&& y) :: st)) : mW K M cs sl n hp pc lv (.long y :: .long x :: st) := fun hk H locs ls hR hl => lv_land hk.1 hk.2.1 hd (kk hk H locs ls hR hl)
theorem m_lor {x y : Int64} (hd : decode (dC M) pc = .ok (.lor, 1)) (kk : mW K M cs sl n hp (pc + 1) lv (.long (x ||| y) :: st)) : mW K M cs sl n hp pc lv (.long y :: .long x :: st) := fun hk H locs ls hR hl => lv_lor hk.1 hk.2.1 hd (kk hk H locs ls hR hl)
theorem m_lshl {x : Int64} {y : Int32} (hd : decode (dC M) pc = .ok (.lshl, 1)) (kk : mW K M cs sl n hp (pc + 1) lv (.long (x <<< (y.toInt64 &&& 63)) :: st)) : mW K M cs sl n hp pc lv (.int y :: .long x :: st) := fun hk H locs ls hR hl => lv_lshl hk.1 hk.2.1 hd rfl (kk hk H locs ls hR hl)
theorem m_lshr {x : Int64} {y : Int32} (hd : decode (dC M) pc = .ok (.lshr, 1)) (kk : mW K M cs sl n hp (pc + 1) lv (.long (x >>> (y.toInt64 &&& 63)) :: st)) : mW K M cs sl n hp pc lv (.int y :: .long x :: st) := fun hk H locs ls hR hl => lv_lshr hk.1 hk.2.1 hd rfl (kk hk H locs ls hR hl)
theorem m_idiv {x y : Int32} (hd : decode (dC M) pc = .ok (.idiv, 1)) (hy : ¬ y = 0) (kk : mW K M cs sl n hp (pc + 1) lv (.int (x / y) :: st)) : mW K M cs sl n hp pc lv (.int y :: .int x :: st) := fun hk H locs ls hR hl => lv_idiv hk.1 hk.2.1 hd hy (kk hk H locs ls hR hl)
theorem m_irem {x y : Int32} (hd : decode (dC M) pc = .ok (.irem, 1)) (hy : ¬ y = 0) (kk : mW K M cs sl n hp (pc + 1) lv (.int (x - x / y * y) :: st)) : mW K M cs sl n hp pc lv (.int y :: .int x :: st) := fun hk H locs ls hR hl => lv_irem hk.1 hk.2.1 hd hy (kk hk H locs ls hR hl)
theorem m_ldiv {x y : Int64} (hd : decode (dC M) pc = .ok (.ldiv, 1)) (hy : ¬ y = 0) (kk : mW K M cs sl n hp (pc + 1) lv (.long (x / y) :: st)) : mW K M cs sl n hp pc lv (.long y :: .long x :: st) := fun hk H locs ls hR hl => lv_ldiv hk.1 hk.2.1 hd hy (kk hk H locs ls hR hl)
theorem m_lrem {x y : Int64} (hd : decode (dC M) pc = .ok (.lrem, 1)) (hy : ¬ y = 0) (kk : mW K M cs sl n hp (pc + 1) lv (.long (x - x / y * y) :: st)) : mW K M cs sl n hp pc lv (.long y :: .long x :: st) := fun hk H locs ls hR hl => lv_lrem hk.1 hk.2.1 hd hy (kk hk H locs ls hR hl)
theorem m_ineg {x : Int32} (hd : decode (dC M) pc = .ok (.ineg, 1)) (kk : mW K M cs sl n hp (pc + 1) lv (.int (-x) :: st)) : mW K M cs sl n hp pc lv (.int x :: st) := fun hk H locs ls hR hl => lv_ineg hk.1 hk.2.1 hd (kk hk H locs ls hR hl)
theorem m_lneg {x : Int64} (hd : decode (dC M) pc = .ok (.lneg, 1)) (kk : mW K M cs sl n hp (pc + 1) lv (.long (-x) :: st)) : mW K M cs sl n hp pc lv (.long x :: st) := fun hk H locs ls hR hl => lv_lneg hk.1 hk.2.1 hd (kk hk H locs ls hR hl)
theorem m_i2l {x : Int32} (hd : decode (dC M) pc = .ok (.i2l, 1)) (kk : mW K M cs sl n hp (pc + 1) lv (.long (x.toInt64) :: st)) : mW K M cs sl n hp pc lv (.int x :: st) := fun hk H locs ls hR hl => lv_i2l hk.1 hk.2.1 hd rfl (kk hk H locs ls hR hl)
theorem m_l2i {x : Int64} (hd : decode (dC M) pc = .ok (.l2i, 1)) (kk : mW K M cs sl n hp (pc + 1) lv (.int (x.toInt32) :: st)) : mW K M cs sl n hp pc lv (.long x :: st) := fun hk H locs ls hR hl => lv_l2i hk.1 hk.2.1 hd rfl (kk hk H locs ls hR hl)
theorem m_i2b {x : Int32} (hd : decode (dC M) pc = .ok (.i2b, 1)) (kk : mW K M cs sl n hp (pc + 1) lv (.int (x.toInt8.toInt32) :: st)) : mW K M cs sl n hp pc lv (.int x :: st) := fun hk H locs ls hR hl => lv_i2b hk.1 hk.2.1 hd rfl (kk hk H locs ls hR hl)
theorem m_i2s {x : Int32} (hd : decode (dC M) pc = .ok (.i2s, 1)) (kk : mW K M cs sl n hp (pc + 1) lv (.int (x.toInt16.toInt32) :: st)) : mW K M cs sl n hp pc lv (.int x :: st) := fun hk H locs ls hR hl => lv_i2s hk.1 hk.2.1 hd rfl (kk hk H locs ls hR hl)
theorem m_lcmp {x y : Int64} (hd : decode (dC M) pc = .ok (.lcmp, 1)) (kk : mW K M cs sl n hp (pc + 1) lv (.int (lg_cmp x y) :: st)) : mW K M cs sl n hp pc lv (.long y :: .long x :: st) := fun hk H locs ls hR hl => W.lcmp hk.1 hk.2.1 hd (kk hk H locs ls hR hl)
theorem m_dup {v : Value} (hd : decode (dC M) pc = .ok (.dup, 1)) (hc : v.category = 1) (kk : mW K M cs sl n hp (pc + 1) lv (v :: v :: st)) : mW K M cs sl n hp pc lv (v :: st) := fun hk H locs ls hR hl => lv_dup hk.1 hk.2.1 hd ((mv_cat _ _).trans hc) (kk hk H locs ls hR hl)
theorem m_dup2 {v w : Value} (hd : decode (dC M) pc = .ok (.dup2, 1)) (hc : v.category = 1) (hw : w.category = 1) (kk : mW K M cs sl n hp (pc + 1) lv (v :: w :: v :: w :: st)) : mW K M cs sl n hp pc lv (v :: w :: st) := fun hk H locs ls hR hl => lv_dup2_11 hk.1 hk.2.1 hd ((mv_cat _ _).trans hc) ((mv_cat _ _).trans hw) (kk hk H locs ls hR hl)
theorem m_pop {v : Value} (hd : decode (dC M) pc = .ok (.pop, 1)) (hc : v.category = 1) (kk : mW K M cs sl n hp (pc + 1) lv st) : mW K M cs sl n hp pc lv (v :: st) := fun hk H locs ls hR hl => lv_pop hk.1 hk.2.1 hd ((mv_cat _ _).trans hc) (kk hk H locs ls hR hl)
theorem m_if_eq {x : Int32} {o : Int} {t : Nat} (hd : decode (dC M) pc = .ok (.ifCond .eq o, 3)) (ht : (pc : Int) + o = (t : Int)) (kt : x = 0 → mW K M cs sl n hp t lv st) (kf : ¬ x = 0 → mW K M cs sl n hp (pc + 3) lv st) : mW K M cs sl n hp pc lv (.int x :: st) := fun hk H locs ls hR hl => lv_if_eq hk.1 hk.2.1 hd ht (fun q => kt q hk H locs ls hR hl) (fun q => kf q hk H locs ls hR hl)
theorem m_if_ne {x : Int32} {o : Int} {t : Nat} (hd : decode (dC M) pc = .ok (.ifCond .ne o, 3)) (ht : (pc : Int) + o = (t : Int)) (kt : ¬ x = 0 → mW K M cs sl n hp t lv st) (kf : x = 0 → mW K M cs sl n hp (pc + 3) lv st) : mW K M cs sl n hp pc lv (.int x :: st) := fun hk H locs ls hR hl => lv_if_ne hk.1 hk.2.1 hd ht (fun q => kt q hk H locs ls hR hl) (fun q => kf q hk H locs ls hR hl)
theorem m_if_lt {x : Int32} {o : Int} {t : Nat} (hd : decode (dC M) pc = .ok (.ifCond .lt o, 3)) (ht : (pc : Int) + o = (t : Int)) (kt : x < 0 → mW K M cs sl n hp t lv st) (kf : ¬ x < 0 → mW K M cs sl n hp (pc + 3) lv st) : mW K M cs sl n hp pc lv (.int x :: st) := fun hk H locs ls hR hl => lv_if_lt hk.1 hk.2.1 hd ht (fun q => kt q hk H locs ls hR hl) (fun q => kf q hk H locs ls hR hl)
theorem m_if_ge {x : Int32} {o : Int} {t : Nat} (hd : decode (dC M) pc = .ok (.ifCond .ge o, 3)) (ht : (pc : Int) + o = (t : Int)) (kt : 0 ≤ x → mW K M cs sl n hp t lv st) (kf : ¬ 0 ≤ x → mW K M cs sl n hp (pc + 3) lv st) : mW K M cs sl n hp pc lv (.int x :: st) := fun hk H locs ls hR hl => lv_if_ge hk.1 hk.2.1 hd ht (fun q => kt q hk H locs ls hR hl) (fun q => kf q hk H locs ls hR hl)
theorem m_if_gt {x : Int32} {o : Int} {t : Nat} (hd : decode (dC M) pc = .ok (.ifCond .gt o, 3)) (ht : (pc : Int) + o = (t : Int)) (kt : 0 < x → mW K M cs sl n hp t lv st) (kf : ¬ 0 < x → mW K M cs sl n hp (pc + 3) lv st) : mW K M cs sl n hp pc lv (.int x :: st) := fun hk H locs ls hR hl => lv_if_gt hk.1 hk.2.1 hd ht (fun q => kt q hk H locs ls hR hl) (fun q => kf q hk H locs ls hR hl)
theorem m_if_le {x : Int32} {o : Int} {t : Nat} (hd : decode (dC M) pc = .ok (.ifCond .le o, 3)) (ht : (pc : Int) + o = (t : Int)) (kt : x ≤ 0 → mW K M cs sl n hp t lv st) (kf : ¬ x ≤ 0 → mW K M cs sl n hp (pc + 3) lv st) : mW K M cs sl n hp pc lv (.int x :: st) := fun hk H locs ls hR hl => lv_if_le hk.1 hk.2.1 hd ht (fun q => kt q hk H locs ls hR hl) (fun q => kf q hk H locs ls hR hl)
theorem m_icmp_eq {x y : Int32} {o : Int} {t : Nat} (hd : decode (dC M) pc = .ok (.if_icmp .eq o, 3)) (ht : (pc : Int) + o = (t : Int)) (kt : x = y → mW K M cs sl n hp t lv st) (kf : ¬ x = y → mW K M cs sl n hp (pc + 3) lv st) : mW K M cs sl n hp pc lv (.int y :: .int x :: st) := fun hk H locs ls hR hl => lv_icmp_eq hk.1 hk.2.1 hd ht (fun q => kt q hk H locs ls hR hl) (fun q => kf q hk H locs ls hR hl)
theorem m_icmp_ne {x y : Int32} {o : Int} {t : Nat} (hd : decode (dC M) pc = .ok (.if_icmp .ne o, 3)) (ht : (pc : Int) + o = (t : Int)) (kt : ¬ x = y → mW K M cs sl n hp t lv st) (kf : x = y → mW K M cs sl n hp (pc + 3) lv st) : mW K M cs sl n hp pc lv (.int y :: .int x :: st) := fun hk H locs ls hR hl => lv_icmp_ne hk.1 hk.2.1 hd ht (fun q => kt q hk H locs ls hR hl) (fun q => kf q hk H locs ls hR hl)
theorem m_icmp_lt {x y : Int32} {o : Int} {t : Nat} (hd : decode (dC M) pc = .ok (.if_icmp .lt o, 3)) (ht : (pc : Int) + o = (t : Int)) (kt : x < y → mW K M cs sl n hp t lv st) (kf : ¬ x < y → mW K M cs sl n hp (pc + 3) lv st) : mW K M cs sl n hp pc lv (.int y :: .int x :: st) := fun hk H locs ls hR hl => lv_icmp_lt hk.1 hk.2.1 hd ht (fun q => kt q hk H locs ls hR hl) (fun q => kf q hk H locs ls hR hl)
theorem m_icmp_ge {x y : Int32} {o : Int} {t : Nat} (hd : decode (dC M) pc = .ok (.if_icmp .ge o, 3)) (ht : (pc : Int) + o = (t : Int)) (kt : y ≤ x → mW K M cs sl n hp t lv st) (kf : ¬ y ≤ x → mW K M cs sl n hp (pc + 3) lv st) : mW K M cs sl n hp pc lv (.int y :: .int x :: st) := fun hk H locs ls hR hl => lv_icmp_ge hk.1 hk.2.1 hd ht (fun q => kt q hk H locs ls hR hl) (fun q => kf q hk H locs ls hR hl)
theorem m_icmp_gt {x y : Int32} {o : Int} {t : Nat} (hd : decode (dC M) pc = .ok (.if_icmp .gt o, 3)) (ht : (pc : Int) + o = (t : Int)) (kt : y < x → mW K M cs sl n hp t lv st) (kf : ¬ y < x → mW K M cs sl n hp (pc + 3) lv st) : mW K M cs sl n hp pc lv (.int y :: .int x :: st) := fun hk H locs ls hR hl => lv_icmp_gt hk.1 hk.2.1 hd ht (fun q => kt q hk H locs ls hR hl) (fun q => kf q hk H locs ls hR hl)
theorem m_icmp_le {x y : Int32} {o : Int} {t : Nat} (hd : decode (dC M) pc = .ok (.if_icmp .le o, 3)) (ht : (pc : Int) + o = (t : Int)) (kt : x ≤ y → mW K M cs sl n hp t lv st) (kf : ¬ x ≤ y → mW K M cs sl n hp (pc + 3) lv st) : mW K M cs sl n hp pc lv (.int y :: .int x :: st) := fun hk H locs ls hR hl => lv_icmp_le hk.1 hk.2.1 hd ht (fun q => kt q hk H locs ls hR hl) (fun q => kf q hk H locs ls hR hl)
theorem m_goto {o : Int} {t : Nat} (hd : decode (dC M) pc = .ok (.goto o, 3)) (ht : (pc : Int) + o = (t : Int)) (kk : mW K M cs sl n hp t lv st) : mW K M cs sl n hp pc lv st := fun hk H locs ls hR hl => lv_goto hk.1 hk.2.1 hd ht (kk hk H locs ls hR hl)
theorem m_tabOut {dflt lo hi : Int} {offs : Array Int} {len : Nat} {x : Int32} {t : Nat} (hd : decode (dC M) pc = .ok (.tableswitch dflt lo hi offs, len)) (h : x.toInt < lo ∨ hi < x.toInt) (ht : (pc : Int) + dflt = (t : Int)) (kk : mW K M cs sl n hp t lv st) : mW K M cs sl n hp pc lv (.int x :: st) := fun hk H locs ls hR hl => lv_tableOut hk.1 hk.2.1 hd h ht (kk hk H locs ls hR hl)
theorem m_tabIn {dflt lo hi : Int} {offs : Array Int} {len : Nat} {x : Int32} {o : Int} {t : Nat} (hd : decode (dC M) pc = .ok (.tableswitch dflt lo hi offs, len)) (h1 : ¬ x.toInt < lo) (h2 : ¬ hi < x.toInt) (ho : offs[(x.toInt - lo).toNat]? = some o) (ht : (pc : Int) + o = (t : Int)) (kk : mW K M cs sl n hp t lv st) : mW K M cs sl n hp pc lv (.int x :: st) := fun hk H locs ls hR hl => lv_tableIn hk.1 hk.2.1 hd h1 h2 ho ht (kk hk H locs ls hR hl)
end MR
end
section
/-! ===== rules that read and write cells ===== -/
theorem vwCl_99 : vwCl[99]? = none := rfl
theorem mN_of {ci : Nat} {q : vw_C} (h : vwCl[ci]? = some q) : mN ci = q.2.2 := by
  unfold mN
  rw [h]
theorem mlt_a {K : mK} {cs n : Nat} {hp : mHp} {H : Heap} {locs : List Loc} (hR : mRel K cs n hp H locs) {h : Nat} {a : FieldType × vp_A} (hc : hp h = .inl a) : h < n := by
  rcases Nat.lt_or_ge h n with q | q
  · exact q
  · rw [hR.2.2.2.1 h q] at hc
    cases hc
theorem mlt_o {K : mK} {cs n : Nat} {hp : mHp} {H : Heap} {locs : List Loc} (hR : mRel K cs n hp H locs) {h : Nat} {ci : Nat} {f : Nat → Value} (hc : hp h = .inr (ci, f)) {q : vw_C} (hq : vwCl[ci]? = some q) : h < n := by
  rcases Nat.lt_or_ge h n with z | z
  · exact z
  · rw [hR.2.2.2.1 h z] at hc
    have e : ci = 99 := by
      unfold mJ at hc
      have := Sum.inr.inj hc
      exact (congrArg Prod.fst this).symm
    rw [e, vwCl_99] at hq
    cases hq
theorem m_apart {dA : FieldType → ClassId} {ad : Nat → Nat} {n base : Nat} {hp : mHp} (had : ∀ h, h < mSC → ad h = base + h) (hn : n ≤ mSC) : va_D (mAc base) (mws dA ad n hp) := by
  refine ⟨fun i j p q hi hj e => ?_, fun k q hk => ?_⟩
  · by_cases h1 : i < n
    · by_cases h2 : j < n
      · rw [mws_at h1] at hi
        rw [mws_at h2] at hj
        cases hi
        cases hj
        have e : ad i = ad j := e
        rw [had i (by omega), had j (by omega)] at e
        omega
      · rw [mws_no h2] at hj
        cases hj
    · rw [mws_no h1] at hi
      cases hi
  · by_cases h1 : k < n
    · rw [mws_at h1] at hk
      cases hk
      show base ≤ ad k
      rw [had k (by omega)]
      omega
    · rw [mws_no h1] at hk
      cases hk
theorem range_set {α : Type} {N k : Nat} {g : Nat → α} {x : α} : ((List.range N).map g).set k x = (List.range N).map (va_up g k x) := by
  apply List.ext_getElem?
  intro i
  rw [List.getElem?_set, List.length_map, List.length_range, List.getElem?_map, List.getElem?_map]
  by_cases hi : i < N
  · rw [List.getElem?_range hi]
    by_cases e : k = i
    · subst e
      rw [if_pos rfl, if_pos hi]
      simp [va_up_self]
    · rw [if_neg e]
      simp [va_up_ne _ _ (fun q => e q.symm : ¬ i = k)]
  · have h0 : (List.range N)[i]? = none := List.getElem?_eq_none (by rw [List.length_range]; omega)
    rw [h0]
    by_cases e : k = i
    · subst e
      rw [if_pos rfl, if_neg hi]
      rfl
    · rw [if_neg e]
      rfl
theorem mv_up {ad : Nat → Nat} {f : Nat → Value} {k : Nat} {v : Value} : (fun j => mv ad (va_up f k v j)) = va_up (fun j => mv ad (f j)) k (mv ad v) := by
  funext j
  by_cases e : j = k
  · subst e
    rw [va_up_self, va_up_self]
  · rw [va_up_ne _ _ e, va_up_ne _ _ e]
/-- what a field's entry in the pool says -/
def mFL (own : String) (ix ci k : Nat) (ty : FieldType) (fin : Bool) : Prop := ∃ (C : String) (T : u_T) (N : Nat) (tys : Nat → FieldType), vwCl[ci]? = some (C, T, N) ∧ k < N ∧ (∀ w ∈ u_ws C T N, w ∈ TB) ∧ Cond.fieldLink own ix (T k).1 (T k).2.1 (T k).2.2.1 ∈ TB ∧ (∀ k, k < N → parseFieldDescriptor (T k).2.2.1 = some (tys k)) ∧ (∀ a, a < N → ∀ b, b < N → a ≠ b → (T a).2.1 ≠ (T b).2.1) ∧ tys k = ty ∧ (T k).2.2.2 = fin
def mFD (own : String) (ci k : Nat) : Prop := ∃ (C : String) (T : u_T) (N : Nat), vwCl[ci]? = some (C, T, N) ∧ (T k).1 = own
/-- an index: its number, within the length -/
def mIx (i : Int32) (k len : Nat) : Prop := i.toInt = (k : Int) ∧ k < len
theorem mIx.nn {i : Int32} {k len : Nat} (h : mIx i k len) : ¬ i < 0 := by
  rw [Int32.lt_iff_toInt_lt, h.1, Int32.toInt_zero]
  omega
theorem mIx.cl {i : Int32} {k len : Nat} (h : mIx i k len) : i.toNatClampNeg = k := by
  have : i.toNatClampNeg = i.toInt.toNat := rfl
  rw [this, h.1]
  rfl
theorem mIx.vp {i : Int32} {k len : Nat} (h : mIx i k len) : vp_in i len := by
  intro q
  rcases q with q | q
  · exact h.nn q
  · rw [h.cl] at q
    exact absurd h.2 (by omega)
section MH
variable {K : mK} {M : MD} {cs sl n : Nat} {hp : mHp} {pc : Nat} {lv st : List Value}
theorem m_getfield {ix ci k h : Nat} {ty : FieldType} {fin : Bool} {f : Nat → Value} {v : Value} (hd : decode (dC M) pc = .ok (.getfield ix, 3)) (hl : mFL (dOwn M) ix ci k ty fin) (hc : hp h = .inr (ci, f)) (hv : f k = v) (kk : mW K M cs sl n hp (pc + 3) lv (v :: st)) : mW K M cs sl n hp pc lv (.ref h :: st) := fun hk H locs ls hR hlv => by
  obtain ⟨C, T, N, tys, h1, h2, h3, h4, -⟩ := hl
  have hh : h < n := mlt_o hR hc h1
  refine va_get hk.1 hk.2.1 hk.2.2.2.2.1 h3 hk.2.2.2.1 hk.2.2.2.2.2.1 hR.1 h (fs := (List.range (mN ci)).map fun k => mv K.2.2.1.2.2.1 (f k)) (by rw [mws_at hh, hc]; rfl) h1 k h2 (hk.2.2.2.2.1 _ h4) (fun _ q => q) (v := mv K.2.2.1.2.2.1 v) ?_ hd (kk hk H locs ls hR hlv)
  rw [List.getElem?_map, List.getElem?_range (by rw [mN_of h1]; exact h2)]
  simp [hv]
theorem mRel.up {H1 : Heap} {locs1 : List Loc} {H : Heap} {locs : List Loc} (hR : mRel K cs n hp H locs) {h : Nat} {c : mE} (hh : h < n) (hP : va_P K.2.2.1.1 vwCl ((mws K.2.2.1.2.1 K.2.2.1.2.2.1 n hp).set h (K.2.2.1.2.2.1 h, mcell K.2.2.1.2.1 K.2.2.1.2.2.1 c)) H1) (hS : va_S (mAc K.2.2.1.2.2.2) K.1.2.2.2.2.1.heap H1 locs1) : mRel K cs n (va_up hp h c) H1 locs1 := by
  rw [mws_set] at hP
  exact ⟨hP, hR.2.1, hS, fun q hq => by rw [va_up_ne _ _ (by omega)]; exact hR.2.2.2.1 q hq, hR.2.2.2.2⟩
theorem m_putfield {ix ci k h : Nat} {ty : FieldType} {f : Nat → Value} {v : Value} (hd : decode (dC M) pc = .ok (.putfield ix, 3)) (hl : mFL (dOwn M) ix ci k ty false) (hc : hp h = .inr (ci, f)) (hn : ∀ ad, narrow ty (mv ad v) = mv ad v) (hf : ∀ ad, fits ty (mv ad v) = true) (kk : mW K M cs sl n (va_up hp h (.inr (ci, va_up f k v))) (pc + 3) lv st) : mW K M cs sl n hp pc lv (v :: .ref h :: st) := fun hk H locs ls hR hlv => by
  obtain ⟨C, T, N, tys, h1, h2, h3, h4, h5, h6, h7, h8⟩ := hl
  have hh : h < n := mlt_o hR hc h1
  refine va_put hk.1 hk.2.1 hk.2.2.2.2.1 h3 tys h5 h6 hk.2.2.2.1 hk.2.2.2.2.2.1 hR.1 (m_apart hk.2.2.2.2.2.2.2.1 hR.2.2.2.2) hR.2.2.1 h (fs := (List.range (mN ci)).map fun k => mv K.2.2.1.2.2.1 (f k)) (by rw [mws_at hh, hc]; rfl) h1 k h2 (hk.2.2.2.2.1 _ h4) (fun _ q => q) h8 (ty := ty) (by rw [h5 k h2, h7]) (hn _) (hf _) (by rw [List.length_map, List.length_range, mN_of h1]; exact h2) hd (fun H1 locs1 hP1 hD1 hS1 => ?_)
  refine kk hk H1 locs1 ls (hR.up hh ?_ hS1) hlv
  have e : mcell K.2.2.1.2.1 K.2.2.1.2.2.1 (.inr (ci, va_up f k v)) = .inr (ci, ((List.range (mN ci)).map fun k => mv K.2.2.1.2.2.1 (f k)).set k (mv K.2.2.1.2.2.1 v)) := by
    rw [range_set, ← mv_up]
    rfl
  rw [e]
  exact hP1
theorem m_putfieldF {ix ci k h : Nat} {ty : FieldType} {f : Nat → Value} {v : Value} (hd : decode (dC M) pc = .ok (.putfield ix, 3)) (hl : mFL (dOwn M) ix ci k ty true) (hD : mFD (dOwn M) ci k) (hc : hp h = .inr (ci, f)) (hin : K.2.1.2.2.1.name = "<init>") (hn : ∀ ad, narrow ty (mv ad v) = mv ad v) (hf : ∀ ad, fits ty (mv ad v) = true) (kk : mW K M cs sl n (va_up hp h (.inr (ci, va_up f k v))) (pc + 3) lv st) : mW K M cs sl n hp pc lv (v :: .ref h :: st) := fun hk H locs ls hR hlv => by
  obtain ⟨C, T, N, tys, h1, h2, h3, h4, h5, h6, h7, h8⟩ := hl
  obtain ⟨C', T', N', g1, g2⟩ := hD
  cases h1.symm.trans g1
  have hh : h < n := mlt_o hR hc h1
  refine va_putF hk.1 hk.2.1 hk.2.2.2.2.1 h3 tys h5 h6 hk.2.2.2.1 hk.2.2.2.2.2.1 hR.1 (m_apart hk.2.2.2.2.2.2.2.1 hR.2.2.2.2) hR.2.2.1 h (fs := (List.range (mN ci)).map fun k => mv K.2.2.1.2.2.1 (f k)) (by rw [mws_at hh, hc]; rfl) h1 k h2 (hk.2.2.2.2.1 _ h4) (fun _ q => q) h8 hin g2 (ty := ty) (by rw [h5 k h2, h7]) (hn _) (hf _) (by rw [List.length_map, List.length_range, mN_of h1]; exact h2) hd (fun H1 locs1 hP1 hD1 hS1 => ?_)
  refine kk hk H1 locs1 ls (hR.up hh ?_ hS1) hlv
  have e : mcell K.2.2.1.2.1 K.2.2.1.2.2.1 (.inr (ci, va_up f k v)) = .inr (ci, ((List.range (mN ci)).map fun k => mv K.2.2.1.2.2.1 (f k)).set k (mv K.2.2.1.2.2.1 v)) := by
    rw [range_set, ← mv_up]
    rfl
  rw [e]
  exact hP1
theorem m_iaload {h len k : Nat} {f : Nat → Int32} {i : Int32} (hd : decode (dC M) pc = .ok (.iaload, 1)) (hc : hp h = eI len f) (hi : mIx i k len) (kk : mW K M cs sl n hp (pc + 1) lv (.int (f k) :: st)) : mW K M cs sl n hp pc lv (.int i :: .ref h :: st) := fun hk H locs ls hR hlv => by
  have hh : h < n := mlt_a hR hc
  refine va_iald hk.1 hk.2.1 hk.2.2.2.2.2.1 hR.1 h 0 (n := len) (f := f) (by rw [mws_at hh, hc]; rfl) rfl hi.vp hd ?_
  rw [hi.cl]
  exact kk hk H locs ls hR hlv
theorem m_baload {h len k : Nat} {f : Nat → Int32} {i : Int32} (hd : decode (dC M) pc = .ok (.baload, 1)) (hc : hp h = eB len f) (hi : mIx i k len) (kk : mW K M cs sl n hp (pc + 1) lv (.int (f k) :: st)) : mW K M cs sl n hp pc lv (.int i :: .ref h :: st) := fun hk H locs ls hR hlv => by
  have hh : h < n := mlt_a hR hc
  refine va_bald hk.1 hk.2.1 hk.2.2.2.2.2.1 hR.1 h 2 (n := len) (f := f) (by rw [mws_at hh, hc]; rfl) rfl hi.vp hd ?_
  rw [hi.cl]
  exact kk hk H locs ls hR hlv
theorem m_laload {h len k : Nat} {f : Nat → Int64} {i : Int32} (hd : decode (dC M) pc = .ok (.laload, 1)) (hc : hp h = eL len f) (hi : mIx i k len) (kk : mW K M cs sl n hp (pc + 1) lv (.long (f k) :: st)) : mW K M cs sl n hp pc lv (.int i :: .ref h :: st) := fun hk H locs ls hR hlv => by
  have hh : h < n := mlt_a hR hc
  refine va_lald hk.1 hk.2.1 hk.2.2.2.2.2.1 hR.1 h 1 (n := len) (f := f) (by rw [mws_at hh, hc]; rfl) rfl hi.vp hd ?_
  rw [hi.cl]
  exact kk hk H locs ls hR hlv
theorem m_iastore {h len k : Nat} {f : Nat → Int32} {i x : Int32} (hd : decode (dC M) pc = .ok (.iastore, 1)) (hc : hp h = eI len f) (hi : mIx i k len) (kk : mW K M cs sl n (va_up hp h (eI len (va_up f k x))) (pc + 1) lv st) : mW K M cs sl n hp pc lv (.int x :: .int i :: .ref h :: st) := fun hk H locs ls hR hlv => by
  have hh : h < n := mlt_a hR hc
  refine va_iast hk.1 hk.2.1 hk.2.2.2.2.2.1 hR.1 (m_apart hk.2.2.2.2.2.2.2.1 hR.2.2.2.2) hR.2.2.1 h 0 (n := len) (f := f) (by rw [mws_at hh, hc]; rfl) rfl hi.vp hd (fun H1 locs1 hP1 hD1 hS1 => ?_)
  rw [hi.cl] at hP1
  exact kk hk H1 locs1 ls (hR.up hh hP1 hS1) hlv
theorem m_bastore {h len k : Nat} {f : Nat → Int32} {i x : Int32} (hd : decode (dC M) pc = .ok (.bastore, 1)) (hc : hp h = eB len f) (hi : mIx i k len) (kk : mW K M cs sl n (va_up hp h (eB len (va_up f k (vp_nar .byte x)))) (pc + 1) lv st) : mW K M cs sl n hp pc lv (.int x :: .int i :: .ref h :: st) := fun hk H locs ls hR hlv => by
  have hh : h < n := mlt_a hR hc
  refine va_bast hk.1 hk.2.1 hk.2.2.2.2.2.1 hR.1 (m_apart hk.2.2.2.2.2.2.2.1 hR.2.2.2.2) hR.2.2.1 h 2 (n := len) (f := f) (by rw [mws_at hh, hc]; rfl) rfl hi.vp hd (fun H1 locs1 hP1 hD1 hS1 => ?_)
  rw [hi.cl] at hP1
  exact kk hk H1 locs1 ls (hR.up hh hP1 hS1) hlv
theorem m_lastore {h len k : Nat} {f : Nat → Int64} {i : Int32} {x : Int64} (hd : decode (dC M) pc = .ok (.lastore, 1)) (hc : hp h = eL len f) (hi : mIx i k len) (kk : mW K M cs sl n (va_up hp h (eL len (va_up f k x))) (pc + 1) lv st) : mW K M cs sl n hp pc lv (.long x :: .int i :: .ref h :: st) := fun hk H locs ls hR hlv => by
  have hh : h < n := mlt_a hR hc
  refine va_last hk.1 hk.2.1 hk.2.2.2.2.2.1 hR.1 (m_apart hk.2.2.2.2.2.2.2.1 hR.2.2.2.2) hR.2.2.1 h 1 (n := len) (f := f) (by rw [mws_at hh, hc]; rfl) rfl hi.vp hd (fun H1 locs1 hP1 hD1 hS1 => ?_)
  rw [hi.cl] at hP1
  exact kk hk H1 locs1 ls (hR.up hh hP1 hS1) hlv
theorem mv_rf {ad : Nat → Nat} (r : Option Nat) : va_rf (r.map ad) = mv ad (va_rf r) := by cases r <;> rfl
/-- a place of an array of objects -/
theorem m_aaload {h len k : Nat} {f : Nat → Option Nat} {i : Int32} {v : Value} (hd : decode (dC M) pc = .ok (.aaload, 1)) (hc : hp h = eR tyS len f) (hi : mIx i k len) (hv : va_rf (f k) = v) (kk : mW K M cs sl n hp (pc + 1) lv (v :: st)) : mW K M cs sl n hp pc lv (.int i :: .ref h :: st) := fun hk H locs ls hR hlv => by
  have hh : h < n := mlt_a hR hc
  refine va_aldq hk.1 hk.2.1 hk.2.2.2.2.2.1 hR.1 h 4 (n := len) (f := fun i => (f i).map K.2.2.1.2.2.1) (C := "LoopJudge$Setting") (by rw [mws_at hh, hc]; rfl) rfl hi.vp hd ?_
  rw [hi.cl, mv_rf, hv]
  exact kk hk H locs ls hR hlv
/-- .. of an array of rows of longs -/
theorem m_aaloadJ {h len k : Nat} {f : Nat → Option Nat} {i : Int32} {v : Value} (hd : decode (dC M) pc = .ok (.aaload, 1)) (hc : hp h = eR tyJJ len f) (hi : mIx i k len) (hv : va_rf (f k) = v) (kk : mW K M cs sl n hp (pc + 1) lv (v :: st)) : mW K M cs sl n hp pc lv (.int i :: .ref h :: st) := fun hk H locs ls hR hlv => by
  have hh : h < n := mlt_a hR hc
  have hcell : H[K.2.2.1.2.2.1 h]? = some (vp_cell (K.2.2.1.2.1 tyJJ) (len, .inr (.inr (.inr (.inr (fun i => (f i).map K.2.2.1.2.2.1)))))) := hR.1 h (K.2.2.1.2.2.1 h, .inl (K.2.2.1.2.1 tyJJ, len, .inr (.inr (.inr (.inr (fun i => (f i).map K.2.2.1.2.2.1)))))) (by rw [mws_at hh, hc]; rfl)
  rw [vp_cell_q] at hcell
  have harr := (hk.2.2.2.2.2.1.2 3 (K.2.2.1.2.1 tyJJ, tyJJ) rfl).1 len (fun j => va_rf ((f j).map K.2.2.1.2.2.1))
  intro T hT X
  obtain ⟨t, a1, b1⟩ := kk hk H locs ls hR hlv T hT X
  refine ⟨t, X.aaload hk.1 (by rw [hT]; exact hcell) harr rfl (fun q => by cases q) (by show ¬ (i < 0 ∨ (arrV _ _ _).slots.size ≤ _); rw [arrV_size]; exact hi.vp) (v := mv K.2.2.1.2.2.1 v) (by rw [hi.cl, arrV_read _ _ hi.2, mv_rf, hv]) rfl rfl (by rw [hk.2.1]; exact hd) t a1, b1⟩
theorem m_aastore {h len k w ci : Nat} {f : Nat → Option Nat} {g : Nat → Value} {i : Int32} (hd : decode (dC M) pc = .ok (.aastore, 1)) (hc : hp h = eR tyS len f) (hi : mIx i k len) (hw : hp w = .inr (3, g)) (kk : mW K M cs sl n (va_up hp h (eR tyS len (va_up f k (some w)))) (pc + 1) lv st) : mW K M cs sl n hp pc lv (.ref w :: .int i :: .ref h :: st) := fun hk H locs ls hR hlv => by
  have hh : h < n := mlt_a hR hc
  have hhw : w < n := mlt_o hR hw (q := (RX3, TX3, 3)) rfl
  refine va_astq hk.1 hk.2.1 hk.2.2.2.2.2.1 hR.1 (m_apart hk.2.2.2.2.2.2.2.1 hR.2.2.2.2) hR.2.2.1 h 4 w 3 (n := len) (f := fun i => (f i).map K.2.2.1.2.2.1) (r := (RX3, TX3, 3)) (vs := (List.range (mN 3)).map fun k => mv K.2.2.1.2.2.1 (g k)) (by rw [mws_at hh, hc]; rfl) rfl (by rw [mws_at hhw, hw]; rfl) rfl hi.vp hd (fun H1 locs1 hP1 hD1 hS1 => ?_)
  rw [hi.cl] at hP1
  refine kk hk H1 locs1 ls (hR.up hh ?_ hS1) hlv
  have e : mcell K.2.2.1.2.1 K.2.2.1.2.2.1 (eR tyS len (va_up f k (some w))) = .inl (K.2.2.1.2.1 tyS, len, .inr (.inr (.inr (.inr (va_up (fun i => (f i).map K.2.2.1.2.2.1) k (some (K.2.2.1.2.2.1 w))))))) := by
    show Sum.inl (K.2.2.1.2.1 tyS, len, Sum.inr (Sum.inr (Sum.inr (Sum.inr (fun i => (va_up f k (some w) i).map K.2.2.1.2.2.1))))) = _
    congr 7
    funext j
    by_cases e : j = k
    · subst e
      rw [va_up_self, va_up_self]
      rfl
    · rw [va_up_ne _ _ e, va_up_ne _ _ e]
  rw [e]
  exact hP1
theorem m_arraylength {h : Nat} {ty : FieldType} {a : vp_A} {t0 : Nat} {v : Int32} (hd : decode (dC M) pc = .ok (.arraylength, 1)) (hc : hp h = .inl (ty, a)) (ht : ∀ dA, (mty dA)[t0]? = some (dA ty, ty)) (hv : Int32.ofNat a.1 = v) (kk : mW K M cs sl n hp (pc + 1) lv (.int v :: st)) : mW K M cs sl n hp pc lv (.ref h :: st) := fun hk H locs ls hR hlv => by
  have hh : h < n := mlt_a hR hc
  refine va_alen hk.1 hk.2.1 hk.2.2.2.2.2.1 hR.1 h t0 (x := mA K.2.2.1.2.2.1 a) (by rw [mws_at hh, hc]; rfl) (ht _) (v := v) ?_ hd (kk hk H locs ls hR hlv)
  rw [← hv]
  congr 1
  unfold mA
  split <;> rfl
theorem m_getstatic {ix : Nat} (hd : decode (dC M) pc = .ok (.getstatic ix, 3)) (hl : Cond.fieldLink (dOwn M) ix "LoopJudge" "CORNER_SIDES" "[I" ∈ TB) (kk : mW K M cs sl n hp (pc + 3) lv (.ref (mSC + 1) :: st)) : mW K M cs sl n hp pc lv st := fun hk H locs ls hR hlv =>
  va_gets hk.1 hk.2.1 hk.2.2.2.2.2.2.2.2.1.2.2.2.1 hR.2.2.1 hk.2.2.2.1 (hk.2.2.2.2.1 _ hl) (fun _ q => q) hd (kk hk H locs ls hR hlv)
theorem m_staload {i : Int32} {k : Nat} (hd : decode (dC M) pc = .ok (.iaload, 1)) (hi : mIx i k 20) (kk : mW K M cs sl n hp (pc + 1) lv (.int (mCS.getD k 0) :: st)) : mW K M cs sl n hp pc lv (.int i :: .ref (mSC + 1) :: st) := fun hk H locs ls hR hlv =>
  va_ti hk.1 hk.2.1 hk.2.2.2.2.2.2.2.2.1.2.2.2.2 hR.2.2.1 hi.vp (v := .int (mCS.getD k 0)) (by rw [hi.cl]) hd (kk hk H locs ls hR hlv)
end MH
end
section
/-! ===== allocation, calls, returns ===== -/
theorem mAOA.moved {u U : State} (hvm : u.vm.Alike U.vm) (h : mAOA u) : mAOA U := by
  obtain ⟨comp, c, k, h1, h2, h3, h4, h5⟩ := arrayOverA_spec h
  obtain ⟨k', hk', he⟩ := hvm.2.2 _ _ h3
  have hbb : u.vm.bare = U.vm.bare := by first | exact hvm.bare_eq | exact hvm.bare_eq.symm
  have hi : (U.vm.classes.findIdx? fun (x : Class) => match x.kind with | .array component _ => component == comp | _ => false) = some c := by
    have e1 := va_idx_bare u.vm comp
    rw [hbb] at e1
    exact (va_idx_bare U.vm comp).symm.trans (e1.trans h2)
  have hkind : k'.kind = .array comp (.array .long) := by rw [he]; exact h4
  have f1 : U.vm.findClass (FieldType.array .long).toString = some comp := by rw [hvm.findClass]; exact h1
  have f2 : U.vm.findClass ("[" ++ (FieldType.array .long).toString) = some c := by rw [hvm.findClass]; exact h5
  unfold mAOA Cond.before Cond.holds
  simp only [Cond.value]
  rw [f1, Option.bind_some]
  refine (congrArg (fun o : Option Nat => (o.bind (fun c => (U.vm.classes[c]?).map fun (k : Class) => match k.kind with | .array _ ty => decide (ty = FieldType.array .long) && decide (U.vm.findClass ("[" ++ (FieldType.array .long).toString) = some c) | _ => false) == some true)) hi).trans ?_
  simp [hk', hkind, f2]
theorem mEnv.moved {ad : Nat → Nat} {base : Nat} {s U : State} {H : Heap} (hW : s.WarmedH U.vm) (h : mEnv ad base s H) : mEnv ad base U H :=
  ⟨⟨h.1.1.warmM hW, h.1.2.1.warmM hW, h.1.2.2.1.warmM hW, h.1.2.2.2.warmM hW⟩, h.2.1.moved hW.alike, h.2.2.1.moved hW.alike, h.2.2.2.1.moved hW.alike, h.2.2.2.2.moved hW.alike⟩
theorem mEnv.kept {ad : Nat → Nat} {base : Nat} {s : State} {H H1 : Heap} (h : mEnv ad base s H) (hq : ∀ a : Nat, a < H.size → ¬ mAc base a → H1[a]? = H[a]?) : mEnv ad base s H1 :=
  ⟨h.1, h.2.1, h.2.2.1, h.2.2.2.1.kept hq, h.2.2.2.2.kept hq⟩
theorem mEnv.call {ad : Nat → Nat} {base : Nat} {U : State} {H : Heap} {g : JFrame} {mk : MethodId} {a : Array Value} (h : mEnv ad base U H) : mEnv ad base (U.calling g mk a) H :=
  ⟨⟨h.1.1.same rfl rfl, h.1.2.1.same rfl rfl, h.1.2.2.1.same rfl rfl, h.1.2.2.2.same rfl rfl⟩, h.2.1.moved (u := U) (U := U.calling g mk a) (Vm.Alike.refl U.vm), h.2.2.1.moved (u := U) (U := U.calling g mk a) (Vm.Alike.refl U.vm), h.2.2.2.1.moved (u := U) (U := U.calling g mk a) (Vm.Alike.refl U.vm), h.2.2.2.2.moved (u := U) (U := U.calling g mk a) (Vm.Alike.refl U.vm)⟩
/-- the start of a method: its world is the whole system's -/
def mPre (D : va_G) (dA : FieldType → ClassId) (ad : Nat → Nat) (base n : Nat) (hp : mHp) (U : State) : Prop :=
  va_P D vwCl (mws dA ad n hp) U.heap ∧ U.heap.size = base + n ∧ va_K D vwCl (mty dA) U ∧ (∀ h, n ≤ h → hp h = mJ) ∧ n ≤ mSC ∧ (∀ h, h < mSC → ad h = base + h) ∧ mEnv ad base U U.heap
abbrev mQ : Type := Option Value → mHp → Prop
def mQc (Q : mQ) (D : va_G) (dA : FieldType → ClassId) (ad : Nat → Nat) (base n mc : Nat) : Array Value → State → Outcome → State → Prop := fun _ st o t =>
  ∃ (v : Option Value) (hp' : mHp), o = .returned (v.map (mv ad)) ∧ Q v hp' ∧ va_P D vwCl (mws dA ad (n + mc) hp') t.heap ∧ (∀ h, n + mc ≤ h → hp' h = mJ) ∧ n + mc ≤ mSC ∧ va_F (mAc base) st t
/-- the words that every method has -/
abbrev mWs (M : MD) : List Cond := Cond.code (dY M) (dC M) (dL M) (dR M) :: TB
/-- A CONTRACT: called with as in a heap hp of n cells the method returns with Q -/
def mC (M : MD) (as : List Value) (n : Nat) (hp : mHp) (Q : mQ) : Prop :=
  ∀ (l : Launch) (D : va_G) (dA : FieldType → ClassId) (ad : Nat → Nat) (base : Nat), Met l (dY M) (mWs M) (mRm (dV M) (dMc M) (dMs M)) (va_Pc (as.map (mv ad)) (mPre D dA ad base n hp)) (mQc Q D dA ad base n (dMc M)) (dMc M) (dMs M) (mAc base)
theorem mPre.call {D : va_G} {dA : FieldType → ClassId} {ad : Nat → Nat} {base n : Nat} {hp : mHp} {U : State} {g : JFrame} {mk : MethodId} {a : Array Value} (h : mPre D dA ad base n hp U) : mPre D dA ad base n hp (U.calling g mk a) :=
  ⟨h.1, h.2.1, va_K.moved (u := U) (U := U.calling g mk a) (Vm.Alike.refl U.vm) h.2.2.1, h.2.2.2.1, h.2.2.2.2.1, h.2.2.2.2.2.1, h.2.2.2.2.2.2.call⟩
theorem mPre.blind {D : va_G} {dA : FieldType → ClassId} {ad : Nat → Nat} {base n : Nat} {hp : mHp} {as : List Value} : FrameBlind (va_Pc as (mPre D dA ad base n hp)) := fun _ _ _ _ q => ⟨q.1, q.2.call⟩
/-- the end of a method, as its proof knows it -/
def mFin (K : mK) (M : MD) (n : Nat) (Q : mQ) : Prop :=
  K.2.2.2 = MQ K.2.1.2.1 (mQc Q K.2.2.1.1 K.2.2.1.2.1 K.2.2.1.2.2.1 K.2.2.1.2.2.2 n (dMc M)) K.2.1.1 K.1.2.2.2.2.1 (dMc M) (dMs M) (mAc K.2.2.1.2.2.2) ∧ K.2.1.2.2.1.sig.returnType = dR M ∧ K.2.1.2.2.1.locks = false ∧ K.2.1.2.2.1.name = (dY M).name ∧ K.1.2.2.2.2.1.heap.size = K.2.2.1.2.2.2 + n
/-- the locals at a method's entry -/
def mexp : List Value → List Value
  | [] => []
  | .long x :: r => .long x :: .retAddr 0 :: mexp r
  | .double x :: r => .double x :: .retAddr 0 :: mexp r
  | v :: r => v :: mexp r
theorem mexp_args {ad : Nat → Nat} : ∀ (as : List Value) (b i : Nat) (v : Value), (mexp as)[i]? = some v → (∀ k, v ≠ .retAddr k) → (b + i, mv ad v) ∈ lv_args b (as.map (mv ad))
  | [], b, i, v, h, _ => by simp [mexp] at h
  | a :: as, b, i, v, h, hv => by
    have one : (∀ x, a ≠ .long x) → (∀ x, a ≠ .double x) → (b + i, mv ad v) ∈ lv_args b ((a :: as).map (mv ad)) := fun h1 h2 => by
      have e : mexp (a :: as) = a :: mexp as := by
        cases a <;> first | rfl | exact absurd rfl (h1 _) | exact absurd rfl (h2 _)
      have ec : ¬ (mv ad a).category = 2 := by
        rw [mv_cat]
        cases a <;> first | exact absurd rfl (h1 _) | exact absurd rfl (h2 _) | (intro q; cases q)
      rw [e] at h
      show _ ∈ (b, mv ad a) :: lv_args (if (mv ad a).category = 2 then b + 2 else b + 1) (as.map (mv ad))
      rw [if_neg ec]
      cases i with
      | zero =>
        rw [List.getElem?_cons_zero] at h
        cases h
        exact List.mem_cons_self
      | succ i =>
        rw [List.getElem?_cons_succ] at h
        have := mexp_args (ad := ad) as (b + 1) i v h hv
        rw [show b + 1 + i = b + (i + 1) by omega] at this
        exact List.mem_cons_of_mem _ this
    have two : mexp (a :: as) = a :: .retAddr 0 :: mexp as → (mv ad a).category = 2 → (b + i, mv ad v) ∈ lv_args b ((a :: as).map (mv ad)) := fun e ec => by
      rw [e] at h
      show _ ∈ (b, mv ad a) :: lv_args (if (mv ad a).category = 2 then b + 2 else b + 1) (as.map (mv ad))
      rw [if_pos ec]
      cases i with
      | zero =>
        rw [List.getElem?_cons_zero] at h
        cases h
        exact List.mem_cons_self
      | succ i =>
        rw [List.getElem?_cons_succ] at h
        cases i with
        | zero =>
          rw [List.getElem?_cons_zero] at h
          exact absurd (Option.some.inj h).symm (hv 0)
        | succ i =>
          rw [List.getElem?_cons_succ] at h
          have := mexp_args (ad := ad) as (b + 2) i v h hv
          rw [show b + 2 + i = b + (i + 1 + 1) by omega] at this
          exact List.mem_cons_of_mem _ this
    cases a with
    | long x => exact two rfl rfl
    | double x => exact two rfl rfl
    | int x => exact one (fun _ q => by cases q) (fun _ q => by cases q)
    | float x => exact one (fun _ q => by cases q) (fun _ q => by cases q)
    | null => exact one (fun _ q => by cases q) (fun _ q => by cases q)
    | ref x => exact one (fun _ q => by cases q) (fun _ q => by cases q)
    | retAddr x => exact one (fun _ q => by cases q) (fun _ q => by cases q)
def ment (nL : Nat) (as : List Value) : List Value := mexp as ++ List.replicate (nL - (mexp as).length) (.retAddr 0)
theorem ment_has {ad : Nat → Nat} {nL : Nat} {as : List Value} {ls : Array Slot} (h : lv_has ls nL (lv_args 0 (as.map (mv ad)))) : lv_has ls nL (mlv ad (ment nL as)) := by
  refine ⟨h.1, h.2.1, fun q hq => h.2.2 q ?_⟩
  obtain ⟨j, w⟩ := q
  obtain ⟨u, h1, h2, rfl⟩ := mlv_of hq
  unfold ment at h1
  by_cases hj : j < (mexp as).length
  · rw [List.getElem?_append_left hj] at h1
    have := mexp_args (ad := ad) as 0 j u h1 h2
    rwa [Nat.zero_add] at this
  · rw [List.getElem?_append_right (by omega)] at h1
    have := List.eq_of_mem_replicate (List.mem_of_getElem? h1)
    exact absurd this (h2 0)
theorem mexp_len {ad : Nat → Nat} : ∀ as : List Value, (lg_sl (as.map (mv ad))).length = (mexp as).length
  | [] => rfl
  | a :: as => by
    have ih := mexp_len (ad := ad) as
    unfold lg_sl at ih ⊢
    rw [List.map_cons, List.flatMap_cons, List.length_append, ih]
    cases a <;> (simp [mv, mexp, Value.category]; try omega)
/-- A METHOD's PROOF -/
theorem m_enter {M : MD} {as : List Value} {n : Nat} {hp : mHp} {Q : mQ} (hy : plainName (dY M).cls = true) (hown : dOwn M = (dY M).cls) (hlen : (mexp as).length ≤ dL M)
    (body : ∀ K : mK, mFin K M n Q → mW K M 0 0 n hp 0 (ment (dL M) as) []) : mC M as n hp Q := by
  intro l D dA ad base
  refine Met.ofW (cc := dC M) (maxL := dL M) (ret := dR M) hy rfl ?_
  intro p e s m args below meth c s₁ B hml hv
  obtain ⟨rfl, hP, hsz, hK, hj, hn, had, henv⟩ := hv
  have hts := atoms_spec (ws := mWs M) B.pre
  have hl := lv_entry (as.map (mv ad)) (n := dL M) (by rw [mexp_len]; exact hlen)
  rw [lg_entry_eq]
  generalize (lg_sl (as.map (mv ad)) ++ List.replicate (dL M - (lg_sl (as.map (mv ad))).length) Slot.unset).toArray = ls at hl ⊢
  have b := body ((p, l, e, (headSpec (mWs M) (mRm (dV M) (dMc M) (dMs M))).room, s, m), ((as.map (mv ad)).toArray, below, meth, c), (D, dA, ad, base), MQ below (mQc Q D dA ad base n (dMc M)) (as.map (mv ad)).toArray s (dMc M) (dMs M) (mAc base))
    ⟨rfl, B.returns, B.notSynchronized, (name_of_methodNamed B.named B.method).1, hsz⟩
  exact b ⟨B.exec, B.bytes, hml, by rw [hown]; exact findClass_of_methodNamed B.named, fun w hw => hts w (List.mem_cons_of_mem _ hw), hK, by show base ≤ s.heap.size; omega, had, henv, rfl⟩ s.heap [] ls
    ⟨hP, by show base + n = s.heap.size + 0; omega, va_S.rf, hj, hn⟩ (ment_has hl)
section MC
variable {K : mK} {M : MD} {cs sl n : Nat} {hp : mHp} {pc : Nat} {lv st : List Value}
theorem mRel.size {H : Heap} {locs : List Loc} (hk : mOk K M) (hR : mRel K cs n hp H locs) {T : State} (hT : T.heap = H) (X : Stand K.1.1 K.1.2.1 K.1.2.2.1 K.1.2.2.2.1 K.1.2.2.2.2.1 K.1.2.2.2.2.2 K.2.1.1 K.2.1.2.1 K.2.1.2.2.1 K.2.1.2.2.2 T locs cs sl) : H.size = K.2.2.1.2.2.2 + n := by
  have h1 := X.heapSize
  rw [hT] at h1
  have h2 := hR.2.1
  cases n with
  | zero =>
    have h3 := hR.2.2.1.1
    have h4 := hk.2.2.2.2.2.2.1
    omega
  | succ n =>
    have h3 := (hR.1 n _ (mws_at (Nat.lt_succ_self n))).lt
    have h4 := hk.2.2.2.2.2.2.2.1 n (by have := hR.2.2.2.2; omega)
    have h3 : K.2.2.1.2.2.1 n < H.size := h3
    rw [h4] at h3
    omega
/-- behind a new cell: where it lies -/
theorem mRel.push {H H1 : Heap} {locs : List Loc} {c : mE} {q k : Nat} (hk : mOk K M) (hR : mRel K cs n hp H locs) (hn : n < mSC) (hP : va_P K.2.2.1.1 vwCl (mws K.2.2.1.2.1 K.2.2.1.2.2.1 n hp ++ [(q, mcell K.2.2.1.2.1 K.2.2.1.2.2.1 c)]) H1) (hD : va_D (mAc K.2.2.1.2.2.2) (mws K.2.2.1.2.1 K.2.2.1.2.2.1 n hp ++ [(q, mcell K.2.2.1.2.1 K.2.2.1.2.2.1 c)])) (hS : va_S (mAc K.2.2.1.2.2.2) K.1.2.2.2.2.1.heap H1 locs)
    {T : State} (hT : T.heap = H1) (X : Stand K.1.1 K.1.2.1 K.1.2.2.1 K.1.2.2.2.1 K.1.2.2.2.2.1 K.1.2.2.2.2.2 K.2.1.1 K.2.1.2.1 K.2.1.2.2.1 K.2.1.2.2.2 T locs (cs + 1) k) : q = K.2.2.1.2.2.1 n ∧ mRel K (cs + 1) (n + 1) (va_up hp n c) H1 locs := by
  have had := hk.2.2.2.2.2.2.2.1
  have e0 : (mws K.2.2.1.2.1 K.2.2.1.2.2.1 n hp ++ [(q, mcell K.2.2.1.2.1 K.2.2.1.2.2.1 c)])[n]? = some (q, mcell K.2.2.1.2.1 K.2.2.1.2.2.1 c) := by
    rw [List.getElem?_append_right (by rw [mws_len]; exact Nat.le_refl _), mws_len, Nat.sub_self]
    rfl
  have h1 := X.heapSize
  rw [hT] at h1
  have h2 : q < H1.size := (hP n _ e0).lt
  have h3 : K.2.2.1.2.2.2 ≤ q := hD.2 n _ e0
  have h4 := hR.2.1
  have hq : q = K.2.2.1.2.2.1 n := by
    rw [had n hn]
    rcases Nat.lt_or_ge q (K.2.2.1.2.2.2 + n) with z | z
    · have hlt : q - K.2.2.1.2.2.2 < n := by omega
      have e1 : (mws K.2.2.1.2.1 K.2.2.1.2.2.1 n hp ++ [(q, mcell K.2.2.1.2.1 K.2.2.1.2.2.1 c)])[q - K.2.2.1.2.2.2]? = some (K.2.2.1.2.2.1 (q - K.2.2.1.2.2.2), mcell K.2.2.1.2.1 K.2.2.1.2.2.1 (hp (q - K.2.2.1.2.2.2))) := by
        rw [List.getElem?_append_left (by rw [mws_len]; exact hlt), mws_at hlt]
      have := hD.1 _ _ _ _ e0 e1 (by show q = K.2.2.1.2.2.1 _; rw [had _ (by omega)]; omega)
      omega
    · omega
  refine ⟨hq, ?_, by omega, hS, fun z hz => ?_, hn⟩
  · rw [hq, mws_push] at hP
    exact hP
  · rw [va_up_ne _ _ (by omega)]
    exact hR.2.2.2.1 z (by omega)
theorem m_newarray {aty : ArrayType} {ty : FieldType} {z : Int32} {N : Nat} {a0 : vp_A} (hd : decode (dC M) pc = .ok (.newarray aty, 2)) (hty : newarray.typeOf aty = ty) (hw : Cond.arrayClass ty ∈ TB) (hA : ∀ (cA : ClassId) (ad : Nat → Nat), vp_cell cA (mA ad a0) = arrV cA N (fun _ => defaultValue ty)) (ht : ∃ t0 : Nat, ∀ dA : FieldType → ClassId, (mty dA)[t0]? = some (dA ty, ty)) (ho : ∀ C, ty ≠ .object C) (hz : mIx z N 65536) (hb : N * componentBytes ty ≤ 536870912) (hn : n < mSC) (hc : cs + 1 ≤ dMc M) (hs : sl + N ≤ dMs M)
    (kk : mW K M (cs + 1) (sl + N) (n + 1) (va_up hp n (.inl (ty, a0))) (pc + 2) lv (.ref n :: st)) : mW K M cs sl n hp pc lv (.int z :: st) := fun hk H locs ls hR hlv => by
  subst hty
  refine va_newa hk.1 hk.2.1 (hk.2.2.2.2.1 _ hw) rfl hk.2.2.2.2.2.1 hR.1 (m_apart hk.2.2.2.2.2.2.2.1 hR.2.2.2.2) hR.2.2.1 (fun q hq => Nat.le_trans hk.2.2.2.2.2.2.1 hq) (a0 := mA K.2.2.1.2.2.1 a0) (N' := N) (fun cA => hA cA _) hz.nn hz.cl hb (by rw [hk.2.2.2.2.2.2.2.2.2]; exact hc) (by rw [hk.2.2.2.2.2.2.2.2.2]; exact hs) hd (fun q cA H1 hK1 hP1 hD1 hS1 => ?_)
  obtain ⟨t0, ht0⟩ := ht
  have r1 := (hK1.2 5 (cA, newarray.typeOf aty) rfl).2
  have r0 := (hk.2.2.2.2.2.1.2 t0 _ (ht0 K.2.2.1.2.1)).2
  have e1 : cA = K.2.2.1.2.1 (newarray.typeOf aty) := by
    generalize newarray.typeOf aty = ty at r1 r0 ho
    cases ty with
    | object C => exact absurd rfl (ho C)
    | _ => exact Option.some.inj (r1.symm.trans r0)
  subst e1
  intro T hT X
  obtain ⟨rfl, hR1⟩ := mRel.push (c := .inl (newarray.typeOf aty, a0)) hk hR hn hP1 hD1 hS1 hT X
  exact kk hk H1 locs ls hR1 hlv T hT X
theorem m_new {ix ci : Nat} {C : String} {T : u_T} {N : Nat} {ty : Nat → FieldType} {f : Nat → Value} (hd : decode (dC M) pc = .ok (.new ix, 3)) (hcl : vwCl[ci]? = some (C, T, N)) (hin : ∀ w ∈ u_ws C T N, w ∈ TB) (hty : ∀ k, k < N → parseFieldDescriptor (T k).2.2.1 = some (ty k)) (hl : Cond.classLink (dOwn M) ix C ∈ TB) (hi : Cond.instantiable C N ∈ TB) (hini : Cond.initialized C ∈ TB) (hf : ∀ j, j < N → ∀ ad, defaultValue (ty j) = mv ad (f j)) (hn : n < mSC) (hc : cs + 1 ≤ dMc M) (hs : sl + N ≤ dMs M)
    (kk : mW K M (cs + 1) (sl + N) (n + 1) (va_up hp n (.inr (ci, f))) (pc + 3) lv (.ref n :: st)) : mW K M cs sl n hp pc lv st := fun hk H locs ls hR hlv => by
  refine va_new hk.1 hk.2.1 hk.2.2.2.2.1 hin ty hty hk.2.2.2.1 (hk.2.2.2.2.1 _ hl) (hk.2.2.2.2.1 _ hi) (hk.2.2.2.2.1 _ hini) hk.2.2.2.2.2.1 hR.1 (m_apart hk.2.2.2.2.2.2.2.1 hR.2.2.2.2) hR.2.2.1 (fun q hq => Nat.le_trans hk.2.2.2.2.2.2.1 hq) hcl (fs := (List.range (mN ci)).map fun k => mv K.2.2.1.2.2.1 (f k)) (fun j hj => ?_) (by rw [hk.2.2.2.2.2.2.2.2.2]; exact hc) (by rw [hk.2.2.2.2.2.2.2.2.2]; exact hs) hd (fun q H1 hP1 hD1 hS1 => ?_)
  · unfold vp_V
    rw [List.getD_eq_getElem?_getD, List.getElem?_map, List.getElem?_range (by rw [mN_of hcl]; exact hj)]
    exact hf j hj _
  · intro T hT X
    obtain ⟨rfl, hR1⟩ := mRel.push (c := .inr (ci, f)) hk hR hn hP1 hD1 hS1 hT X
    exact kk hk H1 locs ls hR1 hlv T hT X
theorem m_anewarray {ix : Nat} {z : Int32} {N : Nat} (hd : decode (dC M) pc = .ok (.anewarray ix, 3)) (hl : Cond.classLink (dOwn M) ix "LoopJudge$Setting" ∈ TB) (hz : mIx z N 65536) (hn : n < mSC) (hc : cs + 1 ≤ dMc M) (hs : sl + N ≤ dMs M)
    (kk : mW K M (cs + 1) (sl + N) (n + 1) (va_up hp n (eR tyS N (fun _ => none))) (pc + 3) lv (.ref n :: st)) : mW K M cs sl n hp pc lv (.int z :: st) := fun hk H locs ls hR hlv => by
  refine va_newq hk.1 hk.2.1 hk.2.2.2.1 (hk.2.2.2.2.1 _ hl) hk.2.2.2.2.2.2.2.2.1.2.1 hk.2.2.2.2.2.1 hR.1 (m_apart hk.2.2.2.2.2.2.2.1 hR.2.2.2.2) hR.2.2.1 (fun q hq => Nat.le_trans hk.2.2.2.2.2.2.1 hq) hz.nn hz.cl (by have := hz.2; omega) (by rw [hk.2.2.2.2.2.2.2.2.2]; exact hc) (by rw [hk.2.2.2.2.2.2.2.2.2]; exact hs) hd (fun q cA H1 hK1 hP1 hD1 hS1 => ?_)
  obtain ⟨_, _, -, -, -, r1⟩ := (hK1.2 5 (cA, tyS) rfl).2
  obtain ⟨_, _, -, -, -, r0⟩ := (hk.2.2.2.2.2.1.2 4 (K.2.2.1.2.1 tyS, tyS) rfl).2
  have e1 : cA = K.2.2.1.2.1 tyS := Option.some.inj (r1.symm.trans r0)
  subst e1
  intro T hT X
  obtain ⟨rfl, hR1⟩ := mRel.push (c := eR tyS N (fun _ => none)) hk hR hn hP1 hD1 hS1 hT X
  exact kk hk H1 locs ls hR1 hlv T hT X
/-! returns -/
theorem m_ireturn {x : Int32} {n0 : Nat} {Q : mQ} (hF : mFin K M n0 Q) (hd : decode (dC M) pc = .ok (.ireturn, 1)) (hr : dR M = some .int) (hc : cs = dMc M) (hs : sl = dMs M) (hq : Q (some (.int x)) hp) : mW K M cs sl n hp pc lv [.int x] := fun hk H locs ls hR hlv => by
  obtain ⟨h1, h2, h3, h4, h5⟩ := hF
  subst hc hs
  rw [h1]
  have hlocks := h3
  have e : n = n0 + dMc M := by have := hR.2.1; rw [h5] at this; omega
  exact W.iret hk.1 hk.2.1 (h2.trans hr) (fun t ht hW => ⟨some (.int x), hp, rfl, hq, by rw [ht, ← e]; exact hR.1, by rw [← e]; exact hR.2.2.2.1, by rw [← e]; exact hR.2.2.2.2, hR.2.2.1.F ht⟩) hR.2.2.1.2.2 hd
theorem m_zreturn {x : Int32} {ty : FieldType} {n0 : Nat} {Q : mQ} (hF : mFin K M n0 Q) (hd : decode (dC M) pc = .ok (.ireturn, 1)) (hr : dR M = some ty) (hn : narrow ty (.int x) = .int x) (hc : cs = dMc M) (hs : sl = dMs M) (hq : Q (some (.int x)) hp) : mW K M cs sl n hp pc lv [.int x] := fun hk H locs ls hR hlv => by
  obtain ⟨h1, h2, h3, h4, h5⟩ := hF
  subst hc hs
  rw [h1]
  have hlocks := h3
  have e : n = n0 + dMc M := by have := hR.2.1; rw [h5] at this; omega
  exact W.zret hk.1 hk.2.1 (h2.trans hr) hn (fun t ht hW => ⟨some (.int x), hp, rfl, hq, by rw [ht, ← e]; exact hR.1, by rw [← e]; exact hR.2.2.2.1, by rw [← e]; exact hR.2.2.2.2, hR.2.2.1.F ht⟩) hR.2.2.1.2.2 hd
theorem m_lreturn {x : Int64} {n0 : Nat} {Q : mQ} (hF : mFin K M n0 Q) (hd : decode (dC M) pc = .ok (.lreturn, 1)) (hr : dR M = some .long) (hc : cs = dMc M) (hs : sl = dMs M) (hq : Q (some (.long x)) hp) : mW K M cs sl n hp pc lv [.long x] := fun hk H locs ls hR hlv => by
  obtain ⟨h1, h2, h3, h4, h5⟩ := hF
  subst hc hs
  rw [h1]
  have hlocks := h3
  have e : n = n0 + dMc M := by have := hR.2.1; rw [h5] at this; omega
  exact W.lret hk.1 hk.2.1 (h2.trans hr) (fun t ht hW => ⟨some (.long x), hp, rfl, hq, by rw [ht, ← e]; exact hR.1, by rw [← e]; exact hR.2.2.2.1, by rw [← e]; exact hR.2.2.2.2, hR.2.2.1.F ht⟩) hR.2.2.1.2.2 hd
theorem m_areturn {h : Nat} {rt : FieldType} {n0 : Nat} {Q : mQ} (hF : mFin K M n0 Q) (hd : decode (dC M) pc = .ok (.areturn, 1)) (hr : dR M = some rt) (href : (∃ n, rt = FieldType.object n) ∨ ∃ t : FieldType, rt = FieldType.array t) (hc : cs = dMc M) (hs : sl = dMs M) (hq : Q (some (.ref h)) hp) : mW K M cs sl n hp pc lv [.ref h] := fun hk H locs ls hR hlv => by
  obtain ⟨h1, h2, h3, h4, h5⟩ := hF
  subst hc hs
  rw [h1]
  have hlocks := h3
  have e : n = n0 + dMc M := by have := hR.2.1; rw [h5] at this; omega
  exact W.aret hk.1 hk.2.1 (h2.trans hr) href (Or.inr ⟨_, rfl⟩) (fun t ht hW => ⟨some (.ref h), hp, rfl, hq, by rw [ht, ← e]; exact hR.1, by rw [← e]; exact hR.2.2.2.1, by rw [← e]; exact hR.2.2.2.2, hR.2.2.1.F ht⟩) hR.2.2.1.2.2 hd
theorem m_return {n0 : Nat} {Q : mQ} (hF : mFin K M n0 Q) (hd : decode (dC M) pc = .ok (.return_, 1)) (hr : dR M = none) (hc : cs = dMc M) (hs : sl = dMs M) (hq : Q none hp) : mW K M cs sl n hp pc lv [] := fun hk H locs ls hR hlv => by
  obtain ⟨h1, h2, h3, h4, h5⟩ := hF
  subst hc hs
  rw [h1]
  have hlocks := h3
  have e : n = n0 + dMc M := by have := hR.2.1; rw [h5] at this; omega
  exact W.vret hk.1 hk.2.1 (h2.trans hr) (fun t ht hW => ⟨none, hp, rfl, hq, by rw [ht, ← e]; exact hR.1, by rw [← e]; exact hR.2.2.2.1, by rw [← e]; exact hR.2.2.2.2, hR.2.2.1.F ht⟩) hR.2.2.1.2.2 hd
/-! calls -/
/-- a callee: its code is among the words, its class stands -/
def mMd (M' : MD) : Prop := Cond.code (dY M') (dC M') (dL M') (dR M') ∈ TB ∧ Cond.initialized (dY M').cls ∈ TB ∧ ((dY M').cls ≠ "java/lang/invoke/MethodHandle" ∧ (dY M').cls ≠ "java/lang/invoke/VarHandle")
theorem mWs_good {M M' : MD} (h : mMd M') : GoodIn (mWs M) (mWs M') := fun w hw => by
  rcases List.mem_cons.mp hw with rfl | hw
  · exact ⟨List.mem_cons_of_mem _ h.1, tb_good h.1⟩
  · exact ⟨List.mem_cons_of_mem _ hw, tb_good hw⟩
theorem tb_goodIn {M' : MD} (h : mMd M') : GoodIn TB (mWs M') := fun w hw => by
  rcases List.mem_cons.mp hw with rfl | hw
  · exact ⟨h.1, tb_good h.1⟩
  · exact ⟨hw, tb_good hw⟩
def mAr (M' : MD) (k : Nat) : Prop := (parseMethodDescriptor (dY M').desc).map (fun d => d.parameters.length) = some k
theorem m_start {H : Heap} {locs : List Loc} (hk : mOk K M) (hR : mRel K cs n hp H locs) (hz : H.size = K.2.2.1.2.2.2 + n) (U : State) (hU : U.heap = H) (hW : K.1.2.2.2.2.1.WarmedH U.vm) : mPre K.2.2.1.1 K.2.2.1.2.1 K.2.2.1.2.2.1 K.2.2.1.2.2.2 n hp U :=
  ⟨by rw [hU]; exact hR.1, by rw [hU]; exact hz, va_K.moved hW.alike hk.2.2.2.2.2.1, hR.2.2.2.1, hR.2.2.2.2, hk.2.2.2.2.2.2.2.1, by
    rw [hU]
    exact (hk.2.2.2.2.2.2.2.2.1.kept (fun a h1 h2 => hR.2.2.1.2.1 a h1 h2)).moved hW⟩
theorem m_back {Q' : mQ} {mc ms : Nat} {H : Heap} {locs : List Loc} {ls : Array Slot} {st0 rest : List Value} {a : Array Value} (hk : mOk K M) (hR : mRel K cs n hp H locs) (hl : lv_has ls (dL M) (mlv K.2.2.1.2.2.1 lv)) (hrest : rest = st.map (mv K.2.2.1.2.2.1))
    (hr : va_Run K.1.1 K.1.2.1 K.1.2.2.1 K.1.2.2.2.1 K.1.2.2.2.2.1 K.1.2.2.2.2.2 K.2.1.1 K.2.1.2.1 K.2.1.2.2.1 K.2.1.2.2.2 H locs cs sl mc ms (F0 K.1.2.2.2.2.2 pc ls st0) rest (mQc Q' K.2.2.1.1 K.2.2.1.2.1 K.2.2.1.2.2.1 K.2.2.1.2.2.2 n mc a) (mAc K.2.2.1.2.2.2))
    (kk : ∀ v hp', Q' v hp' → mW K M (cs + mc) (sl + ms) (n + mc) hp' (pc + 3) lv (v.toList ++ st)) {T : State} (hT : T.heap = H) (X : Stand K.1.1 K.1.2.1 K.1.2.2.1 K.1.2.2.2.1 K.1.2.2.2.2.1 K.1.2.2.2.2.2 K.2.1.1 K.2.1.2.1 K.2.1.2.2.1 K.2.1.2.2.2 T locs cs sl) :
    ∃ t, Steps K.1.1.tables K.1.2.2.1 K.2.1.2.1 (T.setTop (F0 K.1.2.2.2.2.2 pc ls st0)) t ∧ K.2.2.2 t := by
  obtain ⟨v0, st₀, t, T', L, h0, X', hL, e1, e2, ⟨v, hp', hv, hq, hP, hj, hn, hF⟩, go⟩ := hr T hT X
  cases hv
  have hS : va_S (mAc K.2.2.1.2.2.2) K.1.2.2.2.2.1.heap t.heap (locs ++ L) := by
    refine ⟨Nat.le_trans hR.2.2.1.1 (by have := hF.1; rw [h0] at this; exact this), fun q h1 h2 => ?_, fun q hq' => ?_⟩
    · rw [hF.2 q (by rw [h0]; exact Nat.lt_of_lt_of_le h1 hR.2.2.1.1) h2, h0]
      exact hR.2.2.1.2.1 q h1 h2
    · rcases List.mem_append.mp hq' with z | z
      · exact hR.2.2.1.2.2 q z
      · exact hL q z
  obtain ⟨t2, a1, b1⟩ := kk v hp' hq hk t.heap (locs ++ L) ls ⟨hP, by have := hR.2.1; omega, hS, hj, hn⟩ hl T' e1 X'
  refine ⟨t2, go t2 ?_, b1⟩
  have e : (v.map (mv K.2.2.1.2.2.1)).toList ++ rest = (v.toList ++ st).map (mv K.2.2.1.2.2.1) := by
    rw [hrest, List.map_append]
    cases v <;> rfl
  show Steps _ _ _ (T'.setTop (F0 _ (pc + 3) ls ((v.map (mv K.2.2.1.2.2.1)).toList ++ rest))) t2
  rw [e]
  exact a1
theorem m_words {L : List Value} {ad : Nat → Nat} : ((L.map (mv ad)).map fun v => v.category).sum = (L.map Value.category).sum := by
  rw [List.map_map]
  congr 1
  apply List.map_congr_left
  intro a _
  exact mv_cat ad a
theorem m_invS {ix : Nat} {M' : MD} {as st0 : List Value} {Q' : mQ} (hd : decode (dC M) pc = .ok (.invokestatic ix, 3)) (hl : Cond.methodLink (dOwn M) ix (dY M') ∈ TB ∧ Cond.static (dY M') ∈ TB ∧ mMd M') (har : mAr M' as.length) (hC : mC M' as n hp Q') (hst : st0 = as.reverse ++ st) (hw : (st.map Value.category).sum ≤ 8) (hv : dV M' + 1 ≤ dV M) (hL : dL M' ≤ 20) (hc : cs + dMc M' ≤ dMc M) (hs : sl + dMs M' ≤ dMs M)
    (kk : ∀ v hp', Q' v hp' → mW K M (cs + dMc M') (sl + dMs M') (n + dMc M') hp' (pc + 3) lv (v.toList ++ st)) : mW K M cs sl n hp pc lv st0 := fun hk H locs ls hR hlv => by
  subst hst
  intro T hT X
  have hz := hR.size hk hT X
  have hR' := hk.2.2.2.2.2.2.2.2.2
  refine m_back (st := st) (rest := st.map (mv K.2.2.1.2.2.1)) hk hR hlv rfl (va_runS (As := as.map (mv K.2.2.1.2.2.1)) (n := as.length) (bytes := dC M') (maxL := dL M') (ret := dR M') (own := dOwn M) (index := ix) (Ts := TB) (cc := dC M) (nL := dL M) ⟨hk.1, hk.2.1, hk.2.2.1, hk.2.2.2.1, hk.2.2.2.2.1⟩ (hC _ K.2.2.1.1 K.2.2.1.2.1 K.2.2.1.2.2.1 K.2.2.1.2.2.2) ⟨callB_of as.length hk.2.2.2.2.1 (tb_goodIn hl.2.2) rfl rfl rfl (hk.2.2.2.2.1 _ hl.2.2.2.1) (hk.2.2.2.2.1 _ hl.1) ⟨hl.2.2.2.2.1, hl.2.2.2.2.2, har⟩ ?_, hk.2.2.2.2.1 _ hl.2.1⟩ ⟨mPre.blind, fun U hU hW => ⟨rfl, m_start hk hR hz U hU hW⟩⟩ rfl (List.length_map _) hlv.1 ?_ ?_ hd ?_) kk hT X
  · rw [hR']
    exact ⟨hv, by show 8 + (dL M' + 11) + 40 * dV M' ≤ 40 * dV M; omega⟩
  · show (as.reverse ++ st).map _ = _
    rw [List.map_append, List.map_reverse]
  · show 2 * 0 + _ ≤ 8
    rw [m_words]
    omega
  · rw [hR']
    exact ⟨hc, hs⟩
theorem m_invSN {ix : Nat} {M' : MD} {as st0 : List Value} {Q' : mQ} (hd : decode (dC M) pc = .ok (.invokestatic ix, 3)) (hl : (∀ ad base U H, mEnv ad base U H → va_Nw (.methodLinkNest (dOwn M) ix (dY M') RX7) U) ∧ Cond.static (dY M') ∈ TB ∧ mMd M') (har : mAr M' as.length) (hC : mC M' as n hp Q') (hst : st0 = as.reverse ++ st) (hw : (st.map Value.category).sum ≤ 8) (hv : dV M' + 1 ≤ dV M) (hL : dL M' ≤ 20) (hc : cs + dMc M' ≤ dMc M) (hs : sl + dMs M' ≤ dMs M)
    (kk : ∀ v hp', Q' v hp' → mW K M (cs + dMc M') (sl + dMs M') (n + dMc M') hp' (pc + 3) lv (v.toList ++ st)) : mW K M cs sl n hp pc lv st0 := fun hk H locs ls hR hlv => by
  subst hst
  intro T hT X
  have hz := hR.size hk hT X
  have hR' := hk.2.2.2.2.2.2.2.2.2
  refine m_back (st := st) (rest := st.map (mv K.2.2.1.2.2.1)) hk hR hlv rfl (va_runSN (host := RX7) (As := as.map (mv K.2.2.1.2.2.1)) (n := as.length) (bytes := dC M') (maxL := dL M') (ret := dR M') (own := dOwn M) (index := ix) (Ts := TB) (cc := dC M) (nL := dL M) ⟨hk.1, hk.2.1, hk.2.2.1, hk.2.2.2.1, hk.2.2.2.2.1⟩ (hC _ K.2.2.1.1 K.2.2.1.2.1 K.2.2.1.2.2.1 K.2.2.1.2.2.2) ⟨va_cnB as.length hk.2.2.2.2.1 (tb_goodIn hl.2.2) rfl rfl rfl (hl.1 _ _ _ _ hk.2.2.2.2.2.2.2.2.1) (hk.2.2.2.2.1 _ hl.2.2.2.1) ⟨hl.2.2.2.2.1, hl.2.2.2.2.2, har⟩ ?_, hk.2.2.2.2.1 _ hl.2.1, trivial⟩ ⟨mPre.blind, fun U hU hW => ⟨rfl, m_start hk hR hz U hU hW⟩⟩ rfl (List.length_map _) hlv.1 ?_ ?_ hd ?_) kk hT X
  · rw [hR']
    exact ⟨hv, by show 8 + (dL M' + 11) + 40 * dV M' ≤ 40 * dV M; omega⟩
  · show (as.reverse ++ st).map _ = _
    rw [List.map_append, List.map_reverse]
  · show 2 * 0 + _ ≤ 8
    rw [m_words]
    omega
  · rw [hR']
    exact ⟨hc, hs⟩
theorem m_invV {ix ci h : Nat} {M' : MD} {q : vw_C} {as st0 : List Value} {f : Nat → Value} {Q' : mQ} (hd : decode (dC M) pc = .ok (.invokevirtual ix, 3)) (hl : Cond.methodLink (dOwn M) ix (dY M') ∈ TB ∧ Cond.instanceMethod (dY M') ∈ TB ∧ Cond.selects (dY M').cls (dY M') (dY M') ∈ TB ∧ mMd M') (har : mAr M' as.length) (hci : vwCl[ci]? = some q) (hcn : q.1 = (dY M').cls) (hc0 : hp h = .inr (ci, f)) (hC : mC M' (.ref h :: as) n hp Q') (hst : st0 = as.reverse ++ .ref h :: st) (hw : (st.map Value.category).sum ≤ 8) (hv : dV M' + 1 ≤ dV M) (hL : dL M' ≤ 20) (hc : cs + dMc M' ≤ dMc M) (hs : sl + dMs M' ≤ dMs M)
    (kk : ∀ v hp', Q' v hp' → mW K M (cs + dMc M') (sl + dMs M') (n + dMc M') hp' (pc + 3) lv (v.toList ++ st)) : mW K M cs sl n hp pc lv st0 := fun hk H locs ls hR hlv => by
  subst hst
  intro T hT X
  have hz := hR.size hk hT X
  have hR' := hk.2.2.2.2.2.2.2.2.2
  have hh : h < n := mlt_o hR hc0 hci
  have hrecv := va_recv hk.2.2.2.2.2.1 hR.1 hci (q0 := h) (a := K.2.2.1.2.2.1 h) (fs := (List.range (mN ci)).map fun k => mv K.2.2.1.2.2.1 (f k)) (by rw [mws_at hh, hc0]; rfl)
  rw [hcn] at hrecv
  refine m_back (st := st) (rest := st.map (mv K.2.2.1.2.2.1)) hk hR hlv rfl (va_runV (C := (dY M').cls) (b := K.2.2.1.2.2.1 h) (As := as.map (mv K.2.2.1.2.2.1)) (n := as.length) (bytes := dC M') (maxL := dL M') (ret := dR M') (own := dOwn M) (index := ix) (Ts := TB) (cc := dC M) (nL := dL M) ⟨hk.1, hk.2.1, hk.2.2.1, hk.2.2.2.1, hk.2.2.2.2.1⟩ (hC _ K.2.2.1.1 K.2.2.1.2.1 K.2.2.1.2.2.1 K.2.2.1.2.2.2) ⟨callB_of as.length hk.2.2.2.2.1 (tb_goodIn hl.2.2.2) rfl rfl rfl (hk.2.2.2.2.1 _ hl.2.2.2.2.1) (hk.2.2.2.2.1 _ hl.1) ⟨hl.2.2.2.2.2.1, hl.2.2.2.2.2.2, har⟩ ?_, hk.2.2.2.2.1 _ hl.2.1, hk.2.2.2.2.1 _ hl.2.2.1⟩ ⟨mPre.blind, hrecv, fun U hU hW => ⟨rfl, m_start hk hR hz U hU hW⟩⟩ rfl (List.length_map _) hlv.1 ?_ ?_ hd ?_) kk hT X
  · rw [hR']
    exact ⟨hv, by show 8 + (dL M' + 11) + 40 * dV M' ≤ 40 * dV M; omega⟩
  · show (as.reverse ++ .ref h :: st).map _ = _
    rw [List.map_append, List.map_reverse]
    rfl
  · show 2 * 0 + _ ≤ 8
    rw [m_words]
    omega
  · rw [hR']
    exact ⟨hc, hs⟩
theorem m_invI {ix h : Nat} {M' : MD} {as st0 : List Value} {Q' : mQ} (hd : decode (dC M) pc = .ok (.invokespecial ix, 3)) (hl : Cond.methodLink (dOwn M) ix (dY M') ∈ TB ∧ Cond.instanceMethod (dY M') ∈ TB ∧ (dY M').name = "<init>" ∧ mMd M') (har : mAr M' as.length) (hret : dR M' = none) (hC : mC M' (.ref h :: as) n hp Q') (hst : st0 = as.reverse ++ .ref h :: st) (hw : (st.map Value.category).sum ≤ 8) (hv : dV M' + 1 ≤ dV M) (hL : dL M' ≤ 20) (hc : cs + dMc M' ≤ dMc M) (hs : sl + dMs M' ≤ dMs M)
    (kk : ∀ v hp', Q' v hp' → mW K M (cs + dMc M') (sl + dMs M') (n + dMc M') hp' (pc + 3) lv (v.toList ++ st)) : mW K M cs sl n hp pc lv st0 := fun hk H locs ls hR hlv => by
  subst hst
  intro T hT X
  have hz := hR.size hk hT X
  have hR' := hk.2.2.2.2.2.2.2.2.2
  refine m_back (st := st) (rest := st.map (mv K.2.2.1.2.2.1)) hk hR hlv rfl (va_runI (b := K.2.2.1.2.2.1 h) (As := as.map (mv K.2.2.1.2.2.1)) (n := as.length) (bytes := dC M') (maxL := dL M') (own := dOwn M) (index := ix) (Ts := TB) (cc := dC M) (nL := dL M) ⟨hk.1, hk.2.1, hk.2.2.1, hk.2.2.2.1, hk.2.2.2.2.1⟩ (hC _ K.2.2.1.1 K.2.2.1.2.1 K.2.2.1.2.2.1 K.2.2.1.2.2.2) ⟨callB_of as.length hk.2.2.2.2.1 (tb_goodIn hl.2.2.2) (by rw [← hret]) rfl rfl (hk.2.2.2.2.1 _ hl.2.2.2.2.1) (hk.2.2.2.2.1 _ hl.1) ⟨hl.2.2.2.2.2.1, hl.2.2.2.2.2.2, har⟩ ?_, hl.2.2.1, hk.2.2.2.2.1 _ hl.2.1⟩ ⟨mPre.blind, fun U hU hW => ⟨rfl, m_start hk hR hz U hU hW⟩⟩ rfl (List.length_map _) hlv.1 ?_ ?_ hd ?_) kk hT X
  · rw [hR']
    exact ⟨hv, by show 8 + (dL M' + 11) + 40 * dV M' ≤ 40 * dV M; omega⟩
  · show (as.reverse ++ .ref h :: st).map _ = _
    rw [List.map_append, List.map_reverse]
    rfl
  · show 2 * 0 + _ ≤ 8
    rw [m_words]
    omega
  · rw [hR']
    exact ⟨hc, hs⟩
theorem m_objInit {ix h : Nat} (hd : decode (dC M) pc = .ok (.invokespecial ix, 3)) (hl : Cond.methodLink (dOwn M) ix Lib.objectInit ∈ TB ∧ Cond.instanceMethod Lib.objectInit ∈ TB ∧ Cond.code Lib.objectInit ⟨#[0xb1]⟩ 1 none ∈ TB) (hw : (st.map Value.category).sum ≤ 8) (hv : 1 ≤ dV M) (kk : mW K M cs sl n hp (pc + 3) lv st) : mW K M cs sl n hp pc lv (.ref h :: st) := fun hk H locs ls hR hlv => by
  have hR' := hk.2.2.2.2.2.2.2.2.2
  refine W.objInit hk.1 hk.2.1 hk.2.2.2.1 (hk.2.2.2.2.1 _ hl.1) (hk.2.2.2.2.1 _ hl.2.1) (hk.2.2.2.2.1 _ hl.2.2) rfl (by rw [hk.2.2.1]; exact hlv.1) rfl hd (by rw [hR']; exact hv) ?_ (kk hk H locs ls hR hlv)
  rw [hR']
  show 2 * 0 + _ + 12 ≤ 40 * dV M
  rw [m_words]
  omega
/-- System.arraycopy of ints -/
theorem m_copyI {ix h0 h1 n0 n1 s0 d0 k : Nat} {f g : Nat → Int32} {sp dp z : Int32} (hd : decode (dC M) pc = .ok (.invokestatic ix, 3)) (hl : Cond.methodLink (dOwn M) ix arraycopyName ∈ TB ∧ Cond.native arraycopyName ∈ TB ∧ Cond.static arraycopyName ∈ TB ∧ Cond.initialized "java/lang/System" ∈ TB) (hc0 : hp h0 = eI n0 f) (hc1 : hp h1 = eI n1 g) (hs : sp.toInt = (s0 : Int)) (hp' : dp.toInt = (d0 : Int)) (hz : z.toInt = (k : Int)) (hb0 : s0 + k ≤ n0) (hb1 : d0 + k ≤ n1) (hw : (st.map Value.category).sum ≤ 8) (hv : 1 ≤ dV M)
    (kk : mW K M cs sl n (va_up hp h1 (eI n1 (va_cpy f g s0 d0 k))) (pc + 3) lv st) : mW K M cs sl n hp pc lv (.int z :: .int dp :: .ref h1 :: .int sp :: .ref h0 :: st) := fun hk H locs ls hR hlv => by
  have hR' := hk.2.2.2.2.2.2.2.2.2
  have hh0 : h0 < n := mlt_a hR hc0
  have hh1 : h1 < n := mlt_a hR hc1
  have is : mIx sp s0 (s0 + 1) := ⟨hs, by omega⟩
  have id : mIx dp d0 (d0 + 1) := ⟨hp', by omega⟩
  have iz : mIx z k (k + 1) := ⟨hz, by omega⟩
  refine va_copyi hk.1 hk.2.1 (by rw [hk.2.2.1]; exact hlv.1.symm) hk.2.2.2.1 (hk.2.2.2.2.1 _ hl.1) (hk.2.2.2.2.1 _ hl.2.1) (hk.2.2.2.2.1 _ hl.2.2.1) (hk.2.2.2.2.1 _ hl.2.2.2) hk.2.2.2.2.2.1 hR.1 (m_apart hk.2.2.2.2.2.2.2.1 hR.2.2.2.2) hR.2.2.1 h0 h1 0 0 (ty := .int) (n0 := n0) (n1 := n1) (f := f) (g := g) (by rw [mws_at hh0, hc0]; rfl) (by rw [mws_at hh1, hc1]; rfl) rfl rfl rfl is.nn id.nn iz.nn (by rw [is.cl, iz.cl]; exact hb0) (by rw [id.cl, iz.cl]; exact hb1) (fun _ _ => rfl) (by rw [hR']; exact hv) ?_ hd (fun H1 locs1 hP1 hD1 hS1 => ?_)
  · rw [hR']
    show _ + _ ≤ 40 * dV M
    rw [m_words]
    have : nativeFrameWords "java/lang/System" "arraycopy" 5 + 11 ≤ 32 := by decide +kernel
    omega
  · rw [is.cl, id.cl, iz.cl] at hP1
    exact kk hk H1 locs1 ls (hR.up hh1 hP1 hS1) hlv
theorem m_copyL {ix h0 h1 n0 n1 s0 d0 k : Nat} {f g : Nat → Int64} {sp dp z : Int32} (hd : decode (dC M) pc = .ok (.invokestatic ix, 3)) (hl : Cond.methodLink (dOwn M) ix arraycopyName ∈ TB ∧ Cond.native arraycopyName ∈ TB ∧ Cond.static arraycopyName ∈ TB ∧ Cond.initialized "java/lang/System" ∈ TB) (hc0 : hp h0 = eL n0 f) (hc1 : hp h1 = eL n1 g) (hs : sp.toInt = (s0 : Int)) (hp' : dp.toInt = (d0 : Int)) (hz : z.toInt = (k : Int)) (hb0 : s0 + k ≤ n0) (hb1 : d0 + k ≤ n1) (hw : (st.map Value.category).sum ≤ 8) (hv : 1 ≤ dV M)
    (kk : mW K M cs sl n (va_up hp h1 (eL n1 (va_cpy f g s0 d0 k))) (pc + 3) lv st) : mW K M cs sl n hp pc lv (.int z :: .int dp :: .ref h1 :: .int sp :: .ref h0 :: st) := fun hk H locs ls hR hlv => by
  have hR' := hk.2.2.2.2.2.2.2.2.2
  have hh0 : h0 < n := mlt_a hR hc0
  have hh1 : h1 < n := mlt_a hR hc1
  have is : mIx sp s0 (s0 + 1) := ⟨hs, by omega⟩
  have id : mIx dp d0 (d0 + 1) := ⟨hp', by omega⟩
  have iz : mIx z k (k + 1) := ⟨hz, by omega⟩
  refine va_copyl hk.1 hk.2.1 (by rw [hk.2.2.1]; exact hlv.1.symm) hk.2.2.2.1 (hk.2.2.2.2.1 _ hl.1) (hk.2.2.2.2.1 _ hl.2.1) (hk.2.2.2.2.1 _ hl.2.2.1) (hk.2.2.2.2.1 _ hl.2.2.2) hk.2.2.2.2.2.1 hR.1 (m_apart hk.2.2.2.2.2.2.2.1 hR.2.2.2.2) hR.2.2.1 h0 h1 1 1 (ty := .long) (n0 := n0) (n1 := n1) (f := f) (g := g) (by rw [mws_at hh0, hc0]; rfl) (by rw [mws_at hh1, hc1]; rfl) rfl rfl rfl is.nn id.nn iz.nn (by rw [is.cl, iz.cl]; exact hb0) (by rw [id.cl, iz.cl]; exact hb1) (fun _ _ => rfl) (by rw [hR']; exact hv) ?_ hd (fun H1 locs1 hP1 hD1 hS1 => ?_)
  · rw [hR']
    show _ + _ ≤ 40 * dV M
    rw [m_words]
    have : nativeFrameWords "java/lang/System" "arraycopy" 5 + 11 ≤ 32 := by decide +kernel
    omega
  · rw [is.cl, id.cl, iz.cl] at hP1
    exact kk hk H1 locs1 ls (hR.up hh1 hP1 hS1) hlv
end MC
end
section
theorem t_1 {w : Cond} (h : w ∈ tables_1_1) : w ∈ lw_tbl := List.mem_append_right _ (List.mem_append_left _ h)
theorem t_2 {w : Cond} (h : w ∈ tables_1_2) : w ∈ lw_tbl := List.mem_append_right _ (List.mem_append_right _ (List.mem_append_left _ h))
theorem t_3 {w : Cond} (h : w ∈ tables_1_3) : w ∈ lw_tbl := List.mem_append_right _ (List.mem_append_right _ (List.mem_append_right _ (List.mem_append_left _ h)))
theorem t_4 {w : Cond} (h : w ∈ tables_1_4) : w ∈ lw_tbl := List.mem_append_right _ (List.mem_append_right _ (List.mem_append_right _ (List.mem_append_right _ h)))
theorem w_1_0 : (Jvm.Cond.initialized "LoopJudgeLaw") ∈ TB := tb_of (t_1 (List.mem_of_getElem? (i := 0) rfl)) rfl
theorem w_1_1 : (Jvm.Cond.initialized "LoopJudge") ∈ TB := tb_of (t_1 (List.mem_of_getElem? (i := 1) rfl)) rfl
theorem w_1_2 : (Jvm.Cond.initialized "LoopJudge$Setting") ∈ TB := tb_of (t_1 (List.mem_of_getElem? (i := 2) rfl)) rfl
theorem w_1_3 : (Jvm.Cond.initialized "LoopJudge$Past") ∈ TB := tb_of (t_1 (List.mem_of_getElem? (i := 3) rfl)) rfl
theorem w_1_4 : (Jvm.Cond.initialized "LoopJudge$Tape") ∈ TB := tb_of (t_1 (List.mem_of_getElem? (i := 4) rfl)) rfl
theorem w_1_5 : (Jvm.Cond.initialized "LoopJudge$Shelf") ∈ TB := tb_of (t_1 (List.mem_of_getElem? (i := 5) rfl)) rfl
theorem w_1_6 : (Jvm.Cond.initialized "LoopJudge$Judge") ∈ TB := tb_of (t_1 (List.mem_of_getElem? (i := 6) rfl)) rfl
theorem w_1_7 : (Jvm.Cond.initialized "LoopJudge$Chain") ∈ TB := tb_of (t_1 (List.mem_of_getElem? (i := 7) rfl)) rfl
theorem w_1_8 : (Jvm.Cond.initialized "LoopJudge$SpanBook") ∈ TB := tb_of (t_1 (List.mem_of_getElem? (i := 8) rfl)) rfl
theorem w_1_9 : (Jvm.Cond.initialized "LoopJudgeModel") ∈ TB := tb_of (t_1 (List.mem_of_getElem? (i := 9) rfl)) rfl
theorem w_1_10 : (Jvm.Cond.initialized "java/lang/System") ∈ TB := tb_of (t_1 (List.mem_of_getElem? (i := 10) rfl)) rfl
theorem w_1_11 : (Jvm.Cond.initialized "java/lang/Math") ∈ TB := tb_of (t_1 (List.mem_of_getElem? (i := 11) rfl)) rfl
theorem w_1_12 : (Jvm.Cond.initialized "java/lang/Integer") ∈ TB := tb_of (t_1 (List.mem_of_getElem? (i := 12) rfl)) rfl
theorem w_1_13 : (Jvm.Cond.initialized "java/util/Arrays") ∈ TB := tb_of (t_1 (List.mem_of_getElem? (i := 13) rfl)) rfl
theorem w_1_14 : (Jvm.Cond.classLink "LoopJudgeLaw" (7 : Nat) "LoopJudge") ∈ TB := tb_of (t_1 (List.mem_of_getElem? (i := 14) rfl)) rfl
theorem w_1_15 : (Jvm.Cond.instantiable "LoopJudge" (11 : Nat)) ∈ TB := tb_of (t_1 (List.mem_of_getElem? (i := 15) rfl)) rfl
theorem w_1_16 : (Jvm.Cond.methodLink "LoopJudgeLaw" (9 : Nat) ({ cls := "LoopJudge", name := "<init>", desc := "()V" } : Jvm.MethodName)) ∈ TB := tb_of (t_1 (List.mem_of_getElem? (i := 16) rfl)) rfl
theorem w_1_17 : (Jvm.Cond.instanceMethod ({ cls := "LoopJudge", name := "<init>", desc := "()V" } : Jvm.MethodName)) ∈ TB := tb_of (t_1 (List.mem_of_getElem? (i := 17) rfl)) rfl
theorem w_1_18 : (Jvm.Cond.code ({ cls := "LoopJudge", name := "<init>", desc := "()V" } : Jvm.MethodName) prog_1_method_1_code (1 : Nat) (Option.none : Option Jvm.ClassFile.FieldType)) ∈ TB := tb_of (t_1 (List.mem_of_getElem? (i := 18) rfl)) rfl
theorem w_1_19 : (Jvm.Cond.methodLink "LoopJudge" (3 : Nat) ({ cls := "java/lang/Object", name := "<init>", desc := "()V" } : Jvm.MethodName)) ∈ TB := tb_of (t_1 (List.mem_of_getElem? (i := 19) rfl)) rfl
theorem w_1_20 : (Jvm.Cond.instanceMethod ({ cls := "java/lang/Object", name := "<init>", desc := "()V" } : Jvm.MethodName)) ∈ TB := tb_of (t_1 (List.mem_of_getElem? (i := 20) rfl)) rfl
theorem w_1_21 : (Jvm.Cond.code ({ cls := "java/lang/Object", name := "<init>", desc := "()V" } : Jvm.MethodName) object_method_1_code (1 : Nat) (Option.none : Option Jvm.ClassFile.FieldType)) ∈ TB := tb_of (t_1 (List.mem_of_getElem? (i := 21) rfl)) rfl
theorem w_1_22 : (Jvm.Cond.classLink "LoopJudge" (9 : Nat) "LoopJudge$Setting") ∈ TB := tb_of (t_1 (List.mem_of_getElem? (i := 22) rfl)) rfl
theorem w_1_23 : (Jvm.Cond.instantiable "LoopJudge$Setting" (3 : Nat)) ∈ TB := tb_of (t_1 (List.mem_of_getElem? (i := 23) rfl)) rfl
theorem w_1_24 : (Jvm.Cond.methodLink "LoopJudge" (11 : Nat) ({ cls := "LoopJudge$Setting", name := "<init>", desc := "()V" } : Jvm.MethodName)) ∈ TB := tb_of (t_1 (List.mem_of_getElem? (i := 24) rfl)) rfl
theorem w_1_25 : (Jvm.Cond.instanceMethod ({ cls := "LoopJudge$Setting", name := "<init>", desc := "()V" } : Jvm.MethodName)) ∈ TB := tb_of (t_1 (List.mem_of_getElem? (i := 25) rfl)) rfl
theorem w_1_26 : (Jvm.Cond.code ({ cls := "LoopJudge$Setting", name := "<init>", desc := "()V" } : Jvm.MethodName) prog_5_method_1_code (1 : Nat) (Option.none : Option Jvm.ClassFile.FieldType)) ∈ TB := tb_of (t_1 (List.mem_of_getElem? (i := 26) rfl)) rfl
theorem w_1_27 : (Jvm.Cond.methodLink "LoopJudge$Setting" (3 : Nat) ({ cls := "java/lang/Object", name := "<init>", desc := "()V" } : Jvm.MethodName)) ∈ TB := tb_of (t_1 (List.mem_of_getElem? (i := 27) rfl)) rfl
theorem w_1_28 : (Jvm.Cond.fieldLink "LoopJudge$Setting" (9 : Nat) "LoopJudge$Setting" "parts" "[I") ∈ TB := tb_of (t_1 (List.mem_of_getElem? (i := 28) rfl)) rfl
theorem w_1_29 : (Jvm.Cond.fieldLink "LoopJudge$SpanBook" (46 : Nat) "LoopJudge$Setting" "parts" "[I") ∈ TB := tb_of (t_1 (List.mem_of_getElem? (i := 29) rfl)) rfl
theorem w_1_30 : (Jvm.Cond.fieldLink "LoopJudge" (81 : Nat) "LoopJudge$Setting" "parts" "[I") ∈ TB := tb_of (t_1 (List.mem_of_getElem? (i := 30) rfl)) rfl
theorem w_1_31 : (Jvm.Cond.fieldLink "LoopJudge$Setting" (15 : Nat) "LoopJudge$Setting" "gainTold" "I") ∈ TB := tb_of (t_1 (List.mem_of_getElem? (i := 31) rfl)) rfl
theorem w_1_32 : (Jvm.Cond.fieldLink "LoopJudge" (93 : Nat) "LoopJudge$Setting" "gainTold" "I") ∈ TB := tb_of (t_1 (List.mem_of_getElem? (i := 32) rfl)) rfl
theorem w_1_33 : (Jvm.Cond.fieldLink "LoopJudge$Setting" (19 : Nat) "LoopJudge$Setting" "draw" "I") ∈ TB := tb_of (t_1 (List.mem_of_getElem? (i := 33) rfl)) rfl
theorem w_1_34 : (Jvm.Cond.fieldLink "LoopJudge" (209 : Nat) "LoopJudge$Setting" "draw" "I") ∈ TB := tb_of (t_1 (List.mem_of_getElem? (i := 34) rfl)) rfl
theorem w_1_35 : (Jvm.Cond.laysFinal "LoopJudge$Setting" "LoopJudge$Setting" "parts" "[I") ∈ TB := tb_of (t_1 (List.mem_of_getElem? (i := 35) rfl)) rfl
theorem w_1_37 : (Jvm.Cond.lays "LoopJudge$Setting" "LoopJudge$Setting" "gainTold" "I") ∈ TB := tb_of (t_1 (List.mem_of_getElem? (i := 37) rfl)) rfl
theorem w_1_39 : (Jvm.Cond.lays "LoopJudge$Setting" "LoopJudge$Setting" "draw" "I") ∈ TB := tb_of (t_1 (List.mem_of_getElem? (i := 39) rfl)) rfl
theorem w_1_42 : (Jvm.Cond.arrayClass Jvm.ClassFile.FieldType.int) ∈ TB := tb_of (t_1 (List.mem_of_getElem? (i := 42) rfl)) rfl
theorem w_1_43 : (Jvm.Cond.methodLink "LoopJudge" (16 : Nat) ({ cls := "LoopJudge$Setting", name := "begin", desc := "()V" } : Jvm.MethodName)) ∈ TB := tb_of (t_1 (List.mem_of_getElem? (i := 43) rfl)) rfl
theorem w_1_44 : (Jvm.Cond.instanceMethod ({ cls := "LoopJudge$Setting", name := "begin", desc := "()V" } : Jvm.MethodName)) ∈ TB := tb_of (t_1 (List.mem_of_getElem? (i := 44) rfl)) rfl
theorem w_1_45 : (Jvm.Cond.selects "LoopJudge$Setting" ({ cls := "LoopJudge$Setting", name := "begin", desc := "()V" } : Jvm.MethodName) ({ cls := "LoopJudge$Setting", name := "begin", desc := "()V" } : Jvm.MethodName)) ∈ TB := tb_of (t_1 (List.mem_of_getElem? (i := 45) rfl)) rfl
theorem w_1_46 : (Jvm.Cond.code ({ cls := "LoopJudge$Setting", name := "begin", desc := "()V" } : Jvm.MethodName) prog_5_method_2_code (1 : Nat) (Option.none : Option Jvm.ClassFile.FieldType)) ∈ TB := tb_of (t_1 (List.mem_of_getElem? (i := 46) rfl)) rfl
theorem w_1_47 : (Jvm.Cond.classLink "LoopJudge" (19 : Nat) "LoopJudge$Past") ∈ TB := tb_of (t_1 (List.mem_of_getElem? (i := 47) rfl)) rfl
theorem w_1_48 : (Jvm.Cond.instantiable "LoopJudge$Past" (3 : Nat)) ∈ TB := tb_of (t_1 (List.mem_of_getElem? (i := 48) rfl)) rfl
theorem w_1_49 : (Jvm.Cond.methodLink "LoopJudge" (21 : Nat) ({ cls := "LoopJudge$Past", name := "<init>", desc := "()V" } : Jvm.MethodName)) ∈ TB := tb_of (t_1 (List.mem_of_getElem? (i := 49) rfl)) rfl
theorem w_1_50 : (Jvm.Cond.instanceMethod ({ cls := "LoopJudge$Past", name := "<init>", desc := "()V" } : Jvm.MethodName)) ∈ TB := tb_of (t_1 (List.mem_of_getElem? (i := 50) rfl)) rfl
theorem w_1_51 : (Jvm.Cond.code ({ cls := "LoopJudge$Past", name := "<init>", desc := "()V" } : Jvm.MethodName) prog_4_method_1_code (2 : Nat) (Option.none : Option Jvm.ClassFile.FieldType)) ∈ TB := tb_of (t_1 (List.mem_of_getElem? (i := 51) rfl)) rfl
theorem w_1_52 : (Jvm.Cond.methodLink "LoopJudge$Past" (1 : Nat) ({ cls := "java/lang/Object", name := "<init>", desc := "()V" } : Jvm.MethodName)) ∈ TB := tb_of (t_1 (List.mem_of_getElem? (i := 52) rfl)) rfl
theorem w_1_53 : (Jvm.Cond.classLink "LoopJudge$Past" (9 : Nat) "LoopJudge$Setting") ∈ TB := tb_of (t_1 (List.mem_of_getElem? (i := 53) rfl)) rfl
theorem w_1_55 : (Jvm.Cond.methodLink "LoopJudge$Past" (15 : Nat) ({ cls := "LoopJudge$Setting", name := "<init>", desc := "()V" } : Jvm.MethodName)) ∈ TB := tb_of (t_1 (List.mem_of_getElem? (i := 55) rfl)) rfl
theorem w_1_56 : (Jvm.Cond.fieldLink "LoopJudge$Past" (11 : Nat) "LoopJudge$Past" "settings" "[LLoopJudge$Setting;") ∈ TB := tb_of (t_1 (List.mem_of_getElem? (i := 56) rfl)) rfl
theorem w_1_57 : (Jvm.Cond.fieldLink "LoopJudge$Past" (16 : Nat) "LoopJudge$Past" "newest" "I") ∈ TB := tb_of (t_1 (List.mem_of_getElem? (i := 57) rfl)) rfl
theorem w_1_58 : (Jvm.Cond.fieldLink "LoopJudge$Past" (20 : Nat) "LoopJudge$Past" "known" "I") ∈ TB := tb_of (t_1 (List.mem_of_getElem? (i := 58) rfl)) rfl
theorem w_1_59 : (Jvm.Cond.fieldLink "LoopJudge" (112 : Nat) "LoopJudge$Past" "known" "I") ∈ TB := tb_of (t_1 (List.mem_of_getElem? (i := 59) rfl)) rfl
theorem w_1_60 : (Jvm.Cond.laysFinal "LoopJudge$Past" "LoopJudge$Past" "settings" "[LLoopJudge$Setting;") ∈ TB := tb_of (t_1 (List.mem_of_getElem? (i := 60) rfl)) rfl
theorem w_1_62 : (Jvm.Cond.lays "LoopJudge$Past" "LoopJudge$Past" "newest" "I") ∈ TB := tb_of (t_1 (List.mem_of_getElem? (i := 62) rfl)) rfl
theorem w_1_64 : (Jvm.Cond.lays "LoopJudge$Past" "LoopJudge$Past" "known" "I") ∈ TB := tb_of (t_1 (List.mem_of_getElem? (i := 64) rfl)) rfl
theorem w_1_67 : (Jvm.Cond.classLink "LoopJudge" (36 : Nat) "LoopJudge$Tape") ∈ TB := tb_of (t_1 (List.mem_of_getElem? (i := 67) rfl)) rfl
theorem w_1_68 : (Jvm.Cond.instantiable "LoopJudge$Tape" (7 : Nat)) ∈ TB := tb_of (t_1 (List.mem_of_getElem? (i := 68) rfl)) rfl
theorem w_1_69 : (Jvm.Cond.methodLink "LoopJudge" (38 : Nat) ({ cls := "LoopJudge$Tape", name := "<init>", desc := "()V" } : Jvm.MethodName)) ∈ TB := tb_of (t_1 (List.mem_of_getElem? (i := 69) rfl)) rfl
theorem w_1_70 : (Jvm.Cond.instanceMethod ({ cls := "LoopJudge$Tape", name := "<init>", desc := "()V" } : Jvm.MethodName)) ∈ TB := tb_of (t_1 (List.mem_of_getElem? (i := 70) rfl)) rfl
theorem w_1_71 : (Jvm.Cond.code ({ cls := "LoopJudge$Tape", name := "<init>", desc := "()V" } : Jvm.MethodName) prog_8_method_1_code (1 : Nat) (Option.none : Option Jvm.ClassFile.FieldType)) ∈ TB := tb_of (t_1 (List.mem_of_getElem? (i := 71) rfl)) rfl
theorem w_1_72 : (Jvm.Cond.methodLink "LoopJudge$Tape" (3 : Nat) ({ cls := "java/lang/Object", name := "<init>", desc := "()V" } : Jvm.MethodName)) ∈ TB := tb_of (t_1 (List.mem_of_getElem? (i := 72) rfl)) rfl
theorem w_1_73 : (Jvm.Cond.fieldLink "LoopJudge$Tape" (11 : Nat) "LoopJudge$Tape" "letters" "[B") ∈ TB := tb_of (t_1 (List.mem_of_getElem? (i := 73) rfl)) rfl
theorem w_1_74 : (Jvm.Cond.fieldLink "LoopJudge$Tape" (15 : Nat) "LoopJudge$Tape" "parts" "[I") ∈ TB := tb_of (t_1 (List.mem_of_getElem? (i := 74) rfl)) rfl
theorem w_1_75 : (Jvm.Cond.fieldLink "LoopJudge" (193 : Nat) "LoopJudge$Tape" "parts" "[I") ∈ TB := tb_of (t_1 (List.mem_of_getElem? (i := 75) rfl)) rfl
theorem w_1_76 : (Jvm.Cond.fieldLink "LoopJudge$Tape" (19 : Nat) "LoopJudge$Tape" "tellsQ" "Z") ∈ TB := tb_of (t_1 (List.mem_of_getElem? (i := 76) rfl)) rfl
theorem w_1_77 : (Jvm.Cond.fieldLink "LoopJudge" (194 : Nat) "LoopJudge$Tape" "tellsQ" "Z") ∈ TB := tb_of (t_1 (List.mem_of_getElem? (i := 77) rfl)) rfl
theorem w_1_78 : (Jvm.Cond.fieldLink "LoopJudge$Tape" (23 : Nat) "LoopJudge$Tape" "size" "I") ∈ TB := tb_of (t_1 (List.mem_of_getElem? (i := 78) rfl)) rfl
theorem w_1_79 : (Jvm.Cond.fieldLink "LoopJudge" (188 : Nat) "LoopJudge$Tape" "size" "I") ∈ TB := tb_of (t_1 (List.mem_of_getElem? (i := 79) rfl)) rfl
theorem w_1_80 : (Jvm.Cond.fieldLink "LoopJudge$Tape" (27 : Nat) "LoopJudge$Tape" "place" "I") ∈ TB := tb_of (t_1 (List.mem_of_getElem? (i := 80) rfl)) rfl
theorem w_1_81 : (Jvm.Cond.fieldLink "LoopJudge$Tape" (30 : Nat) "LoopJudge$Tape" "figure" "I") ∈ TB := tb_of (t_1 (List.mem_of_getElem? (i := 81) rfl)) rfl
theorem w_1_82 : (Jvm.Cond.fieldLink "LoopJudge$Tape" (33 : Nat) "LoopJudge$Tape" "power" "I") ∈ TB := tb_of (t_1 (List.mem_of_getElem? (i := 82) rfl)) rfl
theorem w_1_83 : (Jvm.Cond.laysFinal "LoopJudge$Tape" "LoopJudge$Tape" "letters" "[B") ∈ TB := tb_of (t_1 (List.mem_of_getElem? (i := 83) rfl)) rfl
theorem w_1_85 : (Jvm.Cond.laysFinal "LoopJudge$Tape" "LoopJudge$Tape" "parts" "[I") ∈ TB := tb_of (t_1 (List.mem_of_getElem? (i := 85) rfl)) rfl
theorem w_1_87 : (Jvm.Cond.lays "LoopJudge$Tape" "LoopJudge$Tape" "tellsQ" "Z") ∈ TB := tb_of (t_1 (List.mem_of_getElem? (i := 87) rfl)) rfl
theorem w_1_89 : (Jvm.Cond.lays "LoopJudge$Tape" "LoopJudge$Tape" "size" "I") ∈ TB := tb_of (t_1 (List.mem_of_getElem? (i := 89) rfl)) rfl
theorem w_1_91 : (Jvm.Cond.lays "LoopJudge$Tape" "LoopJudge$Tape" "place" "I") ∈ TB := tb_of (t_1 (List.mem_of_getElem? (i := 91) rfl)) rfl
theorem w_1_93 : (Jvm.Cond.lays "LoopJudge$Tape" "LoopJudge$Tape" "figure" "I") ∈ TB := tb_of (t_1 (List.mem_of_getElem? (i := 93) rfl)) rfl
theorem w_1_95 : (Jvm.Cond.lays "LoopJudge$Tape" "LoopJudge$Tape" "power" "I") ∈ TB := tb_of (t_1 (List.mem_of_getElem? (i := 95) rfl)) rfl
theorem w_1_98 : (Jvm.Cond.arrayClass Jvm.ClassFile.FieldType.byte) ∈ TB := tb_of (t_1 (List.mem_of_getElem? (i := 98) rfl)) rfl
theorem w_1_99 : (Jvm.Cond.classLink "LoopJudge" (43 : Nat) "LoopJudge$Shelf") ∈ TB := tb_of (t_1 (List.mem_of_getElem? (i := 99) rfl)) rfl
theorem w_1_100 : (Jvm.Cond.instantiable "LoopJudge$Shelf" (3 : Nat)) ∈ TB := tb_of (t_1 (List.mem_of_getElem? (i := 100) rfl)) rfl
theorem w_1_101 : (Jvm.Cond.methodLink "LoopJudge" (45 : Nat) ({ cls := "LoopJudge$Shelf", name := "<init>", desc := "()V" } : Jvm.MethodName)) ∈ TB := tb_of (t_1 (List.mem_of_getElem? (i := 101) rfl)) rfl
theorem w_1_102 : (Jvm.Cond.instanceMethod ({ cls := "LoopJudge$Shelf", name := "<init>", desc := "()V" } : Jvm.MethodName)) ∈ TB := tb_of (t_1 (List.mem_of_getElem? (i := 102) rfl)) rfl
theorem w_1_103 : (Jvm.Cond.code ({ cls := "LoopJudge$Shelf", name := "<init>", desc := "()V" } : Jvm.MethodName) prog_6_method_1_code (2 : Nat) (Option.none : Option Jvm.ClassFile.FieldType)) ∈ TB := tb_of (t_1 (List.mem_of_getElem? (i := 103) rfl)) rfl
theorem w_1_104 : (Jvm.Cond.methodLink "LoopJudge$Shelf" (3 : Nat) ({ cls := "java/lang/Object", name := "<init>", desc := "()V" } : Jvm.MethodName)) ∈ TB := tb_of (t_1 (List.mem_of_getElem? (i := 104) rfl)) rfl
theorem w_1_105 : (Jvm.Cond.classLink "LoopJudge$Shelf" (18 : Nat) "[[J") ∈ TB := tb_of (t_1 (List.mem_of_getElem? (i := 105) rfl)) rfl
theorem w_1_107 : (Jvm.Cond.fieldLink "LoopJudge$Shelf" (9 : Nat) "LoopJudge$Shelf" "lanes" "[I") ∈ TB := tb_of (t_1 (List.mem_of_getElem? (i := 107) rfl)) rfl
theorem w_1_108 : (Jvm.Cond.fieldLink "LoopJudge" (246 : Nat) "LoopJudge$Shelf" "lanes" "[I") ∈ TB := tb_of (t_1 (List.mem_of_getElem? (i := 108) rfl)) rfl
theorem w_1_109 : (Jvm.Cond.fieldLink "LoopJudge$Shelf" (15 : Nat) "LoopJudge$Shelf" "sizes" "[I") ∈ TB := tb_of (t_1 (List.mem_of_getElem? (i := 109) rfl)) rfl
theorem w_1_110 : (Jvm.Cond.fieldLink "LoopJudge" (236 : Nat) "LoopJudge$Shelf" "sizes" "[I") ∈ TB := tb_of (t_1 (List.mem_of_getElem? (i := 110) rfl)) rfl
theorem w_1_111 : (Jvm.Cond.fieldLink "LoopJudge$Shelf" (20 : Nat) "LoopJudge$Shelf" "items" "[[J") ∈ TB := tb_of (t_1 (List.mem_of_getElem? (i := 111) rfl)) rfl
theorem w_1_112 : (Jvm.Cond.fieldLink "LoopJudge" (226 : Nat) "LoopJudge$Shelf" "items" "[[J") ∈ TB := tb_of (t_1 (List.mem_of_getElem? (i := 112) rfl)) rfl
theorem w_1_113 : (Jvm.Cond.laysFinal "LoopJudge$Shelf" "LoopJudge$Shelf" "lanes" "[I") ∈ TB := tb_of (t_1 (List.mem_of_getElem? (i := 113) rfl)) rfl
theorem w_1_115 : (Jvm.Cond.laysFinal "LoopJudge$Shelf" "LoopJudge$Shelf" "sizes" "[I") ∈ TB := tb_of (t_1 (List.mem_of_getElem? (i := 115) rfl)) rfl
theorem w_1_117 : (Jvm.Cond.laysFinal "LoopJudge$Shelf" "LoopJudge$Shelf" "items" "[[J") ∈ TB := tb_of (t_1 (List.mem_of_getElem? (i := 117) rfl)) rfl
theorem w_1_120 : (Jvm.Cond.arrayClass Jvm.ClassFile.FieldType.long) ∈ TB := tb_of (t_1 (List.mem_of_getElem? (i := 120) rfl)) rfl
theorem w_1_121 : (Jvm.Cond.classLink "LoopJudge" (50 : Nat) "LoopJudge$Judge") ∈ TB := tb_of (t_1 (List.mem_of_getElem? (i := 121) rfl)) rfl
theorem w_1_122 : (Jvm.Cond.instantiable "LoopJudge$Judge" (5 : Nat)) ∈ TB := tb_of (t_1 (List.mem_of_getElem? (i := 122) rfl)) rfl
theorem w_1_123 : (Jvm.Cond.methodLink "LoopJudge" (52 : Nat) ({ cls := "LoopJudge$Judge", name := "<init>", desc := "()V" } : Jvm.MethodName)) ∈ TB := tb_of (t_1 (List.mem_of_getElem? (i := 123) rfl)) rfl
theorem w_1_124 : (Jvm.Cond.instanceMethod ({ cls := "LoopJudge$Judge", name := "<init>", desc := "()V" } : Jvm.MethodName)) ∈ TB := tb_of (t_1 (List.mem_of_getElem? (i := 124) rfl)) rfl
theorem w_1_125 : (Jvm.Cond.code ({ cls := "LoopJudge$Judge", name := "<init>", desc := "()V" } : Jvm.MethodName) prog_3_method_1_code (1 : Nat) (Option.none : Option Jvm.ClassFile.FieldType)) ∈ TB := tb_of (t_1 (List.mem_of_getElem? (i := 125) rfl)) rfl
theorem w_1_126 : (Jvm.Cond.methodLink "LoopJudge$Judge" (3 : Nat) ({ cls := "java/lang/Object", name := "<init>", desc := "()V" } : Jvm.MethodName)) ∈ TB := tb_of (t_1 (List.mem_of_getElem? (i := 126) rfl)) rfl
theorem w_1_127 : (Jvm.Cond.classLink "LoopJudge$Judge" (9 : Nat) "LoopJudge$Chain") ∈ TB := tb_of (t_1 (List.mem_of_getElem? (i := 127) rfl)) rfl
theorem w_1_128 : (Jvm.Cond.instantiable "LoopJudge$Chain" (3 : Nat)) ∈ TB := tb_of (t_1 (List.mem_of_getElem? (i := 128) rfl)) rfl
theorem w_1_129 : (Jvm.Cond.methodLink "LoopJudge$Judge" (11 : Nat) ({ cls := "LoopJudge$Chain", name := "<init>", desc := "()V" } : Jvm.MethodName)) ∈ TB := tb_of (t_1 (List.mem_of_getElem? (i := 129) rfl)) rfl
theorem w_1_130 : (Jvm.Cond.instanceMethod ({ cls := "LoopJudge$Chain", name := "<init>", desc := "()V" } : Jvm.MethodName)) ∈ TB := tb_of (t_1 (List.mem_of_getElem? (i := 130) rfl)) rfl
theorem w_1_131 : (Jvm.Cond.code ({ cls := "LoopJudge$Chain", name := "<init>", desc := "()V" } : Jvm.MethodName) prog_2_method_1_code (1 : Nat) (Option.none : Option Jvm.ClassFile.FieldType)) ∈ TB := tb_of (t_1 (List.mem_of_getElem? (i := 131) rfl)) rfl
theorem w_1_132 : (Jvm.Cond.methodLink "LoopJudge$Chain" (3 : Nat) ({ cls := "java/lang/Object", name := "<init>", desc := "()V" } : Jvm.MethodName)) ∈ TB := tb_of (t_1 (List.mem_of_getElem? (i := 132) rfl)) rfl
theorem w_1_133 : (Jvm.Cond.classLink "LoopJudge$Chain" (9 : Nat) "[[J") ∈ TB := tb_of (t_1 (List.mem_of_getElem? (i := 133) rfl)) rfl
theorem w_1_134 : (Jvm.Cond.fieldLink "LoopJudge$Chain" (11 : Nat) "LoopJudge$Chain" "lines" "[[J") ∈ TB := tb_of (t_1 (List.mem_of_getElem? (i := 134) rfl)) rfl
theorem w_1_135 : (Jvm.Cond.fieldLink "LoopJudge$Judge" (71 : Nat) "LoopJudge$Chain" "lines" "[[J") ∈ TB := tb_of (t_1 (List.mem_of_getElem? (i := 135) rfl)) rfl
theorem w_1_136 : (Jvm.Cond.fieldLink "LoopJudge" (136 : Nat) "LoopJudge$Chain" "lines" "[[J") ∈ TB := tb_of (t_1 (List.mem_of_getElem? (i := 136) rfl)) rfl
theorem w_1_137 : (Jvm.Cond.fieldLink "LoopJudge$Chain" (16 : Nat) "LoopJudge$Chain" "degrees" "[I") ∈ TB := tb_of (t_1 (List.mem_of_getElem? (i := 137) rfl)) rfl
theorem w_1_138 : (Jvm.Cond.fieldLink "LoopJudge$Judge" (63 : Nat) "LoopJudge$Chain" "degrees" "[I") ∈ TB := tb_of (t_1 (List.mem_of_getElem? (i := 138) rfl)) rfl
theorem w_1_139 : (Jvm.Cond.fieldLink "LoopJudge$Chain" (20 : Nat) "LoopJudge$Chain" "size" "I") ∈ TB := tb_of (t_1 (List.mem_of_getElem? (i := 139) rfl)) rfl
theorem w_1_140 : (Jvm.Cond.fieldLink "LoopJudge$Judge" (60 : Nat) "LoopJudge$Chain" "size" "I") ∈ TB := tb_of (t_1 (List.mem_of_getElem? (i := 140) rfl)) rfl
theorem w_1_141 : (Jvm.Cond.fieldLink "LoopJudge" (131 : Nat) "LoopJudge$Chain" "size" "I") ∈ TB := tb_of (t_1 (List.mem_of_getElem? (i := 141) rfl)) rfl
theorem w_1_142 : (Jvm.Cond.laysFinal "LoopJudge$Chain" "LoopJudge$Chain" "lines" "[[J") ∈ TB := tb_of (t_1 (List.mem_of_getElem? (i := 142) rfl)) rfl
theorem w_1_144 : (Jvm.Cond.laysFinal "LoopJudge$Chain" "LoopJudge$Chain" "degrees" "[I") ∈ TB := tb_of (t_1 (List.mem_of_getElem? (i := 144) rfl)) rfl
theorem w_1_146 : (Jvm.Cond.lays "LoopJudge$Chain" "LoopJudge$Chain" "size" "I") ∈ TB := tb_of (t_1 (List.mem_of_getElem? (i := 146) rfl)) rfl
theorem w_1_149 : (Jvm.Cond.fieldLink "LoopJudge$Judge" (12 : Nat) "LoopJudge$Judge" "chain" "LLoopJudge$Chain;") ∈ TB := tb_of (t_1 (List.mem_of_getElem? (i := 149) rfl)) rfl
theorem w_1_150 : (Jvm.Cond.fieldLink "LoopJudge" (121 : Nat) "LoopJudge$Judge" "chain" "LLoopJudge$Chain;") ∈ TB := tb_of (t_1 (List.mem_of_getElem? (i := 150) rfl)) rfl
theorem w_1_151 : (Jvm.Cond.fieldLink "LoopJudge$Judge" (18 : Nat) "LoopJudge$Judge" "turned" "[J") ∈ TB := tb_of (t_1 (List.mem_of_getElem? (i := 151) rfl)) rfl
theorem w_1_152 : (Jvm.Cond.fieldLink "LoopJudge$Judge" (22 : Nat) "LoopJudge$Judge" "right" "I") ∈ TB := tb_of (t_1 (List.mem_of_getElem? (i := 152) rfl)) rfl
theorem w_1_153 : (Jvm.Cond.fieldLink "LoopJudge" (256 : Nat) "LoopJudge$Judge" "right" "I") ∈ TB := tb_of (t_1 (List.mem_of_getElem? (i := 153) rfl)) rfl
theorem w_1_154 : (Jvm.Cond.fieldLink "LoopJudge$Judge" (26 : Nat) "LoopJudge$Judge" "even" "I") ∈ TB := tb_of (t_1 (List.mem_of_getElem? (i := 154) rfl)) rfl
theorem w_1_155 : (Jvm.Cond.fieldLink "LoopJudge" (259 : Nat) "LoopJudge$Judge" "even" "I") ∈ TB := tb_of (t_1 (List.mem_of_getElem? (i := 155) rfl)) rfl
theorem w_1_156 : (Jvm.Cond.fieldLink "LoopJudge$Judge" (29 : Nat) "LoopJudge$Judge" "left" "I") ∈ TB := tb_of (t_1 (List.mem_of_getElem? (i := 156) rfl)) rfl
theorem w_1_157 : (Jvm.Cond.fieldLink "LoopJudge" (262 : Nat) "LoopJudge$Judge" "left" "I") ∈ TB := tb_of (t_1 (List.mem_of_getElem? (i := 157) rfl)) rfl
theorem w_1_158 : (Jvm.Cond.laysFinal "LoopJudge$Judge" "LoopJudge$Judge" "chain" "LLoopJudge$Chain;") ∈ TB := tb_of (t_1 (List.mem_of_getElem? (i := 158) rfl)) rfl
theorem w_1_160 : (Jvm.Cond.laysFinal "LoopJudge$Judge" "LoopJudge$Judge" "turned" "[J") ∈ TB := tb_of (t_1 (List.mem_of_getElem? (i := 160) rfl)) rfl
theorem w_1_162 : (Jvm.Cond.lays "LoopJudge$Judge" "LoopJudge$Judge" "right" "I") ∈ TB := tb_of (t_1 (List.mem_of_getElem? (i := 162) rfl)) rfl
theorem w_1_164 : (Jvm.Cond.lays "LoopJudge$Judge" "LoopJudge$Judge" "even" "I") ∈ TB := tb_of (t_1 (List.mem_of_getElem? (i := 164) rfl)) rfl
theorem w_1_166 : (Jvm.Cond.lays "LoopJudge$Judge" "LoopJudge$Judge" "left" "I") ∈ TB := tb_of (t_1 (List.mem_of_getElem? (i := 166) rfl)) rfl
theorem w_1_169 : (Jvm.Cond.classLink "LoopJudge" (57 : Nat) "LoopJudge$SpanBook") ∈ TB := tb_of (t_1 (List.mem_of_getElem? (i := 169) rfl)) rfl
theorem w_1_170 : (Jvm.Cond.instantiable "LoopJudge$SpanBook" (9 : Nat)) ∈ TB := tb_of (t_1 (List.mem_of_getElem? (i := 170) rfl)) rfl
theorem w_1_171 : (Jvm.Cond.methodLink "LoopJudge" (59 : Nat) ({ cls := "LoopJudge$SpanBook", name := "<init>", desc := "(I)V" } : Jvm.MethodName)) ∈ TB := tb_of (t_1 (List.mem_of_getElem? (i := 171) rfl)) rfl
theorem w_1_172 : (Jvm.Cond.instanceMethod ({ cls := "LoopJudge$SpanBook", name := "<init>", desc := "(I)V" } : Jvm.MethodName)) ∈ TB := tb_of (t_1 (List.mem_of_getElem? (i := 172) rfl)) rfl
theorem w_1_173 : (Jvm.Cond.code ({ cls := "LoopJudge$SpanBook", name := "<init>", desc := "(I)V" } : Jvm.MethodName) prog_7_method_1_code (2 : Nat) (Option.none : Option Jvm.ClassFile.FieldType)) ∈ TB := tb_of (t_1 (List.mem_of_getElem? (i := 173) rfl)) rfl
theorem w_1_174 : (Jvm.Cond.methodLink "LoopJudge$SpanBook" (3 : Nat) ({ cls := "java/lang/Object", name := "<init>", desc := "()V" } : Jvm.MethodName)) ∈ TB := tb_of (t_1 (List.mem_of_getElem? (i := 174) rfl)) rfl
theorem w_1_175 : (Jvm.Cond.fieldLink "LoopJudge$SpanBook" (9 : Nat) "LoopJudge$SpanBook" "by" "I") ∈ TB := tb_of (t_1 (List.mem_of_getElem? (i := 175) rfl)) rfl
theorem w_1_176 : (Jvm.Cond.fieldLink "LoopJudge$SpanBook" (15 : Nat) "LoopJudge$SpanBook" "parts" "[I") ∈ TB := tb_of (t_1 (List.mem_of_getElem? (i := 176) rfl)) rfl
theorem w_1_177 : (Jvm.Cond.fieldLink "LoopJudge$SpanBook" (19 : Nat) "LoopJudge$SpanBook" "loop" "[J") ∈ TB := tb_of (t_1 (List.mem_of_getElem? (i := 177) rfl)) rfl
theorem w_1_178 : (Jvm.Cond.fieldLink "LoopJudge$SpanBook" (23 : Nat) "LoopJudge$SpanBook" "least" "[I") ∈ TB := tb_of (t_1 (List.mem_of_getElem? (i := 178) rfl)) rfl
theorem w_1_179 : (Jvm.Cond.fieldLink "LoopJudge$SpanBook" (26 : Nat) "LoopJudge$SpanBook" "greatest" "[I") ∈ TB := tb_of (t_1 (List.mem_of_getElem? (i := 179) rfl)) rfl
theorem w_1_180 : (Jvm.Cond.fieldLink "LoopJudge$SpanBook" (29 : Nat) "LoopJudge$SpanBook" "byWidth" "[I") ∈ TB := tb_of (t_1 (List.mem_of_getElem? (i := 180) rfl)) rfl
theorem w_1_181 : (Jvm.Cond.fieldLink "LoopJudge" (157 : Nat) "LoopJudge$SpanBook" "byWidth" "[I") ∈ TB := tb_of (t_1 (List.mem_of_getElem? (i := 181) rfl)) rfl
theorem w_1_182 : (Jvm.Cond.fieldLink "LoopJudge$SpanBook" (32 : Nat) "LoopJudge$SpanBook" "made" "Z") ∈ TB := tb_of (t_1 (List.mem_of_getElem? (i := 182) rfl)) rfl
theorem w_1_183 : (Jvm.Cond.fieldLink "LoopJudge$SpanBook" (36 : Nat) "LoopJudge$SpanBook" "size" "I") ∈ TB := tb_of (t_1 (List.mem_of_getElem? (i := 183) rfl)) rfl
theorem w_1_184 : (Jvm.Cond.fieldLink "LoopJudge" (152 : Nat) "LoopJudge$SpanBook" "size" "I") ∈ TB := tb_of (t_1 (List.mem_of_getElem? (i := 184) rfl)) rfl
theorem w_1_185 : (Jvm.Cond.fieldLink "LoopJudge$SpanBook" (39 : Nat) "LoopJudge$SpanBook" "steadyGains" "I") ∈ TB := tb_of (t_1 (List.mem_of_getElem? (i := 185) rfl)) rfl
theorem w_1_186 : (Jvm.Cond.fieldLink "LoopJudge" (160 : Nat) "LoopJudge$SpanBook" "steadyGains" "I") ∈ TB := tb_of (t_1 (List.mem_of_getElem? (i := 186) rfl)) rfl
theorem w_1_187 : (Jvm.Cond.laysFinal "LoopJudge$SpanBook" "LoopJudge$SpanBook" "by" "I") ∈ TB := tb_of (t_1 (List.mem_of_getElem? (i := 187) rfl)) rfl
theorem w_1_189 : (Jvm.Cond.laysFinal "LoopJudge$SpanBook" "LoopJudge$SpanBook" "parts" "[I") ∈ TB := tb_of (t_1 (List.mem_of_getElem? (i := 189) rfl)) rfl
theorem w_1_191 : (Jvm.Cond.laysFinal "LoopJudge$SpanBook" "LoopJudge$SpanBook" "loop" "[J") ∈ TB := tb_of (t_1 (List.mem_of_getElem? (i := 191) rfl)) rfl
theorem w_1_193 : (Jvm.Cond.laysFinal "LoopJudge$SpanBook" "LoopJudge$SpanBook" "least" "[I") ∈ TB := tb_of (t_1 (List.mem_of_getElem? (i := 193) rfl)) rfl
theorem w_1_195 : (Jvm.Cond.laysFinal "LoopJudge$SpanBook" "LoopJudge$SpanBook" "greatest" "[I") ∈ TB := tb_of (t_1 (List.mem_of_getElem? (i := 195) rfl)) rfl
theorem w_1_197 : (Jvm.Cond.laysFinal "LoopJudge$SpanBook" "LoopJudge$SpanBook" "byWidth" "[I") ∈ TB := tb_of (t_1 (List.mem_of_getElem? (i := 197) rfl)) rfl
theorem w_1_199 : (Jvm.Cond.lays "LoopJudge$SpanBook" "LoopJudge$SpanBook" "made" "Z") ∈ TB := tb_of (t_1 (List.mem_of_getElem? (i := 199) rfl)) rfl
theorem w_1_201 : (Jvm.Cond.lays "LoopJudge$SpanBook" "LoopJudge$SpanBook" "size" "I") ∈ TB := tb_of (t_1 (List.mem_of_getElem? (i := 201) rfl)) rfl
theorem w_1_203 : (Jvm.Cond.lays "LoopJudge$SpanBook" "LoopJudge$SpanBook" "steadyGains" "I") ∈ TB := tb_of (t_1 (List.mem_of_getElem? (i := 203) rfl)) rfl
theorem w_1_206 : (Jvm.Cond.fieldLink "LoopJudge" (12 : Nat) "LoopJudge" "now" "LLoopJudge$Setting;") ∈ TB := tb_of (t_1 (List.mem_of_getElem? (i := 206) rfl)) rfl
theorem w_1_207 : (Jvm.Cond.fieldLink "LoopJudge" (22 : Nat) "LoopJudge" "past" "LLoopJudge$Past;") ∈ TB := tb_of (t_1 (List.mem_of_getElem? (i := 207) rfl)) rfl
theorem w_1_208 : (Jvm.Cond.fieldLink "LoopJudge" (26 : Nat) "LoopJudge" "keptNow" "LLoopJudge$Setting;") ∈ TB := tb_of (t_1 (List.mem_of_getElem? (i := 208) rfl)) rfl
theorem w_1_209 : (Jvm.Cond.fieldLink "LoopJudge" (29 : Nat) "LoopJudge" "keptPast" "LLoopJudge$Past;") ∈ TB := tb_of (t_1 (List.mem_of_getElem? (i := 209) rfl)) rfl
theorem w_1_210 : (Jvm.Cond.fieldLink "LoopJudge" (32 : Nat) "LoopJudge" "kept" "Z") ∈ TB := tb_of (t_1 (List.mem_of_getElem? (i := 210) rfl)) rfl
theorem w_1_211 : (Jvm.Cond.fieldLink "LoopJudge" (39 : Nat) "LoopJudge" "tape" "LLoopJudge$Tape;") ∈ TB := tb_of (t_1 (List.mem_of_getElem? (i := 211) rfl)) rfl
theorem w_1_212 : (Jvm.Cond.fieldLink "LoopJudge" (46 : Nat) "LoopJudge" "shelf" "LLoopJudge$Shelf;") ∈ TB := tb_of (t_1 (List.mem_of_getElem? (i := 212) rfl)) rfl
theorem w_1_213 : (Jvm.Cond.fieldLink "LoopJudge" (53 : Nat) "LoopJudge" "judge" "LLoopJudge$Judge;") ∈ TB := tb_of (t_1 (List.mem_of_getElem? (i := 213) rfl)) rfl
theorem w_1_214 : (Jvm.Cond.fieldLink "LoopJudge" (62 : Nat) "LoopJudge" "axisSpans" "LLoopJudge$SpanBook;") ∈ TB := tb_of (t_1 (List.mem_of_getElem? (i := 214) rfl)) rfl
theorem w_1_215 : (Jvm.Cond.fieldLink "LoopJudge" (66 : Nat) "LoopJudge" "circleSpans" "LLoopJudge$SpanBook;") ∈ TB := tb_of (t_1 (List.mem_of_getElem? (i := 215) rfl)) rfl
theorem w_1_216 : (Jvm.Cond.fieldLink "LoopJudge" (69 : Nat) "LoopJudge" "poly" "[J") ∈ TB := tb_of (t_1 (List.mem_of_getElem? (i := 216) rfl)) rfl
theorem w_1_217 : (Jvm.Cond.laysFinal "LoopJudge" "LoopJudge" "now" "LLoopJudge$Setting;") ∈ TB := tb_of (t_1 (List.mem_of_getElem? (i := 217) rfl)) rfl
theorem w_1_219 : (Jvm.Cond.laysFinal "LoopJudge" "LoopJudge" "past" "LLoopJudge$Past;") ∈ TB := tb_of (t_1 (List.mem_of_getElem? (i := 219) rfl)) rfl
theorem w_1_221 : (Jvm.Cond.laysFinal "LoopJudge" "LoopJudge" "keptNow" "LLoopJudge$Setting;") ∈ TB := tb_of (t_1 (List.mem_of_getElem? (i := 221) rfl)) rfl
theorem w_1_223 : (Jvm.Cond.laysFinal "LoopJudge" "LoopJudge" "keptPast" "LLoopJudge$Past;") ∈ TB := tb_of (t_1 (List.mem_of_getElem? (i := 223) rfl)) rfl
theorem w_1_225 : (Jvm.Cond.lays "LoopJudge" "LoopJudge" "kept" "Z") ∈ TB := tb_of (t_1 (List.mem_of_getElem? (i := 225) rfl)) rfl
theorem w_1_227 : (Jvm.Cond.laysFinal "LoopJudge" "LoopJudge" "tape" "LLoopJudge$Tape;") ∈ TB := tb_of (t_1 (List.mem_of_getElem? (i := 227) rfl)) rfl
theorem w_1_229 : (Jvm.Cond.laysFinal "LoopJudge" "LoopJudge" "shelf" "LLoopJudge$Shelf;") ∈ TB := tb_of (t_1 (List.mem_of_getElem? (i := 229) rfl)) rfl
theorem w_1_231 : (Jvm.Cond.laysFinal "LoopJudge" "LoopJudge" "judge" "LLoopJudge$Judge;") ∈ TB := tb_of (t_1 (List.mem_of_getElem? (i := 231) rfl)) rfl
theorem w_1_233 : (Jvm.Cond.laysFinal "LoopJudge" "LoopJudge" "axisSpans" "LLoopJudge$SpanBook;") ∈ TB := tb_of (t_1 (List.mem_of_getElem? (i := 233) rfl)) rfl
theorem w_1_235 : (Jvm.Cond.laysFinal "LoopJudge" "LoopJudge" "circleSpans" "LLoopJudge$SpanBook;") ∈ TB := tb_of (t_1 (List.mem_of_getElem? (i := 235) rfl)) rfl
theorem w_1_237 : (Jvm.Cond.laysFinal "LoopJudge" "LoopJudge" "poly" "[J") ∈ TB := tb_of (t_1 (List.mem_of_getElem? (i := 237) rfl)) rfl
theorem w_2_0 : (Jvm.Cond.methodLink "LoopJudgeLaw" (13 : Nat) ({ cls := "LoopJudge", name := "part", desc := "(III)I" } : Jvm.MethodName)) ∈ TB := tb_of (t_2 (List.mem_of_getElem? (i := 0) rfl)) rfl
theorem w_2_1 : (Jvm.Cond.instanceMethod ({ cls := "LoopJudge", name := "part", desc := "(III)I" } : Jvm.MethodName)) ∈ TB := tb_of (t_2 (List.mem_of_getElem? (i := 1) rfl)) rfl
theorem w_2_2 : (Jvm.Cond.selects "LoopJudge" ({ cls := "LoopJudge", name := "part", desc := "(III)I" } : Jvm.MethodName) ({ cls := "LoopJudge", name := "part", desc := "(III)I" } : Jvm.MethodName)) ∈ TB := tb_of (t_2 (List.mem_of_getElem? (i := 2) rfl)) rfl
theorem w_2_3 : (Jvm.Cond.code ({ cls := "LoopJudge", name := "part", desc := "(III)I" } : Jvm.MethodName) prog_1_method_2_code (6 : Nat) (Option.some Jvm.ClassFile.FieldType.int)) ∈ TB := tb_of (t_2 (List.mem_of_getElem? (i := 3) rfl)) rfl
theorem w_2_4 : (Jvm.Cond.methodLink "LoopJudge" (73 : Nat) ({ cls := "LoopJudge", name := "isChoice", desc := "(II)Z" } : Jvm.MethodName)) ∈ TB := tb_of (t_2 (List.mem_of_getElem? (i := 4) rfl)) rfl
theorem w_2_5 : (Jvm.Cond.static ({ cls := "LoopJudge", name := "isChoice", desc := "(II)Z" } : Jvm.MethodName)) ∈ TB := tb_of (t_2 (List.mem_of_getElem? (i := 5) rfl)) rfl
theorem w_2_6 : (Jvm.Cond.code ({ cls := "LoopJudge", name := "isChoice", desc := "(II)Z" } : Jvm.MethodName) prog_1_method_31_code (2 : Nat) (Option.some Jvm.ClassFile.FieldType.boolean)) ∈ TB := tb_of (t_2 (List.mem_of_getElem? (i := 6) rfl)) rfl
theorem w_2_7 : (Jvm.Cond.methodLink "LoopJudge" (77 : Nat) ({ cls := "LoopJudge", name := "isPart", desc := "(J)Z" } : Jvm.MethodName)) ∈ TB := tb_of (t_2 (List.mem_of_getElem? (i := 7) rfl)) rfl
theorem w_2_8 : (Jvm.Cond.static ({ cls := "LoopJudge", name := "isPart", desc := "(J)Z" } : Jvm.MethodName)) ∈ TB := tb_of (t_2 (List.mem_of_getElem? (i := 8) rfl)) rfl
theorem w_2_9 : (Jvm.Cond.code ({ cls := "LoopJudge", name := "isPart", desc := "(J)Z" } : Jvm.MethodName) prog_1_method_32_code (2 : Nat) (Option.some Jvm.ClassFile.FieldType.boolean)) ∈ TB := tb_of (t_2 (List.mem_of_getElem? (i := 9) rfl)) rfl
theorem w_2_10 : (Jvm.Cond.constantLong "LoopJudge" (269 : Nat) (-9 : Int64)) ∈ TB := tb_of (t_2 (List.mem_of_getElem? (i := 10) rfl)) rfl
theorem w_2_11 : (Jvm.Cond.constantLong "LoopJudge" (271 : Nat) (9 : Int64)) ∈ TB := tb_of (t_2 (List.mem_of_getElem? (i := 11) rfl)) rfl
theorem w_2_12 : (Jvm.Cond.methodLink "LoopJudge" (85 : Nat) ({ cls := "LoopJudge$Past", name := "keep", desc := "(LLoopJudge$Setting;)V" } : Jvm.MethodName)) ∈ TB := tb_of (t_2 (List.mem_of_getElem? (i := 12) rfl)) rfl
theorem w_2_13 : (Jvm.Cond.instanceMethod ({ cls := "LoopJudge$Past", name := "keep", desc := "(LLoopJudge$Setting;)V" } : Jvm.MethodName)) ∈ TB := tb_of (t_2 (List.mem_of_getElem? (i := 13) rfl)) rfl
theorem w_2_14 : (Jvm.Cond.selects "LoopJudge$Past" ({ cls := "LoopJudge$Past", name := "keep", desc := "(LLoopJudge$Setting;)V" } : Jvm.MethodName) ({ cls := "LoopJudge$Past", name := "keep", desc := "(LLoopJudge$Setting;)V" } : Jvm.MethodName)) ∈ TB := tb_of (t_2 (List.mem_of_getElem? (i := 14) rfl)) rfl
theorem w_2_15 : (Jvm.Cond.code ({ cls := "LoopJudge$Past", name := "keep", desc := "(LLoopJudge$Setting;)V" } : Jvm.MethodName) prog_4_method_2_code (2 : Nat) (Option.none : Option Jvm.ClassFile.FieldType)) ∈ TB := tb_of (t_2 (List.mem_of_getElem? (i := 15) rfl)) rfl
theorem w_2_16 : (Jvm.Cond.methodLink "LoopJudge$Past" (23 : Nat) ({ cls := "LoopJudge$Setting", name := "become", desc := "(LLoopJudge$Setting;)V" } : Jvm.MethodName)) ∈ TB := tb_of (t_2 (List.mem_of_getElem? (i := 16) rfl)) rfl
theorem w_2_17 : (Jvm.Cond.instanceMethod ({ cls := "LoopJudge$Setting", name := "become", desc := "(LLoopJudge$Setting;)V" } : Jvm.MethodName)) ∈ TB := tb_of (t_2 (List.mem_of_getElem? (i := 17) rfl)) rfl
theorem w_2_18 : (Jvm.Cond.selects "LoopJudge$Setting" ({ cls := "LoopJudge$Setting", name := "become", desc := "(LLoopJudge$Setting;)V" } : Jvm.MethodName) ({ cls := "LoopJudge$Setting", name := "become", desc := "(LLoopJudge$Setting;)V" } : Jvm.MethodName)) ∈ TB := tb_of (t_2 (List.mem_of_getElem? (i := 18) rfl)) rfl
theorem w_2_19 : (Jvm.Cond.code ({ cls := "LoopJudge$Setting", name := "become", desc := "(LLoopJudge$Setting;)V" } : Jvm.MethodName) prog_5_method_3_code (2 : Nat) (Option.none : Option Jvm.ClassFile.FieldType)) ∈ TB := tb_of (t_2 (List.mem_of_getElem? (i := 19) rfl)) rfl
theorem w_2_20 : (Jvm.Cond.methodLink "LoopJudge$Setting" (22 : Nat) ({ cls := "java/lang/System", name := "arraycopy", desc := "(Ljava/lang/Object;ILjava/lang/Object;II)V" } : Jvm.MethodName)) ∈ TB := tb_of (t_2 (List.mem_of_getElem? (i := 20) rfl)) rfl
theorem w_2_21 : (Jvm.Cond.static ({ cls := "java/lang/System", name := "arraycopy", desc := "(Ljava/lang/Object;ILjava/lang/Object;II)V" } : Jvm.MethodName)) ∈ TB := tb_of (t_2 (List.mem_of_getElem? (i := 21) rfl)) rfl
theorem w_2_22 : (Jvm.Cond.native ({ cls := "java/lang/System", name := "arraycopy", desc := "(Ljava/lang/Object;ILjava/lang/Object;II)V" } : Jvm.MethodName)) ∈ TB := tb_of (t_2 (List.mem_of_getElem? (i := 22) rfl)) rfl
theorem w_2_23 : (Jvm.Cond.methodLink "LoopJudgeLaw" (18 : Nat) ({ cls := "LoopJudge", name := "gain", desc := "(I)I" } : Jvm.MethodName)) ∈ TB := tb_of (t_2 (List.mem_of_getElem? (i := 23) rfl)) rfl
theorem w_2_24 : (Jvm.Cond.instanceMethod ({ cls := "LoopJudge", name := "gain", desc := "(I)I" } : Jvm.MethodName)) ∈ TB := tb_of (t_2 (List.mem_of_getElem? (i := 24) rfl)) rfl
theorem w_2_25 : (Jvm.Cond.selects "LoopJudge" ({ cls := "LoopJudge", name := "gain", desc := "(I)I" } : Jvm.MethodName) ({ cls := "LoopJudge", name := "gain", desc := "(I)I" } : Jvm.MethodName)) ∈ TB := tb_of (t_2 (List.mem_of_getElem? (i := 25) rfl)) rfl
theorem w_2_26 : (Jvm.Cond.code ({ cls := "LoopJudge", name := "gain", desc := "(I)I" } : Jvm.MethodName) prog_1_method_3_code (3 : Nat) (Option.some Jvm.ClassFile.FieldType.int)) ∈ TB := tb_of (t_2 (List.mem_of_getElem? (i := 26) rfl)) rfl
theorem w_2_27 : (Jvm.Cond.methodLink "LoopJudge" (89 : Nat) ({ cls := "LoopJudge", name := "isGain", desc := "(I)Z" } : Jvm.MethodName)) ∈ TB := tb_of (t_2 (List.mem_of_getElem? (i := 27) rfl)) rfl
theorem w_2_28 : (Jvm.Cond.static ({ cls := "LoopJudge", name := "isGain", desc := "(I)Z" } : Jvm.MethodName)) ∈ TB := tb_of (t_2 (List.mem_of_getElem? (i := 28) rfl)) rfl
theorem w_2_29 : (Jvm.Cond.code ({ cls := "LoopJudge", name := "isGain", desc := "(I)Z" } : Jvm.MethodName) prog_1_method_33_code (1 : Nat) (Option.some Jvm.ClassFile.FieldType.boolean)) ∈ TB := tb_of (t_2 (List.mem_of_getElem? (i := 29) rfl)) rfl
theorem w_2_30 : (Jvm.Cond.methodLink "LoopJudgeLaw" (23 : Nat) ({ cls := "LoopJudge", name := "told", desc := "(II)I" } : Jvm.MethodName)) ∈ TB := tb_of (t_2 (List.mem_of_getElem? (i := 30) rfl)) rfl
theorem w_2_31 : (Jvm.Cond.instanceMethod ({ cls := "LoopJudge", name := "told", desc := "(II)I" } : Jvm.MethodName)) ∈ TB := tb_of (t_2 (List.mem_of_getElem? (i := 31) rfl)) rfl
theorem w_2_32 : (Jvm.Cond.selects "LoopJudge" ({ cls := "LoopJudge", name := "told", desc := "(II)I" } : Jvm.MethodName) ({ cls := "LoopJudge", name := "told", desc := "(II)I" } : Jvm.MethodName)) ∈ TB := tb_of (t_2 (List.mem_of_getElem? (i := 32) rfl)) rfl
theorem w_2_33 : (Jvm.Cond.code ({ cls := "LoopJudge", name := "told", desc := "(II)I" } : Jvm.MethodName) prog_1_method_4_code (3 : Nat) (Option.some Jvm.ClassFile.FieldType.int)) ∈ TB := tb_of (t_2 (List.mem_of_getElem? (i := 33) rfl)) rfl
theorem w_2_34 : (Jvm.Cond.methodLink "LoopJudgeLaw" (28 : Nat) ({ cls := "LoopJudge", name := "count", desc := "(I)I" } : Jvm.MethodName)) ∈ TB := tb_of (t_2 (List.mem_of_getElem? (i := 34) rfl)) rfl
theorem w_2_35 : (Jvm.Cond.instanceMethod ({ cls := "LoopJudge", name := "count", desc := "(I)I" } : Jvm.MethodName)) ∈ TB := tb_of (t_2 (List.mem_of_getElem? (i := 35) rfl)) rfl
theorem w_2_36 : (Jvm.Cond.selects "LoopJudge" ({ cls := "LoopJudge", name := "count", desc := "(I)I" } : Jvm.MethodName) ({ cls := "LoopJudge", name := "count", desc := "(I)I" } : Jvm.MethodName)) ∈ TB := tb_of (t_2 (List.mem_of_getElem? (i := 36) rfl)) rfl
theorem w_2_37 : (Jvm.Cond.code ({ cls := "LoopJudge", name := "count", desc := "(I)I" } : Jvm.MethodName) prog_1_method_5_code (2 : Nat) (Option.some Jvm.ClassFile.FieldType.int)) ∈ TB := tb_of (t_2 (List.mem_of_getElem? (i := 37) rfl)) rfl
theorem w_2_38 : (Jvm.Cond.methodLink "LoopJudge" (97 : Nat) ({ cls := "LoopJudge$Setting", name := "degreeTold", desc := "(I)I" } : Jvm.MethodName)) ∈ TB := tb_of (t_2 (List.mem_of_getElem? (i := 38) rfl)) rfl
theorem w_2_39 : (Jvm.Cond.instanceMethod ({ cls := "LoopJudge$Setting", name := "degreeTold", desc := "(I)I" } : Jvm.MethodName)) ∈ TB := tb_of (t_2 (List.mem_of_getElem? (i := 39) rfl)) rfl
theorem w_2_40 : (Jvm.Cond.selects "LoopJudge$Setting" ({ cls := "LoopJudge$Setting", name := "degreeTold", desc := "(I)I" } : Jvm.MethodName) ({ cls := "LoopJudge$Setting", name := "degreeTold", desc := "(I)I" } : Jvm.MethodName)) ∈ TB := tb_of (t_2 (List.mem_of_getElem? (i := 40) rfl)) rfl
theorem w_2_41 : (Jvm.Cond.code ({ cls := "LoopJudge$Setting", name := "degreeTold", desc := "(I)I" } : Jvm.MethodName) prog_5_method_4_code (3 : Nat) (Option.some Jvm.ClassFile.FieldType.int)) ∈ TB := tb_of (t_2 (List.mem_of_getElem? (i := 41) rfl)) rfl
theorem w_2_42 : (Jvm.Cond.methodLink "LoopJudge" (101 : Nat) ({ cls := "LoopJudge", name := "orNone", desc := "(I)I" } : Jvm.MethodName)) ∈ TB := tb_of (t_2 (List.mem_of_getElem? (i := 42) rfl)) rfl
theorem w_2_43 : (Jvm.Cond.static ({ cls := "LoopJudge", name := "orNone", desc := "(I)I" } : Jvm.MethodName)) ∈ TB := tb_of (t_2 (List.mem_of_getElem? (i := 43) rfl)) rfl
theorem w_2_44 : (Jvm.Cond.code ({ cls := "LoopJudge", name := "orNone", desc := "(I)I" } : Jvm.MethodName) prog_1_method_34_code (1 : Nat) (Option.some Jvm.ClassFile.FieldType.int)) ∈ TB := tb_of (t_2 (List.mem_of_getElem? (i := 44) rfl)) rfl
theorem w_2_45 : (Jvm.Cond.methodLink "LoopJudge" (104 : Nat) ({ cls := "LoopJudge$Setting", name := "fillLoop", desc := "([JI)V" } : Jvm.MethodName)) ∈ TB := tb_of (t_2 (List.mem_of_getElem? (i := 45) rfl)) rfl
theorem w_2_46 : (Jvm.Cond.instanceMethod ({ cls := "LoopJudge$Setting", name := "fillLoop", desc := "([JI)V" } : Jvm.MethodName)) ∈ TB := tb_of (t_2 (List.mem_of_getElem? (i := 46) rfl)) rfl
theorem w_2_47 : (Jvm.Cond.selects "LoopJudge$Setting" ({ cls := "LoopJudge$Setting", name := "fillLoop", desc := "([JI)V" } : Jvm.MethodName) ({ cls := "LoopJudge$Setting", name := "fillLoop", desc := "([JI)V" } : Jvm.MethodName)) ∈ TB := tb_of (t_2 (List.mem_of_getElem? (i := 47) rfl)) rfl
theorem w_2_48 : (Jvm.Cond.code ({ cls := "LoopJudge$Setting", name := "fillLoop", desc := "([JI)V" } : Jvm.MethodName) prog_5_method_5_code (4 : Nat) (Option.none : Option Jvm.ClassFile.FieldType)) ∈ TB := tb_of (t_2 (List.mem_of_getElem? (i := 48) rfl)) rfl
theorem w_2_49 : (Jvm.Cond.methodLink "LoopJudge" (108 : Nat) ({ cls := "LoopJudge", name := "degreeOf", desc := "([J)I" } : Jvm.MethodName)) ∈ TB := tb_of (t_2 (List.mem_of_getElem? (i := 49) rfl)) rfl
theorem w_2_50 : (Jvm.Cond.static ({ cls := "LoopJudge", name := "degreeOf", desc := "([J)I" } : Jvm.MethodName)) ∈ TB := tb_of (t_2 (List.mem_of_getElem? (i := 50) rfl)) rfl
theorem w_2_51 : (Jvm.Cond.code ({ cls := "LoopJudge", name := "degreeOf", desc := "([J)I" } : Jvm.MethodName) prog_1_method_35_code (2 : Nat) (Option.some Jvm.ClassFile.FieldType.int)) ∈ TB := tb_of (t_2 (List.mem_of_getElem? (i := 51) rfl)) rfl
theorem w_2_52 : (Jvm.Cond.methodLink "LoopJudgeLaw" (32 : Nat) ({ cls := "LoopJudge", name := "roots", desc := "(II)I" } : Jvm.MethodName)) ∈ TB := tb_of (t_2 (List.mem_of_getElem? (i := 52) rfl)) rfl
theorem w_2_53 : (Jvm.Cond.instanceMethod ({ cls := "LoopJudge", name := "roots", desc := "(II)I" } : Jvm.MethodName)) ∈ TB := tb_of (t_2 (List.mem_of_getElem? (i := 53) rfl)) rfl
theorem w_2_54 : (Jvm.Cond.selects "LoopJudge" ({ cls := "LoopJudge", name := "roots", desc := "(II)I" } : Jvm.MethodName) ({ cls := "LoopJudge", name := "roots", desc := "(II)I" } : Jvm.MethodName)) ∈ TB := tb_of (t_2 (List.mem_of_getElem? (i := 54) rfl)) rfl
theorem w_2_55 : (Jvm.Cond.code ({ cls := "LoopJudge", name := "roots", desc := "(II)I" } : Jvm.MethodName) prog_1_method_6_code (3 : Nat) (Option.some Jvm.ClassFile.FieldType.int)) ∈ TB := tb_of (t_2 (List.mem_of_getElem? (i := 55) rfl)) rfl
theorem w_2_56 : (Jvm.Cond.methodLink "LoopJudge" (115 : Nat) ({ cls := "LoopJudge", name := "countRoots", desc := "(III)I" } : Jvm.MethodName)) ∈ TB := tb_of (t_2 (List.mem_of_getElem? (i := 56) rfl)) rfl
theorem w_2_58 : (Jvm.Cond.instanceMethod ({ cls := "LoopJudge", name := "countRoots", desc := "(III)I" } : Jvm.MethodName)) ∈ TB := tb_of (t_2 (List.mem_of_getElem? (i := 58) rfl)) rfl
theorem w_2_59 : (Jvm.Cond.code ({ cls := "LoopJudge", name := "countRoots", desc := "(III)I" } : Jvm.MethodName) prog_1_method_29_code (4 : Nat) (Option.some Jvm.ClassFile.FieldType.int)) ∈ TB := tb_of (t_2 (List.mem_of_getElem? (i := 59) rfl)) rfl
theorem w_2_60 : (Jvm.Cond.methodLink "LoopJudge" (252 : Nat) ({ cls := "LoopJudge$Judge", name := "countRootsOf", desc := "(I[J)V" } : Jvm.MethodName)) ∈ TB := tb_of (t_2 (List.mem_of_getElem? (i := 60) rfl)) rfl
theorem w_2_61 : (Jvm.Cond.instanceMethod ({ cls := "LoopJudge$Judge", name := "countRootsOf", desc := "(I[J)V" } : Jvm.MethodName)) ∈ TB := tb_of (t_2 (List.mem_of_getElem? (i := 61) rfl)) rfl
theorem w_2_62 : (Jvm.Cond.selects "LoopJudge$Judge" ({ cls := "LoopJudge$Judge", name := "countRootsOf", desc := "(I[J)V" } : Jvm.MethodName) ({ cls := "LoopJudge$Judge", name := "countRootsOf", desc := "(I[J)V" } : Jvm.MethodName)) ∈ TB := tb_of (t_2 (List.mem_of_getElem? (i := 62) rfl)) rfl
theorem w_2_63 : (Jvm.Cond.code ({ cls := "LoopJudge$Judge", name := "countRootsOf", desc := "(I[J)V" } : Jvm.MethodName) prog_3_method_2_code (3 : Nat) (Option.none : Option Jvm.ClassFile.FieldType)) ∈ TB := tb_of (t_2 (List.mem_of_getElem? (i := 63) rfl)) rfl
theorem w_2_64 : (Jvm.Cond.methodLink "LoopJudge$Judge" (32 : Nat) ({ cls := "LoopJudge$Chain", name := "fill", desc := "([J)V" } : Jvm.MethodName)) ∈ TB := tb_of (t_2 (List.mem_of_getElem? (i := 64) rfl)) rfl
theorem w_2_65 : (Jvm.Cond.instanceMethod ({ cls := "LoopJudge$Chain", name := "fill", desc := "([J)V" } : Jvm.MethodName)) ∈ TB := tb_of (t_2 (List.mem_of_getElem? (i := 65) rfl)) rfl
theorem w_2_66 : (Jvm.Cond.selects "LoopJudge$Chain" ({ cls := "LoopJudge$Chain", name := "fill", desc := "([J)V" } : Jvm.MethodName) ({ cls := "LoopJudge$Chain", name := "fill", desc := "([J)V" } : Jvm.MethodName)) ∈ TB := tb_of (t_2 (List.mem_of_getElem? (i := 66) rfl)) rfl
theorem w_2_67 : (Jvm.Cond.code ({ cls := "LoopJudge$Chain", name := "fill", desc := "([J)V" } : Jvm.MethodName) prog_2_method_2_code (4 : Nat) (Option.none : Option Jvm.ClassFile.FieldType)) ∈ TB := tb_of (t_2 (List.mem_of_getElem? (i := 67) rfl)) rfl
theorem w_2_69 : (Jvm.Cond.methodLink "LoopJudge$Chain" (28 : Nat) ({ cls := "LoopJudge$Chain", name := "addHalf", desc := "([JI)V" } : Jvm.MethodName)) ∈ TB := tb_of (t_2 (List.mem_of_getElem? (i := 69) rfl)) rfl
theorem w_2_71 : (Jvm.Cond.instanceMethod ({ cls := "LoopJudge$Chain", name := "addHalf", desc := "([JI)V" } : Jvm.MethodName)) ∈ TB := tb_of (t_2 (List.mem_of_getElem? (i := 71) rfl)) rfl
theorem w_2_72 : (Jvm.Cond.code ({ cls := "LoopJudge$Chain", name := "addHalf", desc := "([JI)V" } : Jvm.MethodName) prog_2_method_3_code (5 : Nat) (Option.none : Option Jvm.ClassFile.FieldType)) ∈ TB := tb_of (t_2 (List.mem_of_getElem? (i := 72) rfl)) rfl
theorem w_2_73 : (Jvm.Cond.methodLink "LoopJudge$Chain" (36 : Nat) ({ cls := "LoopJudge$Chain", name := "addUnlessZero", desc := "()V" } : Jvm.MethodName)) ∈ TB := tb_of (t_2 (List.mem_of_getElem? (i := 73) rfl)) rfl
theorem w_2_75 : (Jvm.Cond.instanceMethod ({ cls := "LoopJudge$Chain", name := "addUnlessZero", desc := "()V" } : Jvm.MethodName)) ∈ TB := tb_of (t_2 (List.mem_of_getElem? (i := 75) rfl)) rfl
theorem w_2_76 : (Jvm.Cond.code ({ cls := "LoopJudge$Chain", name := "addUnlessZero", desc := "()V" } : Jvm.MethodName) prog_2_method_5_code (1 : Nat) (Option.none : Option Jvm.ClassFile.FieldType)) ∈ TB := tb_of (t_2 (List.mem_of_getElem? (i := 76) rfl)) rfl
theorem w_2_77 : (Jvm.Cond.methodLink "LoopJudge$Chain" (32 : Nat) ({ cls := "LoopJudge$Chain", name := "addRemainder", desc := "(I)V" } : Jvm.MethodName)) ∈ TB := tb_of (t_2 (List.mem_of_getElem? (i := 77) rfl)) rfl
theorem w_2_79 : (Jvm.Cond.instanceMethod ({ cls := "LoopJudge$Chain", name := "addRemainder", desc := "(I)V" } : Jvm.MethodName)) ∈ TB := tb_of (t_2 (List.mem_of_getElem? (i := 79) rfl)) rfl
theorem w_2_80 : (Jvm.Cond.code ({ cls := "LoopJudge$Chain", name := "addRemainder", desc := "(I)V" } : Jvm.MethodName) prog_2_method_4_code (5 : Nat) (Option.none : Option Jvm.ClassFile.FieldType)) ∈ TB := tb_of (t_2 (List.mem_of_getElem? (i := 80) rfl)) rfl
theorem w_2_81 : (Jvm.Cond.methodLink "LoopJudge$Chain" (39 : Nat) ({ cls := "java/lang/System", name := "arraycopy", desc := "(Ljava/lang/Object;ILjava/lang/Object;II)V" } : Jvm.MethodName)) ∈ TB := tb_of (t_2 (List.mem_of_getElem? (i := 81) rfl)) rfl
theorem w_2_82 : (Jvm.Cond.methodLink "LoopJudge$Chain" (45 : Nat) ({ cls := "LoopJudge$Chain", name := "strike", desc := "([JI[JI)V" } : Jvm.MethodName)) ∈ TB := tb_of (t_2 (List.mem_of_getElem? (i := 82) rfl)) rfl
theorem w_2_83 : (Jvm.Cond.static ({ cls := "LoopJudge$Chain", name := "strike", desc := "([JI[JI)V" } : Jvm.MethodName)) ∈ TB := tb_of (t_2 (List.mem_of_getElem? (i := 83) rfl)) rfl
theorem w_2_84 : (Jvm.Cond.code ({ cls := "LoopJudge$Chain", name := "strike", desc := "([JI[JI)V" } : Jvm.MethodName) prog_2_method_6_code (9 : Nat) (Option.none : Option Jvm.ClassFile.FieldType)) ∈ TB := tb_of (t_2 (List.mem_of_getElem? (i := 84) rfl)) rfl
theorem w_2_85 : (Jvm.Cond.methodLink "LoopJudge$Chain" (53 : Nat) ({ cls := "java/lang/Math", name := "abs", desc := "(J)J" } : Jvm.MethodName)) ∈ TB := tb_of (t_2 (List.mem_of_getElem? (i := 85) rfl)) rfl
theorem w_2_86 : (Jvm.Cond.static ({ cls := "java/lang/Math", name := "abs", desc := "(J)J" } : Jvm.MethodName)) ∈ TB := tb_of (t_2 (List.mem_of_getElem? (i := 86) rfl)) rfl
theorem w_2_87 : (Jvm.Cond.code ({ cls := "java/lang/Math", name := "abs", desc := "(J)J" } : Jvm.MethodName) prog_12_method_61_code (2 : Nat) (Option.some Jvm.ClassFile.FieldType.long)) ∈ TB := tb_of (t_2 (List.mem_of_getElem? (i := 87) rfl)) rfl
theorem w_2_88 : (Jvm.Cond.methodLink "LoopJudge$Chain" (49 : Nat) ({ cls := "LoopJudge$Chain", name := "takeLowestTerms", desc := "([J)V" } : Jvm.MethodName)) ∈ TB := tb_of (t_2 (List.mem_of_getElem? (i := 88) rfl)) rfl
theorem w_2_89 : (Jvm.Cond.static ({ cls := "LoopJudge$Chain", name := "takeLowestTerms", desc := "([J)V" } : Jvm.MethodName)) ∈ TB := tb_of (t_2 (List.mem_of_getElem? (i := 89) rfl)) rfl
theorem w_2_90 : (Jvm.Cond.code ({ cls := "LoopJudge$Chain", name := "takeLowestTerms", desc := "([J)V" } : Jvm.MethodName) prog_2_method_7_code (4 : Nat) (Option.none : Option Jvm.ClassFile.FieldType)) ∈ TB := tb_of (t_2 (List.mem_of_getElem? (i := 90) rfl)) rfl
theorem w_2_92 : (Jvm.Cond.static ({ cls := "LoopJudge", name := "commonDivisor", desc := "(JJ)J" } : Jvm.MethodName)) ∈ TB := tb_of (t_2 (List.mem_of_getElem? (i := 92) rfl)) rfl
theorem w_2_93 : (Jvm.Cond.code ({ cls := "LoopJudge", name := "commonDivisor", desc := "(JJ)J" } : Jvm.MethodName) prog_1_method_37_code (11 : Nat) (Option.some Jvm.ClassFile.FieldType.long)) ∈ TB := tb_of (t_2 (List.mem_of_getElem? (i := 93) rfl)) rfl
theorem w_2_94 : (Jvm.Cond.constantLong "LoopJudge$Chain" (63 : Nat) (2 : Int64)) ∈ TB := tb_of (t_2 (List.mem_of_getElem? (i := 94) rfl)) rfl
theorem w_2_95 : (Jvm.Cond.methodLink "LoopJudge$Judge" (36 : Nat) ({ cls := "LoopJudge$Judge", name := "countByChain", desc := "()V" } : Jvm.MethodName)) ∈ TB := tb_of (t_2 (List.mem_of_getElem? (i := 95) rfl)) rfl
theorem w_2_97 : (Jvm.Cond.instanceMethod ({ cls := "LoopJudge$Judge", name := "countByChain", desc := "()V" } : Jvm.MethodName)) ∈ TB := tb_of (t_2 (List.mem_of_getElem? (i := 97) rfl)) rfl
theorem w_2_98 : (Jvm.Cond.code ({ cls := "LoopJudge$Judge", name := "countByChain", desc := "()V" } : Jvm.MethodName) prog_3_method_6_code (4 : Nat) (Option.none : Option Jvm.ClassFile.FieldType)) ∈ TB := tb_of (t_2 (List.mem_of_getElem? (i := 98) rfl)) rfl
theorem w_2_99 : (Jvm.Cond.methodLink "LoopJudge$Judge" (67 : Nat) ({ cls := "LoopJudge$Judge", name := "signTurns", desc := "()I" } : Jvm.MethodName)) ∈ TB := tb_of (t_2 (List.mem_of_getElem? (i := 99) rfl)) rfl
theorem w_2_101 : (Jvm.Cond.instanceMethod ({ cls := "LoopJudge$Judge", name := "signTurns", desc := "()I" } : Jvm.MethodName)) ∈ TB := tb_of (t_2 (List.mem_of_getElem? (i := 101) rfl)) rfl
theorem w_2_102 : (Jvm.Cond.code ({ cls := "LoopJudge$Judge", name := "signTurns", desc := "()I" } : Jvm.MethodName) prog_3_method_7_code (11 : Nat) (Option.some Jvm.ClassFile.FieldType.int)) ∈ TB := tb_of (t_2 (List.mem_of_getElem? (i := 102) rfl)) rfl
theorem w_2_103 : (Jvm.Cond.methodLink "LoopJudge$Judge" (75 : Nat) ({ cls := "LoopJudge$Judge", name := "rootsOnAxis", desc := "([JI)I" } : Jvm.MethodName)) ∈ TB := tb_of (t_2 (List.mem_of_getElem? (i := 103) rfl)) rfl
theorem w_2_104 : (Jvm.Cond.static ({ cls := "LoopJudge$Judge", name := "rootsOnAxis", desc := "([JI)I" } : Jvm.MethodName)) ∈ TB := tb_of (t_2 (List.mem_of_getElem? (i := 104) rfl)) rfl
theorem w_2_105 : (Jvm.Cond.code ({ cls := "LoopJudge$Judge", name := "rootsOnAxis", desc := "([JI)I" } : Jvm.MethodName) prog_3_method_8_code (3 : Nat) (Option.some Jvm.ClassFile.FieldType.int)) ∈ TB := tb_of (t_2 (List.mem_of_getElem? (i := 105) rfl)) rfl
theorem w_2_106 : (Jvm.Cond.methodLink "LoopJudge$Judge" (79 : Nat) ({ cls := "LoopJudge$Judge", name := "rootsOnAxisOfFour", desc := "(JJJ)I" } : Jvm.MethodName)) ∈ TB := tb_of (t_2 (List.mem_of_getElem? (i := 106) rfl)) rfl
theorem w_2_107 : (Jvm.Cond.static ({ cls := "LoopJudge$Judge", name := "rootsOnAxisOfFour", desc := "(JJJ)I" } : Jvm.MethodName)) ∈ TB := tb_of (t_2 (List.mem_of_getElem? (i := 107) rfl)) rfl
theorem w_2_108 : (Jvm.Cond.code ({ cls := "LoopJudge$Judge", name := "rootsOnAxisOfFour", desc := "(JJJ)I" } : Jvm.MethodName) prog_3_method_9_code (7 : Nat) (Option.some Jvm.ClassFile.FieldType.int)) ∈ TB := tb_of (t_2 (List.mem_of_getElem? (i := 108) rfl)) rfl
theorem w_2_109 : (Jvm.Cond.constantLong "LoopJudge$Judge" (54 : Nat) (4 : Int64)) ∈ TB := tb_of (t_2 (List.mem_of_getElem? (i := 109) rfl)) rfl
theorem w_2_110 : (Jvm.Cond.methodLink "LoopJudge$Judge" (39 : Nat) ({ cls := "LoopJudge$Judge", name := "turn", desc := "([J)V" } : Jvm.MethodName)) ∈ TB := tb_of (t_2 (List.mem_of_getElem? (i := 110) rfl)) rfl
theorem w_2_112 : (Jvm.Cond.instanceMethod ({ cls := "LoopJudge$Judge", name := "turn", desc := "([J)V" } : Jvm.MethodName)) ∈ TB := tb_of (t_2 (List.mem_of_getElem? (i := 112) rfl)) rfl
theorem w_2_113 : (Jvm.Cond.code ({ cls := "LoopJudge$Judge", name := "turn", desc := "([J)V" } : Jvm.MethodName) prog_3_method_4_code (13 : Nat) (Option.none : Option Jvm.ClassFile.FieldType)) ∈ TB := tb_of (t_2 (List.mem_of_getElem? (i := 113) rfl)) rfl
theorem w_2_115 : (Jvm.Cond.methodLink "LoopJudge$Judge" (50 : Nat) ({ cls := "LoopJudge$Judge", name := "partBelow", desc := "([JII)J" } : Jvm.MethodName)) ∈ TB := tb_of (t_2 (List.mem_of_getElem? (i := 115) rfl)) rfl
theorem w_2_116 : (Jvm.Cond.static ({ cls := "LoopJudge$Judge", name := "partBelow", desc := "([JII)J" } : Jvm.MethodName)) ∈ TB := tb_of (t_2 (List.mem_of_getElem? (i := 116) rfl)) rfl
theorem w_2_117 : (Jvm.Cond.code ({ cls := "LoopJudge$Judge", name := "partBelow", desc := "([JII)J" } : Jvm.MethodName) prog_3_method_5_code (3 : Nat) (Option.some Jvm.ClassFile.FieldType.long)) ∈ TB := tb_of (t_2 (List.mem_of_getElem? (i := 117) rfl)) rfl
theorem w_2_118 : (Jvm.Cond.constantLong "LoopJudge$Judge" (56 : Nat) (2 : Int64)) ∈ TB := tb_of (t_2 (List.mem_of_getElem? (i := 118) rfl)) rfl
theorem w_2_119 : (Jvm.Cond.constantLong "LoopJudge$Judge" (58 : Nat) (6 : Int64)) ∈ TB := tb_of (t_2 (List.mem_of_getElem? (i := 119) rfl)) rfl
theorem w_2_120 : (Jvm.Cond.methodLink "LoopJudgeLaw" (36 : Nat) ({ cls := "LoopJudge", name := "at", desc := "(III)I" } : Jvm.MethodName)) ∈ TB := tb_of (t_2 (List.mem_of_getElem? (i := 120) rfl)) rfl
theorem w_2_121 : (Jvm.Cond.instanceMethod ({ cls := "LoopJudge", name := "at", desc := "(III)I" } : Jvm.MethodName)) ∈ TB := tb_of (t_2 (List.mem_of_getElem? (i := 121) rfl)) rfl
theorem w_2_122 : (Jvm.Cond.selects "LoopJudge" ({ cls := "LoopJudge", name := "at", desc := "(III)I" } : Jvm.MethodName) ({ cls := "LoopJudge", name := "at", desc := "(III)I" } : Jvm.MethodName)) ∈ TB := tb_of (t_2 (List.mem_of_getElem? (i := 122) rfl)) rfl
theorem w_2_123 : (Jvm.Cond.code ({ cls := "LoopJudge", name := "at", desc := "(III)I" } : Jvm.MethodName) prog_1_method_7_code (4 : Nat) (Option.some Jvm.ClassFile.FieldType.int)) ∈ TB := tb_of (t_2 (List.mem_of_getElem? (i := 123) rfl)) rfl
theorem w_2_124 : (Jvm.Cond.methodLink "LoopJudgeLaw" (40 : Nat) ({ cls := "LoopJudge", name := "row", desc := "(III)J" } : Jvm.MethodName)) ∈ TB := tb_of (t_2 (List.mem_of_getElem? (i := 124) rfl)) rfl
theorem w_2_125 : (Jvm.Cond.instanceMethod ({ cls := "LoopJudge", name := "row", desc := "(III)J" } : Jvm.MethodName)) ∈ TB := tb_of (t_2 (List.mem_of_getElem? (i := 125) rfl)) rfl
theorem w_2_126 : (Jvm.Cond.selects "LoopJudge" ({ cls := "LoopJudge", name := "row", desc := "(III)J" } : Jvm.MethodName) ({ cls := "LoopJudge", name := "row", desc := "(III)J" } : Jvm.MethodName)) ∈ TB := tb_of (t_2 (List.mem_of_getElem? (i := 126) rfl)) rfl
theorem w_2_127 : (Jvm.Cond.code ({ cls := "LoopJudge", name := "row", desc := "(III)J" } : Jvm.MethodName) prog_1_method_8_code (6 : Nat) (Option.some Jvm.ClassFile.FieldType.long)) ∈ TB := tb_of (t_2 (List.mem_of_getElem? (i := 127) rfl)) rfl
theorem w_2_128 : (Jvm.Cond.constantLong "LoopJudge" (119 : Nat) (-1 : Int64)) ∈ TB := tb_of (t_2 (List.mem_of_getElem? (i := 128) rfl)) rfl
theorem w_2_129 : (Jvm.Cond.methodLink "LoopJudge" (125 : Nat) ({ cls := "LoopJudge$Chain", name := "fill", desc := "([J)V" } : Jvm.MethodName)) ∈ TB := tb_of (t_2 (List.mem_of_getElem? (i := 129) rfl)) rfl
theorem w_2_130 : (Jvm.Cond.constantLong "LoopJudge" (134 : Nat) (-4 : Int64)) ∈ TB := tb_of (t_2 (List.mem_of_getElem? (i := 130) rfl)) rfl
theorem w_2_131 : (Jvm.Cond.methodLink "LoopJudge" (140 : Nat) ({ cls := "java/lang/Math", name := "abs", desc := "(J)J" } : Jvm.MethodName)) ∈ TB := tb_of (t_2 (List.mem_of_getElem? (i := 131) rfl)) rfl
theorem w_2_132 : (Jvm.Cond.constantLong "LoopJudge" (146 : Nat) (2 : Int64)) ∈ TB := tb_of (t_2 (List.mem_of_getElem? (i := 132) rfl)) rfl
theorem w_2_133 : (Jvm.Cond.methodLink "LoopJudgeLaw" (45 : Nat) ({ cls := "LoopJudge", name := "rows", desc := "()I" } : Jvm.MethodName)) ∈ TB := tb_of (t_2 (List.mem_of_getElem? (i := 133) rfl)) rfl
theorem w_2_134 : (Jvm.Cond.instanceMethod ({ cls := "LoopJudge", name := "rows", desc := "()I" } : Jvm.MethodName)) ∈ TB := tb_of (t_2 (List.mem_of_getElem? (i := 134) rfl)) rfl
theorem w_2_135 : (Jvm.Cond.selects "LoopJudge" ({ cls := "LoopJudge", name := "rows", desc := "()I" } : Jvm.MethodName) ({ cls := "LoopJudge", name := "rows", desc := "()I" } : Jvm.MethodName)) ∈ TB := tb_of (t_2 (List.mem_of_getElem? (i := 135) rfl)) rfl
theorem w_2_136 : (Jvm.Cond.code ({ cls := "LoopJudge", name := "rows", desc := "()I" } : Jvm.MethodName) prog_1_method_9_code (1 : Nat) (Option.some Jvm.ClassFile.FieldType.int)) ∈ TB := tb_of (t_2 (List.mem_of_getElem? (i := 136) rfl)) rfl
theorem w_2_137 : (Jvm.Cond.methodLink "LoopJudgeLaw" (50 : Nat) ({ cls := "LoopJudge", name := "span", desc := "(III)I" } : Jvm.MethodName)) ∈ TB := tb_of (t_2 (List.mem_of_getElem? (i := 137) rfl)) rfl
theorem w_2_138 : (Jvm.Cond.instanceMethod ({ cls := "LoopJudge", name := "span", desc := "(III)I" } : Jvm.MethodName)) ∈ TB := tb_of (t_2 (List.mem_of_getElem? (i := 138) rfl)) rfl
theorem w_2_139 : (Jvm.Cond.selects "LoopJudge" ({ cls := "LoopJudge", name := "span", desc := "(III)I" } : Jvm.MethodName) ({ cls := "LoopJudge", name := "span", desc := "(III)I" } : Jvm.MethodName)) ∈ TB := tb_of (t_2 (List.mem_of_getElem? (i := 139) rfl)) rfl
theorem w_2_140 : (Jvm.Cond.code ({ cls := "LoopJudge", name := "span", desc := "(III)I" } : Jvm.MethodName) prog_1_method_10_code (5 : Nat) (Option.some Jvm.ClassFile.FieldType.int)) ∈ TB := tb_of (t_2 (List.mem_of_getElem? (i := 140) rfl)) rfl
theorem w_2_141 : (Jvm.Cond.methodLink "LoopJudge" (148 : Nat) ({ cls := "LoopJudge", name := "bookOf", desc := "(I)LLoopJudge$SpanBook;" } : Jvm.MethodName)) ∈ TB := tb_of (t_2 (List.mem_of_getElem? (i := 141) rfl)) rfl
theorem w_2_143 : (Jvm.Cond.instanceMethod ({ cls := "LoopJudge", name := "bookOf", desc := "(I)LLoopJudge$SpanBook;" } : Jvm.MethodName)) ∈ TB := tb_of (t_2 (List.mem_of_getElem? (i := 143) rfl)) rfl
theorem w_2_144 : (Jvm.Cond.code ({ cls := "LoopJudge", name := "bookOf", desc := "(I)LLoopJudge$SpanBook;" } : Jvm.MethodName) prog_1_method_30_code (3 : Nat) (Option.some (Jvm.ClassFile.FieldType.object "LoopJudge$SpanBook"))) ∈ TB := tb_of (t_2 (List.mem_of_getElem? (i := 144) rfl)) rfl
theorem w_2_145 : (Jvm.Cond.methodLink "LoopJudge" (265 : Nat) ({ cls := "LoopJudge$SpanBook", name := "refresh", desc := "(LLoopJudge$Setting;LLoopJudge$Judge;)V" } : Jvm.MethodName)) ∈ TB := tb_of (t_2 (List.mem_of_getElem? (i := 145) rfl)) rfl
theorem w_2_146 : (Jvm.Cond.instanceMethod ({ cls := "LoopJudge$SpanBook", name := "refresh", desc := "(LLoopJudge$Setting;LLoopJudge$Judge;)V" } : Jvm.MethodName)) ∈ TB := tb_of (t_2 (List.mem_of_getElem? (i := 146) rfl)) rfl
theorem w_2_147 : (Jvm.Cond.selects "LoopJudge$SpanBook" ({ cls := "LoopJudge$SpanBook", name := "refresh", desc := "(LLoopJudge$Setting;LLoopJudge$Judge;)V" } : Jvm.MethodName) ({ cls := "LoopJudge$SpanBook", name := "refresh", desc := "(LLoopJudge$Setting;LLoopJudge$Judge;)V" } : Jvm.MethodName)) ∈ TB := tb_of (t_2 (List.mem_of_getElem? (i := 147) rfl)) rfl
theorem w_2_148 : (Jvm.Cond.code ({ cls := "LoopJudge$SpanBook", name := "refresh", desc := "(LLoopJudge$Setting;LLoopJudge$Judge;)V" } : Jvm.MethodName) prog_7_method_2_code (3 : Nat) (Option.none : Option Jvm.ClassFile.FieldType)) ∈ TB := tb_of (t_2 (List.mem_of_getElem? (i := 148) rfl)) rfl
theorem w_2_149 : (Jvm.Cond.methodLink "LoopJudge$SpanBook" (42 : Nat) ({ cls := "LoopJudge$SpanBook", name := "isOf", desc := "(LLoopJudge$Setting;)Z" } : Jvm.MethodName)) ∈ TB := tb_of (t_2 (List.mem_of_getElem? (i := 149) rfl)) rfl
theorem w_2_151 : (Jvm.Cond.instanceMethod ({ cls := "LoopJudge$SpanBook", name := "isOf", desc := "(LLoopJudge$Setting;)Z" } : Jvm.MethodName)) ∈ TB := tb_of (t_2 (List.mem_of_getElem? (i := 151) rfl)) rfl
theorem w_2_152 : (Jvm.Cond.code ({ cls := "LoopJudge$SpanBook", name := "isOf", desc := "(LLoopJudge$Setting;)Z" } : Jvm.MethodName) prog_7_method_4_code (3 : Nat) (Option.some Jvm.ClassFile.FieldType.boolean)) ∈ TB := tb_of (t_2 (List.mem_of_getElem? (i := 152) rfl)) rfl
theorem w_2_153 : (Jvm.Cond.methodLink "LoopJudge$SpanBook" (49 : Nat) ({ cls := "java/lang/System", name := "arraycopy", desc := "(Ljava/lang/Object;ILjava/lang/Object;II)V" } : Jvm.MethodName)) ∈ TB := tb_of (t_2 (List.mem_of_getElem? (i := 153) rfl)) rfl
theorem w_2_154 : (Jvm.Cond.methodLink "LoopJudge$SpanBook" (55 : Nat) ({ cls := "LoopJudge$SpanBook", name := "collect", desc := "(LLoopJudge$Setting;LLoopJudge$Judge;)V" } : Jvm.MethodName)) ∈ TB := tb_of (t_2 (List.mem_of_getElem? (i := 154) rfl)) rfl
theorem w_2_156 : (Jvm.Cond.instanceMethod ({ cls := "LoopJudge$SpanBook", name := "collect", desc := "(LLoopJudge$Setting;LLoopJudge$Judge;)V" } : Jvm.MethodName)) ∈ TB := tb_of (t_2 (List.mem_of_getElem? (i := 156) rfl)) rfl
theorem w_2_157 : (Jvm.Cond.code ({ cls := "LoopJudge$SpanBook", name := "collect", desc := "(LLoopJudge$Setting;LLoopJudge$Judge;)V" } : Jvm.MethodName) prog_7_method_5_code (4 : Nat) (Option.none : Option Jvm.ClassFile.FieldType)) ∈ TB := tb_of (t_2 (List.mem_of_getElem? (i := 157) rfl)) rfl
theorem w_2_158 : (Jvm.Cond.methodLink "LoopJudge$SpanBook" (62 : Nat) ({ cls := "LoopJudge$Setting", name := "fillLoop", desc := "([JI)V" } : Jvm.MethodName)) ∈ TB := tb_of (t_2 (List.mem_of_getElem? (i := 158) rfl)) rfl
theorem w_2_159 : (Jvm.Cond.methodLink "LoopJudge$SpanBook" (66 : Nat) ({ cls := "LoopJudge$Judge", name := "isSteady", desc := "(I[J)Z" } : Jvm.MethodName)) ∈ TB := tb_of (t_2 (List.mem_of_getElem? (i := 159) rfl)) rfl
theorem w_2_160 : (Jvm.Cond.instanceMethod ({ cls := "LoopJudge$Judge", name := "isSteady", desc := "(I[J)Z" } : Jvm.MethodName)) ∈ TB := tb_of (t_2 (List.mem_of_getElem? (i := 160) rfl)) rfl
theorem w_2_161 : (Jvm.Cond.selects "LoopJudge$Judge" ({ cls := "LoopJudge$Judge", name := "isSteady", desc := "(I[J)Z" } : Jvm.MethodName) ({ cls := "LoopJudge$Judge", name := "isSteady", desc := "(I[J)Z" } : Jvm.MethodName)) ∈ TB := tb_of (t_2 (List.mem_of_getElem? (i := 161) rfl)) rfl
theorem w_2_162 : (Jvm.Cond.code ({ cls := "LoopJudge$Judge", name := "isSteady", desc := "(I[J)Z" } : Jvm.MethodName) prog_3_method_3_code (3 : Nat) (Option.some Jvm.ClassFile.FieldType.boolean)) ∈ TB := tb_of (t_2 (List.mem_of_getElem? (i := 162) rfl)) rfl
theorem w_2_163 : (Jvm.Cond.methodLink "LoopJudge$Judge" (46 : Nat) ({ cls := "LoopJudge$Judge", name := "isSteadyByAxis", desc := "([J)Z" } : Jvm.MethodName)) ∈ TB := tb_of (t_2 (List.mem_of_getElem? (i := 163) rfl)) rfl
theorem w_2_164 : (Jvm.Cond.static ({ cls := "LoopJudge$Judge", name := "isSteadyByAxis", desc := "([J)Z" } : Jvm.MethodName)) ∈ TB := tb_of (t_2 (List.mem_of_getElem? (i := 164) rfl)) rfl
theorem w_2_165 : (Jvm.Cond.code ({ cls := "LoopJudge$Judge", name := "isSteadyByAxis", desc := "([J)Z" } : Jvm.MethodName) prog_3_method_10_code (7 : Nat) (Option.some Jvm.ClassFile.FieldType.boolean)) ∈ TB := tb_of (t_2 (List.mem_of_getElem? (i := 165) rfl)) rfl
theorem w_2_166 : (Jvm.Cond.methodLink "LoopJudge$SpanBook" (72 : Nat) ({ cls := "LoopJudge$SpanBook", name := "addGain", desc := "(I)V" } : Jvm.MethodName)) ∈ TB := tb_of (t_2 (List.mem_of_getElem? (i := 166) rfl)) rfl
theorem w_2_168 : (Jvm.Cond.instanceMethod ({ cls := "LoopJudge$SpanBook", name := "addGain", desc := "(I)V" } : Jvm.MethodName)) ∈ TB := tb_of (t_2 (List.mem_of_getElem? (i := 168) rfl)) rfl
theorem w_2_169 : (Jvm.Cond.code ({ cls := "LoopJudge$SpanBook", name := "addGain", desc := "(I)V" } : Jvm.MethodName) prog_7_method_6_code (2 : Nat) (Option.none : Option Jvm.ClassFile.FieldType)) ∈ TB := tb_of (t_2 (List.mem_of_getElem? (i := 169) rfl)) rfl
theorem w_2_170 : (Jvm.Cond.methodLink "LoopJudge$SpanBook" (59 : Nat) ({ cls := "LoopJudge$SpanBook", name := "orderByWidth", desc := "()V" } : Jvm.MethodName)) ∈ TB := tb_of (t_2 (List.mem_of_getElem? (i := 170) rfl)) rfl
theorem w_2_172 : (Jvm.Cond.instanceMethod ({ cls := "LoopJudge$SpanBook", name := "orderByWidth", desc := "()V" } : Jvm.MethodName)) ∈ TB := tb_of (t_2 (List.mem_of_getElem? (i := 172) rfl)) rfl
theorem w_2_173 : (Jvm.Cond.code ({ cls := "LoopJudge$SpanBook", name := "orderByWidth", desc := "()V" } : Jvm.MethodName) prog_7_method_7_code (3 : Nat) (Option.none : Option Jvm.ClassFile.FieldType)) ∈ TB := tb_of (t_2 (List.mem_of_getElem? (i := 173) rfl)) rfl
theorem w_2_174 : (Jvm.Cond.methodLink "LoopJudge$SpanBook" (76 : Nat) ({ cls := "LoopJudge$SpanBook", name := "widthOf", desc := "(I)I" } : Jvm.MethodName)) ∈ TB := tb_of (t_2 (List.mem_of_getElem? (i := 174) rfl)) rfl
theorem w_2_176 : (Jvm.Cond.instanceMethod ({ cls := "LoopJudge$SpanBook", name := "widthOf", desc := "(I)I" } : Jvm.MethodName)) ∈ TB := tb_of (t_2 (List.mem_of_getElem? (i := 176) rfl)) rfl
theorem w_2_177 : (Jvm.Cond.code ({ cls := "LoopJudge$SpanBook", name := "widthOf", desc := "(I)I" } : Jvm.MethodName) prog_7_method_8_code (2 : Nat) (Option.some Jvm.ClassFile.FieldType.int)) ∈ TB := tb_of (t_2 (List.mem_of_getElem? (i := 177) rfl)) rfl
theorem w_2_178 : (Jvm.Cond.methodLink "LoopJudge" (153 : Nat) ({ cls := "LoopJudge$SpanBook", name := "endOf", desc := "(II)I" } : Jvm.MethodName)) ∈ TB := tb_of (t_2 (List.mem_of_getElem? (i := 178) rfl)) rfl
theorem w_2_179 : (Jvm.Cond.instanceMethod ({ cls := "LoopJudge$SpanBook", name := "endOf", desc := "(II)I" } : Jvm.MethodName)) ∈ TB := tb_of (t_2 (List.mem_of_getElem? (i := 179) rfl)) rfl
theorem w_2_180 : (Jvm.Cond.selects "LoopJudge$SpanBook" ({ cls := "LoopJudge$SpanBook", name := "endOf", desc := "(II)I" } : Jvm.MethodName) ({ cls := "LoopJudge$SpanBook", name := "endOf", desc := "(II)I" } : Jvm.MethodName)) ∈ TB := tb_of (t_2 (List.mem_of_getElem? (i := 180) rfl)) rfl
theorem w_2_181 : (Jvm.Cond.code ({ cls := "LoopJudge$SpanBook", name := "endOf", desc := "(II)I" } : Jvm.MethodName) prog_7_method_3_code (3 : Nat) (Option.some Jvm.ClassFile.FieldType.int)) ∈ TB := tb_of (t_2 (List.mem_of_getElem? (i := 181) rfl)) rfl
theorem w_2_182 : (Jvm.Cond.methodLink "LoopJudgeLaw" (54 : Nat) ({ cls := "LoopJudge", name := "widest", desc := "(III)I" } : Jvm.MethodName)) ∈ TB := tb_of (t_2 (List.mem_of_getElem? (i := 182) rfl)) rfl
theorem w_2_183 : (Jvm.Cond.instanceMethod ({ cls := "LoopJudge", name := "widest", desc := "(III)I" } : Jvm.MethodName)) ∈ TB := tb_of (t_2 (List.mem_of_getElem? (i := 183) rfl)) rfl
theorem w_2_184 : (Jvm.Cond.selects "LoopJudge" ({ cls := "LoopJudge", name := "widest", desc := "(III)I" } : Jvm.MethodName) ({ cls := "LoopJudge", name := "widest", desc := "(III)I" } : Jvm.MethodName)) ∈ TB := tb_of (t_2 (List.mem_of_getElem? (i := 184) rfl)) rfl
theorem w_2_185 : (Jvm.Cond.code ({ cls := "LoopJudge", name := "widest", desc := "(III)I" } : Jvm.MethodName) prog_1_method_11_code (5 : Nat) (Option.some Jvm.ClassFile.FieldType.int)) ∈ TB := tb_of (t_2 (List.mem_of_getElem? (i := 185) rfl)) rfl
theorem w_2_186 : (Jvm.Cond.methodLink "LoopJudgeLaw" (58 : Nat) ({ cls := "LoopJudge", name := "spans", desc := "(II)I" } : Jvm.MethodName)) ∈ TB := tb_of (t_2 (List.mem_of_getElem? (i := 186) rfl)) rfl
theorem w_2_187 : (Jvm.Cond.instanceMethod ({ cls := "LoopJudge", name := "spans", desc := "(II)I" } : Jvm.MethodName)) ∈ TB := tb_of (t_2 (List.mem_of_getElem? (i := 187) rfl)) rfl
theorem w_2_188 : (Jvm.Cond.selects "LoopJudge" ({ cls := "LoopJudge", name := "spans", desc := "(II)I" } : Jvm.MethodName) ({ cls := "LoopJudge", name := "spans", desc := "(II)I" } : Jvm.MethodName)) ∈ TB := tb_of (t_2 (List.mem_of_getElem? (i := 188) rfl)) rfl
theorem w_2_189 : (Jvm.Cond.code ({ cls := "LoopJudge", name := "spans", desc := "(II)I" } : Jvm.MethodName) prog_1_method_12_code (4 : Nat) (Option.some Jvm.ClassFile.FieldType.int)) ∈ TB := tb_of (t_2 (List.mem_of_getElem? (i := 189) rfl)) rfl
theorem w_2_190 : (Jvm.Cond.methodLink "LoopJudgeLaw" (62 : Nat) ({ cls := "LoopJudge", name := "corners", desc := "(I)I" } : Jvm.MethodName)) ∈ TB := tb_of (t_2 (List.mem_of_getElem? (i := 190) rfl)) rfl
theorem w_2_191 : (Jvm.Cond.instanceMethod ({ cls := "LoopJudge", name := "corners", desc := "(I)I" } : Jvm.MethodName)) ∈ TB := tb_of (t_2 (List.mem_of_getElem? (i := 191) rfl)) rfl
theorem w_2_192 : (Jvm.Cond.selects "LoopJudge" ({ cls := "LoopJudge", name := "corners", desc := "(I)I" } : Jvm.MethodName) ({ cls := "LoopJudge", name := "corners", desc := "(I)I" } : Jvm.MethodName)) ∈ TB := tb_of (t_2 (List.mem_of_getElem? (i := 192) rfl)) rfl
theorem w_2_193 : (Jvm.Cond.code ({ cls := "LoopJudge", name := "corners", desc := "(I)I" } : Jvm.MethodName) prog_1_method_13_code (5 : Nat) (Option.some Jvm.ClassFile.FieldType.int)) ∈ TB := tb_of (t_2 (List.mem_of_getElem? (i := 193) rfl)) rfl
theorem w_2_194 : (Jvm.Cond.fieldLink "LoopJudge" (163 : Nat) "LoopJudge" "CORNER_SIDES" "[I") ∈ TB := tb_of (t_2 (List.mem_of_getElem? (i := 194) rfl)) rfl
theorem w_2_196 : (Jvm.Cond.methodLink "LoopJudge" (166 : Nat) ({ cls := "LoopJudge$Judge", name := "isSteady", desc := "(I[J)Z" } : Jvm.MethodName)) ∈ TB := tb_of (t_2 (List.mem_of_getElem? (i := 196) rfl)) rfl
theorem w_2_197 : (Jvm.Cond.methodLink "LoopJudgeLaw" (66 : Nat) ({ cls := "LoopJudge", name := "neighbours", desc := "(I)I" } : Jvm.MethodName)) ∈ TB := tb_of (t_2 (List.mem_of_getElem? (i := 197) rfl)) rfl
theorem w_2_198 : (Jvm.Cond.instanceMethod ({ cls := "LoopJudge", name := "neighbours", desc := "(I)I" } : Jvm.MethodName)) ∈ TB := tb_of (t_2 (List.mem_of_getElem? (i := 198) rfl)) rfl
theorem w_2_199 : (Jvm.Cond.selects "LoopJudge" ({ cls := "LoopJudge", name := "neighbours", desc := "(I)I" } : Jvm.MethodName) ({ cls := "LoopJudge", name := "neighbours", desc := "(I)I" } : Jvm.MethodName)) ∈ TB := tb_of (t_2 (List.mem_of_getElem? (i := 199) rfl)) rfl
theorem w_2_200 : (Jvm.Cond.code ({ cls := "LoopJudge", name := "neighbours", desc := "(I)I" } : Jvm.MethodName) prog_1_method_14_code (6 : Nat) (Option.some Jvm.ClassFile.FieldType.int)) ∈ TB := tb_of (t_2 (List.mem_of_getElem? (i := 200) rfl)) rfl
theorem w_2_201 : (Jvm.Cond.methodLink "LoopJudgeLaw" (70 : Nat) ({ cls := "LoopJudge", name := "off", desc := "(II)I" } : Jvm.MethodName)) ∈ TB := tb_of (t_2 (List.mem_of_getElem? (i := 201) rfl)) rfl
theorem w_2_202 : (Jvm.Cond.instanceMethod ({ cls := "LoopJudge", name := "off", desc := "(II)I" } : Jvm.MethodName)) ∈ TB := tb_of (t_2 (List.mem_of_getElem? (i := 202) rfl)) rfl
theorem w_2_203 : (Jvm.Cond.selects "LoopJudge" ({ cls := "LoopJudge", name := "off", desc := "(II)I" } : Jvm.MethodName) ({ cls := "LoopJudge", name := "off", desc := "(II)I" } : Jvm.MethodName)) ∈ TB := tb_of (t_2 (List.mem_of_getElem? (i := 203) rfl)) rfl
theorem w_2_204 : (Jvm.Cond.code ({ cls := "LoopJudge", name := "off", desc := "(II)I" } : Jvm.MethodName) prog_1_method_15_code (6 : Nat) (Option.some Jvm.ClassFile.FieldType.int)) ∈ TB := tb_of (t_2 (List.mem_of_getElem? (i := 204) rfl)) rfl
theorem w_2_205 : (Jvm.Cond.methodLink "LoopJudge" (170 : Nat) ({ cls := "java/lang/Integer", name := "bitCount", desc := "(I)I" } : Jvm.MethodName)) ∈ TB := tb_of (t_2 (List.mem_of_getElem? (i := 205) rfl)) rfl
theorem w_2_206 : (Jvm.Cond.static ({ cls := "java/lang/Integer", name := "bitCount", desc := "(I)I" } : Jvm.MethodName)) ∈ TB := tb_of (t_2 (List.mem_of_getElem? (i := 206) rfl)) rfl
theorem w_2_207 : (Jvm.Cond.code ({ cls := "java/lang/Integer", name := "bitCount", desc := "(I)I" } : Jvm.MethodName) prog_11_method_49_code (1 : Nat) (Option.some Jvm.ClassFile.FieldType.int)) ∈ TB := tb_of (t_2 (List.mem_of_getElem? (i := 207) rfl)) rfl
theorem w_2_208 : (Jvm.Cond.constant "java/lang/Integer" (265 : Nat) (1431655765 : Int32)) ∈ TB := tb_of (t_2 (List.mem_of_getElem? (i := 208) rfl)) rfl
theorem w_2_209 : (Jvm.Cond.constant "java/lang/Integer" (266 : Nat) (858993459 : Int32)) ∈ TB := tb_of (t_2 (List.mem_of_getElem? (i := 209) rfl)) rfl
theorem w_2_210 : (Jvm.Cond.constant "java/lang/Integer" (267 : Nat) (252645135 : Int32)) ∈ TB := tb_of (t_2 (List.mem_of_getElem? (i := 210) rfl)) rfl
theorem w_2_211 : (Jvm.Cond.methodLink "LoopJudge" (175 : Nat) ({ cls := "LoopJudge", name := "oddsOf", desc := "(II)I" } : Jvm.MethodName)) ∈ TB := tb_of (t_2 (List.mem_of_getElem? (i := 211) rfl)) rfl
theorem w_2_212 : (Jvm.Cond.static ({ cls := "LoopJudge", name := "oddsOf", desc := "(II)I" } : Jvm.MethodName)) ∈ TB := tb_of (t_2 (List.mem_of_getElem? (i := 212) rfl)) rfl
theorem w_2_213 : (Jvm.Cond.code ({ cls := "LoopJudge", name := "oddsOf", desc := "(II)I" } : Jvm.MethodName) prog_1_method_36_code (4 : Nat) (Option.some Jvm.ClassFile.FieldType.int)) ∈ TB := tb_of (t_2 (List.mem_of_getElem? (i := 213) rfl)) rfl
theorem w_2_214 : (Jvm.Cond.constantLong "LoopJudge" (178 : Nat) (100000 : Int64)) ∈ TB := tb_of (t_2 (List.mem_of_getElem? (i := 214) rfl)) rfl
theorem w_2_215 : (Jvm.Cond.methodLink "LoopJudge" (180 : Nat) ({ cls := "LoopJudge", name := "commonDivisor", desc := "(JJ)J" } : Jvm.MethodName)) ∈ TB := tb_of (t_2 (List.mem_of_getElem? (i := 215) rfl)) rfl
theorem w_2_216 : (Jvm.Cond.constant "LoopJudge" (184 : Nat) (100000 : Int32)) ∈ TB := tb_of (t_2 (List.mem_of_getElem? (i := 216) rfl)) rfl
theorem w_2_217 : (Jvm.Cond.methodLink "LoopJudgeLaw" (74 : Nat) ({ cls := "LoopJudge", name := "type", desc := "(I)I" } : Jvm.MethodName)) ∈ TB := tb_of (t_2 (List.mem_of_getElem? (i := 217) rfl)) rfl
theorem w_2_218 : (Jvm.Cond.instanceMethod ({ cls := "LoopJudge", name := "type", desc := "(I)I" } : Jvm.MethodName)) ∈ TB := tb_of (t_2 (List.mem_of_getElem? (i := 218) rfl)) rfl
theorem w_2_219 : (Jvm.Cond.selects "LoopJudge" ({ cls := "LoopJudge", name := "type", desc := "(I)I" } : Jvm.MethodName) ({ cls := "LoopJudge", name := "type", desc := "(I)I" } : Jvm.MethodName)) ∈ TB := tb_of (t_2 (List.mem_of_getElem? (i := 219) rfl)) rfl
theorem w_2_220 : (Jvm.Cond.code ({ cls := "LoopJudge", name := "type", desc := "(I)I" } : Jvm.MethodName) prog_1_method_16_code (2 : Nat) (Option.some Jvm.ClassFile.FieldType.int)) ∈ TB := tb_of (t_2 (List.mem_of_getElem? (i := 220) rfl)) rfl
theorem w_2_221 : (Jvm.Cond.methodLink "LoopJudge" (185 : Nat) ({ cls := "LoopJudge$Tape", name := "append", desc := "(I)Z" } : Jvm.MethodName)) ∈ TB := tb_of (t_2 (List.mem_of_getElem? (i := 221) rfl)) rfl
theorem w_2_222 : (Jvm.Cond.instanceMethod ({ cls := "LoopJudge$Tape", name := "append", desc := "(I)Z" } : Jvm.MethodName)) ∈ TB := tb_of (t_2 (List.mem_of_getElem? (i := 222) rfl)) rfl
theorem w_2_223 : (Jvm.Cond.selects "LoopJudge$Tape" ({ cls := "LoopJudge$Tape", name := "append", desc := "(I)Z" } : Jvm.MethodName) ({ cls := "LoopJudge$Tape", name := "append", desc := "(I)Z" } : Jvm.MethodName)) ∈ TB := tb_of (t_2 (List.mem_of_getElem? (i := 223) rfl)) rfl
theorem w_2_224 : (Jvm.Cond.code ({ cls := "LoopJudge$Tape", name := "append", desc := "(I)Z" } : Jvm.MethodName) prog_8_method_2_code (2 : Nat) (Option.some Jvm.ClassFile.FieldType.boolean)) ∈ TB := tb_of (t_2 (List.mem_of_getElem? (i := 224) rfl)) rfl
theorem w_2_225 : (Jvm.Cond.methodLink "LoopJudgeLaw" (78 : Nat) ({ cls := "LoopJudge", name := "read", desc := "()I" } : Jvm.MethodName)) ∈ TB := tb_of (t_2 (List.mem_of_getElem? (i := 225) rfl)) rfl
theorem w_2_226 : (Jvm.Cond.instanceMethod ({ cls := "LoopJudge", name := "read", desc := "()I" } : Jvm.MethodName)) ∈ TB := tb_of (t_2 (List.mem_of_getElem? (i := 226) rfl)) rfl
theorem w_2_227 : (Jvm.Cond.selects "LoopJudge" ({ cls := "LoopJudge", name := "read", desc := "()I" } : Jvm.MethodName) ({ cls := "LoopJudge", name := "read", desc := "()I" } : Jvm.MethodName)) ∈ TB := tb_of (t_2 (List.mem_of_getElem? (i := 227) rfl)) rfl
theorem w_2_228 : (Jvm.Cond.code ({ cls := "LoopJudge", name := "read", desc := "()I" } : Jvm.MethodName) prog_1_method_17_code (2 : Nat) (Option.some Jvm.ClassFile.FieldType.int)) ∈ TB := tb_of (t_2 (List.mem_of_getElem? (i := 228) rfl)) rfl
theorem w_2_229 : (Jvm.Cond.methodLink "LoopJudge" (189 : Nat) ({ cls := "LoopJudge$Tape", name := "readText", desc := "()I" } : Jvm.MethodName)) ∈ TB := tb_of (t_2 (List.mem_of_getElem? (i := 229) rfl)) rfl
theorem w_2_230 : (Jvm.Cond.instanceMethod ({ cls := "LoopJudge$Tape", name := "readText", desc := "()I" } : Jvm.MethodName)) ∈ TB := tb_of (t_2 (List.mem_of_getElem? (i := 230) rfl)) rfl
theorem w_2_231 : (Jvm.Cond.selects "LoopJudge$Tape" ({ cls := "LoopJudge$Tape", name := "readText", desc := "()I" } : Jvm.MethodName) ({ cls := "LoopJudge$Tape", name := "readText", desc := "()I" } : Jvm.MethodName)) ∈ TB := tb_of (t_2 (List.mem_of_getElem? (i := 231) rfl)) rfl
theorem w_2_232 : (Jvm.Cond.code ({ cls := "LoopJudge$Tape", name := "readText", desc := "()I" } : Jvm.MethodName) prog_8_method_3_code (2 : Nat) (Option.some Jvm.ClassFile.FieldType.int)) ∈ TB := tb_of (t_2 (List.mem_of_getElem? (i := 232) rfl)) rfl
theorem w_2_233 : (Jvm.Cond.methodLink "LoopJudge$Tape" (36 : Nat) ({ cls := "java/util/Arrays", name := "fill", desc := "([II)V" } : Jvm.MethodName)) ∈ TB := tb_of (t_2 (List.mem_of_getElem? (i := 233) rfl)) rfl
theorem w_2_234 : (Jvm.Cond.static ({ cls := "java/util/Arrays", name := "fill", desc := "([II)V" } : Jvm.MethodName)) ∈ TB := tb_of (t_2 (List.mem_of_getElem? (i := 234) rfl)) rfl
theorem w_2_235 : (Jvm.Cond.code ({ cls := "java/util/Arrays", name := "fill", desc := "([II)V" } : Jvm.MethodName) prog_14_method_103_code (4 : Nat) (Option.none : Option Jvm.ClassFile.FieldType)) ∈ TB := tb_of (t_2 (List.mem_of_getElem? (i := 235) rfl)) rfl
theorem w_2_236 : (Jvm.Cond.methodLink "LoopJudge$Tape" (42 : Nat) ({ cls := "LoopJudge$Tape", name := "readTerms", desc := "(I)I" } : Jvm.MethodName)) ∈ TB := tb_of (t_2 (List.mem_of_getElem? (i := 236) rfl)) rfl
theorem w_2_238 : (Jvm.Cond.instanceMethod ({ cls := "LoopJudge$Tape", name := "readTerms", desc := "(I)I" } : Jvm.MethodName)) ∈ TB := tb_of (t_2 (List.mem_of_getElem? (i := 238) rfl)) rfl
theorem w_2_239 : (Jvm.Cond.code ({ cls := "LoopJudge$Tape", name := "readTerms", desc := "(I)I" } : Jvm.MethodName) prog_8_method_4_code (7 : Nat) (Option.some Jvm.ClassFile.FieldType.int)) ∈ TB := tb_of (t_2 (List.mem_of_getElem? (i := 239) rfl)) rfl
theorem w_3_0 : (Jvm.Cond.methodLink "LoopJudge$Tape" (46 : Nat) ({ cls := "LoopJudge$Tape", name := "nextLetter", desc := "()I" } : Jvm.MethodName)) ∈ TB := tb_of (t_3 (List.mem_of_getElem? (i := 0) rfl)) rfl
theorem w_3_2 : (Jvm.Cond.instanceMethod ({ cls := "LoopJudge$Tape", name := "nextLetter", desc := "()I" } : Jvm.MethodName)) ∈ TB := tb_of (t_3 (List.mem_of_getElem? (i := 2) rfl)) rfl
theorem w_3_3 : (Jvm.Cond.code ({ cls := "LoopJudge$Tape", name := "nextLetter", desc := "()I" } : Jvm.MethodName) prog_8_method_7_code (1 : Nat) (Option.some Jvm.ClassFile.FieldType.int)) ∈ TB := tb_of (t_3 (List.mem_of_getElem? (i := 3) rfl)) rfl
theorem w_3_4 : (Jvm.Cond.methodLink "LoopJudge$Tape" (50 : Nat) ({ cls := "LoopJudge$Tape", name := "readTerm", desc := "()Z" } : Jvm.MethodName)) ∈ TB := tb_of (t_3 (List.mem_of_getElem? (i := 4) rfl)) rfl
theorem w_3_6 : (Jvm.Cond.instanceMethod ({ cls := "LoopJudge$Tape", name := "readTerm", desc := "()Z" } : Jvm.MethodName)) ∈ TB := tb_of (t_3 (List.mem_of_getElem? (i := 6) rfl)) rfl
theorem w_3_7 : (Jvm.Cond.code ({ cls := "LoopJudge$Tape", name := "readTerm", desc := "()Z" } : Jvm.MethodName) prog_8_method_5_code (2 : Nat) (Option.some Jvm.ClassFile.FieldType.boolean)) ∈ TB := tb_of (t_3 (List.mem_of_getElem? (i := 7) rfl)) rfl
theorem w_3_8 : (Jvm.Cond.methodLink "LoopJudge$Tape" (54 : Nat) ({ cls := "LoopJudge$Tape", name := "readPower", desc := "()V" } : Jvm.MethodName)) ∈ TB := tb_of (t_3 (List.mem_of_getElem? (i := 8) rfl)) rfl
theorem w_3_10 : (Jvm.Cond.instanceMethod ({ cls := "LoopJudge$Tape", name := "readPower", desc := "()V" } : Jvm.MethodName)) ∈ TB := tb_of (t_3 (List.mem_of_getElem? (i := 10) rfl)) rfl
theorem w_3_11 : (Jvm.Cond.code ({ cls := "LoopJudge$Tape", name := "readPower", desc := "()V" } : Jvm.MethodName) prog_8_method_6_code (2 : Nat) (Option.none : Option Jvm.ClassFile.FieldType)) ∈ TB := tb_of (t_3 (List.mem_of_getElem? (i := 11) rfl)) rfl
theorem w_3_12 : (Jvm.Cond.methodLink "LoopJudge" (197 : Nat) ({ cls := "java/lang/System", name := "arraycopy", desc := "(Ljava/lang/Object;ILjava/lang/Object;II)V" } : Jvm.MethodName)) ∈ TB := tb_of (t_3 (List.mem_of_getElem? (i := 12) rfl)) rfl
theorem w_3_13 : (Jvm.Cond.methodLink "LoopJudgeLaw" (82 : Nat) ({ cls := "LoopJudge", name := "drift", desc := "(I)I" } : Jvm.MethodName)) ∈ TB := tb_of (t_3 (List.mem_of_getElem? (i := 13) rfl)) rfl
theorem w_3_14 : (Jvm.Cond.instanceMethod ({ cls := "LoopJudge", name := "drift", desc := "(I)I" } : Jvm.MethodName)) ∈ TB := tb_of (t_3 (List.mem_of_getElem? (i := 14) rfl)) rfl
theorem w_3_15 : (Jvm.Cond.selects "LoopJudge" ({ cls := "LoopJudge", name := "drift", desc := "(I)I" } : Jvm.MethodName) ({ cls := "LoopJudge", name := "drift", desc := "(I)I" } : Jvm.MethodName)) ∈ TB := tb_of (t_3 (List.mem_of_getElem? (i := 15) rfl)) rfl
theorem w_3_16 : (Jvm.Cond.code ({ cls := "LoopJudge", name := "drift", desc := "(I)I" } : Jvm.MethodName) prog_1_method_18_code (3 : Nat) (Option.some Jvm.ClassFile.FieldType.int)) ∈ TB := tb_of (t_3 (List.mem_of_getElem? (i := 16) rfl)) rfl
theorem w_3_17 : (Jvm.Cond.methodLink "LoopJudge" (203 : Nat) ({ cls := "LoopJudge$Setting", name := "drawOnce", desc := "()V" } : Jvm.MethodName)) ∈ TB := tb_of (t_3 (List.mem_of_getElem? (i := 17) rfl)) rfl
theorem w_3_18 : (Jvm.Cond.instanceMethod ({ cls := "LoopJudge$Setting", name := "drawOnce", desc := "()V" } : Jvm.MethodName)) ∈ TB := tb_of (t_3 (List.mem_of_getElem? (i := 18) rfl)) rfl
theorem w_3_19 : (Jvm.Cond.selects "LoopJudge$Setting" ({ cls := "LoopJudge$Setting", name := "drawOnce", desc := "()V" } : Jvm.MethodName) ({ cls := "LoopJudge$Setting", name := "drawOnce", desc := "()V" } : Jvm.MethodName)) ∈ TB := tb_of (t_3 (List.mem_of_getElem? (i := 19) rfl)) rfl
theorem w_3_20 : (Jvm.Cond.code ({ cls := "LoopJudge$Setting", name := "drawOnce", desc := "()V" } : Jvm.MethodName) prog_5_method_6_code (2 : Nat) (Option.none : Option Jvm.ClassFile.FieldType)) ∈ TB := tb_of (t_3 (List.mem_of_getElem? (i := 20) rfl)) rfl
theorem w_3_21 : (Jvm.Cond.constant "LoopJudge$Setting" (28 : Nat) (1103515245 : Int32)) ∈ TB := tb_of (t_3 (List.mem_of_getElem? (i := 21) rfl)) rfl
theorem w_3_22 : (Jvm.Cond.constant "LoopJudge$Setting" (31 : Nat) (2147483647 : Int32)) ∈ TB := tb_of (t_3 (List.mem_of_getElem? (i := 22) rfl)) rfl
theorem w_3_23 : (Jvm.Cond.constant "LoopJudge$Setting" (32 : Nat) (65536 : Int32)) ∈ TB := tb_of (t_3 (List.mem_of_getElem? (i := 23) rfl)) rfl
theorem w_3_24 : (Jvm.Cond.methodLink "LoopJudgeLaw" (86 : Nat) ({ cls := "LoopJudge", name := "undo", desc := "()I" } : Jvm.MethodName)) ∈ TB := tb_of (t_3 (List.mem_of_getElem? (i := 24) rfl)) rfl
theorem w_3_25 : (Jvm.Cond.instanceMethod ({ cls := "LoopJudge", name := "undo", desc := "()I" } : Jvm.MethodName)) ∈ TB := tb_of (t_3 (List.mem_of_getElem? (i := 25) rfl)) rfl
theorem w_3_26 : (Jvm.Cond.selects "LoopJudge" ({ cls := "LoopJudge", name := "undo", desc := "()I" } : Jvm.MethodName) ({ cls := "LoopJudge", name := "undo", desc := "()I" } : Jvm.MethodName)) ∈ TB := tb_of (t_3 (List.mem_of_getElem? (i := 26) rfl)) rfl
theorem w_3_27 : (Jvm.Cond.code ({ cls := "LoopJudge", name := "undo", desc := "()I" } : Jvm.MethodName) prog_1_method_19_code (1 : Nat) (Option.some Jvm.ClassFile.FieldType.int)) ∈ TB := tb_of (t_3 (List.mem_of_getElem? (i := 27) rfl)) rfl
theorem w_3_28 : (Jvm.Cond.methodLink "LoopJudge" (206 : Nat) ({ cls := "LoopJudge$Past", name := "giveBack", desc := "(LLoopJudge$Setting;)V" } : Jvm.MethodName)) ∈ TB := tb_of (t_3 (List.mem_of_getElem? (i := 28) rfl)) rfl
theorem w_3_29 : (Jvm.Cond.instanceMethod ({ cls := "LoopJudge$Past", name := "giveBack", desc := "(LLoopJudge$Setting;)V" } : Jvm.MethodName)) ∈ TB := tb_of (t_3 (List.mem_of_getElem? (i := 29) rfl)) rfl
theorem w_3_30 : (Jvm.Cond.selects "LoopJudge$Past" ({ cls := "LoopJudge$Past", name := "giveBack", desc := "(LLoopJudge$Setting;)V" } : Jvm.MethodName) ({ cls := "LoopJudge$Past", name := "giveBack", desc := "(LLoopJudge$Setting;)V" } : Jvm.MethodName)) ∈ TB := tb_of (t_3 (List.mem_of_getElem? (i := 30) rfl)) rfl
theorem w_3_31 : (Jvm.Cond.code ({ cls := "LoopJudge$Past", name := "giveBack", desc := "(LLoopJudge$Setting;)V" } : Jvm.MethodName) prog_4_method_3_code (2 : Nat) (Option.none : Option Jvm.ClassFile.FieldType)) ∈ TB := tb_of (t_3 (List.mem_of_getElem? (i := 31) rfl)) rfl
theorem w_3_32 : (Jvm.Cond.methodLink "LoopJudgeLaw" (90 : Nat) ({ cls := "LoopJudge", name := "seed", desc := "(I)I" } : Jvm.MethodName)) ∈ TB := tb_of (t_3 (List.mem_of_getElem? (i := 32) rfl)) rfl
theorem w_3_33 : (Jvm.Cond.instanceMethod ({ cls := "LoopJudge", name := "seed", desc := "(I)I" } : Jvm.MethodName)) ∈ TB := tb_of (t_3 (List.mem_of_getElem? (i := 33) rfl)) rfl
theorem w_3_34 : (Jvm.Cond.selects "LoopJudge" ({ cls := "LoopJudge", name := "seed", desc := "(I)I" } : Jvm.MethodName) ({ cls := "LoopJudge", name := "seed", desc := "(I)I" } : Jvm.MethodName)) ∈ TB := tb_of (t_3 (List.mem_of_getElem? (i := 34) rfl)) rfl
theorem w_3_35 : (Jvm.Cond.code ({ cls := "LoopJudge", name := "seed", desc := "(I)I" } : Jvm.MethodName) prog_1_method_20_code (3 : Nat) (Option.some Jvm.ClassFile.FieldType.int)) ∈ TB := tb_of (t_3 (List.mem_of_getElem? (i := 35) rfl)) rfl
theorem w_3_36 : (Jvm.Cond.methodLink "LoopJudgeLaw" (94 : Nat) ({ cls := "LoopJudge", name := "image", desc := "()I" } : Jvm.MethodName)) ∈ TB := tb_of (t_3 (List.mem_of_getElem? (i := 36) rfl)) rfl
theorem w_3_37 : (Jvm.Cond.instanceMethod ({ cls := "LoopJudge", name := "image", desc := "()I" } : Jvm.MethodName)) ∈ TB := tb_of (t_3 (List.mem_of_getElem? (i := 37) rfl)) rfl
theorem w_3_38 : (Jvm.Cond.selects "LoopJudge" ({ cls := "LoopJudge", name := "image", desc := "()I" } : Jvm.MethodName) ({ cls := "LoopJudge", name := "image", desc := "()I" } : Jvm.MethodName)) ∈ TB := tb_of (t_3 (List.mem_of_getElem? (i := 38) rfl)) rfl
theorem w_3_39 : (Jvm.Cond.code ({ cls := "LoopJudge", name := "image", desc := "()I" } : Jvm.MethodName) prog_1_method_21_code (1 : Nat) (Option.some Jvm.ClassFile.FieldType.int)) ∈ TB := tb_of (t_3 (List.mem_of_getElem? (i := 39) rfl)) rfl
theorem w_3_40 : (Jvm.Cond.methodLink "LoopJudge" (212 : Nat) ({ cls := "LoopJudge$Setting", name := "become", desc := "(LLoopJudge$Setting;)V" } : Jvm.MethodName)) ∈ TB := tb_of (t_3 (List.mem_of_getElem? (i := 40) rfl)) rfl
theorem w_3_41 : (Jvm.Cond.methodLink "LoopJudge" (215 : Nat) ({ cls := "LoopJudge$Past", name := "become", desc := "(LLoopJudge$Past;)V" } : Jvm.MethodName)) ∈ TB := tb_of (t_3 (List.mem_of_getElem? (i := 41) rfl)) rfl
theorem w_3_42 : (Jvm.Cond.instanceMethod ({ cls := "LoopJudge$Past", name := "become", desc := "(LLoopJudge$Past;)V" } : Jvm.MethodName)) ∈ TB := tb_of (t_3 (List.mem_of_getElem? (i := 42) rfl)) rfl
theorem w_3_43 : (Jvm.Cond.selects "LoopJudge$Past" ({ cls := "LoopJudge$Past", name := "become", desc := "(LLoopJudge$Past;)V" } : Jvm.MethodName) ({ cls := "LoopJudge$Past", name := "become", desc := "(LLoopJudge$Past;)V" } : Jvm.MethodName)) ∈ TB := tb_of (t_3 (List.mem_of_getElem? (i := 43) rfl)) rfl
theorem w_3_44 : (Jvm.Cond.code ({ cls := "LoopJudge$Past", name := "become", desc := "(LLoopJudge$Past;)V" } : Jvm.MethodName) prog_4_method_4_code (3 : Nat) (Option.none : Option Jvm.ClassFile.FieldType)) ∈ TB := tb_of (t_3 (List.mem_of_getElem? (i := 44) rfl)) rfl
theorem w_3_45 : (Jvm.Cond.methodLink "LoopJudgeLaw" (98 : Nat) ({ cls := "LoopJudge", name := "restore", desc := "()I" } : Jvm.MethodName)) ∈ TB := tb_of (t_3 (List.mem_of_getElem? (i := 45) rfl)) rfl
theorem w_3_46 : (Jvm.Cond.instanceMethod ({ cls := "LoopJudge", name := "restore", desc := "()I" } : Jvm.MethodName)) ∈ TB := tb_of (t_3 (List.mem_of_getElem? (i := 46) rfl)) rfl
theorem w_3_47 : (Jvm.Cond.selects "LoopJudge" ({ cls := "LoopJudge", name := "restore", desc := "()I" } : Jvm.MethodName) ({ cls := "LoopJudge", name := "restore", desc := "()I" } : Jvm.MethodName)) ∈ TB := tb_of (t_3 (List.mem_of_getElem? (i := 47) rfl)) rfl
theorem w_3_48 : (Jvm.Cond.code ({ cls := "LoopJudge", name := "restore", desc := "()I" } : Jvm.MethodName) prog_1_method_22_code (1 : Nat) (Option.some Jvm.ClassFile.FieldType.int)) ∈ TB := tb_of (t_3 (List.mem_of_getElem? (i := 48) rfl)) rfl
theorem w_3_49 : (Jvm.Cond.methodLink "LoopJudgeLaw" (102 : Nat) ({ cls := "LoopJudge", name := "judged", desc := "(IIII)I" } : Jvm.MethodName)) ∈ TB := tb_of (t_3 (List.mem_of_getElem? (i := 49) rfl)) rfl
theorem w_3_50 : (Jvm.Cond.instanceMethod ({ cls := "LoopJudge", name := "judged", desc := "(IIII)I" } : Jvm.MethodName)) ∈ TB := tb_of (t_3 (List.mem_of_getElem? (i := 50) rfl)) rfl
theorem w_3_51 : (Jvm.Cond.selects "LoopJudge" ({ cls := "LoopJudge", name := "judged", desc := "(IIII)I" } : Jvm.MethodName) ({ cls := "LoopJudge", name := "judged", desc := "(IIII)I" } : Jvm.MethodName)) ∈ TB := tb_of (t_3 (List.mem_of_getElem? (i := 51) rfl)) rfl
theorem w_3_52 : (Jvm.Cond.code ({ cls := "LoopJudge", name := "judged", desc := "(IIII)I" } : Jvm.MethodName) prog_1_method_23_code (8 : Nat) (Option.some Jvm.ClassFile.FieldType.int)) ∈ TB := tb_of (t_3 (List.mem_of_getElem? (i := 52) rfl)) rfl
theorem w_3_53 : (Jvm.Cond.methodLink "LoopJudge" (218 : Nat) ({ cls := "LoopJudge$Shelf", name := "refusal", desc := "(IIII)I" } : Jvm.MethodName)) ∈ TB := tb_of (t_3 (List.mem_of_getElem? (i := 53) rfl)) rfl
theorem w_3_54 : (Jvm.Cond.instanceMethod ({ cls := "LoopJudge$Shelf", name := "refusal", desc := "(IIII)I" } : Jvm.MethodName)) ∈ TB := tb_of (t_3 (List.mem_of_getElem? (i := 54) rfl)) rfl
theorem w_3_55 : (Jvm.Cond.selects "LoopJudge$Shelf" ({ cls := "LoopJudge$Shelf", name := "refusal", desc := "(IIII)I" } : Jvm.MethodName) ({ cls := "LoopJudge$Shelf", name := "refusal", desc := "(IIII)I" } : Jvm.MethodName)) ∈ TB := tb_of (t_3 (List.mem_of_getElem? (i := 55) rfl)) rfl
theorem w_3_56 : (Jvm.Cond.code ({ cls := "LoopJudge$Shelf", name := "refusal", desc := "(IIII)I" } : Jvm.MethodName) prog_6_method_5_code (5 : Nat) (Option.some Jvm.ClassFile.FieldType.int)) ∈ TB := tb_of (t_3 (List.mem_of_getElem? (i := 56) rfl)) rfl
theorem w_3_57 : (Jvm.Cond.methodLink "LoopJudge$Shelf" (29 : Nat) ({ cls := "LoopJudge$Shelf", name := "isMissing", desc := "(I)Z" } : Jvm.MethodName)) ∈ TB := tb_of (t_3 (List.mem_of_getElem? (i := 57) rfl)) rfl
theorem w_3_58 : (Jvm.Cond.instanceMethod ({ cls := "LoopJudge$Shelf", name := "isMissing", desc := "(I)Z" } : Jvm.MethodName)) ∈ TB := tb_of (t_3 (List.mem_of_getElem? (i := 58) rfl)) rfl
theorem w_3_59 : (Jvm.Cond.selects "LoopJudge$Shelf" ({ cls := "LoopJudge$Shelf", name := "isMissing", desc := "(I)Z" } : Jvm.MethodName) ({ cls := "LoopJudge$Shelf", name := "isMissing", desc := "(I)Z" } : Jvm.MethodName)) ∈ TB := tb_of (t_3 (List.mem_of_getElem? (i := 59) rfl)) rfl
theorem w_3_60 : (Jvm.Cond.code ({ cls := "LoopJudge$Shelf", name := "isMissing", desc := "(I)Z" } : Jvm.MethodName) prog_6_method_2_code (2 : Nat) (Option.some Jvm.ClassFile.FieldType.boolean)) ∈ TB := tb_of (t_3 (List.mem_of_getElem? (i := 60) rfl)) rfl
theorem w_3_61 : (Jvm.Cond.methodLink "LoopJudge$Shelf" (33 : Nat) ({ cls := "LoopJudge$Shelf", name := "hasItems", desc := "(III)Z" } : Jvm.MethodName)) ∈ TB := tb_of (t_3 (List.mem_of_getElem? (i := 61) rfl)) rfl
theorem w_3_62 : (Jvm.Cond.instanceMethod ({ cls := "LoopJudge$Shelf", name := "hasItems", desc := "(III)Z" } : Jvm.MethodName)) ∈ TB := tb_of (t_3 (List.mem_of_getElem? (i := 62) rfl)) rfl
theorem w_3_63 : (Jvm.Cond.selects "LoopJudge$Shelf" ({ cls := "LoopJudge$Shelf", name := "hasItems", desc := "(III)Z" } : Jvm.MethodName) ({ cls := "LoopJudge$Shelf", name := "hasItems", desc := "(III)Z" } : Jvm.MethodName)) ∈ TB := tb_of (t_3 (List.mem_of_getElem? (i := 63) rfl)) rfl
theorem w_3_64 : (Jvm.Cond.code ({ cls := "LoopJudge$Shelf", name := "hasItems", desc := "(III)Z" } : Jvm.MethodName) prog_6_method_6_code (4 : Nat) (Option.some Jvm.ClassFile.FieldType.boolean)) ∈ TB := tb_of (t_3 (List.mem_of_getElem? (i := 64) rfl)) rfl
theorem w_3_65 : (Jvm.Cond.methodLink "LoopJudge" (222 : Nat) ({ cls := "LoopJudge$Shelf", name := "holdsParts", desc := "(III)Z" } : Jvm.MethodName)) ∈ TB := tb_of (t_3 (List.mem_of_getElem? (i := 65) rfl)) rfl
theorem w_3_66 : (Jvm.Cond.instanceMethod ({ cls := "LoopJudge$Shelf", name := "holdsParts", desc := "(III)Z" } : Jvm.MethodName)) ∈ TB := tb_of (t_3 (List.mem_of_getElem? (i := 66) rfl)) rfl
theorem w_3_67 : (Jvm.Cond.selects "LoopJudge$Shelf" ({ cls := "LoopJudge$Shelf", name := "holdsParts", desc := "(III)Z" } : Jvm.MethodName) ({ cls := "LoopJudge$Shelf", name := "holdsParts", desc := "(III)Z" } : Jvm.MethodName)) ∈ TB := tb_of (t_3 (List.mem_of_getElem? (i := 67) rfl)) rfl
theorem w_3_68 : (Jvm.Cond.code ({ cls := "LoopJudge$Shelf", name := "holdsParts", desc := "(III)Z" } : Jvm.MethodName) prog_6_method_7_code (5 : Nat) (Option.some Jvm.ClassFile.FieldType.boolean)) ∈ TB := tb_of (t_3 (List.mem_of_getElem? (i := 68) rfl)) rfl
theorem w_3_70 : (Jvm.Cond.methodLink "LoopJudgeLaw" (107 : Nat) ({ cls := "LoopJudge", name := "film", desc := "(IIII)I" } : Jvm.MethodName)) ∈ TB := tb_of (t_3 (List.mem_of_getElem? (i := 70) rfl)) rfl
theorem w_3_71 : (Jvm.Cond.instanceMethod ({ cls := "LoopJudge", name := "film", desc := "(IIII)I" } : Jvm.MethodName)) ∈ TB := tb_of (t_3 (List.mem_of_getElem? (i := 71) rfl)) rfl
theorem w_3_72 : (Jvm.Cond.selects "LoopJudge" ({ cls := "LoopJudge", name := "film", desc := "(IIII)I" } : Jvm.MethodName) ({ cls := "LoopJudge", name := "film", desc := "(IIII)I" } : Jvm.MethodName)) ∈ TB := tb_of (t_3 (List.mem_of_getElem? (i := 72) rfl)) rfl
theorem w_3_73 : (Jvm.Cond.code ({ cls := "LoopJudge", name := "film", desc := "(IIII)I" } : Jvm.MethodName) prog_1_method_24_code (7 : Nat) (Option.some Jvm.ClassFile.FieldType.int)) ∈ TB := tb_of (t_3 (List.mem_of_getElem? (i := 73) rfl)) rfl
theorem w_3_74 : (Jvm.Cond.methodLink "LoopJudgeLaw" (111 : Nat) ({ cls := "LoopJudge", name := "sheet", desc := "(III)I" } : Jvm.MethodName)) ∈ TB := tb_of (t_3 (List.mem_of_getElem? (i := 74) rfl)) rfl
theorem w_3_75 : (Jvm.Cond.instanceMethod ({ cls := "LoopJudge", name := "sheet", desc := "(III)I" } : Jvm.MethodName)) ∈ TB := tb_of (t_3 (List.mem_of_getElem? (i := 75) rfl)) rfl
theorem w_3_76 : (Jvm.Cond.selects "LoopJudge" ({ cls := "LoopJudge", name := "sheet", desc := "(III)I" } : Jvm.MethodName) ({ cls := "LoopJudge", name := "sheet", desc := "(III)I" } : Jvm.MethodName)) ∈ TB := tb_of (t_3 (List.mem_of_getElem? (i := 76) rfl)) rfl
theorem w_3_77 : (Jvm.Cond.code ({ cls := "LoopJudge", name := "sheet", desc := "(III)I" } : Jvm.MethodName) prog_1_method_25_code (4 : Nat) (Option.some Jvm.ClassFile.FieldType.int)) ∈ TB := tb_of (t_3 (List.mem_of_getElem? (i := 77) rfl)) rfl
theorem w_3_78 : (Jvm.Cond.methodLink "LoopJudge" (229 : Nat) ({ cls := "LoopJudge$Shelf", name := "renew", desc := "(III)V" } : Jvm.MethodName)) ∈ TB := tb_of (t_3 (List.mem_of_getElem? (i := 78) rfl)) rfl
theorem w_3_79 : (Jvm.Cond.instanceMethod ({ cls := "LoopJudge$Shelf", name := "renew", desc := "(III)V" } : Jvm.MethodName)) ∈ TB := tb_of (t_3 (List.mem_of_getElem? (i := 79) rfl)) rfl
theorem w_3_80 : (Jvm.Cond.selects "LoopJudge$Shelf" ({ cls := "LoopJudge$Shelf", name := "renew", desc := "(III)V" } : Jvm.MethodName) ({ cls := "LoopJudge$Shelf", name := "renew", desc := "(III)V" } : Jvm.MethodName)) ∈ TB := tb_of (t_3 (List.mem_of_getElem? (i := 80) rfl)) rfl
theorem w_3_81 : (Jvm.Cond.code ({ cls := "LoopJudge$Shelf", name := "renew", desc := "(III)V" } : Jvm.MethodName) prog_6_method_3_code (4 : Nat) (Option.none : Option Jvm.ClassFile.FieldType)) ∈ TB := tb_of (t_3 (List.mem_of_getElem? (i := 81) rfl)) rfl
theorem w_3_82 : (Jvm.Cond.methodLink "LoopJudge$Shelf" (23 : Nat) ({ cls := "java/util/Arrays", name := "fill", desc := "([JJ)V" } : Jvm.MethodName)) ∈ TB := tb_of (t_3 (List.mem_of_getElem? (i := 82) rfl)) rfl
theorem w_3_83 : (Jvm.Cond.static ({ cls := "java/util/Arrays", name := "fill", desc := "([JJ)V" } : Jvm.MethodName)) ∈ TB := tb_of (t_3 (List.mem_of_getElem? (i := 83) rfl)) rfl
theorem w_3_84 : (Jvm.Cond.code ({ cls := "java/util/Arrays", name := "fill", desc := "([JJ)V" } : Jvm.MethodName) prog_14_method_101_code (5 : Nat) (Option.none : Option Jvm.ClassFile.FieldType)) ∈ TB := tb_of (t_3 (List.mem_of_getElem? (i := 84) rfl)) rfl
theorem w_3_85 : (Jvm.Cond.methodLink "LoopJudgeLaw" (115 : Nat) ({ cls := "LoopJudge", name := "drop", desc := "(I)I" } : Jvm.MethodName)) ∈ TB := tb_of (t_3 (List.mem_of_getElem? (i := 85) rfl)) rfl
theorem w_3_86 : (Jvm.Cond.instanceMethod ({ cls := "LoopJudge", name := "drop", desc := "(I)I" } : Jvm.MethodName)) ∈ TB := tb_of (t_3 (List.mem_of_getElem? (i := 86) rfl)) rfl
theorem w_3_87 : (Jvm.Cond.selects "LoopJudge" ({ cls := "LoopJudge", name := "drop", desc := "(I)I" } : Jvm.MethodName) ({ cls := "LoopJudge", name := "drop", desc := "(I)I" } : Jvm.MethodName)) ∈ TB := tb_of (t_3 (List.mem_of_getElem? (i := 87) rfl)) rfl
theorem w_3_88 : (Jvm.Cond.code ({ cls := "LoopJudge", name := "drop", desc := "(I)I" } : Jvm.MethodName) prog_1_method_26_code (3 : Nat) (Option.some Jvm.ClassFile.FieldType.int)) ∈ TB := tb_of (t_3 (List.mem_of_getElem? (i := 88) rfl)) rfl
theorem w_3_89 : (Jvm.Cond.methodLink "LoopJudge" (233 : Nat) ({ cls := "LoopJudge$Shelf", name := "isMissing", desc := "(I)Z" } : Jvm.MethodName)) ∈ TB := tb_of (t_3 (List.mem_of_getElem? (i := 89) rfl)) rfl
theorem w_3_90 : (Jvm.Cond.methodLink "LoopJudge" (239 : Nat) ({ cls := "LoopJudge$Shelf", name := "remove", desc := "(I)V" } : Jvm.MethodName)) ∈ TB := tb_of (t_3 (List.mem_of_getElem? (i := 90) rfl)) rfl
theorem w_3_91 : (Jvm.Cond.instanceMethod ({ cls := "LoopJudge$Shelf", name := "remove", desc := "(I)V" } : Jvm.MethodName)) ∈ TB := tb_of (t_3 (List.mem_of_getElem? (i := 91) rfl)) rfl
theorem w_3_92 : (Jvm.Cond.selects "LoopJudge$Shelf" ({ cls := "LoopJudge$Shelf", name := "remove", desc := "(I)V" } : Jvm.MethodName) ({ cls := "LoopJudge$Shelf", name := "remove", desc := "(I)V" } : Jvm.MethodName)) ∈ TB := tb_of (t_3 (List.mem_of_getElem? (i := 92) rfl)) rfl
theorem w_3_93 : (Jvm.Cond.code ({ cls := "LoopJudge$Shelf", name := "remove", desc := "(I)V" } : Jvm.MethodName) prog_6_method_4_code (2 : Nat) (Option.none : Option Jvm.ClassFile.FieldType)) ∈ TB := tb_of (t_3 (List.mem_of_getElem? (i := 93) rfl)) rfl
theorem w_3_94 : (Jvm.Cond.methodLink "LoopJudgeLaw" (121 : Nat) ({ cls := "LoopJudge", name := "item", desc := "(IIIJ)I" } : Jvm.MethodName)) ∈ TB := tb_of (t_3 (List.mem_of_getElem? (i := 94) rfl)) rfl
theorem w_3_95 : (Jvm.Cond.instanceMethod ({ cls := "LoopJudge", name := "item", desc := "(IIIJ)I" } : Jvm.MethodName)) ∈ TB := tb_of (t_3 (List.mem_of_getElem? (i := 95) rfl)) rfl
theorem w_3_96 : (Jvm.Cond.selects "LoopJudge" ({ cls := "LoopJudge", name := "item", desc := "(IIIJ)I" } : Jvm.MethodName) ({ cls := "LoopJudge", name := "item", desc := "(IIIJ)I" } : Jvm.MethodName)) ∈ TB := tb_of (t_3 (List.mem_of_getElem? (i := 96) rfl)) rfl
theorem w_3_97 : (Jvm.Cond.code ({ cls := "LoopJudge", name := "item", desc := "(IIIJ)I" } : Jvm.MethodName) prog_1_method_27_code (7 : Nat) (Option.some Jvm.ClassFile.FieldType.int)) ∈ TB := tb_of (t_3 (List.mem_of_getElem? (i := 97) rfl)) rfl
theorem w_3_98 : (Jvm.Cond.methodLink "LoopJudge" (242 : Nat) ({ cls := "LoopJudge", name := "cutTo", desc := "(IJ)J" } : Jvm.MethodName)) ∈ TB := tb_of (t_3 (List.mem_of_getElem? (i := 98) rfl)) rfl
theorem w_3_99 : (Jvm.Cond.static ({ cls := "LoopJudge", name := "cutTo", desc := "(IJ)J" } : Jvm.MethodName)) ∈ TB := tb_of (t_3 (List.mem_of_getElem? (i := 99) rfl)) rfl
theorem w_3_100 : (Jvm.Cond.code ({ cls := "LoopJudge", name := "cutTo", desc := "(IJ)J" } : Jvm.MethodName) prog_1_method_38_code (3 : Nat) (Option.some Jvm.ClassFile.FieldType.long)) ∈ TB := tb_of (t_3 (List.mem_of_getElem? (i := 100) rfl)) rfl
theorem w_3_101 : (Jvm.Cond.methodLink "LoopJudgeLaw" (126 : Nat) ({ cls := "LoopJudge", name := "copy", desc := "(IIIII)I" } : Jvm.MethodName)) ∈ TB := tb_of (t_3 (List.mem_of_getElem? (i := 101) rfl)) rfl
theorem w_3_102 : (Jvm.Cond.instanceMethod ({ cls := "LoopJudge", name := "copy", desc := "(IIIII)I" } : Jvm.MethodName)) ∈ TB := tb_of (t_3 (List.mem_of_getElem? (i := 102) rfl)) rfl
theorem w_3_103 : (Jvm.Cond.selects "LoopJudge" ({ cls := "LoopJudge", name := "copy", desc := "(IIIII)I" } : Jvm.MethodName) ({ cls := "LoopJudge", name := "copy", desc := "(IIIII)I" } : Jvm.MethodName)) ∈ TB := tb_of (t_3 (List.mem_of_getElem? (i := 103) rfl)) rfl
theorem w_3_104 : (Jvm.Cond.code ({ cls := "LoopJudge", name := "copy", desc := "(IIIII)I" } : Jvm.MethodName) prog_1_method_28_code (6 : Nat) (Option.some Jvm.ClassFile.FieldType.int)) ∈ TB := tb_of (t_3 (List.mem_of_getElem? (i := 104) rfl)) rfl
theorem w_3_105 : (Jvm.Cond.methodLink "LoopJudge" (249 : Nat) ({ cls := "LoopJudge$Shelf", name := "hasItems", desc := "(III)Z" } : Jvm.MethodName)) ∈ TB := tb_of (t_3 (List.mem_of_getElem? (i := 105) rfl)) rfl
theorem w_3_106 : (Jvm.Cond.classLink "LoopJudgeLaw" (10 : Nat) "LoopJudgeModel") ∈ TB := tb_of (t_3 (List.mem_of_getElem? (i := 106) rfl)) rfl
theorem w_3_107 : (Jvm.Cond.instantiable "LoopJudgeModel" (29 : Nat)) ∈ TB := tb_of (t_3 (List.mem_of_getElem? (i := 107) rfl)) rfl
theorem w_3_108 : (Jvm.Cond.methodLink "LoopJudgeLaw" (12 : Nat) ({ cls := "LoopJudgeModel", name := "<init>", desc := "()V" } : Jvm.MethodName)) ∈ TB := tb_of (t_3 (List.mem_of_getElem? (i := 108) rfl)) rfl
theorem w_3_109 : (Jvm.Cond.instanceMethod ({ cls := "LoopJudgeModel", name := "<init>", desc := "()V" } : Jvm.MethodName)) ∈ TB := tb_of (t_3 (List.mem_of_getElem? (i := 109) rfl)) rfl
theorem w_3_110 : (Jvm.Cond.code ({ cls := "LoopJudgeModel", name := "<init>", desc := "()V" } : Jvm.MethodName) prog_10_method_1_code (2 : Nat) (Option.none : Option Jvm.ClassFile.FieldType)) ∈ TB := tb_of (t_3 (List.mem_of_getElem? (i := 110) rfl)) rfl
theorem w_3_111 : (Jvm.Cond.methodLink "LoopJudgeModel" (1 : Nat) ({ cls := "java/lang/Object", name := "<init>", desc := "()V" } : Jvm.MethodName)) ∈ TB := tb_of (t_3 (List.mem_of_getElem? (i := 111) rfl)) rfl
theorem w_3_112 : (Jvm.Cond.fieldLink "LoopJudgeModel" (7 : Nat) "LoopJudgeModel" "st" "[I") ∈ TB := tb_of (t_3 (List.mem_of_getElem? (i := 112) rfl)) rfl
theorem w_3_113 : (Jvm.Cond.fieldLink "LoopJudgeModel" (13 : Nat) "LoopJudgeModel" "past" "[I") ∈ TB := tb_of (t_3 (List.mem_of_getElem? (i := 113) rfl)) rfl
theorem w_3_114 : (Jvm.Cond.fieldLink "LoopJudgeModel" (66 : Nat) "LoopJudgeModel" "acts" "I") ∈ TB := tb_of (t_3 (List.mem_of_getElem? (i := 114) rfl)) rfl
theorem w_3_115 : (Jvm.Cond.fieldLink "LoopJudgeModel" (16 : Nat) "LoopJudgeModel" "image" "[I") ∈ TB := tb_of (t_3 (List.mem_of_getElem? (i := 115) rfl)) rfl
theorem w_3_116 : (Jvm.Cond.fieldLink "LoopJudgeModel" (19 : Nat) "LoopJudgeModel" "imagePast" "[I") ∈ TB := tb_of (t_3 (List.mem_of_getElem? (i := 116) rfl)) rfl
theorem w_3_117 : (Jvm.Cond.fieldLink "LoopJudgeModel" (22 : Nat) "LoopJudgeModel" "imageActs" "I") ∈ TB := tb_of (t_3 (List.mem_of_getElem? (i := 117) rfl)) rfl
theorem w_3_118 : (Jvm.Cond.fieldLink "LoopJudgeModel" (26 : Nat) "LoopJudgeModel" "tape" "[I") ∈ TB := tb_of (t_3 (List.mem_of_getElem? (i := 118) rfl)) rfl
theorem w_3_119 : (Jvm.Cond.fieldLink "LoopJudgeModel" (223 : Nat) "LoopJudgeModel" "tapeMany" "I") ∈ TB := tb_of (t_3 (List.mem_of_getElem? (i := 119) rfl)) rfl
theorem w_3_120 : (Jvm.Cond.fieldLink "LoopJudgeModel" (29 : Nat) "LoopJudgeModel" "laneOf" "[I") ∈ TB := tb_of (t_3 (List.mem_of_getElem? (i := 120) rfl)) rfl
theorem w_3_121 : (Jvm.Cond.fieldLink "LoopJudgeModel" (32 : Nat) "LoopJudgeModel" "sizeOf" "[I") ∈ TB := tb_of (t_3 (List.mem_of_getElem? (i := 121) rfl)) rfl
theorem w_3_122 : (Jvm.Cond.fieldLink "LoopJudgeModel" (35 : Nat) "LoopJudgeModel" "items" "[J") ∈ TB := tb_of (t_3 (List.mem_of_getElem? (i := 122) rfl)) rfl
theorem w_3_123 : (Jvm.Cond.fieldLink "LoopJudgeModel" (39 : Nat) "LoopJudgeModel" "p" "[J") ∈ TB := tb_of (t_3 (List.mem_of_getElem? (i := 123) rfl)) rfl
theorem w_3_124 : (Jvm.Cond.fieldLink "LoopJudgeModel" (75 : Nat) "LoopJudgeModel" "right" "I") ∈ TB := tb_of (t_3 (List.mem_of_getElem? (i := 124) rfl)) rfl
theorem w_3_125 : (Jvm.Cond.fieldLink "LoopJudgeModel" (78 : Nat) "LoopJudgeModel" "even" "I") ∈ TB := tb_of (t_3 (List.mem_of_getElem? (i := 125) rfl)) rfl
theorem w_3_126 : (Jvm.Cond.fieldLink "LoopJudgeModel" (81 : Nat) "LoopJudgeModel" "left" "I") ∈ TB := tb_of (t_3 (List.mem_of_getElem? (i := 126) rfl)) rfl
theorem w_3_127 : (Jvm.Cond.fieldLink "LoopJudgeModel" (42 : Nat) "LoopJudgeModel" "a" "[J") ∈ TB := tb_of (t_3 (List.mem_of_getElem? (i := 127) rfl)) rfl
theorem w_3_128 : (Jvm.Cond.fieldLink "LoopJudgeModel" (98 : Nat) "LoopJudgeModel" "changes" "I") ∈ TB := tb_of (t_3 (List.mem_of_getElem? (i := 128) rfl)) rfl
theorem w_3_129 : (Jvm.Cond.fieldLink "LoopJudgeModel" (101 : Nat) "LoopJudgeModel" "lastSign" "I") ∈ TB := tb_of (t_3 (List.mem_of_getElem? (i := 129) rfl)) rfl
theorem w_3_130 : (Jvm.Cond.fieldLink "LoopJudgeModel" (45 : Nat) "LoopJudgeModel" "turned" "[J") ∈ TB := tb_of (t_3 (List.mem_of_getElem? (i := 130) rfl)) rfl
theorem w_3_131 : (Jvm.Cond.fieldLink "LoopJudgeModel" (48 : Nat) "LoopJudgeModel" "product" "[J") ∈ TB := tb_of (t_3 (List.mem_of_getElem? (i := 131) rfl)) rfl
theorem w_3_132 : (Jvm.Cond.fieldLink "LoopJudgeModel" (51 : Nat) "LoopJudgeModel" "rows" "[J") ∈ TB := tb_of (t_3 (List.mem_of_getElem? (i := 132) rfl)) rfl
theorem w_3_133 : (Jvm.Cond.fieldLink "LoopJudgeModel" (183 : Nat) "LoopJudgeModel" "rowMany" "I") ∈ TB := tb_of (t_3 (List.mem_of_getElem? (i := 133) rfl)) rfl
theorem w_3_134 : (Jvm.Cond.fieldLink "LoopJudgeModel" (54 : Nat) "LoopJudgeModel" "u" "[J") ∈ TB := tb_of (t_3 (List.mem_of_getElem? (i := 134) rfl)) rfl
theorem w_3_135 : (Jvm.Cond.fieldLink "LoopJudgeModel" (57 : Nat) "LoopJudgeModel" "from" "[I") ∈ TB := tb_of (t_3 (List.mem_of_getElem? (i := 135) rfl)) rfl
theorem w_3_136 : (Jvm.Cond.fieldLink "LoopJudgeModel" (60 : Nat) "LoopJudgeModel" "to" "[I") ∈ TB := tb_of (t_3 (List.mem_of_getElem? (i := 136) rfl)) rfl
theorem w_3_137 : (Jvm.Cond.fieldLink "LoopJudgeModel" (201 : Nat) "LoopJudgeModel" "spanMany" "I") ∈ TB := tb_of (t_3 (List.mem_of_getElem? (i := 137) rfl)) rfl
theorem w_3_138 : (Jvm.Cond.fieldLink "LoopJudgeModel" (226 : Nat) "LoopJudgeModel" "readAt" "I") ∈ TB := tb_of (t_3 (List.mem_of_getElem? (i := 138) rfl)) rfl
theorem w_3_139 : (Jvm.Cond.fieldLink "LoopJudgeModel" (241 : Nat) "LoopJudgeModel" "isFault" "Z") ∈ TB := tb_of (t_3 (List.mem_of_getElem? (i := 139) rfl)) rfl
theorem w_3_140 : (Jvm.Cond.fieldLink "LoopJudgeModel" (63 : Nat) "LoopJudgeModel" "read" "[I") ∈ TB := tb_of (t_3 (List.mem_of_getElem? (i := 140) rfl)) rfl
theorem w_3_141 : (Jvm.Cond.laysFinal "LoopJudgeModel" "LoopJudgeModel" "st" "[I") ∈ TB := tb_of (t_3 (List.mem_of_getElem? (i := 141) rfl)) rfl
theorem w_3_143 : (Jvm.Cond.laysFinal "LoopJudgeModel" "LoopJudgeModel" "past" "[I") ∈ TB := tb_of (t_3 (List.mem_of_getElem? (i := 143) rfl)) rfl
theorem w_3_145 : (Jvm.Cond.lays "LoopJudgeModel" "LoopJudgeModel" "acts" "I") ∈ TB := tb_of (t_3 (List.mem_of_getElem? (i := 145) rfl)) rfl
theorem w_3_147 : (Jvm.Cond.laysFinal "LoopJudgeModel" "LoopJudgeModel" "image" "[I") ∈ TB := tb_of (t_3 (List.mem_of_getElem? (i := 147) rfl)) rfl
theorem w_3_149 : (Jvm.Cond.laysFinal "LoopJudgeModel" "LoopJudgeModel" "imagePast" "[I") ∈ TB := tb_of (t_3 (List.mem_of_getElem? (i := 149) rfl)) rfl
theorem w_3_151 : (Jvm.Cond.lays "LoopJudgeModel" "LoopJudgeModel" "imageActs" "I") ∈ TB := tb_of (t_3 (List.mem_of_getElem? (i := 151) rfl)) rfl
theorem w_3_153 : (Jvm.Cond.laysFinal "LoopJudgeModel" "LoopJudgeModel" "tape" "[I") ∈ TB := tb_of (t_3 (List.mem_of_getElem? (i := 153) rfl)) rfl
theorem w_3_155 : (Jvm.Cond.lays "LoopJudgeModel" "LoopJudgeModel" "tapeMany" "I") ∈ TB := tb_of (t_3 (List.mem_of_getElem? (i := 155) rfl)) rfl
theorem w_3_157 : (Jvm.Cond.laysFinal "LoopJudgeModel" "LoopJudgeModel" "laneOf" "[I") ∈ TB := tb_of (t_3 (List.mem_of_getElem? (i := 157) rfl)) rfl
theorem w_3_159 : (Jvm.Cond.laysFinal "LoopJudgeModel" "LoopJudgeModel" "sizeOf" "[I") ∈ TB := tb_of (t_3 (List.mem_of_getElem? (i := 159) rfl)) rfl
theorem w_3_161 : (Jvm.Cond.laysFinal "LoopJudgeModel" "LoopJudgeModel" "items" "[J") ∈ TB := tb_of (t_3 (List.mem_of_getElem? (i := 161) rfl)) rfl
theorem w_3_163 : (Jvm.Cond.laysFinal "LoopJudgeModel" "LoopJudgeModel" "p" "[J") ∈ TB := tb_of (t_3 (List.mem_of_getElem? (i := 163) rfl)) rfl
theorem w_3_165 : (Jvm.Cond.lays "LoopJudgeModel" "LoopJudgeModel" "right" "I") ∈ TB := tb_of (t_3 (List.mem_of_getElem? (i := 165) rfl)) rfl
theorem w_3_167 : (Jvm.Cond.lays "LoopJudgeModel" "LoopJudgeModel" "even" "I") ∈ TB := tb_of (t_3 (List.mem_of_getElem? (i := 167) rfl)) rfl
theorem w_3_169 : (Jvm.Cond.lays "LoopJudgeModel" "LoopJudgeModel" "left" "I") ∈ TB := tb_of (t_3 (List.mem_of_getElem? (i := 169) rfl)) rfl
theorem w_3_171 : (Jvm.Cond.laysFinal "LoopJudgeModel" "LoopJudgeModel" "a" "[J") ∈ TB := tb_of (t_3 (List.mem_of_getElem? (i := 171) rfl)) rfl
theorem w_3_173 : (Jvm.Cond.lays "LoopJudgeModel" "LoopJudgeModel" "changes" "I") ∈ TB := tb_of (t_3 (List.mem_of_getElem? (i := 173) rfl)) rfl
theorem w_3_175 : (Jvm.Cond.lays "LoopJudgeModel" "LoopJudgeModel" "lastSign" "I") ∈ TB := tb_of (t_3 (List.mem_of_getElem? (i := 175) rfl)) rfl
theorem w_3_177 : (Jvm.Cond.laysFinal "LoopJudgeModel" "LoopJudgeModel" "turned" "[J") ∈ TB := tb_of (t_3 (List.mem_of_getElem? (i := 177) rfl)) rfl
theorem w_3_179 : (Jvm.Cond.laysFinal "LoopJudgeModel" "LoopJudgeModel" "product" "[J") ∈ TB := tb_of (t_3 (List.mem_of_getElem? (i := 179) rfl)) rfl
theorem w_3_181 : (Jvm.Cond.laysFinal "LoopJudgeModel" "LoopJudgeModel" "rows" "[J") ∈ TB := tb_of (t_3 (List.mem_of_getElem? (i := 181) rfl)) rfl
theorem w_3_183 : (Jvm.Cond.lays "LoopJudgeModel" "LoopJudgeModel" "rowMany" "I") ∈ TB := tb_of (t_3 (List.mem_of_getElem? (i := 183) rfl)) rfl
theorem w_3_185 : (Jvm.Cond.laysFinal "LoopJudgeModel" "LoopJudgeModel" "u" "[J") ∈ TB := tb_of (t_3 (List.mem_of_getElem? (i := 185) rfl)) rfl
theorem w_3_187 : (Jvm.Cond.laysFinal "LoopJudgeModel" "LoopJudgeModel" "from" "[I") ∈ TB := tb_of (t_3 (List.mem_of_getElem? (i := 187) rfl)) rfl
theorem w_3_189 : (Jvm.Cond.laysFinal "LoopJudgeModel" "LoopJudgeModel" "to" "[I") ∈ TB := tb_of (t_3 (List.mem_of_getElem? (i := 189) rfl)) rfl
theorem w_3_191 : (Jvm.Cond.lays "LoopJudgeModel" "LoopJudgeModel" "spanMany" "I") ∈ TB := tb_of (t_3 (List.mem_of_getElem? (i := 191) rfl)) rfl
theorem w_3_193 : (Jvm.Cond.lays "LoopJudgeModel" "LoopJudgeModel" "readAt" "I") ∈ TB := tb_of (t_3 (List.mem_of_getElem? (i := 193) rfl)) rfl
theorem w_3_195 : (Jvm.Cond.lays "LoopJudgeModel" "LoopJudgeModel" "isFault" "Z") ∈ TB := tb_of (t_3 (List.mem_of_getElem? (i := 195) rfl)) rfl
theorem w_3_197 : (Jvm.Cond.laysFinal "LoopJudgeModel" "LoopJudgeModel" "read" "[I") ∈ TB := tb_of (t_3 (List.mem_of_getElem? (i := 197) rfl)) rfl
theorem w_3_200 : (Jvm.Cond.methodLink "LoopJudgeLaw" (17 : Nat) ({ cls := "LoopJudgeModel", name := "part", desc := "(III)I" } : Jvm.MethodName)) ∈ TB := tb_of (t_3 (List.mem_of_getElem? (i := 200) rfl)) rfl
theorem w_3_201 : (Jvm.Cond.instanceMethod ({ cls := "LoopJudgeModel", name := "part", desc := "(III)I" } : Jvm.MethodName)) ∈ TB := tb_of (t_3 (List.mem_of_getElem? (i := 201) rfl)) rfl
theorem w_3_202 : (Jvm.Cond.selects "LoopJudgeModel" ({ cls := "LoopJudgeModel", name := "part", desc := "(III)I" } : Jvm.MethodName) ({ cls := "LoopJudgeModel", name := "part", desc := "(III)I" } : Jvm.MethodName)) ∈ TB := tb_of (t_3 (List.mem_of_getElem? (i := 202) rfl)) rfl
theorem w_3_203 : (Jvm.Cond.code ({ cls := "LoopJudgeModel", name := "part", desc := "(III)I" } : Jvm.MethodName) prog_10_method_22_code (5 : Nat) (Option.some Jvm.ClassFile.FieldType.int)) ∈ TB := tb_of (t_3 (List.mem_of_getElem? (i := 203) rfl)) rfl
theorem w_3_204 : (Jvm.Cond.methodLink "LoopJudgeModel" (145 : Nat) ({ cls := "LoopJudgeModel", name := "isPart", desc := "(II)Z" } : Jvm.MethodName)) ∈ TB := tb_of (t_3 (List.mem_of_getElem? (i := 204) rfl)) rfl
theorem w_3_205 : (Jvm.Cond.static ({ cls := "LoopJudgeModel", name := "isPart", desc := "(II)Z" } : Jvm.MethodName)) ∈ TB := tb_of (t_3 (List.mem_of_getElem? (i := 205) rfl)) rfl
theorem w_3_206 : (Jvm.Cond.code ({ cls := "LoopJudgeModel", name := "isPart", desc := "(II)Z" } : Jvm.MethodName) prog_10_method_21_code (2 : Nat) (Option.some Jvm.ClassFile.FieldType.boolean)) ∈ TB := tb_of (t_3 (List.mem_of_getElem? (i := 206) rfl)) rfl
theorem w_3_207 : (Jvm.Cond.methodLink "LoopJudgeModel" (141 : Nat) ({ cls := "LoopJudgeModel", name := "in", desc := "(JJJ)Z" } : Jvm.MethodName)) ∈ TB := tb_of (t_3 (List.mem_of_getElem? (i := 207) rfl)) rfl
theorem w_3_208 : (Jvm.Cond.static ({ cls := "LoopJudgeModel", name := "in", desc := "(JJJ)Z" } : Jvm.MethodName)) ∈ TB := tb_of (t_3 (List.mem_of_getElem? (i := 208) rfl)) rfl
theorem w_3_209 : (Jvm.Cond.code ({ cls := "LoopJudgeModel", name := "in", desc := "(JJJ)Z" } : Jvm.MethodName) prog_10_method_2_code (6 : Nat) (Option.some Jvm.ClassFile.FieldType.boolean)) ∈ TB := tb_of (t_3 (List.mem_of_getElem? (i := 209) rfl)) rfl
theorem w_3_210 : (Jvm.Cond.constantLong "LoopJudgeModel" (96 : Nat) (4 : Int64)) ∈ TB := tb_of (t_3 (List.mem_of_getElem? (i := 210) rfl)) rfl
theorem w_3_211 : (Jvm.Cond.constantLong "LoopJudgeModel" (149 : Nat) (-9 : Int64)) ∈ TB := tb_of (t_3 (List.mem_of_getElem? (i := 211) rfl)) rfl
theorem w_3_212 : (Jvm.Cond.constantLong "LoopJudgeModel" (151 : Nat) (9 : Int64)) ∈ TB := tb_of (t_3 (List.mem_of_getElem? (i := 212) rfl)) rfl
theorem w_3_213 : (Jvm.Cond.methodLink "LoopJudgeModel" (153 : Nat) ({ cls := "LoopJudgeModel", name := "notes", desc := "()V" } : Jvm.MethodName)) ∈ TB := tb_of (t_3 (List.mem_of_getElem? (i := 213) rfl)) rfl
theorem w_3_215 : (Jvm.Cond.instanceMethod ({ cls := "LoopJudgeModel", name := "notes", desc := "()V" } : Jvm.MethodName)) ∈ TB := tb_of (t_3 (List.mem_of_getElem? (i := 215) rfl)) rfl
theorem w_3_216 : (Jvm.Cond.code ({ cls := "LoopJudgeModel", name := "notes", desc := "()V" } : Jvm.MethodName) prog_10_method_4_code (1 : Nat) (Option.none : Option Jvm.ClassFile.FieldType)) ∈ TB := tb_of (t_3 (List.mem_of_getElem? (i := 216) rfl)) rfl
theorem w_3_217 : (Jvm.Cond.methodLink "LoopJudgeModel" (69 : Nat) ({ cls := "LoopJudgeModel", name := "bring", desc := "([II[III)V" } : Jvm.MethodName)) ∈ TB := tb_of (t_3 (List.mem_of_getElem? (i := 217) rfl)) rfl
theorem w_3_218 : (Jvm.Cond.static ({ cls := "LoopJudgeModel", name := "bring", desc := "([II[III)V" } : Jvm.MethodName)) ∈ TB := tb_of (t_3 (List.mem_of_getElem? (i := 218) rfl)) rfl
theorem w_3_219 : (Jvm.Cond.code ({ cls := "LoopJudgeModel", name := "bring", desc := "([II[III)V" } : Jvm.MethodName) prog_10_method_3_code (6 : Nat) (Option.none : Option Jvm.ClassFile.FieldType)) ∈ TB := tb_of (t_3 (List.mem_of_getElem? (i := 219) rfl)) rfl
theorem w_3_220 : (Jvm.Cond.methodLink "LoopJudgeLaw" (22 : Nat) ({ cls := "LoopJudgeModel", name := "gain", desc := "(I)I" } : Jvm.MethodName)) ∈ TB := tb_of (t_3 (List.mem_of_getElem? (i := 220) rfl)) rfl
theorem w_3_221 : (Jvm.Cond.instanceMethod ({ cls := "LoopJudgeModel", name := "gain", desc := "(I)I" } : Jvm.MethodName)) ∈ TB := tb_of (t_3 (List.mem_of_getElem? (i := 221) rfl)) rfl
theorem w_3_222 : (Jvm.Cond.selects "LoopJudgeModel" ({ cls := "LoopJudgeModel", name := "gain", desc := "(I)I" } : Jvm.MethodName) ({ cls := "LoopJudgeModel", name := "gain", desc := "(I)I" } : Jvm.MethodName)) ∈ TB := tb_of (t_3 (List.mem_of_getElem? (i := 222) rfl)) rfl
theorem w_3_223 : (Jvm.Cond.code ({ cls := "LoopJudgeModel", name := "gain", desc := "(I)I" } : Jvm.MethodName) prog_10_method_24_code (3 : Nat) (Option.some Jvm.ClassFile.FieldType.int)) ∈ TB := tb_of (t_3 (List.mem_of_getElem? (i := 223) rfl)) rfl
theorem w_3_224 : (Jvm.Cond.methodLink "LoopJudgeModel" (160 : Nat) ({ cls := "LoopJudgeModel", name := "isGain", desc := "(I)Z" } : Jvm.MethodName)) ∈ TB := tb_of (t_3 (List.mem_of_getElem? (i := 224) rfl)) rfl
theorem w_3_225 : (Jvm.Cond.static ({ cls := "LoopJudgeModel", name := "isGain", desc := "(I)Z" } : Jvm.MethodName)) ∈ TB := tb_of (t_3 (List.mem_of_getElem? (i := 225) rfl)) rfl
theorem w_3_226 : (Jvm.Cond.code ({ cls := "LoopJudgeModel", name := "isGain", desc := "(I)Z" } : Jvm.MethodName) prog_10_method_23_code (1 : Nat) (Option.some Jvm.ClassFile.FieldType.boolean)) ∈ TB := tb_of (t_3 (List.mem_of_getElem? (i := 226) rfl)) rfl
theorem w_3_227 : (Jvm.Cond.constantLong "LoopJudgeModel" (156 : Nat) (-800 : Int64)) ∈ TB := tb_of (t_3 (List.mem_of_getElem? (i := 227) rfl)) rfl
theorem w_3_228 : (Jvm.Cond.constantLong "LoopJudgeModel" (158 : Nat) (800 : Int64)) ∈ TB := tb_of (t_3 (List.mem_of_getElem? (i := 228) rfl)) rfl
theorem w_3_229 : (Jvm.Cond.methodLink "LoopJudgeLaw" (27 : Nat) ({ cls := "LoopJudgeModel", name := "told", desc := "(II)I" } : Jvm.MethodName)) ∈ TB := tb_of (t_3 (List.mem_of_getElem? (i := 229) rfl)) rfl
theorem w_3_230 : (Jvm.Cond.instanceMethod ({ cls := "LoopJudgeModel", name := "told", desc := "(II)I" } : Jvm.MethodName)) ∈ TB := tb_of (t_3 (List.mem_of_getElem? (i := 230) rfl)) rfl
theorem w_3_231 : (Jvm.Cond.selects "LoopJudgeModel" ({ cls := "LoopJudgeModel", name := "told", desc := "(II)I" } : Jvm.MethodName) ({ cls := "LoopJudgeModel", name := "told", desc := "(II)I" } : Jvm.MethodName)) ∈ TB := tb_of (t_3 (List.mem_of_getElem? (i := 231) rfl)) rfl
theorem w_3_232 : (Jvm.Cond.code ({ cls := "LoopJudgeModel", name := "told", desc := "(II)I" } : Jvm.MethodName) prog_10_method_25_code (3 : Nat) (Option.some Jvm.ClassFile.FieldType.int)) ∈ TB := tb_of (t_3 (List.mem_of_getElem? (i := 232) rfl)) rfl
theorem w_3_233 : (Jvm.Cond.methodLink "LoopJudgeLaw" (31 : Nat) ({ cls := "LoopJudgeModel", name := "count", desc := "(I)I" } : Jvm.MethodName)) ∈ TB := tb_of (t_3 (List.mem_of_getElem? (i := 233) rfl)) rfl
theorem w_3_234 : (Jvm.Cond.instanceMethod ({ cls := "LoopJudgeModel", name := "count", desc := "(I)I" } : Jvm.MethodName)) ∈ TB := tb_of (t_3 (List.mem_of_getElem? (i := 234) rfl)) rfl
theorem w_3_235 : (Jvm.Cond.selects "LoopJudgeModel" ({ cls := "LoopJudgeModel", name := "count", desc := "(I)I" } : Jvm.MethodName) ({ cls := "LoopJudgeModel", name := "count", desc := "(I)I" } : Jvm.MethodName)) ∈ TB := tb_of (t_3 (List.mem_of_getElem? (i := 235) rfl)) rfl
theorem w_3_236 : (Jvm.Cond.code ({ cls := "LoopJudgeModel", name := "count", desc := "(I)I" } : Jvm.MethodName) prog_10_method_27_code (2 : Nat) (Option.some Jvm.ClassFile.FieldType.int)) ∈ TB := tb_of (t_3 (List.mem_of_getElem? (i := 236) rfl)) rfl
theorem w_3_237 : (Jvm.Cond.methodLink "LoopJudgeModel" (164 : Nat) ({ cls := "LoopJudgeModel", name := "degreeOf", desc := "(I)I" } : Jvm.MethodName)) ∈ TB := tb_of (t_3 (List.mem_of_getElem? (i := 237) rfl)) rfl
theorem w_3_239 : (Jvm.Cond.instanceMethod ({ cls := "LoopJudgeModel", name := "degreeOf", desc := "(I)I" } : Jvm.MethodName)) ∈ TB := tb_of (t_3 (List.mem_of_getElem? (i := 239) rfl)) rfl
theorem w_4_0 : (Jvm.Cond.code ({ cls := "LoopJudgeModel", name := "degreeOf", desc := "(I)I" } : Jvm.MethodName) prog_10_method_26_code (3 : Nat) (Option.some Jvm.ClassFile.FieldType.int)) ∈ TB := tb_of (t_4 (List.mem_of_getElem? (i := 0) rfl)) rfl
theorem w_4_1 : (Jvm.Cond.methodLink "LoopJudgeModel" (167 : Nat) ({ cls := "LoopJudgeModel", name := "loops", desc := "(I)V" } : Jvm.MethodName)) ∈ TB := tb_of (t_4 (List.mem_of_getElem? (i := 1) rfl)) rfl
theorem w_4_3 : (Jvm.Cond.instanceMethod ({ cls := "LoopJudgeModel", name := "loops", desc := "(I)V" } : Jvm.MethodName)) ∈ TB := tb_of (t_4 (List.mem_of_getElem? (i := 3) rfl)) rfl
theorem w_4_4 : (Jvm.Cond.code ({ cls := "LoopJudgeModel", name := "loops", desc := "(I)V" } : Jvm.MethodName) prog_10_method_6_code (3 : Nat) (Option.none : Option Jvm.ClassFile.FieldType)) ∈ TB := tb_of (t_4 (List.mem_of_getElem? (i := 4) rfl)) rfl
theorem w_4_5 : (Jvm.Cond.constantLong "LoopJudgeModel" (73 : Nat) (8 : Int64)) ∈ TB := tb_of (t_4 (List.mem_of_getElem? (i := 5) rfl)) rfl
theorem w_4_6 : (Jvm.Cond.methodLink "LoopJudgeModel" (118 : Nat) ({ cls := "LoopJudgeModel", name := "degree", desc := "([JI)I" } : Jvm.MethodName)) ∈ TB := tb_of (t_4 (List.mem_of_getElem? (i := 6) rfl)) rfl
theorem w_4_7 : (Jvm.Cond.static ({ cls := "LoopJudgeModel", name := "degree", desc := "([JI)I" } : Jvm.MethodName)) ∈ TB := tb_of (t_4 (List.mem_of_getElem? (i := 7) rfl)) rfl
theorem w_4_8 : (Jvm.Cond.code ({ cls := "LoopJudgeModel", name := "degree", desc := "([JI)I" } : Jvm.MethodName) prog_10_method_5_code (3 : Nat) (Option.some Jvm.ClassFile.FieldType.int)) ∈ TB := tb_of (t_4 (List.mem_of_getElem? (i := 8) rfl)) rfl
theorem w_4_9 : (Jvm.Cond.methodLink "LoopJudgeLaw" (35 : Nat) ({ cls := "LoopJudgeModel", name := "roots", desc := "(II)I" } : Jvm.MethodName)) ∈ TB := tb_of (t_4 (List.mem_of_getElem? (i := 9) rfl)) rfl
theorem w_4_10 : (Jvm.Cond.instanceMethod ({ cls := "LoopJudgeModel", name := "roots", desc := "(II)I" } : Jvm.MethodName)) ∈ TB := tb_of (t_4 (List.mem_of_getElem? (i := 10) rfl)) rfl
theorem w_4_11 : (Jvm.Cond.selects "LoopJudgeModel" ({ cls := "LoopJudgeModel", name := "roots", desc := "(II)I" } : Jvm.MethodName) ({ cls := "LoopJudgeModel", name := "roots", desc := "(II)I" } : Jvm.MethodName)) ∈ TB := tb_of (t_4 (List.mem_of_getElem? (i := 11) rfl)) rfl
theorem w_4_12 : (Jvm.Cond.code ({ cls := "LoopJudgeModel", name := "roots", desc := "(II)I" } : Jvm.MethodName) prog_10_method_28_code (3 : Nat) (Option.some Jvm.ClassFile.FieldType.int)) ∈ TB := tb_of (t_4 (List.mem_of_getElem? (i := 12) rfl)) rfl
theorem w_4_13 : (Jvm.Cond.methodLink "LoopJudgeModel" (170 : Nat) ({ cls := "LoopJudgeModel", name := "at", desc := "(III)I" } : Jvm.MethodName)) ∈ TB := tb_of (t_4 (List.mem_of_getElem? (i := 13) rfl)) rfl
theorem w_4_14 : (Jvm.Cond.instanceMethod ({ cls := "LoopJudgeModel", name := "at", desc := "(III)I" } : Jvm.MethodName)) ∈ TB := tb_of (t_4 (List.mem_of_getElem? (i := 14) rfl)) rfl
theorem w_4_15 : (Jvm.Cond.selects "LoopJudgeModel" ({ cls := "LoopJudgeModel", name := "at", desc := "(III)I" } : Jvm.MethodName) ({ cls := "LoopJudgeModel", name := "at", desc := "(III)I" } : Jvm.MethodName)) ∈ TB := tb_of (t_4 (List.mem_of_getElem? (i := 15) rfl)) rfl
theorem w_4_16 : (Jvm.Cond.code ({ cls := "LoopJudgeModel", name := "at", desc := "(III)I" } : Jvm.MethodName) prog_10_method_29_code (5 : Nat) (Option.some Jvm.ClassFile.FieldType.int)) ∈ TB := tb_of (t_4 (List.mem_of_getElem? (i := 16) rfl)) rfl
theorem w_4_17 : (Jvm.Cond.constantLong "LoopJudgeModel" (174 : Nat) (3 : Int64)) ∈ TB := tb_of (t_4 (List.mem_of_getElem? (i := 17) rfl)) rfl
theorem w_4_18 : (Jvm.Cond.methodLink "LoopJudgeModel" (137 : Nat) ({ cls := "LoopJudgeModel", name := "countsBy", desc := "(I)I" } : Jvm.MethodName)) ∈ TB := tb_of (t_4 (List.mem_of_getElem? (i := 18) rfl)) rfl
theorem w_4_20 : (Jvm.Cond.instanceMethod ({ cls := "LoopJudgeModel", name := "countsBy", desc := "(I)I" } : Jvm.MethodName)) ∈ TB := tb_of (t_4 (List.mem_of_getElem? (i := 20) rfl)) rfl
theorem w_4_21 : (Jvm.Cond.code ({ cls := "LoopJudgeModel", name := "countsBy", desc := "(I)I" } : Jvm.MethodName) prog_10_method_19_code (4 : Nat) (Option.some Jvm.ClassFile.FieldType.int)) ∈ TB := tb_of (t_4 (List.mem_of_getElem? (i := 21) rfl)) rfl
theorem w_4_22 : (Jvm.Cond.methodLink "LoopJudgeModel" (131 : Nat) ({ cls := "LoopJudgeModel", name := "turns", desc := "(I)V" } : Jvm.MethodName)) ∈ TB := tb_of (t_4 (List.mem_of_getElem? (i := 22) rfl)) rfl
theorem w_4_24 : (Jvm.Cond.instanceMethod ({ cls := "LoopJudgeModel", name := "turns", desc := "(I)V" } : Jvm.MethodName)) ∈ TB := tb_of (t_4 (List.mem_of_getElem? (i := 24) rfl)) rfl
theorem w_4_25 : (Jvm.Cond.code ({ cls := "LoopJudgeModel", name := "turns", desc := "(I)V" } : Jvm.MethodName) prog_10_method_18_code (4 : Nat) (Option.none : Option Jvm.ClassFile.FieldType)) ∈ TB := tb_of (t_4 (List.mem_of_getElem? (i := 25) rfl)) rfl
theorem w_4_26 : (Jvm.Cond.methodLink "LoopJudgeModel" (128 : Nat) ({ cls := "LoopJudgeModel", name := "multiplies", desc := "(I)V" } : Jvm.MethodName)) ∈ TB := tb_of (t_4 (List.mem_of_getElem? (i := 26) rfl)) rfl
theorem w_4_28 : (Jvm.Cond.instanceMethod ({ cls := "LoopJudgeModel", name := "multiplies", desc := "(I)V" } : Jvm.MethodName)) ∈ TB := tb_of (t_4 (List.mem_of_getElem? (i := 28) rfl)) rfl
theorem w_4_29 : (Jvm.Cond.code ({ cls := "LoopJudgeModel", name := "multiplies", desc := "(I)V" } : Jvm.MethodName) prog_10_method_17_code (3 : Nat) (Option.none : Option Jvm.ClassFile.FieldType)) ∈ TB := tb_of (t_4 (List.mem_of_getElem? (i := 29) rfl)) rfl
theorem w_4_30 : (Jvm.Cond.methodLink "LoopJudgeModel" (134 : Nat) ({ cls := "LoopJudgeModel", name := "counts", desc := "()V" } : Jvm.MethodName)) ∈ TB := tb_of (t_4 (List.mem_of_getElem? (i := 30) rfl)) rfl
theorem w_4_32 : (Jvm.Cond.instanceMethod ({ cls := "LoopJudgeModel", name := "counts", desc := "()V" } : Jvm.MethodName)) ∈ TB := tb_of (t_4 (List.mem_of_getElem? (i := 32) rfl)) rfl
theorem w_4_33 : (Jvm.Cond.code ({ cls := "LoopJudgeModel", name := "counts", desc := "()V" } : Jvm.MethodName) prog_10_method_16_code (5 : Nat) (Option.none : Option Jvm.ClassFile.FieldType)) ∈ TB := tb_of (t_4 (List.mem_of_getElem? (i := 33) rfl)) rfl
theorem w_4_34 : (Jvm.Cond.methodLink "LoopJudgeModel" (122 : Nat) ({ cls := "LoopJudgeModel", name := "squares", desc := "(JJJ)V" } : Jvm.MethodName)) ∈ TB := tb_of (t_4 (List.mem_of_getElem? (i := 34) rfl)) rfl
theorem w_4_36 : (Jvm.Cond.instanceMethod ({ cls := "LoopJudgeModel", name := "squares", desc := "(JJJ)V" } : Jvm.MethodName)) ∈ TB := tb_of (t_4 (List.mem_of_getElem? (i := 36) rfl)) rfl
theorem w_4_37 : (Jvm.Cond.code ({ cls := "LoopJudgeModel", name := "squares", desc := "(JJJ)V" } : Jvm.MethodName) prog_10_method_10_code (9 : Nat) (Option.none : Option Jvm.ClassFile.FieldType)) ∈ TB := tb_of (t_4 (List.mem_of_getElem? (i := 37) rfl)) rfl
theorem w_4_38 : (Jvm.Cond.methodLink "LoopJudgeModel" (88 : Nat) ({ cls := "LoopJudgeModel", name := "sign", desc := "(J)I" } : Jvm.MethodName)) ∈ TB := tb_of (t_4 (List.mem_of_getElem? (i := 38) rfl)) rfl
theorem w_4_39 : (Jvm.Cond.static ({ cls := "LoopJudgeModel", name := "sign", desc := "(J)I" } : Jvm.MethodName)) ∈ TB := tb_of (t_4 (List.mem_of_getElem? (i := 39) rfl)) rfl
theorem w_4_40 : (Jvm.Cond.code ({ cls := "LoopJudgeModel", name := "sign", desc := "(J)I" } : Jvm.MethodName) prog_10_method_7_code (2 : Nat) (Option.some Jvm.ClassFile.FieldType.int)) ∈ TB := tb_of (t_4 (List.mem_of_getElem? (i := 40) rfl)) rfl
theorem w_4_41 : (Jvm.Cond.methodLink "LoopJudgeModel" (92 : Nat) ({ cls := "LoopJudgeModel", name := "square", desc := "(I)V" } : Jvm.MethodName)) ∈ TB := tb_of (t_4 (List.mem_of_getElem? (i := 41) rfl)) rfl
theorem w_4_43 : (Jvm.Cond.instanceMethod ({ cls := "LoopJudgeModel", name := "square", desc := "(I)V" } : Jvm.MethodName)) ∈ TB := tb_of (t_4 (List.mem_of_getElem? (i := 43) rfl)) rfl
theorem w_4_44 : (Jvm.Cond.code ({ cls := "LoopJudgeModel", name := "square", desc := "(I)V" } : Jvm.MethodName) prog_10_method_9_code (2 : Nat) (Option.none : Option Jvm.ClassFile.FieldType)) ∈ TB := tb_of (t_4 (List.mem_of_getElem? (i := 44) rfl)) rfl
theorem w_4_45 : (Jvm.Cond.methodLink "LoopJudgeModel" (84 : Nat) ({ cls := "LoopJudgeModel", name := "more", desc := "(III)V" } : Jvm.MethodName)) ∈ TB := tb_of (t_4 (List.mem_of_getElem? (i := 45) rfl)) rfl
theorem w_4_47 : (Jvm.Cond.instanceMethod ({ cls := "LoopJudgeModel", name := "more", desc := "(III)V" } : Jvm.MethodName)) ∈ TB := tb_of (t_4 (List.mem_of_getElem? (i := 47) rfl)) rfl
theorem w_4_48 : (Jvm.Cond.code ({ cls := "LoopJudgeModel", name := "more", desc := "(III)V" } : Jvm.MethodName) prog_10_method_8_code (4 : Nat) (Option.none : Option Jvm.ClassFile.FieldType)) ∈ TB := tb_of (t_4 (List.mem_of_getElem? (i := 48) rfl)) rfl
theorem w_4_49 : (Jvm.Cond.methodLink "LoopJudgeModel" (107 : Nat) ({ cls := "LoopJudgeModel", name := "two", desc := "(JJJ)V" } : Jvm.MethodName)) ∈ TB := tb_of (t_4 (List.mem_of_getElem? (i := 49) rfl)) rfl
theorem w_4_51 : (Jvm.Cond.instanceMethod ({ cls := "LoopJudgeModel", name := "two", desc := "(JJJ)V" } : Jvm.MethodName)) ∈ TB := tb_of (t_4 (List.mem_of_getElem? (i := 51) rfl)) rfl
theorem w_4_52 : (Jvm.Cond.code ({ cls := "LoopJudgeModel", name := "two", desc := "(JJJ)V" } : Jvm.MethodName) prog_10_method_11_code (8 : Nat) (Option.none : Option Jvm.ClassFile.FieldType)) ∈ TB := tb_of (t_4 (List.mem_of_getElem? (i := 52) rfl)) rfl
theorem w_4_53 : (Jvm.Cond.methodLink "LoopJudgeModel" (125 : Nat) ({ cls := "LoopJudgeModel", name := "apart", desc := "(I)V" } : Jvm.MethodName)) ∈ TB := tb_of (t_4 (List.mem_of_getElem? (i := 53) rfl)) rfl
theorem w_4_55 : (Jvm.Cond.instanceMethod ({ cls := "LoopJudgeModel", name := "apart", desc := "(I)V" } : Jvm.MethodName)) ∈ TB := tb_of (t_4 (List.mem_of_getElem? (i := 55) rfl)) rfl
theorem w_4_56 : (Jvm.Cond.code ({ cls := "LoopJudgeModel", name := "apart", desc := "(I)V" } : Jvm.MethodName) prog_10_method_15_code (4 : Nat) (Option.none : Option Jvm.ClassFile.FieldType)) ∈ TB := tb_of (t_4 (List.mem_of_getElem? (i := 56) rfl)) rfl
theorem w_4_57 : (Jvm.Cond.methodLink "LoopJudgeModel" (111 : Nat) ({ cls := "LoopJudgeModel", name := "three", desc := "(JJJJ)V" } : Jvm.MethodName)) ∈ TB := tb_of (t_4 (List.mem_of_getElem? (i := 57) rfl)) rfl
theorem w_4_59 : (Jvm.Cond.instanceMethod ({ cls := "LoopJudgeModel", name := "three", desc := "(JJJJ)V" } : Jvm.MethodName)) ∈ TB := tb_of (t_4 (List.mem_of_getElem? (i := 59) rfl)) rfl
theorem w_4_60 : (Jvm.Cond.code ({ cls := "LoopJudgeModel", name := "three", desc := "(JJJJ)V" } : Jvm.MethodName) prog_10_method_13_code (11 : Nat) (Option.none : Option Jvm.ClassFile.FieldType)) ∈ TB := tb_of (t_4 (List.mem_of_getElem? (i := 60) rfl)) rfl
theorem w_4_61 : (Jvm.Cond.methodLink "LoopJudgeModel" (104 : Nat) ({ cls := "LoopJudgeModel", name := "passes", desc := "(I)V" } : Jvm.MethodName)) ∈ TB := tb_of (t_4 (List.mem_of_getElem? (i := 61) rfl)) rfl
theorem w_4_63 : (Jvm.Cond.instanceMethod ({ cls := "LoopJudgeModel", name := "passes", desc := "(I)V" } : Jvm.MethodName)) ∈ TB := tb_of (t_4 (List.mem_of_getElem? (i := 63) rfl)) rfl
theorem w_4_64 : (Jvm.Cond.code ({ cls := "LoopJudgeModel", name := "passes", desc := "(I)V" } : Jvm.MethodName) prog_10_method_12_code (2 : Nat) (Option.none : Option Jvm.ClassFile.FieldType)) ∈ TB := tb_of (t_4 (List.mem_of_getElem? (i := 64) rfl)) rfl
theorem w_4_65 : (Jvm.Cond.methodLink "LoopJudgeModel" (115 : Nat) ({ cls := "LoopJudgeModel", name := "four", desc := "()V" } : Jvm.MethodName)) ∈ TB := tb_of (t_4 (List.mem_of_getElem? (i := 65) rfl)) rfl
theorem w_4_67 : (Jvm.Cond.instanceMethod ({ cls := "LoopJudgeModel", name := "four", desc := "()V" } : Jvm.MethodName)) ∈ TB := tb_of (t_4 (List.mem_of_getElem? (i := 67) rfl)) rfl
theorem w_4_68 : (Jvm.Cond.code ({ cls := "LoopJudgeModel", name := "four", desc := "()V" } : Jvm.MethodName) prog_10_method_14_code (5 : Nat) (Option.none : Option Jvm.ClassFile.FieldType)) ∈ TB := tb_of (t_4 (List.mem_of_getElem? (i := 68) rfl)) rfl
theorem w_4_69 : (Jvm.Cond.methodLink "LoopJudgeLaw" (39 : Nat) ({ cls := "LoopJudgeModel", name := "at", desc := "(III)I" } : Jvm.MethodName)) ∈ TB := tb_of (t_4 (List.mem_of_getElem? (i := 69) rfl)) rfl
theorem w_4_70 : (Jvm.Cond.methodLink "LoopJudgeLaw" (44 : Nat) ({ cls := "LoopJudgeModel", name := "row", desc := "(III)J" } : Jvm.MethodName)) ∈ TB := tb_of (t_4 (List.mem_of_getElem? (i := 70) rfl)) rfl
theorem w_4_71 : (Jvm.Cond.instanceMethod ({ cls := "LoopJudgeModel", name := "row", desc := "(III)J" } : Jvm.MethodName)) ∈ TB := tb_of (t_4 (List.mem_of_getElem? (i := 71) rfl)) rfl
theorem w_4_72 : (Jvm.Cond.selects "LoopJudgeModel" ({ cls := "LoopJudgeModel", name := "row", desc := "(III)J" } : Jvm.MethodName) ({ cls := "LoopJudgeModel", name := "row", desc := "(III)J" } : Jvm.MethodName)) ∈ TB := tb_of (t_4 (List.mem_of_getElem? (i := 72) rfl)) rfl
theorem w_4_73 : (Jvm.Cond.code ({ cls := "LoopJudgeModel", name := "row", desc := "(III)J" } : Jvm.MethodName) prog_10_method_35_code (6 : Nat) (Option.some Jvm.ClassFile.FieldType.long)) ∈ TB := tb_of (t_4 (List.mem_of_getElem? (i := 73) rfl)) rfl
theorem w_4_74 : (Jvm.Cond.constantLong "LoopJudgeModel" (192 : Nat) (-1 : Int64)) ∈ TB := tb_of (t_4 (List.mem_of_getElem? (i := 74) rfl)) rfl
theorem w_4_75 : (Jvm.Cond.methodLink "LoopJudgeModel" (194 : Nat) ({ cls := "LoopJudgeModel", name := "laysRows", desc := "()V" } : Jvm.MethodName)) ∈ TB := tb_of (t_4 (List.mem_of_getElem? (i := 75) rfl)) rfl
theorem w_4_77 : (Jvm.Cond.instanceMethod ({ cls := "LoopJudgeModel", name := "laysRows", desc := "()V" } : Jvm.MethodName)) ∈ TB := tb_of (t_4 (List.mem_of_getElem? (i := 77) rfl)) rfl
theorem w_4_78 : (Jvm.Cond.code ({ cls := "LoopJudgeModel", name := "laysRows", desc := "()V" } : Jvm.MethodName) prog_10_method_34_code (4 : Nat) (Option.none : Option Jvm.ClassFile.FieldType)) ∈ TB := tb_of (t_4 (List.mem_of_getElem? (i := 78) rfl)) rfl
theorem w_4_79 : (Jvm.Cond.methodLink "LoopJudgeModel" (186 : Nat) ({ cls := "LoopJudgeModel", name := "addsRow", desc := "()V" } : Jvm.MethodName)) ∈ TB := tb_of (t_4 (List.mem_of_getElem? (i := 79) rfl)) rfl
theorem w_4_81 : (Jvm.Cond.instanceMethod ({ cls := "LoopJudgeModel", name := "addsRow", desc := "()V" } : Jvm.MethodName)) ∈ TB := tb_of (t_4 (List.mem_of_getElem? (i := 81) rfl)) rfl
theorem w_4_82 : (Jvm.Cond.code ({ cls := "LoopJudgeModel", name := "addsRow", desc := "()V" } : Jvm.MethodName) prog_10_method_33_code (2 : Nat) (Option.none : Option Jvm.ClassFile.FieldType)) ∈ TB := tb_of (t_4 (List.mem_of_getElem? (i := 82) rfl)) rfl
theorem w_4_83 : (Jvm.Cond.methodLink "LoopJudgeModel" (189 : Nat) ({ cls := "LoopJudgeModel", name := "divides", desc := "(I)V" } : Jvm.MethodName)) ∈ TB := tb_of (t_4 (List.mem_of_getElem? (i := 83) rfl)) rfl
theorem w_4_85 : (Jvm.Cond.instanceMethod ({ cls := "LoopJudgeModel", name := "divides", desc := "(I)V" } : Jvm.MethodName)) ∈ TB := tb_of (t_4 (List.mem_of_getElem? (i := 85) rfl)) rfl
theorem w_4_86 : (Jvm.Cond.code ({ cls := "LoopJudgeModel", name := "divides", desc := "(I)V" } : Jvm.MethodName) prog_10_method_32_code (9 : Nat) (Option.none : Option Jvm.ClassFile.FieldType)) ∈ TB := tb_of (t_4 (List.mem_of_getElem? (i := 86) rfl)) rfl
theorem w_4_87 : (Jvm.Cond.methodLink "LoopJudgeModel" (180 : Nat) ({ cls := "LoopJudgeModel", name := "shortens", desc := "()V" } : Jvm.MethodName)) ∈ TB := tb_of (t_4 (List.mem_of_getElem? (i := 87) rfl)) rfl
theorem w_4_89 : (Jvm.Cond.instanceMethod ({ cls := "LoopJudgeModel", name := "shortens", desc := "()V" } : Jvm.MethodName)) ∈ TB := tb_of (t_4 (List.mem_of_getElem? (i := 89) rfl)) rfl
theorem w_4_90 : (Jvm.Cond.code ({ cls := "LoopJudgeModel", name := "shortens", desc := "()V" } : Jvm.MethodName) prog_10_method_31_code (4 : Nat) (Option.none : Option Jvm.ClassFile.FieldType)) ∈ TB := tb_of (t_4 (List.mem_of_getElem? (i := 90) rfl)) rfl
theorem w_4_91 : (Jvm.Cond.methodLink "LoopJudgeModel" (176 : Nat) ({ cls := "LoopJudgeModel", name := "divisor", desc := "(JJ)J" } : Jvm.MethodName)) ∈ TB := tb_of (t_4 (List.mem_of_getElem? (i := 91) rfl)) rfl
theorem w_4_92 : (Jvm.Cond.static ({ cls := "LoopJudgeModel", name := "divisor", desc := "(JJ)J" } : Jvm.MethodName)) ∈ TB := tb_of (t_4 (List.mem_of_getElem? (i := 92) rfl)) rfl
theorem w_4_93 : (Jvm.Cond.code ({ cls := "LoopJudgeModel", name := "divisor", desc := "(JJ)J" } : Jvm.MethodName) prog_10_method_30_code (10 : Nat) (Option.some Jvm.ClassFile.FieldType.long)) ∈ TB := tb_of (t_4 (List.mem_of_getElem? (i := 93) rfl)) rfl
theorem w_4_94 : (Jvm.Cond.constantLong "LoopJudgeModel" (197 : Nat) (-4 : Int64)) ∈ TB := tb_of (t_4 (List.mem_of_getElem? (i := 94) rfl)) rfl
theorem w_4_95 : (Jvm.Cond.constantLong "LoopJudgeModel" (199 : Nat) (2 : Int64)) ∈ TB := tb_of (t_4 (List.mem_of_getElem? (i := 95) rfl)) rfl
theorem w_4_96 : (Jvm.Cond.methodLink "LoopJudgeLaw" (49 : Nat) ({ cls := "LoopJudgeModel", name := "rows", desc := "()I" } : Jvm.MethodName)) ∈ TB := tb_of (t_4 (List.mem_of_getElem? (i := 96) rfl)) rfl
theorem w_4_97 : (Jvm.Cond.instanceMethod ({ cls := "LoopJudgeModel", name := "rows", desc := "()I" } : Jvm.MethodName)) ∈ TB := tb_of (t_4 (List.mem_of_getElem? (i := 97) rfl)) rfl
theorem w_4_98 : (Jvm.Cond.selects "LoopJudgeModel" ({ cls := "LoopJudgeModel", name := "rows", desc := "()I" } : Jvm.MethodName) ({ cls := "LoopJudgeModel", name := "rows", desc := "()I" } : Jvm.MethodName)) ∈ TB := tb_of (t_4 (List.mem_of_getElem? (i := 98) rfl)) rfl
theorem w_4_99 : (Jvm.Cond.code ({ cls := "LoopJudgeModel", name := "rows", desc := "()I" } : Jvm.MethodName) prog_10_method_36_code (1 : Nat) (Option.some Jvm.ClassFile.FieldType.int)) ∈ TB := tb_of (t_4 (List.mem_of_getElem? (i := 99) rfl)) rfl
theorem w_4_100 : (Jvm.Cond.methodLink "LoopJudgeLaw" (53 : Nat) ({ cls := "LoopJudgeModel", name := "span", desc := "(III)I" } : Jvm.MethodName)) ∈ TB := tb_of (t_4 (List.mem_of_getElem? (i := 100) rfl)) rfl
theorem w_4_101 : (Jvm.Cond.instanceMethod ({ cls := "LoopJudgeModel", name := "span", desc := "(III)I" } : Jvm.MethodName)) ∈ TB := tb_of (t_4 (List.mem_of_getElem? (i := 101) rfl)) rfl
theorem w_4_102 : (Jvm.Cond.selects "LoopJudgeModel" ({ cls := "LoopJudgeModel", name := "span", desc := "(III)I" } : Jvm.MethodName) ({ cls := "LoopJudgeModel", name := "span", desc := "(III)I" } : Jvm.MethodName)) ∈ TB := tb_of (t_4 (List.mem_of_getElem? (i := 102) rfl)) rfl
theorem w_4_103 : (Jvm.Cond.code ({ cls := "LoopJudgeModel", name := "span", desc := "(III)I" } : Jvm.MethodName) prog_10_method_39_code (4 : Nat) (Option.some Jvm.ClassFile.FieldType.int)) ∈ TB := tb_of (t_4 (List.mem_of_getElem? (i := 103) rfl)) rfl
theorem w_4_104 : (Jvm.Cond.methodLink "LoopJudgeModel" (207 : Nat) ({ cls := "LoopJudgeModel", name := "isAsk", desc := "(III)Z" } : Jvm.MethodName)) ∈ TB := tb_of (t_4 (List.mem_of_getElem? (i := 104) rfl)) rfl
theorem w_4_105 : (Jvm.Cond.static ({ cls := "LoopJudgeModel", name := "isAsk", desc := "(III)Z" } : Jvm.MethodName)) ∈ TB := tb_of (t_4 (List.mem_of_getElem? (i := 105) rfl)) rfl
theorem w_4_106 : (Jvm.Cond.code ({ cls := "LoopJudgeModel", name := "isAsk", desc := "(III)Z" } : Jvm.MethodName) prog_10_method_38_code (3 : Nat) (Option.some Jvm.ClassFile.FieldType.boolean)) ∈ TB := tb_of (t_4 (List.mem_of_getElem? (i := 106) rfl)) rfl
theorem w_4_107 : (Jvm.Cond.methodLink "LoopJudgeModel" (211 : Nat) ({ cls := "LoopJudgeModel", name := "laysSpans", desc := "(I)I" } : Jvm.MethodName)) ∈ TB := tb_of (t_4 (List.mem_of_getElem? (i := 107) rfl)) rfl
theorem w_4_109 : (Jvm.Cond.instanceMethod ({ cls := "LoopJudgeModel", name := "laysSpans", desc := "(I)I" } : Jvm.MethodName)) ∈ TB := tb_of (t_4 (List.mem_of_getElem? (i := 109) rfl)) rfl
theorem w_4_110 : (Jvm.Cond.code ({ cls := "LoopJudgeModel", name := "laysSpans", desc := "(I)I" } : Jvm.MethodName) prog_10_method_37_code (6 : Nat) (Option.some Jvm.ClassFile.FieldType.int)) ∈ TB := tb_of (t_4 (List.mem_of_getElem? (i := 110) rfl)) rfl
theorem w_4_111 : (Jvm.Cond.methodLink "LoopJudgeModel" (204 : Nat) ({ cls := "LoopJudgeModel", name := "isSteady", desc := "(I)Z" } : Jvm.MethodName)) ∈ TB := tb_of (t_4 (List.mem_of_getElem? (i := 111) rfl)) rfl
theorem w_4_113 : (Jvm.Cond.instanceMethod ({ cls := "LoopJudgeModel", name := "isSteady", desc := "(I)Z" } : Jvm.MethodName)) ∈ TB := tb_of (t_4 (List.mem_of_getElem? (i := 113) rfl)) rfl
theorem w_4_114 : (Jvm.Cond.code ({ cls := "LoopJudgeModel", name := "isSteady", desc := "(I)Z" } : Jvm.MethodName) prog_10_method_20_code (3 : Nat) (Option.some Jvm.ClassFile.FieldType.boolean)) ∈ TB := tb_of (t_4 (List.mem_of_getElem? (i := 114) rfl)) rfl
theorem w_4_115 : (Jvm.Cond.methodLink "LoopJudgeLaw" (57 : Nat) ({ cls := "LoopJudgeModel", name := "widest", desc := "(III)I" } : Jvm.MethodName)) ∈ TB := tb_of (t_4 (List.mem_of_getElem? (i := 115) rfl)) rfl
theorem w_4_116 : (Jvm.Cond.instanceMethod ({ cls := "LoopJudgeModel", name := "widest", desc := "(III)I" } : Jvm.MethodName)) ∈ TB := tb_of (t_4 (List.mem_of_getElem? (i := 116) rfl)) rfl
theorem w_4_117 : (Jvm.Cond.selects "LoopJudgeModel" ({ cls := "LoopJudgeModel", name := "widest", desc := "(III)I" } : Jvm.MethodName) ({ cls := "LoopJudgeModel", name := "widest", desc := "(III)I" } : Jvm.MethodName)) ∈ TB := tb_of (t_4 (List.mem_of_getElem? (i := 117) rfl)) rfl
theorem w_4_118 : (Jvm.Cond.code ({ cls := "LoopJudgeModel", name := "widest", desc := "(III)I" } : Jvm.MethodName) prog_10_method_40_code (8 : Nat) (Option.some Jvm.ClassFile.FieldType.int)) ∈ TB := tb_of (t_4 (List.mem_of_getElem? (i := 118) rfl)) rfl
theorem w_4_119 : (Jvm.Cond.methodLink "LoopJudgeLaw" (61 : Nat) ({ cls := "LoopJudgeModel", name := "spans", desc := "(II)I" } : Jvm.MethodName)) ∈ TB := tb_of (t_4 (List.mem_of_getElem? (i := 119) rfl)) rfl
theorem w_4_120 : (Jvm.Cond.instanceMethod ({ cls := "LoopJudgeModel", name := "spans", desc := "(II)I" } : Jvm.MethodName)) ∈ TB := tb_of (t_4 (List.mem_of_getElem? (i := 120) rfl)) rfl
theorem w_4_121 : (Jvm.Cond.selects "LoopJudgeModel" ({ cls := "LoopJudgeModel", name := "spans", desc := "(II)I" } : Jvm.MethodName) ({ cls := "LoopJudgeModel", name := "spans", desc := "(II)I" } : Jvm.MethodName)) ∈ TB := tb_of (t_4 (List.mem_of_getElem? (i := 121) rfl)) rfl
theorem w_4_122 : (Jvm.Cond.code ({ cls := "LoopJudgeModel", name := "spans", desc := "(II)I" } : Jvm.MethodName) prog_10_method_41_code (4 : Nat) (Option.some Jvm.ClassFile.FieldType.int)) ∈ TB := tb_of (t_4 (List.mem_of_getElem? (i := 122) rfl)) rfl
theorem w_4_123 : (Jvm.Cond.methodLink "LoopJudgeLaw" (65 : Nat) ({ cls := "LoopJudgeModel", name := "corners", desc := "(I)I" } : Jvm.MethodName)) ∈ TB := tb_of (t_4 (List.mem_of_getElem? (i := 123) rfl)) rfl
theorem w_4_124 : (Jvm.Cond.instanceMethod ({ cls := "LoopJudgeModel", name := "corners", desc := "(I)I" } : Jvm.MethodName)) ∈ TB := tb_of (t_4 (List.mem_of_getElem? (i := 124) rfl)) rfl
theorem w_4_125 : (Jvm.Cond.selects "LoopJudgeModel" ({ cls := "LoopJudgeModel", name := "corners", desc := "(I)I" } : Jvm.MethodName) ({ cls := "LoopJudgeModel", name := "corners", desc := "(I)I" } : Jvm.MethodName)) ∈ TB := tb_of (t_4 (List.mem_of_getElem? (i := 125) rfl)) rfl
theorem w_4_126 : (Jvm.Cond.code ({ cls := "LoopJudgeModel", name := "corners", desc := "(I)I" } : Jvm.MethodName) prog_10_method_42_code (6 : Nat) (Option.some Jvm.ClassFile.FieldType.int)) ∈ TB := tb_of (t_4 (List.mem_of_getElem? (i := 126) rfl)) rfl
theorem w_4_127 : (Jvm.Cond.methodLink "LoopJudgeLaw" (69 : Nat) ({ cls := "LoopJudgeModel", name := "neighbours", desc := "(I)I" } : Jvm.MethodName)) ∈ TB := tb_of (t_4 (List.mem_of_getElem? (i := 127) rfl)) rfl
theorem w_4_128 : (Jvm.Cond.instanceMethod ({ cls := "LoopJudgeModel", name := "neighbours", desc := "(I)I" } : Jvm.MethodName)) ∈ TB := tb_of (t_4 (List.mem_of_getElem? (i := 128) rfl)) rfl
theorem w_4_129 : (Jvm.Cond.selects "LoopJudgeModel" ({ cls := "LoopJudgeModel", name := "neighbours", desc := "(I)I" } : Jvm.MethodName) ({ cls := "LoopJudgeModel", name := "neighbours", desc := "(I)I" } : Jvm.MethodName)) ∈ TB := tb_of (t_4 (List.mem_of_getElem? (i := 129) rfl)) rfl
theorem w_4_130 : (Jvm.Cond.code ({ cls := "LoopJudgeModel", name := "neighbours", desc := "(I)I" } : Jvm.MethodName) prog_10_method_43_code (6 : Nat) (Option.some Jvm.ClassFile.FieldType.int)) ∈ TB := tb_of (t_4 (List.mem_of_getElem? (i := 130) rfl)) rfl
theorem w_4_131 : (Jvm.Cond.methodLink "LoopJudgeLaw" (73 : Nat) ({ cls := "LoopJudgeModel", name := "off", desc := "(II)I" } : Jvm.MethodName)) ∈ TB := tb_of (t_4 (List.mem_of_getElem? (i := 131) rfl)) rfl
theorem w_4_132 : (Jvm.Cond.instanceMethod ({ cls := "LoopJudgeModel", name := "off", desc := "(II)I" } : Jvm.MethodName)) ∈ TB := tb_of (t_4 (List.mem_of_getElem? (i := 132) rfl)) rfl
theorem w_4_133 : (Jvm.Cond.selects "LoopJudgeModel" ({ cls := "LoopJudgeModel", name := "off", desc := "(II)I" } : Jvm.MethodName) ({ cls := "LoopJudgeModel", name := "off", desc := "(II)I" } : Jvm.MethodName)) ∈ TB := tb_of (t_4 (List.mem_of_getElem? (i := 133) rfl)) rfl
theorem w_4_134 : (Jvm.Cond.code ({ cls := "LoopJudgeModel", name := "off", desc := "(II)I" } : Jvm.MethodName) prog_10_method_44_code (7 : Nat) (Option.some Jvm.ClassFile.FieldType.int)) ∈ TB := tb_of (t_4 (List.mem_of_getElem? (i := 134) rfl)) rfl
theorem w_4_135 : (Jvm.Cond.constantLong "LoopJudgeModel" (214 : Nat) (10 : Int64)) ∈ TB := tb_of (t_4 (List.mem_of_getElem? (i := 135) rfl)) rfl
theorem w_4_136 : (Jvm.Cond.constantLong "LoopJudgeModel" (216 : Nat) (100000 : Int64)) ∈ TB := tb_of (t_4 (List.mem_of_getElem? (i := 136) rfl)) rfl
theorem w_4_137 : (Jvm.Cond.constant "LoopJudgeModel" (218 : Nat) (100000 : Int32)) ∈ TB := tb_of (t_4 (List.mem_of_getElem? (i := 137) rfl)) rfl
theorem w_4_138 : (Jvm.Cond.methodLink "LoopJudgeLaw" (77 : Nat) ({ cls := "LoopJudgeModel", name := "type", desc := "(I)I" } : Jvm.MethodName)) ∈ TB := tb_of (t_4 (List.mem_of_getElem? (i := 138) rfl)) rfl
theorem w_4_139 : (Jvm.Cond.instanceMethod ({ cls := "LoopJudgeModel", name := "type", desc := "(I)I" } : Jvm.MethodName)) ∈ TB := tb_of (t_4 (List.mem_of_getElem? (i := 139) rfl)) rfl
theorem w_4_140 : (Jvm.Cond.selects "LoopJudgeModel" ({ cls := "LoopJudgeModel", name := "type", desc := "(I)I" } : Jvm.MethodName) ({ cls := "LoopJudgeModel", name := "type", desc := "(I)I" } : Jvm.MethodName)) ∈ TB := tb_of (t_4 (List.mem_of_getElem? (i := 140) rfl)) rfl
theorem w_4_141 : (Jvm.Cond.code ({ cls := "LoopJudgeModel", name := "type", desc := "(I)I" } : Jvm.MethodName) prog_10_method_45_code (2 : Nat) (Option.some Jvm.ClassFile.FieldType.int)) ∈ TB := tb_of (t_4 (List.mem_of_getElem? (i := 141) rfl)) rfl
theorem w_4_142 : (Jvm.Cond.constantLong "LoopJudgeModel" (219 : Nat) (32 : Int64)) ∈ TB := tb_of (t_4 (List.mem_of_getElem? (i := 142) rfl)) rfl
theorem w_4_143 : (Jvm.Cond.constantLong "LoopJudgeModel" (221 : Nat) (126 : Int64)) ∈ TB := tb_of (t_4 (List.mem_of_getElem? (i := 143) rfl)) rfl
theorem w_4_144 : (Jvm.Cond.methodLink "LoopJudgeLaw" (81 : Nat) ({ cls := "LoopJudgeModel", name := "read", desc := "()I" } : Jvm.MethodName)) ∈ TB := tb_of (t_4 (List.mem_of_getElem? (i := 144) rfl)) rfl
theorem w_4_145 : (Jvm.Cond.instanceMethod ({ cls := "LoopJudgeModel", name := "read", desc := "()I" } : Jvm.MethodName)) ∈ TB := tb_of (t_4 (List.mem_of_getElem? (i := 145) rfl)) rfl
theorem w_4_146 : (Jvm.Cond.selects "LoopJudgeModel" ({ cls := "LoopJudgeModel", name := "read", desc := "()I" } : Jvm.MethodName) ({ cls := "LoopJudgeModel", name := "read", desc := "()I" } : Jvm.MethodName)) ∈ TB := tb_of (t_4 (List.mem_of_getElem? (i := 146) rfl)) rfl
theorem w_4_147 : (Jvm.Cond.code ({ cls := "LoopJudgeModel", name := "read", desc := "()I" } : Jvm.MethodName) prog_10_method_50_code (2 : Nat) (Option.some Jvm.ClassFile.FieldType.int)) ∈ TB := tb_of (t_4 (List.mem_of_getElem? (i := 147) rfl)) rfl
theorem w_4_148 : (Jvm.Cond.methodLink "LoopJudgeModel" (252 : Nat) ({ cls := "LoopJudgeModel", name := "terms", desc := "(I)V" } : Jvm.MethodName)) ∈ TB := tb_of (t_4 (List.mem_of_getElem? (i := 148) rfl)) rfl
theorem w_4_150 : (Jvm.Cond.instanceMethod ({ cls := "LoopJudgeModel", name := "terms", desc := "(I)V" } : Jvm.MethodName)) ∈ TB := tb_of (t_4 (List.mem_of_getElem? (i := 150) rfl)) rfl
theorem w_4_151 : (Jvm.Cond.code ({ cls := "LoopJudgeModel", name := "terms", desc := "(I)V" } : Jvm.MethodName) prog_10_method_49_code (4 : Nat) (Option.none : Option Jvm.ClassFile.FieldType)) ∈ TB := tb_of (t_4 (List.mem_of_getElem? (i := 151) rfl)) rfl
theorem w_4_152 : (Jvm.Cond.methodLink "LoopJudgeModel" (229 : Nat) ({ cls := "LoopJudgeModel", name := "looks", desc := "()I" } : Jvm.MethodName)) ∈ TB := tb_of (t_4 (List.mem_of_getElem? (i := 152) rfl)) rfl
theorem w_4_154 : (Jvm.Cond.instanceMethod ({ cls := "LoopJudgeModel", name := "looks", desc := "()I" } : Jvm.MethodName)) ∈ TB := tb_of (t_4 (List.mem_of_getElem? (i := 154) rfl)) rfl
theorem w_4_155 : (Jvm.Cond.code ({ cls := "LoopJudgeModel", name := "looks", desc := "()I" } : Jvm.MethodName) prog_10_method_46_code (1 : Nat) (Option.some Jvm.ClassFile.FieldType.int)) ∈ TB := tb_of (t_4 (List.mem_of_getElem? (i := 155) rfl)) rfl
theorem w_4_156 : (Jvm.Cond.methodLink "LoopJudgeModel" (237 : Nat) ({ cls := "LoopJudgeModel", name := "goesBy", desc := "(Z)Z" } : Jvm.MethodName)) ∈ TB := tb_of (t_4 (List.mem_of_getElem? (i := 156) rfl)) rfl
theorem w_4_158 : (Jvm.Cond.instanceMethod ({ cls := "LoopJudgeModel", name := "goesBy", desc := "(Z)Z" } : Jvm.MethodName)) ∈ TB := tb_of (t_4 (List.mem_of_getElem? (i := 158) rfl)) rfl
theorem w_4_159 : (Jvm.Cond.code ({ cls := "LoopJudgeModel", name := "goesBy", desc := "(Z)Z" } : Jvm.MethodName) prog_10_method_47_code (2 : Nat) (Option.some Jvm.ClassFile.FieldType.boolean)) ∈ TB := tb_of (t_4 (List.mem_of_getElem? (i := 159) rfl)) rfl
theorem w_4_160 : (Jvm.Cond.methodLink "LoopJudgeModel" (249 : Nat) ({ cls := "LoopJudgeModel", name := "term", desc := "(III)I" } : Jvm.MethodName)) ∈ TB := tb_of (t_4 (List.mem_of_getElem? (i := 160) rfl)) rfl
theorem w_4_162 : (Jvm.Cond.instanceMethod ({ cls := "LoopJudgeModel", name := "term", desc := "(III)I" } : Jvm.MethodName)) ∈ TB := tb_of (t_4 (List.mem_of_getElem? (i := 162) rfl)) rfl
theorem w_4_163 : (Jvm.Cond.code ({ cls := "LoopJudgeModel", name := "term", desc := "(III)I" } : Jvm.MethodName) prog_10_method_48_code (10 : Nat) (Option.some Jvm.ClassFile.FieldType.int)) ∈ TB := tb_of (t_4 (List.mem_of_getElem? (i := 163) rfl)) rfl
theorem w_4_164 : (Jvm.Cond.constantLong "LoopJudgeModel" (233 : Nat) (49 : Int64)) ∈ TB := tb_of (t_4 (List.mem_of_getElem? (i := 164) rfl)) rfl
theorem w_4_165 : (Jvm.Cond.constantLong "LoopJudgeModel" (235 : Nat) (57 : Int64)) ∈ TB := tb_of (t_4 (List.mem_of_getElem? (i := 165) rfl)) rfl
theorem w_4_166 : (Jvm.Cond.constantLong "LoopJudgeModel" (245 : Nat) (50 : Int64)) ∈ TB := tb_of (t_4 (List.mem_of_getElem? (i := 166) rfl)) rfl
theorem w_4_167 : (Jvm.Cond.constantLong "LoopJudgeModel" (247 : Nat) (52 : Int64)) ∈ TB := tb_of (t_4 (List.mem_of_getElem? (i := 167) rfl)) rfl
theorem w_4_168 : (Jvm.Cond.methodLink "LoopJudgeLaw" (85 : Nat) ({ cls := "LoopJudgeModel", name := "drift", desc := "(I)I" } : Jvm.MethodName)) ∈ TB := tb_of (t_4 (List.mem_of_getElem? (i := 168) rfl)) rfl
theorem w_4_169 : (Jvm.Cond.instanceMethod ({ cls := "LoopJudgeModel", name := "drift", desc := "(I)I" } : Jvm.MethodName)) ∈ TB := tb_of (t_4 (List.mem_of_getElem? (i := 169) rfl)) rfl
theorem w_4_170 : (Jvm.Cond.selects "LoopJudgeModel" ({ cls := "LoopJudgeModel", name := "drift", desc := "(I)I" } : Jvm.MethodName) ({ cls := "LoopJudgeModel", name := "drift", desc := "(I)I" } : Jvm.MethodName)) ∈ TB := tb_of (t_4 (List.mem_of_getElem? (i := 170) rfl)) rfl
theorem w_4_171 : (Jvm.Cond.code ({ cls := "LoopJudgeModel", name := "drift", desc := "(I)I" } : Jvm.MethodName) prog_10_method_51_code (6 : Nat) (Option.some Jvm.ClassFile.FieldType.int)) ∈ TB := tb_of (t_4 (List.mem_of_getElem? (i := 171) rfl)) rfl
theorem w_4_172 : (Jvm.Cond.constantLong "LoopJudgeModel" (255 : Nat) (40 : Int64)) ∈ TB := tb_of (t_4 (List.mem_of_getElem? (i := 172) rfl)) rfl
theorem w_4_173 : (Jvm.Cond.constantLong "LoopJudgeModel" (257 : Nat) (1103515245 : Int64)) ∈ TB := tb_of (t_4 (List.mem_of_getElem? (i := 173) rfl)) rfl
theorem w_4_174 : (Jvm.Cond.constantLong "LoopJudgeModel" (259 : Nat) (12345 : Int64)) ∈ TB := tb_of (t_4 (List.mem_of_getElem? (i := 174) rfl)) rfl
theorem w_4_175 : (Jvm.Cond.constantLong "LoopJudgeModel" (261 : Nat) (2147483648 : Int64)) ∈ TB := tb_of (t_4 (List.mem_of_getElem? (i := 175) rfl)) rfl
theorem w_4_176 : (Jvm.Cond.constant "LoopJudgeModel" (263 : Nat) (65536 : Int32)) ∈ TB := tb_of (t_4 (List.mem_of_getElem? (i := 176) rfl)) rfl
theorem w_4_177 : (Jvm.Cond.methodLink "LoopJudgeLaw" (89 : Nat) ({ cls := "LoopJudgeModel", name := "undo", desc := "()I" } : Jvm.MethodName)) ∈ TB := tb_of (t_4 (List.mem_of_getElem? (i := 177) rfl)) rfl
theorem w_4_178 : (Jvm.Cond.instanceMethod ({ cls := "LoopJudgeModel", name := "undo", desc := "()I" } : Jvm.MethodName)) ∈ TB := tb_of (t_4 (List.mem_of_getElem? (i := 178) rfl)) rfl
theorem w_4_179 : (Jvm.Cond.selects "LoopJudgeModel" ({ cls := "LoopJudgeModel", name := "undo", desc := "()I" } : Jvm.MethodName) ({ cls := "LoopJudgeModel", name := "undo", desc := "()I" } : Jvm.MethodName)) ∈ TB := tb_of (t_4 (List.mem_of_getElem? (i := 179) rfl)) rfl
theorem w_4_180 : (Jvm.Cond.code ({ cls := "LoopJudgeModel", name := "undo", desc := "()I" } : Jvm.MethodName) prog_10_method_52_code (1 : Nat) (Option.some Jvm.ClassFile.FieldType.int)) ∈ TB := tb_of (t_4 (List.mem_of_getElem? (i := 180) rfl)) rfl
theorem w_4_181 : (Jvm.Cond.methodLink "LoopJudgeLaw" (93 : Nat) ({ cls := "LoopJudgeModel", name := "seed", desc := "(I)I" } : Jvm.MethodName)) ∈ TB := tb_of (t_4 (List.mem_of_getElem? (i := 181) rfl)) rfl
theorem w_4_182 : (Jvm.Cond.instanceMethod ({ cls := "LoopJudgeModel", name := "seed", desc := "(I)I" } : Jvm.MethodName)) ∈ TB := tb_of (t_4 (List.mem_of_getElem? (i := 182) rfl)) rfl
theorem w_4_183 : (Jvm.Cond.selects "LoopJudgeModel" ({ cls := "LoopJudgeModel", name := "seed", desc := "(I)I" } : Jvm.MethodName) ({ cls := "LoopJudgeModel", name := "seed", desc := "(I)I" } : Jvm.MethodName)) ∈ TB := tb_of (t_4 (List.mem_of_getElem? (i := 183) rfl)) rfl
theorem w_4_184 : (Jvm.Cond.code ({ cls := "LoopJudgeModel", name := "seed", desc := "(I)I" } : Jvm.MethodName) prog_10_method_53_code (3 : Nat) (Option.some Jvm.ClassFile.FieldType.int)) ∈ TB := tb_of (t_4 (List.mem_of_getElem? (i := 184) rfl)) rfl
theorem w_4_185 : (Jvm.Cond.methodLink "LoopJudgeLaw" (97 : Nat) ({ cls := "LoopJudgeModel", name := "image", desc := "()I" } : Jvm.MethodName)) ∈ TB := tb_of (t_4 (List.mem_of_getElem? (i := 185) rfl)) rfl
theorem w_4_186 : (Jvm.Cond.instanceMethod ({ cls := "LoopJudgeModel", name := "image", desc := "()I" } : Jvm.MethodName)) ∈ TB := tb_of (t_4 (List.mem_of_getElem? (i := 186) rfl)) rfl
theorem w_4_187 : (Jvm.Cond.selects "LoopJudgeModel" ({ cls := "LoopJudgeModel", name := "image", desc := "()I" } : Jvm.MethodName) ({ cls := "LoopJudgeModel", name := "image", desc := "()I" } : Jvm.MethodName)) ∈ TB := tb_of (t_4 (List.mem_of_getElem? (i := 187) rfl)) rfl
theorem w_4_188 : (Jvm.Cond.code ({ cls := "LoopJudgeModel", name := "image", desc := "()I" } : Jvm.MethodName) prog_10_method_54_code (1 : Nat) (Option.some Jvm.ClassFile.FieldType.int)) ∈ TB := tb_of (t_4 (List.mem_of_getElem? (i := 188) rfl)) rfl
theorem w_4_189 : (Jvm.Cond.methodLink "LoopJudgeLaw" (101 : Nat) ({ cls := "LoopJudgeModel", name := "restore", desc := "()I" } : Jvm.MethodName)) ∈ TB := tb_of (t_4 (List.mem_of_getElem? (i := 189) rfl)) rfl
theorem w_4_190 : (Jvm.Cond.instanceMethod ({ cls := "LoopJudgeModel", name := "restore", desc := "()I" } : Jvm.MethodName)) ∈ TB := tb_of (t_4 (List.mem_of_getElem? (i := 190) rfl)) rfl
theorem w_4_191 : (Jvm.Cond.selects "LoopJudgeModel" ({ cls := "LoopJudgeModel", name := "restore", desc := "()I" } : Jvm.MethodName) ({ cls := "LoopJudgeModel", name := "restore", desc := "()I" } : Jvm.MethodName)) ∈ TB := tb_of (t_4 (List.mem_of_getElem? (i := 191) rfl)) rfl
theorem w_4_192 : (Jvm.Cond.code ({ cls := "LoopJudgeModel", name := "restore", desc := "()I" } : Jvm.MethodName) prog_10_method_55_code (1 : Nat) (Option.some Jvm.ClassFile.FieldType.int)) ∈ TB := tb_of (t_4 (List.mem_of_getElem? (i := 192) rfl)) rfl
theorem w_4_193 : (Jvm.Cond.methodLink "LoopJudgeLaw" (106 : Nat) ({ cls := "LoopJudgeModel", name := "judged", desc := "(IIII)I" } : Jvm.MethodName)) ∈ TB := tb_of (t_4 (List.mem_of_getElem? (i := 193) rfl)) rfl
theorem w_4_194 : (Jvm.Cond.instanceMethod ({ cls := "LoopJudgeModel", name := "judged", desc := "(IIII)I" } : Jvm.MethodName)) ∈ TB := tb_of (t_4 (List.mem_of_getElem? (i := 194) rfl)) rfl
theorem w_4_195 : (Jvm.Cond.selects "LoopJudgeModel" ({ cls := "LoopJudgeModel", name := "judged", desc := "(IIII)I" } : Jvm.MethodName) ({ cls := "LoopJudgeModel", name := "judged", desc := "(IIII)I" } : Jvm.MethodName)) ∈ TB := tb_of (t_4 (List.mem_of_getElem? (i := 195) rfl)) rfl
theorem w_4_196 : (Jvm.Cond.code ({ cls := "LoopJudgeModel", name := "judged", desc := "(IIII)I" } : Jvm.MethodName) prog_10_method_58_code (11 : Nat) (Option.some Jvm.ClassFile.FieldType.int)) ∈ TB := tb_of (t_4 (List.mem_of_getElem? (i := 196) rfl)) rfl
theorem w_4_197 : (Jvm.Cond.methodLink "LoopJudgeModel" (264 : Nat) ({ cls := "LoopJudgeModel", name := "isSheet", desc := "(II)Z" } : Jvm.MethodName)) ∈ TB := tb_of (t_4 (List.mem_of_getElem? (i := 197) rfl)) rfl
theorem w_4_198 : (Jvm.Cond.static ({ cls := "LoopJudgeModel", name := "isSheet", desc := "(II)Z" } : Jvm.MethodName)) ∈ TB := tb_of (t_4 (List.mem_of_getElem? (i := 198) rfl)) rfl
theorem w_4_199 : (Jvm.Cond.code ({ cls := "LoopJudgeModel", name := "isSheet", desc := "(II)Z" } : Jvm.MethodName) prog_10_method_56_code (2 : Nat) (Option.some Jvm.ClassFile.FieldType.boolean)) ∈ TB := tb_of (t_4 (List.mem_of_getElem? (i := 199) rfl)) rfl
theorem w_4_200 : (Jvm.Cond.methodLink "LoopJudgeModel" (267 : Nat) ({ cls := "LoopJudgeModel", name := "found", desc := "(IIII)I" } : Jvm.MethodName)) ∈ TB := tb_of (t_4 (List.mem_of_getElem? (i := 200) rfl)) rfl
theorem w_4_202 : (Jvm.Cond.instanceMethod ({ cls := "LoopJudgeModel", name := "found", desc := "(IIII)I" } : Jvm.MethodName)) ∈ TB := tb_of (t_4 (List.mem_of_getElem? (i := 202) rfl)) rfl
theorem w_4_203 : (Jvm.Cond.code ({ cls := "LoopJudgeModel", name := "found", desc := "(IIII)I" } : Jvm.MethodName) prog_10_method_57_code (5 : Nat) (Option.some Jvm.ClassFile.FieldType.int)) ∈ TB := tb_of (t_4 (List.mem_of_getElem? (i := 203) rfl)) rfl
theorem w_4_204 : (Jvm.Cond.methodLink "LoopJudgeLaw" (110 : Nat) ({ cls := "LoopJudgeModel", name := "film", desc := "(IIII)I" } : Jvm.MethodName)) ∈ TB := tb_of (t_4 (List.mem_of_getElem? (i := 204) rfl)) rfl
theorem w_4_205 : (Jvm.Cond.instanceMethod ({ cls := "LoopJudgeModel", name := "film", desc := "(IIII)I" } : Jvm.MethodName)) ∈ TB := tb_of (t_4 (List.mem_of_getElem? (i := 205) rfl)) rfl
theorem w_4_206 : (Jvm.Cond.selects "LoopJudgeModel" ({ cls := "LoopJudgeModel", name := "film", desc := "(IIII)I" } : Jvm.MethodName) ({ cls := "LoopJudgeModel", name := "film", desc := "(IIII)I" } : Jvm.MethodName)) ∈ TB := tb_of (t_4 (List.mem_of_getElem? (i := 206) rfl)) rfl
theorem w_4_207 : (Jvm.Cond.code ({ cls := "LoopJudgeModel", name := "film", desc := "(IIII)I" } : Jvm.MethodName) prog_10_method_59_code (7 : Nat) (Option.some Jvm.ClassFile.FieldType.int)) ∈ TB := tb_of (t_4 (List.mem_of_getElem? (i := 207) rfl)) rfl
theorem w_4_208 : (Jvm.Cond.methodLink "LoopJudgeLaw" (114 : Nat) ({ cls := "LoopJudgeModel", name := "sheet", desc := "(III)I" } : Jvm.MethodName)) ∈ TB := tb_of (t_4 (List.mem_of_getElem? (i := 208) rfl)) rfl
theorem w_4_209 : (Jvm.Cond.instanceMethod ({ cls := "LoopJudgeModel", name := "sheet", desc := "(III)I" } : Jvm.MethodName)) ∈ TB := tb_of (t_4 (List.mem_of_getElem? (i := 209) rfl)) rfl
theorem w_4_210 : (Jvm.Cond.selects "LoopJudgeModel" ({ cls := "LoopJudgeModel", name := "sheet", desc := "(III)I" } : Jvm.MethodName) ({ cls := "LoopJudgeModel", name := "sheet", desc := "(III)I" } : Jvm.MethodName)) ∈ TB := tb_of (t_4 (List.mem_of_getElem? (i := 210) rfl)) rfl
theorem w_4_211 : (Jvm.Cond.code ({ cls := "LoopJudgeModel", name := "sheet", desc := "(III)I" } : Jvm.MethodName) prog_10_method_61_code (5 : Nat) (Option.some Jvm.ClassFile.FieldType.int)) ∈ TB := tb_of (t_4 (List.mem_of_getElem? (i := 211) rfl)) rfl
theorem w_4_212 : (Jvm.Cond.methodLink "LoopJudgeLaw" (118 : Nat) ({ cls := "LoopJudgeModel", name := "drop", desc := "(I)I" } : Jvm.MethodName)) ∈ TB := tb_of (t_4 (List.mem_of_getElem? (i := 212) rfl)) rfl
theorem w_4_213 : (Jvm.Cond.instanceMethod ({ cls := "LoopJudgeModel", name := "drop", desc := "(I)I" } : Jvm.MethodName)) ∈ TB := tb_of (t_4 (List.mem_of_getElem? (i := 213) rfl)) rfl
theorem w_4_214 : (Jvm.Cond.selects "LoopJudgeModel" ({ cls := "LoopJudgeModel", name := "drop", desc := "(I)I" } : Jvm.MethodName) ({ cls := "LoopJudgeModel", name := "drop", desc := "(I)I" } : Jvm.MethodName)) ∈ TB := tb_of (t_4 (List.mem_of_getElem? (i := 214) rfl)) rfl
theorem w_4_215 : (Jvm.Cond.code ({ cls := "LoopJudgeModel", name := "drop", desc := "(I)I" } : Jvm.MethodName) prog_10_method_62_code (2 : Nat) (Option.some Jvm.ClassFile.FieldType.int)) ∈ TB := tb_of (t_4 (List.mem_of_getElem? (i := 215) rfl)) rfl
theorem w_4_216 : (Jvm.Cond.methodLink "LoopJudgeLaw" (125 : Nat) ({ cls := "LoopJudgeModel", name := "item", desc := "(IIIJ)I" } : Jvm.MethodName)) ∈ TB := tb_of (t_4 (List.mem_of_getElem? (i := 216) rfl)) rfl
theorem w_4_217 : (Jvm.Cond.instanceMethod ({ cls := "LoopJudgeModel", name := "item", desc := "(IIIJ)I" } : Jvm.MethodName)) ∈ TB := tb_of (t_4 (List.mem_of_getElem? (i := 217) rfl)) rfl
theorem w_4_218 : (Jvm.Cond.selects "LoopJudgeModel" ({ cls := "LoopJudgeModel", name := "item", desc := "(IIIJ)I" } : Jvm.MethodName) ({ cls := "LoopJudgeModel", name := "item", desc := "(IIIJ)I" } : Jvm.MethodName)) ∈ TB := tb_of (t_4 (List.mem_of_getElem? (i := 218) rfl)) rfl
theorem w_4_219 : (Jvm.Cond.code ({ cls := "LoopJudgeModel", name := "item", desc := "(IIIJ)I" } : Jvm.MethodName) prog_10_method_63_code (7 : Nat) (Option.some Jvm.ClassFile.FieldType.int)) ∈ TB := tb_of (t_4 (List.mem_of_getElem? (i := 219) rfl)) rfl
theorem w_4_220 : (Jvm.Cond.methodLink "LoopJudgeModel" (271 : Nat) ({ cls := "LoopJudgeModel", name := "lowest", desc := "(JI)J" } : Jvm.MethodName)) ∈ TB := tb_of (t_4 (List.mem_of_getElem? (i := 220) rfl)) rfl
theorem w_4_221 : (Jvm.Cond.static ({ cls := "LoopJudgeModel", name := "lowest", desc := "(JI)J" } : Jvm.MethodName)) ∈ TB := tb_of (t_4 (List.mem_of_getElem? (i := 221) rfl)) rfl
theorem w_4_222 : (Jvm.Cond.code ({ cls := "LoopJudgeModel", name := "lowest", desc := "(JI)J" } : Jvm.MethodName) prog_10_method_60_code (3 : Nat) (Option.some Jvm.ClassFile.FieldType.long)) ∈ TB := tb_of (t_4 (List.mem_of_getElem? (i := 222) rfl)) rfl
theorem w_4_223 : (Jvm.Cond.methodLink "LoopJudgeLaw" (130 : Nat) ({ cls := "LoopJudgeModel", name := "copy", desc := "(IIIII)I" } : Jvm.MethodName)) ∈ TB := tb_of (t_4 (List.mem_of_getElem? (i := 223) rfl)) rfl
theorem w_4_224 : (Jvm.Cond.instanceMethod ({ cls := "LoopJudgeModel", name := "copy", desc := "(IIIII)I" } : Jvm.MethodName)) ∈ TB := tb_of (t_4 (List.mem_of_getElem? (i := 224) rfl)) rfl
theorem w_4_225 : (Jvm.Cond.selects "LoopJudgeModel" ({ cls := "LoopJudgeModel", name := "copy", desc := "(IIIII)I" } : Jvm.MethodName) ({ cls := "LoopJudgeModel", name := "copy", desc := "(IIIII)I" } : Jvm.MethodName)) ∈ TB := tb_of (t_4 (List.mem_of_getElem? (i := 225) rfl)) rfl
theorem w_4_226 : (Jvm.Cond.code ({ cls := "LoopJudgeModel", name := "copy", desc := "(IIIII)I" } : Jvm.MethodName) prog_10_method_64_code (9 : Nat) (Option.some Jvm.ClassFile.FieldType.int)) ∈ TB := tb_of (t_4 (List.mem_of_getElem? (i := 226) rfl)) rfl
theorem w_4_227 : (Jvm.Cond.constantLong "LoopJudgeLaw" (119 : Nat) (4294967295 : Int64)) ∈ TB := tb_of (t_4 (List.mem_of_getElem? (i := 227) rfl)) rfl
theorem ws_X7_countRoots : Cond.selects yX7_countRoots.cls yX7_countRoots yX7_countRoots ∈ TB := tb_of (List.mem_append_left _ (List.mem_of_getElem? (i := 0) rfl)) rfl
theorem ws_X0_addHalf : Cond.selects yX0_addHalf.cls yX0_addHalf yX0_addHalf ∈ TB := tb_of (List.mem_append_left _ (List.mem_of_getElem? (i := 1) rfl)) rfl
theorem ws_X0_addUnlessZero : Cond.selects yX0_addUnlessZero.cls yX0_addUnlessZero yX0_addUnlessZero ∈ TB := tb_of (List.mem_append_left _ (List.mem_of_getElem? (i := 2) rfl)) rfl
theorem ws_X0_addRemainder : Cond.selects yX0_addRemainder.cls yX0_addRemainder yX0_addRemainder ∈ TB := tb_of (List.mem_append_left _ (List.mem_of_getElem? (i := 3) rfl)) rfl
theorem ws_X1_countByChain : Cond.selects yX1_countByChain.cls yX1_countByChain yX1_countByChain ∈ TB := tb_of (List.mem_append_left _ (List.mem_of_getElem? (i := 4) rfl)) rfl
theorem ws_X1_signTurns : Cond.selects yX1_signTurns.cls yX1_signTurns yX1_signTurns ∈ TB := tb_of (List.mem_append_left _ (List.mem_of_getElem? (i := 5) rfl)) rfl
theorem ws_X1_turn : Cond.selects yX1_turn.cls yX1_turn yX1_turn ∈ TB := tb_of (List.mem_append_left _ (List.mem_of_getElem? (i := 6) rfl)) rfl
theorem ws_X7_bookOf : Cond.selects yX7_bookOf.cls yX7_bookOf yX7_bookOf ∈ TB := tb_of (List.mem_append_left _ (List.mem_of_getElem? (i := 7) rfl)) rfl
theorem ws_X5_isOf : Cond.selects yX5_isOf.cls yX5_isOf yX5_isOf ∈ TB := tb_of (List.mem_append_left _ (List.mem_of_getElem? (i := 8) rfl)) rfl
theorem ws_X5_collect : Cond.selects yX5_collect.cls yX5_collect yX5_collect ∈ TB := tb_of (List.mem_append_left _ (List.mem_of_getElem? (i := 9) rfl)) rfl
theorem ws_X5_addGain : Cond.selects yX5_addGain.cls yX5_addGain yX5_addGain ∈ TB := tb_of (List.mem_append_left _ (List.mem_of_getElem? (i := 10) rfl)) rfl
theorem ws_X5_orderByWidth : Cond.selects yX5_orderByWidth.cls yX5_orderByWidth yX5_orderByWidth ∈ TB := tb_of (List.mem_append_left _ (List.mem_of_getElem? (i := 11) rfl)) rfl
theorem ws_X5_widthOf : Cond.selects yX5_widthOf.cls yX5_widthOf yX5_widthOf ∈ TB := tb_of (List.mem_append_left _ (List.mem_of_getElem? (i := 12) rfl)) rfl
theorem ws_X6_readTerms : Cond.selects yX6_readTerms.cls yX6_readTerms yX6_readTerms ∈ TB := tb_of (List.mem_append_left _ (List.mem_of_getElem? (i := 13) rfl)) rfl
theorem ws_X6_nextLetter : Cond.selects yX6_nextLetter.cls yX6_nextLetter yX6_nextLetter ∈ TB := tb_of (List.mem_append_left _ (List.mem_of_getElem? (i := 14) rfl)) rfl
theorem ws_X6_readTerm : Cond.selects yX6_readTerm.cls yX6_readTerm yX6_readTerm ∈ TB := tb_of (List.mem_append_left _ (List.mem_of_getElem? (i := 15) rfl)) rfl
theorem ws_X6_readPower : Cond.selects yX6_readPower.cls yX6_readPower yX6_readPower ∈ TB := tb_of (List.mem_append_left _ (List.mem_of_getElem? (i := 16) rfl)) rfl
theorem ws_X8_notes : Cond.selects yX8_notes.cls yX8_notes yX8_notes ∈ TB := tb_of (List.mem_append_left _ (List.mem_of_getElem? (i := 17) rfl)) rfl
theorem ws_X8_degreeOf : Cond.selects yX8_degreeOf.cls yX8_degreeOf yX8_degreeOf ∈ TB := tb_of (List.mem_append_left _ (List.mem_of_getElem? (i := 18) rfl)) rfl
theorem ws_X8_loops : Cond.selects yX8_loops.cls yX8_loops yX8_loops ∈ TB := tb_of (List.mem_append_left _ (List.mem_of_getElem? (i := 19) rfl)) rfl
theorem ws_X8_countsBy : Cond.selects yX8_countsBy.cls yX8_countsBy yX8_countsBy ∈ TB := tb_of (List.mem_append_left _ (List.mem_of_getElem? (i := 20) rfl)) rfl
theorem ws_X8_turns : Cond.selects yX8_turns.cls yX8_turns yX8_turns ∈ TB := tb_of (List.mem_append_left _ (List.mem_of_getElem? (i := 21) rfl)) rfl
theorem ws_X8_multiplies : Cond.selects yX8_multiplies.cls yX8_multiplies yX8_multiplies ∈ TB := tb_of (List.mem_append_left _ (List.mem_of_getElem? (i := 22) rfl)) rfl
theorem ws_X8_counts : Cond.selects yX8_counts.cls yX8_counts yX8_counts ∈ TB := tb_of (List.mem_append_left _ (List.mem_of_getElem? (i := 23) rfl)) rfl
theorem ws_X8_squares : Cond.selects yX8_squares.cls yX8_squares yX8_squares ∈ TB := tb_of (List.mem_append_left _ (List.mem_of_getElem? (i := 24) rfl)) rfl
theorem ws_X8_square : Cond.selects yX8_square.cls yX8_square yX8_square ∈ TB := tb_of (List.mem_append_left _ (List.mem_of_getElem? (i := 25) rfl)) rfl
theorem ws_X8_more : Cond.selects yX8_more.cls yX8_more yX8_more ∈ TB := tb_of (List.mem_append_left _ (List.mem_of_getElem? (i := 26) rfl)) rfl
theorem ws_X8_two : Cond.selects yX8_two.cls yX8_two yX8_two ∈ TB := tb_of (List.mem_append_left _ (List.mem_of_getElem? (i := 27) rfl)) rfl
theorem ws_X8_apart : Cond.selects yX8_apart.cls yX8_apart yX8_apart ∈ TB := tb_of (List.mem_append_left _ (List.mem_of_getElem? (i := 28) rfl)) rfl
theorem ws_X8_three : Cond.selects yX8_three.cls yX8_three yX8_three ∈ TB := tb_of (List.mem_append_left _ (List.mem_of_getElem? (i := 29) rfl)) rfl
theorem ws_X8_passes : Cond.selects yX8_passes.cls yX8_passes yX8_passes ∈ TB := tb_of (List.mem_append_left _ (List.mem_of_getElem? (i := 30) rfl)) rfl
theorem ws_X8_four : Cond.selects yX8_four.cls yX8_four yX8_four ∈ TB := tb_of (List.mem_append_left _ (List.mem_of_getElem? (i := 31) rfl)) rfl
theorem ws_X8_laysRows : Cond.selects yX8_laysRows.cls yX8_laysRows yX8_laysRows ∈ TB := tb_of (List.mem_append_left _ (List.mem_of_getElem? (i := 32) rfl)) rfl
theorem ws_X8_addsRow : Cond.selects yX8_addsRow.cls yX8_addsRow yX8_addsRow ∈ TB := tb_of (List.mem_append_left _ (List.mem_of_getElem? (i := 33) rfl)) rfl
theorem ws_X8_divides : Cond.selects yX8_divides.cls yX8_divides yX8_divides ∈ TB := tb_of (List.mem_append_left _ (List.mem_of_getElem? (i := 34) rfl)) rfl
theorem ws_X8_shortens : Cond.selects yX8_shortens.cls yX8_shortens yX8_shortens ∈ TB := tb_of (List.mem_append_left _ (List.mem_of_getElem? (i := 35) rfl)) rfl
theorem ws_X8_laysSpans : Cond.selects yX8_laysSpans.cls yX8_laysSpans yX8_laysSpans ∈ TB := tb_of (List.mem_append_left _ (List.mem_of_getElem? (i := 36) rfl)) rfl
theorem ws_X8_isSteady : Cond.selects yX8_isSteady.cls yX8_isSteady yX8_isSteady ∈ TB := tb_of (List.mem_append_left _ (List.mem_of_getElem? (i := 37) rfl)) rfl
theorem ws_X8_terms : Cond.selects yX8_terms.cls yX8_terms yX8_terms ∈ TB := tb_of (List.mem_append_left _ (List.mem_of_getElem? (i := 38) rfl)) rfl
theorem ws_X8_looks : Cond.selects yX8_looks.cls yX8_looks yX8_looks ∈ TB := tb_of (List.mem_append_left _ (List.mem_of_getElem? (i := 39) rfl)) rfl
theorem ws_X8_goesBy : Cond.selects yX8_goesBy.cls yX8_goesBy yX8_goesBy ∈ TB := tb_of (List.mem_append_left _ (List.mem_of_getElem? (i := 40) rfl)) rfl
theorem ws_X8_term : Cond.selects yX8_term.cls yX8_term yX8_term ∈ TB := tb_of (List.mem_append_left _ (List.mem_of_getElem? (i := 41) rfl)) rfl
theorem ws_X8_found : Cond.selects yX8_found.cls yX8_found yX8_found ∈ TB := tb_of (List.mem_append_left _ (List.mem_of_getElem? (i := 42) rfl)) rfl
theorem inT0 : ∀ w ∈ u_ws RX0 TX0 3, w ∈ TB := List.forall_mem_cons.mpr ⟨w_1_142, List.forall_mem_cons.mpr ⟨w_1_144, List.forall_mem_cons.mpr ⟨w_1_146, fun _ h => absurd h List.not_mem_nil⟩⟩⟩
theorem inT1 : ∀ w ∈ u_ws RX1 TX1 5, w ∈ TB := List.forall_mem_cons.mpr ⟨w_1_158, List.forall_mem_cons.mpr ⟨w_1_160, List.forall_mem_cons.mpr ⟨w_1_162, List.forall_mem_cons.mpr ⟨w_1_164, List.forall_mem_cons.mpr ⟨w_1_166, fun _ h => absurd h List.not_mem_nil⟩⟩⟩⟩⟩
theorem inT2 : ∀ w ∈ u_ws RX2 TX2 3, w ∈ TB := List.forall_mem_cons.mpr ⟨w_1_60, List.forall_mem_cons.mpr ⟨w_1_62, List.forall_mem_cons.mpr ⟨w_1_64, fun _ h => absurd h List.not_mem_nil⟩⟩⟩
theorem inT3 : ∀ w ∈ u_ws RX3 TX3 3, w ∈ TB := List.forall_mem_cons.mpr ⟨w_1_35, List.forall_mem_cons.mpr ⟨w_1_37, List.forall_mem_cons.mpr ⟨w_1_39, fun _ h => absurd h List.not_mem_nil⟩⟩⟩
theorem inT4 : ∀ w ∈ u_ws RX4 TX4 3, w ∈ TB := List.forall_mem_cons.mpr ⟨w_1_113, List.forall_mem_cons.mpr ⟨w_1_115, List.forall_mem_cons.mpr ⟨w_1_117, fun _ h => absurd h List.not_mem_nil⟩⟩⟩
theorem inT5 : ∀ w ∈ u_ws RX5 TX5 9, w ∈ TB := List.forall_mem_cons.mpr ⟨w_1_187, List.forall_mem_cons.mpr ⟨w_1_189, List.forall_mem_cons.mpr ⟨w_1_191, List.forall_mem_cons.mpr ⟨w_1_193, List.forall_mem_cons.mpr ⟨w_1_195, List.forall_mem_cons.mpr ⟨w_1_197, List.forall_mem_cons.mpr ⟨w_1_199, List.forall_mem_cons.mpr ⟨w_1_201, List.forall_mem_cons.mpr ⟨w_1_203, fun _ h => absurd h List.not_mem_nil⟩⟩⟩⟩⟩⟩⟩⟩⟩
theorem inT6 : ∀ w ∈ u_ws RX6 TX6 7, w ∈ TB := List.forall_mem_cons.mpr ⟨w_1_83, List.forall_mem_cons.mpr ⟨w_1_85, List.forall_mem_cons.mpr ⟨w_1_87, List.forall_mem_cons.mpr ⟨w_1_89, List.forall_mem_cons.mpr ⟨w_1_91, List.forall_mem_cons.mpr ⟨w_1_93, List.forall_mem_cons.mpr ⟨w_1_95, fun _ h => absurd h List.not_mem_nil⟩⟩⟩⟩⟩⟩⟩
theorem inT7 : ∀ w ∈ u_ws RX7 TX7 11, w ∈ TB := List.forall_mem_cons.mpr ⟨w_1_217, List.forall_mem_cons.mpr ⟨w_1_219, List.forall_mem_cons.mpr ⟨w_1_221, List.forall_mem_cons.mpr ⟨w_1_223, List.forall_mem_cons.mpr ⟨w_1_225, List.forall_mem_cons.mpr ⟨w_1_227, List.forall_mem_cons.mpr ⟨w_1_229, List.forall_mem_cons.mpr ⟨w_1_231, List.forall_mem_cons.mpr ⟨w_1_233, List.forall_mem_cons.mpr ⟨w_1_235, List.forall_mem_cons.mpr ⟨w_1_237, fun _ h => absurd h List.not_mem_nil⟩⟩⟩⟩⟩⟩⟩⟩⟩⟩⟩
theorem inT8 : ∀ w ∈ u_ws RX8 TX8 29, w ∈ TB := List.forall_mem_cons.mpr ⟨w_3_141, List.forall_mem_cons.mpr ⟨w_3_143, List.forall_mem_cons.mpr ⟨w_3_145, List.forall_mem_cons.mpr ⟨w_3_147, List.forall_mem_cons.mpr ⟨w_3_149, List.forall_mem_cons.mpr ⟨w_3_151, List.forall_mem_cons.mpr ⟨w_3_153, List.forall_mem_cons.mpr ⟨w_3_155, List.forall_mem_cons.mpr ⟨w_3_157, List.forall_mem_cons.mpr ⟨w_3_159, List.forall_mem_cons.mpr ⟨w_3_161, List.forall_mem_cons.mpr ⟨w_3_163, List.forall_mem_cons.mpr ⟨w_3_165, List.forall_mem_cons.mpr ⟨w_3_167, List.forall_mem_cons.mpr ⟨w_3_169, List.forall_mem_cons.mpr ⟨w_3_171, List.forall_mem_cons.mpr ⟨w_3_173, List.forall_mem_cons.mpr ⟨w_3_175, List.forall_mem_cons.mpr ⟨w_3_177, List.forall_mem_cons.mpr ⟨w_3_179, List.forall_mem_cons.mpr ⟨w_3_181, List.forall_mem_cons.mpr ⟨w_3_183, List.forall_mem_cons.mpr ⟨w_3_185, List.forall_mem_cons.mpr ⟨w_3_187, List.forall_mem_cons.mpr ⟨w_3_189, List.forall_mem_cons.mpr ⟨w_3_191, List.forall_mem_cons.mpr ⟨w_3_193, List.forall_mem_cons.mpr ⟨w_3_195, List.forall_mem_cons.mpr ⟨w_3_197, fun _ h => absurd h List.not_mem_nil⟩⟩⟩⟩⟩⟩⟩⟩⟩⟩⟩⟩⟩⟩⟩⟩⟩⟩⟩⟩⟩⟩⟩⟩⟩⟩⟩⟩⟩
theorem fl_X7_12 : mFL RX7 12 7 0 (.object "LoopJudge$Setting") true := ⟨RX7, TX7, 11, tyX7, rfl, by decide, inT7, w_1_206, tyX7_ok, nmX7, rfl, rfl⟩
theorem fl_X7_22 : mFL RX7 22 7 1 (.object "LoopJudge$Past") true := ⟨RX7, TX7, 11, tyX7, rfl, by decide, inT7, w_1_207, tyX7_ok, nmX7, rfl, rfl⟩
theorem fl_X7_26 : mFL RX7 26 7 2 (.object "LoopJudge$Setting") true := ⟨RX7, TX7, 11, tyX7, rfl, by decide, inT7, w_1_208, tyX7_ok, nmX7, rfl, rfl⟩
theorem fl_X7_29 : mFL RX7 29 7 3 (.object "LoopJudge$Past") true := ⟨RX7, TX7, 11, tyX7, rfl, by decide, inT7, w_1_209, tyX7_ok, nmX7, rfl, rfl⟩
theorem fl_X7_32 : mFL RX7 32 7 4 .boolean false := ⟨RX7, TX7, 11, tyX7, rfl, by decide, inT7, w_1_210, tyX7_ok, nmX7, rfl, rfl⟩
theorem fl_X7_39 : mFL RX7 39 7 5 (.object "LoopJudge$Tape") true := ⟨RX7, TX7, 11, tyX7, rfl, by decide, inT7, w_1_211, tyX7_ok, nmX7, rfl, rfl⟩
theorem fl_X7_46 : mFL RX7 46 7 6 (.object "LoopJudge$Shelf") true := ⟨RX7, TX7, 11, tyX7, rfl, by decide, inT7, w_1_212, tyX7_ok, nmX7, rfl, rfl⟩
theorem fl_X7_53 : mFL RX7 53 7 7 (.object "LoopJudge$Judge") true := ⟨RX7, TX7, 11, tyX7, rfl, by decide, inT7, w_1_213, tyX7_ok, nmX7, rfl, rfl⟩
theorem fl_X7_62 : mFL RX7 62 7 8 (.object "LoopJudge$SpanBook") true := ⟨RX7, TX7, 11, tyX7, rfl, by decide, inT7, w_1_214, tyX7_ok, nmX7, rfl, rfl⟩
theorem fl_X7_66 : mFL RX7 66 7 9 (.object "LoopJudge$SpanBook") true := ⟨RX7, TX7, 11, tyX7, rfl, by decide, inT7, w_1_215, tyX7_ok, nmX7, rfl, rfl⟩
theorem fl_X7_69 : mFL RX7 69 7 10 (.array .long) true := ⟨RX7, TX7, 11, tyX7, rfl, by decide, inT7, w_1_216, tyX7_ok, nmX7, rfl, rfl⟩
theorem fl_X7_81 : mFL RX7 81 3 0 (.array .int) true := ⟨RX3, TX3, 3, tyX3, rfl, by decide, inT3, w_1_30, tyX3_ok, nmX3, rfl, rfl⟩
theorem fl_X7_93 : mFL RX7 93 3 1 .int false := ⟨RX3, TX3, 3, tyX3, rfl, by decide, inT3, w_1_32, tyX3_ok, nmX3, rfl, rfl⟩
theorem fl_X7_112 : mFL RX7 112 2 2 .int false := ⟨RX2, TX2, 3, tyX2, rfl, by decide, inT2, w_1_59, tyX2_ok, nmX2, rfl, rfl⟩
theorem fl_X7_121 : mFL RX7 121 1 0 (.object "LoopJudge$Chain") true := ⟨RX1, TX1, 5, tyX1, rfl, by decide, inT1, w_1_150, tyX1_ok, nmX1, rfl, rfl⟩
theorem fl_X7_131 : mFL RX7 131 0 2 .int false := ⟨RX0, TX0, 3, tyX0, rfl, by decide, inT0, w_1_141, tyX0_ok, nmX0, rfl, rfl⟩
theorem fl_X7_136 : mFL RX7 136 0 0 (.array (.array .long)) true := ⟨RX0, TX0, 3, tyX0, rfl, by decide, inT0, w_1_136, tyX0_ok, nmX0, rfl, rfl⟩
theorem fl_X7_152 : mFL RX7 152 5 7 .int false := ⟨RX5, TX5, 9, tyX5, rfl, by decide, inT5, w_1_184, tyX5_ok, nmX5, rfl, rfl⟩
theorem fl_X7_157 : mFL RX7 157 5 5 (.array .int) true := ⟨RX5, TX5, 9, tyX5, rfl, by decide, inT5, w_1_181, tyX5_ok, nmX5, rfl, rfl⟩
theorem fl_X7_160 : mFL RX7 160 5 8 .int false := ⟨RX5, TX5, 9, tyX5, rfl, by decide, inT5, w_1_186, tyX5_ok, nmX5, rfl, rfl⟩
theorem fl_X7_188 : mFL RX7 188 6 3 .int false := ⟨RX6, TX6, 7, tyX6, rfl, by decide, inT6, w_1_79, tyX6_ok, nmX6, rfl, rfl⟩
theorem fl_X7_193 : mFL RX7 193 6 1 (.array .int) true := ⟨RX6, TX6, 7, tyX6, rfl, by decide, inT6, w_1_75, tyX6_ok, nmX6, rfl, rfl⟩
theorem fl_X7_194 : mFL RX7 194 6 2 .boolean false := ⟨RX6, TX6, 7, tyX6, rfl, by decide, inT6, w_1_77, tyX6_ok, nmX6, rfl, rfl⟩
theorem fl_X7_209 : mFL RX7 209 3 2 .int false := ⟨RX3, TX3, 3, tyX3, rfl, by decide, inT3, w_1_34, tyX3_ok, nmX3, rfl, rfl⟩
theorem fl_X7_226 : mFL RX7 226 4 2 (.array (.array .long)) true := ⟨RX4, TX4, 3, tyX4, rfl, by decide, inT4, w_1_112, tyX4_ok, nmX4, rfl, rfl⟩
theorem fl_X7_236 : mFL RX7 236 4 1 (.array .int) true := ⟨RX4, TX4, 3, tyX4, rfl, by decide, inT4, w_1_110, tyX4_ok, nmX4, rfl, rfl⟩
theorem fl_X7_246 : mFL RX7 246 4 0 (.array .int) true := ⟨RX4, TX4, 3, tyX4, rfl, by decide, inT4, w_1_108, tyX4_ok, nmX4, rfl, rfl⟩
theorem fl_X7_256 : mFL RX7 256 1 2 .int false := ⟨RX1, TX1, 5, tyX1, rfl, by decide, inT1, w_1_153, tyX1_ok, nmX1, rfl, rfl⟩
theorem fl_X7_259 : mFL RX7 259 1 3 .int false := ⟨RX1, TX1, 5, tyX1, rfl, by decide, inT1, w_1_155, tyX1_ok, nmX1, rfl, rfl⟩
theorem fl_X7_262 : mFL RX7 262 1 4 .int false := ⟨RX1, TX1, 5, tyX1, rfl, by decide, inT1, w_1_157, tyX1_ok, nmX1, rfl, rfl⟩
theorem fl_X0_11 : mFL RX0 11 0 0 (.array (.array .long)) true := ⟨RX0, TX0, 3, tyX0, rfl, by decide, inT0, w_1_134, tyX0_ok, nmX0, rfl, rfl⟩
theorem fl_X0_16 : mFL RX0 16 0 1 (.array .int) true := ⟨RX0, TX0, 3, tyX0, rfl, by decide, inT0, w_1_137, tyX0_ok, nmX0, rfl, rfl⟩
theorem fl_X0_20 : mFL RX0 20 0 2 .int false := ⟨RX0, TX0, 3, tyX0, rfl, by decide, inT0, w_1_139, tyX0_ok, nmX0, rfl, rfl⟩
theorem fl_X1_12 : mFL RX1 12 1 0 (.object "LoopJudge$Chain") true := ⟨RX1, TX1, 5, tyX1, rfl, by decide, inT1, w_1_149, tyX1_ok, nmX1, rfl, rfl⟩
theorem fl_X1_18 : mFL RX1 18 1 1 (.array .long) true := ⟨RX1, TX1, 5, tyX1, rfl, by decide, inT1, w_1_151, tyX1_ok, nmX1, rfl, rfl⟩
theorem fl_X1_22 : mFL RX1 22 1 2 .int false := ⟨RX1, TX1, 5, tyX1, rfl, by decide, inT1, w_1_152, tyX1_ok, nmX1, rfl, rfl⟩
theorem fl_X1_26 : mFL RX1 26 1 3 .int false := ⟨RX1, TX1, 5, tyX1, rfl, by decide, inT1, w_1_154, tyX1_ok, nmX1, rfl, rfl⟩
theorem fl_X1_29 : mFL RX1 29 1 4 .int false := ⟨RX1, TX1, 5, tyX1, rfl, by decide, inT1, w_1_156, tyX1_ok, nmX1, rfl, rfl⟩
theorem fl_X1_60 : mFL RX1 60 0 2 .int false := ⟨RX0, TX0, 3, tyX0, rfl, by decide, inT0, w_1_140, tyX0_ok, nmX0, rfl, rfl⟩
theorem fl_X1_63 : mFL RX1 63 0 1 (.array .int) true := ⟨RX0, TX0, 3, tyX0, rfl, by decide, inT0, w_1_138, tyX0_ok, nmX0, rfl, rfl⟩
theorem fl_X1_71 : mFL RX1 71 0 0 (.array (.array .long)) true := ⟨RX0, TX0, 3, tyX0, rfl, by decide, inT0, w_1_135, tyX0_ok, nmX0, rfl, rfl⟩
theorem fl_X2_11 : mFL RX2 11 2 0 (.array (.object "LoopJudge$Setting")) true := ⟨RX2, TX2, 3, tyX2, rfl, by decide, inT2, w_1_56, tyX2_ok, nmX2, rfl, rfl⟩
theorem fl_X2_16 : mFL RX2 16 2 1 .int false := ⟨RX2, TX2, 3, tyX2, rfl, by decide, inT2, w_1_57, tyX2_ok, nmX2, rfl, rfl⟩
theorem fl_X2_20 : mFL RX2 20 2 2 .int false := ⟨RX2, TX2, 3, tyX2, rfl, by decide, inT2, w_1_58, tyX2_ok, nmX2, rfl, rfl⟩
theorem fl_X3_9 : mFL RX3 9 3 0 (.array .int) true := ⟨RX3, TX3, 3, tyX3, rfl, by decide, inT3, w_1_28, tyX3_ok, nmX3, rfl, rfl⟩
theorem fl_X3_15 : mFL RX3 15 3 1 .int false := ⟨RX3, TX3, 3, tyX3, rfl, by decide, inT3, w_1_31, tyX3_ok, nmX3, rfl, rfl⟩
theorem fl_X3_19 : mFL RX3 19 3 2 .int false := ⟨RX3, TX3, 3, tyX3, rfl, by decide, inT3, w_1_33, tyX3_ok, nmX3, rfl, rfl⟩
theorem fl_X4_9 : mFL RX4 9 4 0 (.array .int) true := ⟨RX4, TX4, 3, tyX4, rfl, by decide, inT4, w_1_107, tyX4_ok, nmX4, rfl, rfl⟩
theorem fl_X4_15 : mFL RX4 15 4 1 (.array .int) true := ⟨RX4, TX4, 3, tyX4, rfl, by decide, inT4, w_1_109, tyX4_ok, nmX4, rfl, rfl⟩
theorem fl_X4_20 : mFL RX4 20 4 2 (.array (.array .long)) true := ⟨RX4, TX4, 3, tyX4, rfl, by decide, inT4, w_1_111, tyX4_ok, nmX4, rfl, rfl⟩
theorem fl_X5_9 : mFL RX5 9 5 0 .int true := ⟨RX5, TX5, 9, tyX5, rfl, by decide, inT5, w_1_175, tyX5_ok, nmX5, rfl, rfl⟩
theorem fl_X5_15 : mFL RX5 15 5 1 (.array .int) true := ⟨RX5, TX5, 9, tyX5, rfl, by decide, inT5, w_1_176, tyX5_ok, nmX5, rfl, rfl⟩
theorem fl_X5_19 : mFL RX5 19 5 2 (.array .long) true := ⟨RX5, TX5, 9, tyX5, rfl, by decide, inT5, w_1_177, tyX5_ok, nmX5, rfl, rfl⟩
theorem fl_X5_23 : mFL RX5 23 5 3 (.array .int) true := ⟨RX5, TX5, 9, tyX5, rfl, by decide, inT5, w_1_178, tyX5_ok, nmX5, rfl, rfl⟩
theorem fl_X5_26 : mFL RX5 26 5 4 (.array .int) true := ⟨RX5, TX5, 9, tyX5, rfl, by decide, inT5, w_1_179, tyX5_ok, nmX5, rfl, rfl⟩
theorem fl_X5_29 : mFL RX5 29 5 5 (.array .int) true := ⟨RX5, TX5, 9, tyX5, rfl, by decide, inT5, w_1_180, tyX5_ok, nmX5, rfl, rfl⟩
theorem fl_X5_32 : mFL RX5 32 5 6 .boolean false := ⟨RX5, TX5, 9, tyX5, rfl, by decide, inT5, w_1_182, tyX5_ok, nmX5, rfl, rfl⟩
theorem fl_X5_36 : mFL RX5 36 5 7 .int false := ⟨RX5, TX5, 9, tyX5, rfl, by decide, inT5, w_1_183, tyX5_ok, nmX5, rfl, rfl⟩
theorem fl_X5_39 : mFL RX5 39 5 8 .int false := ⟨RX5, TX5, 9, tyX5, rfl, by decide, inT5, w_1_185, tyX5_ok, nmX5, rfl, rfl⟩
theorem fl_X5_46 : mFL RX5 46 3 0 (.array .int) true := ⟨RX3, TX3, 3, tyX3, rfl, by decide, inT3, w_1_29, tyX3_ok, nmX3, rfl, rfl⟩
theorem fl_X6_11 : mFL RX6 11 6 0 (.array .byte) true := ⟨RX6, TX6, 7, tyX6, rfl, by decide, inT6, w_1_73, tyX6_ok, nmX6, rfl, rfl⟩
theorem fl_X6_15 : mFL RX6 15 6 1 (.array .int) true := ⟨RX6, TX6, 7, tyX6, rfl, by decide, inT6, w_1_74, tyX6_ok, nmX6, rfl, rfl⟩
theorem fl_X6_19 : mFL RX6 19 6 2 .boolean false := ⟨RX6, TX6, 7, tyX6, rfl, by decide, inT6, w_1_76, tyX6_ok, nmX6, rfl, rfl⟩
theorem fl_X6_23 : mFL RX6 23 6 3 .int false := ⟨RX6, TX6, 7, tyX6, rfl, by decide, inT6, w_1_78, tyX6_ok, nmX6, rfl, rfl⟩
theorem fl_X6_27 : mFL RX6 27 6 4 .int false := ⟨RX6, TX6, 7, tyX6, rfl, by decide, inT6, w_1_80, tyX6_ok, nmX6, rfl, rfl⟩
theorem fl_X6_30 : mFL RX6 30 6 5 .int false := ⟨RX6, TX6, 7, tyX6, rfl, by decide, inT6, w_1_81, tyX6_ok, nmX6, rfl, rfl⟩
theorem fl_X6_33 : mFL RX6 33 6 6 .int false := ⟨RX6, TX6, 7, tyX6, rfl, by decide, inT6, w_1_82, tyX6_ok, nmX6, rfl, rfl⟩
theorem fl_X8_7 : mFL RX8 7 8 0 (.array .int) true := ⟨RX8, TX8, 29, tyX8, rfl, by decide, inT8, w_3_112, tyX8_ok, nmX8, rfl, rfl⟩
theorem fl_X8_13 : mFL RX8 13 8 1 (.array .int) true := ⟨RX8, TX8, 29, tyX8, rfl, by decide, inT8, w_3_113, tyX8_ok, nmX8, rfl, rfl⟩
theorem fl_X8_16 : mFL RX8 16 8 3 (.array .int) true := ⟨RX8, TX8, 29, tyX8, rfl, by decide, inT8, w_3_115, tyX8_ok, nmX8, rfl, rfl⟩
theorem fl_X8_19 : mFL RX8 19 8 4 (.array .int) true := ⟨RX8, TX8, 29, tyX8, rfl, by decide, inT8, w_3_116, tyX8_ok, nmX8, rfl, rfl⟩
theorem fl_X8_22 : mFL RX8 22 8 5 .int false := ⟨RX8, TX8, 29, tyX8, rfl, by decide, inT8, w_3_117, tyX8_ok, nmX8, rfl, rfl⟩
theorem fl_X8_26 : mFL RX8 26 8 6 (.array .int) true := ⟨RX8, TX8, 29, tyX8, rfl, by decide, inT8, w_3_118, tyX8_ok, nmX8, rfl, rfl⟩
theorem fl_X8_29 : mFL RX8 29 8 8 (.array .int) true := ⟨RX8, TX8, 29, tyX8, rfl, by decide, inT8, w_3_120, tyX8_ok, nmX8, rfl, rfl⟩
theorem fl_X8_32 : mFL RX8 32 8 9 (.array .int) true := ⟨RX8, TX8, 29, tyX8, rfl, by decide, inT8, w_3_121, tyX8_ok, nmX8, rfl, rfl⟩
theorem fl_X8_35 : mFL RX8 35 8 10 (.array .long) true := ⟨RX8, TX8, 29, tyX8, rfl, by decide, inT8, w_3_122, tyX8_ok, nmX8, rfl, rfl⟩
theorem fl_X8_39 : mFL RX8 39 8 11 (.array .long) true := ⟨RX8, TX8, 29, tyX8, rfl, by decide, inT8, w_3_123, tyX8_ok, nmX8, rfl, rfl⟩
theorem fl_X8_42 : mFL RX8 42 8 15 (.array .long) true := ⟨RX8, TX8, 29, tyX8, rfl, by decide, inT8, w_3_127, tyX8_ok, nmX8, rfl, rfl⟩
theorem fl_X8_45 : mFL RX8 45 8 18 (.array .long) true := ⟨RX8, TX8, 29, tyX8, rfl, by decide, inT8, w_3_130, tyX8_ok, nmX8, rfl, rfl⟩
theorem fl_X8_48 : mFL RX8 48 8 19 (.array .long) true := ⟨RX8, TX8, 29, tyX8, rfl, by decide, inT8, w_3_131, tyX8_ok, nmX8, rfl, rfl⟩
theorem fl_X8_51 : mFL RX8 51 8 20 (.array .long) true := ⟨RX8, TX8, 29, tyX8, rfl, by decide, inT8, w_3_132, tyX8_ok, nmX8, rfl, rfl⟩
theorem fl_X8_54 : mFL RX8 54 8 22 (.array .long) true := ⟨RX8, TX8, 29, tyX8, rfl, by decide, inT8, w_3_134, tyX8_ok, nmX8, rfl, rfl⟩
theorem fl_X8_57 : mFL RX8 57 8 23 (.array .int) true := ⟨RX8, TX8, 29, tyX8, rfl, by decide, inT8, w_3_135, tyX8_ok, nmX8, rfl, rfl⟩
theorem fl_X8_60 : mFL RX8 60 8 24 (.array .int) true := ⟨RX8, TX8, 29, tyX8, rfl, by decide, inT8, w_3_136, tyX8_ok, nmX8, rfl, rfl⟩
theorem fl_X8_63 : mFL RX8 63 8 28 (.array .int) true := ⟨RX8, TX8, 29, tyX8, rfl, by decide, inT8, w_3_140, tyX8_ok, nmX8, rfl, rfl⟩
theorem fl_X8_66 : mFL RX8 66 8 2 .int false := ⟨RX8, TX8, 29, tyX8, rfl, by decide, inT8, w_3_114, tyX8_ok, nmX8, rfl, rfl⟩
theorem fl_X8_75 : mFL RX8 75 8 12 .int false := ⟨RX8, TX8, 29, tyX8, rfl, by decide, inT8, w_3_124, tyX8_ok, nmX8, rfl, rfl⟩
theorem fl_X8_78 : mFL RX8 78 8 13 .int false := ⟨RX8, TX8, 29, tyX8, rfl, by decide, inT8, w_3_125, tyX8_ok, nmX8, rfl, rfl⟩
theorem fl_X8_81 : mFL RX8 81 8 14 .int false := ⟨RX8, TX8, 29, tyX8, rfl, by decide, inT8, w_3_126, tyX8_ok, nmX8, rfl, rfl⟩
theorem fl_X8_98 : mFL RX8 98 8 16 .int false := ⟨RX8, TX8, 29, tyX8, rfl, by decide, inT8, w_3_128, tyX8_ok, nmX8, rfl, rfl⟩
theorem fl_X8_101 : mFL RX8 101 8 17 .int false := ⟨RX8, TX8, 29, tyX8, rfl, by decide, inT8, w_3_129, tyX8_ok, nmX8, rfl, rfl⟩
theorem fl_X8_183 : mFL RX8 183 8 21 .int false := ⟨RX8, TX8, 29, tyX8, rfl, by decide, inT8, w_3_133, tyX8_ok, nmX8, rfl, rfl⟩
theorem fl_X8_201 : mFL RX8 201 8 25 .int false := ⟨RX8, TX8, 29, tyX8, rfl, by decide, inT8, w_3_137, tyX8_ok, nmX8, rfl, rfl⟩
theorem fl_X8_223 : mFL RX8 223 8 7 .int false := ⟨RX8, TX8, 29, tyX8, rfl, by decide, inT8, w_3_119, tyX8_ok, nmX8, rfl, rfl⟩
theorem fl_X8_226 : mFL RX8 226 8 26 .int false := ⟨RX8, TX8, 29, tyX8, rfl, by decide, inT8, w_3_138, tyX8_ok, nmX8, rfl, rfl⟩
theorem fl_X8_241 : mFL RX8 241 8 27 .boolean false := ⟨RX8, TX8, 29, tyX8, rfl, by decide, inT8, w_3_139, tyX8_ok, nmX8, rfl, rfl⟩
abbrev D_X0_init : MD := (RX0, yX0_init, cX0_init, 1, none, 1, 7, 35)
theorem md_X0_init : mMd D_X0_init := ⟨w_1_131, w_1_7, by decide +kernel, by decide +kernel⟩
theorem ar_X0_init : mAr D_X0_init 0 := by unfold mAr; decide +kernel
abbrev D_X0_fill : MD := (RX0, yX0_fill, cX0_fill, 4, none, 3, 0, 0)
theorem md_X0_fill : mMd D_X0_fill := ⟨w_2_67, w_1_7, by decide +kernel, by decide +kernel⟩
theorem ar_X0_fill : mAr D_X0_fill 1 := by unfold mAr; decide +kernel
abbrev D_X0_addHalf : MD := (RX0, yX0_addHalf, cX0_addHalf, 5, none, 2, 0, 0)
theorem md_X0_addHalf : mMd D_X0_addHalf := ⟨w_2_72, w_1_7, by decide +kernel, by decide +kernel⟩
theorem ar_X0_addHalf : mAr D_X0_addHalf 2 := by unfold mAr; decide +kernel
abbrev D_X0_addRemainder : MD := (RX0, yX0_addRemainder, cX0_addRemainder, 5, none, 2, 0, 0)
theorem md_X0_addRemainder : mMd D_X0_addRemainder := ⟨w_2_80, w_1_7, by decide +kernel, by decide +kernel⟩
theorem ar_X0_addRemainder : mAr D_X0_addRemainder 1 := by unfold mAr; decide +kernel
abbrev D_X0_addUnlessZero : MD := (RX0, yX0_addUnlessZero, cX0_addUnlessZero, 1, none, 1, 0, 0)
theorem md_X0_addUnlessZero : mMd D_X0_addUnlessZero := ⟨w_2_76, w_1_7, by decide +kernel, by decide +kernel⟩
theorem ar_X0_addUnlessZero : mAr D_X0_addUnlessZero 0 := by unfold mAr; decide +kernel
abbrev D_X0_strike : MD := (RX0, yX0_strike, cX0_strike, 9, none, 1, 0, 0)
theorem md_X0_strike : mMd D_X0_strike := ⟨w_2_84, w_1_7, by decide +kernel, by decide +kernel⟩
theorem ar_X0_strike : mAr D_X0_strike 4 := by unfold mAr; decide +kernel
abbrev D_X0_takeLowestTerms : MD := (RX0, yX0_takeLowestTerms, cX0_takeLowestTerms, 4, none, 1, 0, 0)
theorem md_X0_takeLowestTerms : mMd D_X0_takeLowestTerms := ⟨w_2_90, w_1_7, by decide +kernel, by decide +kernel⟩
theorem ar_X0_takeLowestTerms : mAr D_X0_takeLowestTerms 1 := by unfold mAr; decide +kernel
abbrev D_X1_init : MD := (RX1, yX1_init, cX1_init, 1, none, 2, 9, 43)
theorem md_X1_init : mMd D_X1_init := ⟨w_1_125, w_1_6, by decide +kernel, by decide +kernel⟩
theorem ar_X1_init : mAr D_X1_init 0 := by unfold mAr; decide +kernel
abbrev D_X1_countRootsOf : MD := (RX1, yX1_countRootsOf, cX1_countRootsOf, 3, none, 4, 0, 0)
theorem md_X1_countRootsOf : mMd D_X1_countRootsOf := ⟨w_2_63, w_1_6, by decide +kernel, by decide +kernel⟩
theorem ar_X1_countRootsOf : mAr D_X1_countRootsOf 2 := by unfold mAr; decide +kernel
abbrev D_X1_isSteady : MD := (RX1, yX1_isSteady, cX1_isSteady, 3, (some FieldType.boolean), 2, 0, 0)
theorem md_X1_isSteady : mMd D_X1_isSteady := ⟨w_2_162, w_1_6, by decide +kernel, by decide +kernel⟩
theorem ar_X1_isSteady : mAr D_X1_isSteady 2 := by unfold mAr; decide +kernel
abbrev D_X1_turn : MD := (RX1, yX1_turn, cX1_turn, 13, none, 1, 0, 0)
theorem md_X1_turn : mMd D_X1_turn := ⟨w_2_113, w_1_6, by decide +kernel, by decide +kernel⟩
theorem ar_X1_turn : mAr D_X1_turn 1 := by unfold mAr; decide +kernel
abbrev D_X1_partBelow : MD := (RX1, yX1_partBelow, cX1_partBelow, 3, (some FieldType.long), 0, 0, 0)
theorem md_X1_partBelow : mMd D_X1_partBelow := ⟨w_2_117, w_1_6, by decide +kernel, by decide +kernel⟩
theorem ar_X1_partBelow : mAr D_X1_partBelow 3 := by unfold mAr; decide +kernel
abbrev D_X1_countByChain : MD := (RX1, yX1_countByChain, cX1_countByChain, 4, none, 2, 0, 0)
theorem md_X1_countByChain : mMd D_X1_countByChain := ⟨w_2_98, w_1_6, by decide +kernel, by decide +kernel⟩
theorem ar_X1_countByChain : mAr D_X1_countByChain 0 := by unfold mAr; decide +kernel
abbrev D_X1_signTurns : MD := (RX1, yX1_signTurns, cX1_signTurns, 11, (some FieldType.int), 0, 0, 0)
theorem md_X1_signTurns : mMd D_X1_signTurns := ⟨w_2_102, w_1_6, by decide +kernel, by decide +kernel⟩
theorem ar_X1_signTurns : mAr D_X1_signTurns 0 := by unfold mAr; decide +kernel
abbrev D_X1_rootsOnAxis : MD := (RX1, yX1_rootsOnAxis, cX1_rootsOnAxis, 3, (some FieldType.int), 1, 0, 0)
theorem md_X1_rootsOnAxis : mMd D_X1_rootsOnAxis := ⟨w_2_105, w_1_6, by decide +kernel, by decide +kernel⟩
theorem ar_X1_rootsOnAxis : mAr D_X1_rootsOnAxis 2 := by unfold mAr; decide +kernel
abbrev D_X1_rootsOnAxisOfFour : MD := (RX1, yX1_rootsOnAxisOfFour, cX1_rootsOnAxisOfFour, 7, (some FieldType.int), 0, 0, 0)
theorem md_X1_rootsOnAxisOfFour : mMd D_X1_rootsOnAxisOfFour := ⟨w_2_108, w_1_6, by decide +kernel, by decide +kernel⟩
theorem ar_X1_rootsOnAxisOfFour : mAr D_X1_rootsOnAxisOfFour 3 := by unfold mAr; decide +kernel
abbrev D_X1_isSteadyByAxis : MD := (RX1, yX1_isSteadyByAxis, cX1_isSteadyByAxis, 7, (some FieldType.boolean), 1, 0, 0)
theorem md_X1_isSteadyByAxis : mMd D_X1_isSteadyByAxis := ⟨w_2_165, w_1_6, by decide +kernel, by decide +kernel⟩
theorem ar_X1_isSteadyByAxis : mAr D_X1_isSteadyByAxis 1 := by unfold mAr; decide +kernel
abbrev D_X2_init : MD := (RX2, yX2_init, cX2_init, 2, none, 2, 13, 84)
theorem md_X2_init : mMd D_X2_init := ⟨w_1_51, w_1_3, by decide +kernel, by decide +kernel⟩
theorem ar_X2_init : mAr D_X2_init 0 := by unfold mAr; decide +kernel
abbrev D_X2_keep : MD := (RX2, yX2_keep, cX2_keep, 2, none, 2, 0, 0)
theorem md_X2_keep : mMd D_X2_keep := ⟨w_2_15, w_1_3, by decide +kernel, by decide +kernel⟩
theorem ar_X2_keep : mAr D_X2_keep 1 := by unfold mAr; decide +kernel
abbrev D_X2_giveBack : MD := (RX2, yX2_giveBack, cX2_giveBack, 2, none, 2, 0, 0)
theorem md_X2_giveBack : mMd D_X2_giveBack := ⟨w_3_31, w_1_3, by decide +kernel, by decide +kernel⟩
theorem ar_X2_giveBack : mAr D_X2_giveBack 1 := by unfold mAr; decide +kernel
abbrev D_X2_become : MD := (RX2, yX2_become, cX2_become, 3, none, 2, 0, 0)
theorem md_X2_become : mMd D_X2_become := ⟨w_3_44, w_1_3, by decide +kernel, by decide +kernel⟩
theorem ar_X2_become : mAr D_X2_become 1 := by unfold mAr; decide +kernel
abbrev D_X3_init : MD := (RX3, yX3_init, cX3_init, 1, none, 1, 1, 10)
theorem md_X3_init : mMd D_X3_init := ⟨w_1_26, w_1_2, by decide +kernel, by decide +kernel⟩
theorem ar_X3_init : mAr D_X3_init 0 := by unfold mAr; decide +kernel
abbrev D_X3_begin : MD := (RX3, yX3_begin, cX3_begin, 1, none, 0, 0, 0)
theorem md_X3_begin : mMd D_X3_begin := ⟨w_1_46, w_1_2, by decide +kernel, by decide +kernel⟩
theorem ar_X3_begin : mAr D_X3_begin 0 := by unfold mAr; decide +kernel
abbrev D_X3_become : MD := (RX3, yX3_become, cX3_become, 2, none, 1, 0, 0)
theorem md_X3_become : mMd D_X3_become := ⟨w_2_19, w_1_2, by decide +kernel, by decide +kernel⟩
theorem ar_X3_become : mAr D_X3_become 1 := by unfold mAr; decide +kernel
abbrev D_X3_degreeTold : MD := (RX3, yX3_degreeTold, cX3_degreeTold, 3, (some FieldType.int), 0, 0, 0)
theorem md_X3_degreeTold : mMd D_X3_degreeTold := ⟨w_2_41, w_1_2, by decide +kernel, by decide +kernel⟩
theorem ar_X3_degreeTold : mAr D_X3_degreeTold 1 := by unfold mAr; decide +kernel
abbrev D_X3_fillLoop : MD := (RX3, yX3_fillLoop, cX3_fillLoop, 4, none, 0, 0, 0)
theorem md_X3_fillLoop : mMd D_X3_fillLoop := ⟨w_2_48, w_1_2, by decide +kernel, by decide +kernel⟩
theorem ar_X3_fillLoop : mAr D_X3_fillLoop 2 := by unfold mAr; decide +kernel
abbrev D_X3_drawOnce : MD := (RX3, yX3_drawOnce, cX3_drawOnce, 2, none, 0, 0, 0)
theorem md_X3_drawOnce : mMd D_X3_drawOnce := ⟨w_3_20, w_1_2, by decide +kernel, by decide +kernel⟩
theorem ar_X3_drawOnce : mAr D_X3_drawOnce 0 := by unfold mAr; decide +kernel
abbrev D_X4_init : MD := (RX4, yX4_init, cX4_init, 2, none, 1, 7, 108)
theorem md_X4_init : mMd D_X4_init := ⟨w_1_103, w_1_5, by decide +kernel, by decide +kernel⟩
theorem ar_X4_init : mAr D_X4_init 0 := by unfold mAr; decide +kernel
abbrev D_X4_isMissing : MD := (RX4, yX4_isMissing, cX4_isMissing, 2, (some FieldType.boolean), 0, 0, 0)
theorem md_X4_isMissing : mMd D_X4_isMissing := ⟨w_3_60, w_1_5, by decide +kernel, by decide +kernel⟩
theorem ar_X4_isMissing : mAr D_X4_isMissing 1 := by unfold mAr; decide +kernel
abbrev D_X4_renew : MD := (RX4, yX4_renew, cX4_renew, 4, none, 1, 0, 0)
theorem md_X4_renew : mMd D_X4_renew := ⟨w_3_81, w_1_5, by decide +kernel, by decide +kernel⟩
theorem ar_X4_renew : mAr D_X4_renew 3 := by unfold mAr; decide +kernel
abbrev D_X4_remove : MD := (RX4, yX4_remove, cX4_remove, 2, none, 0, 0, 0)
theorem md_X4_remove : mMd D_X4_remove := ⟨w_3_93, w_1_5, by decide +kernel, by decide +kernel⟩
theorem ar_X4_remove : mAr D_X4_remove 1 := by unfold mAr; decide +kernel
abbrev D_X4_refusal : MD := (RX4, yX4_refusal, cX4_refusal, 5, (some FieldType.int), 1, 0, 0)
theorem md_X4_refusal : mMd D_X4_refusal := ⟨w_3_56, w_1_5, by decide +kernel, by decide +kernel⟩
theorem ar_X4_refusal : mAr D_X4_refusal 4 := by unfold mAr; decide +kernel
abbrev D_X4_hasItems : MD := (RX4, yX4_hasItems, cX4_hasItems, 4, (some FieldType.boolean), 0, 0, 0)
theorem md_X4_hasItems : mMd D_X4_hasItems := ⟨w_3_64, w_1_5, by decide +kernel, by decide +kernel⟩
theorem ar_X4_hasItems : mAr D_X4_hasItems 3 := by unfold mAr; decide +kernel
abbrev D_X4_holdsParts : MD := (RX4, yX4_holdsParts, cX4_holdsParts, 5, (some FieldType.boolean), 1, 0, 0)
theorem md_X4_holdsParts : mMd D_X4_holdsParts := ⟨w_3_68, w_1_5, by decide +kernel, by decide +kernel⟩
theorem ar_X4_holdsParts : mAr D_X4_holdsParts 3 := by unfold mAr; decide +kernel
abbrev D_X5_init : MD := (RX5, yX5_init, cX5_init, 2, none, 1, 5, 111)
theorem md_X5_init : mMd D_X5_init := ⟨w_1_173, w_1_8, by decide +kernel, by decide +kernel⟩
theorem ar_X5_init : mAr D_X5_init 1 := by unfold mAr; decide +kernel
abbrev D_X5_refresh : MD := (RX5, yX5_refresh, cX5_refresh, 3, none, 4, 0, 0)
theorem md_X5_refresh : mMd D_X5_refresh := ⟨w_2_148, w_1_8, by decide +kernel, by decide +kernel⟩
theorem ar_X5_refresh : mAr D_X5_refresh 2 := by unfold mAr; decide +kernel
abbrev D_X5_endOf : MD := (RX5, yX5_endOf, cX5_endOf, 3, (some FieldType.int), 0, 0, 0)
theorem md_X5_endOf : mMd D_X5_endOf := ⟨w_2_181, w_1_8, by decide +kernel, by decide +kernel⟩
theorem ar_X5_endOf : mAr D_X5_endOf 2 := by unfold mAr; decide +kernel
abbrev D_X5_isOf : MD := (RX5, yX5_isOf, cX5_isOf, 3, (some FieldType.boolean), 0, 0, 0)
theorem md_X5_isOf : mMd D_X5_isOf := ⟨w_2_152, w_1_8, by decide +kernel, by decide +kernel⟩
theorem ar_X5_isOf : mAr D_X5_isOf 1 := by unfold mAr; decide +kernel
abbrev D_X5_collect : MD := (RX5, yX5_collect, cX5_collect, 4, none, 3, 0, 0)
theorem md_X5_collect : mMd D_X5_collect := ⟨w_2_157, w_1_8, by decide +kernel, by decide +kernel⟩
theorem ar_X5_collect : mAr D_X5_collect 2 := by unfold mAr; decide +kernel
abbrev D_X5_addGain : MD := (RX5, yX5_addGain, cX5_addGain, 2, none, 0, 0, 0)
theorem md_X5_addGain : mMd D_X5_addGain := ⟨w_2_169, w_1_8, by decide +kernel, by decide +kernel⟩
theorem ar_X5_addGain : mAr D_X5_addGain 1 := by unfold mAr; decide +kernel
abbrev D_X5_orderByWidth : MD := (RX5, yX5_orderByWidth, cX5_orderByWidth, 3, none, 1, 0, 0)
theorem md_X5_orderByWidth : mMd D_X5_orderByWidth := ⟨w_2_173, w_1_8, by decide +kernel, by decide +kernel⟩
theorem ar_X5_orderByWidth : mAr D_X5_orderByWidth 0 := by unfold mAr; decide +kernel
abbrev D_X5_widthOf : MD := (RX5, yX5_widthOf, cX5_widthOf, 2, (some FieldType.int), 0, 0, 0)
theorem md_X5_widthOf : mMd D_X5_widthOf := ⟨w_2_177, w_1_8, by decide +kernel, by decide +kernel⟩
theorem ar_X5_widthOf : mAr D_X5_widthOf 1 := by unfold mAr; decide +kernel
abbrev D_X6_init : MD := (RX6, yX6_init, cX6_init, 1, none, 1, 2, 70)
theorem md_X6_init : mMd D_X6_init := ⟨w_1_71, w_1_4, by decide +kernel, by decide +kernel⟩
theorem ar_X6_init : mAr D_X6_init 0 := by unfold mAr; decide +kernel
abbrev D_X6_append : MD := (RX6, yX6_append, cX6_append, 2, (some FieldType.boolean), 0, 0, 0)
theorem md_X6_append : mMd D_X6_append := ⟨w_2_224, w_1_4, by decide +kernel, by decide +kernel⟩
theorem ar_X6_append : mAr D_X6_append 1 := by unfold mAr; decide +kernel
abbrev D_X6_readText : MD := (RX6, yX6_readText, cX6_readText, 2, (some FieldType.int), 4, 0, 0)
theorem md_X6_readText : mMd D_X6_readText := ⟨w_2_232, w_1_4, by decide +kernel, by decide +kernel⟩
theorem ar_X6_readText : mAr D_X6_readText 0 := by unfold mAr; decide +kernel
abbrev D_X6_readTerms : MD := (RX6, yX6_readTerms, cX6_readTerms, 7, (some FieldType.int), 3, 0, 0)
theorem md_X6_readTerms : mMd D_X6_readTerms := ⟨w_2_239, w_1_4, by decide +kernel, by decide +kernel⟩
theorem ar_X6_readTerms : mAr D_X6_readTerms 1 := by unfold mAr; decide +kernel
abbrev D_X6_readTerm : MD := (RX6, yX6_readTerm, cX6_readTerm, 2, (some FieldType.boolean), 2, 0, 0)
theorem md_X6_readTerm : mMd D_X6_readTerm := ⟨w_3_7, w_1_4, by decide +kernel, by decide +kernel⟩
theorem ar_X6_readTerm : mAr D_X6_readTerm 0 := by unfold mAr; decide +kernel
abbrev D_X6_readPower : MD := (RX6, yX6_readPower, cX6_readPower, 2, none, 1, 0, 0)
theorem md_X6_readPower : mMd D_X6_readPower := ⟨w_3_11, w_1_4, by decide +kernel, by decide +kernel⟩
theorem ar_X6_readPower : mAr D_X6_readPower 0 := by unfold mAr; decide +kernel
abbrev D_X6_nextLetter : MD := (RX6, yX6_nextLetter, cX6_nextLetter, 1, (some FieldType.int), 0, 0, 0)
theorem md_X6_nextLetter : mMd D_X6_nextLetter := ⟨w_3_3, w_1_4, by decide +kernel, by decide +kernel⟩
theorem ar_X6_nextLetter : mAr D_X6_nextLetter 0 := by unfold mAr; decide +kernel
abbrev D_X7_init : MD := (RX7, yX7_init, cX7_init, 1, none, 3, 66, 681)
theorem md_X7_init : mMd D_X7_init := ⟨w_1_18, w_1_1, by decide +kernel, by decide +kernel⟩
theorem ar_X7_init : mAr D_X7_init 0 := by unfold mAr; decide +kernel
abbrev D_X7_part : MD := (RX7, yX7_part, cX7_part, 6, (some FieldType.int), 3, 0, 0)
theorem md_X7_part : mMd D_X7_part := ⟨w_2_3, w_1_1, by decide +kernel, by decide +kernel⟩
theorem ar_X7_part : mAr D_X7_part 3 := by unfold mAr; decide +kernel
abbrev D_X7_gain : MD := (RX7, yX7_gain, cX7_gain, 3, (some FieldType.int), 3, 0, 0)
theorem md_X7_gain : mMd D_X7_gain := ⟨w_2_26, w_1_1, by decide +kernel, by decide +kernel⟩
theorem ar_X7_gain : mAr D_X7_gain 1 := by unfold mAr; decide +kernel
abbrev D_X7_told : MD := (RX7, yX7_told, cX7_told, 3, (some FieldType.int), 1, 0, 0)
theorem md_X7_told : mMd D_X7_told := ⟨w_2_33, w_1_1, by decide +kernel, by decide +kernel⟩
theorem ar_X7_told : mAr D_X7_told 2 := by unfold mAr; decide +kernel
abbrev D_X7_count : MD := (RX7, yX7_count, cX7_count, 2, (some FieldType.int), 1, 0, 0)
theorem md_X7_count : mMd D_X7_count := ⟨w_2_37, w_1_1, by decide +kernel, by decide +kernel⟩
theorem ar_X7_count : mAr D_X7_count 1 := by unfold mAr; decide +kernel
abbrev D_X7_roots : MD := (RX7, yX7_roots, cX7_roots, 3, (some FieldType.int), 6, 0, 0)
theorem md_X7_roots : mMd D_X7_roots := ⟨w_2_55, w_1_1, by decide +kernel, by decide +kernel⟩
theorem ar_X7_roots : mAr D_X7_roots 2 := by unfold mAr; decide +kernel
abbrev D_X7_at : MD := (RX7, yX7_at, cX7_at, 4, (some FieldType.int), 6, 0, 0)
theorem md_X7_at : mMd D_X7_at := ⟨w_2_123, w_1_1, by decide +kernel, by decide +kernel⟩
theorem ar_X7_at : mAr D_X7_at 3 := by unfold mAr; decide +kernel
abbrev D_X7_row : MD := (RX7, yX7_row, cX7_row, 6, (some FieldType.long), 4, 0, 0)
theorem md_X7_row : mMd D_X7_row := ⟨w_2_127, w_1_1, by decide +kernel, by decide +kernel⟩
theorem ar_X7_row : mAr D_X7_row 3 := by unfold mAr; decide +kernel
abbrev D_X7_rows : MD := (RX7, yX7_rows, cX7_rows, 1, (some FieldType.int), 4, 0, 0)
theorem md_X7_rows : mMd D_X7_rows := ⟨w_2_136, w_1_1, by decide +kernel, by decide +kernel⟩
theorem ar_X7_rows : mAr D_X7_rows 0 := by unfold mAr; decide +kernel
abbrev D_X7_span : MD := (RX7, yX7_span, cX7_span, 5, (some FieldType.int), 6, 0, 0)
theorem md_X7_span : mMd D_X7_span := ⟨w_2_140, w_1_1, by decide +kernel, by decide +kernel⟩
theorem ar_X7_span : mAr D_X7_span 3 := by unfold mAr; decide +kernel
abbrev D_X7_widest : MD := (RX7, yX7_widest, cX7_widest, 5, (some FieldType.int), 6, 0, 0)
theorem md_X7_widest : mMd D_X7_widest := ⟨w_2_185, w_1_1, by decide +kernel, by decide +kernel⟩
theorem ar_X7_widest : mAr D_X7_widest 3 := by unfold mAr; decide +kernel
abbrev D_X7_spans : MD := (RX7, yX7_spans, cX7_spans, 4, (some FieldType.int), 6, 0, 0)
theorem md_X7_spans : mMd D_X7_spans := ⟨w_2_189, w_1_1, by decide +kernel, by decide +kernel⟩
theorem ar_X7_spans : mAr D_X7_spans 2 := by unfold mAr; decide +kernel
abbrev D_X7_corners : MD := (RX7, yX7_corners, cX7_corners, 5, (some FieldType.int), 3, 0, 0)
theorem md_X7_corners : mMd D_X7_corners := ⟨w_2_193, w_1_1, by decide +kernel, by decide +kernel⟩
theorem ar_X7_corners : mAr D_X7_corners 1 := by unfold mAr; decide +kernel
abbrev D_X7_neighbours : MD := (RX7, yX7_neighbours, cX7_neighbours, 6, (some FieldType.int), 3, 0, 0)
theorem md_X7_neighbours : mMd D_X7_neighbours := ⟨w_2_200, w_1_1, by decide +kernel, by decide +kernel⟩
theorem ar_X7_neighbours : mAr D_X7_neighbours 1 := by unfold mAr; decide +kernel
abbrev D_X7_off : MD := (RX7, yX7_off, cX7_off, 6, (some FieldType.int), 3, 0, 0)
theorem md_X7_off : mMd D_X7_off := ⟨w_2_204, w_1_1, by decide +kernel, by decide +kernel⟩
theorem ar_X7_off : mAr D_X7_off 2 := by unfold mAr; decide +kernel
abbrev D_X7_type : MD := (RX7, yX7_type, cX7_type, 2, (some FieldType.int), 1, 0, 0)
theorem md_X7_type : mMd D_X7_type := ⟨w_2_220, w_1_1, by decide +kernel, by decide +kernel⟩
theorem ar_X7_type : mAr D_X7_type 1 := by unfold mAr; decide +kernel
abbrev D_X7_read : MD := (RX7, yX7_read, cX7_read, 2, (some FieldType.int), 5, 0, 0)
theorem md_X7_read : mMd D_X7_read := ⟨w_2_228, w_1_1, by decide +kernel, by decide +kernel⟩
theorem ar_X7_read : mAr D_X7_read 0 := by unfold mAr; decide +kernel
abbrev D_X7_drift : MD := (RX7, yX7_drift, cX7_drift, 3, (some FieldType.int), 3, 0, 0)
theorem md_X7_drift : mMd D_X7_drift := ⟨w_3_16, w_1_1, by decide +kernel, by decide +kernel⟩
theorem ar_X7_drift : mAr D_X7_drift 1 := by unfold mAr; decide +kernel
abbrev D_X7_undo : MD := (RX7, yX7_undo, cX7_undo, 1, (some FieldType.int), 3, 0, 0)
theorem md_X7_undo : mMd D_X7_undo := ⟨w_3_27, w_1_1, by decide +kernel, by decide +kernel⟩
theorem ar_X7_undo : mAr D_X7_undo 0 := by unfold mAr; decide +kernel
abbrev D_X7_seed : MD := (RX7, yX7_seed, cX7_seed, 3, (some FieldType.int), 0, 0, 0)
theorem md_X7_seed : mMd D_X7_seed := ⟨w_3_35, w_1_1, by decide +kernel, by decide +kernel⟩
theorem ar_X7_seed : mAr D_X7_seed 1 := by unfold mAr; decide +kernel
abbrev D_X7_image : MD := (RX7, yX7_image, cX7_image, 1, (some FieldType.int), 3, 0, 0)
theorem md_X7_image : mMd D_X7_image := ⟨w_3_39, w_1_1, by decide +kernel, by decide +kernel⟩
theorem ar_X7_image : mAr D_X7_image 0 := by unfold mAr; decide +kernel
abbrev D_X7_restore : MD := (RX7, yX7_restore, cX7_restore, 1, (some FieldType.int), 3, 0, 0)
theorem md_X7_restore : mMd D_X7_restore := ⟨w_3_48, w_1_1, by decide +kernel, by decide +kernel⟩
theorem ar_X7_restore : mAr D_X7_restore 0 := by unfold mAr; decide +kernel
abbrev D_X7_judged : MD := (RX7, yX7_judged, cX7_judged, 8, (some FieldType.int), 3, 0, 0)
theorem md_X7_judged : mMd D_X7_judged := ⟨w_3_52, w_1_1, by decide +kernel, by decide +kernel⟩
theorem ar_X7_judged : mAr D_X7_judged 4 := by unfold mAr; decide +kernel
abbrev D_X7_film : MD := (RX7, yX7_film, cX7_film, 7, (some FieldType.int), 2, 0, 0)
theorem md_X7_film : mMd D_X7_film := ⟨w_3_73, w_1_1, by decide +kernel, by decide +kernel⟩
theorem ar_X7_film : mAr D_X7_film 4 := by unfold mAr; decide +kernel
abbrev D_X7_sheet : MD := (RX7, yX7_sheet, cX7_sheet, 4, (some FieldType.int), 2, 0, 0)
theorem md_X7_sheet : mMd D_X7_sheet := ⟨w_3_77, w_1_1, by decide +kernel, by decide +kernel⟩
theorem ar_X7_sheet : mAr D_X7_sheet 3 := by unfold mAr; decide +kernel
abbrev D_X7_drop : MD := (RX7, yX7_drop, cX7_drop, 3, (some FieldType.int), 1, 0, 0)
theorem md_X7_drop : mMd D_X7_drop := ⟨w_3_88, w_1_1, by decide +kernel, by decide +kernel⟩
theorem ar_X7_drop : mAr D_X7_drop 1 := by unfold mAr; decide +kernel
abbrev D_X7_item : MD := (RX7, yX7_item, cX7_item, 7, (some FieldType.int), 2, 0, 0)
theorem md_X7_item : mMd D_X7_item := ⟨w_3_97, w_1_1, by decide +kernel, by decide +kernel⟩
theorem ar_X7_item : mAr D_X7_item 4 := by unfold mAr; decide +kernel
abbrev D_X7_copy : MD := (RX7, yX7_copy, cX7_copy, 6, (some FieldType.int), 1, 0, 0)
theorem md_X7_copy : mMd D_X7_copy := ⟨w_3_104, w_1_1, by decide +kernel, by decide +kernel⟩
theorem ar_X7_copy : mAr D_X7_copy 5 := by unfold mAr; decide +kernel
abbrev D_X7_countRoots : MD := (RX7, yX7_countRoots, cX7_countRoots, 4, (some FieldType.int), 5, 0, 0)
theorem md_X7_countRoots : mMd D_X7_countRoots := ⟨w_2_59, w_1_1, by decide +kernel, by decide +kernel⟩
theorem ar_X7_countRoots : mAr D_X7_countRoots 3 := by unfold mAr; decide +kernel
abbrev D_X7_bookOf : MD := (RX7, yX7_bookOf, cX7_bookOf, 3, (some (FieldType.object "LoopJudge$SpanBook")), 5, 0, 0)
theorem md_X7_bookOf : mMd D_X7_bookOf := ⟨w_2_144, w_1_1, by decide +kernel, by decide +kernel⟩
theorem ar_X7_bookOf : mAr D_X7_bookOf 1 := by unfold mAr; decide +kernel
abbrev D_X7_isChoice : MD := (RX7, yX7_isChoice, cX7_isChoice, 2, (some FieldType.boolean), 0, 0, 0)
theorem md_X7_isChoice : mMd D_X7_isChoice := ⟨w_2_6, w_1_1, by decide +kernel, by decide +kernel⟩
theorem ar_X7_isChoice : mAr D_X7_isChoice 2 := by unfold mAr; decide +kernel
abbrev D_X7_isPart : MD := (RX7, yX7_isPart, cX7_isPart, 2, (some FieldType.boolean), 0, 0, 0)
theorem md_X7_isPart : mMd D_X7_isPart := ⟨w_2_9, w_1_1, by decide +kernel, by decide +kernel⟩
theorem ar_X7_isPart : mAr D_X7_isPart 1 := by unfold mAr; decide +kernel
abbrev D_X7_isGain : MD := (RX7, yX7_isGain, cX7_isGain, 1, (some FieldType.boolean), 0, 0, 0)
theorem md_X7_isGain : mMd D_X7_isGain := ⟨w_2_29, w_1_1, by decide +kernel, by decide +kernel⟩
theorem ar_X7_isGain : mAr D_X7_isGain 1 := by unfold mAr; decide +kernel
abbrev D_X7_orNone : MD := (RX7, yX7_orNone, cX7_orNone, 1, (some FieldType.int), 0, 0, 0)
theorem md_X7_orNone : mMd D_X7_orNone := ⟨w_2_44, w_1_1, by decide +kernel, by decide +kernel⟩
theorem ar_X7_orNone : mAr D_X7_orNone 1 := by unfold mAr; decide +kernel
abbrev D_X7_degreeOf : MD := (RX7, yX7_degreeOf, cX7_degreeOf, 2, (some FieldType.int), 0, 0, 0)
theorem md_X7_degreeOf : mMd D_X7_degreeOf := ⟨w_2_51, w_1_1, by decide +kernel, by decide +kernel⟩
theorem ar_X7_degreeOf : mAr D_X7_degreeOf 1 := by unfold mAr; decide +kernel
abbrev D_X7_oddsOf : MD := (RX7, yX7_oddsOf, cX7_oddsOf, 4, (some FieldType.int), 0, 0, 0)
theorem md_X7_oddsOf : mMd D_X7_oddsOf := ⟨w_2_213, w_1_1, by decide +kernel, by decide +kernel⟩
theorem ar_X7_oddsOf : mAr D_X7_oddsOf 2 := by unfold mAr; decide +kernel
abbrev D_X7_commonDivisor : MD := (RX7, yX7_commonDivisor, cX7_commonDivisor, 11, (some FieldType.long), 0, 0, 0)
theorem md_X7_commonDivisor : mMd D_X7_commonDivisor := ⟨w_2_93, w_1_1, by decide +kernel, by decide +kernel⟩
theorem ar_X7_commonDivisor : mAr D_X7_commonDivisor 2 := by unfold mAr; decide +kernel
abbrev D_X7_cutTo : MD := (RX7, yX7_cutTo, cX7_cutTo, 3, (some FieldType.long), 0, 0, 0)
theorem md_X7_cutTo : mMd D_X7_cutTo := ⟨w_3_100, w_1_1, by decide +kernel, by decide +kernel⟩
theorem ar_X7_cutTo : mAr D_X7_cutTo 2 := by unfold mAr; decide +kernel
abbrev D_X8_init : MD := (RX8, yX8_init, cX8_init, 2, none, 1, 17, 2009)
theorem md_X8_init : mMd D_X8_init := ⟨w_3_110, w_1_9, by decide +kernel, by decide +kernel⟩
theorem ar_X8_init : mAr D_X8_init 0 := by unfold mAr; decide +kernel
abbrev D_X8_in : MD := (RX8, yX8_in, cX8_in, 6, (some FieldType.boolean), 0, 0, 0)
theorem md_X8_in : mMd D_X8_in := ⟨w_3_209, w_1_9, by decide +kernel, by decide +kernel⟩
theorem ar_X8_in : mAr D_X8_in 3 := by unfold mAr; decide +kernel
abbrev D_X8_bring : MD := (RX8, yX8_bring, cX8_bring, 6, none, 0, 0, 0)
theorem md_X8_bring : mMd D_X8_bring := ⟨w_3_219, w_1_9, by decide +kernel, by decide +kernel⟩
theorem ar_X8_bring : mAr D_X8_bring 5 := by unfold mAr; decide +kernel
abbrev D_X8_notes : MD := (RX8, yX8_notes, cX8_notes, 1, none, 1, 0, 0)
theorem md_X8_notes : mMd D_X8_notes := ⟨w_3_216, w_1_9, by decide +kernel, by decide +kernel⟩
theorem ar_X8_notes : mAr D_X8_notes 0 := by unfold mAr; decide +kernel
abbrev D_X8_degree : MD := (RX8, yX8_degree, cX8_degree, 3, (some FieldType.int), 0, 0, 0)
theorem md_X8_degree : mMd D_X8_degree := ⟨w_4_8, w_1_9, by decide +kernel, by decide +kernel⟩
theorem ar_X8_degree : mAr D_X8_degree 2 := by unfold mAr; decide +kernel
abbrev D_X8_loops : MD := (RX8, yX8_loops, cX8_loops, 3, none, 0, 0, 0)
theorem md_X8_loops : mMd D_X8_loops := ⟨w_4_4, w_1_9, by decide +kernel, by decide +kernel⟩
theorem ar_X8_loops : mAr D_X8_loops 1 := by unfold mAr; decide +kernel
abbrev D_X8_sign : MD := (RX8, yX8_sign, cX8_sign, 2, (some FieldType.int), 0, 0, 0)
theorem md_X8_sign : mMd D_X8_sign := ⟨w_4_40, w_1_9, by decide +kernel, by decide +kernel⟩
theorem ar_X8_sign : mAr D_X8_sign 1 := by unfold mAr; decide +kernel
abbrev D_X8_more : MD := (RX8, yX8_more, cX8_more, 4, none, 0, 0, 0)
theorem md_X8_more : mMd D_X8_more := ⟨w_4_48, w_1_9, by decide +kernel, by decide +kernel⟩
theorem ar_X8_more : mAr D_X8_more 3 := by unfold mAr; decide +kernel
abbrev D_X8_square : MD := (RX8, yX8_square, cX8_square, 2, none, 1, 0, 0)
theorem md_X8_square : mMd D_X8_square := ⟨w_4_44, w_1_9, by decide +kernel, by decide +kernel⟩
theorem ar_X8_square : mAr D_X8_square 1 := by unfold mAr; decide +kernel
abbrev D_X8_squares : MD := (RX8, yX8_squares, cX8_squares, 9, none, 2, 0, 0)
theorem md_X8_squares : mMd D_X8_squares := ⟨w_4_37, w_1_9, by decide +kernel, by decide +kernel⟩
theorem ar_X8_squares : mAr D_X8_squares 3 := by unfold mAr; decide +kernel
abbrev D_X8_two : MD := (RX8, yX8_two, cX8_two, 8, none, 1, 0, 0)
theorem md_X8_two : mMd D_X8_two := ⟨w_4_52, w_1_9, by decide +kernel, by decide +kernel⟩
theorem ar_X8_two : mAr D_X8_two 3 := by unfold mAr; decide +kernel
abbrev D_X8_passes : MD := (RX8, yX8_passes, cX8_passes, 2, none, 0, 0, 0)
theorem md_X8_passes : mMd D_X8_passes := ⟨w_4_64, w_1_9, by decide +kernel, by decide +kernel⟩
theorem ar_X8_passes : mAr D_X8_passes 1 := by unfold mAr; decide +kernel
abbrev D_X8_three : MD := (RX8, yX8_three, cX8_three, 11, none, 1, 0, 0)
theorem md_X8_three : mMd D_X8_three := ⟨w_4_60, w_1_9, by decide +kernel, by decide +kernel⟩
theorem ar_X8_three : mAr D_X8_three 4 := by unfold mAr; decide +kernel
abbrev D_X8_four : MD := (RX8, yX8_four, cX8_four, 5, none, 1, 0, 0)
theorem md_X8_four : mMd D_X8_four := ⟨w_4_68, w_1_9, by decide +kernel, by decide +kernel⟩
theorem ar_X8_four : mAr D_X8_four 0 := by unfold mAr; decide +kernel
abbrev D_X8_apart : MD := (RX8, yX8_apart, cX8_apart, 4, none, 2, 0, 0)
theorem md_X8_apart : mMd D_X8_apart := ⟨w_4_56, w_1_9, by decide +kernel, by decide +kernel⟩
theorem ar_X8_apart : mAr D_X8_apart 1 := by unfold mAr; decide +kernel
abbrev D_X8_counts : MD := (RX8, yX8_counts, cX8_counts, 5, none, 3, 0, 0)
theorem md_X8_counts : mMd D_X8_counts := ⟨w_4_33, w_1_9, by decide +kernel, by decide +kernel⟩
theorem ar_X8_counts : mAr D_X8_counts 0 := by unfold mAr; decide +kernel
abbrev D_X8_multiplies : MD := (RX8, yX8_multiplies, cX8_multiplies, 3, none, 0, 0, 0)
theorem md_X8_multiplies : mMd D_X8_multiplies := ⟨w_4_29, w_1_9, by decide +kernel, by decide +kernel⟩
theorem ar_X8_multiplies : mAr D_X8_multiplies 1 := by unfold mAr; decide +kernel
abbrev D_X8_turns : MD := (RX8, yX8_turns, cX8_turns, 4, none, 1, 0, 0)
theorem md_X8_turns : mMd D_X8_turns := ⟨w_4_25, w_1_9, by decide +kernel, by decide +kernel⟩
theorem ar_X8_turns : mAr D_X8_turns 1 := by unfold mAr; decide +kernel
abbrev D_X8_countsBy : MD := (RX8, yX8_countsBy, cX8_countsBy, 4, (some FieldType.int), 4, 0, 0)
theorem md_X8_countsBy : mMd D_X8_countsBy := ⟨w_4_21, w_1_9, by decide +kernel, by decide +kernel⟩
theorem ar_X8_countsBy : mAr D_X8_countsBy 1 := by unfold mAr; decide +kernel
abbrev D_X8_isSteady : MD := (RX8, yX8_isSteady, cX8_isSteady, 3, (some FieldType.boolean), 5, 0, 0)
theorem md_X8_isSteady : mMd D_X8_isSteady := ⟨w_4_114, w_1_9, by decide +kernel, by decide +kernel⟩
theorem ar_X8_isSteady : mAr D_X8_isSteady 1 := by unfold mAr; decide +kernel
abbrev D_X8_isPart : MD := (RX8, yX8_isPart, cX8_isPart, 2, (some FieldType.boolean), 1, 0, 0)
theorem md_X8_isPart : mMd D_X8_isPart := ⟨w_3_206, w_1_9, by decide +kernel, by decide +kernel⟩
theorem ar_X8_isPart : mAr D_X8_isPart 2 := by unfold mAr; decide +kernel
abbrev D_X8_part : MD := (RX8, yX8_part, cX8_part, 5, (some FieldType.int), 2, 0, 0)
theorem md_X8_part : mMd D_X8_part := ⟨w_3_203, w_1_9, by decide +kernel, by decide +kernel⟩
theorem ar_X8_part : mAr D_X8_part 3 := by unfold mAr; decide +kernel
abbrev D_X8_isGain : MD := (RX8, yX8_isGain, cX8_isGain, 1, (some FieldType.boolean), 1, 0, 0)
theorem md_X8_isGain : mMd D_X8_isGain := ⟨w_3_226, w_1_9, by decide +kernel, by decide +kernel⟩
theorem ar_X8_isGain : mAr D_X8_isGain 1 := by unfold mAr; decide +kernel
abbrev D_X8_gain : MD := (RX8, yX8_gain, cX8_gain, 3, (some FieldType.int), 2, 0, 0)
theorem md_X8_gain : mMd D_X8_gain := ⟨w_3_223, w_1_9, by decide +kernel, by decide +kernel⟩
theorem ar_X8_gain : mAr D_X8_gain 1 := by unfold mAr; decide +kernel
abbrev D_X8_told : MD := (RX8, yX8_told, cX8_told, 3, (some FieldType.int), 2, 0, 0)
theorem md_X8_told : mMd D_X8_told := ⟨w_3_232, w_1_9, by decide +kernel, by decide +kernel⟩
theorem ar_X8_told : mAr D_X8_told 2 := by unfold mAr; decide +kernel
abbrev D_X8_degreeOf : MD := (RX8, yX8_degreeOf, cX8_degreeOf, 3, (some FieldType.int), 0, 0, 0)
theorem md_X8_degreeOf : mMd D_X8_degreeOf := ⟨w_4_0, w_1_9, by decide +kernel, by decide +kernel⟩
theorem ar_X8_degreeOf : mAr D_X8_degreeOf 1 := by unfold mAr; decide +kernel
abbrev D_X8_count : MD := (RX8, yX8_count, cX8_count, 2, (some FieldType.int), 1, 0, 0)
theorem md_X8_count : mMd D_X8_count := ⟨w_3_236, w_1_9, by decide +kernel, by decide +kernel⟩
theorem ar_X8_count : mAr D_X8_count 1 := by unfold mAr; decide +kernel
abbrev D_X8_roots : MD := (RX8, yX8_roots, cX8_roots, 3, (some FieldType.int), 6, 0, 0)
theorem md_X8_roots : mMd D_X8_roots := ⟨w_4_12, w_1_9, by decide +kernel, by decide +kernel⟩
theorem ar_X8_roots : mAr D_X8_roots 2 := by unfold mAr; decide +kernel
abbrev D_X8_at : MD := (RX8, yX8_at, cX8_at, 5, (some FieldType.int), 5, 0, 0)
theorem md_X8_at : mMd D_X8_at := ⟨w_4_16, w_1_9, by decide +kernel, by decide +kernel⟩
theorem ar_X8_at : mAr D_X8_at 3 := by unfold mAr; decide +kernel
abbrev D_X8_divisor : MD := (RX8, yX8_divisor, cX8_divisor, 10, (some FieldType.long), 0, 0, 0)
theorem md_X8_divisor : mMd D_X8_divisor := ⟨w_4_93, w_1_9, by decide +kernel, by decide +kernel⟩
theorem ar_X8_divisor : mAr D_X8_divisor 2 := by unfold mAr; decide +kernel
abbrev D_X8_shortens : MD := (RX8, yX8_shortens, cX8_shortens, 4, none, 1, 0, 0)
theorem md_X8_shortens : mMd D_X8_shortens := ⟨w_4_90, w_1_9, by decide +kernel, by decide +kernel⟩
theorem ar_X8_shortens : mAr D_X8_shortens 0 := by unfold mAr; decide +kernel
abbrev D_X8_divides : MD := (RX8, yX8_divides, cX8_divides, 9, none, 2, 0, 0)
theorem md_X8_divides : mMd D_X8_divides := ⟨w_4_86, w_1_9, by decide +kernel, by decide +kernel⟩
theorem ar_X8_divides : mAr D_X8_divides 1 := by unfold mAr; decide +kernel
abbrev D_X8_addsRow : MD := (RX8, yX8_addsRow, cX8_addsRow, 2, none, 0, 0, 0)
theorem md_X8_addsRow : mMd D_X8_addsRow := ⟨w_4_82, w_1_9, by decide +kernel, by decide +kernel⟩
theorem ar_X8_addsRow : mAr D_X8_addsRow 0 := by unfold mAr; decide +kernel
abbrev D_X8_laysRows : MD := (RX8, yX8_laysRows, cX8_laysRows, 4, none, 3, 0, 0)
theorem md_X8_laysRows : mMd D_X8_laysRows := ⟨w_4_78, w_1_9, by decide +kernel, by decide +kernel⟩
theorem ar_X8_laysRows : mAr D_X8_laysRows 0 := by unfold mAr; decide +kernel
abbrev D_X8_row : MD := (RX8, yX8_row, cX8_row, 6, (some FieldType.long), 4, 0, 0)
theorem md_X8_row : mMd D_X8_row := ⟨w_4_73, w_1_9, by decide +kernel, by decide +kernel⟩
theorem ar_X8_row : mAr D_X8_row 3 := by unfold mAr; decide +kernel
abbrev D_X8_rows : MD := (RX8, yX8_rows, cX8_rows, 1, (some FieldType.int), 4, 0, 0)
theorem md_X8_rows : mMd D_X8_rows := ⟨w_4_99, w_1_9, by decide +kernel, by decide +kernel⟩
theorem ar_X8_rows : mAr D_X8_rows 0 := by unfold mAr; decide +kernel
abbrev D_X8_laysSpans : MD := (RX8, yX8_laysSpans, cX8_laysSpans, 6, (some FieldType.int), 6, 0, 0)
theorem md_X8_laysSpans : mMd D_X8_laysSpans := ⟨w_4_110, w_1_9, by decide +kernel, by decide +kernel⟩
theorem ar_X8_laysSpans : mAr D_X8_laysSpans 1 := by unfold mAr; decide +kernel
abbrev D_X8_isAsk : MD := (RX8, yX8_isAsk, cX8_isAsk, 3, (some FieldType.boolean), 1, 0, 0)
theorem md_X8_isAsk : mMd D_X8_isAsk := ⟨w_4_106, w_1_9, by decide +kernel, by decide +kernel⟩
theorem ar_X8_isAsk : mAr D_X8_isAsk 3 := by unfold mAr; decide +kernel
abbrev D_X8_span : MD := (RX8, yX8_span, cX8_span, 4, (some FieldType.int), 7, 0, 0)
theorem md_X8_span : mMd D_X8_span := ⟨w_4_103, w_1_9, by decide +kernel, by decide +kernel⟩
theorem ar_X8_span : mAr D_X8_span 3 := by unfold mAr; decide +kernel
abbrev D_X8_widest : MD := (RX8, yX8_widest, cX8_widest, 8, (some FieldType.int), 7, 0, 0)
theorem md_X8_widest : mMd D_X8_widest := ⟨w_4_118, w_1_9, by decide +kernel, by decide +kernel⟩
theorem ar_X8_widest : mAr D_X8_widest 3 := by unfold mAr; decide +kernel
abbrev D_X8_spans : MD := (RX8, yX8_spans, cX8_spans, 4, (some FieldType.int), 7, 0, 0)
theorem md_X8_spans : mMd D_X8_spans := ⟨w_4_122, w_1_9, by decide +kernel, by decide +kernel⟩
theorem ar_X8_spans : mAr D_X8_spans 2 := by unfold mAr; decide +kernel
abbrev D_X8_corners : MD := (RX8, yX8_corners, cX8_corners, 6, (some FieldType.int), 6, 0, 0)
theorem md_X8_corners : mMd D_X8_corners := ⟨w_4_126, w_1_9, by decide +kernel, by decide +kernel⟩
theorem ar_X8_corners : mAr D_X8_corners 1 := by unfold mAr; decide +kernel
abbrev D_X8_neighbours : MD := (RX8, yX8_neighbours, cX8_neighbours, 6, (some FieldType.int), 6, 0, 0)
theorem md_X8_neighbours : mMd D_X8_neighbours := ⟨w_4_130, w_1_9, by decide +kernel, by decide +kernel⟩
theorem ar_X8_neighbours : mAr D_X8_neighbours 1 := by unfold mAr; decide +kernel
abbrev D_X8_off : MD := (RX8, yX8_off, cX8_off, 7, (some FieldType.int), 6, 0, 0)
theorem md_X8_off : mMd D_X8_off := ⟨w_4_134, w_1_9, by decide +kernel, by decide +kernel⟩
theorem ar_X8_off : mAr D_X8_off 2 := by unfold mAr; decide +kernel
abbrev D_X8_type : MD := (RX8, yX8_type, cX8_type, 2, (some FieldType.int), 1, 0, 0)
theorem md_X8_type : mMd D_X8_type := ⟨w_4_141, w_1_9, by decide +kernel, by decide +kernel⟩
theorem ar_X8_type : mAr D_X8_type 1 := by unfold mAr; decide +kernel
abbrev D_X8_looks : MD := (RX8, yX8_looks, cX8_looks, 1, (some FieldType.int), 0, 0, 0)
theorem md_X8_looks : mMd D_X8_looks := ⟨w_4_155, w_1_9, by decide +kernel, by decide +kernel⟩
theorem ar_X8_looks : mAr D_X8_looks 0 := by unfold mAr; decide +kernel
abbrev D_X8_goesBy : MD := (RX8, yX8_goesBy, cX8_goesBy, 2, (some FieldType.boolean), 0, 0, 0)
theorem md_X8_goesBy : mMd D_X8_goesBy := ⟨w_4_159, w_1_9, by decide +kernel, by decide +kernel⟩
theorem ar_X8_goesBy : mAr D_X8_goesBy 1 := by unfold mAr; decide +kernel
abbrev D_X8_term : MD := (RX8, yX8_term, cX8_term, 10, (some FieldType.int), 1, 0, 0)
theorem md_X8_term : mMd D_X8_term := ⟨w_4_163, w_1_9, by decide +kernel, by decide +kernel⟩
theorem ar_X8_term : mAr D_X8_term 3 := by unfold mAr; decide +kernel
abbrev D_X8_terms : MD := (RX8, yX8_terms, cX8_terms, 4, none, 2, 0, 0)
theorem md_X8_terms : mMd D_X8_terms := ⟨w_4_151, w_1_9, by decide +kernel, by decide +kernel⟩
theorem ar_X8_terms : mAr D_X8_terms 1 := by unfold mAr; decide +kernel
abbrev D_X8_read : MD := (RX8, yX8_read, cX8_read, 2, (some FieldType.int), 3, 0, 0)
theorem md_X8_read : mMd D_X8_read := ⟨w_4_147, w_1_9, by decide +kernel, by decide +kernel⟩
theorem ar_X8_read : mAr D_X8_read 0 := by unfold mAr; decide +kernel
abbrev D_X8_drift : MD := (RX8, yX8_drift, cX8_drift, 6, (some FieldType.int), 2, 0, 0)
theorem md_X8_drift : mMd D_X8_drift := ⟨w_4_171, w_1_9, by decide +kernel, by decide +kernel⟩
theorem ar_X8_drift : mAr D_X8_drift 1 := by unfold mAr; decide +kernel
abbrev D_X8_undo : MD := (RX8, yX8_undo, cX8_undo, 1, (some FieldType.int), 1, 0, 0)
theorem md_X8_undo : mMd D_X8_undo := ⟨w_4_180, w_1_9, by decide +kernel, by decide +kernel⟩
theorem ar_X8_undo : mAr D_X8_undo 0 := by unfold mAr; decide +kernel
abbrev D_X8_seed : MD := (RX8, yX8_seed, cX8_seed, 3, (some FieldType.int), 0, 0, 0)
theorem md_X8_seed : mMd D_X8_seed := ⟨w_4_184, w_1_9, by decide +kernel, by decide +kernel⟩
theorem ar_X8_seed : mAr D_X8_seed 1 := by unfold mAr; decide +kernel
abbrev D_X8_image : MD := (RX8, yX8_image, cX8_image, 1, (some FieldType.int), 1, 0, 0)
theorem md_X8_image : mMd D_X8_image := ⟨w_4_188, w_1_9, by decide +kernel, by decide +kernel⟩
theorem ar_X8_image : mAr D_X8_image 0 := by unfold mAr; decide +kernel
abbrev D_X8_restore : MD := (RX8, yX8_restore, cX8_restore, 1, (some FieldType.int), 1, 0, 0)
theorem md_X8_restore : mMd D_X8_restore := ⟨w_4_192, w_1_9, by decide +kernel, by decide +kernel⟩
theorem ar_X8_restore : mAr D_X8_restore 0 := by unfold mAr; decide +kernel
abbrev D_X8_isSheet : MD := (RX8, yX8_isSheet, cX8_isSheet, 2, (some FieldType.boolean), 1, 0, 0)
theorem md_X8_isSheet : mMd D_X8_isSheet := ⟨w_4_199, w_1_9, by decide +kernel, by decide +kernel⟩
theorem ar_X8_isSheet : mAr D_X8_isSheet 2 := by unfold mAr; decide +kernel
abbrev D_X8_found : MD := (RX8, yX8_found, cX8_found, 5, (some FieldType.int), 0, 0, 0)
theorem md_X8_found : mMd D_X8_found := ⟨w_4_203, w_1_9, by decide +kernel, by decide +kernel⟩
theorem ar_X8_found : mAr D_X8_found 4 := by unfold mAr; decide +kernel
abbrev D_X8_judged : MD := (RX8, yX8_judged, cX8_judged, 11, (some FieldType.int), 6, 0, 0)
theorem md_X8_judged : mMd D_X8_judged := ⟨w_4_196, w_1_9, by decide +kernel, by decide +kernel⟩
theorem ar_X8_judged : mAr D_X8_judged 4 := by unfold mAr; decide +kernel
abbrev D_X8_film : MD := (RX8, yX8_film, cX8_film, 7, (some FieldType.int), 2, 0, 0)
theorem md_X8_film : mMd D_X8_film := ⟨w_4_207, w_1_9, by decide +kernel, by decide +kernel⟩
theorem ar_X8_film : mAr D_X8_film 4 := by unfold mAr; decide +kernel
abbrev D_X8_lowest : MD := (RX8, yX8_lowest, cX8_lowest, 3, (some FieldType.long), 0, 0, 0)
theorem md_X8_lowest : mMd D_X8_lowest := ⟨w_4_222, w_1_9, by decide +kernel, by decide +kernel⟩
theorem ar_X8_lowest : mAr D_X8_lowest 2 := by unfold mAr; decide +kernel
abbrev D_X8_sheet : MD := (RX8, yX8_sheet, cX8_sheet, 5, (some FieldType.int), 2, 0, 0)
theorem md_X8_sheet : mMd D_X8_sheet := ⟨w_4_211, w_1_9, by decide +kernel, by decide +kernel⟩
theorem ar_X8_sheet : mAr D_X8_sheet 3 := by unfold mAr; decide +kernel
abbrev D_X8_drop : MD := (RX8, yX8_drop, cX8_drop, 2, (some FieldType.int), 1, 0, 0)
theorem md_X8_drop : mMd D_X8_drop := ⟨w_4_215, w_1_9, by decide +kernel, by decide +kernel⟩
theorem ar_X8_drop : mAr D_X8_drop 1 := by unfold mAr; decide +kernel
abbrev D_X8_item : MD := (RX8, yX8_item, cX8_item, 7, (some FieldType.int), 2, 0, 0)
theorem md_X8_item : mMd D_X8_item := ⟨w_4_219, w_1_9, by decide +kernel, by decide +kernel⟩
theorem ar_X8_item : mAr D_X8_item 4 := by unfold mAr; decide +kernel
abbrev D_X8_copy : MD := (RX8, yX8_copy, cX8_copy, 9, (some FieldType.int), 1, 0, 0)
theorem md_X8_copy : mMd D_X8_copy := ⟨w_4_226, w_1_9, by decide +kernel, by decide +kernel⟩
theorem ar_X8_copy : mAr D_X8_copy 5 := by unfold mAr; decide +kernel
abbrev D_J6_bitCount_0f7a4 : MD := (RJ6, yJ6_bitCount_0f7a4, cJ6_bitCount_0f7a4, 1, (some FieldType.int), 0, 0, 0)
theorem md_J6_bitCount_0f7a4 : mMd D_J6_bitCount_0f7a4 := ⟨w_2_207, w_1_12, by decide +kernel, by decide +kernel⟩
theorem ar_J6_bitCount_0f7a4 : mAr D_J6_bitCount_0f7a4 1 := by unfold mAr; decide +kernel
abbrev D_J9_abs_067f4 : MD := (RJ9, yJ9_abs_067f4, cJ9_abs_067f4, 2, (some FieldType.long), 0, 0, 0)
theorem md_J9_abs_067f4 : mMd D_J9_abs_067f4 := ⟨w_2_87, w_1_11, by decide +kernel, by decide +kernel⟩
theorem ar_J9_abs_067f4 : mAr D_J9_abs_067f4 1 := by unfold mAr; decide +kernel
abbrev D_J7_fill_d0a16 : MD := (RJ7, yJ7_fill_d0a16, cJ7_fill_d0a16, 5, none, 0, 0, 0)
theorem md_J7_fill_d0a16 : mMd D_J7_fill_d0a16 := ⟨w_3_84, w_1_13, by decide +kernel, by decide +kernel⟩
theorem ar_J7_fill_d0a16 : mAr D_J7_fill_d0a16 2 := by unfold mAr; decide +kernel
abbrev D_J7_fill_53178 : MD := (RJ7, yJ7_fill_53178, cJ7_fill_53178, 4, none, 0, 0, 0)
theorem md_J7_fill_53178 : mMd D_J7_fill_53178 := ⟨w_2_235, w_1_13, by decide +kernel, by decide +kernel⟩
theorem ar_J7_fill_53178 : mAr D_J7_fill_53178 2 := by unfold mAr; decide +kernel
abbrev D_L_law : MD := (RL, yL_law, code, 4, some .boolean, 10, 600000, 7302249)
theorem lk_X7_3 : Cond.methodLink RX7 3 Lib.objectInit ∈ TB ∧ Cond.instanceMethod Lib.objectInit ∈ TB ∧ Cond.code Lib.objectInit ⟨#[0xb1]⟩ 1 none ∈ TB := ⟨w_1_19, w_1_20, w_1_21⟩
theorem lk_X7_11 : Cond.methodLink RX7 11 yX3_init ∈ TB ∧ Cond.instanceMethod yX3_init ∈ TB ∧ yX3_init.name = "<init>" ∧ mMd D_X3_init := ⟨w_1_24, w_1_25, rfl, md_X3_init⟩
theorem lk_X7_16 : Cond.methodLink RX7 16 yX3_begin ∈ TB ∧ Cond.instanceMethod yX3_begin ∈ TB ∧ Cond.selects yX3_begin.cls yX3_begin yX3_begin ∈ TB ∧ mMd D_X3_begin := ⟨w_1_43, w_1_44, w_1_45, md_X3_begin⟩
theorem lk_X7_21 : Cond.methodLink RX7 21 yX2_init ∈ TB ∧ Cond.instanceMethod yX2_init ∈ TB ∧ yX2_init.name = "<init>" ∧ mMd D_X2_init := ⟨w_1_49, w_1_50, rfl, md_X2_init⟩
theorem lk_X7_38 : Cond.methodLink RX7 38 yX6_init ∈ TB ∧ Cond.instanceMethod yX6_init ∈ TB ∧ yX6_init.name = "<init>" ∧ mMd D_X6_init := ⟨w_1_69, w_1_70, rfl, md_X6_init⟩
theorem lk_X7_45 : Cond.methodLink RX7 45 yX4_init ∈ TB ∧ Cond.instanceMethod yX4_init ∈ TB ∧ yX4_init.name = "<init>" ∧ mMd D_X4_init := ⟨w_1_101, w_1_102, rfl, md_X4_init⟩
theorem lk_X7_52 : Cond.methodLink RX7 52 yX1_init ∈ TB ∧ Cond.instanceMethod yX1_init ∈ TB ∧ yX1_init.name = "<init>" ∧ mMd D_X1_init := ⟨w_1_123, w_1_124, rfl, md_X1_init⟩
theorem lk_X7_59 : Cond.methodLink RX7 59 yX5_init ∈ TB ∧ Cond.instanceMethod yX5_init ∈ TB ∧ yX5_init.name = "<init>" ∧ mMd D_X5_init := ⟨w_1_171, w_1_172, rfl, md_X5_init⟩
theorem lk_X7_73 : Cond.methodLink RX7 73 yX7_isChoice ∈ TB ∧ Cond.static yX7_isChoice ∈ TB ∧ mMd D_X7_isChoice := ⟨w_2_4, w_2_5, md_X7_isChoice⟩
theorem lk_X7_77 : Cond.methodLink RX7 77 yX7_isPart ∈ TB ∧ Cond.static yX7_isPart ∈ TB ∧ mMd D_X7_isPart := ⟨w_2_7, w_2_8, md_X7_isPart⟩
theorem lk_X7_85 : Cond.methodLink RX7 85 yX2_keep ∈ TB ∧ Cond.instanceMethod yX2_keep ∈ TB ∧ Cond.selects yX2_keep.cls yX2_keep yX2_keep ∈ TB ∧ mMd D_X2_keep := ⟨w_2_12, w_2_13, w_2_14, md_X2_keep⟩
theorem lk_X7_89 : Cond.methodLink RX7 89 yX7_isGain ∈ TB ∧ Cond.static yX7_isGain ∈ TB ∧ mMd D_X7_isGain := ⟨w_2_27, w_2_28, md_X7_isGain⟩
theorem lk_X7_97 : Cond.methodLink RX7 97 yX3_degreeTold ∈ TB ∧ Cond.instanceMethod yX3_degreeTold ∈ TB ∧ Cond.selects yX3_degreeTold.cls yX3_degreeTold yX3_degreeTold ∈ TB ∧ mMd D_X3_degreeTold := ⟨w_2_38, w_2_39, w_2_40, md_X3_degreeTold⟩
theorem lk_X7_101 : Cond.methodLink RX7 101 yX7_orNone ∈ TB ∧ Cond.static yX7_orNone ∈ TB ∧ mMd D_X7_orNone := ⟨w_2_42, w_2_43, md_X7_orNone⟩
theorem lk_X7_104 : Cond.methodLink RX7 104 yX3_fillLoop ∈ TB ∧ Cond.instanceMethod yX3_fillLoop ∈ TB ∧ Cond.selects yX3_fillLoop.cls yX3_fillLoop yX3_fillLoop ∈ TB ∧ mMd D_X3_fillLoop := ⟨w_2_45, w_2_46, w_2_47, md_X3_fillLoop⟩
theorem lk_X7_108 : Cond.methodLink RX7 108 yX7_degreeOf ∈ TB ∧ Cond.static yX7_degreeOf ∈ TB ∧ mMd D_X7_degreeOf := ⟨w_2_49, w_2_50, md_X7_degreeOf⟩
theorem lk_X7_115 : Cond.methodLink RX7 115 yX7_countRoots ∈ TB ∧ Cond.instanceMethod yX7_countRoots ∈ TB ∧ Cond.selects yX7_countRoots.cls yX7_countRoots yX7_countRoots ∈ TB ∧ mMd D_X7_countRoots := ⟨w_2_56, w_2_58, ws_X7_countRoots, md_X7_countRoots⟩
theorem lk_X7_125 : Cond.methodLink RX7 125 yX0_fill ∈ TB ∧ Cond.instanceMethod yX0_fill ∈ TB ∧ Cond.selects yX0_fill.cls yX0_fill yX0_fill ∈ TB ∧ mMd D_X0_fill := ⟨w_2_129, w_2_65, w_2_66, md_X0_fill⟩
theorem lk_X7_140 : Cond.methodLink RX7 140 yJ9_abs_067f4 ∈ TB ∧ Cond.static yJ9_abs_067f4 ∈ TB ∧ mMd D_J9_abs_067f4 := ⟨w_2_131, w_2_86, md_J9_abs_067f4⟩
theorem lk_X7_148 : Cond.methodLink RX7 148 yX7_bookOf ∈ TB ∧ Cond.instanceMethod yX7_bookOf ∈ TB ∧ Cond.selects yX7_bookOf.cls yX7_bookOf yX7_bookOf ∈ TB ∧ mMd D_X7_bookOf := ⟨w_2_141, w_2_143, ws_X7_bookOf, md_X7_bookOf⟩
theorem lk_X7_153 : Cond.methodLink RX7 153 yX5_endOf ∈ TB ∧ Cond.instanceMethod yX5_endOf ∈ TB ∧ Cond.selects yX5_endOf.cls yX5_endOf yX5_endOf ∈ TB ∧ mMd D_X5_endOf := ⟨w_2_178, w_2_179, w_2_180, md_X5_endOf⟩
theorem lk_X7_166 : Cond.methodLink RX7 166 yX1_isSteady ∈ TB ∧ Cond.instanceMethod yX1_isSteady ∈ TB ∧ Cond.selects yX1_isSteady.cls yX1_isSteady yX1_isSteady ∈ TB ∧ mMd D_X1_isSteady := ⟨w_2_196, w_2_160, w_2_161, md_X1_isSteady⟩
theorem lk_X7_170 : Cond.methodLink RX7 170 yJ6_bitCount_0f7a4 ∈ TB ∧ Cond.static yJ6_bitCount_0f7a4 ∈ TB ∧ mMd D_J6_bitCount_0f7a4 := ⟨w_2_205, w_2_206, md_J6_bitCount_0f7a4⟩
theorem lk_X7_175 : Cond.methodLink RX7 175 yX7_oddsOf ∈ TB ∧ Cond.static yX7_oddsOf ∈ TB ∧ mMd D_X7_oddsOf := ⟨w_2_211, w_2_212, md_X7_oddsOf⟩
theorem lk_X7_180 : Cond.methodLink RX7 180 yX7_commonDivisor ∈ TB ∧ Cond.static yX7_commonDivisor ∈ TB ∧ mMd D_X7_commonDivisor := ⟨w_2_215, w_2_92, md_X7_commonDivisor⟩
theorem lk_X7_185 : Cond.methodLink RX7 185 yX6_append ∈ TB ∧ Cond.instanceMethod yX6_append ∈ TB ∧ Cond.selects yX6_append.cls yX6_append yX6_append ∈ TB ∧ mMd D_X6_append := ⟨w_2_221, w_2_222, w_2_223, md_X6_append⟩
theorem lk_X7_189 : Cond.methodLink RX7 189 yX6_readText ∈ TB ∧ Cond.instanceMethod yX6_readText ∈ TB ∧ Cond.selects yX6_readText.cls yX6_readText yX6_readText ∈ TB ∧ mMd D_X6_readText := ⟨w_2_229, w_2_230, w_2_231, md_X6_readText⟩
theorem lk_X7_197 : Cond.methodLink RX7 197 arraycopyName ∈ TB ∧ Cond.native arraycopyName ∈ TB ∧ Cond.static arraycopyName ∈ TB ∧ Cond.initialized "java/lang/System" ∈ TB := ⟨w_3_12, w_2_22, w_2_21, w_1_10⟩
theorem lk_X7_203 : Cond.methodLink RX7 203 yX3_drawOnce ∈ TB ∧ Cond.instanceMethod yX3_drawOnce ∈ TB ∧ Cond.selects yX3_drawOnce.cls yX3_drawOnce yX3_drawOnce ∈ TB ∧ mMd D_X3_drawOnce := ⟨w_3_17, w_3_18, w_3_19, md_X3_drawOnce⟩
theorem lk_X7_206 : Cond.methodLink RX7 206 yX2_giveBack ∈ TB ∧ Cond.instanceMethod yX2_giveBack ∈ TB ∧ Cond.selects yX2_giveBack.cls yX2_giveBack yX2_giveBack ∈ TB ∧ mMd D_X2_giveBack := ⟨w_3_28, w_3_29, w_3_30, md_X2_giveBack⟩
theorem lk_X7_212 : Cond.methodLink RX7 212 yX3_become ∈ TB ∧ Cond.instanceMethod yX3_become ∈ TB ∧ Cond.selects yX3_become.cls yX3_become yX3_become ∈ TB ∧ mMd D_X3_become := ⟨w_3_40, w_2_17, w_2_18, md_X3_become⟩
theorem lk_X7_215 : Cond.methodLink RX7 215 yX2_become ∈ TB ∧ Cond.instanceMethod yX2_become ∈ TB ∧ Cond.selects yX2_become.cls yX2_become yX2_become ∈ TB ∧ mMd D_X2_become := ⟨w_3_41, w_3_42, w_3_43, md_X2_become⟩
theorem lk_X7_218 : Cond.methodLink RX7 218 yX4_refusal ∈ TB ∧ Cond.instanceMethod yX4_refusal ∈ TB ∧ Cond.selects yX4_refusal.cls yX4_refusal yX4_refusal ∈ TB ∧ mMd D_X4_refusal := ⟨w_3_53, w_3_54, w_3_55, md_X4_refusal⟩
theorem lk_X7_222 : Cond.methodLink RX7 222 yX4_holdsParts ∈ TB ∧ Cond.instanceMethod yX4_holdsParts ∈ TB ∧ Cond.selects yX4_holdsParts.cls yX4_holdsParts yX4_holdsParts ∈ TB ∧ mMd D_X4_holdsParts := ⟨w_3_65, w_3_66, w_3_67, md_X4_holdsParts⟩
theorem lk_X7_229 : Cond.methodLink RX7 229 yX4_renew ∈ TB ∧ Cond.instanceMethod yX4_renew ∈ TB ∧ Cond.selects yX4_renew.cls yX4_renew yX4_renew ∈ TB ∧ mMd D_X4_renew := ⟨w_3_78, w_3_79, w_3_80, md_X4_renew⟩
theorem lk_X7_233 : Cond.methodLink RX7 233 yX4_isMissing ∈ TB ∧ Cond.instanceMethod yX4_isMissing ∈ TB ∧ Cond.selects yX4_isMissing.cls yX4_isMissing yX4_isMissing ∈ TB ∧ mMd D_X4_isMissing := ⟨w_3_89, w_3_58, w_3_59, md_X4_isMissing⟩
theorem lk_X7_239 : Cond.methodLink RX7 239 yX4_remove ∈ TB ∧ Cond.instanceMethod yX4_remove ∈ TB ∧ Cond.selects yX4_remove.cls yX4_remove yX4_remove ∈ TB ∧ mMd D_X4_remove := ⟨w_3_90, w_3_91, w_3_92, md_X4_remove⟩
theorem lk_X7_242 : Cond.methodLink RX7 242 yX7_cutTo ∈ TB ∧ Cond.static yX7_cutTo ∈ TB ∧ mMd D_X7_cutTo := ⟨w_3_98, w_3_99, md_X7_cutTo⟩
theorem lk_X7_249 : Cond.methodLink RX7 249 yX4_hasItems ∈ TB ∧ Cond.instanceMethod yX4_hasItems ∈ TB ∧ Cond.selects yX4_hasItems.cls yX4_hasItems yX4_hasItems ∈ TB ∧ mMd D_X4_hasItems := ⟨w_3_105, w_3_62, w_3_63, md_X4_hasItems⟩
theorem lk_X7_252 : Cond.methodLink RX7 252 yX1_countRootsOf ∈ TB ∧ Cond.instanceMethod yX1_countRootsOf ∈ TB ∧ Cond.selects yX1_countRootsOf.cls yX1_countRootsOf yX1_countRootsOf ∈ TB ∧ mMd D_X1_countRootsOf := ⟨w_2_60, w_2_61, w_2_62, md_X1_countRootsOf⟩
theorem lk_X7_265 : Cond.methodLink RX7 265 yX5_refresh ∈ TB ∧ Cond.instanceMethod yX5_refresh ∈ TB ∧ Cond.selects yX5_refresh.cls yX5_refresh yX5_refresh ∈ TB ∧ mMd D_X5_refresh := ⟨w_2_145, w_2_146, w_2_147, md_X5_refresh⟩
theorem lk_X0_3 : Cond.methodLink RX0 3 Lib.objectInit ∈ TB ∧ Cond.instanceMethod Lib.objectInit ∈ TB ∧ Cond.code Lib.objectInit ⟨#[0xb1]⟩ 1 none ∈ TB := ⟨w_1_132, w_1_20, w_1_21⟩
theorem lk_X0_28 : Cond.methodLink RX0 28 yX0_addHalf ∈ TB ∧ Cond.instanceMethod yX0_addHalf ∈ TB ∧ Cond.selects yX0_addHalf.cls yX0_addHalf yX0_addHalf ∈ TB ∧ mMd D_X0_addHalf := ⟨w_2_69, w_2_71, ws_X0_addHalf, md_X0_addHalf⟩
theorem lk_X0_32 : Cond.methodLink RX0 32 yX0_addRemainder ∈ TB ∧ Cond.instanceMethod yX0_addRemainder ∈ TB ∧ Cond.selects yX0_addRemainder.cls yX0_addRemainder yX0_addRemainder ∈ TB ∧ mMd D_X0_addRemainder := ⟨w_2_77, w_2_79, ws_X0_addRemainder, md_X0_addRemainder⟩
theorem lk_X0_36 : Cond.methodLink RX0 36 yX0_addUnlessZero ∈ TB ∧ Cond.instanceMethod yX0_addUnlessZero ∈ TB ∧ Cond.selects yX0_addUnlessZero.cls yX0_addUnlessZero yX0_addUnlessZero ∈ TB ∧ mMd D_X0_addUnlessZero := ⟨w_2_73, w_2_75, ws_X0_addUnlessZero, md_X0_addUnlessZero⟩
theorem lk_X0_39 : Cond.methodLink RX0 39 arraycopyName ∈ TB ∧ Cond.native arraycopyName ∈ TB ∧ Cond.static arraycopyName ∈ TB ∧ Cond.initialized "java/lang/System" ∈ TB := ⟨w_2_81, w_2_22, w_2_21, w_1_10⟩
theorem lk_X0_45 : Cond.methodLink RX0 45 yX0_strike ∈ TB ∧ Cond.static yX0_strike ∈ TB ∧ mMd D_X0_strike := ⟨w_2_82, w_2_83, md_X0_strike⟩
theorem lk_X0_49 : Cond.methodLink RX0 49 yX0_takeLowestTerms ∈ TB ∧ Cond.static yX0_takeLowestTerms ∈ TB ∧ mMd D_X0_takeLowestTerms := ⟨w_2_88, w_2_89, md_X0_takeLowestTerms⟩
theorem lk_X0_53 : Cond.methodLink RX0 53 yJ9_abs_067f4 ∈ TB ∧ Cond.static yJ9_abs_067f4 ∈ TB ∧ mMd D_J9_abs_067f4 := ⟨w_2_85, w_2_86, md_J9_abs_067f4⟩
theorem lk_X1_3 : Cond.methodLink RX1 3 Lib.objectInit ∈ TB ∧ Cond.instanceMethod Lib.objectInit ∈ TB ∧ Cond.code Lib.objectInit ⟨#[0xb1]⟩ 1 none ∈ TB := ⟨w_1_126, w_1_20, w_1_21⟩
theorem lk_X1_11 : Cond.methodLink RX1 11 yX0_init ∈ TB ∧ Cond.instanceMethod yX0_init ∈ TB ∧ yX0_init.name = "<init>" ∧ mMd D_X0_init := ⟨w_1_129, w_1_130, rfl, md_X0_init⟩
theorem lk_X1_32 : Cond.methodLink RX1 32 yX0_fill ∈ TB ∧ Cond.instanceMethod yX0_fill ∈ TB ∧ Cond.selects yX0_fill.cls yX0_fill yX0_fill ∈ TB ∧ mMd D_X0_fill := ⟨w_2_64, w_2_65, w_2_66, md_X0_fill⟩
theorem lk_X1_36 : Cond.methodLink RX1 36 yX1_countByChain ∈ TB ∧ Cond.instanceMethod yX1_countByChain ∈ TB ∧ Cond.selects yX1_countByChain.cls yX1_countByChain yX1_countByChain ∈ TB ∧ mMd D_X1_countByChain := ⟨w_2_95, w_2_97, ws_X1_countByChain, md_X1_countByChain⟩
theorem lk_X1_39 : Cond.methodLink RX1 39 yX1_turn ∈ TB ∧ Cond.instanceMethod yX1_turn ∈ TB ∧ Cond.selects yX1_turn.cls yX1_turn yX1_turn ∈ TB ∧ mMd D_X1_turn := ⟨w_2_110, w_2_112, ws_X1_turn, md_X1_turn⟩
theorem lk_X1_46 : Cond.methodLink RX1 46 yX1_isSteadyByAxis ∈ TB ∧ Cond.static yX1_isSteadyByAxis ∈ TB ∧ mMd D_X1_isSteadyByAxis := ⟨w_2_163, w_2_164, md_X1_isSteadyByAxis⟩
theorem lk_X1_50 : Cond.methodLink RX1 50 yX1_partBelow ∈ TB ∧ Cond.static yX1_partBelow ∈ TB ∧ mMd D_X1_partBelow := ⟨w_2_115, w_2_116, md_X1_partBelow⟩
theorem lk_X1_67 : Cond.methodLink RX1 67 yX1_signTurns ∈ TB ∧ Cond.instanceMethod yX1_signTurns ∈ TB ∧ Cond.selects yX1_signTurns.cls yX1_signTurns yX1_signTurns ∈ TB ∧ mMd D_X1_signTurns := ⟨w_2_99, w_2_101, ws_X1_signTurns, md_X1_signTurns⟩
theorem lk_X1_75 : Cond.methodLink RX1 75 yX1_rootsOnAxis ∈ TB ∧ Cond.static yX1_rootsOnAxis ∈ TB ∧ mMd D_X1_rootsOnAxis := ⟨w_2_103, w_2_104, md_X1_rootsOnAxis⟩
theorem lk_X1_79 : Cond.methodLink RX1 79 yX1_rootsOnAxisOfFour ∈ TB ∧ Cond.static yX1_rootsOnAxisOfFour ∈ TB ∧ mMd D_X1_rootsOnAxisOfFour := ⟨w_2_106, w_2_107, md_X1_rootsOnAxisOfFour⟩
theorem lk_X2_1 : Cond.methodLink RX2 1 Lib.objectInit ∈ TB ∧ Cond.instanceMethod Lib.objectInit ∈ TB ∧ Cond.code Lib.objectInit ⟨#[0xb1]⟩ 1 none ∈ TB := ⟨w_1_52, w_1_20, w_1_21⟩
theorem lk_X2_15 : Cond.methodLink RX2 15 yX3_init ∈ TB ∧ Cond.instanceMethod yX3_init ∈ TB ∧ yX3_init.name = "<init>" ∧ mMd D_X3_init := ⟨w_1_55, w_1_25, rfl, md_X3_init⟩
theorem lk_X2_23 : Cond.methodLink RX2 23 yX3_become ∈ TB ∧ Cond.instanceMethod yX3_become ∈ TB ∧ Cond.selects yX3_become.cls yX3_become yX3_become ∈ TB ∧ mMd D_X3_become := ⟨w_2_16, w_2_17, w_2_18, md_X3_become⟩
theorem lk_X3_3 : Cond.methodLink RX3 3 Lib.objectInit ∈ TB ∧ Cond.instanceMethod Lib.objectInit ∈ TB ∧ Cond.code Lib.objectInit ⟨#[0xb1]⟩ 1 none ∈ TB := ⟨w_1_27, w_1_20, w_1_21⟩
theorem lk_X3_22 : Cond.methodLink RX3 22 arraycopyName ∈ TB ∧ Cond.native arraycopyName ∈ TB ∧ Cond.static arraycopyName ∈ TB ∧ Cond.initialized "java/lang/System" ∈ TB := ⟨w_2_20, w_2_22, w_2_21, w_1_10⟩
theorem lk_X4_3 : Cond.methodLink RX4 3 Lib.objectInit ∈ TB ∧ Cond.instanceMethod Lib.objectInit ∈ TB ∧ Cond.code Lib.objectInit ⟨#[0xb1]⟩ 1 none ∈ TB := ⟨w_1_104, w_1_20, w_1_21⟩
theorem lk_X4_23 : Cond.methodLink RX4 23 yJ7_fill_d0a16 ∈ TB ∧ Cond.static yJ7_fill_d0a16 ∈ TB ∧ mMd D_J7_fill_d0a16 := ⟨w_3_82, w_3_83, md_J7_fill_d0a16⟩
theorem lk_X4_29 : Cond.methodLink RX4 29 yX4_isMissing ∈ TB ∧ Cond.instanceMethod yX4_isMissing ∈ TB ∧ Cond.selects yX4_isMissing.cls yX4_isMissing yX4_isMissing ∈ TB ∧ mMd D_X4_isMissing := ⟨w_3_57, w_3_58, w_3_59, md_X4_isMissing⟩
theorem lk_X4_33 : Cond.methodLink RX4 33 yX4_hasItems ∈ TB ∧ Cond.instanceMethod yX4_hasItems ∈ TB ∧ Cond.selects yX4_hasItems.cls yX4_hasItems yX4_hasItems ∈ TB ∧ mMd D_X4_hasItems := ⟨w_3_61, w_3_62, w_3_63, md_X4_hasItems⟩
theorem lk_X5_3 : Cond.methodLink RX5 3 Lib.objectInit ∈ TB ∧ Cond.instanceMethod Lib.objectInit ∈ TB ∧ Cond.code Lib.objectInit ⟨#[0xb1]⟩ 1 none ∈ TB := ⟨w_1_174, w_1_20, w_1_21⟩
theorem lk_X5_42 : Cond.methodLink RX5 42 yX5_isOf ∈ TB ∧ Cond.instanceMethod yX5_isOf ∈ TB ∧ Cond.selects yX5_isOf.cls yX5_isOf yX5_isOf ∈ TB ∧ mMd D_X5_isOf := ⟨w_2_149, w_2_151, ws_X5_isOf, md_X5_isOf⟩
theorem lk_X5_49 : Cond.methodLink RX5 49 arraycopyName ∈ TB ∧ Cond.native arraycopyName ∈ TB ∧ Cond.static arraycopyName ∈ TB ∧ Cond.initialized "java/lang/System" ∈ TB := ⟨w_2_153, w_2_22, w_2_21, w_1_10⟩
theorem lk_X5_55 : Cond.methodLink RX5 55 yX5_collect ∈ TB ∧ Cond.instanceMethod yX5_collect ∈ TB ∧ Cond.selects yX5_collect.cls yX5_collect yX5_collect ∈ TB ∧ mMd D_X5_collect := ⟨w_2_154, w_2_156, ws_X5_collect, md_X5_collect⟩
theorem lk_X5_59 : Cond.methodLink RX5 59 yX5_orderByWidth ∈ TB ∧ Cond.instanceMethod yX5_orderByWidth ∈ TB ∧ Cond.selects yX5_orderByWidth.cls yX5_orderByWidth yX5_orderByWidth ∈ TB ∧ mMd D_X5_orderByWidth := ⟨w_2_170, w_2_172, ws_X5_orderByWidth, md_X5_orderByWidth⟩
theorem lk_X5_62 : Cond.methodLink RX5 62 yX3_fillLoop ∈ TB ∧ Cond.instanceMethod yX3_fillLoop ∈ TB ∧ Cond.selects yX3_fillLoop.cls yX3_fillLoop yX3_fillLoop ∈ TB ∧ mMd D_X3_fillLoop := ⟨w_2_158, w_2_46, w_2_47, md_X3_fillLoop⟩
theorem lk_X5_66 : Cond.methodLink RX5 66 yX1_isSteady ∈ TB ∧ Cond.instanceMethod yX1_isSteady ∈ TB ∧ Cond.selects yX1_isSteady.cls yX1_isSteady yX1_isSteady ∈ TB ∧ mMd D_X1_isSteady := ⟨w_2_159, w_2_160, w_2_161, md_X1_isSteady⟩
theorem lk_X5_72 : Cond.methodLink RX5 72 yX5_addGain ∈ TB ∧ Cond.instanceMethod yX5_addGain ∈ TB ∧ Cond.selects yX5_addGain.cls yX5_addGain yX5_addGain ∈ TB ∧ mMd D_X5_addGain := ⟨w_2_166, w_2_168, ws_X5_addGain, md_X5_addGain⟩
theorem lk_X5_76 : Cond.methodLink RX5 76 yX5_widthOf ∈ TB ∧ Cond.instanceMethod yX5_widthOf ∈ TB ∧ Cond.selects yX5_widthOf.cls yX5_widthOf yX5_widthOf ∈ TB ∧ mMd D_X5_widthOf := ⟨w_2_174, w_2_176, ws_X5_widthOf, md_X5_widthOf⟩
theorem lk_X6_3 : Cond.methodLink RX6 3 Lib.objectInit ∈ TB ∧ Cond.instanceMethod Lib.objectInit ∈ TB ∧ Cond.code Lib.objectInit ⟨#[0xb1]⟩ 1 none ∈ TB := ⟨w_1_72, w_1_20, w_1_21⟩
theorem lk_X6_36 : Cond.methodLink RX6 36 yJ7_fill_53178 ∈ TB ∧ Cond.static yJ7_fill_53178 ∈ TB ∧ mMd D_J7_fill_53178 := ⟨w_2_233, w_2_234, md_J7_fill_53178⟩
theorem lk_X6_42 : Cond.methodLink RX6 42 yX6_readTerms ∈ TB ∧ Cond.instanceMethod yX6_readTerms ∈ TB ∧ Cond.selects yX6_readTerms.cls yX6_readTerms yX6_readTerms ∈ TB ∧ mMd D_X6_readTerms := ⟨w_2_236, w_2_238, ws_X6_readTerms, md_X6_readTerms⟩
theorem lk_X6_46 : Cond.methodLink RX6 46 yX6_nextLetter ∈ TB ∧ Cond.instanceMethod yX6_nextLetter ∈ TB ∧ Cond.selects yX6_nextLetter.cls yX6_nextLetter yX6_nextLetter ∈ TB ∧ mMd D_X6_nextLetter := ⟨w_3_0, w_3_2, ws_X6_nextLetter, md_X6_nextLetter⟩
theorem lk_X6_50 : Cond.methodLink RX6 50 yX6_readTerm ∈ TB ∧ Cond.instanceMethod yX6_readTerm ∈ TB ∧ Cond.selects yX6_readTerm.cls yX6_readTerm yX6_readTerm ∈ TB ∧ mMd D_X6_readTerm := ⟨w_3_4, w_3_6, ws_X6_readTerm, md_X6_readTerm⟩
theorem lk_X6_54 : Cond.methodLink RX6 54 yX6_readPower ∈ TB ∧ Cond.instanceMethod yX6_readPower ∈ TB ∧ Cond.selects yX6_readPower.cls yX6_readPower yX6_readPower ∈ TB ∧ mMd D_X6_readPower := ⟨w_3_8, w_3_10, ws_X6_readPower, md_X6_readPower⟩
theorem lk_L_9 : Cond.methodLink RL 9 yX7_init ∈ TB ∧ Cond.instanceMethod yX7_init ∈ TB ∧ yX7_init.name = "<init>" ∧ mMd D_X7_init := ⟨w_1_16, w_1_17, rfl, md_X7_init⟩
theorem lk_L_12 : Cond.methodLink RL 12 yX8_init ∈ TB ∧ Cond.instanceMethod yX8_init ∈ TB ∧ yX8_init.name = "<init>" ∧ mMd D_X8_init := ⟨w_3_108, w_3_109, rfl, md_X8_init⟩
theorem lk_L_13 : Cond.methodLink RL 13 yX7_part ∈ TB ∧ Cond.instanceMethod yX7_part ∈ TB ∧ Cond.selects yX7_part.cls yX7_part yX7_part ∈ TB ∧ mMd D_X7_part := ⟨w_2_0, w_2_1, w_2_2, md_X7_part⟩
theorem lk_L_17 : Cond.methodLink RL 17 yX8_part ∈ TB ∧ Cond.instanceMethod yX8_part ∈ TB ∧ Cond.selects yX8_part.cls yX8_part yX8_part ∈ TB ∧ mMd D_X8_part := ⟨w_3_200, w_3_201, w_3_202, md_X8_part⟩
theorem lk_L_18 : Cond.methodLink RL 18 yX7_gain ∈ TB ∧ Cond.instanceMethod yX7_gain ∈ TB ∧ Cond.selects yX7_gain.cls yX7_gain yX7_gain ∈ TB ∧ mMd D_X7_gain := ⟨w_2_23, w_2_24, w_2_25, md_X7_gain⟩
theorem lk_L_22 : Cond.methodLink RL 22 yX8_gain ∈ TB ∧ Cond.instanceMethod yX8_gain ∈ TB ∧ Cond.selects yX8_gain.cls yX8_gain yX8_gain ∈ TB ∧ mMd D_X8_gain := ⟨w_3_220, w_3_221, w_3_222, md_X8_gain⟩
theorem lk_L_23 : Cond.methodLink RL 23 yX7_told ∈ TB ∧ Cond.instanceMethod yX7_told ∈ TB ∧ Cond.selects yX7_told.cls yX7_told yX7_told ∈ TB ∧ mMd D_X7_told := ⟨w_2_30, w_2_31, w_2_32, md_X7_told⟩
theorem lk_L_27 : Cond.methodLink RL 27 yX8_told ∈ TB ∧ Cond.instanceMethod yX8_told ∈ TB ∧ Cond.selects yX8_told.cls yX8_told yX8_told ∈ TB ∧ mMd D_X8_told := ⟨w_3_229, w_3_230, w_3_231, md_X8_told⟩
theorem lk_L_28 : Cond.methodLink RL 28 yX7_count ∈ TB ∧ Cond.instanceMethod yX7_count ∈ TB ∧ Cond.selects yX7_count.cls yX7_count yX7_count ∈ TB ∧ mMd D_X7_count := ⟨w_2_34, w_2_35, w_2_36, md_X7_count⟩
theorem lk_L_31 : Cond.methodLink RL 31 yX8_count ∈ TB ∧ Cond.instanceMethod yX8_count ∈ TB ∧ Cond.selects yX8_count.cls yX8_count yX8_count ∈ TB ∧ mMd D_X8_count := ⟨w_3_233, w_3_234, w_3_235, md_X8_count⟩
theorem lk_L_32 : Cond.methodLink RL 32 yX7_roots ∈ TB ∧ Cond.instanceMethod yX7_roots ∈ TB ∧ Cond.selects yX7_roots.cls yX7_roots yX7_roots ∈ TB ∧ mMd D_X7_roots := ⟨w_2_52, w_2_53, w_2_54, md_X7_roots⟩
theorem lk_L_35 : Cond.methodLink RL 35 yX8_roots ∈ TB ∧ Cond.instanceMethod yX8_roots ∈ TB ∧ Cond.selects yX8_roots.cls yX8_roots yX8_roots ∈ TB ∧ mMd D_X8_roots := ⟨w_4_9, w_4_10, w_4_11, md_X8_roots⟩
theorem lk_L_36 : Cond.methodLink RL 36 yX7_at ∈ TB ∧ Cond.instanceMethod yX7_at ∈ TB ∧ Cond.selects yX7_at.cls yX7_at yX7_at ∈ TB ∧ mMd D_X7_at := ⟨w_2_120, w_2_121, w_2_122, md_X7_at⟩
theorem lk_L_39 : Cond.methodLink RL 39 yX8_at ∈ TB ∧ Cond.instanceMethod yX8_at ∈ TB ∧ Cond.selects yX8_at.cls yX8_at yX8_at ∈ TB ∧ mMd D_X8_at := ⟨w_4_69, w_4_14, w_4_15, md_X8_at⟩
theorem lk_L_40 : Cond.methodLink RL 40 yX7_row ∈ TB ∧ Cond.instanceMethod yX7_row ∈ TB ∧ Cond.selects yX7_row.cls yX7_row yX7_row ∈ TB ∧ mMd D_X7_row := ⟨w_2_124, w_2_125, w_2_126, md_X7_row⟩
theorem lk_L_44 : Cond.methodLink RL 44 yX8_row ∈ TB ∧ Cond.instanceMethod yX8_row ∈ TB ∧ Cond.selects yX8_row.cls yX8_row yX8_row ∈ TB ∧ mMd D_X8_row := ⟨w_4_70, w_4_71, w_4_72, md_X8_row⟩
theorem lk_L_45 : Cond.methodLink RL 45 yX7_rows ∈ TB ∧ Cond.instanceMethod yX7_rows ∈ TB ∧ Cond.selects yX7_rows.cls yX7_rows yX7_rows ∈ TB ∧ mMd D_X7_rows := ⟨w_2_133, w_2_134, w_2_135, md_X7_rows⟩
theorem lk_L_49 : Cond.methodLink RL 49 yX8_rows ∈ TB ∧ Cond.instanceMethod yX8_rows ∈ TB ∧ Cond.selects yX8_rows.cls yX8_rows yX8_rows ∈ TB ∧ mMd D_X8_rows := ⟨w_4_96, w_4_97, w_4_98, md_X8_rows⟩
theorem lk_L_50 : Cond.methodLink RL 50 yX7_span ∈ TB ∧ Cond.instanceMethod yX7_span ∈ TB ∧ Cond.selects yX7_span.cls yX7_span yX7_span ∈ TB ∧ mMd D_X7_span := ⟨w_2_137, w_2_138, w_2_139, md_X7_span⟩
theorem lk_L_53 : Cond.methodLink RL 53 yX8_span ∈ TB ∧ Cond.instanceMethod yX8_span ∈ TB ∧ Cond.selects yX8_span.cls yX8_span yX8_span ∈ TB ∧ mMd D_X8_span := ⟨w_4_100, w_4_101, w_4_102, md_X8_span⟩
theorem lk_L_54 : Cond.methodLink RL 54 yX7_widest ∈ TB ∧ Cond.instanceMethod yX7_widest ∈ TB ∧ Cond.selects yX7_widest.cls yX7_widest yX7_widest ∈ TB ∧ mMd D_X7_widest := ⟨w_2_182, w_2_183, w_2_184, md_X7_widest⟩
theorem lk_L_57 : Cond.methodLink RL 57 yX8_widest ∈ TB ∧ Cond.instanceMethod yX8_widest ∈ TB ∧ Cond.selects yX8_widest.cls yX8_widest yX8_widest ∈ TB ∧ mMd D_X8_widest := ⟨w_4_115, w_4_116, w_4_117, md_X8_widest⟩
theorem lk_L_58 : Cond.methodLink RL 58 yX7_spans ∈ TB ∧ Cond.instanceMethod yX7_spans ∈ TB ∧ Cond.selects yX7_spans.cls yX7_spans yX7_spans ∈ TB ∧ mMd D_X7_spans := ⟨w_2_186, w_2_187, w_2_188, md_X7_spans⟩
theorem lk_L_61 : Cond.methodLink RL 61 yX8_spans ∈ TB ∧ Cond.instanceMethod yX8_spans ∈ TB ∧ Cond.selects yX8_spans.cls yX8_spans yX8_spans ∈ TB ∧ mMd D_X8_spans := ⟨w_4_119, w_4_120, w_4_121, md_X8_spans⟩
theorem lk_L_62 : Cond.methodLink RL 62 yX7_corners ∈ TB ∧ Cond.instanceMethod yX7_corners ∈ TB ∧ Cond.selects yX7_corners.cls yX7_corners yX7_corners ∈ TB ∧ mMd D_X7_corners := ⟨w_2_190, w_2_191, w_2_192, md_X7_corners⟩
theorem lk_L_65 : Cond.methodLink RL 65 yX8_corners ∈ TB ∧ Cond.instanceMethod yX8_corners ∈ TB ∧ Cond.selects yX8_corners.cls yX8_corners yX8_corners ∈ TB ∧ mMd D_X8_corners := ⟨w_4_123, w_4_124, w_4_125, md_X8_corners⟩
theorem lk_L_66 : Cond.methodLink RL 66 yX7_neighbours ∈ TB ∧ Cond.instanceMethod yX7_neighbours ∈ TB ∧ Cond.selects yX7_neighbours.cls yX7_neighbours yX7_neighbours ∈ TB ∧ mMd D_X7_neighbours := ⟨w_2_197, w_2_198, w_2_199, md_X7_neighbours⟩
theorem lk_L_69 : Cond.methodLink RL 69 yX8_neighbours ∈ TB ∧ Cond.instanceMethod yX8_neighbours ∈ TB ∧ Cond.selects yX8_neighbours.cls yX8_neighbours yX8_neighbours ∈ TB ∧ mMd D_X8_neighbours := ⟨w_4_127, w_4_128, w_4_129, md_X8_neighbours⟩
theorem lk_L_70 : Cond.methodLink RL 70 yX7_off ∈ TB ∧ Cond.instanceMethod yX7_off ∈ TB ∧ Cond.selects yX7_off.cls yX7_off yX7_off ∈ TB ∧ mMd D_X7_off := ⟨w_2_201, w_2_202, w_2_203, md_X7_off⟩
theorem lk_L_73 : Cond.methodLink RL 73 yX8_off ∈ TB ∧ Cond.instanceMethod yX8_off ∈ TB ∧ Cond.selects yX8_off.cls yX8_off yX8_off ∈ TB ∧ mMd D_X8_off := ⟨w_4_131, w_4_132, w_4_133, md_X8_off⟩
theorem lk_L_74 : Cond.methodLink RL 74 yX7_type ∈ TB ∧ Cond.instanceMethod yX7_type ∈ TB ∧ Cond.selects yX7_type.cls yX7_type yX7_type ∈ TB ∧ mMd D_X7_type := ⟨w_2_217, w_2_218, w_2_219, md_X7_type⟩
theorem lk_L_77 : Cond.methodLink RL 77 yX8_type ∈ TB ∧ Cond.instanceMethod yX8_type ∈ TB ∧ Cond.selects yX8_type.cls yX8_type yX8_type ∈ TB ∧ mMd D_X8_type := ⟨w_4_138, w_4_139, w_4_140, md_X8_type⟩
theorem lk_L_78 : Cond.methodLink RL 78 yX7_read ∈ TB ∧ Cond.instanceMethod yX7_read ∈ TB ∧ Cond.selects yX7_read.cls yX7_read yX7_read ∈ TB ∧ mMd D_X7_read := ⟨w_2_225, w_2_226, w_2_227, md_X7_read⟩
theorem lk_L_81 : Cond.methodLink RL 81 yX8_read ∈ TB ∧ Cond.instanceMethod yX8_read ∈ TB ∧ Cond.selects yX8_read.cls yX8_read yX8_read ∈ TB ∧ mMd D_X8_read := ⟨w_4_144, w_4_145, w_4_146, md_X8_read⟩
theorem lk_L_82 : Cond.methodLink RL 82 yX7_drift ∈ TB ∧ Cond.instanceMethod yX7_drift ∈ TB ∧ Cond.selects yX7_drift.cls yX7_drift yX7_drift ∈ TB ∧ mMd D_X7_drift := ⟨w_3_13, w_3_14, w_3_15, md_X7_drift⟩
theorem lk_L_85 : Cond.methodLink RL 85 yX8_drift ∈ TB ∧ Cond.instanceMethod yX8_drift ∈ TB ∧ Cond.selects yX8_drift.cls yX8_drift yX8_drift ∈ TB ∧ mMd D_X8_drift := ⟨w_4_168, w_4_169, w_4_170, md_X8_drift⟩
theorem lk_L_86 : Cond.methodLink RL 86 yX7_undo ∈ TB ∧ Cond.instanceMethod yX7_undo ∈ TB ∧ Cond.selects yX7_undo.cls yX7_undo yX7_undo ∈ TB ∧ mMd D_X7_undo := ⟨w_3_24, w_3_25, w_3_26, md_X7_undo⟩
theorem lk_L_89 : Cond.methodLink RL 89 yX8_undo ∈ TB ∧ Cond.instanceMethod yX8_undo ∈ TB ∧ Cond.selects yX8_undo.cls yX8_undo yX8_undo ∈ TB ∧ mMd D_X8_undo := ⟨w_4_177, w_4_178, w_4_179, md_X8_undo⟩
theorem lk_L_90 : Cond.methodLink RL 90 yX7_seed ∈ TB ∧ Cond.instanceMethod yX7_seed ∈ TB ∧ Cond.selects yX7_seed.cls yX7_seed yX7_seed ∈ TB ∧ mMd D_X7_seed := ⟨w_3_32, w_3_33, w_3_34, md_X7_seed⟩
theorem lk_L_93 : Cond.methodLink RL 93 yX8_seed ∈ TB ∧ Cond.instanceMethod yX8_seed ∈ TB ∧ Cond.selects yX8_seed.cls yX8_seed yX8_seed ∈ TB ∧ mMd D_X8_seed := ⟨w_4_181, w_4_182, w_4_183, md_X8_seed⟩
theorem lk_L_94 : Cond.methodLink RL 94 yX7_image ∈ TB ∧ Cond.instanceMethod yX7_image ∈ TB ∧ Cond.selects yX7_image.cls yX7_image yX7_image ∈ TB ∧ mMd D_X7_image := ⟨w_3_36, w_3_37, w_3_38, md_X7_image⟩
theorem lk_L_97 : Cond.methodLink RL 97 yX8_image ∈ TB ∧ Cond.instanceMethod yX8_image ∈ TB ∧ Cond.selects yX8_image.cls yX8_image yX8_image ∈ TB ∧ mMd D_X8_image := ⟨w_4_185, w_4_186, w_4_187, md_X8_image⟩
theorem lk_L_98 : Cond.methodLink RL 98 yX7_restore ∈ TB ∧ Cond.instanceMethod yX7_restore ∈ TB ∧ Cond.selects yX7_restore.cls yX7_restore yX7_restore ∈ TB ∧ mMd D_X7_restore := ⟨w_3_45, w_3_46, w_3_47, md_X7_restore⟩
theorem lk_L_101 : Cond.methodLink RL 101 yX8_restore ∈ TB ∧ Cond.instanceMethod yX8_restore ∈ TB ∧ Cond.selects yX8_restore.cls yX8_restore yX8_restore ∈ TB ∧ mMd D_X8_restore := ⟨w_4_189, w_4_190, w_4_191, md_X8_restore⟩
theorem lk_L_102 : Cond.methodLink RL 102 yX7_judged ∈ TB ∧ Cond.instanceMethod yX7_judged ∈ TB ∧ Cond.selects yX7_judged.cls yX7_judged yX7_judged ∈ TB ∧ mMd D_X7_judged := ⟨w_3_49, w_3_50, w_3_51, md_X7_judged⟩
theorem lk_L_106 : Cond.methodLink RL 106 yX8_judged ∈ TB ∧ Cond.instanceMethod yX8_judged ∈ TB ∧ Cond.selects yX8_judged.cls yX8_judged yX8_judged ∈ TB ∧ mMd D_X8_judged := ⟨w_4_193, w_4_194, w_4_195, md_X8_judged⟩
theorem lk_L_107 : Cond.methodLink RL 107 yX7_film ∈ TB ∧ Cond.instanceMethod yX7_film ∈ TB ∧ Cond.selects yX7_film.cls yX7_film yX7_film ∈ TB ∧ mMd D_X7_film := ⟨w_3_70, w_3_71, w_3_72, md_X7_film⟩
theorem lk_L_110 : Cond.methodLink RL 110 yX8_film ∈ TB ∧ Cond.instanceMethod yX8_film ∈ TB ∧ Cond.selects yX8_film.cls yX8_film yX8_film ∈ TB ∧ mMd D_X8_film := ⟨w_4_204, w_4_205, w_4_206, md_X8_film⟩
theorem lk_L_111 : Cond.methodLink RL 111 yX7_sheet ∈ TB ∧ Cond.instanceMethod yX7_sheet ∈ TB ∧ Cond.selects yX7_sheet.cls yX7_sheet yX7_sheet ∈ TB ∧ mMd D_X7_sheet := ⟨w_3_74, w_3_75, w_3_76, md_X7_sheet⟩
theorem lk_L_114 : Cond.methodLink RL 114 yX8_sheet ∈ TB ∧ Cond.instanceMethod yX8_sheet ∈ TB ∧ Cond.selects yX8_sheet.cls yX8_sheet yX8_sheet ∈ TB ∧ mMd D_X8_sheet := ⟨w_4_208, w_4_209, w_4_210, md_X8_sheet⟩
theorem lk_L_115 : Cond.methodLink RL 115 yX7_drop ∈ TB ∧ Cond.instanceMethod yX7_drop ∈ TB ∧ Cond.selects yX7_drop.cls yX7_drop yX7_drop ∈ TB ∧ mMd D_X7_drop := ⟨w_3_85, w_3_86, w_3_87, md_X7_drop⟩
theorem lk_L_118 : Cond.methodLink RL 118 yX8_drop ∈ TB ∧ Cond.instanceMethod yX8_drop ∈ TB ∧ Cond.selects yX8_drop.cls yX8_drop yX8_drop ∈ TB ∧ mMd D_X8_drop := ⟨w_4_212, w_4_213, w_4_214, md_X8_drop⟩
theorem lk_L_121 : Cond.methodLink RL 121 yX7_item ∈ TB ∧ Cond.instanceMethod yX7_item ∈ TB ∧ Cond.selects yX7_item.cls yX7_item yX7_item ∈ TB ∧ mMd D_X7_item := ⟨w_3_94, w_3_95, w_3_96, md_X7_item⟩
theorem lk_L_125 : Cond.methodLink RL 125 yX8_item ∈ TB ∧ Cond.instanceMethod yX8_item ∈ TB ∧ Cond.selects yX8_item.cls yX8_item yX8_item ∈ TB ∧ mMd D_X8_item := ⟨w_4_216, w_4_217, w_4_218, md_X8_item⟩
theorem lk_L_126 : Cond.methodLink RL 126 yX7_copy ∈ TB ∧ Cond.instanceMethod yX7_copy ∈ TB ∧ Cond.selects yX7_copy.cls yX7_copy yX7_copy ∈ TB ∧ mMd D_X7_copy := ⟨w_3_101, w_3_102, w_3_103, md_X7_copy⟩
theorem lk_L_130 : Cond.methodLink RL 130 yX8_copy ∈ TB ∧ Cond.instanceMethod yX8_copy ∈ TB ∧ Cond.selects yX8_copy.cls yX8_copy yX8_copy ∈ TB ∧ mMd D_X8_copy := ⟨w_4_223, w_4_224, w_4_225, md_X8_copy⟩
theorem lk_X8_1 : Cond.methodLink RX8 1 Lib.objectInit ∈ TB ∧ Cond.instanceMethod Lib.objectInit ∈ TB ∧ Cond.code Lib.objectInit ⟨#[0xb1]⟩ 1 none ∈ TB := ⟨w_3_111, w_1_20, w_1_21⟩
theorem lk_X8_69 : Cond.methodLink RX8 69 yX8_bring ∈ TB ∧ Cond.static yX8_bring ∈ TB ∧ mMd D_X8_bring := ⟨w_3_217, w_3_218, md_X8_bring⟩
theorem lk_X8_84 : Cond.methodLink RX8 84 yX8_more ∈ TB ∧ Cond.instanceMethod yX8_more ∈ TB ∧ Cond.selects yX8_more.cls yX8_more yX8_more ∈ TB ∧ mMd D_X8_more := ⟨w_4_45, w_4_47, ws_X8_more, md_X8_more⟩
theorem lk_X8_88 : Cond.methodLink RX8 88 yX8_sign ∈ TB ∧ Cond.static yX8_sign ∈ TB ∧ mMd D_X8_sign := ⟨w_4_38, w_4_39, md_X8_sign⟩
theorem lk_X8_92 : Cond.methodLink RX8 92 yX8_square ∈ TB ∧ Cond.instanceMethod yX8_square ∈ TB ∧ Cond.selects yX8_square.cls yX8_square yX8_square ∈ TB ∧ mMd D_X8_square := ⟨w_4_41, w_4_43, ws_X8_square, md_X8_square⟩
theorem lk_X8_104 : Cond.methodLink RX8 104 yX8_passes ∈ TB ∧ Cond.instanceMethod yX8_passes ∈ TB ∧ Cond.selects yX8_passes.cls yX8_passes yX8_passes ∈ TB ∧ mMd D_X8_passes := ⟨w_4_61, w_4_63, ws_X8_passes, md_X8_passes⟩
theorem lk_X8_107 : Cond.methodLink RX8 107 yX8_two ∈ TB ∧ Cond.instanceMethod yX8_two ∈ TB ∧ Cond.selects yX8_two.cls yX8_two yX8_two ∈ TB ∧ mMd D_X8_two := ⟨w_4_49, w_4_51, ws_X8_two, md_X8_two⟩
theorem lk_X8_111 : Cond.methodLink RX8 111 yX8_three ∈ TB ∧ Cond.instanceMethod yX8_three ∈ TB ∧ Cond.selects yX8_three.cls yX8_three yX8_three ∈ TB ∧ mMd D_X8_three := ⟨w_4_57, w_4_59, ws_X8_three, md_X8_three⟩
theorem lk_X8_115 : Cond.methodLink RX8 115 yX8_four ∈ TB ∧ Cond.instanceMethod yX8_four ∈ TB ∧ Cond.selects yX8_four.cls yX8_four yX8_four ∈ TB ∧ mMd D_X8_four := ⟨w_4_65, w_4_67, ws_X8_four, md_X8_four⟩
theorem lk_X8_118 : Cond.methodLink RX8 118 yX8_degree ∈ TB ∧ Cond.static yX8_degree ∈ TB ∧ mMd D_X8_degree := ⟨w_4_6, w_4_7, md_X8_degree⟩
theorem lk_X8_122 : Cond.methodLink RX8 122 yX8_squares ∈ TB ∧ Cond.instanceMethod yX8_squares ∈ TB ∧ Cond.selects yX8_squares.cls yX8_squares yX8_squares ∈ TB ∧ mMd D_X8_squares := ⟨w_4_34, w_4_36, ws_X8_squares, md_X8_squares⟩
theorem lk_X8_125 : Cond.methodLink RX8 125 yX8_apart ∈ TB ∧ Cond.instanceMethod yX8_apart ∈ TB ∧ Cond.selects yX8_apart.cls yX8_apart yX8_apart ∈ TB ∧ mMd D_X8_apart := ⟨w_4_53, w_4_55, ws_X8_apart, md_X8_apart⟩
theorem lk_X8_128 : Cond.methodLink RX8 128 yX8_multiplies ∈ TB ∧ Cond.instanceMethod yX8_multiplies ∈ TB ∧ Cond.selects yX8_multiplies.cls yX8_multiplies yX8_multiplies ∈ TB ∧ mMd D_X8_multiplies := ⟨w_4_26, w_4_28, ws_X8_multiplies, md_X8_multiplies⟩
theorem lk_X8_131 : Cond.methodLink RX8 131 yX8_turns ∈ TB ∧ Cond.instanceMethod yX8_turns ∈ TB ∧ Cond.selects yX8_turns.cls yX8_turns yX8_turns ∈ TB ∧ mMd D_X8_turns := ⟨w_4_22, w_4_24, ws_X8_turns, md_X8_turns⟩
theorem lk_X8_134 : Cond.methodLink RX8 134 yX8_counts ∈ TB ∧ Cond.instanceMethod yX8_counts ∈ TB ∧ Cond.selects yX8_counts.cls yX8_counts yX8_counts ∈ TB ∧ mMd D_X8_counts := ⟨w_4_30, w_4_32, ws_X8_counts, md_X8_counts⟩
theorem lk_X8_137 : Cond.methodLink RX8 137 yX8_countsBy ∈ TB ∧ Cond.instanceMethod yX8_countsBy ∈ TB ∧ Cond.selects yX8_countsBy.cls yX8_countsBy yX8_countsBy ∈ TB ∧ mMd D_X8_countsBy := ⟨w_4_18, w_4_20, ws_X8_countsBy, md_X8_countsBy⟩
theorem lk_X8_141 : Cond.methodLink RX8 141 yX8_in ∈ TB ∧ Cond.static yX8_in ∈ TB ∧ mMd D_X8_in := ⟨w_3_207, w_3_208, md_X8_in⟩
theorem lk_X8_145 : Cond.methodLink RX8 145 yX8_isPart ∈ TB ∧ Cond.static yX8_isPart ∈ TB ∧ mMd D_X8_isPart := ⟨w_3_204, w_3_205, md_X8_isPart⟩
theorem lk_X8_153 : Cond.methodLink RX8 153 yX8_notes ∈ TB ∧ Cond.instanceMethod yX8_notes ∈ TB ∧ Cond.selects yX8_notes.cls yX8_notes yX8_notes ∈ TB ∧ mMd D_X8_notes := ⟨w_3_213, w_3_215, ws_X8_notes, md_X8_notes⟩
theorem lk_X8_160 : Cond.methodLink RX8 160 yX8_isGain ∈ TB ∧ Cond.static yX8_isGain ∈ TB ∧ mMd D_X8_isGain := ⟨w_3_224, w_3_225, md_X8_isGain⟩
theorem lk_X8_164 : Cond.methodLink RX8 164 yX8_degreeOf ∈ TB ∧ Cond.instanceMethod yX8_degreeOf ∈ TB ∧ Cond.selects yX8_degreeOf.cls yX8_degreeOf yX8_degreeOf ∈ TB ∧ mMd D_X8_degreeOf := ⟨w_3_237, w_3_239, ws_X8_degreeOf, md_X8_degreeOf⟩
theorem lk_X8_167 : Cond.methodLink RX8 167 yX8_loops ∈ TB ∧ Cond.instanceMethod yX8_loops ∈ TB ∧ Cond.selects yX8_loops.cls yX8_loops yX8_loops ∈ TB ∧ mMd D_X8_loops := ⟨w_4_1, w_4_3, ws_X8_loops, md_X8_loops⟩
theorem lk_X8_170 : Cond.methodLink RX8 170 yX8_at ∈ TB ∧ Cond.instanceMethod yX8_at ∈ TB ∧ Cond.selects yX8_at.cls yX8_at yX8_at ∈ TB ∧ mMd D_X8_at := ⟨w_4_13, w_4_14, w_4_15, md_X8_at⟩
theorem lk_X8_176 : Cond.methodLink RX8 176 yX8_divisor ∈ TB ∧ Cond.static yX8_divisor ∈ TB ∧ mMd D_X8_divisor := ⟨w_4_91, w_4_92, md_X8_divisor⟩
theorem lk_X8_180 : Cond.methodLink RX8 180 yX8_shortens ∈ TB ∧ Cond.instanceMethod yX8_shortens ∈ TB ∧ Cond.selects yX8_shortens.cls yX8_shortens yX8_shortens ∈ TB ∧ mMd D_X8_shortens := ⟨w_4_87, w_4_89, ws_X8_shortens, md_X8_shortens⟩
theorem lk_X8_186 : Cond.methodLink RX8 186 yX8_addsRow ∈ TB ∧ Cond.instanceMethod yX8_addsRow ∈ TB ∧ Cond.selects yX8_addsRow.cls yX8_addsRow yX8_addsRow ∈ TB ∧ mMd D_X8_addsRow := ⟨w_4_79, w_4_81, ws_X8_addsRow, md_X8_addsRow⟩
theorem lk_X8_189 : Cond.methodLink RX8 189 yX8_divides ∈ TB ∧ Cond.instanceMethod yX8_divides ∈ TB ∧ Cond.selects yX8_divides.cls yX8_divides yX8_divides ∈ TB ∧ mMd D_X8_divides := ⟨w_4_83, w_4_85, ws_X8_divides, md_X8_divides⟩
theorem lk_X8_194 : Cond.methodLink RX8 194 yX8_laysRows ∈ TB ∧ Cond.instanceMethod yX8_laysRows ∈ TB ∧ Cond.selects yX8_laysRows.cls yX8_laysRows yX8_laysRows ∈ TB ∧ mMd D_X8_laysRows := ⟨w_4_75, w_4_77, ws_X8_laysRows, md_X8_laysRows⟩
theorem lk_X8_204 : Cond.methodLink RX8 204 yX8_isSteady ∈ TB ∧ Cond.instanceMethod yX8_isSteady ∈ TB ∧ Cond.selects yX8_isSteady.cls yX8_isSteady yX8_isSteady ∈ TB ∧ mMd D_X8_isSteady := ⟨w_4_111, w_4_113, ws_X8_isSteady, md_X8_isSteady⟩
theorem lk_X8_207 : Cond.methodLink RX8 207 yX8_isAsk ∈ TB ∧ Cond.static yX8_isAsk ∈ TB ∧ mMd D_X8_isAsk := ⟨w_4_104, w_4_105, md_X8_isAsk⟩
theorem lk_X8_211 : Cond.methodLink RX8 211 yX8_laysSpans ∈ TB ∧ Cond.instanceMethod yX8_laysSpans ∈ TB ∧ Cond.selects yX8_laysSpans.cls yX8_laysSpans yX8_laysSpans ∈ TB ∧ mMd D_X8_laysSpans := ⟨w_4_107, w_4_109, ws_X8_laysSpans, md_X8_laysSpans⟩
theorem lk_X8_229 : Cond.methodLink RX8 229 yX8_looks ∈ TB ∧ Cond.instanceMethod yX8_looks ∈ TB ∧ Cond.selects yX8_looks.cls yX8_looks yX8_looks ∈ TB ∧ mMd D_X8_looks := ⟨w_4_152, w_4_154, ws_X8_looks, md_X8_looks⟩
theorem lk_X8_237 : Cond.methodLink RX8 237 yX8_goesBy ∈ TB ∧ Cond.instanceMethod yX8_goesBy ∈ TB ∧ Cond.selects yX8_goesBy.cls yX8_goesBy yX8_goesBy ∈ TB ∧ mMd D_X8_goesBy := ⟨w_4_156, w_4_158, ws_X8_goesBy, md_X8_goesBy⟩
theorem lk_X8_249 : Cond.methodLink RX8 249 yX8_term ∈ TB ∧ Cond.instanceMethod yX8_term ∈ TB ∧ Cond.selects yX8_term.cls yX8_term yX8_term ∈ TB ∧ mMd D_X8_term := ⟨w_4_160, w_4_162, ws_X8_term, md_X8_term⟩
theorem lk_X8_252 : Cond.methodLink RX8 252 yX8_terms ∈ TB ∧ Cond.instanceMethod yX8_terms ∈ TB ∧ Cond.selects yX8_terms.cls yX8_terms yX8_terms ∈ TB ∧ mMd D_X8_terms := ⟨w_4_148, w_4_150, ws_X8_terms, md_X8_terms⟩
theorem lk_X8_264 : Cond.methodLink RX8 264 yX8_isSheet ∈ TB ∧ Cond.static yX8_isSheet ∈ TB ∧ mMd D_X8_isSheet := ⟨w_4_197, w_4_198, md_X8_isSheet⟩
theorem lk_X8_267 : Cond.methodLink RX8 267 yX8_found ∈ TB ∧ Cond.instanceMethod yX8_found ∈ TB ∧ Cond.selects yX8_found.cls yX8_found yX8_found ∈ TB ∧ mMd D_X8_found := ⟨w_4_200, w_4_202, ws_X8_found, md_X8_found⟩
theorem lk_X8_271 : Cond.methodLink RX8 271 yX8_lowest ∈ TB ∧ Cond.static yX8_lowest ∈ TB ∧ mMd D_X8_lowest := ⟨w_4_220, w_4_221, md_X8_lowest⟩
theorem lk_X0_24 : (∀ ad base U H, mEnv ad base U H → va_Nw (.methodLinkNest RX0 24 yX7_degreeOf RX7) U) ∧ Cond.static yX7_degreeOf ∈ TB ∧ mMd D_X7_degreeOf := ⟨fun _ _ _ _ h => h.1.1, w_2_50, md_X7_degreeOf⟩
theorem lk_X0_59 : (∀ ad base U H, mEnv ad base U H → va_Nw (.methodLinkNest RX0 59 yX7_commonDivisor RX7) U) ∧ Cond.static yX7_commonDivisor ∈ TB ∧ mMd D_X7_commonDivisor := ⟨fun _ _ _ _ h => h.1.2.1, w_2_92, md_X7_commonDivisor⟩
theorem lk_X1_42 : (∀ ad base U H, mEnv ad base U H → va_Nw (.methodLinkNest RX1 42 yX7_degreeOf RX7) U) ∧ Cond.static yX7_degreeOf ∈ TB ∧ mMd D_X7_degreeOf := ⟨fun _ _ _ _ h => h.1.2.2.1, w_2_50, md_X7_degreeOf⟩
theorem lk_X4_37 : (∀ ad base U H, mEnv ad base U H → va_Nw (.methodLinkNest RX4 37 yX7_isPart RX7) U) ∧ Cond.static yX7_isPart ∈ TB ∧ mMd D_X7_isPart := ⟨fun _ _ _ _ h => h.1.2.2.2, w_2_8, md_X7_isPart⟩
theorem ct_X7_184 : Cond.constant RX7 184 (100000) ∈ TB := w_2_216
theorem ct_X3_28 : Cond.constant RX3 28 (1103515245) ∈ TB := w_3_21
theorem ct_X3_31 : Cond.constant RX3 31 (2147483647) ∈ TB := w_3_22
theorem ct_X3_32 : Cond.constant RX3 32 (65536) ∈ TB := w_3_23
theorem ct_X8_218 : Cond.constant RX8 218 (100000) ∈ TB := w_4_137
theorem ct_X8_263 : Cond.constant RX8 263 (65536) ∈ TB := w_4_176
theorem ct_J6_265 : Cond.constant RJ6 265 (1431655765) ∈ TB := w_2_208
theorem ct_J6_266 : Cond.constant RJ6 266 (858993459) ∈ TB := w_2_209
theorem ct_J6_267 : Cond.constant RJ6 267 (252645135) ∈ TB := w_2_210
theorem cl_X7_119 : Cond.constantLong RX7 119 (-1) ∈ TB := w_2_128
theorem cl_X7_134 : Cond.constantLong RX7 134 (-4) ∈ TB := w_2_130
theorem cl_X7_146 : Cond.constantLong RX7 146 (2) ∈ TB := w_2_132
theorem cl_X7_178 : Cond.constantLong RX7 178 (100000) ∈ TB := w_2_214
theorem cl_X7_269 : Cond.constantLong RX7 269 (-9) ∈ TB := w_2_10
theorem cl_X7_271 : Cond.constantLong RX7 271 (9) ∈ TB := w_2_11
theorem cl_X0_63 : Cond.constantLong RX0 63 (2) ∈ TB := w_2_94
theorem cl_X1_54 : Cond.constantLong RX1 54 (4) ∈ TB := w_2_109
theorem cl_X1_56 : Cond.constantLong RX1 56 (2) ∈ TB := w_2_118
theorem cl_X1_58 : Cond.constantLong RX1 58 (6) ∈ TB := w_2_119
theorem cl_L_119 : Cond.constantLong RL 119 (4294967295) ∈ TB := w_4_227
theorem cl_X8_73 : Cond.constantLong RX8 73 (8) ∈ TB := w_4_5
theorem cl_X8_96 : Cond.constantLong RX8 96 (4) ∈ TB := w_3_210
theorem cl_X8_149 : Cond.constantLong RX8 149 (-9) ∈ TB := w_3_211
theorem cl_X8_151 : Cond.constantLong RX8 151 (9) ∈ TB := w_3_212
theorem cl_X8_156 : Cond.constantLong RX8 156 (-800) ∈ TB := w_3_227
theorem cl_X8_158 : Cond.constantLong RX8 158 (800) ∈ TB := w_3_228
theorem cl_X8_174 : Cond.constantLong RX8 174 (3) ∈ TB := w_4_17
theorem cl_X8_192 : Cond.constantLong RX8 192 (-1) ∈ TB := w_4_74
theorem cl_X8_197 : Cond.constantLong RX8 197 (-4) ∈ TB := w_4_94
theorem cl_X8_199 : Cond.constantLong RX8 199 (2) ∈ TB := w_4_95
theorem cl_X8_214 : Cond.constantLong RX8 214 (10) ∈ TB := w_4_135
theorem cl_X8_216 : Cond.constantLong RX8 216 (100000) ∈ TB := w_4_136
theorem cl_X8_219 : Cond.constantLong RX8 219 (32) ∈ TB := w_4_142
theorem cl_X8_221 : Cond.constantLong RX8 221 (126) ∈ TB := w_4_143
theorem cl_X8_233 : Cond.constantLong RX8 233 (49) ∈ TB := w_4_164
theorem cl_X8_235 : Cond.constantLong RX8 235 (57) ∈ TB := w_4_165
theorem cl_X8_245 : Cond.constantLong RX8 245 (50) ∈ TB := w_4_166
theorem cl_X8_247 : Cond.constantLong RX8 247 (52) ∈ TB := w_4_167
theorem cl_X8_255 : Cond.constantLong RX8 255 (40) ∈ TB := w_4_172
theorem cl_X8_257 : Cond.constantLong RX8 257 (1103515245) ∈ TB := w_4_173
theorem cl_X8_259 : Cond.constantLong RX8 259 (12345) ∈ TB := w_4_174
theorem cl_X8_261 : Cond.constantLong RX8 261 (2147483648) ∈ TB := w_4_175
end
section
theorem dX0_init_0 : decode cX0_init 0 = .ok (.aload_n 0, 1) := by decide +kernel
theorem dX0_init_1 : decode cX0_init 1 = .ok (.invokespecial 3, 3) := by decide +kernel
theorem dX0_init_4 : decode cX0_init 4 = .ok (.aload_n 0, 1) := by decide +kernel
theorem dX0_init_5 : decode cX0_init 5 = .ok (.iconst 5, 1) := by decide +kernel
theorem dX0_init_6 : decode cX0_init 6 = .ok (.iconst 5, 1) := by decide +kernel
theorem dX0_init_7 : decode cX0_init 7 = .ok (.multianewarray 9 2, 4) := by decide +kernel
theorem dX0_init_11 : decode cX0_init 11 = .ok (.putfield 11, 3) := by decide +kernel
theorem dX0_init_14 : decode cX0_init 14 = .ok (.aload_n 0, 1) := by decide +kernel
theorem dX0_init_15 : decode cX0_init 15 = .ok (.iconst 5, 1) := by decide +kernel
theorem dX0_init_16 : decode cX0_init 16 = .ok (.newarray .int, 2) := by decide +kernel
theorem dX0_init_18 : decode cX0_init 18 = .ok (.putfield 16, 3) := by decide +kernel
theorem dX0_init_21 : decode cX0_init 21 = .ok (.aload_n 0, 1) := by decide +kernel
theorem dX0_init_22 : decode cX0_init 22 = .ok (.iconst 0, 1) := by decide +kernel
theorem dX0_init_23 : decode cX0_init 23 = .ok (.putfield 20, 3) := by decide +kernel
theorem dX0_init_26 : decode cX0_init 26 = .ok (.return_, 1) := by decide +kernel
theorem dX0_fill_0 : decode cX0_fill 0 = .ok (.aload_n 0, 1) := by decide +kernel
theorem dX0_fill_1 : decode cX0_fill 1 = .ok (.iconst 0, 1) := by decide +kernel
theorem dX0_fill_2 : decode cX0_fill 2 = .ok (.putfield 20, 3) := by decide +kernel
theorem dX0_fill_5 : decode cX0_fill 5 = .ok (.aload_n 1, 1) := by decide +kernel
theorem dX0_fill_6 : decode cX0_fill 6 = .ok (.invokestatic 24, 3) := by decide +kernel
theorem dX0_fill_9 : decode cX0_fill 9 = .ok (.istore_n 2, 1) := by decide +kernel
theorem dX0_fill_10 : decode cX0_fill 10 = .ok (.iload_n 2, 1) := by decide +kernel
theorem dX0_fill_11 : decode cX0_fill 11 = .ok (.iconst (-1), 1) := by decide +kernel
theorem dX0_fill_12 : decode cX0_fill 12 = .ok (.if_icmp .ne 4, 3) := by decide +kernel
theorem dX0_fill_15 : decode cX0_fill 15 = .ok (.return_, 1) := by decide +kernel
theorem dX0_fill_16 : decode cX0_fill 16 = .ok (.aload_n 0, 1) := by decide +kernel
theorem dX0_fill_17 : decode cX0_fill 17 = .ok (.aload_n 1, 1) := by decide +kernel
theorem dX0_fill_18 : decode cX0_fill 18 = .ok (.iload_n 2, 1) := by decide +kernel
theorem dX0_fill_19 : decode cX0_fill 19 = .ok (.iconst 2, 1) := by decide +kernel
theorem dX0_fill_20 : decode cX0_fill 20 = .ok (.irem, 1) := by decide +kernel
theorem dX0_fill_21 : decode cX0_fill 21 = .ok (.invokevirtual 28, 3) := by decide +kernel
theorem dX0_fill_24 : decode cX0_fill 24 = .ok (.aload_n 0, 1) := by decide +kernel
theorem dX0_fill_25 : decode cX0_fill 25 = .ok (.aload_n 1, 1) := by decide +kernel
theorem dX0_fill_26 : decode cX0_fill 26 = .ok (.iconst 1, 1) := by decide +kernel
theorem dX0_fill_27 : decode cX0_fill 27 = .ok (.iload_n 2, 1) := by decide +kernel
theorem dX0_fill_28 : decode cX0_fill 28 = .ok (.iconst 2, 1) := by decide +kernel
theorem dX0_fill_29 : decode cX0_fill 29 = .ok (.irem, 1) := by decide +kernel
theorem dX0_fill_30 : decode cX0_fill 30 = .ok (.isub, 1) := by decide +kernel
theorem dX0_fill_31 : decode cX0_fill 31 = .ok (.invokevirtual 28, 3) := by decide +kernel
theorem dX0_fill_34 : decode cX0_fill 34 = .ok (.iconst 2, 1) := by decide +kernel
theorem dX0_fill_35 : decode cX0_fill 35 = .ok (.istore_n 3, 1) := by decide +kernel
theorem dX0_fill_36 : decode cX0_fill 36 = .ok (.iload_n 3, 1) := by decide +kernel
theorem dX0_fill_37 : decode cX0_fill 37 = .ok (.iconst 5, 1) := by decide +kernel
theorem dX0_fill_38 : decode cX0_fill 38 = .ok (.if_icmp .ge 22, 3) := by decide +kernel
theorem dX0_fill_41 : decode cX0_fill 41 = .ok (.aload_n 0, 1) := by decide +kernel
theorem dX0_fill_42 : decode cX0_fill 42 = .ok (.getfield 20, 3) := by decide +kernel
theorem dX0_fill_45 : decode cX0_fill 45 = .ok (.iload_n 3, 1) := by decide +kernel
theorem dX0_fill_46 : decode cX0_fill 46 = .ok (.if_icmp .ne 14, 3) := by decide +kernel
theorem dX0_fill_49 : decode cX0_fill 49 = .ok (.aload_n 0, 1) := by decide +kernel
theorem dX0_fill_50 : decode cX0_fill 50 = .ok (.iload_n 3, 1) := by decide +kernel
theorem dX0_fill_51 : decode cX0_fill 51 = .ok (.invokevirtual 32, 3) := by decide +kernel
theorem dX0_fill_54 : decode cX0_fill 54 = .ok (.iinc 3 1, 3) := by decide +kernel
theorem dX0_fill_57 : decode cX0_fill 57 = .ok (.goto (-21), 3) := by decide +kernel
theorem dX0_fill_60 : decode cX0_fill 60 = .ok (.return_, 1) := by decide +kernel
theorem dX0_addHalf_0 : decode cX0_addHalf 0 = .ok (.aload_n 0, 1) := by decide +kernel
theorem dX0_addHalf_1 : decode cX0_addHalf 1 = .ok (.getfield 11, 3) := by decide +kernel
theorem dX0_addHalf_4 : decode cX0_addHalf 4 = .ok (.aload_n 0, 1) := by decide +kernel
theorem dX0_addHalf_5 : decode cX0_addHalf 5 = .ok (.getfield 20, 3) := by decide +kernel
theorem dX0_addHalf_8 : decode cX0_addHalf 8 = .ok (.aaload, 1) := by decide +kernel
theorem dX0_addHalf_9 : decode cX0_addHalf 9 = .ok (.astore_n 3, 1) := by decide +kernel
theorem dX0_addHalf_10 : decode cX0_addHalf 10 = .ok (.iconst 0, 1) := by decide +kernel
theorem dX0_addHalf_11 : decode cX0_addHalf 11 = .ok (.istore 4, 2) := by decide +kernel
theorem dX0_addHalf_13 : decode cX0_addHalf 13 = .ok (.iload 4, 2) := by decide +kernel
theorem dX0_addHalf_15 : decode cX0_addHalf 15 = .ok (.iconst 5, 1) := by decide +kernel
theorem dX0_addHalf_16 : decode cX0_addHalf 16 = .ok (.if_icmp .ge 29, 3) := by decide +kernel
theorem dX0_addHalf_19 : decode cX0_addHalf 19 = .ok (.aload_n 3, 1) := by decide +kernel
theorem dX0_addHalf_20 : decode cX0_addHalf 20 = .ok (.iload 4, 2) := by decide +kernel
theorem dX0_addHalf_22 : decode cX0_addHalf 22 = .ok (.iload 4, 2) := by decide +kernel
theorem dX0_addHalf_24 : decode cX0_addHalf 24 = .ok (.iconst 2, 1) := by decide +kernel
theorem dX0_addHalf_25 : decode cX0_addHalf 25 = .ok (.irem, 1) := by decide +kernel
theorem dX0_addHalf_26 : decode cX0_addHalf 26 = .ok (.iload_n 2, 1) := by decide +kernel
theorem dX0_addHalf_27 : decode cX0_addHalf 27 = .ok (.if_icmp .ne 10, 3) := by decide +kernel
theorem dX0_addHalf_30 : decode cX0_addHalf 30 = .ok (.aload_n 1, 1) := by decide +kernel
theorem dX0_addHalf_31 : decode cX0_addHalf 31 = .ok (.iload 4, 2) := by decide +kernel
theorem dX0_addHalf_33 : decode cX0_addHalf 33 = .ok (.laload, 1) := by decide +kernel
theorem dX0_addHalf_34 : decode cX0_addHalf 34 = .ok (.goto 4, 3) := by decide +kernel
theorem dX0_addHalf_37 : decode cX0_addHalf 37 = .ok (.lconst 0, 1) := by decide +kernel
theorem dX0_addHalf_38 : decode cX0_addHalf 38 = .ok (.lastore, 1) := by decide +kernel
theorem dX0_addHalf_39 : decode cX0_addHalf 39 = .ok (.iinc 4 1, 3) := by decide +kernel
theorem dX0_addHalf_42 : decode cX0_addHalf 42 = .ok (.goto (-29), 3) := by decide +kernel
theorem dX0_addHalf_45 : decode cX0_addHalf 45 = .ok (.aload_n 0, 1) := by decide +kernel
theorem dX0_addHalf_46 : decode cX0_addHalf 46 = .ok (.invokevirtual 36, 3) := by decide +kernel
theorem dX0_addHalf_49 : decode cX0_addHalf 49 = .ok (.return_, 1) := by decide +kernel
theorem dX0_addRemainder_0 : decode cX0_addRemainder 0 = .ok (.aload_n 0, 1) := by decide +kernel
theorem dX0_addRemainder_1 : decode cX0_addRemainder 1 = .ok (.getfield 11, 3) := by decide +kernel
theorem dX0_addRemainder_4 : decode cX0_addRemainder 4 = .ok (.iload_n 1, 1) := by decide +kernel
theorem dX0_addRemainder_5 : decode cX0_addRemainder 5 = .ok (.aaload, 1) := by decide +kernel
theorem dX0_addRemainder_6 : decode cX0_addRemainder 6 = .ok (.astore_n 2, 1) := by decide +kernel
theorem dX0_addRemainder_7 : decode cX0_addRemainder 7 = .ok (.aload_n 0, 1) := by decide +kernel
theorem dX0_addRemainder_8 : decode cX0_addRemainder 8 = .ok (.getfield 11, 3) := by decide +kernel
theorem dX0_addRemainder_11 : decode cX0_addRemainder 11 = .ok (.iload_n 1, 1) := by decide +kernel
theorem dX0_addRemainder_12 : decode cX0_addRemainder 12 = .ok (.iconst 2, 1) := by decide +kernel
theorem dX0_addRemainder_13 : decode cX0_addRemainder 13 = .ok (.isub, 1) := by decide +kernel
theorem dX0_addRemainder_14 : decode cX0_addRemainder 14 = .ok (.aaload, 1) := by decide +kernel
theorem dX0_addRemainder_15 : decode cX0_addRemainder 15 = .ok (.iconst 0, 1) := by decide +kernel
theorem dX0_addRemainder_16 : decode cX0_addRemainder 16 = .ok (.aload_n 2, 1) := by decide +kernel
theorem dX0_addRemainder_17 : decode cX0_addRemainder 17 = .ok (.iconst 0, 1) := by decide +kernel
theorem dX0_addRemainder_18 : decode cX0_addRemainder 18 = .ok (.iconst 5, 1) := by decide +kernel
theorem dX0_addRemainder_19 : decode cX0_addRemainder 19 = .ok (.invokestatic 39, 3) := by decide +kernel
theorem dX0_addRemainder_22 : decode cX0_addRemainder 22 = .ok (.aload_n 0, 1) := by decide +kernel
theorem dX0_addRemainder_23 : decode cX0_addRemainder 23 = .ok (.getfield 16, 3) := by decide +kernel
theorem dX0_addRemainder_26 : decode cX0_addRemainder 26 = .ok (.iload_n 1, 1) := by decide +kernel
theorem dX0_addRemainder_27 : decode cX0_addRemainder 27 = .ok (.iconst 1, 1) := by decide +kernel
theorem dX0_addRemainder_28 : decode cX0_addRemainder 28 = .ok (.isub, 1) := by decide +kernel
theorem dX0_addRemainder_29 : decode cX0_addRemainder 29 = .ok (.iaload, 1) := by decide +kernel
theorem dX0_addRemainder_30 : decode cX0_addRemainder 30 = .ok (.istore_n 3, 1) := by decide +kernel
theorem dX0_addRemainder_31 : decode cX0_addRemainder 31 = .ok (.aload_n 0, 1) := by decide +kernel
theorem dX0_addRemainder_32 : decode cX0_addRemainder 32 = .ok (.getfield 16, 3) := by decide +kernel
theorem dX0_addRemainder_35 : decode cX0_addRemainder 35 = .ok (.iload_n 1, 1) := by decide +kernel
theorem dX0_addRemainder_36 : decode cX0_addRemainder 36 = .ok (.iconst 2, 1) := by decide +kernel
theorem dX0_addRemainder_37 : decode cX0_addRemainder 37 = .ok (.isub, 1) := by decide +kernel
theorem dX0_addRemainder_38 : decode cX0_addRemainder 38 = .ok (.iaload, 1) := by decide +kernel
theorem dX0_addRemainder_39 : decode cX0_addRemainder 39 = .ok (.istore 4, 2) := by decide +kernel
theorem dX0_addRemainder_41 : decode cX0_addRemainder 41 = .ok (.iload 4, 2) := by decide +kernel
theorem dX0_addRemainder_43 : decode cX0_addRemainder 43 = .ok (.iload_n 3, 1) := by decide +kernel
theorem dX0_addRemainder_44 : decode cX0_addRemainder 44 = .ok (.if_icmp .le 28, 3) := by decide +kernel
theorem dX0_addRemainder_47 : decode cX0_addRemainder 47 = .ok (.aload_n 2, 1) := by decide +kernel
theorem dX0_addRemainder_48 : decode cX0_addRemainder 48 = .ok (.iload 4, 2) := by decide +kernel
theorem dX0_addRemainder_50 : decode cX0_addRemainder 50 = .ok (.aload_n 0, 1) := by decide +kernel
theorem dX0_addRemainder_51 : decode cX0_addRemainder 51 = .ok (.getfield 11, 3) := by decide +kernel
theorem dX0_addRemainder_54 : decode cX0_addRemainder 54 = .ok (.iload_n 1, 1) := by decide +kernel
theorem dX0_addRemainder_55 : decode cX0_addRemainder 55 = .ok (.iconst 1, 1) := by decide +kernel
theorem dX0_addRemainder_56 : decode cX0_addRemainder 56 = .ok (.isub, 1) := by decide +kernel
theorem dX0_addRemainder_57 : decode cX0_addRemainder 57 = .ok (.aaload, 1) := by decide +kernel
theorem dX0_addRemainder_58 : decode cX0_addRemainder 58 = .ok (.iload_n 3, 1) := by decide +kernel
theorem dX0_addRemainder_59 : decode cX0_addRemainder 59 = .ok (.invokestatic 45, 3) := by decide +kernel
theorem dX0_addRemainder_62 : decode cX0_addRemainder 62 = .ok (.aload_n 2, 1) := by decide +kernel
theorem dX0_addRemainder_63 : decode cX0_addRemainder 63 = .ok (.invokestatic 49, 3) := by decide +kernel
theorem dX0_addRemainder_66 : decode cX0_addRemainder 66 = .ok (.iinc 4 (-2), 3) := by decide +kernel
theorem dX0_addRemainder_69 : decode cX0_addRemainder 69 = .ok (.goto (-28), 3) := by decide +kernel
theorem dX0_addRemainder_72 : decode cX0_addRemainder 72 = .ok (.aload_n 0, 1) := by decide +kernel
theorem dX0_addRemainder_73 : decode cX0_addRemainder 73 = .ok (.invokevirtual 36, 3) := by decide +kernel
theorem dX0_addRemainder_76 : decode cX0_addRemainder 76 = .ok (.return_, 1) := by decide +kernel
theorem dX0_addUnlessZero_0 : decode cX0_addUnlessZero 0 = .ok (.aload_n 0, 1) := by decide +kernel
theorem dX0_addUnlessZero_1 : decode cX0_addUnlessZero 1 = .ok (.getfield 16, 3) := by decide +kernel
theorem dX0_addUnlessZero_4 : decode cX0_addUnlessZero 4 = .ok (.aload_n 0, 1) := by decide +kernel
theorem dX0_addUnlessZero_5 : decode cX0_addUnlessZero 5 = .ok (.getfield 20, 3) := by decide +kernel
theorem dX0_addUnlessZero_8 : decode cX0_addUnlessZero 8 = .ok (.aload_n 0, 1) := by decide +kernel
theorem dX0_addUnlessZero_9 : decode cX0_addUnlessZero 9 = .ok (.getfield 11, 3) := by decide +kernel
theorem dX0_addUnlessZero_12 : decode cX0_addUnlessZero 12 = .ok (.aload_n 0, 1) := by decide +kernel
theorem dX0_addUnlessZero_13 : decode cX0_addUnlessZero 13 = .ok (.getfield 20, 3) := by decide +kernel
theorem dX0_addUnlessZero_16 : decode cX0_addUnlessZero 16 = .ok (.aaload, 1) := by decide +kernel
theorem dX0_addUnlessZero_17 : decode cX0_addUnlessZero 17 = .ok (.invokestatic 24, 3) := by decide +kernel
theorem dX0_addUnlessZero_20 : decode cX0_addUnlessZero 20 = .ok (.iastore, 1) := by decide +kernel
theorem dX0_addUnlessZero_21 : decode cX0_addUnlessZero 21 = .ok (.aload_n 0, 1) := by decide +kernel
theorem dX0_addUnlessZero_22 : decode cX0_addUnlessZero 22 = .ok (.getfield 16, 3) := by decide +kernel
theorem dX0_addUnlessZero_25 : decode cX0_addUnlessZero 25 = .ok (.aload_n 0, 1) := by decide +kernel
theorem dX0_addUnlessZero_26 : decode cX0_addUnlessZero 26 = .ok (.getfield 20, 3) := by decide +kernel
theorem dX0_addUnlessZero_29 : decode cX0_addUnlessZero 29 = .ok (.iaload, 1) := by decide +kernel
theorem dX0_addUnlessZero_30 : decode cX0_addUnlessZero 30 = .ok (.iconst (-1), 1) := by decide +kernel
theorem dX0_addUnlessZero_31 : decode cX0_addUnlessZero 31 = .ok (.if_icmp .eq 13, 3) := by decide +kernel
theorem dX0_addUnlessZero_34 : decode cX0_addUnlessZero 34 = .ok (.aload_n 0, 1) := by decide +kernel
theorem dX0_addUnlessZero_35 : decode cX0_addUnlessZero 35 = .ok (.dup, 1) := by decide +kernel
theorem dX0_addUnlessZero_36 : decode cX0_addUnlessZero 36 = .ok (.getfield 20, 3) := by decide +kernel
theorem dX0_addUnlessZero_39 : decode cX0_addUnlessZero 39 = .ok (.iconst 1, 1) := by decide +kernel
theorem dX0_addUnlessZero_40 : decode cX0_addUnlessZero 40 = .ok (.iadd, 1) := by decide +kernel
theorem dX0_addUnlessZero_41 : decode cX0_addUnlessZero 41 = .ok (.putfield 20, 3) := by decide +kernel
theorem dX0_addUnlessZero_44 : decode cX0_addUnlessZero 44 = .ok (.return_, 1) := by decide +kernel
theorem dX0_strike_0 : decode cX0_strike 0 = .ok (.aload_n 2, 1) := by decide +kernel
theorem dX0_strike_1 : decode cX0_strike 1 = .ok (.iload_n 3, 1) := by decide +kernel
theorem dX0_strike_2 : decode cX0_strike 2 = .ok (.laload, 1) := by decide +kernel
theorem dX0_strike_3 : decode cX0_strike 3 = .ok (.lstore 4, 2) := by decide +kernel
theorem dX0_strike_5 : decode cX0_strike 5 = .ok (.lload 4, 2) := by decide +kernel
theorem dX0_strike_7 : decode cX0_strike 7 = .ok (.lconst 0, 1) := by decide +kernel
theorem dX0_strike_8 : decode cX0_strike 8 = .ok (.lcmp, 1) := by decide +kernel
theorem dX0_strike_9 : decode cX0_strike 9 = .ok (.ifCond .ge 10, 3) := by decide +kernel
theorem dX0_strike_12 : decode cX0_strike 12 = .ok (.aload_n 0, 1) := by decide +kernel
theorem dX0_strike_13 : decode cX0_strike 13 = .ok (.iload_n 1, 1) := by decide +kernel
theorem dX0_strike_14 : decode cX0_strike 14 = .ok (.laload, 1) := by decide +kernel
theorem dX0_strike_15 : decode cX0_strike 15 = .ok (.lneg, 1) := by decide +kernel
theorem dX0_strike_16 : decode cX0_strike 16 = .ok (.goto 6, 3) := by decide +kernel
theorem dX0_strike_19 : decode cX0_strike 19 = .ok (.aload_n 0, 1) := by decide +kernel
theorem dX0_strike_20 : decode cX0_strike 20 = .ok (.iload_n 1, 1) := by decide +kernel
theorem dX0_strike_21 : decode cX0_strike 21 = .ok (.laload, 1) := by decide +kernel
theorem dX0_strike_22 : decode cX0_strike 22 = .ok (.lstore 6, 2) := by decide +kernel
theorem dX0_strike_24 : decode cX0_strike 24 = .ok (.lload 6, 2) := by decide +kernel
theorem dX0_strike_26 : decode cX0_strike 26 = .ok (.lconst 0, 1) := by decide +kernel
theorem dX0_strike_27 : decode cX0_strike 27 = .ok (.lcmp, 1) := by decide +kernel
theorem dX0_strike_28 : decode cX0_strike 28 = .ok (.ifCond .ne 4, 3) := by decide +kernel
theorem dX0_strike_31 : decode cX0_strike 31 = .ok (.return_, 1) := by decide +kernel
theorem dX0_strike_32 : decode cX0_strike 32 = .ok (.iconst 0, 1) := by decide +kernel
theorem dX0_strike_33 : decode cX0_strike 33 = .ok (.istore 8, 2) := by decide +kernel
theorem dX0_strike_35 : decode cX0_strike 35 = .ok (.iload 8, 2) := by decide +kernel
theorem dX0_strike_37 : decode cX0_strike 37 = .ok (.iconst 5, 1) := by decide +kernel
theorem dX0_strike_38 : decode cX0_strike 38 = .ok (.if_icmp .ge 21, 3) := by decide +kernel
theorem dX0_strike_41 : decode cX0_strike 41 = .ok (.aload_n 0, 1) := by decide +kernel
theorem dX0_strike_42 : decode cX0_strike 42 = .ok (.iload 8, 2) := by decide +kernel
theorem dX0_strike_44 : decode cX0_strike 44 = .ok (.dup2, 1) := by decide +kernel
theorem dX0_strike_45 : decode cX0_strike 45 = .ok (.laload, 1) := by decide +kernel
theorem dX0_strike_46 : decode cX0_strike 46 = .ok (.lload 4, 2) := by decide +kernel
theorem dX0_strike_48 : decode cX0_strike 48 = .ok (.invokestatic 53, 3) := by decide +kernel
theorem dX0_strike_51 : decode cX0_strike 51 = .ok (.lmul, 1) := by decide +kernel
theorem dX0_strike_52 : decode cX0_strike 52 = .ok (.lastore, 1) := by decide +kernel
theorem dX0_strike_53 : decode cX0_strike 53 = .ok (.iinc 8 1, 3) := by decide +kernel
theorem dX0_strike_56 : decode cX0_strike 56 = .ok (.goto (-21), 3) := by decide +kernel
theorem dX0_strike_59 : decode cX0_strike 59 = .ok (.iconst 0, 1) := by decide +kernel
theorem dX0_strike_60 : decode cX0_strike 60 = .ok (.istore 8, 2) := by decide +kernel
theorem dX0_strike_62 : decode cX0_strike 62 = .ok (.iload 8, 2) := by decide +kernel
theorem dX0_strike_64 : decode cX0_strike 64 = .ok (.iload_n 3, 1) := by decide +kernel
theorem dX0_strike_65 : decode cX0_strike 65 = .ok (.if_icmp .gt 27, 3) := by decide +kernel
theorem dX0_strike_68 : decode cX0_strike 68 = .ok (.aload_n 0, 1) := by decide +kernel
theorem dX0_strike_69 : decode cX0_strike 69 = .ok (.iload_n 1, 1) := by decide +kernel
theorem dX0_strike_70 : decode cX0_strike 70 = .ok (.iload_n 3, 1) := by decide +kernel
theorem dX0_strike_71 : decode cX0_strike 71 = .ok (.isub, 1) := by decide +kernel
theorem dX0_strike_72 : decode cX0_strike 72 = .ok (.iload 8, 2) := by decide +kernel
theorem dX0_strike_74 : decode cX0_strike 74 = .ok (.iadd, 1) := by decide +kernel
theorem dX0_strike_75 : decode cX0_strike 75 = .ok (.dup2, 1) := by decide +kernel
theorem dX0_strike_76 : decode cX0_strike 76 = .ok (.laload, 1) := by decide +kernel
theorem dX0_strike_77 : decode cX0_strike 77 = .ok (.lload 6, 2) := by decide +kernel
theorem dX0_strike_79 : decode cX0_strike 79 = .ok (.aload_n 2, 1) := by decide +kernel
theorem dX0_strike_80 : decode cX0_strike 80 = .ok (.iload 8, 2) := by decide +kernel
theorem dX0_strike_82 : decode cX0_strike 82 = .ok (.laload, 1) := by decide +kernel
theorem dX0_strike_83 : decode cX0_strike 83 = .ok (.lmul, 1) := by decide +kernel
theorem dX0_strike_84 : decode cX0_strike 84 = .ok (.lsub, 1) := by decide +kernel
theorem dX0_strike_85 : decode cX0_strike 85 = .ok (.lastore, 1) := by decide +kernel
theorem dX0_strike_86 : decode cX0_strike 86 = .ok (.iinc 8 1, 3) := by decide +kernel
theorem dX0_strike_89 : decode cX0_strike 89 = .ok (.goto (-27), 3) := by decide +kernel
theorem dX0_strike_92 : decode cX0_strike 92 = .ok (.return_, 1) := by decide +kernel
theorem dX0_takeLowestTerms_0 : decode cX0_takeLowestTerms 0 = .ok (.lconst 0, 1) := by decide +kernel
theorem dX0_takeLowestTerms_1 : decode cX0_takeLowestTerms 1 = .ok (.lstore_n 1, 1) := by decide +kernel
theorem dX0_takeLowestTerms_2 : decode cX0_takeLowestTerms 2 = .ok (.iconst 0, 1) := by decide +kernel
theorem dX0_takeLowestTerms_3 : decode cX0_takeLowestTerms 3 = .ok (.istore_n 3, 1) := by decide +kernel
theorem dX0_takeLowestTerms_4 : decode cX0_takeLowestTerms 4 = .ok (.iload_n 3, 1) := by decide +kernel
theorem dX0_takeLowestTerms_5 : decode cX0_takeLowestTerms 5 = .ok (.iconst 5, 1) := by decide +kernel
theorem dX0_takeLowestTerms_6 : decode cX0_takeLowestTerms 6 = .ok (.if_icmp .ge 17, 3) := by decide +kernel
theorem dX0_takeLowestTerms_9 : decode cX0_takeLowestTerms 9 = .ok (.aload_n 0, 1) := by decide +kernel
theorem dX0_takeLowestTerms_10 : decode cX0_takeLowestTerms 10 = .ok (.iload_n 3, 1) := by decide +kernel
theorem dX0_takeLowestTerms_11 : decode cX0_takeLowestTerms 11 = .ok (.laload, 1) := by decide +kernel
theorem dX0_takeLowestTerms_12 : decode cX0_takeLowestTerms 12 = .ok (.lload_n 1, 1) := by decide +kernel
theorem dX0_takeLowestTerms_13 : decode cX0_takeLowestTerms 13 = .ok (.invokestatic 59, 3) := by decide +kernel
theorem dX0_takeLowestTerms_16 : decode cX0_takeLowestTerms 16 = .ok (.lstore_n 1, 1) := by decide +kernel
theorem dX0_takeLowestTerms_17 : decode cX0_takeLowestTerms 17 = .ok (.iinc 3 1, 3) := by decide +kernel
theorem dX0_takeLowestTerms_20 : decode cX0_takeLowestTerms 20 = .ok (.goto (-16), 3) := by decide +kernel
theorem dX0_takeLowestTerms_23 : decode cX0_takeLowestTerms 23 = .ok (.lload_n 1, 1) := by decide +kernel
theorem dX0_takeLowestTerms_24 : decode cX0_takeLowestTerms 24 = .ok (.ldc2_w 63, 3) := by decide +kernel
theorem dX0_takeLowestTerms_27 : decode cX0_takeLowestTerms 27 = .ok (.lcmp, 1) := by decide +kernel
theorem dX0_takeLowestTerms_28 : decode cX0_takeLowestTerms 28 = .ok (.ifCond .ge 4, 3) := by decide +kernel
theorem dX0_takeLowestTerms_31 : decode cX0_takeLowestTerms 31 = .ok (.return_, 1) := by decide +kernel
theorem dX0_takeLowestTerms_32 : decode cX0_takeLowestTerms 32 = .ok (.iconst 0, 1) := by decide +kernel
theorem dX0_takeLowestTerms_33 : decode cX0_takeLowestTerms 33 = .ok (.istore_n 3, 1) := by decide +kernel
theorem dX0_takeLowestTerms_34 : decode cX0_takeLowestTerms 34 = .ok (.iload_n 3, 1) := by decide +kernel
theorem dX0_takeLowestTerms_35 : decode cX0_takeLowestTerms 35 = .ok (.iconst 5, 1) := by decide +kernel
theorem dX0_takeLowestTerms_36 : decode cX0_takeLowestTerms 36 = .ok (.if_icmp .ge 16, 3) := by decide +kernel
theorem dX0_takeLowestTerms_39 : decode cX0_takeLowestTerms 39 = .ok (.aload_n 0, 1) := by decide +kernel
theorem dX0_takeLowestTerms_40 : decode cX0_takeLowestTerms 40 = .ok (.iload_n 3, 1) := by decide +kernel
theorem dX0_takeLowestTerms_41 : decode cX0_takeLowestTerms 41 = .ok (.dup2, 1) := by decide +kernel
theorem dX0_takeLowestTerms_42 : decode cX0_takeLowestTerms 42 = .ok (.laload, 1) := by decide +kernel
theorem dX0_takeLowestTerms_43 : decode cX0_takeLowestTerms 43 = .ok (.lload_n 1, 1) := by decide +kernel
theorem dX0_takeLowestTerms_44 : decode cX0_takeLowestTerms 44 = .ok (.ldiv, 1) := by decide +kernel
theorem dX0_takeLowestTerms_45 : decode cX0_takeLowestTerms 45 = .ok (.lastore, 1) := by decide +kernel
theorem dX0_takeLowestTerms_46 : decode cX0_takeLowestTerms 46 = .ok (.iinc 3 1, 3) := by decide +kernel
theorem dX0_takeLowestTerms_49 : decode cX0_takeLowestTerms 49 = .ok (.goto (-15), 3) := by decide +kernel
theorem dX0_takeLowestTerms_52 : decode cX0_takeLowestTerms 52 = .ok (.return_, 1) := by decide +kernel
theorem dX1_init_0 : decode cX1_init 0 = .ok (.aload_n 0, 1) := by decide +kernel
theorem dX1_init_1 : decode cX1_init 1 = .ok (.invokespecial 3, 3) := by decide +kernel
theorem dX1_init_4 : decode cX1_init 4 = .ok (.aload_n 0, 1) := by decide +kernel
theorem dX1_init_5 : decode cX1_init 5 = .ok (.new 9, 3) := by decide +kernel
theorem dX1_init_8 : decode cX1_init 8 = .ok (.dup, 1) := by decide +kernel
theorem dX1_init_9 : decode cX1_init 9 = .ok (.invokespecial 11, 3) := by decide +kernel
theorem dX1_init_12 : decode cX1_init 12 = .ok (.putfield 12, 3) := by decide +kernel
theorem dX1_init_15 : decode cX1_init 15 = .ok (.aload_n 0, 1) := by decide +kernel
theorem dX1_init_16 : decode cX1_init 16 = .ok (.iconst 5, 1) := by decide +kernel
theorem dX1_init_17 : decode cX1_init 17 = .ok (.newarray .long, 2) := by decide +kernel
theorem dX1_init_19 : decode cX1_init 19 = .ok (.putfield 18, 3) := by decide +kernel
theorem dX1_init_22 : decode cX1_init 22 = .ok (.aload_n 0, 1) := by decide +kernel
theorem dX1_init_23 : decode cX1_init 23 = .ok (.iconst 0, 1) := by decide +kernel
theorem dX1_init_24 : decode cX1_init 24 = .ok (.putfield 22, 3) := by decide +kernel
theorem dX1_init_27 : decode cX1_init 27 = .ok (.aload_n 0, 1) := by decide +kernel
theorem dX1_init_28 : decode cX1_init 28 = .ok (.iconst 0, 1) := by decide +kernel
theorem dX1_init_29 : decode cX1_init 29 = .ok (.putfield 26, 3) := by decide +kernel
theorem dX1_init_32 : decode cX1_init 32 = .ok (.aload_n 0, 1) := by decide +kernel
theorem dX1_init_33 : decode cX1_init 33 = .ok (.iconst 0, 1) := by decide +kernel
theorem dX1_init_34 : decode cX1_init 34 = .ok (.putfield 29, 3) := by decide +kernel
theorem dX1_init_37 : decode cX1_init 37 = .ok (.return_, 1) := by decide +kernel
theorem dX1_countRootsOf_0 : decode cX1_countRootsOf 0 = .ok (.iload_n 1, 1) := by decide +kernel
theorem dX1_countRootsOf_1 : decode cX1_countRootsOf 1 = .ok (.ifCond .ne 16, 3) := by decide +kernel
theorem dX1_countRootsOf_4 : decode cX1_countRootsOf 4 = .ok (.aload_n 0, 1) := by decide +kernel
theorem dX1_countRootsOf_5 : decode cX1_countRootsOf 5 = .ok (.getfield 12, 3) := by decide +kernel
theorem dX1_countRootsOf_8 : decode cX1_countRootsOf 8 = .ok (.aload_n 2, 1) := by decide +kernel
theorem dX1_countRootsOf_9 : decode cX1_countRootsOf 9 = .ok (.invokevirtual 32, 3) := by decide +kernel
theorem dX1_countRootsOf_12 : decode cX1_countRootsOf 12 = .ok (.aload_n 0, 1) := by decide +kernel
theorem dX1_countRootsOf_13 : decode cX1_countRootsOf 13 = .ok (.invokevirtual 36, 3) := by decide +kernel
theorem dX1_countRootsOf_16 : decode cX1_countRootsOf 16 = .ok (.return_, 1) := by decide +kernel
theorem dX1_countRootsOf_17 : decode cX1_countRootsOf 17 = .ok (.aload_n 0, 1) := by decide +kernel
theorem dX1_countRootsOf_18 : decode cX1_countRootsOf 18 = .ok (.aload_n 2, 1) := by decide +kernel
theorem dX1_countRootsOf_19 : decode cX1_countRootsOf 19 = .ok (.invokevirtual 39, 3) := by decide +kernel
theorem dX1_countRootsOf_22 : decode cX1_countRootsOf 22 = .ok (.aload_n 0, 1) := by decide +kernel
theorem dX1_countRootsOf_23 : decode cX1_countRootsOf 23 = .ok (.getfield 12, 3) := by decide +kernel
theorem dX1_countRootsOf_26 : decode cX1_countRootsOf 26 = .ok (.aload_n 0, 1) := by decide +kernel
theorem dX1_countRootsOf_27 : decode cX1_countRootsOf 27 = .ok (.getfield 18, 3) := by decide +kernel
theorem dX1_countRootsOf_30 : decode cX1_countRootsOf 30 = .ok (.invokevirtual 32, 3) := by decide +kernel
theorem dX1_countRootsOf_33 : decode cX1_countRootsOf 33 = .ok (.aload_n 0, 1) := by decide +kernel
theorem dX1_countRootsOf_34 : decode cX1_countRootsOf 34 = .ok (.invokevirtual 36, 3) := by decide +kernel
theorem dX1_countRootsOf_37 : decode cX1_countRootsOf 37 = .ok (.aload_n 0, 1) := by decide +kernel
theorem dX1_countRootsOf_38 : decode cX1_countRootsOf 38 = .ok (.dup, 1) := by decide +kernel
theorem dX1_countRootsOf_39 : decode cX1_countRootsOf 39 = .ok (.getfield 26, 3) := by decide +kernel
theorem dX1_countRootsOf_42 : decode cX1_countRootsOf 42 = .ok (.iconst 4, 1) := by decide +kernel
theorem dX1_countRootsOf_43 : decode cX1_countRootsOf 43 = .ok (.aload_n 0, 1) := by decide +kernel
theorem dX1_countRootsOf_44 : decode cX1_countRootsOf 44 = .ok (.getfield 18, 3) := by decide +kernel
theorem dX1_countRootsOf_47 : decode cX1_countRootsOf 47 = .ok (.invokestatic 42, 3) := by decide +kernel
theorem dX1_countRootsOf_50 : decode cX1_countRootsOf 50 = .ok (.isub, 1) := by decide +kernel
theorem dX1_countRootsOf_51 : decode cX1_countRootsOf 51 = .ok (.iadd, 1) := by decide +kernel
theorem dX1_countRootsOf_52 : decode cX1_countRootsOf 52 = .ok (.putfield 26, 3) := by decide +kernel
theorem dX1_countRootsOf_55 : decode cX1_countRootsOf 55 = .ok (.aload_n 0, 1) := by decide +kernel
theorem dX1_countRootsOf_56 : decode cX1_countRootsOf 56 = .ok (.dup, 1) := by decide +kernel
theorem dX1_countRootsOf_57 : decode cX1_countRootsOf 57 = .ok (.getfield 29, 3) := by decide +kernel
theorem dX1_countRootsOf_60 : decode cX1_countRootsOf 60 = .ok (.iconst 4, 1) := by decide +kernel
theorem dX1_countRootsOf_61 : decode cX1_countRootsOf 61 = .ok (.aload_n 2, 1) := by decide +kernel
theorem dX1_countRootsOf_62 : decode cX1_countRootsOf 62 = .ok (.invokestatic 42, 3) := by decide +kernel
theorem dX1_countRootsOf_65 : decode cX1_countRootsOf 65 = .ok (.isub, 1) := by decide +kernel
theorem dX1_countRootsOf_66 : decode cX1_countRootsOf 66 = .ok (.isub, 1) := by decide +kernel
theorem dX1_countRootsOf_67 : decode cX1_countRootsOf 67 = .ok (.putfield 29, 3) := by decide +kernel
theorem dX1_countRootsOf_70 : decode cX1_countRootsOf 70 = .ok (.return_, 1) := by decide +kernel
theorem dX1_isSteady_0 : decode cX1_isSteady 0 = .ok (.iload_n 1, 1) := by decide +kernel
theorem dX1_isSteady_1 : decode cX1_isSteady 1 = .ok (.ifCond .ne 8, 3) := by decide +kernel
theorem dX1_isSteady_4 : decode cX1_isSteady 4 = .ok (.aload_n 2, 1) := by decide +kernel
theorem dX1_isSteady_5 : decode cX1_isSteady 5 = .ok (.invokestatic 46, 3) := by decide +kernel
theorem dX1_isSteady_8 : decode cX1_isSteady 8 = .ok (.ireturn, 1) := by decide +kernel
theorem dX1_isSteady_9 : decode cX1_isSteady 9 = .ok (.aload_n 2, 1) := by decide +kernel
theorem dX1_isSteady_10 : decode cX1_isSteady 10 = .ok (.invokestatic 42, 3) := by decide +kernel
theorem dX1_isSteady_13 : decode cX1_isSteady 13 = .ok (.iconst (-1), 1) := by decide +kernel
theorem dX1_isSteady_14 : decode cX1_isSteady 14 = .ok (.if_icmp .ne 5, 3) := by decide +kernel
theorem dX1_isSteady_17 : decode cX1_isSteady 17 = .ok (.iconst 0, 1) := by decide +kernel
theorem dX1_isSteady_18 : decode cX1_isSteady 18 = .ok (.ireturn, 1) := by decide +kernel
theorem dX1_isSteady_19 : decode cX1_isSteady 19 = .ok (.aload_n 0, 1) := by decide +kernel
theorem dX1_isSteady_20 : decode cX1_isSteady 20 = .ok (.aload_n 2, 1) := by decide +kernel
theorem dX1_isSteady_21 : decode cX1_isSteady 21 = .ok (.invokevirtual 39, 3) := by decide +kernel
theorem dX1_isSteady_24 : decode cX1_isSteady 24 = .ok (.aload_n 0, 1) := by decide +kernel
theorem dX1_isSteady_25 : decode cX1_isSteady 25 = .ok (.getfield 18, 3) := by decide +kernel
theorem dX1_isSteady_28 : decode cX1_isSteady 28 = .ok (.iconst 4, 1) := by decide +kernel
theorem dX1_isSteady_29 : decode cX1_isSteady 29 = .ok (.laload, 1) := by decide +kernel
theorem dX1_isSteady_30 : decode cX1_isSteady 30 = .ok (.lconst 0, 1) := by decide +kernel
theorem dX1_isSteady_31 : decode cX1_isSteady 31 = .ok (.lcmp, 1) := by decide +kernel
theorem dX1_isSteady_32 : decode cX1_isSteady 32 = .ok (.ifCond .eq 17, 3) := by decide +kernel
theorem dX1_isSteady_35 : decode cX1_isSteady 35 = .ok (.aload_n 0, 1) := by decide +kernel
theorem dX1_isSteady_36 : decode cX1_isSteady 36 = .ok (.getfield 18, 3) := by decide +kernel
theorem dX1_isSteady_39 : decode cX1_isSteady 39 = .ok (.invokestatic 46, 3) := by decide +kernel
theorem dX1_isSteady_42 : decode cX1_isSteady 42 = .ok (.ifCond .eq 7, 3) := by decide +kernel
theorem dX1_isSteady_45 : decode cX1_isSteady 45 = .ok (.iconst 1, 1) := by decide +kernel
theorem dX1_isSteady_46 : decode cX1_isSteady 46 = .ok (.goto 4, 3) := by decide +kernel
theorem dX1_isSteady_49 : decode cX1_isSteady 49 = .ok (.iconst 0, 1) := by decide +kernel
theorem dX1_isSteady_50 : decode cX1_isSteady 50 = .ok (.ireturn, 1) := by decide +kernel
theorem dX1_turn_0 : decode cX1_turn 0 = .ok (.iconst 4, 1) := by decide +kernel
theorem dX1_turn_1 : decode cX1_turn 1 = .ok (.aload_n 1, 1) := by decide +kernel
theorem dX1_turn_2 : decode cX1_turn 2 = .ok (.invokestatic 42, 3) := by decide +kernel
theorem dX1_turn_5 : decode cX1_turn 5 = .ok (.isub, 1) := by decide +kernel
theorem dX1_turn_6 : decode cX1_turn 6 = .ok (.istore_n 2, 1) := by decide +kernel
theorem dX1_turn_7 : decode cX1_turn 7 = .ok (.aload_n 1, 1) := by decide +kernel
theorem dX1_turn_8 : decode cX1_turn 8 = .ok (.iconst 0, 1) := by decide +kernel
theorem dX1_turn_9 : decode cX1_turn 9 = .ok (.iload_n 2, 1) := by decide +kernel
theorem dX1_turn_10 : decode cX1_turn 10 = .ok (.invokestatic 50, 3) := by decide +kernel
theorem dX1_turn_13 : decode cX1_turn 13 = .ok (.lstore_n 3, 1) := by decide +kernel
theorem dX1_turn_14 : decode cX1_turn 14 = .ok (.aload_n 1, 1) := by decide +kernel
theorem dX1_turn_15 : decode cX1_turn 15 = .ok (.iconst 1, 1) := by decide +kernel
theorem dX1_turn_16 : decode cX1_turn 16 = .ok (.iload_n 2, 1) := by decide +kernel
theorem dX1_turn_17 : decode cX1_turn 17 = .ok (.invokestatic 50, 3) := by decide +kernel
theorem dX1_turn_20 : decode cX1_turn 20 = .ok (.lstore 5, 2) := by decide +kernel
theorem dX1_turn_22 : decode cX1_turn 22 = .ok (.aload_n 1, 1) := by decide +kernel
theorem dX1_turn_23 : decode cX1_turn 23 = .ok (.iconst 2, 1) := by decide +kernel
theorem dX1_turn_24 : decode cX1_turn 24 = .ok (.iload_n 2, 1) := by decide +kernel
theorem dX1_turn_25 : decode cX1_turn 25 = .ok (.invokestatic 50, 3) := by decide +kernel
theorem dX1_turn_28 : decode cX1_turn 28 = .ok (.lstore 7, 2) := by decide +kernel
theorem dX1_turn_30 : decode cX1_turn 30 = .ok (.aload_n 1, 1) := by decide +kernel
theorem dX1_turn_31 : decode cX1_turn 31 = .ok (.iconst 3, 1) := by decide +kernel
theorem dX1_turn_32 : decode cX1_turn 32 = .ok (.iload_n 2, 1) := by decide +kernel
theorem dX1_turn_33 : decode cX1_turn 33 = .ok (.invokestatic 50, 3) := by decide +kernel
theorem dX1_turn_36 : decode cX1_turn 36 = .ok (.lstore 9, 2) := by decide +kernel
theorem dX1_turn_38 : decode cX1_turn 38 = .ok (.aload_n 1, 1) := by decide +kernel
theorem dX1_turn_39 : decode cX1_turn 39 = .ok (.iconst 4, 1) := by decide +kernel
theorem dX1_turn_40 : decode cX1_turn 40 = .ok (.iload_n 2, 1) := by decide +kernel
theorem dX1_turn_41 : decode cX1_turn 41 = .ok (.invokestatic 50, 3) := by decide +kernel
theorem dX1_turn_44 : decode cX1_turn 44 = .ok (.lstore 11, 2) := by decide +kernel
theorem dX1_turn_46 : decode cX1_turn 46 = .ok (.aload_n 0, 1) := by decide +kernel
theorem dX1_turn_47 : decode cX1_turn 47 = .ok (.getfield 18, 3) := by decide +kernel
theorem dX1_turn_50 : decode cX1_turn 50 = .ok (.iconst 0, 1) := by decide +kernel
theorem dX1_turn_51 : decode cX1_turn 51 = .ok (.lload_n 3, 1) := by decide +kernel
theorem dX1_turn_52 : decode cX1_turn 52 = .ok (.lload 5, 2) := by decide +kernel
theorem dX1_turn_54 : decode cX1_turn 54 = .ok (.ladd, 1) := by decide +kernel
theorem dX1_turn_55 : decode cX1_turn 55 = .ok (.lload 7, 2) := by decide +kernel
theorem dX1_turn_57 : decode cX1_turn 57 = .ok (.ladd, 1) := by decide +kernel
theorem dX1_turn_58 : decode cX1_turn 58 = .ok (.lload 9, 2) := by decide +kernel
theorem dX1_turn_60 : decode cX1_turn 60 = .ok (.ladd, 1) := by decide +kernel
theorem dX1_turn_61 : decode cX1_turn 61 = .ok (.lload 11, 2) := by decide +kernel
theorem dX1_turn_63 : decode cX1_turn 63 = .ok (.ladd, 1) := by decide +kernel
theorem dX1_turn_64 : decode cX1_turn 64 = .ok (.lastore, 1) := by decide +kernel
theorem dX1_turn_65 : decode cX1_turn 65 = .ok (.aload_n 0, 1) := by decide +kernel
theorem dX1_turn_66 : decode cX1_turn 66 = .ok (.getfield 18, 3) := by decide +kernel
theorem dX1_turn_69 : decode cX1_turn 69 = .ok (.iconst 1, 1) := by decide +kernel
theorem dX1_turn_70 : decode cX1_turn 70 = .ok (.ldc2_w 54, 3) := by decide +kernel
theorem dX1_turn_73 : decode cX1_turn 73 = .ok (.lload 11, 2) := by decide +kernel
theorem dX1_turn_75 : decode cX1_turn 75 = .ok (.lload_n 3, 1) := by decide +kernel
theorem dX1_turn_76 : decode cX1_turn 76 = .ok (.lsub, 1) := by decide +kernel
theorem dX1_turn_77 : decode cX1_turn 77 = .ok (.lmul, 1) := by decide +kernel
theorem dX1_turn_78 : decode cX1_turn 78 = .ok (.ldc2_w 56, 3) := by decide +kernel
theorem dX1_turn_81 : decode cX1_turn 81 = .ok (.lload 9, 2) := by decide +kernel
theorem dX1_turn_83 : decode cX1_turn 83 = .ok (.lload 5, 2) := by decide +kernel
theorem dX1_turn_85 : decode cX1_turn 85 = .ok (.lsub, 1) := by decide +kernel
theorem dX1_turn_86 : decode cX1_turn 86 = .ok (.lmul, 1) := by decide +kernel
theorem dX1_turn_87 : decode cX1_turn 87 = .ok (.ladd, 1) := by decide +kernel
theorem dX1_turn_88 : decode cX1_turn 88 = .ok (.lastore, 1) := by decide +kernel
theorem dX1_turn_89 : decode cX1_turn 89 = .ok (.aload_n 0, 1) := by decide +kernel
theorem dX1_turn_90 : decode cX1_turn 90 = .ok (.getfield 18, 3) := by decide +kernel
theorem dX1_turn_93 : decode cX1_turn 93 = .ok (.iconst 2, 1) := by decide +kernel
theorem dX1_turn_94 : decode cX1_turn 94 = .ok (.ldc2_w 58, 3) := by decide +kernel
theorem dX1_turn_97 : decode cX1_turn 97 = .ok (.lload 11, 2) := by decide +kernel
theorem dX1_turn_99 : decode cX1_turn 99 = .ok (.lload_n 3, 1) := by decide +kernel
theorem dX1_turn_100 : decode cX1_turn 100 = .ok (.ladd, 1) := by decide +kernel
theorem dX1_turn_101 : decode cX1_turn 101 = .ok (.lmul, 1) := by decide +kernel
theorem dX1_turn_102 : decode cX1_turn 102 = .ok (.ldc2_w 56, 3) := by decide +kernel
theorem dX1_turn_105 : decode cX1_turn 105 = .ok (.lload 7, 2) := by decide +kernel
theorem dX1_turn_107 : decode cX1_turn 107 = .ok (.lmul, 1) := by decide +kernel
theorem dX1_turn_108 : decode cX1_turn 108 = .ok (.lsub, 1) := by decide +kernel
theorem dX1_turn_109 : decode cX1_turn 109 = .ok (.lastore, 1) := by decide +kernel
theorem dX1_turn_110 : decode cX1_turn 110 = .ok (.aload_n 0, 1) := by decide +kernel
theorem dX1_turn_111 : decode cX1_turn 111 = .ok (.getfield 18, 3) := by decide +kernel
theorem dX1_turn_114 : decode cX1_turn 114 = .ok (.iconst 3, 1) := by decide +kernel
theorem dX1_turn_115 : decode cX1_turn 115 = .ok (.ldc2_w 54, 3) := by decide +kernel
theorem dX1_turn_118 : decode cX1_turn 118 = .ok (.lload 11, 2) := by decide +kernel
theorem dX1_turn_120 : decode cX1_turn 120 = .ok (.lload_n 3, 1) := by decide +kernel
theorem dX1_turn_121 : decode cX1_turn 121 = .ok (.lsub, 1) := by decide +kernel
theorem dX1_turn_122 : decode cX1_turn 122 = .ok (.lmul, 1) := by decide +kernel
theorem dX1_turn_123 : decode cX1_turn 123 = .ok (.ldc2_w 56, 3) := by decide +kernel
theorem dX1_turn_126 : decode cX1_turn 126 = .ok (.lload 9, 2) := by decide +kernel
theorem dX1_turn_128 : decode cX1_turn 128 = .ok (.lload 5, 2) := by decide +kernel
theorem dX1_turn_130 : decode cX1_turn 130 = .ok (.lsub, 1) := by decide +kernel
theorem dX1_turn_131 : decode cX1_turn 131 = .ok (.lmul, 1) := by decide +kernel
theorem dX1_turn_132 : decode cX1_turn 132 = .ok (.lsub, 1) := by decide +kernel
theorem dX1_turn_133 : decode cX1_turn 133 = .ok (.lastore, 1) := by decide +kernel
theorem dX1_turn_134 : decode cX1_turn 134 = .ok (.aload_n 0, 1) := by decide +kernel
theorem dX1_turn_135 : decode cX1_turn 135 = .ok (.getfield 18, 3) := by decide +kernel
theorem dX1_turn_138 : decode cX1_turn 138 = .ok (.iconst 4, 1) := by decide +kernel
theorem dX1_turn_139 : decode cX1_turn 139 = .ok (.lload_n 3, 1) := by decide +kernel
theorem dX1_turn_140 : decode cX1_turn 140 = .ok (.lload 5, 2) := by decide +kernel
theorem dX1_turn_142 : decode cX1_turn 142 = .ok (.lsub, 1) := by decide +kernel
theorem dX1_turn_143 : decode cX1_turn 143 = .ok (.lload 7, 2) := by decide +kernel
theorem dX1_turn_145 : decode cX1_turn 145 = .ok (.ladd, 1) := by decide +kernel
theorem dX1_turn_146 : decode cX1_turn 146 = .ok (.lload 9, 2) := by decide +kernel
theorem dX1_turn_148 : decode cX1_turn 148 = .ok (.lsub, 1) := by decide +kernel
theorem dX1_turn_149 : decode cX1_turn 149 = .ok (.lload 11, 2) := by decide +kernel
theorem dX1_turn_151 : decode cX1_turn 151 = .ok (.ladd, 1) := by decide +kernel
theorem dX1_turn_152 : decode cX1_turn 152 = .ok (.lastore, 1) := by decide +kernel
theorem dX1_turn_153 : decode cX1_turn 153 = .ok (.return_, 1) := by decide +kernel
theorem dX1_partBelow_0 : decode cX1_partBelow 0 = .ok (.iload_n 1, 1) := by decide +kernel
theorem dX1_partBelow_1 : decode cX1_partBelow 1 = .ok (.iload_n 2, 1) := by decide +kernel
theorem dX1_partBelow_2 : decode cX1_partBelow 2 = .ok (.if_icmp .lt 8, 3) := by decide +kernel
theorem dX1_partBelow_5 : decode cX1_partBelow 5 = .ok (.iload_n 1, 1) := by decide +kernel
theorem dX1_partBelow_6 : decode cX1_partBelow 6 = .ok (.iconst 5, 1) := by decide +kernel
theorem dX1_partBelow_7 : decode cX1_partBelow 7 = .ok (.if_icmp .lt 7, 3) := by decide +kernel
theorem dX1_partBelow_10 : decode cX1_partBelow 10 = .ok (.lconst 0, 1) := by decide +kernel
theorem dX1_partBelow_11 : decode cX1_partBelow 11 = .ok (.goto 8, 3) := by decide +kernel
theorem dX1_partBelow_14 : decode cX1_partBelow 14 = .ok (.aload_n 0, 1) := by decide +kernel
theorem dX1_partBelow_15 : decode cX1_partBelow 15 = .ok (.iload_n 1, 1) := by decide +kernel
theorem dX1_partBelow_16 : decode cX1_partBelow 16 = .ok (.iload_n 2, 1) := by decide +kernel
theorem dX1_partBelow_17 : decode cX1_partBelow 17 = .ok (.isub, 1) := by decide +kernel
theorem dX1_partBelow_18 : decode cX1_partBelow 18 = .ok (.laload, 1) := by decide +kernel
theorem dX1_partBelow_19 : decode cX1_partBelow 19 = .ok (.lreturn, 1) := by decide +kernel
theorem dX1_countByChain_0 : decode cX1_countByChain 0 = .ok (.aload_n 0, 1) := by decide +kernel
theorem dX1_countByChain_1 : decode cX1_countByChain 1 = .ok (.iconst 0, 1) := by decide +kernel
theorem dX1_countByChain_2 : decode cX1_countByChain 2 = .ok (.putfield 22, 3) := by decide +kernel
theorem dX1_countByChain_5 : decode cX1_countByChain 5 = .ok (.aload_n 0, 1) := by decide +kernel
theorem dX1_countByChain_6 : decode cX1_countByChain 6 = .ok (.iconst 0, 1) := by decide +kernel
theorem dX1_countByChain_7 : decode cX1_countByChain 7 = .ok (.putfield 26, 3) := by decide +kernel
theorem dX1_countByChain_10 : decode cX1_countByChain 10 = .ok (.aload_n 0, 1) := by decide +kernel
theorem dX1_countByChain_11 : decode cX1_countByChain 11 = .ok (.iconst 0, 1) := by decide +kernel
theorem dX1_countByChain_12 : decode cX1_countByChain 12 = .ok (.putfield 29, 3) := by decide +kernel
theorem dX1_countByChain_15 : decode cX1_countByChain 15 = .ok (.aload_n 0, 1) := by decide +kernel
theorem dX1_countByChain_16 : decode cX1_countByChain 16 = .ok (.getfield 12, 3) := by decide +kernel
theorem dX1_countByChain_19 : decode cX1_countByChain 19 = .ok (.getfield 60, 3) := by decide +kernel
theorem dX1_countByChain_22 : decode cX1_countByChain 22 = .ok (.ifCond .ne 4, 3) := by decide +kernel
theorem dX1_countByChain_25 : decode cX1_countByChain 25 = .ok (.return_, 1) := by decide +kernel
theorem dX1_countByChain_26 : decode cX1_countByChain 26 = .ok (.aload_n 0, 1) := by decide +kernel
theorem dX1_countByChain_27 : decode cX1_countByChain 27 = .ok (.getfield 12, 3) := by decide +kernel
theorem dX1_countByChain_30 : decode cX1_countByChain 30 = .ok (.getfield 63, 3) := by decide +kernel
theorem dX1_countByChain_33 : decode cX1_countByChain 33 = .ok (.aload_n 0, 1) := by decide +kernel
theorem dX1_countByChain_34 : decode cX1_countByChain 34 = .ok (.getfield 12, 3) := by decide +kernel
theorem dX1_countByChain_37 : decode cX1_countByChain 37 = .ok (.getfield 60, 3) := by decide +kernel
theorem dX1_countByChain_40 : decode cX1_countByChain 40 = .ok (.iconst 1, 1) := by decide +kernel
theorem dX1_countByChain_41 : decode cX1_countByChain 41 = .ok (.isub, 1) := by decide +kernel
theorem dX1_countByChain_42 : decode cX1_countByChain 42 = .ok (.iaload, 1) := by decide +kernel
theorem dX1_countByChain_43 : decode cX1_countByChain 43 = .ok (.istore_n 1, 1) := by decide +kernel
theorem dX1_countByChain_44 : decode cX1_countByChain 44 = .ok (.aload_n 0, 1) := by decide +kernel
theorem dX1_countByChain_45 : decode cX1_countByChain 45 = .ok (.getfield 12, 3) := by decide +kernel
theorem dX1_countByChain_48 : decode cX1_countByChain 48 = .ok (.getfield 63, 3) := by decide +kernel
theorem dX1_countByChain_51 : decode cX1_countByChain 51 = .ok (.iconst 0, 1) := by decide +kernel
theorem dX1_countByChain_52 : decode cX1_countByChain 52 = .ok (.iaload, 1) := by decide +kernel
theorem dX1_countByChain_53 : decode cX1_countByChain 53 = .ok (.iload_n 1, 1) := by decide +kernel
theorem dX1_countByChain_54 : decode cX1_countByChain 54 = .ok (.isub, 1) := by decide +kernel
theorem dX1_countByChain_55 : decode cX1_countByChain 55 = .ok (.istore_n 2, 1) := by decide +kernel
theorem dX1_countByChain_56 : decode cX1_countByChain 56 = .ok (.aload_n 0, 1) := by decide +kernel
theorem dX1_countByChain_57 : decode cX1_countByChain 57 = .ok (.invokevirtual 67, 3) := by decide +kernel
theorem dX1_countByChain_60 : decode cX1_countByChain 60 = .ok (.istore_n 3, 1) := by decide +kernel
theorem dX1_countByChain_61 : decode cX1_countByChain 61 = .ok (.aload_n 0, 1) := by decide +kernel
theorem dX1_countByChain_62 : decode cX1_countByChain 62 = .ok (.aload_n 0, 1) := by decide +kernel
theorem dX1_countByChain_63 : decode cX1_countByChain 63 = .ok (.getfield 12, 3) := by decide +kernel
theorem dX1_countByChain_66 : decode cX1_countByChain 66 = .ok (.getfield 71, 3) := by decide +kernel
theorem dX1_countByChain_69 : decode cX1_countByChain 69 = .ok (.aload_n 0, 1) := by decide +kernel
theorem dX1_countByChain_70 : decode cX1_countByChain 70 = .ok (.getfield 12, 3) := by decide +kernel
theorem dX1_countByChain_73 : decode cX1_countByChain 73 = .ok (.getfield 60, 3) := by decide +kernel
theorem dX1_countByChain_76 : decode cX1_countByChain 76 = .ok (.iconst 1, 1) := by decide +kernel
theorem dX1_countByChain_77 : decode cX1_countByChain 77 = .ok (.isub, 1) := by decide +kernel
theorem dX1_countByChain_78 : decode cX1_countByChain 78 = .ok (.aaload, 1) := by decide +kernel
theorem dX1_countByChain_79 : decode cX1_countByChain 79 = .ok (.iload_n 1, 1) := by decide +kernel
theorem dX1_countByChain_80 : decode cX1_countByChain 80 = .ok (.invokestatic 75, 3) := by decide +kernel
theorem dX1_countByChain_83 : decode cX1_countByChain 83 = .ok (.putfield 26, 3) := by decide +kernel
theorem dX1_countByChain_86 : decode cX1_countByChain 86 = .ok (.aload_n 0, 1) := by decide +kernel
theorem dX1_countByChain_87 : decode cX1_countByChain 87 = .ok (.iload_n 2, 1) := by decide +kernel
theorem dX1_countByChain_88 : decode cX1_countByChain 88 = .ok (.iload_n 3, 1) := by decide +kernel
theorem dX1_countByChain_89 : decode cX1_countByChain 89 = .ok (.isub, 1) := by decide +kernel
theorem dX1_countByChain_90 : decode cX1_countByChain 90 = .ok (.iload_n 1, 1) := by decide +kernel
theorem dX1_countByChain_91 : decode cX1_countByChain 91 = .ok (.iadd, 1) := by decide +kernel
theorem dX1_countByChain_92 : decode cX1_countByChain 92 = .ok (.aload_n 0, 1) := by decide +kernel
theorem dX1_countByChain_93 : decode cX1_countByChain 93 = .ok (.getfield 26, 3) := by decide +kernel
theorem dX1_countByChain_96 : decode cX1_countByChain 96 = .ok (.isub, 1) := by decide +kernel
theorem dX1_countByChain_97 : decode cX1_countByChain 97 = .ok (.iconst 2, 1) := by decide +kernel
theorem dX1_countByChain_98 : decode cX1_countByChain 98 = .ok (.idiv, 1) := by decide +kernel
theorem dX1_countByChain_99 : decode cX1_countByChain 99 = .ok (.putfield 22, 3) := by decide +kernel
theorem dX1_countByChain_102 : decode cX1_countByChain 102 = .ok (.aload_n 0, 1) := by decide +kernel
theorem dX1_countByChain_103 : decode cX1_countByChain 103 = .ok (.iload_n 2, 1) := by decide +kernel
theorem dX1_countByChain_104 : decode cX1_countByChain 104 = .ok (.iload_n 3, 1) := by decide +kernel
theorem dX1_countByChain_105 : decode cX1_countByChain 105 = .ok (.iadd, 1) := by decide +kernel
theorem dX1_countByChain_106 : decode cX1_countByChain 106 = .ok (.iload_n 1, 1) := by decide +kernel
theorem dX1_countByChain_107 : decode cX1_countByChain 107 = .ok (.iadd, 1) := by decide +kernel
theorem dX1_countByChain_108 : decode cX1_countByChain 108 = .ok (.aload_n 0, 1) := by decide +kernel
theorem dX1_countByChain_109 : decode cX1_countByChain 109 = .ok (.getfield 26, 3) := by decide +kernel
theorem dX1_countByChain_112 : decode cX1_countByChain 112 = .ok (.isub, 1) := by decide +kernel
theorem dX1_countByChain_113 : decode cX1_countByChain 113 = .ok (.iconst 2, 1) := by decide +kernel
theorem dX1_countByChain_114 : decode cX1_countByChain 114 = .ok (.idiv, 1) := by decide +kernel
theorem dX1_countByChain_115 : decode cX1_countByChain 115 = .ok (.putfield 29, 3) := by decide +kernel
theorem dX1_countByChain_118 : decode cX1_countByChain 118 = .ok (.return_, 1) := by decide +kernel
theorem dX1_signTurns_0 : decode cX1_signTurns 0 = .ok (.iconst 0, 1) := by decide +kernel
theorem dX1_signTurns_1 : decode cX1_signTurns 1 = .ok (.istore_n 1, 1) := by decide +kernel
theorem dX1_signTurns_2 : decode cX1_signTurns 2 = .ok (.aload_n 0, 1) := by decide +kernel
theorem dX1_signTurns_3 : decode cX1_signTurns 3 = .ok (.getfield 12, 3) := by decide +kernel
theorem dX1_signTurns_6 : decode cX1_signTurns 6 = .ok (.getfield 63, 3) := by decide +kernel
theorem dX1_signTurns_9 : decode cX1_signTurns 9 = .ok (.iconst 0, 1) := by decide +kernel
theorem dX1_signTurns_10 : decode cX1_signTurns 10 = .ok (.iaload, 1) := by decide +kernel
theorem dX1_signTurns_11 : decode cX1_signTurns 11 = .ok (.iconst 1, 1) := by decide +kernel
theorem dX1_signTurns_12 : decode cX1_signTurns 12 = .ok (.iadd, 1) := by decide +kernel
theorem dX1_signTurns_13 : decode cX1_signTurns 13 = .ok (.istore_n 2, 1) := by decide +kernel
theorem dX1_signTurns_14 : decode cX1_signTurns 14 = .ok (.iconst 0, 1) := by decide +kernel
theorem dX1_signTurns_15 : decode cX1_signTurns 15 = .ok (.istore_n 3, 1) := by decide +kernel
theorem dX1_signTurns_16 : decode cX1_signTurns 16 = .ok (.aload_n 0, 1) := by decide +kernel
theorem dX1_signTurns_17 : decode cX1_signTurns 17 = .ok (.getfield 12, 3) := by decide +kernel
theorem dX1_signTurns_20 : decode cX1_signTurns 20 = .ok (.getfield 63, 3) := by decide +kernel
theorem dX1_signTurns_23 : decode cX1_signTurns 23 = .ok (.iconst 0, 1) := by decide +kernel
theorem dX1_signTurns_24 : decode cX1_signTurns 24 = .ok (.iaload, 1) := by decide +kernel
theorem dX1_signTurns_25 : decode cX1_signTurns 25 = .ok (.istore 4, 2) := by decide +kernel
theorem dX1_signTurns_27 : decode cX1_signTurns 27 = .ok (.iconst 0, 1) := by decide +kernel
theorem dX1_signTurns_28 : decode cX1_signTurns 28 = .ok (.istore 5, 2) := by decide +kernel
theorem dX1_signTurns_30 : decode cX1_signTurns 30 = .ok (.aload_n 0, 1) := by decide +kernel
theorem dX1_signTurns_31 : decode cX1_signTurns 31 = .ok (.getfield 12, 3) := by decide +kernel
theorem dX1_signTurns_34 : decode cX1_signTurns 34 = .ok (.getfield 71, 3) := by decide +kernel
theorem dX1_signTurns_37 : decode cX1_signTurns 37 = .ok (.iconst 0, 1) := by decide +kernel
theorem dX1_signTurns_38 : decode cX1_signTurns 38 = .ok (.aaload, 1) := by decide +kernel
theorem dX1_signTurns_39 : decode cX1_signTurns 39 = .ok (.iload 4, 2) := by decide +kernel
theorem dX1_signTurns_41 : decode cX1_signTurns 41 = .ok (.laload, 1) := by decide +kernel
theorem dX1_signTurns_42 : decode cX1_signTurns 42 = .ok (.lconst 0, 1) := by decide +kernel
theorem dX1_signTurns_43 : decode cX1_signTurns 43 = .ok (.lcmp, 1) := by decide +kernel
theorem dX1_signTurns_44 : decode cX1_signTurns 44 = .ok (.ifCond .ge 7, 3) := by decide +kernel
theorem dX1_signTurns_47 : decode cX1_signTurns 47 = .ok (.iconst 1, 1) := by decide +kernel
theorem dX1_signTurns_48 : decode cX1_signTurns 48 = .ok (.goto 4, 3) := by decide +kernel
theorem dX1_signTurns_51 : decode cX1_signTurns 51 = .ok (.iconst 0, 1) := by decide +kernel
theorem dX1_signTurns_52 : decode cX1_signTurns 52 = .ok (.istore 6, 2) := by decide +kernel
theorem dX1_signTurns_54 : decode cX1_signTurns 54 = .ok (.iconst 1, 1) := by decide +kernel
theorem dX1_signTurns_55 : decode cX1_signTurns 55 = .ok (.istore 7, 2) := by decide +kernel
theorem dX1_signTurns_57 : decode cX1_signTurns 57 = .ok (.iload 7, 2) := by decide +kernel
theorem dX1_signTurns_59 : decode cX1_signTurns 59 = .ok (.aload_n 0, 1) := by decide +kernel
theorem dX1_signTurns_60 : decode cX1_signTurns 60 = .ok (.getfield 12, 3) := by decide +kernel
theorem dX1_signTurns_63 : decode cX1_signTurns 63 = .ok (.getfield 60, 3) := by decide +kernel
theorem dX1_signTurns_66 : decode cX1_signTurns 66 = .ok (.if_icmp .ge 114, 3) := by decide +kernel
theorem dX1_signTurns_69 : decode cX1_signTurns 69 = .ok (.aload_n 0, 1) := by decide +kernel
theorem dX1_signTurns_70 : decode cX1_signTurns 70 = .ok (.getfield 12, 3) := by decide +kernel
theorem dX1_signTurns_73 : decode cX1_signTurns 73 = .ok (.getfield 63, 3) := by decide +kernel
theorem dX1_signTurns_76 : decode cX1_signTurns 76 = .ok (.iload 7, 2) := by decide +kernel
theorem dX1_signTurns_78 : decode cX1_signTurns 78 = .ok (.iaload, 1) := by decide +kernel
theorem dX1_signTurns_79 : decode cX1_signTurns 79 = .ok (.istore 8, 2) := by decide +kernel
theorem dX1_signTurns_81 : decode cX1_signTurns 81 = .ok (.iload_n 3, 1) := by decide +kernel
theorem dX1_signTurns_82 : decode cX1_signTurns 82 = .ok (.iload_n 2, 1) := by decide +kernel
theorem dX1_signTurns_83 : decode cX1_signTurns 83 = .ok (.iload 8, 2) := by decide +kernel
theorem dX1_signTurns_85 : decode cX1_signTurns 85 = .ok (.isub, 1) := by decide +kernel
theorem dX1_signTurns_86 : decode cX1_signTurns 86 = .ok (.iconst 4, 1) := by decide +kernel
theorem dX1_signTurns_87 : decode cX1_signTurns 87 = .ok (.irem, 1) := by decide +kernel
theorem dX1_signTurns_88 : decode cX1_signTurns 88 = .ok (.ifCond .ne 7, 3) := by decide +kernel
theorem dX1_signTurns_91 : decode cX1_signTurns 91 = .ok (.iconst 1, 1) := by decide +kernel
theorem dX1_signTurns_92 : decode cX1_signTurns 92 = .ok (.goto 4, 3) := by decide +kernel
theorem dX1_signTurns_95 : decode cX1_signTurns 95 = .ok (.iconst 0, 1) := by decide +kernel
theorem dX1_signTurns_96 : decode cX1_signTurns 96 = .ok (.if_icmp .eq 7, 3) := by decide +kernel
theorem dX1_signTurns_99 : decode cX1_signTurns 99 = .ok (.iconst 1, 1) := by decide +kernel
theorem dX1_signTurns_100 : decode cX1_signTurns 100 = .ok (.goto 4, 3) := by decide +kernel
theorem dX1_signTurns_103 : decode cX1_signTurns 103 = .ok (.iconst 0, 1) := by decide +kernel
theorem dX1_signTurns_104 : decode cX1_signTurns 104 = .ok (.istore 9, 2) := by decide +kernel
theorem dX1_signTurns_106 : decode cX1_signTurns 106 = .ok (.iload 9, 2) := by decide +kernel
theorem dX1_signTurns_108 : decode cX1_signTurns 108 = .ok (.aload_n 0, 1) := by decide +kernel
theorem dX1_signTurns_109 : decode cX1_signTurns 109 = .ok (.getfield 12, 3) := by decide +kernel
theorem dX1_signTurns_112 : decode cX1_signTurns 112 = .ok (.getfield 71, 3) := by decide +kernel
theorem dX1_signTurns_115 : decode cX1_signTurns 115 = .ok (.iload 7, 2) := by decide +kernel
theorem dX1_signTurns_117 : decode cX1_signTurns 117 = .ok (.aaload, 1) := by decide +kernel
theorem dX1_signTurns_118 : decode cX1_signTurns 118 = .ok (.iload 8, 2) := by decide +kernel
theorem dX1_signTurns_120 : decode cX1_signTurns 120 = .ok (.laload, 1) := by decide +kernel
theorem dX1_signTurns_121 : decode cX1_signTurns 121 = .ok (.lconst 0, 1) := by decide +kernel
theorem dX1_signTurns_122 : decode cX1_signTurns 122 = .ok (.lcmp, 1) := by decide +kernel
theorem dX1_signTurns_123 : decode cX1_signTurns 123 = .ok (.ifCond .ge 7, 3) := by decide +kernel
theorem dX1_signTurns_126 : decode cX1_signTurns 126 = .ok (.iconst 1, 1) := by decide +kernel
theorem dX1_signTurns_127 : decode cX1_signTurns 127 = .ok (.goto 4, 3) := by decide +kernel
theorem dX1_signTurns_130 : decode cX1_signTurns 130 = .ok (.iconst 0, 1) := by decide +kernel
theorem dX1_signTurns_131 : decode cX1_signTurns 131 = .ok (.if_icmp .eq 7, 3) := by decide +kernel
theorem dX1_signTurns_134 : decode cX1_signTurns 134 = .ok (.iconst 1, 1) := by decide +kernel
theorem dX1_signTurns_135 : decode cX1_signTurns 135 = .ok (.goto 4, 3) := by decide +kernel
theorem dX1_signTurns_138 : decode cX1_signTurns 138 = .ok (.iconst 0, 1) := by decide +kernel
theorem dX1_signTurns_139 : decode cX1_signTurns 139 = .ok (.istore 10, 2) := by decide +kernel
theorem dX1_signTurns_141 : decode cX1_signTurns 141 = .ok (.iload_n 1, 1) := by decide +kernel
theorem dX1_signTurns_142 : decode cX1_signTurns 142 = .ok (.iload 10, 2) := by decide +kernel
theorem dX1_signTurns_144 : decode cX1_signTurns 144 = .ok (.iload 6, 2) := by decide +kernel
theorem dX1_signTurns_146 : decode cX1_signTurns 146 = .ok (.if_icmp .ne 7, 3) := by decide +kernel
theorem dX1_signTurns_149 : decode cX1_signTurns 149 = .ok (.iconst 1, 1) := by decide +kernel
theorem dX1_signTurns_150 : decode cX1_signTurns 150 = .ok (.goto 4, 3) := by decide +kernel
theorem dX1_signTurns_153 : decode cX1_signTurns 153 = .ok (.iconst (-1), 1) := by decide +kernel
theorem dX1_signTurns_154 : decode cX1_signTurns 154 = .ok (.iadd, 1) := by decide +kernel
theorem dX1_signTurns_155 : decode cX1_signTurns 155 = .ok (.istore_n 1, 1) := by decide +kernel
theorem dX1_signTurns_156 : decode cX1_signTurns 156 = .ok (.iload 4, 2) := by decide +kernel
theorem dX1_signTurns_158 : decode cX1_signTurns 158 = .ok (.istore_n 2, 1) := by decide +kernel
theorem dX1_signTurns_159 : decode cX1_signTurns 159 = .ok (.iload 5, 2) := by decide +kernel
theorem dX1_signTurns_161 : decode cX1_signTurns 161 = .ok (.istore_n 3, 1) := by decide +kernel
theorem dX1_signTurns_162 : decode cX1_signTurns 162 = .ok (.iload 8, 2) := by decide +kernel
theorem dX1_signTurns_164 : decode cX1_signTurns 164 = .ok (.istore 4, 2) := by decide +kernel
theorem dX1_signTurns_166 : decode cX1_signTurns 166 = .ok (.iload 9, 2) := by decide +kernel
theorem dX1_signTurns_168 : decode cX1_signTurns 168 = .ok (.istore 5, 2) := by decide +kernel
theorem dX1_signTurns_170 : decode cX1_signTurns 170 = .ok (.iload 10, 2) := by decide +kernel
theorem dX1_signTurns_172 : decode cX1_signTurns 172 = .ok (.istore 6, 2) := by decide +kernel
theorem dX1_signTurns_174 : decode cX1_signTurns 174 = .ok (.iinc 7 1, 3) := by decide +kernel
theorem dX1_signTurns_177 : decode cX1_signTurns 177 = .ok (.goto (-120), 3) := by decide +kernel
theorem dX1_signTurns_180 : decode cX1_signTurns 180 = .ok (.iload_n 1, 1) := by decide +kernel
theorem dX1_signTurns_181 : decode cX1_signTurns 181 = .ok (.ireturn, 1) := by decide +kernel
theorem dX1_rootsOnAxis_0 : decode cX1_rootsOnAxis 0 = .ok (.iconst 0, 1) := by decide +kernel
theorem dX1_rootsOnAxis_1 : decode cX1_rootsOnAxis 1 = .ok (.istore_n 2, 1) := by decide +kernel
theorem dX1_rootsOnAxis_2 : decode cX1_rootsOnAxis 2 = .ok (.iload_n 2, 1) := by decide +kernel
theorem dX1_rootsOnAxis_3 : decode cX1_rootsOnAxis 3 = .ok (.iload_n 1, 1) := by decide +kernel
theorem dX1_rootsOnAxis_4 : decode cX1_rootsOnAxis 4 = .ok (.if_icmp .ge 17, 3) := by decide +kernel
theorem dX1_rootsOnAxis_7 : decode cX1_rootsOnAxis 7 = .ok (.aload_n 0, 1) := by decide +kernel
theorem dX1_rootsOnAxis_8 : decode cX1_rootsOnAxis 8 = .ok (.iload_n 2, 1) := by decide +kernel
theorem dX1_rootsOnAxis_9 : decode cX1_rootsOnAxis 9 = .ok (.laload, 1) := by decide +kernel
theorem dX1_rootsOnAxis_10 : decode cX1_rootsOnAxis 10 = .ok (.lconst 0, 1) := by decide +kernel
theorem dX1_rootsOnAxis_11 : decode cX1_rootsOnAxis 11 = .ok (.lcmp, 1) := by decide +kernel
theorem dX1_rootsOnAxis_12 : decode cX1_rootsOnAxis 12 = .ok (.ifCond .ne 9, 3) := by decide +kernel
theorem dX1_rootsOnAxis_15 : decode cX1_rootsOnAxis 15 = .ok (.iinc 2 1, 3) := by decide +kernel
theorem dX1_rootsOnAxis_18 : decode cX1_rootsOnAxis 18 = .ok (.goto (-16), 3) := by decide +kernel
theorem dX1_rootsOnAxis_21 : decode cX1_rootsOnAxis 21 = .ok (.iload_n 1, 1) := by decide +kernel
theorem dX1_rootsOnAxis_22 : decode cX1_rootsOnAxis 22 = .ok (.iload_n 2, 1) := by decide +kernel
theorem dX1_rootsOnAxis_23 : decode cX1_rootsOnAxis 23 = .ok (.isub, 1) := by decide +kernel
theorem dX1_rootsOnAxis_24 : decode cX1_rootsOnAxis 24 = .ok (.iconst 2, 1) := by decide +kernel
theorem dX1_rootsOnAxis_25 : decode cX1_rootsOnAxis 25 = .ok (.if_icmp .ne 38, 3) := by decide +kernel
theorem dX1_rootsOnAxis_28 : decode cX1_rootsOnAxis 28 = .ok (.aload_n 0, 1) := by decide +kernel
theorem dX1_rootsOnAxis_29 : decode cX1_rootsOnAxis 29 = .ok (.iload_n 1, 1) := by decide +kernel
theorem dX1_rootsOnAxis_30 : decode cX1_rootsOnAxis 30 = .ok (.laload, 1) := by decide +kernel
theorem dX1_rootsOnAxis_31 : decode cX1_rootsOnAxis 31 = .ok (.lconst 0, 1) := by decide +kernel
theorem dX1_rootsOnAxis_32 : decode cX1_rootsOnAxis 32 = .ok (.lcmp, 1) := by decide +kernel
theorem dX1_rootsOnAxis_33 : decode cX1_rootsOnAxis 33 = .ok (.ifCond .ge 7, 3) := by decide +kernel
theorem dX1_rootsOnAxis_36 : decode cX1_rootsOnAxis 36 = .ok (.iconst 1, 1) := by decide +kernel
theorem dX1_rootsOnAxis_37 : decode cX1_rootsOnAxis 37 = .ok (.goto 4, 3) := by decide +kernel
theorem dX1_rootsOnAxis_40 : decode cX1_rootsOnAxis 40 = .ok (.iconst 0, 1) := by decide +kernel
theorem dX1_rootsOnAxis_41 : decode cX1_rootsOnAxis 41 = .ok (.aload_n 0, 1) := by decide +kernel
theorem dX1_rootsOnAxis_42 : decode cX1_rootsOnAxis 42 = .ok (.iload_n 2, 1) := by decide +kernel
theorem dX1_rootsOnAxis_43 : decode cX1_rootsOnAxis 43 = .ok (.laload, 1) := by decide +kernel
theorem dX1_rootsOnAxis_44 : decode cX1_rootsOnAxis 44 = .ok (.lconst 0, 1) := by decide +kernel
theorem dX1_rootsOnAxis_45 : decode cX1_rootsOnAxis 45 = .ok (.lcmp, 1) := by decide +kernel
theorem dX1_rootsOnAxis_46 : decode cX1_rootsOnAxis 46 = .ok (.ifCond .ge 7, 3) := by decide +kernel
theorem dX1_rootsOnAxis_49 : decode cX1_rootsOnAxis 49 = .ok (.iconst 1, 1) := by decide +kernel
theorem dX1_rootsOnAxis_50 : decode cX1_rootsOnAxis 50 = .ok (.goto 4, 3) := by decide +kernel
theorem dX1_rootsOnAxis_53 : decode cX1_rootsOnAxis 53 = .ok (.iconst 0, 1) := by decide +kernel
theorem dX1_rootsOnAxis_54 : decode cX1_rootsOnAxis 54 = .ok (.if_icmp .ne 7, 3) := by decide +kernel
theorem dX1_rootsOnAxis_57 : decode cX1_rootsOnAxis 57 = .ok (.iload_n 1, 1) := by decide +kernel
theorem dX1_rootsOnAxis_58 : decode cX1_rootsOnAxis 58 = .ok (.goto 4, 3) := by decide +kernel
theorem dX1_rootsOnAxis_61 : decode cX1_rootsOnAxis 61 = .ok (.iload_n 2, 1) := by decide +kernel
theorem dX1_rootsOnAxis_62 : decode cX1_rootsOnAxis 62 = .ok (.ireturn, 1) := by decide +kernel
theorem dX1_rootsOnAxis_63 : decode cX1_rootsOnAxis 63 = .ok (.iload_n 1, 1) := by decide +kernel
theorem dX1_rootsOnAxis_64 : decode cX1_rootsOnAxis 64 = .ok (.iload_n 2, 1) := by decide +kernel
theorem dX1_rootsOnAxis_65 : decode cX1_rootsOnAxis 65 = .ok (.isub, 1) := by decide +kernel
theorem dX1_rootsOnAxis_66 : decode cX1_rootsOnAxis 66 = .ok (.iconst 4, 1) := by decide +kernel
theorem dX1_rootsOnAxis_67 : decode cX1_rootsOnAxis 67 = .ok (.if_icmp .ne 16, 3) := by decide +kernel
theorem dX1_rootsOnAxis_70 : decode cX1_rootsOnAxis 70 = .ok (.aload_n 0, 1) := by decide +kernel
theorem dX1_rootsOnAxis_71 : decode cX1_rootsOnAxis 71 = .ok (.iconst 4, 1) := by decide +kernel
theorem dX1_rootsOnAxis_72 : decode cX1_rootsOnAxis 72 = .ok (.laload, 1) := by decide +kernel
theorem dX1_rootsOnAxis_73 : decode cX1_rootsOnAxis 73 = .ok (.aload_n 0, 1) := by decide +kernel
theorem dX1_rootsOnAxis_74 : decode cX1_rootsOnAxis 74 = .ok (.iconst 2, 1) := by decide +kernel
theorem dX1_rootsOnAxis_75 : decode cX1_rootsOnAxis 75 = .ok (.laload, 1) := by decide +kernel
theorem dX1_rootsOnAxis_76 : decode cX1_rootsOnAxis 76 = .ok (.aload_n 0, 1) := by decide +kernel
theorem dX1_rootsOnAxis_77 : decode cX1_rootsOnAxis 77 = .ok (.iconst 0, 1) := by decide +kernel
theorem dX1_rootsOnAxis_78 : decode cX1_rootsOnAxis 78 = .ok (.laload, 1) := by decide +kernel
theorem dX1_rootsOnAxis_79 : decode cX1_rootsOnAxis 79 = .ok (.invokestatic 79, 3) := by decide +kernel
theorem dX1_rootsOnAxis_82 : decode cX1_rootsOnAxis 82 = .ok (.ireturn, 1) := by decide +kernel
theorem dX1_rootsOnAxis_83 : decode cX1_rootsOnAxis 83 = .ok (.iload_n 2, 1) := by decide +kernel
theorem dX1_rootsOnAxis_84 : decode cX1_rootsOnAxis 84 = .ok (.ireturn, 1) := by decide +kernel
theorem dX1_rootsOnAxisOfFour_0 : decode cX1_rootsOnAxisOfFour 0 = .ok (.lload_n 0, 1) := by decide +kernel
theorem dX1_rootsOnAxisOfFour_1 : decode cX1_rootsOnAxisOfFour 1 = .ok (.lconst 0, 1) := by decide +kernel
theorem dX1_rootsOnAxisOfFour_2 : decode cX1_rootsOnAxisOfFour 2 = .ok (.lcmp, 1) := by decide +kernel
theorem dX1_rootsOnAxisOfFour_3 : decode cX1_rootsOnAxisOfFour 3 = .ok (.ifCond .ge 7, 3) := by decide +kernel
theorem dX1_rootsOnAxisOfFour_6 : decode cX1_rootsOnAxisOfFour 6 = .ok (.iconst 1, 1) := by decide +kernel
theorem dX1_rootsOnAxisOfFour_7 : decode cX1_rootsOnAxisOfFour 7 = .ok (.goto 4, 3) := by decide +kernel
theorem dX1_rootsOnAxisOfFour_10 : decode cX1_rootsOnAxisOfFour 10 = .ok (.iconst 0, 1) := by decide +kernel
theorem dX1_rootsOnAxisOfFour_11 : decode cX1_rootsOnAxisOfFour 11 = .ok (.lload 4, 2) := by decide +kernel
end
section
theorem dX1_rootsOnAxisOfFour_13 : decode cX1_rootsOnAxisOfFour 13 = .ok (.lconst 0, 1) := by decide +kernel
theorem dX1_rootsOnAxisOfFour_14 : decode cX1_rootsOnAxisOfFour 14 = .ok (.lcmp, 1) := by decide +kernel
theorem dX1_rootsOnAxisOfFour_15 : decode cX1_rootsOnAxisOfFour 15 = .ok (.ifCond .ge 7, 3) := by decide +kernel
theorem dX1_rootsOnAxisOfFour_18 : decode cX1_rootsOnAxisOfFour 18 = .ok (.iconst 1, 1) := by decide +kernel
theorem dX1_rootsOnAxisOfFour_19 : decode cX1_rootsOnAxisOfFour 19 = .ok (.goto 4, 3) := by decide +kernel
theorem dX1_rootsOnAxisOfFour_22 : decode cX1_rootsOnAxisOfFour 22 = .ok (.iconst 0, 1) := by decide +kernel
theorem dX1_rootsOnAxisOfFour_23 : decode cX1_rootsOnAxisOfFour 23 = .ok (.if_icmp .eq 5, 3) := by decide +kernel
theorem dX1_rootsOnAxisOfFour_26 : decode cX1_rootsOnAxisOfFour 26 = .ok (.iconst 2, 1) := by decide +kernel
theorem dX1_rootsOnAxisOfFour_27 : decode cX1_rootsOnAxisOfFour 27 = .ok (.ireturn, 1) := by decide +kernel
theorem dX1_rootsOnAxisOfFour_28 : decode cX1_rootsOnAxisOfFour 28 = .ok (.lload_n 2, 1) := by decide +kernel
theorem dX1_rootsOnAxisOfFour_29 : decode cX1_rootsOnAxisOfFour 29 = .ok (.lload_n 2, 1) := by decide +kernel
theorem dX1_rootsOnAxisOfFour_30 : decode cX1_rootsOnAxisOfFour 30 = .ok (.lmul, 1) := by decide +kernel
theorem dX1_rootsOnAxisOfFour_31 : decode cX1_rootsOnAxisOfFour 31 = .ok (.ldc2_w 54, 3) := by decide +kernel
theorem dX1_rootsOnAxisOfFour_34 : decode cX1_rootsOnAxisOfFour 34 = .ok (.lload_n 0, 1) := by decide +kernel
theorem dX1_rootsOnAxisOfFour_35 : decode cX1_rootsOnAxisOfFour 35 = .ok (.lmul, 1) := by decide +kernel
theorem dX1_rootsOnAxisOfFour_36 : decode cX1_rootsOnAxisOfFour 36 = .ok (.lload 4, 2) := by decide +kernel
theorem dX1_rootsOnAxisOfFour_38 : decode cX1_rootsOnAxisOfFour 38 = .ok (.lmul, 1) := by decide +kernel
theorem dX1_rootsOnAxisOfFour_39 : decode cX1_rootsOnAxisOfFour 39 = .ok (.lcmp, 1) := by decide +kernel
theorem dX1_rootsOnAxisOfFour_40 : decode cX1_rootsOnAxisOfFour 40 = .ok (.ifCond .lt 7, 3) := by decide +kernel
theorem dX1_rootsOnAxisOfFour_43 : decode cX1_rootsOnAxisOfFour 43 = .ok (.iconst 1, 1) := by decide +kernel
theorem dX1_rootsOnAxisOfFour_44 : decode cX1_rootsOnAxisOfFour 44 = .ok (.goto 4, 3) := by decide +kernel
theorem dX1_rootsOnAxisOfFour_47 : decode cX1_rootsOnAxisOfFour 47 = .ok (.iconst 0, 1) := by decide +kernel
theorem dX1_rootsOnAxisOfFour_48 : decode cX1_rootsOnAxisOfFour 48 = .ok (.istore 6, 2) := by decide +kernel
theorem dX1_rootsOnAxisOfFour_50 : decode cX1_rootsOnAxisOfFour 50 = .ok (.iload 6, 2) := by decide +kernel
theorem dX1_rootsOnAxisOfFour_52 : decode cX1_rootsOnAxisOfFour 52 = .ok (.ifCond .eq 38, 3) := by decide +kernel
theorem dX1_rootsOnAxisOfFour_55 : decode cX1_rootsOnAxisOfFour 55 = .ok (.lload_n 2, 1) := by decide +kernel
theorem dX1_rootsOnAxisOfFour_56 : decode cX1_rootsOnAxisOfFour 56 = .ok (.lconst 0, 1) := by decide +kernel
theorem dX1_rootsOnAxisOfFour_57 : decode cX1_rootsOnAxisOfFour 57 = .ok (.lcmp, 1) := by decide +kernel
theorem dX1_rootsOnAxisOfFour_58 : decode cX1_rootsOnAxisOfFour 58 = .ok (.ifCond .eq 32, 3) := by decide +kernel
theorem dX1_rootsOnAxisOfFour_61 : decode cX1_rootsOnAxisOfFour 61 = .ok (.lload_n 0, 1) := by decide +kernel
theorem dX1_rootsOnAxisOfFour_62 : decode cX1_rootsOnAxisOfFour 62 = .ok (.lconst 0, 1) := by decide +kernel
theorem dX1_rootsOnAxisOfFour_63 : decode cX1_rootsOnAxisOfFour 63 = .ok (.lcmp, 1) := by decide +kernel
theorem dX1_rootsOnAxisOfFour_64 : decode cX1_rootsOnAxisOfFour 64 = .ok (.ifCond .ge 7, 3) := by decide +kernel
theorem dX1_rootsOnAxisOfFour_67 : decode cX1_rootsOnAxisOfFour 67 = .ok (.iconst 1, 1) := by decide +kernel
theorem dX1_rootsOnAxisOfFour_68 : decode cX1_rootsOnAxisOfFour 68 = .ok (.goto 4, 3) := by decide +kernel
theorem dX1_rootsOnAxisOfFour_71 : decode cX1_rootsOnAxisOfFour 71 = .ok (.iconst 0, 1) := by decide +kernel
theorem dX1_rootsOnAxisOfFour_72 : decode cX1_rootsOnAxisOfFour 72 = .ok (.lload_n 2, 1) := by decide +kernel
theorem dX1_rootsOnAxisOfFour_73 : decode cX1_rootsOnAxisOfFour 73 = .ok (.lconst 0, 1) := by decide +kernel
theorem dX1_rootsOnAxisOfFour_74 : decode cX1_rootsOnAxisOfFour 74 = .ok (.lcmp, 1) := by decide +kernel
theorem dX1_rootsOnAxisOfFour_75 : decode cX1_rootsOnAxisOfFour 75 = .ok (.ifCond .ge 7, 3) := by decide +kernel
theorem dX1_rootsOnAxisOfFour_78 : decode cX1_rootsOnAxisOfFour 78 = .ok (.iconst 1, 1) := by decide +kernel
theorem dX1_rootsOnAxisOfFour_79 : decode cX1_rootsOnAxisOfFour 79 = .ok (.goto 4, 3) := by decide +kernel
theorem dX1_rootsOnAxisOfFour_82 : decode cX1_rootsOnAxisOfFour 82 = .ok (.iconst 0, 1) := by decide +kernel
theorem dX1_rootsOnAxisOfFour_83 : decode cX1_rootsOnAxisOfFour 83 = .ok (.if_icmp .ne 7, 3) := by decide +kernel
theorem dX1_rootsOnAxisOfFour_86 : decode cX1_rootsOnAxisOfFour 86 = .ok (.iconst 4, 1) := by decide +kernel
theorem dX1_rootsOnAxisOfFour_87 : decode cX1_rootsOnAxisOfFour 87 = .ok (.goto 4, 3) := by decide +kernel
theorem dX1_rootsOnAxisOfFour_90 : decode cX1_rootsOnAxisOfFour 90 = .ok (.iconst 0, 1) := by decide +kernel
theorem dX1_rootsOnAxisOfFour_91 : decode cX1_rootsOnAxisOfFour 91 = .ok (.ireturn, 1) := by decide +kernel
theorem dX1_isSteadyByAxis_0 : decode cX1_isSteadyByAxis 0 = .ok (.aload_n 0, 1) := by decide +kernel
theorem dX1_isSteadyByAxis_1 : decode cX1_isSteadyByAxis 1 = .ok (.invokestatic 42, 3) := by decide +kernel
theorem dX1_isSteadyByAxis_4 : decode cX1_isSteadyByAxis 4 = .ok (.istore_n 1, 1) := by decide +kernel
theorem dX1_isSteadyByAxis_5 : decode cX1_isSteadyByAxis 5 = .ok (.iload_n 1, 1) := by decide +kernel
theorem dX1_isSteadyByAxis_6 : decode cX1_isSteadyByAxis 6 = .ok (.iconst (-1), 1) := by decide +kernel
theorem dX1_isSteadyByAxis_7 : decode cX1_isSteadyByAxis 7 = .ok (.if_icmp .ne 5, 3) := by decide +kernel
theorem dX1_isSteadyByAxis_10 : decode cX1_isSteadyByAxis 10 = .ok (.iconst 0, 1) := by decide +kernel
theorem dX1_isSteadyByAxis_11 : decode cX1_isSteadyByAxis 11 = .ok (.ireturn, 1) := by decide +kernel
theorem dX1_isSteadyByAxis_12 : decode cX1_isSteadyByAxis 12 = .ok (.aload_n 0, 1) := by decide +kernel
theorem dX1_isSteadyByAxis_13 : decode cX1_isSteadyByAxis 13 = .ok (.iload_n 1, 1) := by decide +kernel
theorem dX1_isSteadyByAxis_14 : decode cX1_isSteadyByAxis 14 = .ok (.laload, 1) := by decide +kernel
theorem dX1_isSteadyByAxis_15 : decode cX1_isSteadyByAxis 15 = .ok (.lconst 0, 1) := by decide +kernel
theorem dX1_isSteadyByAxis_16 : decode cX1_isSteadyByAxis 16 = .ok (.lcmp, 1) := by decide +kernel
theorem dX1_isSteadyByAxis_17 : decode cX1_isSteadyByAxis 17 = .ok (.ifCond .ge 7, 3) := by decide +kernel
theorem dX1_isSteadyByAxis_20 : decode cX1_isSteadyByAxis 20 = .ok (.iconst 1, 1) := by decide +kernel
theorem dX1_isSteadyByAxis_21 : decode cX1_isSteadyByAxis 21 = .ok (.goto 4, 3) := by decide +kernel
theorem dX1_isSteadyByAxis_24 : decode cX1_isSteadyByAxis 24 = .ok (.iconst 0, 1) := by decide +kernel
theorem dX1_isSteadyByAxis_25 : decode cX1_isSteadyByAxis 25 = .ok (.istore_n 2, 1) := by decide +kernel
theorem dX1_isSteadyByAxis_26 : decode cX1_isSteadyByAxis 26 = .ok (.iconst 0, 1) := by decide +kernel
theorem dX1_isSteadyByAxis_27 : decode cX1_isSteadyByAxis 27 = .ok (.istore_n 3, 1) := by decide +kernel
theorem dX1_isSteadyByAxis_28 : decode cX1_isSteadyByAxis 28 = .ok (.iload_n 3, 1) := by decide +kernel
theorem dX1_isSteadyByAxis_29 : decode cX1_isSteadyByAxis 29 = .ok (.iload_n 1, 1) := by decide +kernel
theorem dX1_isSteadyByAxis_30 : decode cX1_isSteadyByAxis 30 = .ok (.if_icmp .ge 36, 3) := by decide +kernel
theorem dX1_isSteadyByAxis_33 : decode cX1_isSteadyByAxis 33 = .ok (.aload_n 0, 1) := by decide +kernel
theorem dX1_isSteadyByAxis_34 : decode cX1_isSteadyByAxis 34 = .ok (.iload_n 3, 1) := by decide +kernel
theorem dX1_isSteadyByAxis_35 : decode cX1_isSteadyByAxis 35 = .ok (.laload, 1) := by decide +kernel
theorem dX1_isSteadyByAxis_36 : decode cX1_isSteadyByAxis 36 = .ok (.lconst 0, 1) := by decide +kernel
theorem dX1_isSteadyByAxis_37 : decode cX1_isSteadyByAxis 37 = .ok (.lcmp, 1) := by decide +kernel
theorem dX1_isSteadyByAxis_38 : decode cX1_isSteadyByAxis 38 = .ok (.ifCond .eq 20, 3) := by decide +kernel
theorem dX1_isSteadyByAxis_41 : decode cX1_isSteadyByAxis 41 = .ok (.aload_n 0, 1) := by decide +kernel
theorem dX1_isSteadyByAxis_42 : decode cX1_isSteadyByAxis 42 = .ok (.iload_n 3, 1) := by decide +kernel
theorem dX1_isSteadyByAxis_43 : decode cX1_isSteadyByAxis 43 = .ok (.laload, 1) := by decide +kernel
theorem dX1_isSteadyByAxis_44 : decode cX1_isSteadyByAxis 44 = .ok (.lconst 0, 1) := by decide +kernel
theorem dX1_isSteadyByAxis_45 : decode cX1_isSteadyByAxis 45 = .ok (.lcmp, 1) := by decide +kernel
theorem dX1_isSteadyByAxis_46 : decode cX1_isSteadyByAxis 46 = .ok (.ifCond .ge 7, 3) := by decide +kernel
theorem dX1_isSteadyByAxis_49 : decode cX1_isSteadyByAxis 49 = .ok (.iconst 1, 1) := by decide +kernel
theorem dX1_isSteadyByAxis_50 : decode cX1_isSteadyByAxis 50 = .ok (.goto 4, 3) := by decide +kernel
theorem dX1_isSteadyByAxis_53 : decode cX1_isSteadyByAxis 53 = .ok (.iconst 0, 1) := by decide +kernel
theorem dX1_isSteadyByAxis_54 : decode cX1_isSteadyByAxis 54 = .ok (.iload_n 2, 1) := by decide +kernel
theorem dX1_isSteadyByAxis_55 : decode cX1_isSteadyByAxis 55 = .ok (.if_icmp .eq 5, 3) := by decide +kernel
theorem dX1_isSteadyByAxis_58 : decode cX1_isSteadyByAxis 58 = .ok (.iconst 0, 1) := by decide +kernel
theorem dX1_isSteadyByAxis_59 : decode cX1_isSteadyByAxis 59 = .ok (.ireturn, 1) := by decide +kernel
theorem dX1_isSteadyByAxis_60 : decode cX1_isSteadyByAxis 60 = .ok (.iinc 3 1, 3) := by decide +kernel
theorem dX1_isSteadyByAxis_63 : decode cX1_isSteadyByAxis 63 = .ok (.goto (-35), 3) := by decide +kernel
theorem dX1_isSteadyByAxis_66 : decode cX1_isSteadyByAxis 66 = .ok (.iload_n 1, 1) := by decide +kernel
theorem dX1_isSteadyByAxis_67 : decode cX1_isSteadyByAxis 67 = .ok (.iconst 3, 1) := by decide +kernel
theorem dX1_isSteadyByAxis_68 : decode cX1_isSteadyByAxis 68 = .ok (.if_icmp .ge 5, 3) := by decide +kernel
theorem dX1_isSteadyByAxis_71 : decode cX1_isSteadyByAxis 71 = .ok (.iconst 1, 1) := by decide +kernel
theorem dX1_isSteadyByAxis_72 : decode cX1_isSteadyByAxis 72 = .ok (.ireturn, 1) := by decide +kernel
theorem dX1_isSteadyByAxis_73 : decode cX1_isSteadyByAxis 73 = .ok (.aload_n 0, 1) := by decide +kernel
theorem dX1_isSteadyByAxis_74 : decode cX1_isSteadyByAxis 74 = .ok (.iconst 2, 1) := by decide +kernel
theorem dX1_isSteadyByAxis_75 : decode cX1_isSteadyByAxis 75 = .ok (.laload, 1) := by decide +kernel
theorem dX1_isSteadyByAxis_76 : decode cX1_isSteadyByAxis 76 = .ok (.aload_n 0, 1) := by decide +kernel
theorem dX1_isSteadyByAxis_77 : decode cX1_isSteadyByAxis 77 = .ok (.iconst 1, 1) := by decide +kernel
theorem dX1_isSteadyByAxis_78 : decode cX1_isSteadyByAxis 78 = .ok (.laload, 1) := by decide +kernel
theorem dX1_isSteadyByAxis_79 : decode cX1_isSteadyByAxis 79 = .ok (.lmul, 1) := by decide +kernel
theorem dX1_isSteadyByAxis_80 : decode cX1_isSteadyByAxis 80 = .ok (.aload_n 0, 1) := by decide +kernel
theorem dX1_isSteadyByAxis_81 : decode cX1_isSteadyByAxis 81 = .ok (.iconst 3, 1) := by decide +kernel
theorem dX1_isSteadyByAxis_82 : decode cX1_isSteadyByAxis 82 = .ok (.laload, 1) := by decide +kernel
theorem dX1_isSteadyByAxis_83 : decode cX1_isSteadyByAxis 83 = .ok (.aload_n 0, 1) := by decide +kernel
theorem dX1_isSteadyByAxis_84 : decode cX1_isSteadyByAxis 84 = .ok (.iconst 0, 1) := by decide +kernel
theorem dX1_isSteadyByAxis_85 : decode cX1_isSteadyByAxis 85 = .ok (.laload, 1) := by decide +kernel
theorem dX1_isSteadyByAxis_86 : decode cX1_isSteadyByAxis 86 = .ok (.lmul, 1) := by decide +kernel
theorem dX1_isSteadyByAxis_87 : decode cX1_isSteadyByAxis 87 = .ok (.lsub, 1) := by decide +kernel
theorem dX1_isSteadyByAxis_88 : decode cX1_isSteadyByAxis 88 = .ok (.lstore_n 3, 1) := by decide +kernel
theorem dX1_isSteadyByAxis_89 : decode cX1_isSteadyByAxis 89 = .ok (.iload_n 1, 1) := by decide +kernel
theorem dX1_isSteadyByAxis_90 : decode cX1_isSteadyByAxis 90 = .ok (.iconst 3, 1) := by decide +kernel
theorem dX1_isSteadyByAxis_91 : decode cX1_isSteadyByAxis 91 = .ok (.if_icmp .ne 15, 3) := by decide +kernel
theorem dX1_isSteadyByAxis_94 : decode cX1_isSteadyByAxis 94 = .ok (.lload_n 3, 1) := by decide +kernel
theorem dX1_isSteadyByAxis_95 : decode cX1_isSteadyByAxis 95 = .ok (.lconst 0, 1) := by decide +kernel
theorem dX1_isSteadyByAxis_96 : decode cX1_isSteadyByAxis 96 = .ok (.lcmp, 1) := by decide +kernel
theorem dX1_isSteadyByAxis_97 : decode cX1_isSteadyByAxis 97 = .ok (.ifCond .le 7, 3) := by decide +kernel
theorem dX1_isSteadyByAxis_100 : decode cX1_isSteadyByAxis 100 = .ok (.iconst 1, 1) := by decide +kernel
theorem dX1_isSteadyByAxis_101 : decode cX1_isSteadyByAxis 101 = .ok (.goto 4, 3) := by decide +kernel
theorem dX1_isSteadyByAxis_104 : decode cX1_isSteadyByAxis 104 = .ok (.iconst 0, 1) := by decide +kernel
theorem dX1_isSteadyByAxis_105 : decode cX1_isSteadyByAxis 105 = .ok (.ireturn, 1) := by decide +kernel
theorem dX1_isSteadyByAxis_106 : decode cX1_isSteadyByAxis 106 = .ok (.aload_n 0, 1) := by decide +kernel
theorem dX1_isSteadyByAxis_107 : decode cX1_isSteadyByAxis 107 = .ok (.iconst 3, 1) := by decide +kernel
theorem dX1_isSteadyByAxis_108 : decode cX1_isSteadyByAxis 108 = .ok (.laload, 1) := by decide +kernel
theorem dX1_isSteadyByAxis_109 : decode cX1_isSteadyByAxis 109 = .ok (.lload_n 3, 1) := by decide +kernel
theorem dX1_isSteadyByAxis_110 : decode cX1_isSteadyByAxis 110 = .ok (.lmul, 1) := by decide +kernel
theorem dX1_isSteadyByAxis_111 : decode cX1_isSteadyByAxis 111 = .ok (.aload_n 0, 1) := by decide +kernel
theorem dX1_isSteadyByAxis_112 : decode cX1_isSteadyByAxis 112 = .ok (.iconst 4, 1) := by decide +kernel
theorem dX1_isSteadyByAxis_113 : decode cX1_isSteadyByAxis 113 = .ok (.laload, 1) := by decide +kernel
theorem dX1_isSteadyByAxis_114 : decode cX1_isSteadyByAxis 114 = .ok (.aload_n 0, 1) := by decide +kernel
theorem dX1_isSteadyByAxis_115 : decode cX1_isSteadyByAxis 115 = .ok (.iconst 1, 1) := by decide +kernel
theorem dX1_isSteadyByAxis_116 : decode cX1_isSteadyByAxis 116 = .ok (.laload, 1) := by decide +kernel
theorem dX1_isSteadyByAxis_117 : decode cX1_isSteadyByAxis 117 = .ok (.lmul, 1) := by decide +kernel
theorem dX1_isSteadyByAxis_118 : decode cX1_isSteadyByAxis 118 = .ok (.aload_n 0, 1) := by decide +kernel
theorem dX1_isSteadyByAxis_119 : decode cX1_isSteadyByAxis 119 = .ok (.iconst 1, 1) := by decide +kernel
theorem dX1_isSteadyByAxis_120 : decode cX1_isSteadyByAxis 120 = .ok (.laload, 1) := by decide +kernel
theorem dX1_isSteadyByAxis_121 : decode cX1_isSteadyByAxis 121 = .ok (.lmul, 1) := by decide +kernel
theorem dX1_isSteadyByAxis_122 : decode cX1_isSteadyByAxis 122 = .ok (.lsub, 1) := by decide +kernel
theorem dX1_isSteadyByAxis_123 : decode cX1_isSteadyByAxis 123 = .ok (.lstore 5, 2) := by decide +kernel
theorem dX1_isSteadyByAxis_125 : decode cX1_isSteadyByAxis 125 = .ok (.iload_n 2, 1) := by decide +kernel
theorem dX1_isSteadyByAxis_126 : decode cX1_isSteadyByAxis 126 = .ok (.ifCond .eq 18, 3) := by decide +kernel
theorem dX1_isSteadyByAxis_129 : decode cX1_isSteadyByAxis 129 = .ok (.lload 5, 2) := by decide +kernel
theorem dX1_isSteadyByAxis_131 : decode cX1_isSteadyByAxis 131 = .ok (.lconst 0, 1) := by decide +kernel
theorem dX1_isSteadyByAxis_132 : decode cX1_isSteadyByAxis 132 = .ok (.lcmp, 1) := by decide +kernel
theorem dX1_isSteadyByAxis_133 : decode cX1_isSteadyByAxis 133 = .ok (.ifCond .ge 7, 3) := by decide +kernel
theorem dX1_isSteadyByAxis_136 : decode cX1_isSteadyByAxis 136 = .ok (.iconst 1, 1) := by decide +kernel
theorem dX1_isSteadyByAxis_137 : decode cX1_isSteadyByAxis 137 = .ok (.goto 19, 3) := by decide +kernel
theorem dX1_isSteadyByAxis_140 : decode cX1_isSteadyByAxis 140 = .ok (.iconst 0, 1) := by decide +kernel
theorem dX1_isSteadyByAxis_141 : decode cX1_isSteadyByAxis 141 = .ok (.goto 15, 3) := by decide +kernel
theorem dX1_isSteadyByAxis_144 : decode cX1_isSteadyByAxis 144 = .ok (.lload 5, 2) := by decide +kernel
theorem dX1_isSteadyByAxis_146 : decode cX1_isSteadyByAxis 146 = .ok (.lconst 0, 1) := by decide +kernel
theorem dX1_isSteadyByAxis_147 : decode cX1_isSteadyByAxis 147 = .ok (.lcmp, 1) := by decide +kernel
theorem dX1_isSteadyByAxis_148 : decode cX1_isSteadyByAxis 148 = .ok (.ifCond .le 7, 3) := by decide +kernel
theorem dX1_isSteadyByAxis_151 : decode cX1_isSteadyByAxis 151 = .ok (.iconst 1, 1) := by decide +kernel
theorem dX1_isSteadyByAxis_152 : decode cX1_isSteadyByAxis 152 = .ok (.goto 4, 3) := by decide +kernel
theorem dX1_isSteadyByAxis_155 : decode cX1_isSteadyByAxis 155 = .ok (.iconst 0, 1) := by decide +kernel
theorem dX1_isSteadyByAxis_156 : decode cX1_isSteadyByAxis 156 = .ok (.ireturn, 1) := by decide +kernel
theorem dX2_init_0 : decode cX2_init 0 = .ok (.aload_n 0, 1) := by decide +kernel
theorem dX2_init_1 : decode cX2_init 1 = .ok (.invokespecial 1, 3) := by decide +kernel
theorem dX2_init_4 : decode cX2_init 4 = .ok (.aload_n 0, 1) := by decide +kernel
theorem dX2_init_5 : decode cX2_init 5 = .ok (.bipush 6, 2) := by decide +kernel
theorem dX2_init_7 : decode cX2_init 7 = .ok (.anewarray 9, 3) := by decide +kernel
theorem dX2_init_10 : decode cX2_init 10 = .ok (.putfield 11, 3) := by decide +kernel
theorem dX2_init_13 : decode cX2_init 13 = .ok (.iconst 0, 1) := by decide +kernel
theorem dX2_init_14 : decode cX2_init 14 = .ok (.istore_n 1, 1) := by decide +kernel
theorem dX2_init_15 : decode cX2_init 15 = .ok (.iload_n 1, 1) := by decide +kernel
theorem dX2_init_16 : decode cX2_init 16 = .ok (.bipush 6, 2) := by decide +kernel
theorem dX2_init_18 : decode cX2_init 18 = .ok (.if_icmp .ge 22, 3) := by decide +kernel
theorem dX2_init_21 : decode cX2_init 21 = .ok (.aload_n 0, 1) := by decide +kernel
theorem dX2_init_22 : decode cX2_init 22 = .ok (.getfield 11, 3) := by decide +kernel
theorem dX2_init_25 : decode cX2_init 25 = .ok (.iload_n 1, 1) := by decide +kernel
theorem dX2_init_26 : decode cX2_init 26 = .ok (.new 9, 3) := by decide +kernel
theorem dX2_init_29 : decode cX2_init 29 = .ok (.dup, 1) := by decide +kernel
theorem dX2_init_30 : decode cX2_init 30 = .ok (.invokespecial 15, 3) := by decide +kernel
theorem dX2_init_33 : decode cX2_init 33 = .ok (.aastore, 1) := by decide +kernel
theorem dX2_init_34 : decode cX2_init 34 = .ok (.iinc 1 1, 3) := by decide +kernel
theorem dX2_init_37 : decode cX2_init 37 = .ok (.goto (-22), 3) := by decide +kernel
theorem dX2_init_40 : decode cX2_init 40 = .ok (.aload_n 0, 1) := by decide +kernel
theorem dX2_init_41 : decode cX2_init 41 = .ok (.iconst 0, 1) := by decide +kernel
theorem dX2_init_42 : decode cX2_init 42 = .ok (.putfield 16, 3) := by decide +kernel
theorem dX2_init_45 : decode cX2_init 45 = .ok (.aload_n 0, 1) := by decide +kernel
theorem dX2_init_46 : decode cX2_init 46 = .ok (.iconst 0, 1) := by decide +kernel
theorem dX2_init_47 : decode cX2_init 47 = .ok (.putfield 20, 3) := by decide +kernel
theorem dX2_init_50 : decode cX2_init 50 = .ok (.return_, 1) := by decide +kernel
theorem dX2_keep_0 : decode cX2_keep 0 = .ok (.aload_n 0, 1) := by decide +kernel
theorem dX2_keep_1 : decode cX2_keep 1 = .ok (.aload_n 0, 1) := by decide +kernel
theorem dX2_keep_2 : decode cX2_keep 2 = .ok (.getfield 16, 3) := by decide +kernel
theorem dX2_keep_5 : decode cX2_keep 5 = .ok (.iconst 1, 1) := by decide +kernel
theorem dX2_keep_6 : decode cX2_keep 6 = .ok (.iadd, 1) := by decide +kernel
theorem dX2_keep_7 : decode cX2_keep 7 = .ok (.bipush 6, 2) := by decide +kernel
theorem dX2_keep_9 : decode cX2_keep 9 = .ok (.irem, 1) := by decide +kernel
theorem dX2_keep_10 : decode cX2_keep 10 = .ok (.putfield 16, 3) := by decide +kernel
theorem dX2_keep_13 : decode cX2_keep 13 = .ok (.aload_n 0, 1) := by decide +kernel
theorem dX2_keep_14 : decode cX2_keep 14 = .ok (.getfield 11, 3) := by decide +kernel
theorem dX2_keep_17 : decode cX2_keep 17 = .ok (.aload_n 0, 1) := by decide +kernel
theorem dX2_keep_18 : decode cX2_keep 18 = .ok (.getfield 16, 3) := by decide +kernel
theorem dX2_keep_21 : decode cX2_keep 21 = .ok (.aaload, 1) := by decide +kernel
theorem dX2_keep_22 : decode cX2_keep 22 = .ok (.aload_n 1, 1) := by decide +kernel
theorem dX2_keep_23 : decode cX2_keep 23 = .ok (.invokevirtual 23, 3) := by decide +kernel
theorem dX2_keep_26 : decode cX2_keep 26 = .ok (.aload_n 0, 1) := by decide +kernel
theorem dX2_keep_27 : decode cX2_keep 27 = .ok (.getfield 20, 3) := by decide +kernel
theorem dX2_keep_30 : decode cX2_keep 30 = .ok (.bipush 6, 2) := by decide +kernel
theorem dX2_keep_32 : decode cX2_keep 32 = .ok (.if_icmp .ge 13, 3) := by decide +kernel
theorem dX2_keep_35 : decode cX2_keep 35 = .ok (.aload_n 0, 1) := by decide +kernel
theorem dX2_keep_36 : decode cX2_keep 36 = .ok (.dup, 1) := by decide +kernel
theorem dX2_keep_37 : decode cX2_keep 37 = .ok (.getfield 20, 3) := by decide +kernel
theorem dX2_keep_40 : decode cX2_keep 40 = .ok (.iconst 1, 1) := by decide +kernel
theorem dX2_keep_41 : decode cX2_keep 41 = .ok (.iadd, 1) := by decide +kernel
theorem dX2_keep_42 : decode cX2_keep 42 = .ok (.putfield 20, 3) := by decide +kernel
theorem dX2_keep_45 : decode cX2_keep 45 = .ok (.return_, 1) := by decide +kernel
theorem dX2_giveBack_0 : decode cX2_giveBack 0 = .ok (.aload_n 1, 1) := by decide +kernel
theorem dX2_giveBack_1 : decode cX2_giveBack 1 = .ok (.aload_n 0, 1) := by decide +kernel
theorem dX2_giveBack_2 : decode cX2_giveBack 2 = .ok (.getfield 11, 3) := by decide +kernel
theorem dX2_giveBack_5 : decode cX2_giveBack 5 = .ok (.aload_n 0, 1) := by decide +kernel
theorem dX2_giveBack_6 : decode cX2_giveBack 6 = .ok (.getfield 16, 3) := by decide +kernel
theorem dX2_giveBack_9 : decode cX2_giveBack 9 = .ok (.aaload, 1) := by decide +kernel
theorem dX2_giveBack_10 : decode cX2_giveBack 10 = .ok (.invokevirtual 23, 3) := by decide +kernel
theorem dX2_giveBack_13 : decode cX2_giveBack 13 = .ok (.aload_n 0, 1) := by decide +kernel
theorem dX2_giveBack_14 : decode cX2_giveBack 14 = .ok (.aload_n 0, 1) := by decide +kernel
theorem dX2_giveBack_15 : decode cX2_giveBack 15 = .ok (.getfield 16, 3) := by decide +kernel
theorem dX2_giveBack_18 : decode cX2_giveBack 18 = .ok (.bipush 6, 2) := by decide +kernel
theorem dX2_giveBack_20 : decode cX2_giveBack 20 = .ok (.iadd, 1) := by decide +kernel
theorem dX2_giveBack_21 : decode cX2_giveBack 21 = .ok (.iconst 1, 1) := by decide +kernel
theorem dX2_giveBack_22 : decode cX2_giveBack 22 = .ok (.isub, 1) := by decide +kernel
theorem dX2_giveBack_23 : decode cX2_giveBack 23 = .ok (.bipush 6, 2) := by decide +kernel
theorem dX2_giveBack_25 : decode cX2_giveBack 25 = .ok (.irem, 1) := by decide +kernel
theorem dX2_giveBack_26 : decode cX2_giveBack 26 = .ok (.putfield 16, 3) := by decide +kernel
theorem dX2_giveBack_29 : decode cX2_giveBack 29 = .ok (.aload_n 0, 1) := by decide +kernel
theorem dX2_giveBack_30 : decode cX2_giveBack 30 = .ok (.dup, 1) := by decide +kernel
theorem dX2_giveBack_31 : decode cX2_giveBack 31 = .ok (.getfield 20, 3) := by decide +kernel
theorem dX2_giveBack_34 : decode cX2_giveBack 34 = .ok (.iconst 1, 1) := by decide +kernel
theorem dX2_giveBack_35 : decode cX2_giveBack 35 = .ok (.isub, 1) := by decide +kernel
theorem dX2_giveBack_36 : decode cX2_giveBack 36 = .ok (.putfield 20, 3) := by decide +kernel
theorem dX2_giveBack_39 : decode cX2_giveBack 39 = .ok (.return_, 1) := by decide +kernel
theorem dX2_become_0 : decode cX2_become 0 = .ok (.iconst 0, 1) := by decide +kernel
theorem dX2_become_1 : decode cX2_become 1 = .ok (.istore_n 2, 1) := by decide +kernel
theorem dX2_become_2 : decode cX2_become 2 = .ok (.iload_n 2, 1) := by decide +kernel
theorem dX2_become_3 : decode cX2_become 3 = .ok (.bipush 6, 2) := by decide +kernel
theorem dX2_become_5 : decode cX2_become 5 = .ok (.if_icmp .ge 24, 3) := by decide +kernel
theorem dX2_become_8 : decode cX2_become 8 = .ok (.aload_n 0, 1) := by decide +kernel
theorem dX2_become_9 : decode cX2_become 9 = .ok (.getfield 11, 3) := by decide +kernel
theorem dX2_become_12 : decode cX2_become 12 = .ok (.iload_n 2, 1) := by decide +kernel
theorem dX2_become_13 : decode cX2_become 13 = .ok (.aaload, 1) := by decide +kernel
theorem dX2_become_14 : decode cX2_become 14 = .ok (.aload_n 1, 1) := by decide +kernel
theorem dX2_become_15 : decode cX2_become 15 = .ok (.getfield 11, 3) := by decide +kernel
theorem dX2_become_18 : decode cX2_become 18 = .ok (.iload_n 2, 1) := by decide +kernel
theorem dX2_become_19 : decode cX2_become 19 = .ok (.aaload, 1) := by decide +kernel
theorem dX2_become_20 : decode cX2_become 20 = .ok (.invokevirtual 23, 3) := by decide +kernel
theorem dX2_become_23 : decode cX2_become 23 = .ok (.iinc 2 1, 3) := by decide +kernel
theorem dX2_become_26 : decode cX2_become 26 = .ok (.goto (-24), 3) := by decide +kernel
theorem dX2_become_29 : decode cX2_become 29 = .ok (.aload_n 0, 1) := by decide +kernel
theorem dX2_become_30 : decode cX2_become 30 = .ok (.aload_n 1, 1) := by decide +kernel
theorem dX2_become_31 : decode cX2_become 31 = .ok (.getfield 16, 3) := by decide +kernel
theorem dX2_become_34 : decode cX2_become 34 = .ok (.putfield 16, 3) := by decide +kernel
theorem dX2_become_37 : decode cX2_become 37 = .ok (.aload_n 0, 1) := by decide +kernel
theorem dX2_become_38 : decode cX2_become 38 = .ok (.aload_n 1, 1) := by decide +kernel
theorem dX2_become_39 : decode cX2_become 39 = .ok (.getfield 20, 3) := by decide +kernel
theorem dX2_become_42 : decode cX2_become 42 = .ok (.putfield 20, 3) := by decide +kernel
theorem dX2_become_45 : decode cX2_become 45 = .ok (.return_, 1) := by decide +kernel
theorem dX3_init_0 : decode cX3_init 0 = .ok (.aload_n 0, 1) := by decide +kernel
theorem dX3_init_1 : decode cX3_init 1 = .ok (.invokespecial 3, 3) := by decide +kernel
theorem dX3_init_4 : decode cX3_init 4 = .ok (.aload_n 0, 1) := by decide +kernel
theorem dX3_init_5 : decode cX3_init 5 = .ok (.bipush 10, 2) := by decide +kernel
theorem dX3_init_7 : decode cX3_init 7 = .ok (.newarray .int, 2) := by decide +kernel
theorem dX3_init_9 : decode cX3_init 9 = .ok (.putfield 9, 3) := by decide +kernel
theorem dX3_init_12 : decode cX3_init 12 = .ok (.aload_n 0, 1) := by decide +kernel
theorem dX3_init_13 : decode cX3_init 13 = .ok (.iconst 0, 1) := by decide +kernel
theorem dX3_init_14 : decode cX3_init 14 = .ok (.putfield 15, 3) := by decide +kernel
theorem dX3_init_17 : decode cX3_init 17 = .ok (.aload_n 0, 1) := by decide +kernel
theorem dX3_init_18 : decode cX3_init 18 = .ok (.iconst 1, 1) := by decide +kernel
theorem dX3_init_19 : decode cX3_init 19 = .ok (.putfield 19, 3) := by decide +kernel
theorem dX3_init_22 : decode cX3_init 22 = .ok (.return_, 1) := by decide +kernel
theorem dX3_begin_0 : decode cX3_begin 0 = .ok (.aload_n 0, 1) := by decide +kernel
theorem dX3_begin_1 : decode cX3_begin 1 = .ok (.getfield 9, 3) := by decide +kernel
theorem dX3_begin_4 : decode cX3_begin 4 = .ok (.iconst 0, 1) := by decide +kernel
theorem dX3_begin_5 : decode cX3_begin 5 = .ok (.iconst 1, 1) := by decide +kernel
theorem dX3_begin_6 : decode cX3_begin 6 = .ok (.iastore, 1) := by decide +kernel
theorem dX3_begin_7 : decode cX3_begin 7 = .ok (.aload_n 0, 1) := by decide +kernel
theorem dX3_begin_8 : decode cX3_begin 8 = .ok (.getfield 9, 3) := by decide +kernel
theorem dX3_begin_11 : decode cX3_begin 11 = .ok (.iconst 1, 1) := by decide +kernel
theorem dX3_begin_12 : decode cX3_begin 12 = .ok (.iconst 1, 1) := by decide +kernel
theorem dX3_begin_13 : decode cX3_begin 13 = .ok (.iastore, 1) := by decide +kernel
theorem dX3_begin_14 : decode cX3_begin 14 = .ok (.aload_n 0, 1) := by decide +kernel
theorem dX3_begin_15 : decode cX3_begin 15 = .ok (.getfield 9, 3) := by decide +kernel
theorem dX3_begin_18 : decode cX3_begin 18 = .ok (.iconst 5, 1) := by decide +kernel
theorem dX3_begin_19 : decode cX3_begin 19 = .ok (.iconst 1, 1) := by decide +kernel
theorem dX3_begin_20 : decode cX3_begin 20 = .ok (.iastore, 1) := by decide +kernel
theorem dX3_begin_21 : decode cX3_begin 21 = .ok (.return_, 1) := by decide +kernel
theorem dX3_become_0 : decode cX3_become 0 = .ok (.aload_n 1, 1) := by decide +kernel
theorem dX3_become_1 : decode cX3_become 1 = .ok (.getfield 9, 3) := by decide +kernel
theorem dX3_become_4 : decode cX3_become 4 = .ok (.iconst 0, 1) := by decide +kernel
theorem dX3_become_5 : decode cX3_become 5 = .ok (.aload_n 0, 1) := by decide +kernel
theorem dX3_become_6 : decode cX3_become 6 = .ok (.getfield 9, 3) := by decide +kernel
theorem dX3_become_9 : decode cX3_become 9 = .ok (.iconst 0, 1) := by decide +kernel
theorem dX3_become_10 : decode cX3_become 10 = .ok (.bipush 10, 2) := by decide +kernel
theorem dX3_become_12 : decode cX3_become 12 = .ok (.invokestatic 22, 3) := by decide +kernel
theorem dX3_become_15 : decode cX3_become 15 = .ok (.aload_n 0, 1) := by decide +kernel
theorem dX3_become_16 : decode cX3_become 16 = .ok (.aload_n 1, 1) := by decide +kernel
theorem dX3_become_17 : decode cX3_become 17 = .ok (.getfield 15, 3) := by decide +kernel
theorem dX3_become_20 : decode cX3_become 20 = .ok (.putfield 15, 3) := by decide +kernel
theorem dX3_become_23 : decode cX3_become 23 = .ok (.aload_n 0, 1) := by decide +kernel
theorem dX3_become_24 : decode cX3_become 24 = .ok (.aload_n 1, 1) := by decide +kernel
theorem dX3_become_25 : decode cX3_become 25 = .ok (.getfield 19, 3) := by decide +kernel
theorem dX3_become_28 : decode cX3_become 28 = .ok (.putfield 19, 3) := by decide +kernel
theorem dX3_become_31 : decode cX3_become 31 = .ok (.return_, 1) := by decide +kernel
theorem dX3_degreeTold_0 : decode cX3_degreeTold 0 = .ok (.iconst 4, 1) := by decide +kernel
theorem dX3_degreeTold_1 : decode cX3_degreeTold 1 = .ok (.istore_n 2, 1) := by decide +kernel
theorem dX3_degreeTold_2 : decode cX3_degreeTold 2 = .ok (.iload_n 2, 1) := by decide +kernel
theorem dX3_degreeTold_3 : decode cX3_degreeTold 3 = .ok (.ifCond .lt 24, 3) := by decide +kernel
theorem dX3_degreeTold_6 : decode cX3_degreeTold 6 = .ok (.aload_n 0, 1) := by decide +kernel
theorem dX3_degreeTold_7 : decode cX3_degreeTold 7 = .ok (.getfield 9, 3) := by decide +kernel
theorem dX3_degreeTold_10 : decode cX3_degreeTold 10 = .ok (.iload_n 1, 1) := by decide +kernel
theorem dX3_degreeTold_11 : decode cX3_degreeTold 11 = .ok (.iconst 5, 1) := by decide +kernel
theorem dX3_degreeTold_12 : decode cX3_degreeTold 12 = .ok (.imul, 1) := by decide +kernel
theorem dX3_degreeTold_13 : decode cX3_degreeTold 13 = .ok (.iload_n 2, 1) := by decide +kernel
theorem dX3_degreeTold_14 : decode cX3_degreeTold 14 = .ok (.iadd, 1) := by decide +kernel
theorem dX3_degreeTold_15 : decode cX3_degreeTold 15 = .ok (.iaload, 1) := by decide +kernel
theorem dX3_degreeTold_16 : decode cX3_degreeTold 16 = .ok (.ifCond .eq 5, 3) := by decide +kernel
theorem dX3_degreeTold_19 : decode cX3_degreeTold 19 = .ok (.iload_n 2, 1) := by decide +kernel
theorem dX3_degreeTold_20 : decode cX3_degreeTold 20 = .ok (.ireturn, 1) := by decide +kernel
theorem dX3_degreeTold_21 : decode cX3_degreeTold 21 = .ok (.iinc 2 (-1), 3) := by decide +kernel
theorem dX3_degreeTold_24 : decode cX3_degreeTold 24 = .ok (.goto (-22), 3) := by decide +kernel
theorem dX3_degreeTold_27 : decode cX3_degreeTold 27 = .ok (.iconst (-1), 1) := by decide +kernel
theorem dX3_degreeTold_28 : decode cX3_degreeTold 28 = .ok (.ireturn, 1) := by decide +kernel
theorem dX3_fillLoop_0 : decode cX3_fillLoop 0 = .ok (.iconst 0, 1) := by decide +kernel
theorem dX3_fillLoop_1 : decode cX3_fillLoop 1 = .ok (.istore_n 3, 1) := by decide +kernel
theorem dX3_fillLoop_2 : decode cX3_fillLoop 2 = .ok (.iload_n 3, 1) := by decide +kernel
theorem dX3_fillLoop_3 : decode cX3_fillLoop 3 = .ok (.iconst 5, 1) := by decide +kernel
theorem dX3_fillLoop_4 : decode cX3_fillLoop 4 = .ok (.if_icmp .ge 33, 3) := by decide +kernel
theorem dX3_fillLoop_7 : decode cX3_fillLoop 7 = .ok (.aload_n 1, 1) := by decide +kernel
theorem dX3_fillLoop_8 : decode cX3_fillLoop 8 = .ok (.iload_n 3, 1) := by decide +kernel
theorem dX3_fillLoop_9 : decode cX3_fillLoop 9 = .ok (.bipush 8, 2) := by decide +kernel
theorem dX3_fillLoop_11 : decode cX3_fillLoop 11 = .ok (.aload_n 0, 1) := by decide +kernel
theorem dX3_fillLoop_12 : decode cX3_fillLoop 12 = .ok (.getfield 9, 3) := by decide +kernel
theorem dX3_fillLoop_15 : decode cX3_fillLoop 15 = .ok (.iload_n 3, 1) := by decide +kernel
theorem dX3_fillLoop_16 : decode cX3_fillLoop 16 = .ok (.iaload, 1) := by decide +kernel
theorem dX3_fillLoop_17 : decode cX3_fillLoop 17 = .ok (.imul, 1) := by decide +kernel
theorem dX3_fillLoop_18 : decode cX3_fillLoop 18 = .ok (.iload_n 2, 1) := by decide +kernel
theorem dX3_fillLoop_19 : decode cX3_fillLoop 19 = .ok (.aload_n 0, 1) := by decide +kernel
theorem dX3_fillLoop_20 : decode cX3_fillLoop 20 = .ok (.getfield 9, 3) := by decide +kernel
theorem dX3_fillLoop_23 : decode cX3_fillLoop 23 = .ok (.iconst 5, 1) := by decide +kernel
theorem dX3_fillLoop_24 : decode cX3_fillLoop 24 = .ok (.iload_n 3, 1) := by decide +kernel
theorem dX3_fillLoop_25 : decode cX3_fillLoop 25 = .ok (.iadd, 1) := by decide +kernel
theorem dX3_fillLoop_26 : decode cX3_fillLoop 26 = .ok (.iaload, 1) := by decide +kernel
theorem dX3_fillLoop_27 : decode cX3_fillLoop 27 = .ok (.imul, 1) := by decide +kernel
theorem dX3_fillLoop_28 : decode cX3_fillLoop 28 = .ok (.iadd, 1) := by decide +kernel
theorem dX3_fillLoop_29 : decode cX3_fillLoop 29 = .ok (.i2l, 1) := by decide +kernel
theorem dX3_fillLoop_30 : decode cX3_fillLoop 30 = .ok (.lastore, 1) := by decide +kernel
theorem dX3_fillLoop_31 : decode cX3_fillLoop 31 = .ok (.iinc 3 1, 3) := by decide +kernel
theorem dX3_fillLoop_34 : decode cX3_fillLoop 34 = .ok (.goto (-32), 3) := by decide +kernel
theorem dX3_fillLoop_37 : decode cX3_fillLoop 37 = .ok (.return_, 1) := by decide +kernel
theorem dX3_drawOnce_0 : decode cX3_drawOnce 0 = .ok (.aload_n 0, 1) := by decide +kernel
theorem dX3_drawOnce_1 : decode cX3_drawOnce 1 = .ok (.aload_n 0, 1) := by decide +kernel
theorem dX3_drawOnce_2 : decode cX3_drawOnce 2 = .ok (.getfield 19, 3) := by decide +kernel
theorem dX3_drawOnce_5 : decode cX3_drawOnce 5 = .ok (.ldc 28, 2) := by decide +kernel
theorem dX3_drawOnce_7 : decode cX3_drawOnce 7 = .ok (.imul, 1) := by decide +kernel
theorem dX3_drawOnce_8 : decode cX3_drawOnce 8 = .ok (.sipush 12345, 3) := by decide +kernel
theorem dX3_drawOnce_11 : decode cX3_drawOnce 11 = .ok (.iadd, 1) := by decide +kernel
theorem dX3_drawOnce_12 : decode cX3_drawOnce 12 = .ok (.ldc 31, 2) := by decide +kernel
theorem dX3_drawOnce_14 : decode cX3_drawOnce 14 = .ok (.iand, 1) := by decide +kernel
theorem dX3_drawOnce_15 : decode cX3_drawOnce 15 = .ok (.putfield 19, 3) := by decide +kernel
theorem dX3_drawOnce_18 : decode cX3_drawOnce 18 = .ok (.aload_n 0, 1) := by decide +kernel
theorem dX3_drawOnce_19 : decode cX3_drawOnce 19 = .ok (.getfield 19, 3) := by decide +kernel
theorem dX3_drawOnce_22 : decode cX3_drawOnce 22 = .ok (.ldc 32, 2) := by decide +kernel
theorem dX3_drawOnce_24 : decode cX3_drawOnce 24 = .ok (.idiv, 1) := by decide +kernel
theorem dX3_drawOnce_25 : decode cX3_drawOnce 25 = .ok (.istore_n 1, 1) := by decide +kernel
theorem dX3_drawOnce_26 : decode cX3_drawOnce 26 = .ok (.aload_n 0, 1) := by decide +kernel
theorem dX3_drawOnce_27 : decode cX3_drawOnce 27 = .ok (.getfield 9, 3) := by decide +kernel
theorem dX3_drawOnce_30 : decode cX3_drawOnce 30 = .ok (.iload_n 1, 1) := by decide +kernel
theorem dX3_drawOnce_31 : decode cX3_drawOnce 31 = .ok (.iconst 2, 1) := by decide +kernel
theorem dX3_drawOnce_32 : decode cX3_drawOnce 32 = .ok (.irem, 1) := by decide +kernel
theorem dX3_drawOnce_33 : decode cX3_drawOnce 33 = .ok (.iconst 5, 1) := by decide +kernel
theorem dX3_drawOnce_34 : decode cX3_drawOnce 34 = .ok (.imul, 1) := by decide +kernel
theorem dX3_drawOnce_35 : decode cX3_drawOnce 35 = .ok (.iload_n 1, 1) := by decide +kernel
theorem dX3_drawOnce_36 : decode cX3_drawOnce 36 = .ok (.iconst 2, 1) := by decide +kernel
theorem dX3_drawOnce_37 : decode cX3_drawOnce 37 = .ok (.idiv, 1) := by decide +kernel
theorem dX3_drawOnce_38 : decode cX3_drawOnce 38 = .ok (.iconst 5, 1) := by decide +kernel
theorem dX3_drawOnce_39 : decode cX3_drawOnce 39 = .ok (.irem, 1) := by decide +kernel
theorem dX3_drawOnce_40 : decode cX3_drawOnce 40 = .ok (.iadd, 1) := by decide +kernel
theorem dX3_drawOnce_41 : decode cX3_drawOnce 41 = .ok (.iload_n 1, 1) := by decide +kernel
theorem dX3_drawOnce_42 : decode cX3_drawOnce 42 = .ok (.bipush 16, 2) := by decide +kernel
theorem dX3_drawOnce_44 : decode cX3_drawOnce 44 = .ok (.idiv, 1) := by decide +kernel
theorem dX3_drawOnce_45 : decode cX3_drawOnce 45 = .ok (.bipush 19, 2) := by decide +kernel
theorem dX3_drawOnce_47 : decode cX3_drawOnce 47 = .ok (.irem, 1) := by decide +kernel
theorem dX3_drawOnce_48 : decode cX3_drawOnce 48 = .ok (.bipush 9, 2) := by decide +kernel
theorem dX3_drawOnce_50 : decode cX3_drawOnce 50 = .ok (.isub, 1) := by decide +kernel
theorem dX3_drawOnce_51 : decode cX3_drawOnce 51 = .ok (.iastore, 1) := by decide +kernel
theorem dX3_drawOnce_52 : decode cX3_drawOnce 52 = .ok (.return_, 1) := by decide +kernel
theorem dX4_init_0 : decode cX4_init 0 = .ok (.aload_n 0, 1) := by decide +kernel
theorem dX4_init_1 : decode cX4_init 1 = .ok (.invokespecial 3, 3) := by decide +kernel
theorem dX4_init_4 : decode cX4_init 4 = .ok (.aload_n 0, 1) := by decide +kernel
theorem dX4_init_5 : decode cX4_init 5 = .ok (.iconst 4, 1) := by decide +kernel
theorem dX4_init_6 : decode cX4_init 6 = .ok (.newarray .int, 2) := by decide +kernel
theorem dX4_init_8 : decode cX4_init 8 = .ok (.putfield 9, 3) := by decide +kernel
theorem dX4_init_11 : decode cX4_init 11 = .ok (.aload_n 0, 1) := by decide +kernel
theorem dX4_init_12 : decode cX4_init 12 = .ok (.iconst 4, 1) := by decide +kernel
theorem dX4_init_13 : decode cX4_init 13 = .ok (.newarray .int, 2) := by decide +kernel
theorem dX4_init_15 : decode cX4_init 15 = .ok (.putfield 15, 3) := by decide +kernel
theorem dX4_init_18 : decode cX4_init 18 = .ok (.aload_n 0, 1) := by decide +kernel
theorem dX4_init_19 : decode cX4_init 19 = .ok (.iconst 4, 1) := by decide +kernel
theorem dX4_init_20 : decode cX4_init 20 = .ok (.bipush 24, 2) := by decide +kernel
theorem dX4_init_22 : decode cX4_init 22 = .ok (.multianewarray 18 2, 4) := by decide +kernel
theorem dX4_init_26 : decode cX4_init 26 = .ok (.putfield 20, 3) := by decide +kernel
theorem dX4_init_29 : decode cX4_init 29 = .ok (.iconst 0, 1) := by decide +kernel
theorem dX4_init_30 : decode cX4_init 30 = .ok (.istore_n 1, 1) := by decide +kernel
theorem dX4_init_31 : decode cX4_init 31 = .ok (.iload_n 1, 1) := by decide +kernel
theorem dX4_init_32 : decode cX4_init 32 = .ok (.iconst 4, 1) := by decide +kernel
theorem dX4_init_33 : decode cX4_init 33 = .ok (.if_icmp .ge 16, 3) := by decide +kernel
theorem dX4_init_36 : decode cX4_init 36 = .ok (.aload_n 0, 1) := by decide +kernel
theorem dX4_init_37 : decode cX4_init 37 = .ok (.getfield 9, 3) := by decide +kernel
theorem dX4_init_40 : decode cX4_init 40 = .ok (.iload_n 1, 1) := by decide +kernel
theorem dX4_init_41 : decode cX4_init 41 = .ok (.iconst (-1), 1) := by decide +kernel
theorem dX4_init_42 : decode cX4_init 42 = .ok (.iastore, 1) := by decide +kernel
theorem dX4_init_43 : decode cX4_init 43 = .ok (.iinc 1 1, 3) := by decide +kernel
theorem dX4_init_46 : decode cX4_init 46 = .ok (.goto (-15), 3) := by decide +kernel
theorem dX4_init_49 : decode cX4_init 49 = .ok (.return_, 1) := by decide +kernel
theorem dX4_isMissing_0 : decode cX4_isMissing 0 = .ok (.aload_n 0, 1) := by decide +kernel
theorem dX4_isMissing_1 : decode cX4_isMissing 1 = .ok (.getfield 9, 3) := by decide +kernel
theorem dX4_isMissing_4 : decode cX4_isMissing 4 = .ok (.iload_n 1, 1) := by decide +kernel
theorem dX4_isMissing_5 : decode cX4_isMissing 5 = .ok (.iaload, 1) := by decide +kernel
theorem dX4_isMissing_6 : decode cX4_isMissing 6 = .ok (.iconst (-1), 1) := by decide +kernel
theorem dX4_isMissing_7 : decode cX4_isMissing 7 = .ok (.if_icmp .ne 7, 3) := by decide +kernel
theorem dX4_isMissing_10 : decode cX4_isMissing 10 = .ok (.iconst 1, 1) := by decide +kernel
theorem dX4_isMissing_11 : decode cX4_isMissing 11 = .ok (.goto 4, 3) := by decide +kernel
theorem dX4_isMissing_14 : decode cX4_isMissing 14 = .ok (.iconst 0, 1) := by decide +kernel
theorem dX4_isMissing_15 : decode cX4_isMissing 15 = .ok (.ireturn, 1) := by decide +kernel
theorem dX4_renew_0 : decode cX4_renew 0 = .ok (.aload_n 0, 1) := by decide +kernel
theorem dX4_renew_1 : decode cX4_renew 1 = .ok (.getfield 9, 3) := by decide +kernel
theorem dX4_renew_4 : decode cX4_renew 4 = .ok (.iload_n 1, 1) := by decide +kernel
theorem dX4_renew_5 : decode cX4_renew 5 = .ok (.iload_n 2, 1) := by decide +kernel
theorem dX4_renew_6 : decode cX4_renew 6 = .ok (.iastore, 1) := by decide +kernel
theorem dX4_renew_7 : decode cX4_renew 7 = .ok (.aload_n 0, 1) := by decide +kernel
theorem dX4_renew_8 : decode cX4_renew 8 = .ok (.getfield 15, 3) := by decide +kernel
theorem dX4_renew_11 : decode cX4_renew 11 = .ok (.iload_n 1, 1) := by decide +kernel
theorem dX4_renew_12 : decode cX4_renew 12 = .ok (.iload_n 3, 1) := by decide +kernel
theorem dX4_renew_13 : decode cX4_renew 13 = .ok (.iastore, 1) := by decide +kernel
theorem dX4_renew_14 : decode cX4_renew 14 = .ok (.aload_n 0, 1) := by decide +kernel
theorem dX4_renew_15 : decode cX4_renew 15 = .ok (.getfield 20, 3) := by decide +kernel
theorem dX4_renew_18 : decode cX4_renew 18 = .ok (.iload_n 1, 1) := by decide +kernel
theorem dX4_renew_19 : decode cX4_renew 19 = .ok (.aaload, 1) := by decide +kernel
theorem dX4_renew_20 : decode cX4_renew 20 = .ok (.lconst 0, 1) := by decide +kernel
theorem dX4_renew_21 : decode cX4_renew 21 = .ok (.invokestatic 23, 3) := by decide +kernel
theorem dX4_renew_24 : decode cX4_renew 24 = .ok (.return_, 1) := by decide +kernel
theorem dX4_remove_0 : decode cX4_remove 0 = .ok (.aload_n 0, 1) := by decide +kernel
theorem dX4_remove_1 : decode cX4_remove 1 = .ok (.getfield 9, 3) := by decide +kernel
theorem dX4_remove_4 : decode cX4_remove 4 = .ok (.iload_n 1, 1) := by decide +kernel
theorem dX4_remove_5 : decode cX4_remove 5 = .ok (.iconst (-1), 1) := by decide +kernel
theorem dX4_remove_6 : decode cX4_remove 6 = .ok (.iastore, 1) := by decide +kernel
theorem dX4_remove_7 : decode cX4_remove 7 = .ok (.aload_n 0, 1) := by decide +kernel
theorem dX4_remove_8 : decode cX4_remove 8 = .ok (.getfield 15, 3) := by decide +kernel
theorem dX4_remove_11 : decode cX4_remove 11 = .ok (.iload_n 1, 1) := by decide +kernel
theorem dX4_remove_12 : decode cX4_remove 12 = .ok (.iconst 0, 1) := by decide +kernel
theorem dX4_remove_13 : decode cX4_remove 13 = .ok (.iastore, 1) := by decide +kernel
theorem dX4_remove_14 : decode cX4_remove 14 = .ok (.return_, 1) := by decide +kernel
theorem dX4_refusal_0 : decode cX4_refusal 0 = .ok (.aload_n 0, 1) := by decide +kernel
theorem dX4_refusal_1 : decode cX4_refusal 1 = .ok (.iload_n 1, 1) := by decide +kernel
theorem dX4_refusal_2 : decode cX4_refusal 2 = .ok (.invokevirtual 29, 3) := by decide +kernel
theorem dX4_refusal_5 : decode cX4_refusal 5 = .ok (.ifCond .eq 6, 3) := by decide +kernel
theorem dX4_refusal_8 : decode cX4_refusal 8 = .ok (.bipush (-11), 2) := by decide +kernel
theorem dX4_refusal_10 : decode cX4_refusal 10 = .ok (.ireturn, 1) := by decide +kernel
theorem dX4_refusal_11 : decode cX4_refusal 11 = .ok (.aload_n 0, 1) := by decide +kernel
theorem dX4_refusal_12 : decode cX4_refusal 12 = .ok (.getfield 9, 3) := by decide +kernel
theorem dX4_refusal_15 : decode cX4_refusal 15 = .ok (.iload_n 1, 1) := by decide +kernel
theorem dX4_refusal_16 : decode cX4_refusal 16 = .ok (.iaload, 1) := by decide +kernel
theorem dX4_refusal_17 : decode cX4_refusal 17 = .ok (.iload_n 2, 1) := by decide +kernel
theorem dX4_refusal_18 : decode cX4_refusal 18 = .ok (.if_icmp .eq 6, 3) := by decide +kernel
theorem dX4_refusal_21 : decode cX4_refusal 21 = .ok (.bipush (-12), 2) := by decide +kernel
theorem dX4_refusal_23 : decode cX4_refusal 23 = .ok (.ireturn, 1) := by decide +kernel
theorem dX4_refusal_24 : decode cX4_refusal 24 = .ok (.aload_n 0, 1) := by decide +kernel
theorem dX4_refusal_25 : decode cX4_refusal 25 = .ok (.iload_n 1, 1) := by decide +kernel
theorem dX4_refusal_26 : decode cX4_refusal 26 = .ok (.iload_n 3, 1) := by decide +kernel
theorem dX4_refusal_27 : decode cX4_refusal 27 = .ok (.iload 4, 2) := by decide +kernel
theorem dX4_refusal_29 : decode cX4_refusal 29 = .ok (.invokevirtual 33, 3) := by decide +kernel
theorem dX4_refusal_32 : decode cX4_refusal 32 = .ok (.ifCond .eq 7, 3) := by decide +kernel
theorem dX4_refusal_35 : decode cX4_refusal 35 = .ok (.iconst 0, 1) := by decide +kernel
theorem dX4_refusal_36 : decode cX4_refusal 36 = .ok (.goto 5, 3) := by decide +kernel
theorem dX4_refusal_39 : decode cX4_refusal 39 = .ok (.bipush (-13), 2) := by decide +kernel
theorem dX4_refusal_41 : decode cX4_refusal 41 = .ok (.ireturn, 1) := by decide +kernel
theorem dX4_hasItems_0 : decode cX4_hasItems 0 = .ok (.iload_n 2, 1) := by decide +kernel
theorem dX4_hasItems_1 : decode cX4_hasItems 1 = .ok (.ifCond .lt 23, 3) := by decide +kernel
theorem dX4_hasItems_4 : decode cX4_hasItems 4 = .ok (.iload_n 3, 1) := by decide +kernel
theorem dX4_hasItems_5 : decode cX4_hasItems 5 = .ok (.ifCond .lt 19, 3) := by decide +kernel
theorem dX4_hasItems_8 : decode cX4_hasItems 8 = .ok (.iload_n 2, 1) := by decide +kernel
theorem dX4_hasItems_9 : decode cX4_hasItems 9 = .ok (.aload_n 0, 1) := by decide +kernel
theorem dX4_hasItems_10 : decode cX4_hasItems 10 = .ok (.getfield 15, 3) := by decide +kernel
theorem dX4_hasItems_13 : decode cX4_hasItems 13 = .ok (.iload_n 1, 1) := by decide +kernel
theorem dX4_hasItems_14 : decode cX4_hasItems 14 = .ok (.iaload, 1) := by decide +kernel
theorem dX4_hasItems_15 : decode cX4_hasItems 15 = .ok (.iload_n 3, 1) := by decide +kernel
theorem dX4_hasItems_16 : decode cX4_hasItems 16 = .ok (.isub, 1) := by decide +kernel
theorem dX4_hasItems_17 : decode cX4_hasItems 17 = .ok (.if_icmp .gt 7, 3) := by decide +kernel
theorem dX4_hasItems_20 : decode cX4_hasItems 20 = .ok (.iconst 1, 1) := by decide +kernel
theorem dX4_hasItems_21 : decode cX4_hasItems 21 = .ok (.goto 4, 3) := by decide +kernel
theorem dX4_hasItems_24 : decode cX4_hasItems 24 = .ok (.iconst 0, 1) := by decide +kernel
theorem dX4_hasItems_25 : decode cX4_hasItems 25 = .ok (.ireturn, 1) := by decide +kernel
theorem dX4_holdsParts_0 : decode cX4_holdsParts 0 = .ok (.iload_n 2, 1) := by decide +kernel
theorem dX4_holdsParts_1 : decode cX4_holdsParts 1 = .ok (.istore 4, 2) := by decide +kernel
theorem dX4_holdsParts_3 : decode cX4_holdsParts 3 = .ok (.iload 4, 2) := by decide +kernel
theorem dX4_holdsParts_5 : decode cX4_holdsParts 5 = .ok (.iload_n 2, 1) := by decide +kernel
theorem dX4_holdsParts_6 : decode cX4_holdsParts 6 = .ok (.iload_n 3, 1) := by decide +kernel
theorem dX4_holdsParts_7 : decode cX4_holdsParts 7 = .ok (.iadd, 1) := by decide +kernel
theorem dX4_holdsParts_8 : decode cX4_holdsParts 8 = .ok (.if_icmp .ge 26, 3) := by decide +kernel
theorem dX4_holdsParts_11 : decode cX4_holdsParts 11 = .ok (.aload_n 0, 1) := by decide +kernel
theorem dX4_holdsParts_12 : decode cX4_holdsParts 12 = .ok (.getfield 20, 3) := by decide +kernel
theorem dX4_holdsParts_15 : decode cX4_holdsParts 15 = .ok (.iload_n 1, 1) := by decide +kernel
theorem dX4_holdsParts_16 : decode cX4_holdsParts 16 = .ok (.aaload, 1) := by decide +kernel
theorem dX4_holdsParts_17 : decode cX4_holdsParts 17 = .ok (.iload 4, 2) := by decide +kernel
theorem dX4_holdsParts_19 : decode cX4_holdsParts 19 = .ok (.laload, 1) := by decide +kernel
theorem dX4_holdsParts_20 : decode cX4_holdsParts 20 = .ok (.invokestatic 37, 3) := by decide +kernel
theorem dX4_holdsParts_23 : decode cX4_holdsParts 23 = .ok (.ifCond .ne 5, 3) := by decide +kernel
theorem dX4_holdsParts_26 : decode cX4_holdsParts 26 = .ok (.iconst 0, 1) := by decide +kernel
theorem dX4_holdsParts_27 : decode cX4_holdsParts 27 = .ok (.ireturn, 1) := by decide +kernel
theorem dX4_holdsParts_28 : decode cX4_holdsParts 28 = .ok (.iinc 4 1, 3) := by decide +kernel
theorem dX4_holdsParts_31 : decode cX4_holdsParts 31 = .ok (.goto (-28), 3) := by decide +kernel
theorem dX4_holdsParts_34 : decode cX4_holdsParts 34 = .ok (.iconst 1, 1) := by decide +kernel
theorem dX4_holdsParts_35 : decode cX4_holdsParts 35 = .ok (.ireturn, 1) := by decide +kernel
theorem dX5_init_0 : decode cX5_init 0 = .ok (.aload_n 0, 1) := by decide +kernel
theorem dX5_init_1 : decode cX5_init 1 = .ok (.invokespecial 3, 3) := by decide +kernel
theorem dX5_init_4 : decode cX5_init 4 = .ok (.aload_n 0, 1) := by decide +kernel
theorem dX5_init_5 : decode cX5_init 5 = .ok (.iload_n 1, 1) := by decide +kernel
theorem dX5_init_6 : decode cX5_init 6 = .ok (.putfield 9, 3) := by decide +kernel
theorem dX5_init_9 : decode cX5_init 9 = .ok (.aload_n 0, 1) := by decide +kernel
theorem dX5_init_10 : decode cX5_init 10 = .ok (.bipush 10, 2) := by decide +kernel
theorem dX5_init_12 : decode cX5_init 12 = .ok (.newarray .int, 2) := by decide +kernel
theorem dX5_init_14 : decode cX5_init 14 = .ok (.putfield 15, 3) := by decide +kernel
theorem dX5_init_17 : decode cX5_init 17 = .ok (.aload_n 0, 1) := by decide +kernel
theorem dX5_init_18 : decode cX5_init 18 = .ok (.iconst 5, 1) := by decide +kernel
theorem dX5_init_19 : decode cX5_init 19 = .ok (.newarray .long, 2) := by decide +kernel
theorem dX5_init_21 : decode cX5_init 21 = .ok (.putfield 19, 3) := by decide +kernel
theorem dX5_init_24 : decode cX5_init 24 = .ok (.aload_n 0, 1) := by decide +kernel
theorem dX5_init_25 : decode cX5_init 25 = .ok (.bipush 32, 2) := by decide +kernel
theorem dX5_init_27 : decode cX5_init 27 = .ok (.newarray .int, 2) := by decide +kernel
theorem dX5_init_29 : decode cX5_init 29 = .ok (.putfield 23, 3) := by decide +kernel
theorem dX5_init_32 : decode cX5_init 32 = .ok (.aload_n 0, 1) := by decide +kernel
theorem dX5_init_33 : decode cX5_init 33 = .ok (.bipush 32, 2) := by decide +kernel
theorem dX5_init_35 : decode cX5_init 35 = .ok (.newarray .int, 2) := by decide +kernel
theorem dX5_init_37 : decode cX5_init 37 = .ok (.putfield 26, 3) := by decide +kernel
theorem dX5_init_40 : decode cX5_init 40 = .ok (.aload_n 0, 1) := by decide +kernel
theorem dX5_init_41 : decode cX5_init 41 = .ok (.bipush 32, 2) := by decide +kernel
theorem dX5_init_43 : decode cX5_init 43 = .ok (.newarray .int, 2) := by decide +kernel
theorem dX5_init_45 : decode cX5_init 45 = .ok (.putfield 29, 3) := by decide +kernel
theorem dX5_init_48 : decode cX5_init 48 = .ok (.aload_n 0, 1) := by decide +kernel
theorem dX5_init_49 : decode cX5_init 49 = .ok (.iconst 0, 1) := by decide +kernel
theorem dX5_init_50 : decode cX5_init 50 = .ok (.putfield 32, 3) := by decide +kernel
theorem dX5_init_53 : decode cX5_init 53 = .ok (.aload_n 0, 1) := by decide +kernel
theorem dX5_init_54 : decode cX5_init 54 = .ok (.iconst 0, 1) := by decide +kernel
theorem dX5_init_55 : decode cX5_init 55 = .ok (.putfield 36, 3) := by decide +kernel
theorem dX5_init_58 : decode cX5_init 58 = .ok (.aload_n 0, 1) := by decide +kernel
theorem dX5_init_59 : decode cX5_init 59 = .ok (.iconst 0, 1) := by decide +kernel
theorem dX5_init_60 : decode cX5_init 60 = .ok (.putfield 39, 3) := by decide +kernel
theorem dX5_init_63 : decode cX5_init 63 = .ok (.return_, 1) := by decide +kernel
theorem dX5_refresh_0 : decode cX5_refresh 0 = .ok (.aload_n 0, 1) := by decide +kernel
theorem dX5_refresh_1 : decode cX5_refresh 1 = .ok (.getfield 32, 3) := by decide +kernel
theorem dX5_refresh_4 : decode cX5_refresh 4 = .ok (.ifCond .eq 12, 3) := by decide +kernel
theorem dX5_refresh_7 : decode cX5_refresh 7 = .ok (.aload_n 0, 1) := by decide +kernel
theorem dX5_refresh_8 : decode cX5_refresh 8 = .ok (.aload_n 1, 1) := by decide +kernel
theorem dX5_refresh_9 : decode cX5_refresh 9 = .ok (.invokevirtual 42, 3) := by decide +kernel
theorem dX5_refresh_12 : decode cX5_refresh 12 = .ok (.ifCond .eq 4, 3) := by decide +kernel
theorem dX5_refresh_15 : decode cX5_refresh 15 = .ok (.return_, 1) := by decide +kernel
theorem dX5_refresh_16 : decode cX5_refresh 16 = .ok (.aload_n 1, 1) := by decide +kernel
theorem dX5_refresh_17 : decode cX5_refresh 17 = .ok (.getfield 46, 3) := by decide +kernel
theorem dX5_refresh_20 : decode cX5_refresh 20 = .ok (.iconst 0, 1) := by decide +kernel
theorem dX5_refresh_21 : decode cX5_refresh 21 = .ok (.aload_n 0, 1) := by decide +kernel
theorem dX5_refresh_22 : decode cX5_refresh 22 = .ok (.getfield 15, 3) := by decide +kernel
theorem dX5_refresh_25 : decode cX5_refresh 25 = .ok (.iconst 0, 1) := by decide +kernel
theorem dX5_refresh_26 : decode cX5_refresh 26 = .ok (.bipush 10, 2) := by decide +kernel
theorem dX5_refresh_28 : decode cX5_refresh 28 = .ok (.invokestatic 49, 3) := by decide +kernel
theorem dX5_refresh_31 : decode cX5_refresh 31 = .ok (.aload_n 0, 1) := by decide +kernel
theorem dX5_refresh_32 : decode cX5_refresh 32 = .ok (.iconst 1, 1) := by decide +kernel
theorem dX5_refresh_33 : decode cX5_refresh 33 = .ok (.putfield 32, 3) := by decide +kernel
theorem dX5_refresh_36 : decode cX5_refresh 36 = .ok (.aload_n 0, 1) := by decide +kernel
theorem dX5_refresh_37 : decode cX5_refresh 37 = .ok (.aload_n 1, 1) := by decide +kernel
theorem dX5_refresh_38 : decode cX5_refresh 38 = .ok (.aload_n 2, 1) := by decide +kernel
theorem dX5_refresh_39 : decode cX5_refresh 39 = .ok (.invokevirtual 55, 3) := by decide +kernel
theorem dX5_refresh_42 : decode cX5_refresh 42 = .ok (.aload_n 0, 1) := by decide +kernel
theorem dX5_refresh_43 : decode cX5_refresh 43 = .ok (.invokevirtual 59, 3) := by decide +kernel
theorem dX5_refresh_46 : decode cX5_refresh 46 = .ok (.return_, 1) := by decide +kernel
theorem dX5_endOf_0 : decode cX5_endOf 0 = .ok (.iload_n 2, 1) := by decide +kernel
theorem dX5_endOf_1 : decode cX5_endOf 1 = .ok (.ifCond .ne 12, 3) := by decide +kernel
theorem dX5_endOf_4 : decode cX5_endOf 4 = .ok (.aload_n 0, 1) := by decide +kernel
theorem dX5_endOf_5 : decode cX5_endOf 5 = .ok (.getfield 23, 3) := by decide +kernel
theorem dX5_endOf_8 : decode cX5_endOf 8 = .ok (.iload_n 1, 1) := by decide +kernel
theorem dX5_endOf_9 : decode cX5_endOf 9 = .ok (.iaload, 1) := by decide +kernel
theorem dX5_endOf_10 : decode cX5_endOf 10 = .ok (.goto 9, 3) := by decide +kernel
theorem dX5_endOf_13 : decode cX5_endOf 13 = .ok (.aload_n 0, 1) := by decide +kernel
theorem dX5_endOf_14 : decode cX5_endOf 14 = .ok (.getfield 26, 3) := by decide +kernel
theorem dX5_endOf_17 : decode cX5_endOf 17 = .ok (.iload_n 1, 1) := by decide +kernel
theorem dX5_endOf_18 : decode cX5_endOf 18 = .ok (.iaload, 1) := by decide +kernel
theorem dX5_endOf_19 : decode cX5_endOf 19 = .ok (.sipush 800, 3) := by decide +kernel
theorem dX5_endOf_22 : decode cX5_endOf 22 = .ok (.iadd, 1) := by decide +kernel
theorem dX5_endOf_23 : decode cX5_endOf 23 = .ok (.ireturn, 1) := by decide +kernel
theorem dX5_isOf_0 : decode cX5_isOf 0 = .ok (.iconst 0, 1) := by decide +kernel
theorem dX5_isOf_1 : decode cX5_isOf 1 = .ok (.istore_n 2, 1) := by decide +kernel
theorem dX5_isOf_2 : decode cX5_isOf 2 = .ok (.iload_n 2, 1) := by decide +kernel
theorem dX5_isOf_3 : decode cX5_isOf 3 = .ok (.bipush 10, 2) := by decide +kernel
theorem dX5_isOf_5 : decode cX5_isOf 5 = .ok (.if_icmp .ge 26, 3) := by decide +kernel
theorem dX5_isOf_8 : decode cX5_isOf 8 = .ok (.aload_n 0, 1) := by decide +kernel
theorem dX5_isOf_9 : decode cX5_isOf 9 = .ok (.getfield 15, 3) := by decide +kernel
theorem dX5_isOf_12 : decode cX5_isOf 12 = .ok (.iload_n 2, 1) := by decide +kernel
theorem dX5_isOf_13 : decode cX5_isOf 13 = .ok (.iaload, 1) := by decide +kernel
theorem dX5_isOf_14 : decode cX5_isOf 14 = .ok (.aload_n 1, 1) := by decide +kernel
theorem dX5_isOf_15 : decode cX5_isOf 15 = .ok (.getfield 46, 3) := by decide +kernel
theorem dX5_isOf_18 : decode cX5_isOf 18 = .ok (.iload_n 2, 1) := by decide +kernel
theorem dX5_isOf_19 : decode cX5_isOf 19 = .ok (.iaload, 1) := by decide +kernel
theorem dX5_isOf_20 : decode cX5_isOf 20 = .ok (.if_icmp .eq 5, 3) := by decide +kernel
theorem dX5_isOf_23 : decode cX5_isOf 23 = .ok (.iconst 0, 1) := by decide +kernel
theorem dX5_isOf_24 : decode cX5_isOf 24 = .ok (.ireturn, 1) := by decide +kernel
theorem dX5_isOf_25 : decode cX5_isOf 25 = .ok (.iinc 2 1, 3) := by decide +kernel
theorem dX5_isOf_28 : decode cX5_isOf 28 = .ok (.goto (-26), 3) := by decide +kernel
theorem dX5_isOf_31 : decode cX5_isOf 31 = .ok (.iconst 1, 1) := by decide +kernel
theorem dX5_isOf_32 : decode cX5_isOf 32 = .ok (.ireturn, 1) := by decide +kernel
theorem dX5_collect_0 : decode cX5_collect 0 = .ok (.aload_n 0, 1) := by decide +kernel
theorem dX5_collect_1 : decode cX5_collect 1 = .ok (.iconst 0, 1) := by decide +kernel
theorem dX5_collect_2 : decode cX5_collect 2 = .ok (.putfield 36, 3) := by decide +kernel
theorem dX5_collect_5 : decode cX5_collect 5 = .ok (.aload_n 0, 1) := by decide +kernel
theorem dX5_collect_6 : decode cX5_collect 6 = .ok (.iconst 0, 1) := by decide +kernel
theorem dX5_collect_7 : decode cX5_collect 7 = .ok (.putfield 39, 3) := by decide +kernel
theorem dX5_collect_10 : decode cX5_collect 10 = .ok (.sipush (-800), 3) := by decide +kernel
theorem dX5_collect_13 : decode cX5_collect 13 = .ok (.istore_n 3, 1) := by decide +kernel
theorem dX5_collect_14 : decode cX5_collect 14 = .ok (.iload_n 3, 1) := by decide +kernel
theorem dX5_collect_15 : decode cX5_collect 15 = .ok (.sipush 800, 3) := by decide +kernel
theorem dX5_collect_18 : decode cX5_collect 18 = .ok (.if_icmp .gt 48, 3) := by decide +kernel
theorem dX5_collect_21 : decode cX5_collect 21 = .ok (.aload_n 1, 1) := by decide +kernel
theorem dX5_collect_22 : decode cX5_collect 22 = .ok (.aload_n 0, 1) := by decide +kernel
theorem dX5_collect_23 : decode cX5_collect 23 = .ok (.getfield 19, 3) := by decide +kernel
theorem dX5_collect_26 : decode cX5_collect 26 = .ok (.iload_n 3, 1) := by decide +kernel
theorem dX5_collect_27 : decode cX5_collect 27 = .ok (.invokevirtual 62, 3) := by decide +kernel
theorem dX5_collect_30 : decode cX5_collect 30 = .ok (.aload_n 2, 1) := by decide +kernel
theorem dX5_collect_31 : decode cX5_collect 31 = .ok (.aload_n 0, 1) := by decide +kernel
theorem dX5_collect_32 : decode cX5_collect 32 = .ok (.getfield 9, 3) := by decide +kernel
theorem dX5_collect_35 : decode cX5_collect 35 = .ok (.aload_n 0, 1) := by decide +kernel
theorem dX5_collect_36 : decode cX5_collect 36 = .ok (.getfield 19, 3) := by decide +kernel
theorem dX5_collect_39 : decode cX5_collect 39 = .ok (.invokevirtual 66, 3) := by decide +kernel
theorem dX5_collect_42 : decode cX5_collect 42 = .ok (.ifCond .eq 18, 3) := by decide +kernel
theorem dX5_collect_45 : decode cX5_collect 45 = .ok (.aload_n 0, 1) := by decide +kernel
theorem dX5_collect_46 : decode cX5_collect 46 = .ok (.dup, 1) := by decide +kernel
theorem dX5_collect_47 : decode cX5_collect 47 = .ok (.getfield 39, 3) := by decide +kernel
theorem dX5_collect_50 : decode cX5_collect 50 = .ok (.iconst 1, 1) := by decide +kernel
theorem dX5_collect_51 : decode cX5_collect 51 = .ok (.iadd, 1) := by decide +kernel
theorem dX5_collect_52 : decode cX5_collect 52 = .ok (.putfield 39, 3) := by decide +kernel
theorem dX5_collect_55 : decode cX5_collect 55 = .ok (.aload_n 0, 1) := by decide +kernel
theorem dX5_collect_56 : decode cX5_collect 56 = .ok (.iload_n 3, 1) := by decide +kernel
theorem dX5_collect_57 : decode cX5_collect 57 = .ok (.invokevirtual 72, 3) := by decide +kernel
theorem dX5_collect_60 : decode cX5_collect 60 = .ok (.iinc 3 1, 3) := by decide +kernel
theorem dX5_collect_63 : decode cX5_collect 63 = .ok (.goto (-49), 3) := by decide +kernel
theorem dX5_collect_66 : decode cX5_collect 66 = .ok (.return_, 1) := by decide +kernel
theorem dX5_addGain_0 : decode cX5_addGain 0 = .ok (.aload_n 0, 1) := by decide +kernel
theorem dX5_addGain_1 : decode cX5_addGain 1 = .ok (.getfield 36, 3) := by decide +kernel
theorem dX5_addGain_4 : decode cX5_addGain 4 = .ok (.ifCond .le 35, 3) := by decide +kernel
theorem dX5_addGain_7 : decode cX5_addGain 7 = .ok (.aload_n 0, 1) := by decide +kernel
theorem dX5_addGain_8 : decode cX5_addGain 8 = .ok (.getfield 26, 3) := by decide +kernel
theorem dX5_addGain_11 : decode cX5_addGain 11 = .ok (.aload_n 0, 1) := by decide +kernel
theorem dX5_addGain_12 : decode cX5_addGain 12 = .ok (.getfield 36, 3) := by decide +kernel
theorem dX5_addGain_15 : decode cX5_addGain 15 = .ok (.iconst 1, 1) := by decide +kernel
theorem dX5_addGain_16 : decode cX5_addGain 16 = .ok (.isub, 1) := by decide +kernel
theorem dX5_addGain_17 : decode cX5_addGain 17 = .ok (.iaload, 1) := by decide +kernel
theorem dX5_addGain_18 : decode cX5_addGain 18 = .ok (.iload_n 1, 1) := by decide +kernel
theorem dX5_addGain_19 : decode cX5_addGain 19 = .ok (.iconst 1, 1) := by decide +kernel
theorem dX5_addGain_20 : decode cX5_addGain 20 = .ok (.isub, 1) := by decide +kernel
theorem dX5_addGain_21 : decode cX5_addGain 21 = .ok (.if_icmp .ne 18, 3) := by decide +kernel
theorem dX5_addGain_24 : decode cX5_addGain 24 = .ok (.aload_n 0, 1) := by decide +kernel
theorem dX5_addGain_25 : decode cX5_addGain 25 = .ok (.getfield 26, 3) := by decide +kernel
theorem dX5_addGain_28 : decode cX5_addGain 28 = .ok (.aload_n 0, 1) := by decide +kernel
theorem dX5_addGain_29 : decode cX5_addGain 29 = .ok (.getfield 36, 3) := by decide +kernel
theorem dX5_addGain_32 : decode cX5_addGain 32 = .ok (.iconst 1, 1) := by decide +kernel
theorem dX5_addGain_33 : decode cX5_addGain 33 = .ok (.isub, 1) := by decide +kernel
theorem dX5_addGain_34 : decode cX5_addGain 34 = .ok (.iload_n 1, 1) := by decide +kernel
theorem dX5_addGain_35 : decode cX5_addGain 35 = .ok (.iastore, 1) := by decide +kernel
theorem dX5_addGain_36 : decode cX5_addGain 36 = .ok (.goto 42, 3) := by decide +kernel
theorem dX5_addGain_39 : decode cX5_addGain 39 = .ok (.aload_n 0, 1) := by decide +kernel
theorem dX5_addGain_40 : decode cX5_addGain 40 = .ok (.getfield 36, 3) := by decide +kernel
theorem dX5_addGain_43 : decode cX5_addGain 43 = .ok (.bipush 32, 2) := by decide +kernel
theorem dX5_addGain_45 : decode cX5_addGain 45 = .ok (.if_icmp .ge 33, 3) := by decide +kernel
theorem dX5_addGain_48 : decode cX5_addGain 48 = .ok (.aload_n 0, 1) := by decide +kernel
theorem dX5_addGain_49 : decode cX5_addGain 49 = .ok (.getfield 23, 3) := by decide +kernel
theorem dX5_addGain_52 : decode cX5_addGain 52 = .ok (.aload_n 0, 1) := by decide +kernel
theorem dX5_addGain_53 : decode cX5_addGain 53 = .ok (.getfield 36, 3) := by decide +kernel
theorem dX5_addGain_56 : decode cX5_addGain 56 = .ok (.iload_n 1, 1) := by decide +kernel
theorem dX5_addGain_57 : decode cX5_addGain 57 = .ok (.iastore, 1) := by decide +kernel
theorem dX5_addGain_58 : decode cX5_addGain 58 = .ok (.aload_n 0, 1) := by decide +kernel
theorem dX5_addGain_59 : decode cX5_addGain 59 = .ok (.getfield 26, 3) := by decide +kernel
theorem dX5_addGain_62 : decode cX5_addGain 62 = .ok (.aload_n 0, 1) := by decide +kernel
theorem dX5_addGain_63 : decode cX5_addGain 63 = .ok (.getfield 36, 3) := by decide +kernel
theorem dX5_addGain_66 : decode cX5_addGain 66 = .ok (.iload_n 1, 1) := by decide +kernel
theorem dX5_addGain_67 : decode cX5_addGain 67 = .ok (.iastore, 1) := by decide +kernel
theorem dX5_addGain_68 : decode cX5_addGain 68 = .ok (.aload_n 0, 1) := by decide +kernel
theorem dX5_addGain_69 : decode cX5_addGain 69 = .ok (.dup, 1) := by decide +kernel
theorem dX5_addGain_70 : decode cX5_addGain 70 = .ok (.getfield 36, 3) := by decide +kernel
theorem dX5_addGain_73 : decode cX5_addGain 73 = .ok (.iconst 1, 1) := by decide +kernel
theorem dX5_addGain_74 : decode cX5_addGain 74 = .ok (.iadd, 1) := by decide +kernel
theorem dX5_addGain_75 : decode cX5_addGain 75 = .ok (.putfield 36, 3) := by decide +kernel
theorem dX5_addGain_78 : decode cX5_addGain 78 = .ok (.return_, 1) := by decide +kernel
theorem dX5_orderByWidth_0 : decode cX5_orderByWidth 0 = .ok (.iconst 0, 1) := by decide +kernel
theorem dX5_orderByWidth_1 : decode cX5_orderByWidth 1 = .ok (.istore_n 1, 1) := by decide +kernel
theorem dX5_orderByWidth_2 : decode cX5_orderByWidth 2 = .ok (.iload_n 1, 1) := by decide +kernel
theorem dX5_orderByWidth_3 : decode cX5_orderByWidth 3 = .ok (.aload_n 0, 1) := by decide +kernel
theorem dX5_orderByWidth_4 : decode cX5_orderByWidth 4 = .ok (.getfield 36, 3) := by decide +kernel
theorem dX5_orderByWidth_7 : decode cX5_orderByWidth 7 = .ok (.if_icmp .ge 62, 3) := by decide +kernel
end
section
theorem dX5_orderByWidth_10 : decode cX5_orderByWidth 10 = .ok (.iload_n 1, 1) := by decide +kernel
theorem dX5_orderByWidth_11 : decode cX5_orderByWidth 11 = .ok (.istore_n 2, 1) := by decide +kernel
theorem dX5_orderByWidth_12 : decode cX5_orderByWidth 12 = .ok (.iload_n 2, 1) := by decide +kernel
theorem dX5_orderByWidth_13 : decode cX5_orderByWidth 13 = .ok (.ifCond .le 43, 3) := by decide +kernel
theorem dX5_orderByWidth_16 : decode cX5_orderByWidth 16 = .ok (.aload_n 0, 1) := by decide +kernel
theorem dX5_orderByWidth_17 : decode cX5_orderByWidth 17 = .ok (.aload_n 0, 1) := by decide +kernel
theorem dX5_orderByWidth_18 : decode cX5_orderByWidth 18 = .ok (.getfield 29, 3) := by decide +kernel
theorem dX5_orderByWidth_21 : decode cX5_orderByWidth 21 = .ok (.iload_n 2, 1) := by decide +kernel
theorem dX5_orderByWidth_22 : decode cX5_orderByWidth 22 = .ok (.iconst 1, 1) := by decide +kernel
theorem dX5_orderByWidth_23 : decode cX5_orderByWidth 23 = .ok (.isub, 1) := by decide +kernel
theorem dX5_orderByWidth_24 : decode cX5_orderByWidth 24 = .ok (.iaload, 1) := by decide +kernel
theorem dX5_orderByWidth_25 : decode cX5_orderByWidth 25 = .ok (.invokevirtual 76, 3) := by decide +kernel
theorem dX5_orderByWidth_28 : decode cX5_orderByWidth 28 = .ok (.aload_n 0, 1) := by decide +kernel
theorem dX5_orderByWidth_29 : decode cX5_orderByWidth 29 = .ok (.iload_n 1, 1) := by decide +kernel
theorem dX5_orderByWidth_30 : decode cX5_orderByWidth 30 = .ok (.invokevirtual 76, 3) := by decide +kernel
theorem dX5_orderByWidth_33 : decode cX5_orderByWidth 33 = .ok (.if_icmp .ge 23, 3) := by decide +kernel
theorem dX5_orderByWidth_36 : decode cX5_orderByWidth 36 = .ok (.aload_n 0, 1) := by decide +kernel
theorem dX5_orderByWidth_37 : decode cX5_orderByWidth 37 = .ok (.getfield 29, 3) := by decide +kernel
theorem dX5_orderByWidth_40 : decode cX5_orderByWidth 40 = .ok (.iload_n 2, 1) := by decide +kernel
theorem dX5_orderByWidth_41 : decode cX5_orderByWidth 41 = .ok (.aload_n 0, 1) := by decide +kernel
theorem dX5_orderByWidth_42 : decode cX5_orderByWidth 42 = .ok (.getfield 29, 3) := by decide +kernel
theorem dX5_orderByWidth_45 : decode cX5_orderByWidth 45 = .ok (.iload_n 2, 1) := by decide +kernel
theorem dX5_orderByWidth_46 : decode cX5_orderByWidth 46 = .ok (.iconst 1, 1) := by decide +kernel
theorem dX5_orderByWidth_47 : decode cX5_orderByWidth 47 = .ok (.isub, 1) := by decide +kernel
theorem dX5_orderByWidth_48 : decode cX5_orderByWidth 48 = .ok (.iaload, 1) := by decide +kernel
theorem dX5_orderByWidth_49 : decode cX5_orderByWidth 49 = .ok (.iastore, 1) := by decide +kernel
theorem dX5_orderByWidth_50 : decode cX5_orderByWidth 50 = .ok (.iinc 2 (-1), 3) := by decide +kernel
theorem dX5_orderByWidth_53 : decode cX5_orderByWidth 53 = .ok (.goto (-41), 3) := by decide +kernel
theorem dX5_orderByWidth_56 : decode cX5_orderByWidth 56 = .ok (.aload_n 0, 1) := by decide +kernel
theorem dX5_orderByWidth_57 : decode cX5_orderByWidth 57 = .ok (.getfield 29, 3) := by decide +kernel
theorem dX5_orderByWidth_60 : decode cX5_orderByWidth 60 = .ok (.iload_n 2, 1) := by decide +kernel
theorem dX5_orderByWidth_61 : decode cX5_orderByWidth 61 = .ok (.iload_n 1, 1) := by decide +kernel
theorem dX5_orderByWidth_62 : decode cX5_orderByWidth 62 = .ok (.iastore, 1) := by decide +kernel
theorem dX5_orderByWidth_63 : decode cX5_orderByWidth 63 = .ok (.iinc 1 1, 3) := by decide +kernel
theorem dX5_orderByWidth_66 : decode cX5_orderByWidth 66 = .ok (.goto (-64), 3) := by decide +kernel
theorem dX5_orderByWidth_69 : decode cX5_orderByWidth 69 = .ok (.return_, 1) := by decide +kernel
theorem dX5_widthOf_0 : decode cX5_widthOf 0 = .ok (.aload_n 0, 1) := by decide +kernel
theorem dX5_widthOf_1 : decode cX5_widthOf 1 = .ok (.getfield 26, 3) := by decide +kernel
theorem dX5_widthOf_4 : decode cX5_widthOf 4 = .ok (.iload_n 1, 1) := by decide +kernel
theorem dX5_widthOf_5 : decode cX5_widthOf 5 = .ok (.iaload, 1) := by decide +kernel
theorem dX5_widthOf_6 : decode cX5_widthOf 6 = .ok (.aload_n 0, 1) := by decide +kernel
theorem dX5_widthOf_7 : decode cX5_widthOf 7 = .ok (.getfield 23, 3) := by decide +kernel
theorem dX5_widthOf_10 : decode cX5_widthOf 10 = .ok (.iload_n 1, 1) := by decide +kernel
theorem dX5_widthOf_11 : decode cX5_widthOf 11 = .ok (.iaload, 1) := by decide +kernel
theorem dX5_widthOf_12 : decode cX5_widthOf 12 = .ok (.isub, 1) := by decide +kernel
theorem dX5_widthOf_13 : decode cX5_widthOf 13 = .ok (.ireturn, 1) := by decide +kernel
theorem dX6_init_0 : decode cX6_init 0 = .ok (.aload_n 0, 1) := by decide +kernel
theorem dX6_init_1 : decode cX6_init 1 = .ok (.invokespecial 3, 3) := by decide +kernel
theorem dX6_init_4 : decode cX6_init 4 = .ok (.aload_n 0, 1) := by decide +kernel
theorem dX6_init_5 : decode cX6_init 5 = .ok (.bipush 60, 2) := by decide +kernel
theorem dX6_init_7 : decode cX6_init 7 = .ok (.newarray .byte, 2) := by decide +kernel
theorem dX6_init_9 : decode cX6_init 9 = .ok (.putfield 11, 3) := by decide +kernel
theorem dX6_init_12 : decode cX6_init 12 = .ok (.aload_n 0, 1) := by decide +kernel
theorem dX6_init_13 : decode cX6_init 13 = .ok (.bipush 10, 2) := by decide +kernel
theorem dX6_init_15 : decode cX6_init 15 = .ok (.newarray .int, 2) := by decide +kernel
theorem dX6_init_17 : decode cX6_init 17 = .ok (.putfield 15, 3) := by decide +kernel
theorem dX6_init_20 : decode cX6_init 20 = .ok (.aload_n 0, 1) := by decide +kernel
theorem dX6_init_21 : decode cX6_init 21 = .ok (.iconst 0, 1) := by decide +kernel
theorem dX6_init_22 : decode cX6_init 22 = .ok (.putfield 19, 3) := by decide +kernel
theorem dX6_init_25 : decode cX6_init 25 = .ok (.aload_n 0, 1) := by decide +kernel
theorem dX6_init_26 : decode cX6_init 26 = .ok (.iconst 0, 1) := by decide +kernel
theorem dX6_init_27 : decode cX6_init 27 = .ok (.putfield 23, 3) := by decide +kernel
theorem dX6_init_30 : decode cX6_init 30 = .ok (.aload_n 0, 1) := by decide +kernel
theorem dX6_init_31 : decode cX6_init 31 = .ok (.iconst 0, 1) := by decide +kernel
theorem dX6_init_32 : decode cX6_init 32 = .ok (.putfield 27, 3) := by decide +kernel
theorem dX6_init_35 : decode cX6_init 35 = .ok (.aload_n 0, 1) := by decide +kernel
theorem dX6_init_36 : decode cX6_init 36 = .ok (.iconst 0, 1) := by decide +kernel
theorem dX6_init_37 : decode cX6_init 37 = .ok (.putfield 30, 3) := by decide +kernel
theorem dX6_init_40 : decode cX6_init 40 = .ok (.aload_n 0, 1) := by decide +kernel
theorem dX6_init_41 : decode cX6_init 41 = .ok (.iconst 0, 1) := by decide +kernel
theorem dX6_init_42 : decode cX6_init 42 = .ok (.putfield 33, 3) := by decide +kernel
theorem dX6_init_45 : decode cX6_init 45 = .ok (.return_, 1) := by decide +kernel
theorem dX6_append_0 : decode cX6_append 0 = .ok (.aload_n 0, 1) := by decide +kernel
theorem dX6_append_1 : decode cX6_append 1 = .ok (.getfield 23, 3) := by decide +kernel
theorem dX6_append_4 : decode cX6_append 4 = .ok (.bipush 60, 2) := by decide +kernel
theorem dX6_append_6 : decode cX6_append 6 = .ok (.if_icmp .lt 5, 3) := by decide +kernel
theorem dX6_append_9 : decode cX6_append 9 = .ok (.iconst 0, 1) := by decide +kernel
theorem dX6_append_10 : decode cX6_append 10 = .ok (.ireturn, 1) := by decide +kernel
theorem dX6_append_11 : decode cX6_append 11 = .ok (.aload_n 0, 1) := by decide +kernel
theorem dX6_append_12 : decode cX6_append 12 = .ok (.getfield 11, 3) := by decide +kernel
theorem dX6_append_15 : decode cX6_append 15 = .ok (.aload_n 0, 1) := by decide +kernel
theorem dX6_append_16 : decode cX6_append 16 = .ok (.getfield 23, 3) := by decide +kernel
theorem dX6_append_19 : decode cX6_append 19 = .ok (.iload_n 1, 1) := by decide +kernel
theorem dX6_append_20 : decode cX6_append 20 = .ok (.i2b, 1) := by decide +kernel
theorem dX6_append_21 : decode cX6_append 21 = .ok (.bastore, 1) := by decide +kernel
theorem dX6_append_22 : decode cX6_append 22 = .ok (.aload_n 0, 1) := by decide +kernel
theorem dX6_append_23 : decode cX6_append 23 = .ok (.dup, 1) := by decide +kernel
theorem dX6_append_24 : decode cX6_append 24 = .ok (.getfield 23, 3) := by decide +kernel
theorem dX6_append_27 : decode cX6_append 27 = .ok (.iconst 1, 1) := by decide +kernel
theorem dX6_append_28 : decode cX6_append 28 = .ok (.iadd, 1) := by decide +kernel
theorem dX6_append_29 : decode cX6_append 29 = .ok (.putfield 23, 3) := by decide +kernel
theorem dX6_append_32 : decode cX6_append 32 = .ok (.iconst 1, 1) := by decide +kernel
theorem dX6_append_33 : decode cX6_append 33 = .ok (.ireturn, 1) := by decide +kernel
theorem dX6_readText_0 : decode cX6_readText 0 = .ok (.aload_n 0, 1) := by decide +kernel
theorem dX6_readText_1 : decode cX6_readText 1 = .ok (.getfield 15, 3) := by decide +kernel
theorem dX6_readText_4 : decode cX6_readText 4 = .ok (.iconst 0, 1) := by decide +kernel
theorem dX6_readText_5 : decode cX6_readText 5 = .ok (.invokestatic 36, 3) := by decide +kernel
theorem dX6_readText_8 : decode cX6_readText 8 = .ok (.aload_n 0, 1) := by decide +kernel
theorem dX6_readText_9 : decode cX6_readText 9 = .ok (.iconst 0, 1) := by decide +kernel
theorem dX6_readText_10 : decode cX6_readText 10 = .ok (.putfield 19, 3) := by decide +kernel
theorem dX6_readText_13 : decode cX6_readText 13 = .ok (.aload_n 0, 1) := by decide +kernel
theorem dX6_readText_14 : decode cX6_readText 14 = .ok (.iconst 0, 1) := by decide +kernel
theorem dX6_readText_15 : decode cX6_readText 15 = .ok (.putfield 27, 3) := by decide +kernel
theorem dX6_readText_18 : decode cX6_readText 18 = .ok (.aload_n 0, 1) := by decide +kernel
theorem dX6_readText_19 : decode cX6_readText 19 = .ok (.iconst 0, 1) := by decide +kernel
theorem dX6_readText_20 : decode cX6_readText 20 = .ok (.invokevirtual 42, 3) := by decide +kernel
theorem dX6_readText_23 : decode cX6_readText 23 = .ok (.istore_n 1, 1) := by decide +kernel
theorem dX6_readText_24 : decode cX6_readText 24 = .ok (.iload_n 1, 1) := by decide +kernel
theorem dX6_readText_25 : decode cX6_readText 25 = .ok (.iconst (-1), 1) := by decide +kernel
theorem dX6_readText_26 : decode cX6_readText 26 = .ok (.if_icmp .ne 33, 3) := by decide +kernel
theorem dX6_readText_29 : decode cX6_readText 29 = .ok (.aload_n 0, 1) := by decide +kernel
theorem dX6_readText_30 : decode cX6_readText 30 = .ok (.invokevirtual 46, 3) := by decide +kernel
theorem dX6_readText_33 : decode cX6_readText 33 = .ok (.bipush 59, 2) := by decide +kernel
theorem dX6_readText_35 : decode cX6_readText 35 = .ok (.if_icmp .ne 24, 3) := by decide +kernel
theorem dX6_readText_38 : decode cX6_readText 38 = .ok (.aload_n 0, 1) := by decide +kernel
theorem dX6_readText_39 : decode cX6_readText 39 = .ok (.dup, 1) := by decide +kernel
theorem dX6_readText_40 : decode cX6_readText 40 = .ok (.getfield 27, 3) := by decide +kernel
theorem dX6_readText_43 : decode cX6_readText 43 = .ok (.iconst 1, 1) := by decide +kernel
theorem dX6_readText_44 : decode cX6_readText 44 = .ok (.iadd, 1) := by decide +kernel
theorem dX6_readText_45 : decode cX6_readText 45 = .ok (.putfield 27, 3) := by decide +kernel
theorem dX6_readText_48 : decode cX6_readText 48 = .ok (.aload_n 0, 1) := by decide +kernel
theorem dX6_readText_49 : decode cX6_readText 49 = .ok (.iconst 1, 1) := by decide +kernel
theorem dX6_readText_50 : decode cX6_readText 50 = .ok (.putfield 19, 3) := by decide +kernel
theorem dX6_readText_53 : decode cX6_readText 53 = .ok (.aload_n 0, 1) := by decide +kernel
theorem dX6_readText_54 : decode cX6_readText 54 = .ok (.iconst 5, 1) := by decide +kernel
theorem dX6_readText_55 : decode cX6_readText 55 = .ok (.invokevirtual 42, 3) := by decide +kernel
theorem dX6_readText_58 : decode cX6_readText 58 = .ok (.istore_n 1, 1) := by decide +kernel
theorem dX6_readText_59 : decode cX6_readText 59 = .ok (.iload_n 1, 1) := by decide +kernel
theorem dX6_readText_60 : decode cX6_readText 60 = .ok (.iconst (-1), 1) := by decide +kernel
theorem dX6_readText_61 : decode cX6_readText 61 = .ok (.if_icmp .ne 16, 3) := by decide +kernel
theorem dX6_readText_64 : decode cX6_readText 64 = .ok (.aload_n 0, 1) := by decide +kernel
theorem dX6_readText_65 : decode cX6_readText 65 = .ok (.invokevirtual 46, 3) := by decide +kernel
theorem dX6_readText_68 : decode cX6_readText 68 = .ok (.iconst (-1), 1) := by decide +kernel
theorem dX6_readText_69 : decode cX6_readText 69 = .ok (.if_icmp .eq 8, 3) := by decide +kernel
theorem dX6_readText_72 : decode cX6_readText 72 = .ok (.aload_n 0, 1) := by decide +kernel
theorem dX6_readText_73 : decode cX6_readText 73 = .ok (.getfield 27, 3) := by decide +kernel
theorem dX6_readText_76 : decode cX6_readText 76 = .ok (.istore_n 1, 1) := by decide +kernel
theorem dX6_readText_77 : decode cX6_readText 77 = .ok (.iload_n 1, 1) := by decide +kernel
theorem dX6_readText_78 : decode cX6_readText 78 = .ok (.ireturn, 1) := by decide +kernel
theorem dX6_readTerms_0 : decode cX6_readTerms 0 = .ok (.iconst 5, 1) := by decide +kernel
theorem dX6_readTerms_1 : decode cX6_readTerms 1 = .ok (.istore_n 2, 1) := by decide +kernel
theorem dX6_readTerms_2 : decode cX6_readTerms 2 = .ok (.iconst 1, 1) := by decide +kernel
theorem dX6_readTerms_3 : decode cX6_readTerms 3 = .ok (.istore_n 3, 1) := by decide +kernel
theorem dX6_readTerms_4 : decode cX6_readTerms 4 = .ok (.aload_n 0, 1) := by decide +kernel
theorem dX6_readTerms_5 : decode cX6_readTerms 5 = .ok (.invokevirtual 46, 3) := by decide +kernel
theorem dX6_readTerms_8 : decode cX6_readTerms 8 = .ok (.bipush 45, 2) := by decide +kernel
theorem dX6_readTerms_10 : decode cX6_readTerms 10 = .ok (.if_icmp .ne 15, 3) := by decide +kernel
theorem dX6_readTerms_13 : decode cX6_readTerms 13 = .ok (.iconst (-1), 1) := by decide +kernel
theorem dX6_readTerms_14 : decode cX6_readTerms 14 = .ok (.istore_n 3, 1) := by decide +kernel
theorem dX6_readTerms_15 : decode cX6_readTerms 15 = .ok (.aload_n 0, 1) := by decide +kernel
theorem dX6_readTerms_16 : decode cX6_readTerms 16 = .ok (.dup, 1) := by decide +kernel
theorem dX6_readTerms_17 : decode cX6_readTerms 17 = .ok (.getfield 27, 3) := by decide +kernel
theorem dX6_readTerms_20 : decode cX6_readTerms 20 = .ok (.iconst 1, 1) := by decide +kernel
theorem dX6_readTerms_21 : decode cX6_readTerms 21 = .ok (.iadd, 1) := by decide +kernel
theorem dX6_readTerms_22 : decode cX6_readTerms 22 = .ok (.putfield 27, 3) := by decide +kernel
theorem dX6_readTerms_25 : decode cX6_readTerms 25 = .ok (.iconst 0, 1) := by decide +kernel
theorem dX6_readTerms_26 : decode cX6_readTerms 26 = .ok (.istore 4, 2) := by decide +kernel
theorem dX6_readTerms_28 : decode cX6_readTerms 28 = .ok (.iload 4, 2) := by decide +kernel
theorem dX6_readTerms_30 : decode cX6_readTerms 30 = .ok (.bipush 60, 2) := by decide +kernel
theorem dX6_readTerms_32 : decode cX6_readTerms 32 = .ok (.if_icmp .ge 105, 3) := by decide +kernel
theorem dX6_readTerms_35 : decode cX6_readTerms 35 = .ok (.aload_n 0, 1) := by decide +kernel
theorem dX6_readTerms_36 : decode cX6_readTerms 36 = .ok (.invokevirtual 46, 3) := by decide +kernel
theorem dX6_readTerms_39 : decode cX6_readTerms 39 = .ok (.pop, 1) := by decide +kernel
theorem dX6_readTerms_40 : decode cX6_readTerms 40 = .ok (.aload_n 0, 1) := by decide +kernel
theorem dX6_readTerms_41 : decode cX6_readTerms 41 = .ok (.getfield 27, 3) := by decide +kernel
theorem dX6_readTerms_44 : decode cX6_readTerms 44 = .ok (.istore 5, 2) := by decide +kernel
theorem dX6_readTerms_46 : decode cX6_readTerms 46 = .ok (.aload_n 0, 1) := by decide +kernel
theorem dX6_readTerms_47 : decode cX6_readTerms 47 = .ok (.invokevirtual 50, 3) := by decide +kernel
theorem dX6_readTerms_50 : decode cX6_readTerms 50 = .ok (.ifCond .eq 11, 3) := by decide +kernel
theorem dX6_readTerms_53 : decode cX6_readTerms 53 = .ok (.aload_n 0, 1) := by decide +kernel
theorem dX6_readTerms_54 : decode cX6_readTerms 54 = .ok (.getfield 33, 3) := by decide +kernel
theorem dX6_readTerms_57 : decode cX6_readTerms 57 = .ok (.iload_n 2, 1) := by decide +kernel
theorem dX6_readTerms_58 : decode cX6_readTerms 58 = .ok (.if_icmp .lt 6, 3) := by decide +kernel
theorem dX6_readTerms_61 : decode cX6_readTerms 61 = .ok (.iload 5, 2) := by decide +kernel
theorem dX6_readTerms_63 : decode cX6_readTerms 63 = .ok (.ireturn, 1) := by decide +kernel
theorem dX6_readTerms_64 : decode cX6_readTerms 64 = .ok (.aload_n 0, 1) := by decide +kernel
theorem dX6_readTerms_65 : decode cX6_readTerms 65 = .ok (.getfield 15, 3) := by decide +kernel
theorem dX6_readTerms_68 : decode cX6_readTerms 68 = .ok (.iload_n 1, 1) := by decide +kernel
theorem dX6_readTerms_69 : decode cX6_readTerms 69 = .ok (.aload_n 0, 1) := by decide +kernel
theorem dX6_readTerms_70 : decode cX6_readTerms 70 = .ok (.getfield 33, 3) := by decide +kernel
theorem dX6_readTerms_73 : decode cX6_readTerms 73 = .ok (.iadd, 1) := by decide +kernel
theorem dX6_readTerms_74 : decode cX6_readTerms 74 = .ok (.iload_n 3, 1) := by decide +kernel
theorem dX6_readTerms_75 : decode cX6_readTerms 75 = .ok (.aload_n 0, 1) := by decide +kernel
theorem dX6_readTerms_76 : decode cX6_readTerms 76 = .ok (.getfield 30, 3) := by decide +kernel
theorem dX6_readTerms_79 : decode cX6_readTerms 79 = .ok (.imul, 1) := by decide +kernel
theorem dX6_readTerms_80 : decode cX6_readTerms 80 = .ok (.iastore, 1) := by decide +kernel
theorem dX6_readTerms_81 : decode cX6_readTerms 81 = .ok (.aload_n 0, 1) := by decide +kernel
theorem dX6_readTerms_82 : decode cX6_readTerms 82 = .ok (.getfield 33, 3) := by decide +kernel
theorem dX6_readTerms_85 : decode cX6_readTerms 85 = .ok (.istore_n 2, 1) := by decide +kernel
theorem dX6_readTerms_86 : decode cX6_readTerms 86 = .ok (.aload_n 0, 1) := by decide +kernel
theorem dX6_readTerms_87 : decode cX6_readTerms 87 = .ok (.invokevirtual 46, 3) := by decide +kernel
theorem dX6_readTerms_90 : decode cX6_readTerms 90 = .ok (.istore 6, 2) := by decide +kernel
theorem dX6_readTerms_92 : decode cX6_readTerms 92 = .ok (.iload 6, 2) := by decide +kernel
theorem dX6_readTerms_94 : decode cX6_readTerms 94 = .ok (.bipush 43, 2) := by decide +kernel
theorem dX6_readTerms_96 : decode cX6_readTerms 96 = .ok (.if_icmp .eq 12, 3) := by decide +kernel
theorem dX6_readTerms_99 : decode cX6_readTerms 99 = .ok (.iload 6, 2) := by decide +kernel
theorem dX6_readTerms_101 : decode cX6_readTerms 101 = .ok (.bipush 45, 2) := by decide +kernel
theorem dX6_readTerms_103 : decode cX6_readTerms 103 = .ok (.if_icmp .eq 5, 3) := by decide +kernel
theorem dX6_readTerms_106 : decode cX6_readTerms 106 = .ok (.iconst (-1), 1) := by decide +kernel
theorem dX6_readTerms_107 : decode cX6_readTerms 107 = .ok (.ireturn, 1) := by decide +kernel
theorem dX6_readTerms_108 : decode cX6_readTerms 108 = .ok (.iload 6, 2) := by decide +kernel
theorem dX6_readTerms_110 : decode cX6_readTerms 110 = .ok (.bipush 43, 2) := by decide +kernel
theorem dX6_readTerms_112 : decode cX6_readTerms 112 = .ok (.if_icmp .ne 7, 3) := by decide +kernel
theorem dX6_readTerms_115 : decode cX6_readTerms 115 = .ok (.iconst 1, 1) := by decide +kernel
theorem dX6_readTerms_116 : decode cX6_readTerms 116 = .ok (.goto 4, 3) := by decide +kernel
theorem dX6_readTerms_119 : decode cX6_readTerms 119 = .ok (.iconst (-1), 1) := by decide +kernel
theorem dX6_readTerms_120 : decode cX6_readTerms 120 = .ok (.istore_n 3, 1) := by decide +kernel
theorem dX6_readTerms_121 : decode cX6_readTerms 121 = .ok (.aload_n 0, 1) := by decide +kernel
theorem dX6_readTerms_122 : decode cX6_readTerms 122 = .ok (.dup, 1) := by decide +kernel
theorem dX6_readTerms_123 : decode cX6_readTerms 123 = .ok (.getfield 27, 3) := by decide +kernel
theorem dX6_readTerms_126 : decode cX6_readTerms 126 = .ok (.iconst 1, 1) := by decide +kernel
theorem dX6_readTerms_127 : decode cX6_readTerms 127 = .ok (.iadd, 1) := by decide +kernel
theorem dX6_readTerms_128 : decode cX6_readTerms 128 = .ok (.putfield 27, 3) := by decide +kernel
theorem dX6_readTerms_131 : decode cX6_readTerms 131 = .ok (.iinc 4 1, 3) := by decide +kernel
theorem dX6_readTerms_134 : decode cX6_readTerms 134 = .ok (.goto (-106), 3) := by decide +kernel
theorem dX6_readTerms_137 : decode cX6_readTerms 137 = .ok (.aload_n 0, 1) := by decide +kernel
theorem dX6_readTerms_138 : decode cX6_readTerms 138 = .ok (.getfield 27, 3) := by decide +kernel
theorem dX6_readTerms_141 : decode cX6_readTerms 141 = .ok (.ireturn, 1) := by decide +kernel
theorem dX6_readTerm_0 : decode cX6_readTerm 0 = .ok (.aload_n 0, 1) := by decide +kernel
theorem dX6_readTerm_1 : decode cX6_readTerm 1 = .ok (.invokevirtual 46, 3) := by decide +kernel
theorem dX6_readTerm_4 : decode cX6_readTerm 4 = .ok (.istore_n 1, 1) := by decide +kernel
theorem dX6_readTerm_5 : decode cX6_readTerm 5 = .ok (.aload_n 0, 1) := by decide +kernel
theorem dX6_readTerm_6 : decode cX6_readTerm 6 = .ok (.iconst 1, 1) := by decide +kernel
theorem dX6_readTerm_7 : decode cX6_readTerm 7 = .ok (.putfield 30, 3) := by decide +kernel
theorem dX6_readTerm_10 : decode cX6_readTerm 10 = .ok (.aload_n 0, 1) := by decide +kernel
theorem dX6_readTerm_11 : decode cX6_readTerm 11 = .ok (.iconst 0, 1) := by decide +kernel
theorem dX6_readTerm_12 : decode cX6_readTerm 12 = .ok (.putfield 33, 3) := by decide +kernel
theorem dX6_readTerm_15 : decode cX6_readTerm 15 = .ok (.iload_n 1, 1) := by decide +kernel
theorem dX6_readTerm_16 : decode cX6_readTerm 16 = .ok (.bipush 49, 2) := by decide +kernel
theorem dX6_readTerm_18 : decode cX6_readTerm 18 = .ok (.if_icmp .lt 35, 3) := by decide +kernel
theorem dX6_readTerm_21 : decode cX6_readTerm 21 = .ok (.iload_n 1, 1) := by decide +kernel
theorem dX6_readTerm_22 : decode cX6_readTerm 22 = .ok (.bipush 57, 2) := by decide +kernel
theorem dX6_readTerm_24 : decode cX6_readTerm 24 = .ok (.if_icmp .gt 29, 3) := by decide +kernel
theorem dX6_readTerm_27 : decode cX6_readTerm 27 = .ok (.aload_n 0, 1) := by decide +kernel
theorem dX6_readTerm_28 : decode cX6_readTerm 28 = .ok (.iload_n 1, 1) := by decide +kernel
theorem dX6_readTerm_29 : decode cX6_readTerm 29 = .ok (.bipush 48, 2) := by decide +kernel
theorem dX6_readTerm_31 : decode cX6_readTerm 31 = .ok (.isub, 1) := by decide +kernel
theorem dX6_readTerm_32 : decode cX6_readTerm 32 = .ok (.putfield 30, 3) := by decide +kernel
theorem dX6_readTerm_35 : decode cX6_readTerm 35 = .ok (.aload_n 0, 1) := by decide +kernel
theorem dX6_readTerm_36 : decode cX6_readTerm 36 = .ok (.dup, 1) := by decide +kernel
theorem dX6_readTerm_37 : decode cX6_readTerm 37 = .ok (.getfield 27, 3) := by decide +kernel
theorem dX6_readTerm_40 : decode cX6_readTerm 40 = .ok (.iconst 1, 1) := by decide +kernel
theorem dX6_readTerm_41 : decode cX6_readTerm 41 = .ok (.iadd, 1) := by decide +kernel
theorem dX6_readTerm_42 : decode cX6_readTerm 42 = .ok (.putfield 27, 3) := by decide +kernel
theorem dX6_readTerm_45 : decode cX6_readTerm 45 = .ok (.aload_n 0, 1) := by decide +kernel
theorem dX6_readTerm_46 : decode cX6_readTerm 46 = .ok (.invokevirtual 46, 3) := by decide +kernel
theorem dX6_readTerm_49 : decode cX6_readTerm 49 = .ok (.istore_n 1, 1) := by decide +kernel
theorem dX6_readTerm_50 : decode cX6_readTerm 50 = .ok (.goto 11, 3) := by decide +kernel
theorem dX6_readTerm_53 : decode cX6_readTerm 53 = .ok (.iload_n 1, 1) := by decide +kernel
theorem dX6_readTerm_54 : decode cX6_readTerm 54 = .ok (.bipush 115, 2) := by decide +kernel
theorem dX6_readTerm_56 : decode cX6_readTerm 56 = .ok (.if_icmp .eq 5, 3) := by decide +kernel
theorem dX6_readTerm_59 : decode cX6_readTerm 59 = .ok (.iconst 0, 1) := by decide +kernel
theorem dX6_readTerm_60 : decode cX6_readTerm 60 = .ok (.ireturn, 1) := by decide +kernel
theorem dX6_readTerm_61 : decode cX6_readTerm 61 = .ok (.iload_n 1, 1) := by decide +kernel
theorem dX6_readTerm_62 : decode cX6_readTerm 62 = .ok (.bipush 115, 2) := by decide +kernel
theorem dX6_readTerm_64 : decode cX6_readTerm 64 = .ok (.if_icmp .ne 17, 3) := by decide +kernel
theorem dX6_readTerm_67 : decode cX6_readTerm 67 = .ok (.aload_n 0, 1) := by decide +kernel
theorem dX6_readTerm_68 : decode cX6_readTerm 68 = .ok (.dup, 1) := by decide +kernel
theorem dX6_readTerm_69 : decode cX6_readTerm 69 = .ok (.getfield 27, 3) := by decide +kernel
theorem dX6_readTerm_72 : decode cX6_readTerm 72 = .ok (.iconst 1, 1) := by decide +kernel
theorem dX6_readTerm_73 : decode cX6_readTerm 73 = .ok (.iadd, 1) := by decide +kernel
theorem dX6_readTerm_74 : decode cX6_readTerm 74 = .ok (.putfield 27, 3) := by decide +kernel
theorem dX6_readTerm_77 : decode cX6_readTerm 77 = .ok (.aload_n 0, 1) := by decide +kernel
theorem dX6_readTerm_78 : decode cX6_readTerm 78 = .ok (.invokevirtual 54, 3) := by decide +kernel
theorem dX6_readTerm_81 : decode cX6_readTerm 81 = .ok (.iconst 1, 1) := by decide +kernel
theorem dX6_readTerm_82 : decode cX6_readTerm 82 = .ok (.ireturn, 1) := by decide +kernel
theorem dX6_readPower_0 : decode cX6_readPower 0 = .ok (.aload_n 0, 1) := by decide +kernel
theorem dX6_readPower_1 : decode cX6_readPower 1 = .ok (.invokevirtual 46, 3) := by decide +kernel
theorem dX6_readPower_4 : decode cX6_readPower 4 = .ok (.istore_n 1, 1) := by decide +kernel
theorem dX6_readPower_5 : decode cX6_readPower 5 = .ok (.aload_n 0, 1) := by decide +kernel
theorem dX6_readPower_6 : decode cX6_readPower 6 = .ok (.iconst 1, 1) := by decide +kernel
theorem dX6_readPower_7 : decode cX6_readPower 7 = .ok (.putfield 33, 3) := by decide +kernel
theorem dX6_readPower_10 : decode cX6_readPower 10 = .ok (.iload_n 1, 1) := by decide +kernel
theorem dX6_readPower_11 : decode cX6_readPower 11 = .ok (.bipush 50, 2) := by decide +kernel
theorem dX6_readPower_13 : decode cX6_readPower 13 = .ok (.if_icmp .lt 27, 3) := by decide +kernel
theorem dX6_readPower_16 : decode cX6_readPower 16 = .ok (.iload_n 1, 1) := by decide +kernel
theorem dX6_readPower_17 : decode cX6_readPower 17 = .ok (.bipush 52, 2) := by decide +kernel
theorem dX6_readPower_19 : decode cX6_readPower 19 = .ok (.if_icmp .gt 21, 3) := by decide +kernel
theorem dX6_readPower_22 : decode cX6_readPower 22 = .ok (.aload_n 0, 1) := by decide +kernel
theorem dX6_readPower_23 : decode cX6_readPower 23 = .ok (.iload_n 1, 1) := by decide +kernel
theorem dX6_readPower_24 : decode cX6_readPower 24 = .ok (.bipush 48, 2) := by decide +kernel
theorem dX6_readPower_26 : decode cX6_readPower 26 = .ok (.isub, 1) := by decide +kernel
theorem dX6_readPower_27 : decode cX6_readPower 27 = .ok (.putfield 33, 3) := by decide +kernel
theorem dX6_readPower_30 : decode cX6_readPower 30 = .ok (.aload_n 0, 1) := by decide +kernel
theorem dX6_readPower_31 : decode cX6_readPower 31 = .ok (.dup, 1) := by decide +kernel
theorem dX6_readPower_32 : decode cX6_readPower 32 = .ok (.getfield 27, 3) := by decide +kernel
theorem dX6_readPower_35 : decode cX6_readPower 35 = .ok (.iconst 1, 1) := by decide +kernel
theorem dX6_readPower_36 : decode cX6_readPower 36 = .ok (.iadd, 1) := by decide +kernel
theorem dX6_readPower_37 : decode cX6_readPower 37 = .ok (.putfield 27, 3) := by decide +kernel
theorem dX6_readPower_40 : decode cX6_readPower 40 = .ok (.return_, 1) := by decide +kernel
theorem dX6_nextLetter_0 : decode cX6_nextLetter 0 = .ok (.aload_n 0, 1) := by decide +kernel
theorem dX6_nextLetter_1 : decode cX6_nextLetter 1 = .ok (.getfield 27, 3) := by decide +kernel
theorem dX6_nextLetter_4 : decode cX6_nextLetter 4 = .ok (.aload_n 0, 1) := by decide +kernel
theorem dX6_nextLetter_5 : decode cX6_nextLetter 5 = .ok (.getfield 23, 3) := by decide +kernel
theorem dX6_nextLetter_8 : decode cX6_nextLetter 8 = .ok (.if_icmp .ge 30, 3) := by decide +kernel
theorem dX6_nextLetter_11 : decode cX6_nextLetter 11 = .ok (.aload_n 0, 1) := by decide +kernel
theorem dX6_nextLetter_12 : decode cX6_nextLetter 12 = .ok (.getfield 11, 3) := by decide +kernel
theorem dX6_nextLetter_15 : decode cX6_nextLetter 15 = .ok (.aload_n 0, 1) := by decide +kernel
theorem dX6_nextLetter_16 : decode cX6_nextLetter 16 = .ok (.getfield 27, 3) := by decide +kernel
theorem dX6_nextLetter_19 : decode cX6_nextLetter 19 = .ok (.baload, 1) := by decide +kernel
theorem dX6_nextLetter_20 : decode cX6_nextLetter 20 = .ok (.bipush 32, 2) := by decide +kernel
theorem dX6_nextLetter_22 : decode cX6_nextLetter 22 = .ok (.if_icmp .ne 16, 3) := by decide +kernel
theorem dX6_nextLetter_25 : decode cX6_nextLetter 25 = .ok (.aload_n 0, 1) := by decide +kernel
theorem dX6_nextLetter_26 : decode cX6_nextLetter 26 = .ok (.dup, 1) := by decide +kernel
theorem dX6_nextLetter_27 : decode cX6_nextLetter 27 = .ok (.getfield 27, 3) := by decide +kernel
theorem dX6_nextLetter_30 : decode cX6_nextLetter 30 = .ok (.iconst 1, 1) := by decide +kernel
theorem dX6_nextLetter_31 : decode cX6_nextLetter 31 = .ok (.iadd, 1) := by decide +kernel
theorem dX6_nextLetter_32 : decode cX6_nextLetter 32 = .ok (.putfield 27, 3) := by decide +kernel
theorem dX6_nextLetter_35 : decode cX6_nextLetter 35 = .ok (.goto (-35), 3) := by decide +kernel
theorem dX6_nextLetter_38 : decode cX6_nextLetter 38 = .ok (.aload_n 0, 1) := by decide +kernel
theorem dX6_nextLetter_39 : decode cX6_nextLetter 39 = .ok (.getfield 27, 3) := by decide +kernel
theorem dX6_nextLetter_42 : decode cX6_nextLetter 42 = .ok (.ifCond .lt 26, 3) := by decide +kernel
theorem dX6_nextLetter_45 : decode cX6_nextLetter 45 = .ok (.aload_n 0, 1) := by decide +kernel
theorem dX6_nextLetter_46 : decode cX6_nextLetter 46 = .ok (.getfield 27, 3) := by decide +kernel
theorem dX6_nextLetter_49 : decode cX6_nextLetter 49 = .ok (.aload_n 0, 1) := by decide +kernel
theorem dX6_nextLetter_50 : decode cX6_nextLetter 50 = .ok (.getfield 23, 3) := by decide +kernel
theorem dX6_nextLetter_53 : decode cX6_nextLetter 53 = .ok (.if_icmp .ge 15, 3) := by decide +kernel
theorem dX6_nextLetter_56 : decode cX6_nextLetter 56 = .ok (.aload_n 0, 1) := by decide +kernel
theorem dX6_nextLetter_57 : decode cX6_nextLetter 57 = .ok (.getfield 11, 3) := by decide +kernel
theorem dX6_nextLetter_60 : decode cX6_nextLetter 60 = .ok (.aload_n 0, 1) := by decide +kernel
theorem dX6_nextLetter_61 : decode cX6_nextLetter 61 = .ok (.getfield 27, 3) := by decide +kernel
theorem dX6_nextLetter_64 : decode cX6_nextLetter 64 = .ok (.baload, 1) := by decide +kernel
theorem dX6_nextLetter_65 : decode cX6_nextLetter 65 = .ok (.goto 4, 3) := by decide +kernel
theorem dX6_nextLetter_68 : decode cX6_nextLetter 68 = .ok (.iconst (-1), 1) := by decide +kernel
theorem dX6_nextLetter_69 : decode cX6_nextLetter 69 = .ok (.ireturn, 1) := by decide +kernel
theorem dX7_init_0 : decode cX7_init 0 = .ok (.aload_n 0, 1) := by decide +kernel
theorem dX7_init_1 : decode cX7_init 1 = .ok (.invokespecial 3, 3) := by decide +kernel
theorem dX7_init_4 : decode cX7_init 4 = .ok (.aload_n 0, 1) := by decide +kernel
theorem dX7_init_5 : decode cX7_init 5 = .ok (.new 9, 3) := by decide +kernel
theorem dX7_init_8 : decode cX7_init 8 = .ok (.dup, 1) := by decide +kernel
theorem dX7_init_9 : decode cX7_init 9 = .ok (.invokespecial 11, 3) := by decide +kernel
theorem dX7_init_12 : decode cX7_init 12 = .ok (.putfield 12, 3) := by decide +kernel
theorem dX7_init_15 : decode cX7_init 15 = .ok (.aload_n 0, 1) := by decide +kernel
theorem dX7_init_16 : decode cX7_init 16 = .ok (.getfield 12, 3) := by decide +kernel
theorem dX7_init_19 : decode cX7_init 19 = .ok (.invokevirtual 16, 3) := by decide +kernel
theorem dX7_init_22 : decode cX7_init 22 = .ok (.aload_n 0, 1) := by decide +kernel
theorem dX7_init_23 : decode cX7_init 23 = .ok (.new 19, 3) := by decide +kernel
theorem dX7_init_26 : decode cX7_init 26 = .ok (.dup, 1) := by decide +kernel
theorem dX7_init_27 : decode cX7_init 27 = .ok (.invokespecial 21, 3) := by decide +kernel
theorem dX7_init_30 : decode cX7_init 30 = .ok (.putfield 22, 3) := by decide +kernel
theorem dX7_init_33 : decode cX7_init 33 = .ok (.aload_n 0, 1) := by decide +kernel
theorem dX7_init_34 : decode cX7_init 34 = .ok (.new 9, 3) := by decide +kernel
theorem dX7_init_37 : decode cX7_init 37 = .ok (.dup, 1) := by decide +kernel
theorem dX7_init_38 : decode cX7_init 38 = .ok (.invokespecial 11, 3) := by decide +kernel
theorem dX7_init_41 : decode cX7_init 41 = .ok (.putfield 26, 3) := by decide +kernel
theorem dX7_init_44 : decode cX7_init 44 = .ok (.aload_n 0, 1) := by decide +kernel
theorem dX7_init_45 : decode cX7_init 45 = .ok (.new 19, 3) := by decide +kernel
theorem dX7_init_48 : decode cX7_init 48 = .ok (.dup, 1) := by decide +kernel
theorem dX7_init_49 : decode cX7_init 49 = .ok (.invokespecial 21, 3) := by decide +kernel
theorem dX7_init_52 : decode cX7_init 52 = .ok (.putfield 29, 3) := by decide +kernel
theorem dX7_init_55 : decode cX7_init 55 = .ok (.aload_n 0, 1) := by decide +kernel
theorem dX7_init_56 : decode cX7_init 56 = .ok (.iconst 0, 1) := by decide +kernel
theorem dX7_init_57 : decode cX7_init 57 = .ok (.putfield 32, 3) := by decide +kernel
theorem dX7_init_60 : decode cX7_init 60 = .ok (.aload_n 0, 1) := by decide +kernel
theorem dX7_init_61 : decode cX7_init 61 = .ok (.new 36, 3) := by decide +kernel
theorem dX7_init_64 : decode cX7_init 64 = .ok (.dup, 1) := by decide +kernel
theorem dX7_init_65 : decode cX7_init 65 = .ok (.invokespecial 38, 3) := by decide +kernel
theorem dX7_init_68 : decode cX7_init 68 = .ok (.putfield 39, 3) := by decide +kernel
theorem dX7_init_71 : decode cX7_init 71 = .ok (.aload_n 0, 1) := by decide +kernel
theorem dX7_init_72 : decode cX7_init 72 = .ok (.new 43, 3) := by decide +kernel
theorem dX7_init_75 : decode cX7_init 75 = .ok (.dup, 1) := by decide +kernel
theorem dX7_init_76 : decode cX7_init 76 = .ok (.invokespecial 45, 3) := by decide +kernel
theorem dX7_init_79 : decode cX7_init 79 = .ok (.putfield 46, 3) := by decide +kernel
theorem dX7_init_82 : decode cX7_init 82 = .ok (.aload_n 0, 1) := by decide +kernel
theorem dX7_init_83 : decode cX7_init 83 = .ok (.new 50, 3) := by decide +kernel
theorem dX7_init_86 : decode cX7_init 86 = .ok (.dup, 1) := by decide +kernel
theorem dX7_init_87 : decode cX7_init 87 = .ok (.invokespecial 52, 3) := by decide +kernel
theorem dX7_init_90 : decode cX7_init 90 = .ok (.putfield 53, 3) := by decide +kernel
theorem dX7_init_93 : decode cX7_init 93 = .ok (.aload_n 0, 1) := by decide +kernel
theorem dX7_init_94 : decode cX7_init 94 = .ok (.new 57, 3) := by decide +kernel
theorem dX7_init_97 : decode cX7_init 97 = .ok (.dup, 1) := by decide +kernel
theorem dX7_init_98 : decode cX7_init 98 = .ok (.iconst 0, 1) := by decide +kernel
theorem dX7_init_99 : decode cX7_init 99 = .ok (.invokespecial 59, 3) := by decide +kernel
theorem dX7_init_102 : decode cX7_init 102 = .ok (.putfield 62, 3) := by decide +kernel
theorem dX7_init_105 : decode cX7_init 105 = .ok (.aload_n 0, 1) := by decide +kernel
theorem dX7_init_106 : decode cX7_init 106 = .ok (.new 57, 3) := by decide +kernel
theorem dX7_init_109 : decode cX7_init 109 = .ok (.dup, 1) := by decide +kernel
theorem dX7_init_110 : decode cX7_init 110 = .ok (.iconst 1, 1) := by decide +kernel
theorem dX7_init_111 : decode cX7_init 111 = .ok (.invokespecial 59, 3) := by decide +kernel
theorem dX7_init_114 : decode cX7_init 114 = .ok (.putfield 66, 3) := by decide +kernel
theorem dX7_init_117 : decode cX7_init 117 = .ok (.aload_n 0, 1) := by decide +kernel
theorem dX7_init_118 : decode cX7_init 118 = .ok (.iconst 5, 1) := by decide +kernel
theorem dX7_init_119 : decode cX7_init 119 = .ok (.newarray .long, 2) := by decide +kernel
theorem dX7_init_121 : decode cX7_init 121 = .ok (.putfield 69, 3) := by decide +kernel
theorem dX7_init_124 : decode cX7_init 124 = .ok (.return_, 1) := by decide +kernel
theorem dX7_part_0 : decode cX7_part 0 = .ok (.iload_n 1, 1) := by decide +kernel
theorem dX7_part_1 : decode cX7_part 1 = .ok (.iconst 2, 1) := by decide +kernel
theorem dX7_part_2 : decode cX7_part 2 = .ok (.invokestatic 73, 3) := by decide +kernel
theorem dX7_part_5 : decode cX7_part 5 = .ok (.ifCond .eq 19, 3) := by decide +kernel
theorem dX7_part_8 : decode cX7_part 8 = .ok (.iload_n 2, 1) := by decide +kernel
theorem dX7_part_9 : decode cX7_part 9 = .ok (.iconst 5, 1) := by decide +kernel
theorem dX7_part_10 : decode cX7_part 10 = .ok (.invokestatic 73, 3) := by decide +kernel
theorem dX7_part_13 : decode cX7_part 13 = .ok (.ifCond .eq 11, 3) := by decide +kernel
theorem dX7_part_16 : decode cX7_part 16 = .ok (.iload_n 3, 1) := by decide +kernel
theorem dX7_part_17 : decode cX7_part 17 = .ok (.i2l, 1) := by decide +kernel
theorem dX7_part_18 : decode cX7_part 18 = .ok (.invokestatic 77, 3) := by decide +kernel
theorem dX7_part_21 : decode cX7_part 21 = .ok (.ifCond .ne 5, 3) := by decide +kernel
theorem dX7_part_24 : decode cX7_part 24 = .ok (.iconst (-1), 1) := by decide +kernel
theorem dX7_part_25 : decode cX7_part 25 = .ok (.ireturn, 1) := by decide +kernel
theorem dX7_part_26 : decode cX7_part 26 = .ok (.iload_n 1, 1) := by decide +kernel
theorem dX7_part_27 : decode cX7_part 27 = .ok (.iconst 5, 1) := by decide +kernel
theorem dX7_part_28 : decode cX7_part 28 = .ok (.imul, 1) := by decide +kernel
theorem dX7_part_29 : decode cX7_part 29 = .ok (.iload_n 2, 1) := by decide +kernel
theorem dX7_part_30 : decode cX7_part 30 = .ok (.iadd, 1) := by decide +kernel
theorem dX7_part_31 : decode cX7_part 31 = .ok (.istore 4, 2) := by decide +kernel
theorem dX7_part_33 : decode cX7_part 33 = .ok (.aload_n 0, 1) := by decide +kernel
theorem dX7_part_34 : decode cX7_part 34 = .ok (.getfield 12, 3) := by decide +kernel
theorem dX7_part_37 : decode cX7_part 37 = .ok (.getfield 81, 3) := by decide +kernel
theorem dX7_part_40 : decode cX7_part 40 = .ok (.iload 4, 2) := by decide +kernel
theorem dX7_part_42 : decode cX7_part 42 = .ok (.iaload, 1) := by decide +kernel
theorem dX7_part_43 : decode cX7_part 43 = .ok (.istore 5, 2) := by decide +kernel
theorem dX7_part_45 : decode cX7_part 45 = .ok (.iload 5, 2) := by decide +kernel
theorem dX7_part_47 : decode cX7_part 47 = .ok (.iload_n 3, 1) := by decide +kernel
theorem dX7_part_48 : decode cX7_part 48 = .ok (.if_icmp .ne 6, 3) := by decide +kernel
theorem dX7_part_51 : decode cX7_part 51 = .ok (.bipush (-2), 2) := by decide +kernel
theorem dX7_part_53 : decode cX7_part 53 = .ok (.ireturn, 1) := by decide +kernel
theorem dX7_part_54 : decode cX7_part 54 = .ok (.aload_n 0, 1) := by decide +kernel
theorem dX7_part_55 : decode cX7_part 55 = .ok (.getfield 22, 3) := by decide +kernel
theorem dX7_part_58 : decode cX7_part 58 = .ok (.aload_n 0, 1) := by decide +kernel
theorem dX7_part_59 : decode cX7_part 59 = .ok (.getfield 12, 3) := by decide +kernel
theorem dX7_part_62 : decode cX7_part 62 = .ok (.invokevirtual 85, 3) := by decide +kernel
theorem dX7_part_65 : decode cX7_part 65 = .ok (.aload_n 0, 1) := by decide +kernel
theorem dX7_part_66 : decode cX7_part 66 = .ok (.getfield 12, 3) := by decide +kernel
theorem dX7_part_69 : decode cX7_part 69 = .ok (.getfield 81, 3) := by decide +kernel
theorem dX7_part_72 : decode cX7_part 72 = .ok (.iload 4, 2) := by decide +kernel
theorem dX7_part_74 : decode cX7_part 74 = .ok (.iload_n 3, 1) := by decide +kernel
theorem dX7_part_75 : decode cX7_part 75 = .ok (.iastore, 1) := by decide +kernel
theorem dX7_part_76 : decode cX7_part 76 = .ok (.iload 5, 2) := by decide +kernel
theorem dX7_part_78 : decode cX7_part 78 = .ok (.bipush 9, 2) := by decide +kernel
theorem dX7_part_80 : decode cX7_part 80 = .ok (.iadd, 1) := by decide +kernel
theorem dX7_part_81 : decode cX7_part 81 = .ok (.ireturn, 1) := by decide +kernel
theorem dX7_gain_0 : decode cX7_gain 0 = .ok (.iload_n 1, 1) := by decide +kernel
theorem dX7_gain_1 : decode cX7_gain 1 = .ok (.invokestatic 89, 3) := by decide +kernel
theorem dX7_gain_4 : decode cX7_gain 4 = .ok (.ifCond .ne 5, 3) := by decide +kernel
theorem dX7_gain_7 : decode cX7_gain 7 = .ok (.iconst (-1), 1) := by decide +kernel
theorem dX7_gain_8 : decode cX7_gain 8 = .ok (.ireturn, 1) := by decide +kernel
theorem dX7_gain_9 : decode cX7_gain 9 = .ok (.aload_n 0, 1) := by decide +kernel
theorem dX7_gain_10 : decode cX7_gain 10 = .ok (.getfield 12, 3) := by decide +kernel
theorem dX7_gain_13 : decode cX7_gain 13 = .ok (.getfield 93, 3) := by decide +kernel
theorem dX7_gain_16 : decode cX7_gain 16 = .ok (.istore_n 2, 1) := by decide +kernel
theorem dX7_gain_17 : decode cX7_gain 17 = .ok (.iload_n 2, 1) := by decide +kernel
theorem dX7_gain_18 : decode cX7_gain 18 = .ok (.iload_n 1, 1) := by decide +kernel
theorem dX7_gain_19 : decode cX7_gain 19 = .ok (.if_icmp .ne 6, 3) := by decide +kernel
theorem dX7_gain_22 : decode cX7_gain 22 = .ok (.bipush (-2), 2) := by decide +kernel
theorem dX7_gain_24 : decode cX7_gain 24 = .ok (.ireturn, 1) := by decide +kernel
theorem dX7_gain_25 : decode cX7_gain 25 = .ok (.aload_n 0, 1) := by decide +kernel
theorem dX7_gain_26 : decode cX7_gain 26 = .ok (.getfield 22, 3) := by decide +kernel
theorem dX7_gain_29 : decode cX7_gain 29 = .ok (.aload_n 0, 1) := by decide +kernel
theorem dX7_gain_30 : decode cX7_gain 30 = .ok (.getfield 12, 3) := by decide +kernel
theorem dX7_gain_33 : decode cX7_gain 33 = .ok (.invokevirtual 85, 3) := by decide +kernel
theorem dX7_gain_36 : decode cX7_gain 36 = .ok (.aload_n 0, 1) := by decide +kernel
theorem dX7_gain_37 : decode cX7_gain 37 = .ok (.getfield 12, 3) := by decide +kernel
theorem dX7_gain_40 : decode cX7_gain 40 = .ok (.iload_n 1, 1) := by decide +kernel
theorem dX7_gain_41 : decode cX7_gain 41 = .ok (.putfield 93, 3) := by decide +kernel
theorem dX7_gain_44 : decode cX7_gain 44 = .ok (.iload_n 2, 1) := by decide +kernel
theorem dX7_gain_45 : decode cX7_gain 45 = .ok (.sipush 800, 3) := by decide +kernel
theorem dX7_gain_48 : decode cX7_gain 48 = .ok (.iadd, 1) := by decide +kernel
theorem dX7_gain_49 : decode cX7_gain 49 = .ok (.ireturn, 1) := by decide +kernel
theorem dX7_told_0 : decode cX7_told 0 = .ok (.iload_n 1, 1) := by decide +kernel
theorem dX7_told_1 : decode cX7_told 1 = .ok (.iconst 2, 1) := by decide +kernel
theorem dX7_told_2 : decode cX7_told 2 = .ok (.invokestatic 73, 3) := by decide +kernel
theorem dX7_told_5 : decode cX7_told 5 = .ok (.ifCond .eq 11, 3) := by decide +kernel
theorem dX7_told_8 : decode cX7_told 8 = .ok (.iload_n 2, 1) := by decide +kernel
theorem dX7_told_9 : decode cX7_told 9 = .ok (.iconst 5, 1) := by decide +kernel
theorem dX7_told_10 : decode cX7_told 10 = .ok (.invokestatic 73, 3) := by decide +kernel
theorem dX7_told_13 : decode cX7_told 13 = .ok (.ifCond .ne 5, 3) := by decide +kernel
theorem dX7_told_16 : decode cX7_told 16 = .ok (.iconst (-1), 1) := by decide +kernel
theorem dX7_told_17 : decode cX7_told 17 = .ok (.ireturn, 1) := by decide +kernel
theorem dX7_told_18 : decode cX7_told 18 = .ok (.aload_n 0, 1) := by decide +kernel
theorem dX7_told_19 : decode cX7_told 19 = .ok (.getfield 12, 3) := by decide +kernel
theorem dX7_told_22 : decode cX7_told 22 = .ok (.getfield 81, 3) := by decide +kernel
theorem dX7_told_25 : decode cX7_told 25 = .ok (.iload_n 1, 1) := by decide +kernel
theorem dX7_told_26 : decode cX7_told 26 = .ok (.iconst 5, 1) := by decide +kernel
theorem dX7_told_27 : decode cX7_told 27 = .ok (.imul, 1) := by decide +kernel
theorem dX7_told_28 : decode cX7_told 28 = .ok (.iload_n 2, 1) := by decide +kernel
theorem dX7_told_29 : decode cX7_told 29 = .ok (.iadd, 1) := by decide +kernel
theorem dX7_told_30 : decode cX7_told 30 = .ok (.iaload, 1) := by decide +kernel
theorem dX7_told_31 : decode cX7_told 31 = .ok (.bipush 9, 2) := by decide +kernel
theorem dX7_told_33 : decode cX7_told 33 = .ok (.iadd, 1) := by decide +kernel
theorem dX7_told_34 : decode cX7_told 34 = .ok (.ireturn, 1) := by decide +kernel
theorem dX7_count_0 : decode cX7_count 0 = .ok (.iload_n 1, 1) := by decide +kernel
theorem dX7_count_1 : decode cX7_count 1 = .ok (.tableswitch 108 0 4 #[35, 47, 59, 71, 100], 35) := by decide +kernel
theorem dX7_count_36 : decode cX7_count 36 = .ok (.aload_n 0, 1) := by decide +kernel
theorem dX7_count_37 : decode cX7_count 37 = .ok (.getfield 12, 3) := by decide +kernel
theorem dX7_count_40 : decode cX7_count 40 = .ok (.getfield 93, 3) := by decide +kernel
theorem dX7_count_43 : decode cX7_count 43 = .ok (.sipush 800, 3) := by decide +kernel
theorem dX7_count_46 : decode cX7_count 46 = .ok (.iadd, 1) := by decide +kernel
theorem dX7_count_47 : decode cX7_count 47 = .ok (.ireturn, 1) := by decide +kernel
theorem dX7_count_48 : decode cX7_count 48 = .ok (.aload_n 0, 1) := by decide +kernel
theorem dX7_count_49 : decode cX7_count 49 = .ok (.getfield 12, 3) := by decide +kernel
theorem dX7_count_52 : decode cX7_count 52 = .ok (.iconst 0, 1) := by decide +kernel
theorem dX7_count_53 : decode cX7_count 53 = .ok (.invokevirtual 97, 3) := by decide +kernel
theorem dX7_count_56 : decode cX7_count 56 = .ok (.invokestatic 101, 3) := by decide +kernel
theorem dX7_count_59 : decode cX7_count 59 = .ok (.ireturn, 1) := by decide +kernel
theorem dX7_count_60 : decode cX7_count 60 = .ok (.aload_n 0, 1) := by decide +kernel
theorem dX7_count_61 : decode cX7_count 61 = .ok (.getfield 12, 3) := by decide +kernel
theorem dX7_count_64 : decode cX7_count 64 = .ok (.iconst 1, 1) := by decide +kernel
theorem dX7_count_65 : decode cX7_count 65 = .ok (.invokevirtual 97, 3) := by decide +kernel
theorem dX7_count_68 : decode cX7_count 68 = .ok (.invokestatic 101, 3) := by decide +kernel
theorem dX7_count_71 : decode cX7_count 71 = .ok (.ireturn, 1) := by decide +kernel
theorem dX7_count_72 : decode cX7_count 72 = .ok (.aload_n 0, 1) := by decide +kernel
theorem dX7_count_73 : decode cX7_count 73 = .ok (.getfield 12, 3) := by decide +kernel
theorem dX7_count_76 : decode cX7_count 76 = .ok (.aload_n 0, 1) := by decide +kernel
theorem dX7_count_77 : decode cX7_count 77 = .ok (.getfield 69, 3) := by decide +kernel
theorem dX7_count_80 : decode cX7_count 80 = .ok (.aload_n 0, 1) := by decide +kernel
theorem dX7_count_81 : decode cX7_count 81 = .ok (.getfield 12, 3) := by decide +kernel
theorem dX7_count_84 : decode cX7_count 84 = .ok (.getfield 93, 3) := by decide +kernel
theorem dX7_count_87 : decode cX7_count 87 = .ok (.invokevirtual 104, 3) := by decide +kernel
theorem dX7_count_90 : decode cX7_count 90 = .ok (.aload_n 0, 1) := by decide +kernel
theorem dX7_count_91 : decode cX7_count 91 = .ok (.getfield 69, 3) := by decide +kernel
theorem dX7_count_94 : decode cX7_count 94 = .ok (.invokestatic 108, 3) := by decide +kernel
theorem dX7_count_97 : decode cX7_count 97 = .ok (.invokestatic 101, 3) := by decide +kernel
theorem dX7_count_100 : decode cX7_count 100 = .ok (.ireturn, 1) := by decide +kernel
theorem dX7_count_101 : decode cX7_count 101 = .ok (.aload_n 0, 1) := by decide +kernel
theorem dX7_count_102 : decode cX7_count 102 = .ok (.getfield 22, 3) := by decide +kernel
theorem dX7_count_105 : decode cX7_count 105 = .ok (.getfield 112, 3) := by decide +kernel
theorem dX7_count_108 : decode cX7_count 108 = .ok (.ireturn, 1) := by decide +kernel
theorem dX7_count_109 : decode cX7_count 109 = .ok (.iconst (-1), 1) := by decide +kernel
theorem dX7_count_110 : decode cX7_count 110 = .ok (.ireturn, 1) := by decide +kernel
theorem dX7_roots_0 : decode cX7_roots 0 = .ok (.aload_n 0, 1) := by decide +kernel
theorem dX7_roots_1 : decode cX7_roots 1 = .ok (.iload_n 1, 1) := by decide +kernel
theorem dX7_roots_2 : decode cX7_roots 2 = .ok (.aload_n 0, 1) := by decide +kernel
theorem dX7_roots_3 : decode cX7_roots 3 = .ok (.getfield 12, 3) := by decide +kernel
theorem dX7_roots_6 : decode cX7_roots 6 = .ok (.getfield 93, 3) := by decide +kernel
theorem dX7_roots_9 : decode cX7_roots 9 = .ok (.iload_n 2, 1) := by decide +kernel
theorem dX7_roots_10 : decode cX7_roots 10 = .ok (.invokevirtual 115, 3) := by decide +kernel
theorem dX7_roots_13 : decode cX7_roots 13 = .ok (.ireturn, 1) := by decide +kernel
theorem dX7_at_0 : decode cX7_at 0 = .ok (.aload_n 0, 1) := by decide +kernel
theorem dX7_at_1 : decode cX7_at 1 = .ok (.iload_n 1, 1) := by decide +kernel
theorem dX7_at_2 : decode cX7_at 2 = .ok (.iload_n 2, 1) := by decide +kernel
theorem dX7_at_3 : decode cX7_at 3 = .ok (.iload_n 3, 1) := by decide +kernel
theorem dX7_at_4 : decode cX7_at 4 = .ok (.invokevirtual 115, 3) := by decide +kernel
theorem dX7_at_7 : decode cX7_at 7 = .ok (.ireturn, 1) := by decide +kernel
theorem dX7_row_0 : decode cX7_row 0 = .ok (.iload_n 1, 1) := by decide +kernel
theorem dX7_row_1 : decode cX7_row 1 = .ok (.ifCond .lt 19, 3) := by decide +kernel
theorem dX7_row_4 : decode cX7_row 4 = .ok (.iload_n 2, 1) := by decide +kernel
theorem dX7_row_5 : decode cX7_row 5 = .ok (.iconst 5, 1) := by decide +kernel
theorem dX7_row_6 : decode cX7_row 6 = .ok (.invokestatic 73, 3) := by decide +kernel
theorem dX7_row_9 : decode cX7_row 9 = .ok (.ifCond .eq 11, 3) := by decide +kernel
theorem dX7_row_12 : decode cX7_row 12 = .ok (.iload_n 3, 1) := by decide +kernel
theorem dX7_row_13 : decode cX7_row 13 = .ok (.iconst 2, 1) := by decide +kernel
theorem dX7_row_14 : decode cX7_row 14 = .ok (.invokestatic 73, 3) := by decide +kernel
theorem dX7_row_17 : decode cX7_row 17 = .ok (.ifCond .ne 7, 3) := by decide +kernel
theorem dX7_row_20 : decode cX7_row 20 = .ok (.ldc2_w 119, 3) := by decide +kernel
theorem dX7_row_23 : decode cX7_row 23 = .ok (.lreturn, 1) := by decide +kernel
theorem dX7_row_24 : decode cX7_row 24 = .ok (.aload_n 0, 1) := by decide +kernel
theorem dX7_row_25 : decode cX7_row 25 = .ok (.getfield 12, 3) := by decide +kernel
theorem dX7_row_28 : decode cX7_row 28 = .ok (.aload_n 0, 1) := by decide +kernel
theorem dX7_row_29 : decode cX7_row 29 = .ok (.getfield 69, 3) := by decide +kernel
theorem dX7_row_32 : decode cX7_row 32 = .ok (.aload_n 0, 1) := by decide +kernel
theorem dX7_row_33 : decode cX7_row 33 = .ok (.getfield 12, 3) := by decide +kernel
theorem dX7_row_36 : decode cX7_row 36 = .ok (.getfield 93, 3) := by decide +kernel
theorem dX7_row_39 : decode cX7_row 39 = .ok (.invokevirtual 104, 3) := by decide +kernel
theorem dX7_row_42 : decode cX7_row 42 = .ok (.aload_n 0, 1) := by decide +kernel
theorem dX7_row_43 : decode cX7_row 43 = .ok (.getfield 53, 3) := by decide +kernel
theorem dX7_row_46 : decode cX7_row 46 = .ok (.getfield 121, 3) := by decide +kernel
theorem dX7_row_49 : decode cX7_row 49 = .ok (.aload_n 0, 1) := by decide +kernel
theorem dX7_row_50 : decode cX7_row 50 = .ok (.getfield 69, 3) := by decide +kernel
theorem dX7_row_53 : decode cX7_row 53 = .ok (.invokevirtual 125, 3) := by decide +kernel
theorem dX7_row_56 : decode cX7_row 56 = .ok (.iload_n 1, 1) := by decide +kernel
theorem dX7_row_57 : decode cX7_row 57 = .ok (.aload_n 0, 1) := by decide +kernel
theorem dX7_row_58 : decode cX7_row 58 = .ok (.getfield 53, 3) := by decide +kernel
theorem dX7_row_61 : decode cX7_row 61 = .ok (.getfield 121, 3) := by decide +kernel
theorem dX7_row_64 : decode cX7_row 64 = .ok (.getfield 131, 3) := by decide +kernel
theorem dX7_row_67 : decode cX7_row 67 = .ok (.if_icmp .lt 7, 3) := by decide +kernel
theorem dX7_row_70 : decode cX7_row 70 = .ok (.ldc2_w 134, 3) := by decide +kernel
theorem dX7_row_73 : decode cX7_row 73 = .ok (.lreturn, 1) := by decide +kernel
theorem dX7_row_74 : decode cX7_row 74 = .ok (.aload_n 0, 1) := by decide +kernel
theorem dX7_row_75 : decode cX7_row 75 = .ok (.getfield 53, 3) := by decide +kernel
theorem dX7_row_78 : decode cX7_row 78 = .ok (.getfield 121, 3) := by decide +kernel
theorem dX7_row_81 : decode cX7_row 81 = .ok (.getfield 136, 3) := by decide +kernel
theorem dX7_row_84 : decode cX7_row 84 = .ok (.iload_n 1, 1) := by decide +kernel
theorem dX7_row_85 : decode cX7_row 85 = .ok (.aaload, 1) := by decide +kernel
theorem dX7_row_86 : decode cX7_row 86 = .ok (.iload_n 2, 1) := by decide +kernel
theorem dX7_row_87 : decode cX7_row 87 = .ok (.laload, 1) := by decide +kernel
theorem dX7_row_88 : decode cX7_row 88 = .ok (.lstore 4, 2) := by decide +kernel
theorem dX7_row_90 : decode cX7_row 90 = .ok (.iload_n 3, 1) := by decide +kernel
theorem dX7_row_91 : decode cX7_row 91 = .ok (.ifCond .ne 9, 3) := by decide +kernel
theorem dX7_row_94 : decode cX7_row 94 = .ok (.lload 4, 2) := by decide +kernel
theorem dX7_row_96 : decode cX7_row 96 = .ok (.invokestatic 140, 3) := by decide +kernel
theorem dX7_row_99 : decode cX7_row 99 = .ok (.lreturn, 1) := by decide +kernel
theorem dX7_row_100 : decode cX7_row 100 = .ok (.lload 4, 2) := by decide +kernel
theorem dX7_row_102 : decode cX7_row 102 = .ok (.lconst 0, 1) := by decide +kernel
theorem dX7_row_103 : decode cX7_row 103 = .ok (.lcmp, 1) := by decide +kernel
theorem dX7_row_104 : decode cX7_row 104 = .ok (.ifCond .ne 7, 3) := by decide +kernel
theorem dX7_row_107 : decode cX7_row 107 = .ok (.lconst 0, 1) := by decide +kernel
theorem dX7_row_108 : decode cX7_row 108 = .ok (.goto 17, 3) := by decide +kernel
theorem dX7_row_111 : decode cX7_row 111 = .ok (.lload 4, 2) := by decide +kernel
theorem dX7_row_113 : decode cX7_row 113 = .ok (.lconst 0, 1) := by decide +kernel
theorem dX7_row_114 : decode cX7_row 114 = .ok (.lcmp, 1) := by decide +kernel
theorem dX7_row_115 : decode cX7_row 115 = .ok (.ifCond .le 7, 3) := by decide +kernel
theorem dX7_row_118 : decode cX7_row 118 = .ok (.lconst 1, 1) := by decide +kernel
theorem dX7_row_119 : decode cX7_row 119 = .ok (.goto 6, 3) := by decide +kernel
theorem dX7_row_122 : decode cX7_row 122 = .ok (.ldc2_w 146, 3) := by decide +kernel
theorem dX7_row_125 : decode cX7_row 125 = .ok (.lreturn, 1) := by decide +kernel
theorem dX7_rows_0 : decode cX7_rows 0 = .ok (.aload_n 0, 1) := by decide +kernel
theorem dX7_rows_1 : decode cX7_rows 1 = .ok (.getfield 12, 3) := by decide +kernel
theorem dX7_rows_4 : decode cX7_rows 4 = .ok (.aload_n 0, 1) := by decide +kernel
theorem dX7_rows_5 : decode cX7_rows 5 = .ok (.getfield 69, 3) := by decide +kernel
theorem dX7_rows_8 : decode cX7_rows 8 = .ok (.aload_n 0, 1) := by decide +kernel
theorem dX7_rows_9 : decode cX7_rows 9 = .ok (.getfield 12, 3) := by decide +kernel
theorem dX7_rows_12 : decode cX7_rows 12 = .ok (.getfield 93, 3) := by decide +kernel
theorem dX7_rows_15 : decode cX7_rows 15 = .ok (.invokevirtual 104, 3) := by decide +kernel
theorem dX7_rows_18 : decode cX7_rows 18 = .ok (.aload_n 0, 1) := by decide +kernel
theorem dX7_rows_19 : decode cX7_rows 19 = .ok (.getfield 53, 3) := by decide +kernel
theorem dX7_rows_22 : decode cX7_rows 22 = .ok (.getfield 121, 3) := by decide +kernel
theorem dX7_rows_25 : decode cX7_rows 25 = .ok (.aload_n 0, 1) := by decide +kernel
theorem dX7_rows_26 : decode cX7_rows 26 = .ok (.getfield 69, 3) := by decide +kernel
theorem dX7_rows_29 : decode cX7_rows 29 = .ok (.invokevirtual 125, 3) := by decide +kernel
theorem dX7_rows_32 : decode cX7_rows 32 = .ok (.aload_n 0, 1) := by decide +kernel
theorem dX7_rows_33 : decode cX7_rows 33 = .ok (.getfield 53, 3) := by decide +kernel
theorem dX7_rows_36 : decode cX7_rows 36 = .ok (.getfield 121, 3) := by decide +kernel
theorem dX7_rows_39 : decode cX7_rows 39 = .ok (.getfield 131, 3) := by decide +kernel
theorem dX7_rows_42 : decode cX7_rows 42 = .ok (.ireturn, 1) := by decide +kernel
theorem dX7_span_0 : decode cX7_span 0 = .ok (.iload_n 1, 1) := by decide +kernel
theorem dX7_span_1 : decode cX7_span 1 = .ok (.iconst 2, 1) := by decide +kernel
theorem dX7_span_2 : decode cX7_span 2 = .ok (.invokestatic 73, 3) := by decide +kernel
theorem dX7_span_5 : decode cX7_span 5 = .ok (.ifCond .eq 15, 3) := by decide +kernel
theorem dX7_span_8 : decode cX7_span 8 = .ok (.iload_n 2, 1) := by decide +kernel
theorem dX7_span_9 : decode cX7_span 9 = .ok (.ifCond .lt 11, 3) := by decide +kernel
theorem dX7_span_12 : decode cX7_span 12 = .ok (.iload_n 3, 1) := by decide +kernel
theorem dX7_span_13 : decode cX7_span 13 = .ok (.iconst 2, 1) := by decide +kernel
theorem dX7_span_14 : decode cX7_span 14 = .ok (.invokestatic 73, 3) := by decide +kernel
theorem dX7_span_17 : decode cX7_span 17 = .ok (.ifCond .ne 5, 3) := by decide +kernel
theorem dX7_span_20 : decode cX7_span 20 = .ok (.iconst (-1), 1) := by decide +kernel
theorem dX7_span_21 : decode cX7_span 21 = .ok (.ireturn, 1) := by decide +kernel
theorem dX7_span_22 : decode cX7_span 22 = .ok (.aload_n 0, 1) := by decide +kernel
theorem dX7_span_23 : decode cX7_span 23 = .ok (.iload_n 1, 1) := by decide +kernel
theorem dX7_span_24 : decode cX7_span 24 = .ok (.invokevirtual 148, 3) := by decide +kernel
theorem dX7_span_27 : decode cX7_span 27 = .ok (.astore 4, 2) := by decide +kernel
theorem dX7_span_29 : decode cX7_span 29 = .ok (.iload_n 2, 1) := by decide +kernel
theorem dX7_span_30 : decode cX7_span 30 = .ok (.aload 4, 2) := by decide +kernel
theorem dX7_span_32 : decode cX7_span 32 = .ok (.getfield 152, 3) := by decide +kernel
theorem dX7_span_35 : decode cX7_span 35 = .ok (.if_icmp .ge 13, 3) := by decide +kernel
theorem dX7_span_38 : decode cX7_span 38 = .ok (.aload 4, 2) := by decide +kernel
theorem dX7_span_40 : decode cX7_span 40 = .ok (.iload_n 2, 1) := by decide +kernel
theorem dX7_span_41 : decode cX7_span 41 = .ok (.iload_n 3, 1) := by decide +kernel
theorem dX7_span_42 : decode cX7_span 42 = .ok (.invokevirtual 153, 3) := by decide +kernel
theorem dX7_span_45 : decode cX7_span 45 = .ok (.goto 5, 3) := by decide +kernel
theorem dX7_span_48 : decode cX7_span 48 = .ok (.bipush (-4), 2) := by decide +kernel
theorem dX7_span_50 : decode cX7_span 50 = .ok (.ireturn, 1) := by decide +kernel
theorem dX7_widest_0 : decode cX7_widest 0 = .ok (.iload_n 1, 1) := by decide +kernel
theorem dX7_widest_1 : decode cX7_widest 1 = .ok (.iconst 2, 1) := by decide +kernel
theorem dX7_widest_2 : decode cX7_widest 2 = .ok (.invokestatic 73, 3) := by decide +kernel
theorem dX7_widest_5 : decode cX7_widest 5 = .ok (.ifCond .eq 15, 3) := by decide +kernel
theorem dX7_widest_8 : decode cX7_widest 8 = .ok (.iload_n 2, 1) := by decide +kernel
theorem dX7_widest_9 : decode cX7_widest 9 = .ok (.ifCond .lt 11, 3) := by decide +kernel
theorem dX7_widest_12 : decode cX7_widest 12 = .ok (.iload_n 3, 1) := by decide +kernel
theorem dX7_widest_13 : decode cX7_widest 13 = .ok (.iconst 2, 1) := by decide +kernel
theorem dX7_widest_14 : decode cX7_widest 14 = .ok (.invokestatic 73, 3) := by decide +kernel
theorem dX7_widest_17 : decode cX7_widest 17 = .ok (.ifCond .ne 5, 3) := by decide +kernel
theorem dX7_widest_20 : decode cX7_widest 20 = .ok (.iconst (-1), 1) := by decide +kernel
theorem dX7_widest_21 : decode cX7_widest 21 = .ok (.ireturn, 1) := by decide +kernel
theorem dX7_widest_22 : decode cX7_widest 22 = .ok (.aload_n 0, 1) := by decide +kernel
theorem dX7_widest_23 : decode cX7_widest 23 = .ok (.iload_n 1, 1) := by decide +kernel
theorem dX7_widest_24 : decode cX7_widest 24 = .ok (.invokevirtual 148, 3) := by decide +kernel
theorem dX7_widest_27 : decode cX7_widest 27 = .ok (.astore 4, 2) := by decide +kernel
theorem dX7_widest_29 : decode cX7_widest 29 = .ok (.iload_n 2, 1) := by decide +kernel
theorem dX7_widest_30 : decode cX7_widest 30 = .ok (.aload 4, 2) := by decide +kernel
theorem dX7_widest_32 : decode cX7_widest 32 = .ok (.getfield 152, 3) := by decide +kernel
theorem dX7_widest_35 : decode cX7_widest 35 = .ok (.if_icmp .ge 19, 3) := by decide +kernel
theorem dX7_widest_38 : decode cX7_widest 38 = .ok (.aload 4, 2) := by decide +kernel
theorem dX7_widest_40 : decode cX7_widest 40 = .ok (.aload 4, 2) := by decide +kernel
theorem dX7_widest_42 : decode cX7_widest 42 = .ok (.getfield 157, 3) := by decide +kernel
theorem dX7_widest_45 : decode cX7_widest 45 = .ok (.iload_n 2, 1) := by decide +kernel
theorem dX7_widest_46 : decode cX7_widest 46 = .ok (.iaload, 1) := by decide +kernel
theorem dX7_widest_47 : decode cX7_widest 47 = .ok (.iload_n 3, 1) := by decide +kernel
theorem dX7_widest_48 : decode cX7_widest 48 = .ok (.invokevirtual 153, 3) := by decide +kernel
theorem dX7_widest_51 : decode cX7_widest 51 = .ok (.goto 5, 3) := by decide +kernel
theorem dX7_widest_54 : decode cX7_widest 54 = .ok (.bipush (-4), 2) := by decide +kernel
theorem dX7_widest_56 : decode cX7_widest 56 = .ok (.ireturn, 1) := by decide +kernel
theorem dX7_spans_0 : decode cX7_spans 0 = .ok (.iload_n 1, 1) := by decide +kernel
theorem dX7_spans_1 : decode cX7_spans 1 = .ok (.iconst 2, 1) := by decide +kernel
theorem dX7_spans_2 : decode cX7_spans 2 = .ok (.invokestatic 73, 3) := by decide +kernel
theorem dX7_spans_5 : decode cX7_spans 5 = .ok (.ifCond .eq 11, 3) := by decide +kernel
theorem dX7_spans_8 : decode cX7_spans 8 = .ok (.iload_n 2, 1) := by decide +kernel
theorem dX7_spans_9 : decode cX7_spans 9 = .ok (.iconst 2, 1) := by decide +kernel
theorem dX7_spans_10 : decode cX7_spans 10 = .ok (.invokestatic 73, 3) := by decide +kernel
theorem dX7_spans_13 : decode cX7_spans 13 = .ok (.ifCond .ne 5, 3) := by decide +kernel
theorem dX7_spans_16 : decode cX7_spans 16 = .ok (.iconst (-1), 1) := by decide +kernel
theorem dX7_spans_17 : decode cX7_spans 17 = .ok (.ireturn, 1) := by decide +kernel
theorem dX7_spans_18 : decode cX7_spans 18 = .ok (.aload_n 0, 1) := by decide +kernel
theorem dX7_spans_19 : decode cX7_spans 19 = .ok (.iload_n 1, 1) := by decide +kernel
theorem dX7_spans_20 : decode cX7_spans 20 = .ok (.invokevirtual 148, 3) := by decide +kernel
theorem dX7_spans_23 : decode cX7_spans 23 = .ok (.astore_n 3, 1) := by decide +kernel
theorem dX7_spans_24 : decode cX7_spans 24 = .ok (.iload_n 2, 1) := by decide +kernel
theorem dX7_spans_25 : decode cX7_spans 25 = .ok (.ifCond .ne 10, 3) := by decide +kernel
theorem dX7_spans_28 : decode cX7_spans 28 = .ok (.aload_n 3, 1) := by decide +kernel
theorem dX7_spans_29 : decode cX7_spans 29 = .ok (.getfield 152, 3) := by decide +kernel
theorem dX7_spans_32 : decode cX7_spans 32 = .ok (.goto 7, 3) := by decide +kernel
theorem dX7_spans_35 : decode cX7_spans 35 = .ok (.aload_n 3, 1) := by decide +kernel
theorem dX7_spans_36 : decode cX7_spans 36 = .ok (.getfield 160, 3) := by decide +kernel
theorem dX7_spans_39 : decode cX7_spans 39 = .ok (.ireturn, 1) := by decide +kernel
theorem dX7_corners_0 : decode cX7_corners 0 = .ok (.iload_n 1, 1) := by decide +kernel
theorem dX7_corners_1 : decode cX7_corners 1 = .ok (.ifCond .lt 9, 3) := by decide +kernel
theorem dX7_corners_4 : decode cX7_corners 4 = .ok (.iload_n 1, 1) := by decide +kernel
theorem dX7_corners_5 : decode cX7_corners 5 = .ok (.bipush 9, 2) := by decide +kernel
theorem dX7_corners_7 : decode cX7_corners 7 = .ok (.if_icmp .le 5, 3) := by decide +kernel
theorem dX7_corners_10 : decode cX7_corners 10 = .ok (.iconst (-1), 1) := by decide +kernel
theorem dX7_corners_11 : decode cX7_corners 11 = .ok (.ireturn, 1) := by decide +kernel
end
section
theorem dX7_corners_12 : decode cX7_corners 12 = .ok (.iconst 0, 1) := by decide +kernel
theorem dX7_corners_13 : decode cX7_corners 13 = .ok (.istore_n 2, 1) := by decide +kernel
theorem dX7_corners_14 : decode cX7_corners 14 = .ok (.iconst 0, 1) := by decide +kernel
theorem dX7_corners_15 : decode cX7_corners 15 = .ok (.istore_n 3, 1) := by decide +kernel
theorem dX7_corners_16 : decode cX7_corners 16 = .ok (.iload_n 3, 1) := by decide +kernel
theorem dX7_corners_17 : decode cX7_corners 17 = .ok (.iconst 4, 1) := by decide +kernel
theorem dX7_corners_18 : decode cX7_corners 18 = .ok (.if_icmp .ge 73, 3) := by decide +kernel
theorem dX7_corners_21 : decode cX7_corners 21 = .ok (.iconst 0, 1) := by decide +kernel
theorem dX7_corners_22 : decode cX7_corners 22 = .ok (.istore 4, 2) := by decide +kernel
theorem dX7_corners_24 : decode cX7_corners 24 = .ok (.iload 4, 2) := by decide +kernel
theorem dX7_corners_26 : decode cX7_corners 26 = .ok (.iconst 5, 1) := by decide +kernel
theorem dX7_corners_27 : decode cX7_corners 27 = .ok (.if_icmp .ge 40, 3) := by decide +kernel
theorem dX7_corners_30 : decode cX7_corners 30 = .ok (.aload_n 0, 1) := by decide +kernel
theorem dX7_corners_31 : decode cX7_corners 31 = .ok (.getfield 69, 3) := by decide +kernel
theorem dX7_corners_34 : decode cX7_corners 34 = .ok (.iload 4, 2) := by decide +kernel
theorem dX7_corners_36 : decode cX7_corners 36 = .ok (.aload_n 0, 1) := by decide +kernel
theorem dX7_corners_37 : decode cX7_corners 37 = .ok (.getfield 12, 3) := by decide +kernel
theorem dX7_corners_40 : decode cX7_corners 40 = .ok (.getfield 81, 3) := by decide +kernel
theorem dX7_corners_43 : decode cX7_corners 43 = .ok (.iload 4, 2) := by decide +kernel
theorem dX7_corners_45 : decode cX7_corners 45 = .ok (.iaload, 1) := by decide +kernel
theorem dX7_corners_46 : decode cX7_corners 46 = .ok (.iload_n 1, 1) := by decide +kernel
theorem dX7_corners_47 : decode cX7_corners 47 = .ok (.getstatic 163, 3) := by decide +kernel
theorem dX7_corners_50 : decode cX7_corners 50 = .ok (.iload_n 3, 1) := by decide +kernel
theorem dX7_corners_51 : decode cX7_corners 51 = .ok (.iconst 5, 1) := by decide +kernel
theorem dX7_corners_52 : decode cX7_corners 52 = .ok (.imul, 1) := by decide +kernel
theorem dX7_corners_53 : decode cX7_corners 53 = .ok (.iload 4, 2) := by decide +kernel
theorem dX7_corners_55 : decode cX7_corners 55 = .ok (.iadd, 1) := by decide +kernel
theorem dX7_corners_56 : decode cX7_corners 56 = .ok (.iaload, 1) := by decide +kernel
theorem dX7_corners_57 : decode cX7_corners 57 = .ok (.imul, 1) := by decide +kernel
theorem dX7_corners_58 : decode cX7_corners 58 = .ok (.iadd, 1) := by decide +kernel
theorem dX7_corners_59 : decode cX7_corners 59 = .ok (.i2l, 1) := by decide +kernel
theorem dX7_corners_60 : decode cX7_corners 60 = .ok (.lastore, 1) := by decide +kernel
theorem dX7_corners_61 : decode cX7_corners 61 = .ok (.iinc 4 1, 3) := by decide +kernel
theorem dX7_corners_64 : decode cX7_corners 64 = .ok (.goto (-40), 3) := by decide +kernel
theorem dX7_corners_67 : decode cX7_corners 67 = .ok (.aload_n 0, 1) := by decide +kernel
theorem dX7_corners_68 : decode cX7_corners 68 = .ok (.getfield 53, 3) := by decide +kernel
theorem dX7_corners_71 : decode cX7_corners 71 = .ok (.iconst 0, 1) := by decide +kernel
theorem dX7_corners_72 : decode cX7_corners 72 = .ok (.aload_n 0, 1) := by decide +kernel
theorem dX7_corners_73 : decode cX7_corners 73 = .ok (.getfield 69, 3) := by decide +kernel
theorem dX7_corners_76 : decode cX7_corners 76 = .ok (.invokevirtual 166, 3) := by decide +kernel
theorem dX7_corners_79 : decode cX7_corners 79 = .ok (.ifCond .eq 6, 3) := by decide +kernel
theorem dX7_corners_82 : decode cX7_corners 82 = .ok (.iinc 2 1, 3) := by decide +kernel
theorem dX7_corners_85 : decode cX7_corners 85 = .ok (.iinc 3 1, 3) := by decide +kernel
theorem dX7_corners_88 : decode cX7_corners 88 = .ok (.goto (-72), 3) := by decide +kernel
theorem dX7_corners_91 : decode cX7_corners 91 = .ok (.iload_n 2, 1) := by decide +kernel
theorem dX7_corners_92 : decode cX7_corners 92 = .ok (.ireturn, 1) := by decide +kernel
theorem dX7_neighbours_0 : decode cX7_neighbours 0 = .ok (.iload_n 1, 1) := by decide +kernel
theorem dX7_neighbours_1 : decode cX7_neighbours 1 = .ok (.iconst 2, 1) := by decide +kernel
theorem dX7_neighbours_2 : decode cX7_neighbours 2 = .ok (.invokestatic 73, 3) := by decide +kernel
theorem dX7_neighbours_5 : decode cX7_neighbours 5 = .ok (.ifCond .ne 5, 3) := by decide +kernel
theorem dX7_neighbours_8 : decode cX7_neighbours 8 = .ok (.iconst (-1), 1) := by decide +kernel
theorem dX7_neighbours_9 : decode cX7_neighbours 9 = .ok (.ireturn, 1) := by decide +kernel
theorem dX7_neighbours_10 : decode cX7_neighbours 10 = .ok (.iconst 0, 1) := by decide +kernel
theorem dX7_neighbours_11 : decode cX7_neighbours 11 = .ok (.istore_n 2, 1) := by decide +kernel
theorem dX7_neighbours_12 : decode cX7_neighbours 12 = .ok (.iconst 0, 1) := by decide +kernel
theorem dX7_neighbours_13 : decode cX7_neighbours 13 = .ok (.istore_n 3, 1) := by decide +kernel
theorem dX7_neighbours_14 : decode cX7_neighbours 14 = .ok (.iload_n 3, 1) := by decide +kernel
theorem dX7_neighbours_15 : decode cX7_neighbours 15 = .ok (.sipush 243, 3) := by decide +kernel
theorem dX7_neighbours_18 : decode cX7_neighbours 18 = .ok (.if_icmp .ge 76, 3) := by decide +kernel
theorem dX7_neighbours_21 : decode cX7_neighbours 21 = .ok (.iload_n 3, 1) := by decide +kernel
theorem dX7_neighbours_22 : decode cX7_neighbours 22 = .ok (.istore 4, 2) := by decide +kernel
theorem dX7_neighbours_24 : decode cX7_neighbours 24 = .ok (.iconst 0, 1) := by decide +kernel
theorem dX7_neighbours_25 : decode cX7_neighbours 25 = .ok (.istore 5, 2) := by decide +kernel
theorem dX7_neighbours_27 : decode cX7_neighbours 27 = .ok (.iload 5, 2) := by decide +kernel
theorem dX7_neighbours_29 : decode cX7_neighbours 29 = .ok (.iconst 5, 1) := by decide +kernel
theorem dX7_neighbours_30 : decode cX7_neighbours 30 = .ok (.if_icmp .ge 40, 3) := by decide +kernel
theorem dX7_neighbours_33 : decode cX7_neighbours 33 = .ok (.aload_n 0, 1) := by decide +kernel
theorem dX7_neighbours_34 : decode cX7_neighbours 34 = .ok (.getfield 69, 3) := by decide +kernel
theorem dX7_neighbours_37 : decode cX7_neighbours 37 = .ok (.iload 5, 2) := by decide +kernel
theorem dX7_neighbours_39 : decode cX7_neighbours 39 = .ok (.aload_n 0, 1) := by decide +kernel
theorem dX7_neighbours_40 : decode cX7_neighbours 40 = .ok (.getfield 12, 3) := by decide +kernel
theorem dX7_neighbours_43 : decode cX7_neighbours 43 = .ok (.getfield 81, 3) := by decide +kernel
theorem dX7_neighbours_46 : decode cX7_neighbours 46 = .ok (.iload 5, 2) := by decide +kernel
theorem dX7_neighbours_48 : decode cX7_neighbours 48 = .ok (.iaload, 1) := by decide +kernel
theorem dX7_neighbours_49 : decode cX7_neighbours 49 = .ok (.iload 4, 2) := by decide +kernel
theorem dX7_neighbours_51 : decode cX7_neighbours 51 = .ok (.iconst 3, 1) := by decide +kernel
theorem dX7_neighbours_52 : decode cX7_neighbours 52 = .ok (.irem, 1) := by decide +kernel
theorem dX7_neighbours_53 : decode cX7_neighbours 53 = .ok (.iadd, 1) := by decide +kernel
theorem dX7_neighbours_54 : decode cX7_neighbours 54 = .ok (.iconst 1, 1) := by decide +kernel
theorem dX7_neighbours_55 : decode cX7_neighbours 55 = .ok (.isub, 1) := by decide +kernel
theorem dX7_neighbours_56 : decode cX7_neighbours 56 = .ok (.i2l, 1) := by decide +kernel
theorem dX7_neighbours_57 : decode cX7_neighbours 57 = .ok (.lastore, 1) := by decide +kernel
theorem dX7_neighbours_58 : decode cX7_neighbours 58 = .ok (.iload 4, 2) := by decide +kernel
theorem dX7_neighbours_60 : decode cX7_neighbours 60 = .ok (.iconst 3, 1) := by decide +kernel
theorem dX7_neighbours_61 : decode cX7_neighbours 61 = .ok (.idiv, 1) := by decide +kernel
theorem dX7_neighbours_62 : decode cX7_neighbours 62 = .ok (.istore 4, 2) := by decide +kernel
theorem dX7_neighbours_64 : decode cX7_neighbours 64 = .ok (.iinc 5 1, 3) := by decide +kernel
theorem dX7_neighbours_67 : decode cX7_neighbours 67 = .ok (.goto (-40), 3) := by decide +kernel
theorem dX7_neighbours_70 : decode cX7_neighbours 70 = .ok (.aload_n 0, 1) := by decide +kernel
theorem dX7_neighbours_71 : decode cX7_neighbours 71 = .ok (.getfield 53, 3) := by decide +kernel
theorem dX7_neighbours_74 : decode cX7_neighbours 74 = .ok (.iload_n 1, 1) := by decide +kernel
theorem dX7_neighbours_75 : decode cX7_neighbours 75 = .ok (.aload_n 0, 1) := by decide +kernel
theorem dX7_neighbours_76 : decode cX7_neighbours 76 = .ok (.getfield 69, 3) := by decide +kernel
theorem dX7_neighbours_79 : decode cX7_neighbours 79 = .ok (.invokevirtual 166, 3) := by decide +kernel
theorem dX7_neighbours_82 : decode cX7_neighbours 82 = .ok (.ifCond .eq 6, 3) := by decide +kernel
theorem dX7_neighbours_85 : decode cX7_neighbours 85 = .ok (.iinc 2 1, 3) := by decide +kernel
theorem dX7_neighbours_88 : decode cX7_neighbours 88 = .ok (.iinc 3 1, 3) := by decide +kernel
theorem dX7_neighbours_91 : decode cX7_neighbours 91 = .ok (.goto (-77), 3) := by decide +kernel
theorem dX7_neighbours_94 : decode cX7_neighbours 94 = .ok (.iload_n 2, 1) := by decide +kernel
theorem dX7_neighbours_95 : decode cX7_neighbours 95 = .ok (.ireturn, 1) := by decide +kernel
theorem dX7_off_0 : decode cX7_off 0 = .ok (.iload_n 1, 1) := by decide +kernel
theorem dX7_off_1 : decode cX7_off 1 = .ok (.ifCond .lt 17, 3) := by decide +kernel
theorem dX7_off_4 : decode cX7_off 4 = .ok (.iload_n 1, 1) := by decide +kernel
theorem dX7_off_5 : decode cX7_off 5 = .ok (.bipush 10, 2) := by decide +kernel
theorem dX7_off_7 : decode cX7_off 7 = .ok (.if_icmp .gt 11, 3) := by decide +kernel
theorem dX7_off_10 : decode cX7_off 10 = .ok (.iload_n 2, 1) := by decide +kernel
theorem dX7_off_11 : decode cX7_off 11 = .ok (.iconst 2, 1) := by decide +kernel
theorem dX7_off_12 : decode cX7_off 12 = .ok (.invokestatic 73, 3) := by decide +kernel
theorem dX7_off_15 : decode cX7_off 15 = .ok (.ifCond .ne 5, 3) := by decide +kernel
theorem dX7_off_18 : decode cX7_off 18 = .ok (.iconst (-1), 1) := by decide +kernel
theorem dX7_off_19 : decode cX7_off 19 = .ok (.ireturn, 1) := by decide +kernel
theorem dX7_off_20 : decode cX7_off 20 = .ok (.iconst 0, 1) := by decide +kernel
theorem dX7_off_21 : decode cX7_off 21 = .ok (.istore_n 3, 1) := by decide +kernel
theorem dX7_off_22 : decode cX7_off 22 = .ok (.iconst 0, 1) := by decide +kernel
theorem dX7_off_23 : decode cX7_off 23 = .ok (.istore 4, 2) := by decide +kernel
theorem dX7_off_25 : decode cX7_off 25 = .ok (.iload 4, 2) := by decide +kernel
theorem dX7_off_27 : decode cX7_off 27 = .ok (.bipush 32, 2) := by decide +kernel
theorem dX7_off_29 : decode cX7_off 29 = .ok (.if_icmp .ge 77, 3) := by decide +kernel
theorem dX7_off_32 : decode cX7_off 32 = .ok (.iconst 0, 1) := by decide +kernel
theorem dX7_off_33 : decode cX7_off 33 = .ok (.istore 5, 2) := by decide +kernel
theorem dX7_off_35 : decode cX7_off 35 = .ok (.iload 5, 2) := by decide +kernel
theorem dX7_off_37 : decode cX7_off 37 = .ok (.iconst 5, 1) := by decide +kernel
theorem dX7_off_38 : decode cX7_off 38 = .ok (.if_icmp .ge 35, 3) := by decide +kernel
theorem dX7_off_41 : decode cX7_off 41 = .ok (.aload_n 0, 1) := by decide +kernel
theorem dX7_off_42 : decode cX7_off 42 = .ok (.getfield 69, 3) := by decide +kernel
theorem dX7_off_45 : decode cX7_off 45 = .ok (.iload 5, 2) := by decide +kernel
theorem dX7_off_47 : decode cX7_off 47 = .ok (.aload_n 0, 1) := by decide +kernel
theorem dX7_off_48 : decode cX7_off 48 = .ok (.getfield 12, 3) := by decide +kernel
theorem dX7_off_51 : decode cX7_off 51 = .ok (.getfield 81, 3) := by decide +kernel
theorem dX7_off_54 : decode cX7_off 54 = .ok (.iload 5, 2) := by decide +kernel
theorem dX7_off_56 : decode cX7_off 56 = .ok (.iaload, 1) := by decide +kernel
theorem dX7_off_57 : decode cX7_off 57 = .ok (.iload 4, 2) := by decide +kernel
theorem dX7_off_59 : decode cX7_off 59 = .ok (.iload 5, 2) := by decide +kernel
theorem dX7_off_61 : decode cX7_off 61 = .ok (.ishr, 1) := by decide +kernel
theorem dX7_off_62 : decode cX7_off 62 = .ok (.iconst 1, 1) := by decide +kernel
theorem dX7_off_63 : decode cX7_off 63 = .ok (.iand, 1) := by decide +kernel
theorem dX7_off_64 : decode cX7_off 64 = .ok (.iadd, 1) := by decide +kernel
theorem dX7_off_65 : decode cX7_off 65 = .ok (.i2l, 1) := by decide +kernel
theorem dX7_off_66 : decode cX7_off 66 = .ok (.lastore, 1) := by decide +kernel
theorem dX7_off_67 : decode cX7_off 67 = .ok (.iinc 5 1, 3) := by decide +kernel
theorem dX7_off_70 : decode cX7_off 70 = .ok (.goto (-35), 3) := by decide +kernel
theorem dX7_off_73 : decode cX7_off 73 = .ok (.aload_n 0, 1) := by decide +kernel
theorem dX7_off_74 : decode cX7_off 74 = .ok (.getfield 53, 3) := by decide +kernel
theorem dX7_off_77 : decode cX7_off 77 = .ok (.iconst 0, 1) := by decide +kernel
theorem dX7_off_78 : decode cX7_off 78 = .ok (.aload_n 0, 1) := by decide +kernel
theorem dX7_off_79 : decode cX7_off 79 = .ok (.getfield 69, 3) := by decide +kernel
theorem dX7_off_82 : decode cX7_off 82 = .ok (.invokevirtual 166, 3) := by decide +kernel
theorem dX7_off_85 : decode cX7_off 85 = .ok (.ifCond .eq 15, 3) := by decide +kernel
theorem dX7_off_88 : decode cX7_off 88 = .ok (.iload_n 3, 1) := by decide +kernel
theorem dX7_off_89 : decode cX7_off 89 = .ok (.iload_n 1, 1) := by decide +kernel
theorem dX7_off_90 : decode cX7_off 90 = .ok (.iload 4, 2) := by decide +kernel
theorem dX7_off_92 : decode cX7_off 92 = .ok (.invokestatic 170, 3) := by decide +kernel
theorem dX7_off_95 : decode cX7_off 95 = .ok (.invokestatic 175, 3) := by decide +kernel
theorem dX7_off_98 : decode cX7_off 98 = .ok (.iadd, 1) := by decide +kernel
theorem dX7_off_99 : decode cX7_off 99 = .ok (.istore_n 3, 1) := by decide +kernel
theorem dX7_off_100 : decode cX7_off 100 = .ok (.iinc 4 1, 3) := by decide +kernel
theorem dX7_off_103 : decode cX7_off 103 = .ok (.goto (-78), 3) := by decide +kernel
theorem dX7_off_106 : decode cX7_off 106 = .ok (.iload_n 3, 1) := by decide +kernel
theorem dX7_off_107 : decode cX7_off 107 = .ok (.i2l, 1) := by decide +kernel
theorem dX7_off_108 : decode cX7_off 108 = .ok (.ldc2_w 178, 3) := by decide +kernel
theorem dX7_off_111 : decode cX7_off 111 = .ok (.invokestatic 180, 3) := by decide +kernel
theorem dX7_off_114 : decode cX7_off 114 = .ok (.l2i, 1) := by decide +kernel
theorem dX7_off_115 : decode cX7_off 115 = .ok (.istore 4, 2) := by decide +kernel
theorem dX7_off_117 : decode cX7_off 117 = .ok (.iload 4, 2) := by decide +kernel
theorem dX7_off_119 : decode cX7_off 119 = .ok (.iconst 1, 1) := by decide +kernel
theorem dX7_off_120 : decode cX7_off 120 = .ok (.if_icmp .ge 6, 3) := by decide +kernel
theorem dX7_off_123 : decode cX7_off 123 = .ok (.iconst 1, 1) := by decide +kernel
theorem dX7_off_124 : decode cX7_off 124 = .ok (.istore 4, 2) := by decide +kernel
theorem dX7_off_126 : decode cX7_off 126 = .ok (.iload_n 2, 1) := by decide +kernel
theorem dX7_off_127 : decode cX7_off 127 = .ok (.ifCond .ne 10, 3) := by decide +kernel
theorem dX7_off_130 : decode cX7_off 130 = .ok (.iload_n 3, 1) := by decide +kernel
theorem dX7_off_131 : decode cX7_off 131 = .ok (.iload 4, 2) := by decide +kernel
theorem dX7_off_133 : decode cX7_off 133 = .ok (.idiv, 1) := by decide +kernel
theorem dX7_off_134 : decode cX7_off 134 = .ok (.goto 8, 3) := by decide +kernel
theorem dX7_off_137 : decode cX7_off 137 = .ok (.ldc 184, 2) := by decide +kernel
theorem dX7_off_139 : decode cX7_off 139 = .ok (.iload 4, 2) := by decide +kernel
theorem dX7_off_141 : decode cX7_off 141 = .ok (.idiv, 1) := by decide +kernel
theorem dX7_off_142 : decode cX7_off 142 = .ok (.ireturn, 1) := by decide +kernel
theorem dX7_type_0 : decode cX7_type 0 = .ok (.iload_n 1, 1) := by decide +kernel
theorem dX7_type_1 : decode cX7_type 1 = .ok (.bipush 32, 2) := by decide +kernel
theorem dX7_type_3 : decode cX7_type 3 = .ok (.if_icmp .lt 9, 3) := by decide +kernel
theorem dX7_type_6 : decode cX7_type 6 = .ok (.iload_n 1, 1) := by decide +kernel
theorem dX7_type_7 : decode cX7_type 7 = .ok (.bipush 126, 2) := by decide +kernel
theorem dX7_type_9 : decode cX7_type 9 = .ok (.if_icmp .le 5, 3) := by decide +kernel
theorem dX7_type_12 : decode cX7_type 12 = .ok (.iconst (-1), 1) := by decide +kernel
theorem dX7_type_13 : decode cX7_type 13 = .ok (.ireturn, 1) := by decide +kernel
theorem dX7_type_14 : decode cX7_type 14 = .ok (.aload_n 0, 1) := by decide +kernel
theorem dX7_type_15 : decode cX7_type 15 = .ok (.getfield 39, 3) := by decide +kernel
theorem dX7_type_18 : decode cX7_type 18 = .ok (.iload_n 1, 1) := by decide +kernel
theorem dX7_type_19 : decode cX7_type 19 = .ok (.invokevirtual 185, 3) := by decide +kernel
theorem dX7_type_22 : decode cX7_type 22 = .ok (.ifCond .eq 13, 3) := by decide +kernel
theorem dX7_type_25 : decode cX7_type 25 = .ok (.aload_n 0, 1) := by decide +kernel
theorem dX7_type_26 : decode cX7_type 26 = .ok (.getfield 39, 3) := by decide +kernel
theorem dX7_type_29 : decode cX7_type 29 = .ok (.getfield 188, 3) := by decide +kernel
theorem dX7_type_32 : decode cX7_type 32 = .ok (.goto 5, 3) := by decide +kernel
theorem dX7_type_35 : decode cX7_type 35 = .ok (.bipush (-3), 2) := by decide +kernel
theorem dX7_type_37 : decode cX7_type 37 = .ok (.ireturn, 1) := by decide +kernel
theorem dX7_read_0 : decode cX7_read 0 = .ok (.aload_n 0, 1) := by decide +kernel
theorem dX7_read_1 : decode cX7_read 1 = .ok (.getfield 39, 3) := by decide +kernel
theorem dX7_read_4 : decode cX7_read 4 = .ok (.invokevirtual 189, 3) := by decide +kernel
theorem dX7_read_7 : decode cX7_read 7 = .ok (.istore_n 1, 1) := by decide +kernel
theorem dX7_read_8 : decode cX7_read 8 = .ok (.aload_n 0, 1) := by decide +kernel
theorem dX7_read_9 : decode cX7_read 9 = .ok (.getfield 39, 3) := by decide +kernel
theorem dX7_read_12 : decode cX7_read 12 = .ok (.iconst 0, 1) := by decide +kernel
theorem dX7_read_13 : decode cX7_read 13 = .ok (.putfield 188, 3) := by decide +kernel
theorem dX7_read_16 : decode cX7_read 16 = .ok (.iload_n 1, 1) := by decide +kernel
theorem dX7_read_17 : decode cX7_read 17 = .ok (.iconst (-1), 1) := by decide +kernel
theorem dX7_read_18 : decode cX7_read 18 = .ok (.if_icmp .eq 8, 3) := by decide +kernel
theorem dX7_read_21 : decode cX7_read 21 = .ok (.bipush (-20), 2) := by decide +kernel
theorem dX7_read_23 : decode cX7_read 23 = .ok (.iload_n 1, 1) := by decide +kernel
theorem dX7_read_24 : decode cX7_read 24 = .ok (.isub, 1) := by decide +kernel
theorem dX7_read_25 : decode cX7_read 25 = .ok (.ireturn, 1) := by decide +kernel
theorem dX7_read_26 : decode cX7_read 26 = .ok (.aload_n 0, 1) := by decide +kernel
theorem dX7_read_27 : decode cX7_read 27 = .ok (.getfield 22, 3) := by decide +kernel
theorem dX7_read_30 : decode cX7_read 30 = .ok (.aload_n 0, 1) := by decide +kernel
theorem dX7_read_31 : decode cX7_read 31 = .ok (.getfield 12, 3) := by decide +kernel
theorem dX7_read_34 : decode cX7_read 34 = .ok (.invokevirtual 85, 3) := by decide +kernel
theorem dX7_read_37 : decode cX7_read 37 = .ok (.aload_n 0, 1) := by decide +kernel
theorem dX7_read_38 : decode cX7_read 38 = .ok (.getfield 39, 3) := by decide +kernel
theorem dX7_read_41 : decode cX7_read 41 = .ok (.getfield 193, 3) := by decide +kernel
theorem dX7_read_44 : decode cX7_read 44 = .ok (.iconst 0, 1) := by decide +kernel
theorem dX7_read_45 : decode cX7_read 45 = .ok (.aload_n 0, 1) := by decide +kernel
theorem dX7_read_46 : decode cX7_read 46 = .ok (.getfield 12, 3) := by decide +kernel
theorem dX7_read_49 : decode cX7_read 49 = .ok (.getfield 81, 3) := by decide +kernel
theorem dX7_read_52 : decode cX7_read 52 = .ok (.iconst 0, 1) := by decide +kernel
theorem dX7_read_53 : decode cX7_read 53 = .ok (.aload_n 0, 1) := by decide +kernel
theorem dX7_read_54 : decode cX7_read 54 = .ok (.getfield 39, 3) := by decide +kernel
theorem dX7_read_57 : decode cX7_read 57 = .ok (.getfield 194, 3) := by decide +kernel
theorem dX7_read_60 : decode cX7_read 60 = .ok (.ifCond .eq 8, 3) := by decide +kernel
theorem dX7_read_63 : decode cX7_read 63 = .ok (.bipush 10, 2) := by decide +kernel
theorem dX7_read_65 : decode cX7_read 65 = .ok (.goto 4, 3) := by decide +kernel
theorem dX7_read_68 : decode cX7_read 68 = .ok (.iconst 5, 1) := by decide +kernel
theorem dX7_read_69 : decode cX7_read 69 = .ok (.invokestatic 197, 3) := by decide +kernel
theorem dX7_read_72 : decode cX7_read 72 = .ok (.aload_n 0, 1) := by decide +kernel
theorem dX7_read_73 : decode cX7_read 73 = .ok (.getfield 12, 3) := by decide +kernel
theorem dX7_read_76 : decode cX7_read 76 = .ok (.iconst 0, 1) := by decide +kernel
theorem dX7_read_77 : decode cX7_read 77 = .ok (.invokevirtual 97, 3) := by decide +kernel
theorem dX7_read_80 : decode cX7_read 80 = .ok (.invokestatic 101, 3) := by decide +kernel
theorem dX7_read_83 : decode cX7_read 83 = .ok (.ireturn, 1) := by decide +kernel
theorem dX7_drift_0 : decode cX7_drift 0 = .ok (.iload_n 1, 1) := by decide +kernel
theorem dX7_drift_1 : decode cX7_drift 1 = .ok (.iconst 1, 1) := by decide +kernel
theorem dX7_drift_2 : decode cX7_drift 2 = .ok (.if_icmp .lt 9, 3) := by decide +kernel
theorem dX7_drift_5 : decode cX7_drift 5 = .ok (.iload_n 1, 1) := by decide +kernel
theorem dX7_drift_6 : decode cX7_drift 6 = .ok (.bipush 40, 2) := by decide +kernel
theorem dX7_drift_8 : decode cX7_drift 8 = .ok (.if_icmp .le 5, 3) := by decide +kernel
theorem dX7_drift_11 : decode cX7_drift 11 = .ok (.iconst (-1), 1) := by decide +kernel
theorem dX7_drift_12 : decode cX7_drift 12 = .ok (.ireturn, 1) := by decide +kernel
theorem dX7_drift_13 : decode cX7_drift 13 = .ok (.iconst 0, 1) := by decide +kernel
theorem dX7_drift_14 : decode cX7_drift 14 = .ok (.istore_n 2, 1) := by decide +kernel
theorem dX7_drift_15 : decode cX7_drift 15 = .ok (.iload_n 2, 1) := by decide +kernel
theorem dX7_drift_16 : decode cX7_drift 16 = .ok (.iload_n 1, 1) := by decide +kernel
theorem dX7_drift_17 : decode cX7_drift 17 = .ok (.if_icmp .ge 27, 3) := by decide +kernel
theorem dX7_drift_20 : decode cX7_drift 20 = .ok (.aload_n 0, 1) := by decide +kernel
theorem dX7_drift_21 : decode cX7_drift 21 = .ok (.getfield 22, 3) := by decide +kernel
theorem dX7_drift_24 : decode cX7_drift 24 = .ok (.aload_n 0, 1) := by decide +kernel
theorem dX7_drift_25 : decode cX7_drift 25 = .ok (.getfield 12, 3) := by decide +kernel
theorem dX7_drift_28 : decode cX7_drift 28 = .ok (.invokevirtual 85, 3) := by decide +kernel
theorem dX7_drift_31 : decode cX7_drift 31 = .ok (.aload_n 0, 1) := by decide +kernel
theorem dX7_drift_32 : decode cX7_drift 32 = .ok (.getfield 12, 3) := by decide +kernel
theorem dX7_drift_35 : decode cX7_drift 35 = .ok (.invokevirtual 203, 3) := by decide +kernel
theorem dX7_drift_38 : decode cX7_drift 38 = .ok (.iinc 2 1, 3) := by decide +kernel
theorem dX7_drift_41 : decode cX7_drift 41 = .ok (.goto (-26), 3) := by decide +kernel
theorem dX7_drift_44 : decode cX7_drift 44 = .ok (.aload_n 0, 1) := by decide +kernel
theorem dX7_drift_45 : decode cX7_drift 45 = .ok (.getfield 12, 3) := by decide +kernel
theorem dX7_drift_48 : decode cX7_drift 48 = .ok (.iconst 0, 1) := by decide +kernel
theorem dX7_drift_49 : decode cX7_drift 49 = .ok (.invokevirtual 97, 3) := by decide +kernel
theorem dX7_drift_52 : decode cX7_drift 52 = .ok (.invokestatic 101, 3) := by decide +kernel
theorem dX7_drift_55 : decode cX7_drift 55 = .ok (.ireturn, 1) := by decide +kernel
theorem dX7_undo_0 : decode cX7_undo 0 = .ok (.aload_n 0, 1) := by decide +kernel
theorem dX7_undo_1 : decode cX7_undo 1 = .ok (.getfield 22, 3) := by decide +kernel
theorem dX7_undo_4 : decode cX7_undo 4 = .ok (.getfield 112, 3) := by decide +kernel
theorem dX7_undo_7 : decode cX7_undo 7 = .ok (.ifCond .ne 6, 3) := by decide +kernel
theorem dX7_undo_10 : decode cX7_undo 10 = .ok (.bipush (-4), 2) := by decide +kernel
theorem dX7_undo_12 : decode cX7_undo 12 = .ok (.ireturn, 1) := by decide +kernel
theorem dX7_undo_13 : decode cX7_undo 13 = .ok (.aload_n 0, 1) := by decide +kernel
theorem dX7_undo_14 : decode cX7_undo 14 = .ok (.getfield 22, 3) := by decide +kernel
theorem dX7_undo_17 : decode cX7_undo 17 = .ok (.aload_n 0, 1) := by decide +kernel
theorem dX7_undo_18 : decode cX7_undo 18 = .ok (.getfield 12, 3) := by decide +kernel
theorem dX7_undo_21 : decode cX7_undo 21 = .ok (.invokevirtual 206, 3) := by decide +kernel
theorem dX7_undo_24 : decode cX7_undo 24 = .ok (.aload_n 0, 1) := by decide +kernel
theorem dX7_undo_25 : decode cX7_undo 25 = .ok (.getfield 22, 3) := by decide +kernel
theorem dX7_undo_28 : decode cX7_undo 28 = .ok (.getfield 112, 3) := by decide +kernel
theorem dX7_undo_31 : decode cX7_undo 31 = .ok (.ireturn, 1) := by decide +kernel
theorem dX7_seed_0 : decode cX7_seed 0 = .ok (.iload_n 1, 1) := by decide +kernel
theorem dX7_seed_1 : decode cX7_seed 1 = .ok (.ifCond .ge 5, 3) := by decide +kernel
theorem dX7_seed_4 : decode cX7_seed 4 = .ok (.iconst (-1), 1) := by decide +kernel
theorem dX7_seed_5 : decode cX7_seed 5 = .ok (.ireturn, 1) := by decide +kernel
theorem dX7_seed_6 : decode cX7_seed 6 = .ok (.aload_n 0, 1) := by decide +kernel
theorem dX7_seed_7 : decode cX7_seed 7 = .ok (.getfield 12, 3) := by decide +kernel
theorem dX7_seed_10 : decode cX7_seed 10 = .ok (.getfield 209, 3) := by decide +kernel
theorem dX7_seed_13 : decode cX7_seed 13 = .ok (.istore_n 2, 1) := by decide +kernel
theorem dX7_seed_14 : decode cX7_seed 14 = .ok (.aload_n 0, 1) := by decide +kernel
theorem dX7_seed_15 : decode cX7_seed 15 = .ok (.getfield 12, 3) := by decide +kernel
theorem dX7_seed_18 : decode cX7_seed 18 = .ok (.iload_n 1, 1) := by decide +kernel
theorem dX7_seed_19 : decode cX7_seed 19 = .ok (.putfield 209, 3) := by decide +kernel
theorem dX7_seed_22 : decode cX7_seed 22 = .ok (.iload_n 2, 1) := by decide +kernel
theorem dX7_seed_23 : decode cX7_seed 23 = .ok (.ireturn, 1) := by decide +kernel
theorem dX7_image_0 : decode cX7_image 0 = .ok (.aload_n 0, 1) := by decide +kernel
theorem dX7_image_1 : decode cX7_image 1 = .ok (.getfield 26, 3) := by decide +kernel
theorem dX7_image_4 : decode cX7_image 4 = .ok (.aload_n 0, 1) := by decide +kernel
theorem dX7_image_5 : decode cX7_image 5 = .ok (.getfield 12, 3) := by decide +kernel
theorem dX7_image_8 : decode cX7_image 8 = .ok (.invokevirtual 212, 3) := by decide +kernel
theorem dX7_image_11 : decode cX7_image 11 = .ok (.aload_n 0, 1) := by decide +kernel
theorem dX7_image_12 : decode cX7_image 12 = .ok (.getfield 29, 3) := by decide +kernel
theorem dX7_image_15 : decode cX7_image 15 = .ok (.aload_n 0, 1) := by decide +kernel
theorem dX7_image_16 : decode cX7_image 16 = .ok (.getfield 22, 3) := by decide +kernel
theorem dX7_image_19 : decode cX7_image 19 = .ok (.invokevirtual 215, 3) := by decide +kernel
theorem dX7_image_22 : decode cX7_image 22 = .ok (.aload_n 0, 1) := by decide +kernel
theorem dX7_image_23 : decode cX7_image 23 = .ok (.iconst 1, 1) := by decide +kernel
theorem dX7_image_24 : decode cX7_image 24 = .ok (.putfield 32, 3) := by decide +kernel
theorem dX7_image_27 : decode cX7_image 27 = .ok (.iconst 1, 1) := by decide +kernel
theorem dX7_image_28 : decode cX7_image 28 = .ok (.ireturn, 1) := by decide +kernel
theorem dX7_restore_0 : decode cX7_restore 0 = .ok (.aload_n 0, 1) := by decide +kernel
theorem dX7_restore_1 : decode cX7_restore 1 = .ok (.getfield 32, 3) := by decide +kernel
theorem dX7_restore_4 : decode cX7_restore 4 = .ok (.ifCond .ne 6, 3) := by decide +kernel
theorem dX7_restore_7 : decode cX7_restore 7 = .ok (.bipush (-4), 2) := by decide +kernel
theorem dX7_restore_9 : decode cX7_restore 9 = .ok (.ireturn, 1) := by decide +kernel
theorem dX7_restore_10 : decode cX7_restore 10 = .ok (.aload_n 0, 1) := by decide +kernel
theorem dX7_restore_11 : decode cX7_restore 11 = .ok (.getfield 12, 3) := by decide +kernel
theorem dX7_restore_14 : decode cX7_restore 14 = .ok (.aload_n 0, 1) := by decide +kernel
theorem dX7_restore_15 : decode cX7_restore 15 = .ok (.getfield 26, 3) := by decide +kernel
theorem dX7_restore_18 : decode cX7_restore 18 = .ok (.invokevirtual 212, 3) := by decide +kernel
theorem dX7_restore_21 : decode cX7_restore 21 = .ok (.aload_n 0, 1) := by decide +kernel
theorem dX7_restore_22 : decode cX7_restore 22 = .ok (.getfield 22, 3) := by decide +kernel
theorem dX7_restore_25 : decode cX7_restore 25 = .ok (.aload_n 0, 1) := by decide +kernel
theorem dX7_restore_26 : decode cX7_restore 26 = .ok (.getfield 29, 3) := by decide +kernel
theorem dX7_restore_29 : decode cX7_restore 29 = .ok (.invokevirtual 215, 3) := by decide +kernel
theorem dX7_restore_32 : decode cX7_restore 32 = .ok (.iconst 1, 1) := by decide +kernel
theorem dX7_restore_33 : decode cX7_restore 33 = .ok (.ireturn, 1) := by decide +kernel
theorem dX7_judged_0 : decode cX7_judged 0 = .ok (.iload_n 1, 1) := by decide +kernel
theorem dX7_judged_1 : decode cX7_judged 1 = .ok (.iconst 4, 1) := by decide +kernel
theorem dX7_judged_2 : decode cX7_judged 2 = .ok (.invokestatic 73, 3) := by decide +kernel
theorem dX7_judged_5 : decode cX7_judged 5 = .ok (.ifCond .eq 23, 3) := by decide +kernel
theorem dX7_judged_8 : decode cX7_judged 8 = .ok (.iload_n 2, 1) := by decide +kernel
theorem dX7_judged_9 : decode cX7_judged 9 = .ok (.iconst 4, 1) := by decide +kernel
theorem dX7_judged_10 : decode cX7_judged 10 = .ok (.invokestatic 73, 3) := by decide +kernel
theorem dX7_judged_13 : decode cX7_judged 13 = .ok (.ifCond .eq 15, 3) := by decide +kernel
theorem dX7_judged_16 : decode cX7_judged 16 = .ok (.iload 4, 2) := by decide +kernel
theorem dX7_judged_18 : decode cX7_judged 18 = .ok (.iconst 1, 1) := by decide +kernel
theorem dX7_judged_19 : decode cX7_judged 19 = .ok (.if_icmp .lt 9, 3) := by decide +kernel
theorem dX7_judged_22 : decode cX7_judged 22 = .ok (.iload 4, 2) := by decide +kernel
theorem dX7_judged_24 : decode cX7_judged 24 = .ok (.iconst 4, 1) := by decide +kernel
theorem dX7_judged_25 : decode cX7_judged 25 = .ok (.if_icmp .le 5, 3) := by decide +kernel
theorem dX7_judged_28 : decode cX7_judged 28 = .ok (.iconst (-1), 1) := by decide +kernel
theorem dX7_judged_29 : decode cX7_judged 29 = .ok (.ireturn, 1) := by decide +kernel
theorem dX7_judged_30 : decode cX7_judged 30 = .ok (.aload_n 0, 1) := by decide +kernel
theorem dX7_judged_31 : decode cX7_judged 31 = .ok (.getfield 46, 3) := by decide +kernel
theorem dX7_judged_34 : decode cX7_judged 34 = .ok (.iload_n 1, 1) := by decide +kernel
theorem dX7_judged_35 : decode cX7_judged 35 = .ok (.iload_n 2, 1) := by decide +kernel
theorem dX7_judged_36 : decode cX7_judged 36 = .ok (.iload_n 3, 1) := by decide +kernel
theorem dX7_judged_37 : decode cX7_judged 37 = .ok (.iconst 5, 1) := by decide +kernel
theorem dX7_judged_38 : decode cX7_judged 38 = .ok (.iload 4, 2) := by decide +kernel
theorem dX7_judged_40 : decode cX7_judged 40 = .ok (.imul, 1) := by decide +kernel
theorem dX7_judged_41 : decode cX7_judged 41 = .ok (.invokevirtual 218, 3) := by decide +kernel
theorem dX7_judged_44 : decode cX7_judged 44 = .ok (.istore 5, 2) := by decide +kernel
theorem dX7_judged_46 : decode cX7_judged 46 = .ok (.iload 5, 2) := by decide +kernel
theorem dX7_judged_48 : decode cX7_judged 48 = .ok (.ifCond .eq 6, 3) := by decide +kernel
theorem dX7_judged_51 : decode cX7_judged 51 = .ok (.iload 5, 2) := by decide +kernel
theorem dX7_judged_53 : decode cX7_judged 53 = .ok (.ireturn, 1) := by decide +kernel
theorem dX7_judged_54 : decode cX7_judged 54 = .ok (.aload_n 0, 1) := by decide +kernel
theorem dX7_judged_55 : decode cX7_judged 55 = .ok (.getfield 46, 3) := by decide +kernel
theorem dX7_judged_58 : decode cX7_judged 58 = .ok (.iload_n 1, 1) := by decide +kernel
theorem dX7_judged_59 : decode cX7_judged 59 = .ok (.iload_n 3, 1) := by decide +kernel
theorem dX7_judged_60 : decode cX7_judged 60 = .ok (.iconst 5, 1) := by decide +kernel
theorem dX7_judged_61 : decode cX7_judged 61 = .ok (.iload 4, 2) := by decide +kernel
theorem dX7_judged_63 : decode cX7_judged 63 = .ok (.imul, 1) := by decide +kernel
theorem dX7_judged_64 : decode cX7_judged 64 = .ok (.invokevirtual 222, 3) := by decide +kernel
theorem dX7_judged_67 : decode cX7_judged 67 = .ok (.ifCond .ne 6, 3) := by decide +kernel
theorem dX7_judged_70 : decode cX7_judged 70 = .ok (.bipush (-2), 2) := by decide +kernel
theorem dX7_judged_72 : decode cX7_judged 72 = .ok (.ireturn, 1) := by decide +kernel
theorem dX7_judged_73 : decode cX7_judged 73 = .ok (.iconst 0, 1) := by decide +kernel
theorem dX7_judged_74 : decode cX7_judged 74 = .ok (.istore 6, 2) := by decide +kernel
theorem dX7_judged_76 : decode cX7_judged 76 = .ok (.iconst 0, 1) := by decide +kernel
theorem dX7_judged_77 : decode cX7_judged 77 = .ok (.istore 7, 2) := by decide +kernel
theorem dX7_judged_79 : decode cX7_judged 79 = .ok (.iload 7, 2) := by decide +kernel
theorem dX7_judged_81 : decode cX7_judged 81 = .ok (.iload 4, 2) := by decide +kernel
theorem dX7_judged_83 : decode cX7_judged 83 = .ok (.if_icmp .ge 84, 3) := by decide +kernel
theorem dX7_judged_86 : decode cX7_judged 86 = .ok (.aload_n 0, 1) := by decide +kernel
theorem dX7_judged_87 : decode cX7_judged 87 = .ok (.getfield 46, 3) := by decide +kernel
theorem dX7_judged_90 : decode cX7_judged 90 = .ok (.getfield 226, 3) := by decide +kernel
theorem dX7_judged_93 : decode cX7_judged 93 = .ok (.iload_n 1, 1) := by decide +kernel
theorem dX7_judged_94 : decode cX7_judged 94 = .ok (.aaload, 1) := by decide +kernel
theorem dX7_judged_95 : decode cX7_judged 95 = .ok (.iload_n 3, 1) := by decide +kernel
theorem dX7_judged_96 : decode cX7_judged 96 = .ok (.iconst 5, 1) := by decide +kernel
theorem dX7_judged_97 : decode cX7_judged 97 = .ok (.iload 7, 2) := by decide +kernel
theorem dX7_judged_99 : decode cX7_judged 99 = .ok (.imul, 1) := by decide +kernel
theorem dX7_judged_100 : decode cX7_judged 100 = .ok (.iadd, 1) := by decide +kernel
theorem dX7_judged_101 : decode cX7_judged 101 = .ok (.aload_n 0, 1) := by decide +kernel
theorem dX7_judged_102 : decode cX7_judged 102 = .ok (.getfield 69, 3) := by decide +kernel
theorem dX7_judged_105 : decode cX7_judged 105 = .ok (.iconst 0, 1) := by decide +kernel
theorem dX7_judged_106 : decode cX7_judged 106 = .ok (.iconst 5, 1) := by decide +kernel
theorem dX7_judged_107 : decode cX7_judged 107 = .ok (.invokestatic 197, 3) := by decide +kernel
theorem dX7_judged_110 : decode cX7_judged 110 = .ok (.aload_n 0, 1) := by decide +kernel
theorem dX7_judged_111 : decode cX7_judged 111 = .ok (.getfield 53, 3) := by decide +kernel
theorem dX7_judged_114 : decode cX7_judged 114 = .ok (.iconst 0, 1) := by decide +kernel
theorem dX7_judged_115 : decode cX7_judged 115 = .ok (.aload_n 0, 1) := by decide +kernel
theorem dX7_judged_116 : decode cX7_judged 116 = .ok (.getfield 69, 3) := by decide +kernel
theorem dX7_judged_119 : decode cX7_judged 119 = .ok (.invokevirtual 166, 3) := by decide +kernel
theorem dX7_judged_122 : decode cX7_judged 122 = .ok (.ifCond .eq 12, 3) := by decide +kernel
theorem dX7_judged_125 : decode cX7_judged 125 = .ok (.iload 6, 2) := by decide +kernel
theorem dX7_judged_127 : decode cX7_judged 127 = .ok (.iconst 1, 1) := by decide +kernel
theorem dX7_judged_128 : decode cX7_judged 128 = .ok (.iload 7, 2) := by decide +kernel
theorem dX7_judged_130 : decode cX7_judged 130 = .ok (.ishl, 1) := by decide +kernel
theorem dX7_judged_131 : decode cX7_judged 131 = .ok (.ior, 1) := by decide +kernel
theorem dX7_judged_132 : decode cX7_judged 132 = .ok (.istore 6, 2) := by decide +kernel
theorem dX7_judged_134 : decode cX7_judged 134 = .ok (.aload_n 0, 1) := by decide +kernel
theorem dX7_judged_135 : decode cX7_judged 135 = .ok (.getfield 53, 3) := by decide +kernel
theorem dX7_judged_138 : decode cX7_judged 138 = .ok (.iconst 1, 1) := by decide +kernel
theorem dX7_judged_139 : decode cX7_judged 139 = .ok (.aload_n 0, 1) := by decide +kernel
theorem dX7_judged_140 : decode cX7_judged 140 = .ok (.getfield 69, 3) := by decide +kernel
theorem dX7_judged_143 : decode cX7_judged 143 = .ok (.invokevirtual 166, 3) := by decide +kernel
theorem dX7_judged_146 : decode cX7_judged 146 = .ok (.ifCond .eq 15, 3) := by decide +kernel
theorem dX7_judged_149 : decode cX7_judged 149 = .ok (.iload 6, 2) := by decide +kernel
theorem dX7_judged_151 : decode cX7_judged 151 = .ok (.iconst 1, 1) := by decide +kernel
theorem dX7_judged_152 : decode cX7_judged 152 = .ok (.bipush 8, 2) := by decide +kernel
theorem dX7_judged_154 : decode cX7_judged 154 = .ok (.iload 7, 2) := by decide +kernel
theorem dX7_judged_156 : decode cX7_judged 156 = .ok (.iadd, 1) := by decide +kernel
theorem dX7_judged_157 : decode cX7_judged 157 = .ok (.ishl, 1) := by decide +kernel
theorem dX7_judged_158 : decode cX7_judged 158 = .ok (.ior, 1) := by decide +kernel
theorem dX7_judged_159 : decode cX7_judged 159 = .ok (.istore 6, 2) := by decide +kernel
theorem dX7_judged_161 : decode cX7_judged 161 = .ok (.iinc 7 1, 3) := by decide +kernel
theorem dX7_judged_164 : decode cX7_judged 164 = .ok (.goto (-85), 3) := by decide +kernel
theorem dX7_judged_167 : decode cX7_judged 167 = .ok (.iload 6, 2) := by decide +kernel
theorem dX7_judged_169 : decode cX7_judged 169 = .ok (.ireturn, 1) := by decide +kernel
theorem dX7_film_0 : decode cX7_film 0 = .ok (.iload_n 1, 1) := by decide +kernel
theorem dX7_film_1 : decode cX7_film 1 = .ok (.iconst 2, 1) := by decide +kernel
theorem dX7_film_2 : decode cX7_film 2 = .ok (.invokestatic 73, 3) := by decide +kernel
theorem dX7_film_5 : decode cX7_film 5 = .ok (.ifCond .eq 19, 3) := by decide +kernel
theorem dX7_film_8 : decode cX7_film 8 = .ok (.iload_n 2, 1) := by decide +kernel
theorem dX7_film_9 : decode cX7_film 9 = .ok (.iconst 4, 1) := by decide +kernel
theorem dX7_film_10 : decode cX7_film 10 = .ok (.invokestatic 73, 3) := by decide +kernel
theorem dX7_film_13 : decode cX7_film 13 = .ok (.ifCond .eq 11, 3) := by decide +kernel
theorem dX7_film_16 : decode cX7_film 16 = .ok (.iload_n 3, 1) := by decide +kernel
theorem dX7_film_17 : decode cX7_film 17 = .ok (.iconst 4, 1) := by decide +kernel
theorem dX7_film_18 : decode cX7_film 18 = .ok (.invokestatic 73, 3) := by decide +kernel
theorem dX7_film_21 : decode cX7_film 21 = .ok (.ifCond .ne 5, 3) := by decide +kernel
theorem dX7_film_24 : decode cX7_film 24 = .ok (.iconst (-1), 1) := by decide +kernel
theorem dX7_film_25 : decode cX7_film 25 = .ok (.ireturn, 1) := by decide +kernel
theorem dX7_film_26 : decode cX7_film 26 = .ok (.aload_n 0, 1) := by decide +kernel
theorem dX7_film_27 : decode cX7_film 27 = .ok (.getfield 46, 3) := by decide +kernel
theorem dX7_film_30 : decode cX7_film 30 = .ok (.iload_n 2, 1) := by decide +kernel
theorem dX7_film_31 : decode cX7_film 31 = .ok (.iload_n 3, 1) := by decide +kernel
theorem dX7_film_32 : decode cX7_film 32 = .ok (.iload 4, 2) := by decide +kernel
theorem dX7_film_34 : decode cX7_film 34 = .ok (.iconst 5, 1) := by decide +kernel
theorem dX7_film_35 : decode cX7_film 35 = .ok (.invokevirtual 218, 3) := by decide +kernel
theorem dX7_film_38 : decode cX7_film 38 = .ok (.istore 5, 2) := by decide +kernel
theorem dX7_film_40 : decode cX7_film 40 = .ok (.iload 5, 2) := by decide +kernel
theorem dX7_film_42 : decode cX7_film 42 = .ok (.ifCond .eq 6, 3) := by decide +kernel
theorem dX7_film_45 : decode cX7_film 45 = .ok (.iload 5, 2) := by decide +kernel
theorem dX7_film_47 : decode cX7_film 47 = .ok (.ireturn, 1) := by decide +kernel
theorem dX7_film_48 : decode cX7_film 48 = .ok (.iconst 0, 1) := by decide +kernel
theorem dX7_film_49 : decode cX7_film 49 = .ok (.istore 6, 2) := by decide +kernel
theorem dX7_film_51 : decode cX7_film 51 = .ok (.iload 6, 2) := by decide +kernel
theorem dX7_film_53 : decode cX7_film 53 = .ok (.iconst 5, 1) := by decide +kernel
theorem dX7_film_54 : decode cX7_film 54 = .ok (.if_icmp .ge 39, 3) := by decide +kernel
theorem dX7_film_57 : decode cX7_film 57 = .ok (.aload_n 0, 1) := by decide +kernel
theorem dX7_film_58 : decode cX7_film 58 = .ok (.getfield 46, 3) := by decide +kernel
theorem dX7_film_61 : decode cX7_film 61 = .ok (.getfield 226, 3) := by decide +kernel
theorem dX7_film_64 : decode cX7_film 64 = .ok (.iload_n 2, 1) := by decide +kernel
theorem dX7_film_65 : decode cX7_film 65 = .ok (.aaload, 1) := by decide +kernel
theorem dX7_film_66 : decode cX7_film 66 = .ok (.iload 4, 2) := by decide +kernel
theorem dX7_film_68 : decode cX7_film 68 = .ok (.iload 6, 2) := by decide +kernel
theorem dX7_film_70 : decode cX7_film 70 = .ok (.iadd, 1) := by decide +kernel
theorem dX7_film_71 : decode cX7_film 71 = .ok (.aload_n 0, 1) := by decide +kernel
theorem dX7_film_72 : decode cX7_film 72 = .ok (.getfield 12, 3) := by decide +kernel
theorem dX7_film_75 : decode cX7_film 75 = .ok (.getfield 81, 3) := by decide +kernel
theorem dX7_film_78 : decode cX7_film 78 = .ok (.iload_n 1, 1) := by decide +kernel
theorem dX7_film_79 : decode cX7_film 79 = .ok (.iconst 5, 1) := by decide +kernel
theorem dX7_film_80 : decode cX7_film 80 = .ok (.imul, 1) := by decide +kernel
theorem dX7_film_81 : decode cX7_film 81 = .ok (.iload 6, 2) := by decide +kernel
theorem dX7_film_83 : decode cX7_film 83 = .ok (.iadd, 1) := by decide +kernel
theorem dX7_film_84 : decode cX7_film 84 = .ok (.iaload, 1) := by decide +kernel
theorem dX7_film_85 : decode cX7_film 85 = .ok (.i2l, 1) := by decide +kernel
theorem dX7_film_86 : decode cX7_film 86 = .ok (.lastore, 1) := by decide +kernel
theorem dX7_film_87 : decode cX7_film 87 = .ok (.iinc 6 1, 3) := by decide +kernel
theorem dX7_film_90 : decode cX7_film 90 = .ok (.goto (-39), 3) := by decide +kernel
theorem dX7_film_93 : decode cX7_film 93 = .ok (.iconst 5, 1) := by decide +kernel
theorem dX7_film_94 : decode cX7_film 94 = .ok (.ireturn, 1) := by decide +kernel
theorem dX7_sheet_0 : decode cX7_sheet 0 = .ok (.iload_n 1, 1) := by decide +kernel
theorem dX7_sheet_1 : decode cX7_sheet 1 = .ok (.iconst 4, 1) := by decide +kernel
theorem dX7_sheet_2 : decode cX7_sheet 2 = .ok (.invokestatic 73, 3) := by decide +kernel
theorem dX7_sheet_5 : decode cX7_sheet 5 = .ok (.ifCond .eq 17, 3) := by decide +kernel
theorem dX7_sheet_8 : decode cX7_sheet 8 = .ok (.iload_n 2, 1) := by decide +kernel
theorem dX7_sheet_9 : decode cX7_sheet 9 = .ok (.iconst 4, 1) := by decide +kernel
theorem dX7_sheet_10 : decode cX7_sheet 10 = .ok (.invokestatic 73, 3) := by decide +kernel
theorem dX7_sheet_13 : decode cX7_sheet 13 = .ok (.ifCond .eq 9, 3) := by decide +kernel
theorem dX7_sheet_16 : decode cX7_sheet 16 = .ok (.iload_n 3, 1) := by decide +kernel
theorem dX7_sheet_17 : decode cX7_sheet 17 = .ok (.bipush 24, 2) := by decide +kernel
theorem dX7_sheet_19 : decode cX7_sheet 19 = .ok (.if_icmp .le 5, 3) := by decide +kernel
theorem dX7_sheet_22 : decode cX7_sheet 22 = .ok (.iconst (-1), 1) := by decide +kernel
theorem dX7_sheet_23 : decode cX7_sheet 23 = .ok (.ireturn, 1) := by decide +kernel
theorem dX7_sheet_24 : decode cX7_sheet 24 = .ok (.iload_n 3, 1) := by decide +kernel
theorem dX7_sheet_25 : decode cX7_sheet 25 = .ok (.ifCond .ge 6, 3) := by decide +kernel
theorem dX7_sheet_28 : decode cX7_sheet 28 = .ok (.bipush (-14), 2) := by decide +kernel
theorem dX7_sheet_30 : decode cX7_sheet 30 = .ok (.ireturn, 1) := by decide +kernel
theorem dX7_sheet_31 : decode cX7_sheet 31 = .ok (.aload_n 0, 1) := by decide +kernel
theorem dX7_sheet_32 : decode cX7_sheet 32 = .ok (.getfield 46, 3) := by decide +kernel
theorem dX7_sheet_35 : decode cX7_sheet 35 = .ok (.iload_n 1, 1) := by decide +kernel
theorem dX7_sheet_36 : decode cX7_sheet 36 = .ok (.iload_n 2, 1) := by decide +kernel
theorem dX7_sheet_37 : decode cX7_sheet 37 = .ok (.iload_n 3, 1) := by decide +kernel
theorem dX7_sheet_38 : decode cX7_sheet 38 = .ok (.invokevirtual 229, 3) := by decide +kernel
theorem dX7_sheet_41 : decode cX7_sheet 41 = .ok (.iload_n 3, 1) := by decide +kernel
theorem dX7_sheet_42 : decode cX7_sheet 42 = .ok (.ireturn, 1) := by decide +kernel
theorem dX7_drop_0 : decode cX7_drop 0 = .ok (.iload_n 1, 1) := by decide +kernel
theorem dX7_drop_1 : decode cX7_drop 1 = .ok (.iconst 4, 1) := by decide +kernel
theorem dX7_drop_2 : decode cX7_drop 2 = .ok (.invokestatic 73, 3) := by decide +kernel
theorem dX7_drop_5 : decode cX7_drop 5 = .ok (.ifCond .ne 5, 3) := by decide +kernel
theorem dX7_drop_8 : decode cX7_drop 8 = .ok (.iconst (-1), 1) := by decide +kernel
theorem dX7_drop_9 : decode cX7_drop 9 = .ok (.ireturn, 1) := by decide +kernel
theorem dX7_drop_10 : decode cX7_drop 10 = .ok (.aload_n 0, 1) := by decide +kernel
theorem dX7_drop_11 : decode cX7_drop 11 = .ok (.getfield 46, 3) := by decide +kernel
theorem dX7_drop_14 : decode cX7_drop 14 = .ok (.iload_n 1, 1) := by decide +kernel
theorem dX7_drop_15 : decode cX7_drop 15 = .ok (.invokevirtual 233, 3) := by decide +kernel
theorem dX7_drop_18 : decode cX7_drop 18 = .ok (.ifCond .eq 6, 3) := by decide +kernel
theorem dX7_drop_21 : decode cX7_drop 21 = .ok (.bipush (-11), 2) := by decide +kernel
theorem dX7_drop_23 : decode cX7_drop 23 = .ok (.ireturn, 1) := by decide +kernel
theorem dX7_drop_24 : decode cX7_drop 24 = .ok (.aload_n 0, 1) := by decide +kernel
theorem dX7_drop_25 : decode cX7_drop 25 = .ok (.getfield 46, 3) := by decide +kernel
theorem dX7_drop_28 : decode cX7_drop 28 = .ok (.getfield 236, 3) := by decide +kernel
theorem dX7_drop_31 : decode cX7_drop 31 = .ok (.iload_n 1, 1) := by decide +kernel
theorem dX7_drop_32 : decode cX7_drop 32 = .ok (.iaload, 1) := by decide +kernel
theorem dX7_drop_33 : decode cX7_drop 33 = .ok (.istore_n 2, 1) := by decide +kernel
theorem dX7_drop_34 : decode cX7_drop 34 = .ok (.aload_n 0, 1) := by decide +kernel
theorem dX7_drop_35 : decode cX7_drop 35 = .ok (.getfield 46, 3) := by decide +kernel
theorem dX7_drop_38 : decode cX7_drop 38 = .ok (.iload_n 1, 1) := by decide +kernel
theorem dX7_drop_39 : decode cX7_drop 39 = .ok (.invokevirtual 239, 3) := by decide +kernel
theorem dX7_drop_42 : decode cX7_drop 42 = .ok (.iload_n 2, 1) := by decide +kernel
theorem dX7_drop_43 : decode cX7_drop 43 = .ok (.ireturn, 1) := by decide +kernel
theorem dX7_item_0 : decode cX7_item 0 = .ok (.iload_n 1, 1) := by decide +kernel
theorem dX7_item_1 : decode cX7_item 1 = .ok (.iconst 4, 1) := by decide +kernel
theorem dX7_item_2 : decode cX7_item 2 = .ok (.invokestatic 73, 3) := by decide +kernel
theorem dX7_item_5 : decode cX7_item 5 = .ok (.ifCond .eq 11, 3) := by decide +kernel
theorem dX7_item_8 : decode cX7_item 8 = .ok (.iload_n 2, 1) := by decide +kernel
theorem dX7_item_9 : decode cX7_item 9 = .ok (.iconst 4, 1) := by decide +kernel
theorem dX7_item_10 : decode cX7_item 10 = .ok (.invokestatic 73, 3) := by decide +kernel
theorem dX7_item_13 : decode cX7_item 13 = .ok (.ifCond .ne 5, 3) := by decide +kernel
theorem dX7_item_16 : decode cX7_item 16 = .ok (.iconst (-1), 1) := by decide +kernel
theorem dX7_item_17 : decode cX7_item 17 = .ok (.ireturn, 1) := by decide +kernel
theorem dX7_item_18 : decode cX7_item 18 = .ok (.aload_n 0, 1) := by decide +kernel
theorem dX7_item_19 : decode cX7_item 19 = .ok (.getfield 46, 3) := by decide +kernel
theorem dX7_item_22 : decode cX7_item 22 = .ok (.iload_n 1, 1) := by decide +kernel
theorem dX7_item_23 : decode cX7_item 23 = .ok (.iload_n 2, 1) := by decide +kernel
theorem dX7_item_24 : decode cX7_item 24 = .ok (.iload_n 3, 1) := by decide +kernel
theorem dX7_item_25 : decode cX7_item 25 = .ok (.iconst 1, 1) := by decide +kernel
theorem dX7_item_26 : decode cX7_item 26 = .ok (.invokevirtual 218, 3) := by decide +kernel
theorem dX7_item_29 : decode cX7_item 29 = .ok (.istore 6, 2) := by decide +kernel
theorem dX7_item_31 : decode cX7_item 31 = .ok (.iload 6, 2) := by decide +kernel
theorem dX7_item_33 : decode cX7_item 33 = .ok (.ifCond .eq 6, 3) := by decide +kernel
theorem dX7_item_36 : decode cX7_item 36 = .ok (.iload 6, 2) := by decide +kernel
theorem dX7_item_38 : decode cX7_item 38 = .ok (.ireturn, 1) := by decide +kernel
theorem dX7_item_39 : decode cX7_item 39 = .ok (.aload_n 0, 1) := by decide +kernel
theorem dX7_item_40 : decode cX7_item 40 = .ok (.getfield 46, 3) := by decide +kernel
theorem dX7_item_43 : decode cX7_item 43 = .ok (.getfield 226, 3) := by decide +kernel
theorem dX7_item_46 : decode cX7_item 46 = .ok (.iload_n 1, 1) := by decide +kernel
theorem dX7_item_47 : decode cX7_item 47 = .ok (.aaload, 1) := by decide +kernel
theorem dX7_item_48 : decode cX7_item 48 = .ok (.iload_n 3, 1) := by decide +kernel
theorem dX7_item_49 : decode cX7_item 49 = .ok (.iload_n 2, 1) := by decide +kernel
theorem dX7_item_50 : decode cX7_item 50 = .ok (.lload 4, 2) := by decide +kernel
theorem dX7_item_52 : decode cX7_item 52 = .ok (.invokestatic 242, 3) := by decide +kernel
theorem dX7_item_55 : decode cX7_item 55 = .ok (.lastore, 1) := by decide +kernel
theorem dX7_item_56 : decode cX7_item 56 = .ok (.iconst 1, 1) := by decide +kernel
theorem dX7_item_57 : decode cX7_item 57 = .ok (.ireturn, 1) := by decide +kernel
theorem dX7_copy_0 : decode cX7_copy 0 = .ok (.iload_n 1, 1) := by decide +kernel
theorem dX7_copy_1 : decode cX7_copy 1 = .ok (.iconst 4, 1) := by decide +kernel
theorem dX7_copy_2 : decode cX7_copy 2 = .ok (.invokestatic 73, 3) := by decide +kernel
theorem dX7_copy_5 : decode cX7_copy 5 = .ok (.ifCond .eq 11, 3) := by decide +kernel
theorem dX7_copy_8 : decode cX7_copy 8 = .ok (.iload_n 3, 1) := by decide +kernel
theorem dX7_copy_9 : decode cX7_copy 9 = .ok (.iconst 4, 1) := by decide +kernel
theorem dX7_copy_10 : decode cX7_copy 10 = .ok (.invokestatic 73, 3) := by decide +kernel
theorem dX7_copy_13 : decode cX7_copy 13 = .ok (.ifCond .ne 5, 3) := by decide +kernel
theorem dX7_copy_16 : decode cX7_copy 16 = .ok (.iconst (-1), 1) := by decide +kernel
theorem dX7_copy_17 : decode cX7_copy 17 = .ok (.ireturn, 1) := by decide +kernel
theorem dX7_copy_18 : decode cX7_copy 18 = .ok (.aload_n 0, 1) := by decide +kernel
theorem dX7_copy_19 : decode cX7_copy 19 = .ok (.getfield 46, 3) := by decide +kernel
theorem dX7_copy_22 : decode cX7_copy 22 = .ok (.iload_n 1, 1) := by decide +kernel
theorem dX7_copy_23 : decode cX7_copy 23 = .ok (.invokevirtual 233, 3) := by decide +kernel
theorem dX7_copy_26 : decode cX7_copy 26 = .ok (.ifCond .ne 14, 3) := by decide +kernel
theorem dX7_copy_29 : decode cX7_copy 29 = .ok (.aload_n 0, 1) := by decide +kernel
theorem dX7_copy_30 : decode cX7_copy 30 = .ok (.getfield 46, 3) := by decide +kernel
theorem dX7_copy_33 : decode cX7_copy 33 = .ok (.iload_n 3, 1) := by decide +kernel
theorem dX7_copy_34 : decode cX7_copy 34 = .ok (.invokevirtual 233, 3) := by decide +kernel
theorem dX7_copy_37 : decode cX7_copy 37 = .ok (.ifCond .eq 6, 3) := by decide +kernel
theorem dX7_copy_40 : decode cX7_copy 40 = .ok (.bipush (-11), 2) := by decide +kernel
theorem dX7_copy_42 : decode cX7_copy 42 = .ok (.ireturn, 1) := by decide +kernel
theorem dX7_copy_43 : decode cX7_copy 43 = .ok (.aload_n 0, 1) := by decide +kernel
theorem dX7_copy_44 : decode cX7_copy 44 = .ok (.getfield 46, 3) := by decide +kernel
theorem dX7_copy_47 : decode cX7_copy 47 = .ok (.getfield 246, 3) := by decide +kernel
theorem dX7_copy_50 : decode cX7_copy 50 = .ok (.iload_n 1, 1) := by decide +kernel
theorem dX7_copy_51 : decode cX7_copy 51 = .ok (.iaload, 1) := by decide +kernel
theorem dX7_copy_52 : decode cX7_copy 52 = .ok (.aload_n 0, 1) := by decide +kernel
theorem dX7_copy_53 : decode cX7_copy 53 = .ok (.getfield 46, 3) := by decide +kernel
theorem dX7_copy_56 : decode cX7_copy 56 = .ok (.getfield 246, 3) := by decide +kernel
theorem dX7_copy_59 : decode cX7_copy 59 = .ok (.iload_n 3, 1) := by decide +kernel
theorem dX7_copy_60 : decode cX7_copy 60 = .ok (.iaload, 1) := by decide +kernel
theorem dX7_copy_61 : decode cX7_copy 61 = .ok (.if_icmp .eq 6, 3) := by decide +kernel
theorem dX7_copy_64 : decode cX7_copy 64 = .ok (.bipush (-12), 2) := by decide +kernel
theorem dX7_copy_66 : decode cX7_copy 66 = .ok (.ireturn, 1) := by decide +kernel
theorem dX7_copy_67 : decode cX7_copy 67 = .ok (.aload_n 0, 1) := by decide +kernel
theorem dX7_copy_68 : decode cX7_copy 68 = .ok (.getfield 46, 3) := by decide +kernel
theorem dX7_copy_71 : decode cX7_copy 71 = .ok (.iload_n 1, 1) := by decide +kernel
theorem dX7_copy_72 : decode cX7_copy 72 = .ok (.iload_n 2, 1) := by decide +kernel
theorem dX7_copy_73 : decode cX7_copy 73 = .ok (.iload 5, 2) := by decide +kernel
theorem dX7_copy_75 : decode cX7_copy 75 = .ok (.invokevirtual 249, 3) := by decide +kernel
theorem dX7_copy_78 : decode cX7_copy 78 = .ok (.ifCond .eq 18, 3) := by decide +kernel
theorem dX7_copy_81 : decode cX7_copy 81 = .ok (.aload_n 0, 1) := by decide +kernel
theorem dX7_copy_82 : decode cX7_copy 82 = .ok (.getfield 46, 3) := by decide +kernel
theorem dX7_copy_85 : decode cX7_copy 85 = .ok (.iload_n 3, 1) := by decide +kernel
theorem dX7_copy_86 : decode cX7_copy 86 = .ok (.iload 4, 2) := by decide +kernel
theorem dX7_copy_88 : decode cX7_copy 88 = .ok (.iload 5, 2) := by decide +kernel
theorem dX7_copy_90 : decode cX7_copy 90 = .ok (.invokevirtual 249, 3) := by decide +kernel
theorem dX7_copy_93 : decode cX7_copy 93 = .ok (.ifCond .ne 6, 3) := by decide +kernel
theorem dX7_copy_96 : decode cX7_copy 96 = .ok (.bipush (-13), 2) := by decide +kernel
theorem dX7_copy_98 : decode cX7_copy 98 = .ok (.ireturn, 1) := by decide +kernel
theorem dX7_copy_99 : decode cX7_copy 99 = .ok (.aload_n 0, 1) := by decide +kernel
theorem dX7_copy_100 : decode cX7_copy 100 = .ok (.getfield 46, 3) := by decide +kernel
theorem dX7_copy_103 : decode cX7_copy 103 = .ok (.getfield 226, 3) := by decide +kernel
theorem dX7_copy_106 : decode cX7_copy 106 = .ok (.iload_n 1, 1) := by decide +kernel
theorem dX7_copy_107 : decode cX7_copy 107 = .ok (.aaload, 1) := by decide +kernel
theorem dX7_copy_108 : decode cX7_copy 108 = .ok (.iload_n 2, 1) := by decide +kernel
theorem dX7_copy_109 : decode cX7_copy 109 = .ok (.aload_n 0, 1) := by decide +kernel
theorem dX7_copy_110 : decode cX7_copy 110 = .ok (.getfield 46, 3) := by decide +kernel
theorem dX7_copy_113 : decode cX7_copy 113 = .ok (.getfield 226, 3) := by decide +kernel
theorem dX7_copy_116 : decode cX7_copy 116 = .ok (.iload_n 3, 1) := by decide +kernel
theorem dX7_copy_117 : decode cX7_copy 117 = .ok (.aaload, 1) := by decide +kernel
theorem dX7_copy_118 : decode cX7_copy 118 = .ok (.iload 4, 2) := by decide +kernel
theorem dX7_copy_120 : decode cX7_copy 120 = .ok (.iload 5, 2) := by decide +kernel
theorem dX7_copy_122 : decode cX7_copy 122 = .ok (.invokestatic 197, 3) := by decide +kernel
theorem dX7_copy_125 : decode cX7_copy 125 = .ok (.iload 5, 2) := by decide +kernel
theorem dX7_copy_127 : decode cX7_copy 127 = .ok (.ireturn, 1) := by decide +kernel
theorem dX7_countRoots_0 : decode cX7_countRoots 0 = .ok (.iload_n 1, 1) := by decide +kernel
theorem dX7_countRoots_1 : decode cX7_countRoots 1 = .ok (.iconst 2, 1) := by decide +kernel
theorem dX7_countRoots_2 : decode cX7_countRoots 2 = .ok (.invokestatic 73, 3) := by decide +kernel
theorem dX7_countRoots_5 : decode cX7_countRoots 5 = .ok (.ifCond .eq 18, 3) := by decide +kernel
theorem dX7_countRoots_8 : decode cX7_countRoots 8 = .ok (.iload_n 2, 1) := by decide +kernel
theorem dX7_countRoots_9 : decode cX7_countRoots 9 = .ok (.invokestatic 89, 3) := by decide +kernel
theorem dX7_countRoots_12 : decode cX7_countRoots 12 = .ok (.ifCond .eq 11, 3) := by decide +kernel
theorem dX7_countRoots_15 : decode cX7_countRoots 15 = .ok (.iload_n 3, 1) := by decide +kernel
theorem dX7_countRoots_16 : decode cX7_countRoots 16 = .ok (.iconst 4, 1) := by decide +kernel
theorem dX7_countRoots_17 : decode cX7_countRoots 17 = .ok (.invokestatic 73, 3) := by decide +kernel
theorem dX7_countRoots_20 : decode cX7_countRoots 20 = .ok (.ifCond .ne 5, 3) := by decide +kernel
theorem dX7_countRoots_23 : decode cX7_countRoots 23 = .ok (.iconst (-1), 1) := by decide +kernel
theorem dX7_countRoots_24 : decode cX7_countRoots 24 = .ok (.ireturn, 1) := by decide +kernel
theorem dX7_countRoots_25 : decode cX7_countRoots 25 = .ok (.aload_n 0, 1) := by decide +kernel
theorem dX7_countRoots_26 : decode cX7_countRoots 26 = .ok (.getfield 12, 3) := by decide +kernel
theorem dX7_countRoots_29 : decode cX7_countRoots 29 = .ok (.aload_n 0, 1) := by decide +kernel
theorem dX7_countRoots_30 : decode cX7_countRoots 30 = .ok (.getfield 69, 3) := by decide +kernel
theorem dX7_countRoots_33 : decode cX7_countRoots 33 = .ok (.iload_n 2, 1) := by decide +kernel
theorem dX7_countRoots_34 : decode cX7_countRoots 34 = .ok (.invokevirtual 104, 3) := by decide +kernel
theorem dX7_countRoots_37 : decode cX7_countRoots 37 = .ok (.aload_n 0, 1) := by decide +kernel
theorem dX7_countRoots_38 : decode cX7_countRoots 38 = .ok (.getfield 69, 3) := by decide +kernel
theorem dX7_countRoots_41 : decode cX7_countRoots 41 = .ok (.invokestatic 108, 3) := by decide +kernel
theorem dX7_countRoots_44 : decode cX7_countRoots 44 = .ok (.iconst (-1), 1) := by decide +kernel
theorem dX7_countRoots_45 : decode cX7_countRoots 45 = .ok (.if_icmp .ne 6, 3) := by decide +kernel
theorem dX7_countRoots_48 : decode cX7_countRoots 48 = .ok (.bipush (-4), 2) := by decide +kernel
theorem dX7_countRoots_50 : decode cX7_countRoots 50 = .ok (.ireturn, 1) := by decide +kernel
theorem dX7_countRoots_51 : decode cX7_countRoots 51 = .ok (.aload_n 0, 1) := by decide +kernel
theorem dX7_countRoots_52 : decode cX7_countRoots 52 = .ok (.getfield 53, 3) := by decide +kernel
theorem dX7_countRoots_55 : decode cX7_countRoots 55 = .ok (.iload_n 1, 1) := by decide +kernel
theorem dX7_countRoots_56 : decode cX7_countRoots 56 = .ok (.aload_n 0, 1) := by decide +kernel
theorem dX7_countRoots_57 : decode cX7_countRoots 57 = .ok (.getfield 69, 3) := by decide +kernel
theorem dX7_countRoots_60 : decode cX7_countRoots 60 = .ok (.invokevirtual 252, 3) := by decide +kernel
theorem dX7_countRoots_63 : decode cX7_countRoots 63 = .ok (.iload_n 3, 1) := by decide +kernel
theorem dX7_countRoots_64 : decode cX7_countRoots 64 = .ok (.tableswitch 82 0 3 #[32, 40, 48, 56], 32) := by decide +kernel
theorem dX7_countRoots_96 : decode cX7_countRoots 96 = .ok (.aload_n 0, 1) := by decide +kernel
theorem dX7_countRoots_97 : decode cX7_countRoots 97 = .ok (.getfield 53, 3) := by decide +kernel
theorem dX7_countRoots_100 : decode cX7_countRoots 100 = .ok (.getfield 256, 3) := by decide +kernel
theorem dX7_countRoots_103 : decode cX7_countRoots 103 = .ok (.ireturn, 1) := by decide +kernel
theorem dX7_countRoots_104 : decode cX7_countRoots 104 = .ok (.aload_n 0, 1) := by decide +kernel
theorem dX7_countRoots_105 : decode cX7_countRoots 105 = .ok (.getfield 53, 3) := by decide +kernel
theorem dX7_countRoots_108 : decode cX7_countRoots 108 = .ok (.getfield 259, 3) := by decide +kernel
theorem dX7_countRoots_111 : decode cX7_countRoots 111 = .ok (.ireturn, 1) := by decide +kernel
theorem dX7_countRoots_112 : decode cX7_countRoots 112 = .ok (.aload_n 0, 1) := by decide +kernel
theorem dX7_countRoots_113 : decode cX7_countRoots 113 = .ok (.getfield 53, 3) := by decide +kernel
theorem dX7_countRoots_116 : decode cX7_countRoots 116 = .ok (.getfield 262, 3) := by decide +kernel
theorem dX7_countRoots_119 : decode cX7_countRoots 119 = .ok (.ireturn, 1) := by decide +kernel
theorem dX7_countRoots_120 : decode cX7_countRoots 120 = .ok (.aload_n 0, 1) := by decide +kernel
theorem dX7_countRoots_121 : decode cX7_countRoots 121 = .ok (.getfield 53, 3) := by decide +kernel
theorem dX7_countRoots_124 : decode cX7_countRoots 124 = .ok (.getfield 256, 3) := by decide +kernel
theorem dX7_countRoots_127 : decode cX7_countRoots 127 = .ok (.ifCond .ne 17, 3) := by decide +kernel
theorem dX7_countRoots_130 : decode cX7_countRoots 130 = .ok (.aload_n 0, 1) := by decide +kernel
theorem dX7_countRoots_131 : decode cX7_countRoots 131 = .ok (.getfield 53, 3) := by decide +kernel
theorem dX7_countRoots_134 : decode cX7_countRoots 134 = .ok (.getfield 259, 3) := by decide +kernel
theorem dX7_countRoots_137 : decode cX7_countRoots 137 = .ok (.ifCond .ne 7, 3) := by decide +kernel
theorem dX7_countRoots_140 : decode cX7_countRoots 140 = .ok (.iconst 1, 1) := by decide +kernel
theorem dX7_countRoots_141 : decode cX7_countRoots 141 = .ok (.goto 4, 3) := by decide +kernel
theorem dX7_countRoots_144 : decode cX7_countRoots 144 = .ok (.iconst 0, 1) := by decide +kernel
theorem dX7_countRoots_145 : decode cX7_countRoots 145 = .ok (.ireturn, 1) := by decide +kernel
theorem dX7_countRoots_146 : decode cX7_countRoots 146 = .ok (.iconst (-1), 1) := by decide +kernel
theorem dX7_countRoots_147 : decode cX7_countRoots 147 = .ok (.ireturn, 1) := by decide +kernel
theorem dX7_bookOf_0 : decode cX7_bookOf 0 = .ok (.iload_n 1, 1) := by decide +kernel
theorem dX7_bookOf_1 : decode cX7_bookOf 1 = .ok (.ifCond .ne 10, 3) := by decide +kernel
theorem dX7_bookOf_4 : decode cX7_bookOf 4 = .ok (.aload_n 0, 1) := by decide +kernel
theorem dX7_bookOf_5 : decode cX7_bookOf 5 = .ok (.getfield 62, 3) := by decide +kernel
theorem dX7_bookOf_8 : decode cX7_bookOf 8 = .ok (.goto 7, 3) := by decide +kernel
theorem dX7_bookOf_11 : decode cX7_bookOf 11 = .ok (.aload_n 0, 1) := by decide +kernel
theorem dX7_bookOf_12 : decode cX7_bookOf 12 = .ok (.getfield 66, 3) := by decide +kernel
theorem dX7_bookOf_15 : decode cX7_bookOf 15 = .ok (.astore_n 2, 1) := by decide +kernel
theorem dX7_bookOf_16 : decode cX7_bookOf 16 = .ok (.aload_n 2, 1) := by decide +kernel
theorem dX7_bookOf_17 : decode cX7_bookOf 17 = .ok (.aload_n 0, 1) := by decide +kernel
theorem dX7_bookOf_18 : decode cX7_bookOf 18 = .ok (.getfield 12, 3) := by decide +kernel
end
section
theorem dX7_bookOf_21 : decode cX7_bookOf 21 = .ok (.aload_n 0, 1) := by decide +kernel
theorem dX7_bookOf_22 : decode cX7_bookOf 22 = .ok (.getfield 53, 3) := by decide +kernel
theorem dX7_bookOf_25 : decode cX7_bookOf 25 = .ok (.invokevirtual 265, 3) := by decide +kernel
theorem dX7_bookOf_28 : decode cX7_bookOf 28 = .ok (.aload_n 2, 1) := by decide +kernel
theorem dX7_bookOf_29 : decode cX7_bookOf 29 = .ok (.areturn, 1) := by decide +kernel
theorem dX7_isChoice_0 : decode cX7_isChoice 0 = .ok (.iload_n 0, 1) := by decide +kernel
theorem dX7_isChoice_1 : decode cX7_isChoice 1 = .ok (.ifCond .lt 12, 3) := by decide +kernel
theorem dX7_isChoice_4 : decode cX7_isChoice 4 = .ok (.iload_n 0, 1) := by decide +kernel
theorem dX7_isChoice_5 : decode cX7_isChoice 5 = .ok (.iload_n 1, 1) := by decide +kernel
theorem dX7_isChoice_6 : decode cX7_isChoice 6 = .ok (.if_icmp .ge 7, 3) := by decide +kernel
theorem dX7_isChoice_9 : decode cX7_isChoice 9 = .ok (.iconst 1, 1) := by decide +kernel
theorem dX7_isChoice_10 : decode cX7_isChoice 10 = .ok (.goto 4, 3) := by decide +kernel
theorem dX7_isChoice_13 : decode cX7_isChoice 13 = .ok (.iconst 0, 1) := by decide +kernel
theorem dX7_isChoice_14 : decode cX7_isChoice 14 = .ok (.ireturn, 1) := by decide +kernel
theorem dX7_isPart_0 : decode cX7_isPart 0 = .ok (.lload_n 0, 1) := by decide +kernel
theorem dX7_isPart_1 : decode cX7_isPart 1 = .ok (.ldc2_w 269, 3) := by decide +kernel
theorem dX7_isPart_4 : decode cX7_isPart 4 = .ok (.lcmp, 1) := by decide +kernel
theorem dX7_isPart_5 : decode cX7_isPart 5 = .ok (.ifCond .lt 15, 3) := by decide +kernel
theorem dX7_isPart_8 : decode cX7_isPart 8 = .ok (.lload_n 0, 1) := by decide +kernel
theorem dX7_isPart_9 : decode cX7_isPart 9 = .ok (.ldc2_w 271, 3) := by decide +kernel
theorem dX7_isPart_12 : decode cX7_isPart 12 = .ok (.lcmp, 1) := by decide +kernel
theorem dX7_isPart_13 : decode cX7_isPart 13 = .ok (.ifCond .gt 7, 3) := by decide +kernel
theorem dX7_isPart_16 : decode cX7_isPart 16 = .ok (.iconst 1, 1) := by decide +kernel
theorem dX7_isPart_17 : decode cX7_isPart 17 = .ok (.goto 4, 3) := by decide +kernel
theorem dX7_isPart_20 : decode cX7_isPart 20 = .ok (.iconst 0, 1) := by decide +kernel
theorem dX7_isPart_21 : decode cX7_isPart 21 = .ok (.ireturn, 1) := by decide +kernel
theorem dX7_isGain_0 : decode cX7_isGain 0 = .ok (.iload_n 0, 1) := by decide +kernel
theorem dX7_isGain_1 : decode cX7_isGain 1 = .ok (.sipush (-800), 3) := by decide +kernel
theorem dX7_isGain_4 : decode cX7_isGain 4 = .ok (.if_icmp .lt 14, 3) := by decide +kernel
theorem dX7_isGain_7 : decode cX7_isGain 7 = .ok (.iload_n 0, 1) := by decide +kernel
theorem dX7_isGain_8 : decode cX7_isGain 8 = .ok (.sipush 800, 3) := by decide +kernel
theorem dX7_isGain_11 : decode cX7_isGain 11 = .ok (.if_icmp .gt 7, 3) := by decide +kernel
theorem dX7_isGain_14 : decode cX7_isGain 14 = .ok (.iconst 1, 1) := by decide +kernel
theorem dX7_isGain_15 : decode cX7_isGain 15 = .ok (.goto 4, 3) := by decide +kernel
theorem dX7_isGain_18 : decode cX7_isGain 18 = .ok (.iconst 0, 1) := by decide +kernel
theorem dX7_isGain_19 : decode cX7_isGain 19 = .ok (.ireturn, 1) := by decide +kernel
theorem dX7_orNone_0 : decode cX7_orNone 0 = .ok (.iload_n 0, 1) := by decide +kernel
theorem dX7_orNone_1 : decode cX7_orNone 1 = .ok (.iconst (-1), 1) := by decide +kernel
theorem dX7_orNone_2 : decode cX7_orNone 2 = .ok (.if_icmp .ne 8, 3) := by decide +kernel
theorem dX7_orNone_5 : decode cX7_orNone 5 = .ok (.bipush (-4), 2) := by decide +kernel
theorem dX7_orNone_7 : decode cX7_orNone 7 = .ok (.goto 4, 3) := by decide +kernel
theorem dX7_orNone_10 : decode cX7_orNone 10 = .ok (.iload_n 0, 1) := by decide +kernel
theorem dX7_orNone_11 : decode cX7_orNone 11 = .ok (.ireturn, 1) := by decide +kernel
theorem dX7_degreeOf_0 : decode cX7_degreeOf 0 = .ok (.iconst 4, 1) := by decide +kernel
theorem dX7_degreeOf_1 : decode cX7_degreeOf 1 = .ok (.istore_n 1, 1) := by decide +kernel
theorem dX7_degreeOf_2 : decode cX7_degreeOf 2 = .ok (.iload_n 1, 1) := by decide +kernel
theorem dX7_degreeOf_3 : decode cX7_degreeOf 3 = .ok (.ifCond .lt 19, 3) := by decide +kernel
theorem dX7_degreeOf_6 : decode cX7_degreeOf 6 = .ok (.aload_n 0, 1) := by decide +kernel
theorem dX7_degreeOf_7 : decode cX7_degreeOf 7 = .ok (.iload_n 1, 1) := by decide +kernel
theorem dX7_degreeOf_8 : decode cX7_degreeOf 8 = .ok (.laload, 1) := by decide +kernel
theorem dX7_degreeOf_9 : decode cX7_degreeOf 9 = .ok (.lconst 0, 1) := by decide +kernel
theorem dX7_degreeOf_10 : decode cX7_degreeOf 10 = .ok (.lcmp, 1) := by decide +kernel
theorem dX7_degreeOf_11 : decode cX7_degreeOf 11 = .ok (.ifCond .eq 5, 3) := by decide +kernel
theorem dX7_degreeOf_14 : decode cX7_degreeOf 14 = .ok (.iload_n 1, 1) := by decide +kernel
theorem dX7_degreeOf_15 : decode cX7_degreeOf 15 = .ok (.ireturn, 1) := by decide +kernel
theorem dX7_degreeOf_16 : decode cX7_degreeOf 16 = .ok (.iinc 1 (-1), 3) := by decide +kernel
theorem dX7_degreeOf_19 : decode cX7_degreeOf 19 = .ok (.goto (-17), 3) := by decide +kernel
theorem dX7_degreeOf_22 : decode cX7_degreeOf 22 = .ok (.iconst (-1), 1) := by decide +kernel
theorem dX7_degreeOf_23 : decode cX7_degreeOf 23 = .ok (.ireturn, 1) := by decide +kernel
theorem dX7_oddsOf_0 : decode cX7_oddsOf 0 = .ok (.iconst 1, 1) := by decide +kernel
theorem dX7_oddsOf_1 : decode cX7_oddsOf 1 = .ok (.istore_n 2, 1) := by decide +kernel
theorem dX7_oddsOf_2 : decode cX7_oddsOf 2 = .ok (.iconst 0, 1) := by decide +kernel
theorem dX7_oddsOf_3 : decode cX7_oddsOf 3 = .ok (.istore_n 3, 1) := by decide +kernel
theorem dX7_oddsOf_4 : decode cX7_oddsOf 4 = .ok (.iload_n 3, 1) := by decide +kernel
theorem dX7_oddsOf_5 : decode cX7_oddsOf 5 = .ok (.iconst 5, 1) := by decide +kernel
theorem dX7_oddsOf_6 : decode cX7_oddsOf 6 = .ok (.if_icmp .ge 25, 3) := by decide +kernel
theorem dX7_oddsOf_9 : decode cX7_oddsOf 9 = .ok (.iload_n 2, 1) := by decide +kernel
theorem dX7_oddsOf_10 : decode cX7_oddsOf 10 = .ok (.iload_n 3, 1) := by decide +kernel
theorem dX7_oddsOf_11 : decode cX7_oddsOf 11 = .ok (.iload_n 1, 1) := by decide +kernel
theorem dX7_oddsOf_12 : decode cX7_oddsOf 12 = .ok (.if_icmp .ge 7, 3) := by decide +kernel
theorem dX7_oddsOf_15 : decode cX7_oddsOf 15 = .ok (.iload_n 0, 1) := by decide +kernel
theorem dX7_oddsOf_16 : decode cX7_oddsOf 16 = .ok (.goto 7, 3) := by decide +kernel
theorem dX7_oddsOf_19 : decode cX7_oddsOf 19 = .ok (.bipush 10, 2) := by decide +kernel
theorem dX7_oddsOf_21 : decode cX7_oddsOf 21 = .ok (.iload_n 0, 1) := by decide +kernel
theorem dX7_oddsOf_22 : decode cX7_oddsOf 22 = .ok (.isub, 1) := by decide +kernel
theorem dX7_oddsOf_23 : decode cX7_oddsOf 23 = .ok (.imul, 1) := by decide +kernel
theorem dX7_oddsOf_24 : decode cX7_oddsOf 24 = .ok (.istore_n 2, 1) := by decide +kernel
theorem dX7_oddsOf_25 : decode cX7_oddsOf 25 = .ok (.iinc 3 1, 3) := by decide +kernel
theorem dX7_oddsOf_28 : decode cX7_oddsOf 28 = .ok (.goto (-24), 3) := by decide +kernel
theorem dX7_oddsOf_31 : decode cX7_oddsOf 31 = .ok (.iload_n 2, 1) := by decide +kernel
theorem dX7_oddsOf_32 : decode cX7_oddsOf 32 = .ok (.ireturn, 1) := by decide +kernel
theorem dX7_commonDivisor_0 : decode cX7_commonDivisor 0 = .ok (.lload_n 0, 1) := by decide +kernel
theorem dX7_commonDivisor_1 : decode cX7_commonDivisor 1 = .ok (.lconst 0, 1) := by decide +kernel
theorem dX7_commonDivisor_2 : decode cX7_commonDivisor 2 = .ok (.lcmp, 1) := by decide +kernel
theorem dX7_commonDivisor_3 : decode cX7_commonDivisor 3 = .ok (.ifCond .ge 8, 3) := by decide +kernel
theorem dX7_commonDivisor_6 : decode cX7_commonDivisor 6 = .ok (.lload_n 0, 1) := by decide +kernel
theorem dX7_commonDivisor_7 : decode cX7_commonDivisor 7 = .ok (.lneg, 1) := by decide +kernel
theorem dX7_commonDivisor_8 : decode cX7_commonDivisor 8 = .ok (.goto 4, 3) := by decide +kernel
theorem dX7_commonDivisor_11 : decode cX7_commonDivisor 11 = .ok (.lload_n 0, 1) := by decide +kernel
theorem dX7_commonDivisor_12 : decode cX7_commonDivisor 12 = .ok (.lstore 4, 2) := by decide +kernel
theorem dX7_commonDivisor_14 : decode cX7_commonDivisor 14 = .ok (.lload_n 2, 1) := by decide +kernel
theorem dX7_commonDivisor_15 : decode cX7_commonDivisor 15 = .ok (.lconst 0, 1) := by decide +kernel
theorem dX7_commonDivisor_16 : decode cX7_commonDivisor 16 = .ok (.lcmp, 1) := by decide +kernel
theorem dX7_commonDivisor_17 : decode cX7_commonDivisor 17 = .ok (.ifCond .ge 8, 3) := by decide +kernel
theorem dX7_commonDivisor_20 : decode cX7_commonDivisor 20 = .ok (.lload_n 2, 1) := by decide +kernel
theorem dX7_commonDivisor_21 : decode cX7_commonDivisor 21 = .ok (.lneg, 1) := by decide +kernel
theorem dX7_commonDivisor_22 : decode cX7_commonDivisor 22 = .ok (.goto 4, 3) := by decide +kernel
theorem dX7_commonDivisor_25 : decode cX7_commonDivisor 25 = .ok (.lload_n 2, 1) := by decide +kernel
theorem dX7_commonDivisor_26 : decode cX7_commonDivisor 26 = .ok (.lstore 6, 2) := by decide +kernel
theorem dX7_commonDivisor_28 : decode cX7_commonDivisor 28 = .ok (.iconst 0, 1) := by decide +kernel
theorem dX7_commonDivisor_29 : decode cX7_commonDivisor 29 = .ok (.istore 8, 2) := by decide +kernel
theorem dX7_commonDivisor_31 : decode cX7_commonDivisor 31 = .ok (.iload 8, 2) := by decide +kernel
theorem dX7_commonDivisor_33 : decode cX7_commonDivisor 33 = .ok (.sipush 200, 3) := by decide +kernel
theorem dX7_commonDivisor_36 : decode cX7_commonDivisor 36 = .ok (.if_icmp .ge 31, 3) := by decide +kernel
theorem dX7_commonDivisor_39 : decode cX7_commonDivisor 39 = .ok (.lload 6, 2) := by decide +kernel
theorem dX7_commonDivisor_41 : decode cX7_commonDivisor 41 = .ok (.lconst 0, 1) := by decide +kernel
theorem dX7_commonDivisor_42 : decode cX7_commonDivisor 42 = .ok (.lcmp, 1) := by decide +kernel
theorem dX7_commonDivisor_43 : decode cX7_commonDivisor 43 = .ok (.ifCond .eq 24, 3) := by decide +kernel
theorem dX7_commonDivisor_46 : decode cX7_commonDivisor 46 = .ok (.lload 4, 2) := by decide +kernel
theorem dX7_commonDivisor_48 : decode cX7_commonDivisor 48 = .ok (.lload 6, 2) := by decide +kernel
theorem dX7_commonDivisor_50 : decode cX7_commonDivisor 50 = .ok (.lrem, 1) := by decide +kernel
theorem dX7_commonDivisor_51 : decode cX7_commonDivisor 51 = .ok (.lstore 9, 2) := by decide +kernel
theorem dX7_commonDivisor_53 : decode cX7_commonDivisor 53 = .ok (.lload 6, 2) := by decide +kernel
theorem dX7_commonDivisor_55 : decode cX7_commonDivisor 55 = .ok (.lstore 4, 2) := by decide +kernel
theorem dX7_commonDivisor_57 : decode cX7_commonDivisor 57 = .ok (.lload 9, 2) := by decide +kernel
theorem dX7_commonDivisor_59 : decode cX7_commonDivisor 59 = .ok (.lstore 6, 2) := by decide +kernel
theorem dX7_commonDivisor_61 : decode cX7_commonDivisor 61 = .ok (.iinc 8 1, 3) := by decide +kernel
theorem dX7_commonDivisor_64 : decode cX7_commonDivisor 64 = .ok (.goto (-33), 3) := by decide +kernel
theorem dX7_commonDivisor_67 : decode cX7_commonDivisor 67 = .ok (.lload 4, 2) := by decide +kernel
theorem dX7_commonDivisor_69 : decode cX7_commonDivisor 69 = .ok (.lreturn, 1) := by decide +kernel
theorem dX7_cutTo_0 : decode cX7_cutTo 0 = .ok (.iload_n 0, 1) := by decide +kernel
theorem dX7_cutTo_1 : decode cX7_cutTo 1 = .ok (.tableswitch 41 0 2 #[27, 32, 37], 27) := by decide +kernel
theorem dX7_cutTo_28 : decode cX7_cutTo 28 = .ok (.lload_n 1, 1) := by decide +kernel
theorem dX7_cutTo_29 : decode cX7_cutTo 29 = .ok (.l2i, 1) := by decide +kernel
theorem dX7_cutTo_30 : decode cX7_cutTo 30 = .ok (.i2b, 1) := by decide +kernel
theorem dX7_cutTo_31 : decode cX7_cutTo 31 = .ok (.i2l, 1) := by decide +kernel
theorem dX7_cutTo_32 : decode cX7_cutTo 32 = .ok (.lreturn, 1) := by decide +kernel
theorem dX7_cutTo_33 : decode cX7_cutTo 33 = .ok (.lload_n 1, 1) := by decide +kernel
theorem dX7_cutTo_34 : decode cX7_cutTo 34 = .ok (.l2i, 1) := by decide +kernel
theorem dX7_cutTo_35 : decode cX7_cutTo 35 = .ok (.i2s, 1) := by decide +kernel
theorem dX7_cutTo_36 : decode cX7_cutTo 36 = .ok (.i2l, 1) := by decide +kernel
theorem dX7_cutTo_37 : decode cX7_cutTo 37 = .ok (.lreturn, 1) := by decide +kernel
theorem dX7_cutTo_38 : decode cX7_cutTo 38 = .ok (.lload_n 1, 1) := by decide +kernel
theorem dX7_cutTo_39 : decode cX7_cutTo 39 = .ok (.l2i, 1) := by decide +kernel
theorem dX7_cutTo_40 : decode cX7_cutTo 40 = .ok (.i2l, 1) := by decide +kernel
theorem dX7_cutTo_41 : decode cX7_cutTo 41 = .ok (.lreturn, 1) := by decide +kernel
theorem dX7_cutTo_42 : decode cX7_cutTo 42 = .ok (.lload_n 1, 1) := by decide +kernel
theorem dX7_cutTo_43 : decode cX7_cutTo 43 = .ok (.lreturn, 1) := by decide +kernel
theorem dX8_init_0 : decode cX8_init 0 = .ok (.aload_n 0, 1) := by decide +kernel
theorem dX8_init_1 : decode cX8_init 1 = .ok (.invokespecial 1, 3) := by decide +kernel
theorem dX8_init_4 : decode cX8_init 4 = .ok (.aload_n 0, 1) := by decide +kernel
theorem dX8_init_5 : decode cX8_init 5 = .ok (.bipush 12, 2) := by decide +kernel
theorem dX8_init_7 : decode cX8_init 7 = .ok (.newarray .int, 2) := by decide +kernel
theorem dX8_init_9 : decode cX8_init 9 = .ok (.putfield 7, 3) := by decide +kernel
theorem dX8_init_12 : decode cX8_init 12 = .ok (.aload_n 0, 1) := by decide +kernel
theorem dX8_init_13 : decode cX8_init 13 = .ok (.bipush 72, 2) := by decide +kernel
theorem dX8_init_15 : decode cX8_init 15 = .ok (.newarray .int, 2) := by decide +kernel
theorem dX8_init_17 : decode cX8_init 17 = .ok (.putfield 13, 3) := by decide +kernel
theorem dX8_init_20 : decode cX8_init 20 = .ok (.aload_n 0, 1) := by decide +kernel
theorem dX8_init_21 : decode cX8_init 21 = .ok (.bipush 12, 2) := by decide +kernel
theorem dX8_init_23 : decode cX8_init 23 = .ok (.newarray .int, 2) := by decide +kernel
theorem dX8_init_25 : decode cX8_init 25 = .ok (.putfield 16, 3) := by decide +kernel
theorem dX8_init_28 : decode cX8_init 28 = .ok (.aload_n 0, 1) := by decide +kernel
theorem dX8_init_29 : decode cX8_init 29 = .ok (.bipush 72, 2) := by decide +kernel
theorem dX8_init_31 : decode cX8_init 31 = .ok (.newarray .int, 2) := by decide +kernel
theorem dX8_init_33 : decode cX8_init 33 = .ok (.putfield 19, 3) := by decide +kernel
theorem dX8_init_36 : decode cX8_init 36 = .ok (.aload_n 0, 1) := by decide +kernel
theorem dX8_init_37 : decode cX8_init 37 = .ok (.iconst (-1), 1) := by decide +kernel
theorem dX8_init_38 : decode cX8_init 38 = .ok (.putfield 22, 3) := by decide +kernel
theorem dX8_init_41 : decode cX8_init 41 = .ok (.aload_n 0, 1) := by decide +kernel
theorem dX8_init_42 : decode cX8_init 42 = .ok (.bipush 60, 2) := by decide +kernel
theorem dX8_init_44 : decode cX8_init 44 = .ok (.newarray .int, 2) := by decide +kernel
theorem dX8_init_46 : decode cX8_init 46 = .ok (.putfield 26, 3) := by decide +kernel
theorem dX8_init_49 : decode cX8_init 49 = .ok (.aload_n 0, 1) := by decide +kernel
theorem dX8_init_50 : decode cX8_init 50 = .ok (.iconst 4, 1) := by decide +kernel
theorem dX8_init_51 : decode cX8_init 51 = .ok (.newarray .int, 2) := by decide +kernel
theorem dX8_init_53 : decode cX8_init 53 = .ok (.putfield 29, 3) := by decide +kernel
theorem dX8_init_56 : decode cX8_init 56 = .ok (.aload_n 0, 1) := by decide +kernel
theorem dX8_init_57 : decode cX8_init 57 = .ok (.iconst 4, 1) := by decide +kernel
theorem dX8_init_58 : decode cX8_init 58 = .ok (.newarray .int, 2) := by decide +kernel
theorem dX8_init_60 : decode cX8_init 60 = .ok (.putfield 32, 3) := by decide +kernel
theorem dX8_init_63 : decode cX8_init 63 = .ok (.aload_n 0, 1) := by decide +kernel
theorem dX8_init_64 : decode cX8_init 64 = .ok (.bipush 96, 2) := by decide +kernel
theorem dX8_init_66 : decode cX8_init 66 = .ok (.newarray .long, 2) := by decide +kernel
theorem dX8_init_68 : decode cX8_init 68 = .ok (.putfield 35, 3) := by decide +kernel
theorem dX8_init_71 : decode cX8_init 71 = .ok (.aload_n 0, 1) := by decide +kernel
theorem dX8_init_72 : decode cX8_init 72 = .ok (.iconst 5, 1) := by decide +kernel
theorem dX8_init_73 : decode cX8_init 73 = .ok (.newarray .long, 2) := by decide +kernel
theorem dX8_init_75 : decode cX8_init 75 = .ok (.putfield 39, 3) := by decide +kernel
theorem dX8_init_78 : decode cX8_init 78 = .ok (.aload_n 0, 1) := by decide +kernel
theorem dX8_init_79 : decode cX8_init 79 = .ok (.iconst 5, 1) := by decide +kernel
theorem dX8_init_80 : decode cX8_init 80 = .ok (.newarray .long, 2) := by decide +kernel
theorem dX8_init_82 : decode cX8_init 82 = .ok (.putfield 42, 3) := by decide +kernel
theorem dX8_init_85 : decode cX8_init 85 = .ok (.aload_n 0, 1) := by decide +kernel
theorem dX8_init_86 : decode cX8_init 86 = .ok (.iconst 5, 1) := by decide +kernel
theorem dX8_init_87 : decode cX8_init 87 = .ok (.newarray .long, 2) := by decide +kernel
theorem dX8_init_89 : decode cX8_init 89 = .ok (.putfield 45, 3) := by decide +kernel
theorem dX8_init_92 : decode cX8_init 92 = .ok (.aload_n 0, 1) := by decide +kernel
theorem dX8_init_93 : decode cX8_init 93 = .ok (.iconst 5, 1) := by decide +kernel
theorem dX8_init_94 : decode cX8_init 94 = .ok (.newarray .long, 2) := by decide +kernel
theorem dX8_init_96 : decode cX8_init 96 = .ok (.putfield 48, 3) := by decide +kernel
theorem dX8_init_99 : decode cX8_init 99 = .ok (.aload_n 0, 1) := by decide +kernel
theorem dX8_init_100 : decode cX8_init 100 = .ok (.bipush 40, 2) := by decide +kernel
theorem dX8_init_102 : decode cX8_init 102 = .ok (.newarray .long, 2) := by decide +kernel
theorem dX8_init_104 : decode cX8_init 104 = .ok (.putfield 51, 3) := by decide +kernel
theorem dX8_init_107 : decode cX8_init 107 = .ok (.aload_n 0, 1) := by decide +kernel
theorem dX8_init_108 : decode cX8_init 108 = .ok (.iconst 5, 1) := by decide +kernel
theorem dX8_init_109 : decode cX8_init 109 = .ok (.newarray .long, 2) := by decide +kernel
theorem dX8_init_111 : decode cX8_init 111 = .ok (.putfield 54, 3) := by decide +kernel
theorem dX8_init_114 : decode cX8_init 114 = .ok (.aload_n 0, 1) := by decide +kernel
theorem dX8_init_115 : decode cX8_init 115 = .ok (.sipush 801, 3) := by decide +kernel
theorem dX8_init_118 : decode cX8_init 118 = .ok (.newarray .int, 2) := by decide +kernel
theorem dX8_init_120 : decode cX8_init 120 = .ok (.putfield 57, 3) := by decide +kernel
theorem dX8_init_123 : decode cX8_init 123 = .ok (.aload_n 0, 1) := by decide +kernel
theorem dX8_init_124 : decode cX8_init 124 = .ok (.sipush 801, 3) := by decide +kernel
theorem dX8_init_127 : decode cX8_init 127 = .ok (.newarray .int, 2) := by decide +kernel
theorem dX8_init_129 : decode cX8_init 129 = .ok (.putfield 60, 3) := by decide +kernel
theorem dX8_init_132 : decode cX8_init 132 = .ok (.aload_n 0, 1) := by decide +kernel
theorem dX8_init_133 : decode cX8_init 133 = .ok (.bipush 10, 2) := by decide +kernel
theorem dX8_init_135 : decode cX8_init 135 = .ok (.newarray .int, 2) := by decide +kernel
theorem dX8_init_137 : decode cX8_init 137 = .ok (.putfield 63, 3) := by decide +kernel
theorem dX8_init_140 : decode cX8_init 140 = .ok (.aload_n 0, 1) := by decide +kernel
theorem dX8_init_141 : decode cX8_init 141 = .ok (.getfield 7, 3) := by decide +kernel
theorem dX8_init_144 : decode cX8_init 144 = .ok (.iconst 0, 1) := by decide +kernel
theorem dX8_init_145 : decode cX8_init 145 = .ok (.iconst 1, 1) := by decide +kernel
theorem dX8_init_146 : decode cX8_init 146 = .ok (.iastore, 1) := by decide +kernel
theorem dX8_init_147 : decode cX8_init 147 = .ok (.aload_n 0, 1) := by decide +kernel
theorem dX8_init_148 : decode cX8_init 148 = .ok (.getfield 7, 3) := by decide +kernel
theorem dX8_init_151 : decode cX8_init 151 = .ok (.iconst 1, 1) := by decide +kernel
theorem dX8_init_152 : decode cX8_init 152 = .ok (.iconst 1, 1) := by decide +kernel
theorem dX8_init_153 : decode cX8_init 153 = .ok (.iastore, 1) := by decide +kernel
theorem dX8_init_154 : decode cX8_init 154 = .ok (.aload_n 0, 1) := by decide +kernel
theorem dX8_init_155 : decode cX8_init 155 = .ok (.getfield 7, 3) := by decide +kernel
theorem dX8_init_158 : decode cX8_init 158 = .ok (.iconst 5, 1) := by decide +kernel
theorem dX8_init_159 : decode cX8_init 159 = .ok (.iconst 1, 1) := by decide +kernel
theorem dX8_init_160 : decode cX8_init 160 = .ok (.iastore, 1) := by decide +kernel
theorem dX8_init_161 : decode cX8_init 161 = .ok (.aload_n 0, 1) := by decide +kernel
theorem dX8_init_162 : decode cX8_init 162 = .ok (.getfield 7, 3) := by decide +kernel
theorem dX8_init_165 : decode cX8_init 165 = .ok (.bipush 11, 2) := by decide +kernel
theorem dX8_init_167 : decode cX8_init 167 = .ok (.iconst 1, 1) := by decide +kernel
theorem dX8_init_168 : decode cX8_init 168 = .ok (.iastore, 1) := by decide +kernel
theorem dX8_init_169 : decode cX8_init 169 = .ok (.iconst 0, 1) := by decide +kernel
theorem dX8_init_170 : decode cX8_init 170 = .ok (.istore_n 1, 1) := by decide +kernel
theorem dX8_init_171 : decode cX8_init 171 = .ok (.iload_n 1, 1) := by decide +kernel
theorem dX8_init_172 : decode cX8_init 172 = .ok (.iconst 4, 1) := by decide +kernel
theorem dX8_init_173 : decode cX8_init 173 = .ok (.if_icmp .ge 17, 3) := by decide +kernel
theorem dX8_init_176 : decode cX8_init 176 = .ok (.aload_n 0, 1) := by decide +kernel
theorem dX8_init_177 : decode cX8_init 177 = .ok (.getfield 29, 3) := by decide +kernel
theorem dX8_init_180 : decode cX8_init 180 = .ok (.iload_n 1, 1) := by decide +kernel
theorem dX8_init_181 : decode cX8_init 181 = .ok (.bipush (-4), 2) := by decide +kernel
theorem dX8_init_183 : decode cX8_init 183 = .ok (.iastore, 1) := by decide +kernel
theorem dX8_init_184 : decode cX8_init 184 = .ok (.iinc 1 1, 3) := by decide +kernel
theorem dX8_init_187 : decode cX8_init 187 = .ok (.goto (-16), 3) := by decide +kernel
theorem dX8_init_190 : decode cX8_init 190 = .ok (.return_, 1) := by decide +kernel
theorem dX8_in_0 : decode cX8_in 0 = .ok (.lload_n 0, 1) := by decide +kernel
theorem dX8_in_1 : decode cX8_in 1 = .ok (.lload_n 2, 1) := by decide +kernel
theorem dX8_in_2 : decode cX8_in 2 = .ok (.lcmp, 1) := by decide +kernel
theorem dX8_in_3 : decode cX8_in 3 = .ok (.ifCond .lt 14, 3) := by decide +kernel
theorem dX8_in_6 : decode cX8_in 6 = .ok (.lload_n 0, 1) := by decide +kernel
theorem dX8_in_7 : decode cX8_in 7 = .ok (.lload 4, 2) := by decide +kernel
theorem dX8_in_9 : decode cX8_in 9 = .ok (.lcmp, 1) := by decide +kernel
theorem dX8_in_10 : decode cX8_in 10 = .ok (.ifCond .gt 7, 3) := by decide +kernel
theorem dX8_in_13 : decode cX8_in 13 = .ok (.iconst 1, 1) := by decide +kernel
theorem dX8_in_14 : decode cX8_in 14 = .ok (.goto 4, 3) := by decide +kernel
theorem dX8_in_17 : decode cX8_in 17 = .ok (.iconst 0, 1) := by decide +kernel
theorem dX8_in_18 : decode cX8_in 18 = .ok (.ireturn, 1) := by decide +kernel
theorem dX8_bring_0 : decode cX8_bring 0 = .ok (.iconst 0, 1) := by decide +kernel
theorem dX8_bring_1 : decode cX8_bring 1 = .ok (.istore 5, 2) := by decide +kernel
theorem dX8_bring_3 : decode cX8_bring 3 = .ok (.iload 5, 2) := by decide +kernel
theorem dX8_bring_5 : decode cX8_bring 5 = .ok (.iload 4, 2) := by decide +kernel
theorem dX8_bring_7 : decode cX8_bring 7 = .ok (.if_icmp .ge 21, 3) := by decide +kernel
theorem dX8_bring_10 : decode cX8_bring 10 = .ok (.aload_n 2, 1) := by decide +kernel
theorem dX8_bring_11 : decode cX8_bring 11 = .ok (.iload_n 3, 1) := by decide +kernel
theorem dX8_bring_12 : decode cX8_bring 12 = .ok (.iload 5, 2) := by decide +kernel
theorem dX8_bring_14 : decode cX8_bring 14 = .ok (.iadd, 1) := by decide +kernel
theorem dX8_bring_15 : decode cX8_bring 15 = .ok (.aload_n 0, 1) := by decide +kernel
theorem dX8_bring_16 : decode cX8_bring 16 = .ok (.iload_n 1, 1) := by decide +kernel
theorem dX8_bring_17 : decode cX8_bring 17 = .ok (.iload 5, 2) := by decide +kernel
theorem dX8_bring_19 : decode cX8_bring 19 = .ok (.iadd, 1) := by decide +kernel
theorem dX8_bring_20 : decode cX8_bring 20 = .ok (.iaload, 1) := by decide +kernel
theorem dX8_bring_21 : decode cX8_bring 21 = .ok (.iastore, 1) := by decide +kernel
theorem dX8_bring_22 : decode cX8_bring 22 = .ok (.iinc 5 1, 3) := by decide +kernel
theorem dX8_bring_25 : decode cX8_bring 25 = .ok (.goto (-22), 3) := by decide +kernel
theorem dX8_bring_28 : decode cX8_bring 28 = .ok (.return_, 1) := by decide +kernel
theorem dX8_notes_0 : decode cX8_notes 0 = .ok (.aload_n 0, 1) := by decide +kernel
theorem dX8_notes_1 : decode cX8_notes 1 = .ok (.getfield 66, 3) := by decide +kernel
theorem dX8_notes_4 : decode cX8_notes 4 = .ok (.bipush 6, 2) := by decide +kernel
theorem dX8_notes_6 : decode cX8_notes 6 = .ok (.if_icmp .ne 29, 3) := by decide +kernel
theorem dX8_notes_9 : decode cX8_notes 9 = .ok (.aload_n 0, 1) := by decide +kernel
theorem dX8_notes_10 : decode cX8_notes 10 = .ok (.getfield 13, 3) := by decide +kernel
theorem dX8_notes_13 : decode cX8_notes 13 = .ok (.bipush 12, 2) := by decide +kernel
theorem dX8_notes_15 : decode cX8_notes 15 = .ok (.aload_n 0, 1) := by decide +kernel
theorem dX8_notes_16 : decode cX8_notes 16 = .ok (.getfield 13, 3) := by decide +kernel
theorem dX8_notes_19 : decode cX8_notes 19 = .ok (.iconst 0, 1) := by decide +kernel
theorem dX8_notes_20 : decode cX8_notes 20 = .ok (.bipush 60, 2) := by decide +kernel
theorem dX8_notes_22 : decode cX8_notes 22 = .ok (.invokestatic 69, 3) := by decide +kernel
theorem dX8_notes_25 : decode cX8_notes 25 = .ok (.aload_n 0, 1) := by decide +kernel
theorem dX8_notes_26 : decode cX8_notes 26 = .ok (.dup, 1) := by decide +kernel
theorem dX8_notes_27 : decode cX8_notes 27 = .ok (.getfield 66, 3) := by decide +kernel
theorem dX8_notes_30 : decode cX8_notes 30 = .ok (.iconst 1, 1) := by decide +kernel
theorem dX8_notes_31 : decode cX8_notes 31 = .ok (.isub, 1) := by decide +kernel
theorem dX8_notes_32 : decode cX8_notes 32 = .ok (.putfield 66, 3) := by decide +kernel
theorem dX8_notes_35 : decode cX8_notes 35 = .ok (.aload_n 0, 1) := by decide +kernel
theorem dX8_notes_36 : decode cX8_notes 36 = .ok (.getfield 7, 3) := by decide +kernel
theorem dX8_notes_39 : decode cX8_notes 39 = .ok (.iconst 0, 1) := by decide +kernel
theorem dX8_notes_40 : decode cX8_notes 40 = .ok (.aload_n 0, 1) := by decide +kernel
theorem dX8_notes_41 : decode cX8_notes 41 = .ok (.getfield 13, 3) := by decide +kernel
theorem dX8_notes_44 : decode cX8_notes 44 = .ok (.bipush 12, 2) := by decide +kernel
theorem dX8_notes_46 : decode cX8_notes 46 = .ok (.aload_n 0, 1) := by decide +kernel
theorem dX8_notes_47 : decode cX8_notes 47 = .ok (.getfield 66, 3) := by decide +kernel
theorem dX8_notes_50 : decode cX8_notes 50 = .ok (.imul, 1) := by decide +kernel
theorem dX8_notes_51 : decode cX8_notes 51 = .ok (.bipush 12, 2) := by decide +kernel
theorem dX8_notes_53 : decode cX8_notes 53 = .ok (.invokestatic 69, 3) := by decide +kernel
theorem dX8_notes_56 : decode cX8_notes 56 = .ok (.aload_n 0, 1) := by decide +kernel
theorem dX8_notes_57 : decode cX8_notes 57 = .ok (.dup, 1) := by decide +kernel
theorem dX8_notes_58 : decode cX8_notes 58 = .ok (.getfield 66, 3) := by decide +kernel
theorem dX8_notes_61 : decode cX8_notes 61 = .ok (.iconst 1, 1) := by decide +kernel
theorem dX8_notes_62 : decode cX8_notes 62 = .ok (.iadd, 1) := by decide +kernel
theorem dX8_notes_63 : decode cX8_notes 63 = .ok (.putfield 66, 3) := by decide +kernel
theorem dX8_notes_66 : decode cX8_notes 66 = .ok (.return_, 1) := by decide +kernel
theorem dX8_degree_0 : decode cX8_degree 0 = .ok (.iconst 4, 1) := by decide +kernel
theorem dX8_degree_1 : decode cX8_degree 1 = .ok (.istore_n 2, 1) := by decide +kernel
theorem dX8_degree_2 : decode cX8_degree 2 = .ok (.iload_n 2, 1) := by decide +kernel
theorem dX8_degree_3 : decode cX8_degree 3 = .ok (.ifCond .lt 19, 3) := by decide +kernel
theorem dX8_degree_6 : decode cX8_degree 6 = .ok (.aload_n 0, 1) := by decide +kernel
theorem dX8_degree_7 : decode cX8_degree 7 = .ok (.iload_n 1, 1) := by decide +kernel
theorem dX8_degree_8 : decode cX8_degree 8 = .ok (.iload_n 2, 1) := by decide +kernel
theorem dX8_degree_9 : decode cX8_degree 9 = .ok (.iadd, 1) := by decide +kernel
theorem dX8_degree_10 : decode cX8_degree 10 = .ok (.laload, 1) := by decide +kernel
theorem dX8_degree_11 : decode cX8_degree 11 = .ok (.lconst 0, 1) := by decide +kernel
theorem dX8_degree_12 : decode cX8_degree 12 = .ok (.lcmp, 1) := by decide +kernel
theorem dX8_degree_13 : decode cX8_degree 13 = .ok (.ifCond .ne 9, 3) := by decide +kernel
theorem dX8_degree_16 : decode cX8_degree 16 = .ok (.iinc 2 (-1), 3) := by decide +kernel
theorem dX8_degree_19 : decode cX8_degree 19 = .ok (.goto (-17), 3) := by decide +kernel
theorem dX8_degree_22 : decode cX8_degree 22 = .ok (.iload_n 2, 1) := by decide +kernel
theorem dX8_degree_23 : decode cX8_degree 23 = .ok (.ifCond .ge 8, 3) := by decide +kernel
theorem dX8_degree_26 : decode cX8_degree 26 = .ok (.bipush (-4), 2) := by decide +kernel
theorem dX8_degree_28 : decode cX8_degree 28 = .ok (.goto 4, 3) := by decide +kernel
theorem dX8_degree_31 : decode cX8_degree 31 = .ok (.iload_n 2, 1) := by decide +kernel
theorem dX8_degree_32 : decode cX8_degree 32 = .ok (.ireturn, 1) := by decide +kernel
theorem dX8_loops_0 : decode cX8_loops 0 = .ok (.iconst 0, 1) := by decide +kernel
theorem dX8_loops_1 : decode cX8_loops 1 = .ok (.istore_n 2, 1) := by decide +kernel
theorem dX8_loops_2 : decode cX8_loops 2 = .ok (.iload_n 2, 1) := by decide +kernel
theorem dX8_loops_3 : decode cX8_loops 3 = .ok (.iconst 5, 1) := by decide +kernel
theorem dX8_loops_4 : decode cX8_loops 4 = .ok (.if_icmp .ge 39, 3) := by decide +kernel
theorem dX8_loops_7 : decode cX8_loops 7 = .ok (.aload_n 0, 1) := by decide +kernel
theorem dX8_loops_8 : decode cX8_loops 8 = .ok (.getfield 39, 3) := by decide +kernel
theorem dX8_loops_11 : decode cX8_loops 11 = .ok (.iload_n 2, 1) := by decide +kernel
theorem dX8_loops_12 : decode cX8_loops 12 = .ok (.ldc2_w 73, 3) := by decide +kernel
theorem dX8_loops_15 : decode cX8_loops 15 = .ok (.aload_n 0, 1) := by decide +kernel
theorem dX8_loops_16 : decode cX8_loops 16 = .ok (.getfield 7, 3) := by decide +kernel
theorem dX8_loops_19 : decode cX8_loops 19 = .ok (.iload_n 2, 1) := by decide +kernel
theorem dX8_loops_20 : decode cX8_loops 20 = .ok (.iaload, 1) := by decide +kernel
theorem dX8_loops_21 : decode cX8_loops 21 = .ok (.i2l, 1) := by decide +kernel
theorem dX8_loops_22 : decode cX8_loops 22 = .ok (.lmul, 1) := by decide +kernel
theorem dX8_loops_23 : decode cX8_loops 23 = .ok (.iload_n 1, 1) := by decide +kernel
theorem dX8_loops_24 : decode cX8_loops 24 = .ok (.i2l, 1) := by decide +kernel
theorem dX8_loops_25 : decode cX8_loops 25 = .ok (.aload_n 0, 1) := by decide +kernel
theorem dX8_loops_26 : decode cX8_loops 26 = .ok (.getfield 7, 3) := by decide +kernel
theorem dX8_loops_29 : decode cX8_loops 29 = .ok (.iconst 5, 1) := by decide +kernel
theorem dX8_loops_30 : decode cX8_loops 30 = .ok (.iload_n 2, 1) := by decide +kernel
theorem dX8_loops_31 : decode cX8_loops 31 = .ok (.iadd, 1) := by decide +kernel
theorem dX8_loops_32 : decode cX8_loops 32 = .ok (.iaload, 1) := by decide +kernel
theorem dX8_loops_33 : decode cX8_loops 33 = .ok (.i2l, 1) := by decide +kernel
theorem dX8_loops_34 : decode cX8_loops 34 = .ok (.lmul, 1) := by decide +kernel
theorem dX8_loops_35 : decode cX8_loops 35 = .ok (.ladd, 1) := by decide +kernel
theorem dX8_loops_36 : decode cX8_loops 36 = .ok (.lastore, 1) := by decide +kernel
theorem dX8_loops_37 : decode cX8_loops 37 = .ok (.iinc 2 1, 3) := by decide +kernel
theorem dX8_loops_40 : decode cX8_loops 40 = .ok (.goto (-38), 3) := by decide +kernel
theorem dX8_loops_43 : decode cX8_loops 43 = .ok (.return_, 1) := by decide +kernel
theorem dX8_sign_0 : decode cX8_sign 0 = .ok (.lload_n 0, 1) := by decide +kernel
theorem dX8_sign_1 : decode cX8_sign 1 = .ok (.lconst 0, 1) := by decide +kernel
theorem dX8_sign_2 : decode cX8_sign 2 = .ok (.lcmp, 1) := by decide +kernel
theorem dX8_sign_3 : decode cX8_sign 3 = .ok (.ifCond .le 7, 3) := by decide +kernel
theorem dX8_sign_6 : decode cX8_sign 6 = .ok (.iconst 1, 1) := by decide +kernel
theorem dX8_sign_7 : decode cX8_sign 7 = .ok (.goto 14, 3) := by decide +kernel
theorem dX8_sign_10 : decode cX8_sign 10 = .ok (.lload_n 0, 1) := by decide +kernel
theorem dX8_sign_11 : decode cX8_sign 11 = .ok (.lconst 0, 1) := by decide +kernel
theorem dX8_sign_12 : decode cX8_sign 12 = .ok (.lcmp, 1) := by decide +kernel
theorem dX8_sign_13 : decode cX8_sign 13 = .ok (.ifCond .ge 7, 3) := by decide +kernel
theorem dX8_sign_16 : decode cX8_sign 16 = .ok (.iconst (-1), 1) := by decide +kernel
theorem dX8_sign_17 : decode cX8_sign 17 = .ok (.goto 4, 3) := by decide +kernel
theorem dX8_sign_20 : decode cX8_sign 20 = .ok (.iconst 0, 1) := by decide +kernel
theorem dX8_sign_21 : decode cX8_sign 21 = .ok (.ireturn, 1) := by decide +kernel
theorem dX8_more_0 : decode cX8_more 0 = .ok (.aload_n 0, 1) := by decide +kernel
theorem dX8_more_1 : decode cX8_more 1 = .ok (.dup, 1) := by decide +kernel
theorem dX8_more_2 : decode cX8_more 2 = .ok (.getfield 75, 3) := by decide +kernel
theorem dX8_more_5 : decode cX8_more 5 = .ok (.iload_n 1, 1) := by decide +kernel
theorem dX8_more_6 : decode cX8_more 6 = .ok (.iadd, 1) := by decide +kernel
theorem dX8_more_7 : decode cX8_more 7 = .ok (.putfield 75, 3) := by decide +kernel
theorem dX8_more_10 : decode cX8_more 10 = .ok (.aload_n 0, 1) := by decide +kernel
theorem dX8_more_11 : decode cX8_more 11 = .ok (.dup, 1) := by decide +kernel
theorem dX8_more_12 : decode cX8_more 12 = .ok (.getfield 78, 3) := by decide +kernel
theorem dX8_more_15 : decode cX8_more 15 = .ok (.iload_n 2, 1) := by decide +kernel
theorem dX8_more_16 : decode cX8_more 16 = .ok (.iadd, 1) := by decide +kernel
theorem dX8_more_17 : decode cX8_more 17 = .ok (.putfield 78, 3) := by decide +kernel
theorem dX8_more_20 : decode cX8_more 20 = .ok (.aload_n 0, 1) := by decide +kernel
theorem dX8_more_21 : decode cX8_more 21 = .ok (.dup, 1) := by decide +kernel
theorem dX8_more_22 : decode cX8_more 22 = .ok (.getfield 81, 3) := by decide +kernel
theorem dX8_more_25 : decode cX8_more 25 = .ok (.iload_n 3, 1) := by decide +kernel
theorem dX8_more_26 : decode cX8_more 26 = .ok (.iadd, 1) := by decide +kernel
theorem dX8_more_27 : decode cX8_more 27 = .ok (.putfield 81, 3) := by decide +kernel
theorem dX8_more_30 : decode cX8_more 30 = .ok (.return_, 1) := by decide +kernel
theorem dX8_square_0 : decode cX8_square 0 = .ok (.iload_n 1, 1) := by decide +kernel
theorem dX8_square_1 : decode cX8_square 1 = .ok (.ifCond .ge 13, 3) := by decide +kernel
theorem dX8_square_4 : decode cX8_square 4 = .ok (.aload_n 0, 1) := by decide +kernel
theorem dX8_square_5 : decode cX8_square 5 = .ok (.iconst 0, 1) := by decide +kernel
theorem dX8_square_6 : decode cX8_square 6 = .ok (.iconst 2, 1) := by decide +kernel
theorem dX8_square_7 : decode cX8_square 7 = .ok (.iconst 0, 1) := by decide +kernel
theorem dX8_square_8 : decode cX8_square 8 = .ok (.invokevirtual 84, 3) := by decide +kernel
theorem dX8_square_11 : decode cX8_square 11 = .ok (.goto 10, 3) := by decide +kernel
theorem dX8_square_14 : decode cX8_square 14 = .ok (.aload_n 0, 1) := by decide +kernel
theorem dX8_square_15 : decode cX8_square 15 = .ok (.iconst 1, 1) := by decide +kernel
theorem dX8_square_16 : decode cX8_square 16 = .ok (.iconst 0, 1) := by decide +kernel
theorem dX8_square_17 : decode cX8_square 17 = .ok (.iconst 1, 1) := by decide +kernel
theorem dX8_square_18 : decode cX8_square 18 = .ok (.invokevirtual 84, 3) := by decide +kernel
theorem dX8_square_21 : decode cX8_square 21 = .ok (.return_, 1) := by decide +kernel
theorem dX8_squares_0 : decode cX8_squares 0 = .ok (.lload_n 1, 1) := by decide +kernel
theorem dX8_squares_1 : decode cX8_squares 1 = .ok (.lconst 0, 1) := by decide +kernel
theorem dX8_squares_2 : decode cX8_squares 2 = .ok (.lcmp, 1) := by decide +kernel
theorem dX8_squares_3 : decode cX8_squares 3 = .ok (.ifCond .ne 25, 3) := by decide +kernel
theorem dX8_squares_6 : decode cX8_squares 6 = .ok (.lload_n 3, 1) := by decide +kernel
theorem dX8_squares_7 : decode cX8_squares 7 = .ok (.lconst 0, 1) := by decide +kernel
theorem dX8_squares_8 : decode cX8_squares 8 = .ok (.lcmp, 1) := by decide +kernel
theorem dX8_squares_9 : decode cX8_squares 9 = .ok (.ifCond .eq 18, 3) := by decide +kernel
theorem dX8_squares_12 : decode cX8_squares 12 = .ok (.aload_n 0, 1) := by decide +kernel
theorem dX8_squares_13 : decode cX8_squares 13 = .ok (.lload_n 3, 1) := by decide +kernel
theorem dX8_squares_14 : decode cX8_squares 14 = .ok (.invokestatic 88, 3) := by decide +kernel
theorem dX8_squares_17 : decode cX8_squares 17 = .ok (.ineg, 1) := by decide +kernel
theorem dX8_squares_18 : decode cX8_squares 18 = .ok (.lload 5, 2) := by decide +kernel
theorem dX8_squares_20 : decode cX8_squares 20 = .ok (.invokestatic 88, 3) := by decide +kernel
theorem dX8_squares_23 : decode cX8_squares 23 = .ok (.imul, 1) := by decide +kernel
theorem dX8_squares_24 : decode cX8_squares 24 = .ok (.invokevirtual 92, 3) := by decide +kernel
theorem dX8_squares_27 : decode cX8_squares 27 = .ok (.return_, 1) := by decide +kernel
theorem dX8_squares_28 : decode cX8_squares 28 = .ok (.lload_n 3, 1) := by decide +kernel
theorem dX8_squares_29 : decode cX8_squares 29 = .ok (.lload_n 3, 1) := by decide +kernel
theorem dX8_squares_30 : decode cX8_squares 30 = .ok (.lmul, 1) := by decide +kernel
theorem dX8_squares_31 : decode cX8_squares 31 = .ok (.ldc2_w 96, 3) := by decide +kernel
theorem dX8_squares_34 : decode cX8_squares 34 = .ok (.lload_n 1, 1) := by decide +kernel
theorem dX8_squares_35 : decode cX8_squares 35 = .ok (.lmul, 1) := by decide +kernel
theorem dX8_squares_36 : decode cX8_squares 36 = .ok (.lload 5, 2) := by decide +kernel
theorem dX8_squares_38 : decode cX8_squares 38 = .ok (.lmul, 1) := by decide +kernel
theorem dX8_squares_39 : decode cX8_squares 39 = .ok (.lsub, 1) := by decide +kernel
theorem dX8_squares_40 : decode cX8_squares 40 = .ok (.lstore 7, 2) := by decide +kernel
theorem dX8_squares_42 : decode cX8_squares 42 = .ok (.lload 7, 2) := by decide +kernel
theorem dX8_squares_44 : decode cX8_squares 44 = .ok (.lconst 0, 1) := by decide +kernel
theorem dX8_squares_45 : decode cX8_squares 45 = .ok (.lcmp, 1) := by decide +kernel
theorem dX8_squares_46 : decode cX8_squares 46 = .ok (.ifCond .ge 13, 3) := by decide +kernel
theorem dX8_squares_49 : decode cX8_squares 49 = .ok (.aload_n 0, 1) := by decide +kernel
theorem dX8_squares_50 : decode cX8_squares 50 = .ok (.iconst 2, 1) := by decide +kernel
theorem dX8_squares_51 : decode cX8_squares 51 = .ok (.iconst 0, 1) := by decide +kernel
theorem dX8_squares_52 : decode cX8_squares 52 = .ok (.iconst 2, 1) := by decide +kernel
theorem dX8_squares_53 : decode cX8_squares 53 = .ok (.invokevirtual 84, 3) := by decide +kernel
theorem dX8_squares_56 : decode cX8_squares 56 = .ok (.goto 57, 3) := by decide +kernel
theorem dX8_squares_59 : decode cX8_squares 59 = .ok (.lload_n 1, 1) := by decide +kernel
theorem dX8_squares_60 : decode cX8_squares 60 = .ok (.invokestatic 88, 3) := by decide +kernel
theorem dX8_squares_63 : decode cX8_squares 63 = .ok (.lload 5, 2) := by decide +kernel
theorem dX8_squares_65 : decode cX8_squares 65 = .ok (.invokestatic 88, 3) := by decide +kernel
theorem dX8_squares_68 : decode cX8_squares 68 = .ok (.imul, 1) := by decide +kernel
theorem dX8_squares_69 : decode cX8_squares 69 = .ok (.ifCond .ge 16, 3) := by decide +kernel
theorem dX8_squares_72 : decode cX8_squares 72 = .ok (.aload_n 0, 1) := by decide +kernel
theorem dX8_squares_73 : decode cX8_squares 73 = .ok (.iconst (-1), 1) := by decide +kernel
theorem dX8_squares_74 : decode cX8_squares 74 = .ok (.invokevirtual 92, 3) := by decide +kernel
theorem dX8_squares_77 : decode cX8_squares 77 = .ok (.aload_n 0, 1) := by decide +kernel
theorem dX8_squares_78 : decode cX8_squares 78 = .ok (.iconst 1, 1) := by decide +kernel
theorem dX8_squares_79 : decode cX8_squares 79 = .ok (.invokevirtual 92, 3) := by decide +kernel
theorem dX8_squares_82 : decode cX8_squares 82 = .ok (.goto 31, 3) := by decide +kernel
theorem dX8_squares_85 : decode cX8_squares 85 = .ok (.aload_n 0, 1) := by decide +kernel
theorem dX8_squares_86 : decode cX8_squares 86 = .ok (.lload_n 3, 1) := by decide +kernel
theorem dX8_squares_87 : decode cX8_squares 87 = .ok (.invokestatic 88, 3) := by decide +kernel
theorem dX8_squares_90 : decode cX8_squares 90 = .ok (.ineg, 1) := by decide +kernel
theorem dX8_squares_91 : decode cX8_squares 91 = .ok (.lload_n 1, 1) := by decide +kernel
theorem dX8_squares_92 : decode cX8_squares 92 = .ok (.invokestatic 88, 3) := by decide +kernel
theorem dX8_squares_95 : decode cX8_squares 95 = .ok (.imul, 1) := by decide +kernel
theorem dX8_squares_96 : decode cX8_squares 96 = .ok (.invokevirtual 92, 3) := by decide +kernel
theorem dX8_squares_99 : decode cX8_squares 99 = .ok (.aload_n 0, 1) := by decide +kernel
theorem dX8_squares_100 : decode cX8_squares 100 = .ok (.lload_n 3, 1) := by decide +kernel
theorem dX8_squares_101 : decode cX8_squares 101 = .ok (.invokestatic 88, 3) := by decide +kernel
theorem dX8_squares_104 : decode cX8_squares 104 = .ok (.ineg, 1) := by decide +kernel
theorem dX8_squares_105 : decode cX8_squares 105 = .ok (.lload_n 1, 1) := by decide +kernel
theorem dX8_squares_106 : decode cX8_squares 106 = .ok (.invokestatic 88, 3) := by decide +kernel
theorem dX8_squares_109 : decode cX8_squares 109 = .ok (.imul, 1) := by decide +kernel
theorem dX8_squares_110 : decode cX8_squares 110 = .ok (.invokevirtual 92, 3) := by decide +kernel
theorem dX8_squares_113 : decode cX8_squares 113 = .ok (.return_, 1) := by decide +kernel
theorem dX8_two_0 : decode cX8_two 0 = .ok (.lload_n 1, 1) := by decide +kernel
theorem dX8_two_1 : decode cX8_two 1 = .ok (.lconst 0, 1) := by decide +kernel
theorem dX8_two_2 : decode cX8_two 2 = .ok (.lcmp, 1) := by decide +kernel
theorem dX8_two_3 : decode cX8_two 3 = .ok (.ifCond .ne 43, 3) := by decide +kernel
theorem dX8_two_6 : decode cX8_two 6 = .ok (.lload_n 3, 1) := by decide +kernel
theorem dX8_two_7 : decode cX8_two 7 = .ok (.invokestatic 88, 3) := by decide +kernel
theorem dX8_two_10 : decode cX8_two 10 = .ok (.lload 5, 2) := by decide +kernel
theorem dX8_two_12 : decode cX8_two 12 = .ok (.invokestatic 88, 3) := by decide +kernel
theorem dX8_two_15 : decode cX8_two 15 = .ok (.imul, 1) := by decide +kernel
theorem dX8_two_16 : decode cX8_two 16 = .ok (.istore 7, 2) := by decide +kernel
theorem dX8_two_18 : decode cX8_two 18 = .ok (.aload_n 0, 1) := by decide +kernel
theorem dX8_two_19 : decode cX8_two 19 = .ok (.iload 7, 2) := by decide +kernel
theorem dX8_two_21 : decode cX8_two 21 = .ok (.ifCond .ge 7, 3) := by decide +kernel
theorem dX8_two_24 : decode cX8_two 24 = .ok (.iconst 1, 1) := by decide +kernel
theorem dX8_two_25 : decode cX8_two 25 = .ok (.goto 4, 3) := by decide +kernel
theorem dX8_two_28 : decode cX8_two 28 = .ok (.iconst 0, 1) := by decide +kernel
theorem dX8_two_29 : decode cX8_two 29 = .ok (.iconst 0, 1) := by decide +kernel
theorem dX8_two_30 : decode cX8_two 30 = .ok (.iload 7, 2) := by decide +kernel
theorem dX8_two_32 : decode cX8_two 32 = .ok (.ifCond .le 7, 3) := by decide +kernel
theorem dX8_two_35 : decode cX8_two 35 = .ok (.iconst 1, 1) := by decide +kernel
theorem dX8_two_36 : decode cX8_two 36 = .ok (.goto 4, 3) := by decide +kernel
theorem dX8_two_39 : decode cX8_two 39 = .ok (.iconst 0, 1) := by decide +kernel
theorem dX8_two_40 : decode cX8_two 40 = .ok (.invokevirtual 84, 3) := by decide +kernel
theorem dX8_two_43 : decode cX8_two 43 = .ok (.goto 62, 3) := by decide +kernel
theorem dX8_two_46 : decode cX8_two 46 = .ok (.lload_n 1, 1) := by decide +kernel
theorem dX8_two_47 : decode cX8_two 47 = .ok (.invokestatic 88, 3) := by decide +kernel
theorem dX8_two_50 : decode cX8_two 50 = .ok (.lload 5, 2) := by decide +kernel
theorem dX8_two_52 : decode cX8_two 52 = .ok (.invokestatic 88, 3) := by decide +kernel
theorem dX8_two_55 : decode cX8_two 55 = .ok (.imul, 1) := by decide +kernel
theorem dX8_two_56 : decode cX8_two 56 = .ok (.ifCond .ge 13, 3) := by decide +kernel
theorem dX8_two_59 : decode cX8_two 59 = .ok (.aload_n 0, 1) := by decide +kernel
theorem dX8_two_60 : decode cX8_two 60 = .ok (.iconst 1, 1) := by decide +kernel
theorem dX8_two_61 : decode cX8_two 61 = .ok (.iconst 0, 1) := by decide +kernel
theorem dX8_two_62 : decode cX8_two 62 = .ok (.iconst 1, 1) := by decide +kernel
theorem dX8_two_63 : decode cX8_two 63 = .ok (.invokevirtual 84, 3) := by decide +kernel
theorem dX8_two_66 : decode cX8_two 66 = .ok (.goto 39, 3) := by decide +kernel
theorem dX8_two_69 : decode cX8_two 69 = .ok (.lload_n 1, 1) := by decide +kernel
theorem dX8_two_70 : decode cX8_two 70 = .ok (.invokestatic 88, 3) := by decide +kernel
theorem dX8_two_73 : decode cX8_two 73 = .ok (.lload_n 3, 1) := by decide +kernel
theorem dX8_two_74 : decode cX8_two 74 = .ok (.invokestatic 88, 3) := by decide +kernel
theorem dX8_two_77 : decode cX8_two 77 = .ok (.imul, 1) := by decide +kernel
theorem dX8_two_78 : decode cX8_two 78 = .ok (.istore 7, 2) := by decide +kernel
theorem dX8_two_80 : decode cX8_two 80 = .ok (.aload_n 0, 1) := by decide +kernel
theorem dX8_two_81 : decode cX8_two 81 = .ok (.iload 7, 2) := by decide +kernel
theorem dX8_two_83 : decode cX8_two 83 = .ok (.ifCond .ge 7, 3) := by decide +kernel
theorem dX8_two_86 : decode cX8_two 86 = .ok (.iconst 2, 1) := by decide +kernel
theorem dX8_two_87 : decode cX8_two 87 = .ok (.goto 4, 3) := by decide +kernel
theorem dX8_two_90 : decode cX8_two 90 = .ok (.iconst 0, 1) := by decide +kernel
theorem dX8_two_91 : decode cX8_two 91 = .ok (.iconst 0, 1) := by decide +kernel
theorem dX8_two_92 : decode cX8_two 92 = .ok (.iload 7, 2) := by decide +kernel
theorem dX8_two_94 : decode cX8_two 94 = .ok (.ifCond .le 7, 3) := by decide +kernel
theorem dX8_two_97 : decode cX8_two 97 = .ok (.iconst 2, 1) := by decide +kernel
theorem dX8_two_98 : decode cX8_two 98 = .ok (.goto 4, 3) := by decide +kernel
theorem dX8_two_101 : decode cX8_two 101 = .ok (.iconst 0, 1) := by decide +kernel
theorem dX8_two_102 : decode cX8_two 102 = .ok (.invokevirtual 84, 3) := by decide +kernel
theorem dX8_two_105 : decode cX8_two 105 = .ok (.return_, 1) := by decide +kernel
theorem dX8_passes_0 : decode cX8_passes 0 = .ok (.aload_n 0, 1) := by decide +kernel
theorem dX8_passes_1 : decode cX8_passes 1 = .ok (.dup, 1) := by decide +kernel
theorem dX8_passes_2 : decode cX8_passes 2 = .ok (.getfield 98, 3) := by decide +kernel
theorem dX8_passes_5 : decode cX8_passes 5 = .ok (.iload_n 1, 1) := by decide +kernel
theorem dX8_passes_6 : decode cX8_passes 6 = .ok (.aload_n 0, 1) := by decide +kernel
theorem dX8_passes_7 : decode cX8_passes 7 = .ok (.getfield 101, 3) := by decide +kernel
theorem dX8_passes_10 : decode cX8_passes 10 = .ok (.if_icmp .eq 7, 3) := by decide +kernel
theorem dX8_passes_13 : decode cX8_passes 13 = .ok (.iconst 1, 1) := by decide +kernel
theorem dX8_passes_14 : decode cX8_passes 14 = .ok (.goto 4, 3) := by decide +kernel
theorem dX8_passes_17 : decode cX8_passes 17 = .ok (.iconst 0, 1) := by decide +kernel
theorem dX8_passes_18 : decode cX8_passes 18 = .ok (.iadd, 1) := by decide +kernel
theorem dX8_passes_19 : decode cX8_passes 19 = .ok (.putfield 98, 3) := by decide +kernel
theorem dX8_passes_22 : decode cX8_passes 22 = .ok (.aload_n 0, 1) := by decide +kernel
theorem dX8_passes_23 : decode cX8_passes 23 = .ok (.iload_n 1, 1) := by decide +kernel
theorem dX8_passes_24 : decode cX8_passes 24 = .ok (.putfield 101, 3) := by decide +kernel
theorem dX8_passes_27 : decode cX8_passes 27 = .ok (.return_, 1) := by decide +kernel
theorem dX8_three_0 : decode cX8_three 0 = .ok (.aload_n 0, 1) := by decide +kernel
theorem dX8_three_1 : decode cX8_three 1 = .ok (.iconst 1, 1) := by decide +kernel
theorem dX8_three_2 : decode cX8_three 2 = .ok (.putfield 101, 3) := by decide +kernel
theorem dX8_three_5 : decode cX8_three 5 = .ok (.aload_n 0, 1) := by decide +kernel
theorem dX8_three_6 : decode cX8_three 6 = .ok (.iconst 0, 1) := by decide +kernel
theorem dX8_three_7 : decode cX8_three 7 = .ok (.putfield 98, 3) := by decide +kernel
theorem dX8_three_10 : decode cX8_three 10 = .ok (.lload_n 3, 1) := by decide +kernel
theorem dX8_three_11 : decode cX8_three 11 = .ok (.lload 5, 2) := by decide +kernel
theorem dX8_three_13 : decode cX8_three 13 = .ok (.lmul, 1) := by decide +kernel
theorem dX8_three_14 : decode cX8_three 14 = .ok (.lload_n 1, 1) := by decide +kernel
theorem dX8_three_15 : decode cX8_three 15 = .ok (.lload 7, 2) := by decide +kernel
theorem dX8_three_17 : decode cX8_three 17 = .ok (.lmul, 1) := by decide +kernel
theorem dX8_three_18 : decode cX8_three 18 = .ok (.lsub, 1) := by decide +kernel
theorem dX8_three_19 : decode cX8_three 19 = .ok (.lstore 9, 2) := by decide +kernel
theorem dX8_three_21 : decode cX8_three 21 = .ok (.aload_n 0, 1) := by decide +kernel
theorem dX8_three_22 : decode cX8_three 22 = .ok (.lload_n 3, 1) := by decide +kernel
theorem dX8_three_23 : decode cX8_three 23 = .ok (.lconst 0, 1) := by decide +kernel
theorem dX8_three_24 : decode cX8_three 24 = .ok (.lcmp, 1) := by decide +kernel
theorem dX8_three_25 : decode cX8_three 25 = .ok (.ifCond .ne 7, 3) := by decide +kernel
theorem dX8_three_28 : decode cX8_three 28 = .ok (.iconst 1, 1) := by decide +kernel
theorem dX8_three_29 : decode cX8_three 29 = .ok (.goto 7, 3) := by decide +kernel
theorem dX8_three_32 : decode cX8_three 32 = .ok (.lload_n 3, 1) := by decide +kernel
theorem dX8_three_33 : decode cX8_three 33 = .ok (.invokestatic 88, 3) := by decide +kernel
theorem dX8_three_36 : decode cX8_three 36 = .ok (.invokevirtual 104, 3) := by decide +kernel
theorem dX8_three_39 : decode cX8_three 39 = .ok (.aload_n 0, 1) := by decide +kernel
theorem dX8_three_40 : decode cX8_three 40 = .ok (.lload_n 3, 1) := by decide +kernel
theorem dX8_three_41 : decode cX8_three 41 = .ok (.lconst 0, 1) := by decide +kernel
theorem dX8_three_42 : decode cX8_three 42 = .ok (.lcmp, 1) := by decide +kernel
theorem dX8_three_43 : decode cX8_three 43 = .ok (.ifCond .ne 12, 3) := by decide +kernel
theorem dX8_three_46 : decode cX8_three 46 = .ok (.lload 7, 2) := by decide +kernel
theorem dX8_three_48 : decode cX8_three 48 = .ok (.invokestatic 88, 3) := by decide +kernel
theorem dX8_three_51 : decode cX8_three 51 = .ok (.ineg, 1) := by decide +kernel
theorem dX8_three_52 : decode cX8_three 52 = .ok (.goto 13, 3) := by decide +kernel
theorem dX8_three_55 : decode cX8_three 55 = .ok (.lload 9, 2) := by decide +kernel
theorem dX8_three_57 : decode cX8_three 57 = .ok (.invokestatic 88, 3) := by decide +kernel
theorem dX8_three_60 : decode cX8_three 60 = .ok (.lload_n 3, 1) := by decide +kernel
theorem dX8_three_61 : decode cX8_three 61 = .ok (.invokestatic 88, 3) := by decide +kernel
theorem dX8_three_64 : decode cX8_three 64 = .ok (.imul, 1) := by decide +kernel
theorem dX8_three_65 : decode cX8_three 65 = .ok (.invokevirtual 104, 3) := by decide +kernel
theorem dX8_three_68 : decode cX8_three 68 = .ok (.aload_n 0, 1) := by decide +kernel
theorem dX8_three_69 : decode cX8_three 69 = .ok (.lload 7, 2) := by decide +kernel
theorem dX8_three_71 : decode cX8_three 71 = .ok (.invokestatic 88, 3) := by decide +kernel
theorem dX8_three_74 : decode cX8_three 74 = .ok (.invokevirtual 104, 3) := by decide +kernel
theorem dX8_three_77 : decode cX8_three 77 = .ok (.return_, 1) := by decide +kernel
theorem dX8_four_0 : decode cX8_four 0 = .ok (.aload_n 0, 1) := by decide +kernel
theorem dX8_four_1 : decode cX8_four 1 = .ok (.iconst 1, 1) := by decide +kernel
theorem dX8_four_2 : decode cX8_four 2 = .ok (.putfield 101, 3) := by decide +kernel
theorem dX8_four_5 : decode cX8_four 5 = .ok (.aload_n 0, 1) := by decide +kernel
theorem dX8_four_6 : decode cX8_four 6 = .ok (.iconst 0, 1) := by decide +kernel
theorem dX8_four_7 : decode cX8_four 7 = .ok (.putfield 98, 3) := by decide +kernel
theorem dX8_four_10 : decode cX8_four 10 = .ok (.aload_n 0, 1) := by decide +kernel
theorem dX8_four_11 : decode cX8_four 11 = .ok (.getfield 42, 3) := by decide +kernel
theorem dX8_four_14 : decode cX8_four 14 = .ok (.iconst 3, 1) := by decide +kernel
theorem dX8_four_15 : decode cX8_four 15 = .ok (.laload, 1) := by decide +kernel
theorem dX8_four_16 : decode cX8_four 16 = .ok (.lconst 0, 1) := by decide +kernel
theorem dX8_four_17 : decode cX8_four 17 = .ok (.lcmp, 1) := by decide +kernel
theorem dX8_four_18 : decode cX8_four 18 = .ok (.ifCond .ne 38, 3) := by decide +kernel
theorem dX8_four_21 : decode cX8_four 21 = .ok (.aload_n 0, 1) := by decide +kernel
theorem dX8_four_22 : decode cX8_four 22 = .ok (.iconst 1, 1) := by decide +kernel
theorem dX8_four_23 : decode cX8_four 23 = .ok (.invokevirtual 104, 3) := by decide +kernel
theorem dX8_four_26 : decode cX8_four 26 = .ok (.aload_n 0, 1) := by decide +kernel
theorem dX8_four_27 : decode cX8_four 27 = .ok (.aload_n 0, 1) := by decide +kernel
theorem dX8_four_28 : decode cX8_four 28 = .ok (.getfield 42, 3) := by decide +kernel
theorem dX8_four_31 : decode cX8_four 31 = .ok (.iconst 1, 1) := by decide +kernel
theorem dX8_four_32 : decode cX8_four 32 = .ok (.laload, 1) := by decide +kernel
theorem dX8_four_33 : decode cX8_four 33 = .ok (.invokestatic 88, 3) := by decide +kernel
theorem dX8_four_36 : decode cX8_four 36 = .ok (.ineg, 1) := by decide +kernel
theorem dX8_four_37 : decode cX8_four 37 = .ok (.invokevirtual 104, 3) := by decide +kernel
theorem dX8_four_40 : decode cX8_four 40 = .ok (.aload_n 0, 1) := by decide +kernel
theorem dX8_four_41 : decode cX8_four 41 = .ok (.aload_n 0, 1) := by decide +kernel
theorem dX8_four_42 : decode cX8_four 42 = .ok (.getfield 42, 3) := by decide +kernel
theorem dX8_four_45 : decode cX8_four 45 = .ok (.iconst 1, 1) := by decide +kernel
theorem dX8_four_46 : decode cX8_four 46 = .ok (.laload, 1) := by decide +kernel
theorem dX8_four_47 : decode cX8_four 47 = .ok (.invokestatic 88, 3) := by decide +kernel
theorem dX8_four_50 : decode cX8_four 50 = .ok (.invokevirtual 104, 3) := by decide +kernel
theorem dX8_four_53 : decode cX8_four 53 = .ok (.goto 144, 3) := by decide +kernel
theorem dX8_four_56 : decode cX8_four 56 = .ok (.aload_n 0, 1) := by decide +kernel
theorem dX8_four_57 : decode cX8_four 57 = .ok (.getfield 42, 3) := by decide +kernel
theorem dX8_four_60 : decode cX8_four 60 = .ok (.iconst 3, 1) := by decide +kernel
theorem dX8_four_61 : decode cX8_four 61 = .ok (.laload, 1) := by decide +kernel
theorem dX8_four_62 : decode cX8_four 62 = .ok (.aload_n 0, 1) := by decide +kernel
theorem dX8_four_63 : decode cX8_four 63 = .ok (.getfield 42, 3) := by decide +kernel
theorem dX8_four_66 : decode cX8_four 66 = .ok (.iconst 2, 1) := by decide +kernel
theorem dX8_four_67 : decode cX8_four 67 = .ok (.laload, 1) := by decide +kernel
theorem dX8_four_68 : decode cX8_four 68 = .ok (.lmul, 1) := by decide +kernel
theorem dX8_four_69 : decode cX8_four 69 = .ok (.aload_n 0, 1) := by decide +kernel
theorem dX8_four_70 : decode cX8_four 70 = .ok (.getfield 42, 3) := by decide +kernel
theorem dX8_four_73 : decode cX8_four 73 = .ok (.iconst 4, 1) := by decide +kernel
theorem dX8_four_74 : decode cX8_four 74 = .ok (.laload, 1) := by decide +kernel
theorem dX8_four_75 : decode cX8_four 75 = .ok (.aload_n 0, 1) := by decide +kernel
theorem dX8_four_76 : decode cX8_four 76 = .ok (.getfield 42, 3) := by decide +kernel
theorem dX8_four_79 : decode cX8_four 79 = .ok (.iconst 1, 1) := by decide +kernel
theorem dX8_four_80 : decode cX8_four 80 = .ok (.laload, 1) := by decide +kernel
theorem dX8_four_81 : decode cX8_four 81 = .ok (.lmul, 1) := by decide +kernel
theorem dX8_four_82 : decode cX8_four 82 = .ok (.lsub, 1) := by decide +kernel
theorem dX8_four_83 : decode cX8_four 83 = .ok (.lstore_n 1, 1) := by decide +kernel
theorem dX8_four_84 : decode cX8_four 84 = .ok (.lload_n 1, 1) := by decide +kernel
theorem dX8_four_85 : decode cX8_four 85 = .ok (.aload_n 0, 1) := by decide +kernel
theorem dX8_four_86 : decode cX8_four 86 = .ok (.getfield 42, 3) := by decide +kernel
theorem dX8_four_89 : decode cX8_four 89 = .ok (.iconst 1, 1) := by decide +kernel
theorem dX8_four_90 : decode cX8_four 90 = .ok (.laload, 1) := by decide +kernel
theorem dX8_four_91 : decode cX8_four 91 = .ok (.lmul, 1) := by decide +kernel
theorem dX8_four_92 : decode cX8_four 92 = .ok (.aload_n 0, 1) := by decide +kernel
theorem dX8_four_93 : decode cX8_four 93 = .ok (.getfield 42, 3) := by decide +kernel
theorem dX8_four_96 : decode cX8_four 96 = .ok (.iconst 3, 1) := by decide +kernel
theorem dX8_four_97 : decode cX8_four 97 = .ok (.laload, 1) := by decide +kernel
theorem dX8_four_98 : decode cX8_four 98 = .ok (.aload_n 0, 1) := by decide +kernel
theorem dX8_four_99 : decode cX8_four 99 = .ok (.getfield 42, 3) := by decide +kernel
theorem dX8_four_102 : decode cX8_four 102 = .ok (.iconst 3, 1) := by decide +kernel
theorem dX8_four_103 : decode cX8_four 103 = .ok (.laload, 1) := by decide +kernel
theorem dX8_four_104 : decode cX8_four 104 = .ok (.lmul, 1) := by decide +kernel
theorem dX8_four_105 : decode cX8_four 105 = .ok (.aload_n 0, 1) := by decide +kernel
theorem dX8_four_106 : decode cX8_four 106 = .ok (.getfield 42, 3) := by decide +kernel
theorem dX8_four_109 : decode cX8_four 109 = .ok (.iconst 0, 1) := by decide +kernel
theorem dX8_four_110 : decode cX8_four 110 = .ok (.laload, 1) := by decide +kernel
theorem dX8_four_111 : decode cX8_four 111 = .ok (.lmul, 1) := by decide +kernel
theorem dX8_four_112 : decode cX8_four 112 = .ok (.lsub, 1) := by decide +kernel
theorem dX8_four_113 : decode cX8_four 113 = .ok (.lstore_n 3, 1) := by decide +kernel
theorem dX8_four_114 : decode cX8_four 114 = .ok (.aload_n 0, 1) := by decide +kernel
theorem dX8_four_115 : decode cX8_four 115 = .ok (.aload_n 0, 1) := by decide +kernel
theorem dX8_four_116 : decode cX8_four 116 = .ok (.getfield 42, 3) := by decide +kernel
theorem dX8_four_119 : decode cX8_four 119 = .ok (.iconst 3, 1) := by decide +kernel
theorem dX8_four_120 : decode cX8_four 120 = .ok (.laload, 1) := by decide +kernel
theorem dX8_four_121 : decode cX8_four 121 = .ok (.invokestatic 88, 3) := by decide +kernel
theorem dX8_four_124 : decode cX8_four 124 = .ok (.invokevirtual 104, 3) := by decide +kernel
theorem dX8_four_127 : decode cX8_four 127 = .ok (.aload_n 0, 1) := by decide +kernel
theorem dX8_four_128 : decode cX8_four 128 = .ok (.lload_n 1, 1) := by decide +kernel
theorem dX8_four_129 : decode cX8_four 129 = .ok (.lconst 0, 1) := by decide +kernel
theorem dX8_four_130 : decode cX8_four 130 = .ok (.lcmp, 1) := by decide +kernel
theorem dX8_four_131 : decode cX8_four 131 = .ok (.ifCond .ne 7, 3) := by decide +kernel
theorem dX8_four_134 : decode cX8_four 134 = .ok (.iconst 1, 1) := by decide +kernel
theorem dX8_four_135 : decode cX8_four 135 = .ok (.goto 17, 3) := by decide +kernel
theorem dX8_four_138 : decode cX8_four 138 = .ok (.lload_n 1, 1) := by decide +kernel
theorem dX8_four_139 : decode cX8_four 139 = .ok (.invokestatic 88, 3) := by decide +kernel
theorem dX8_four_142 : decode cX8_four 142 = .ok (.aload_n 0, 1) := by decide +kernel
theorem dX8_four_143 : decode cX8_four 143 = .ok (.getfield 42, 3) := by decide +kernel
theorem dX8_four_146 : decode cX8_four 146 = .ok (.iconst 3, 1) := by decide +kernel
theorem dX8_four_147 : decode cX8_four 147 = .ok (.laload, 1) := by decide +kernel
theorem dX8_four_148 : decode cX8_four 148 = .ok (.invokestatic 88, 3) := by decide +kernel
theorem dX8_four_151 : decode cX8_four 151 = .ok (.imul, 1) := by decide +kernel
theorem dX8_four_152 : decode cX8_four 152 = .ok (.invokevirtual 104, 3) := by decide +kernel
theorem dX8_four_155 : decode cX8_four 155 = .ok (.aload_n 0, 1) := by decide +kernel
theorem dX8_four_156 : decode cX8_four 156 = .ok (.lload_n 1, 1) := by decide +kernel
theorem dX8_four_157 : decode cX8_four 157 = .ok (.lconst 0, 1) := by decide +kernel
theorem dX8_four_158 : decode cX8_four 158 = .ok (.lcmp, 1) := by decide +kernel
theorem dX8_four_159 : decode cX8_four 159 = .ok (.ifCond .ne 26, 3) := by decide +kernel
theorem dX8_four_162 : decode cX8_four 162 = .ok (.aload_n 0, 1) := by decide +kernel
theorem dX8_four_163 : decode cX8_four 163 = .ok (.getfield 42, 3) := by decide +kernel
theorem dX8_four_166 : decode cX8_four 166 = .ok (.iconst 3, 1) := by decide +kernel
theorem dX8_four_167 : decode cX8_four 167 = .ok (.laload, 1) := by decide +kernel
theorem dX8_four_168 : decode cX8_four 168 = .ok (.invokestatic 88, 3) := by decide +kernel
theorem dX8_four_171 : decode cX8_four 171 = .ok (.ineg, 1) := by decide +kernel
theorem dX8_four_172 : decode cX8_four 172 = .ok (.aload_n 0, 1) := by decide +kernel
theorem dX8_four_173 : decode cX8_four 173 = .ok (.getfield 42, 3) := by decide +kernel
end
section
theorem dX8_four_176 : decode cX8_four 176 = .ok (.iconst 0, 1) := by decide +kernel
theorem dX8_four_177 : decode cX8_four 177 = .ok (.laload, 1) := by decide +kernel
theorem dX8_four_178 : decode cX8_four 178 = .ok (.invokestatic 88, 3) := by decide +kernel
theorem dX8_four_181 : decode cX8_four 181 = .ok (.imul, 1) := by decide +kernel
theorem dX8_four_182 : decode cX8_four 182 = .ok (.goto 12, 3) := by decide +kernel
theorem dX8_four_185 : decode cX8_four 185 = .ok (.lload_n 3, 1) := by decide +kernel
theorem dX8_four_186 : decode cX8_four 186 = .ok (.invokestatic 88, 3) := by decide +kernel
theorem dX8_four_189 : decode cX8_four 189 = .ok (.lload_n 1, 1) := by decide +kernel
theorem dX8_four_190 : decode cX8_four 190 = .ok (.invokestatic 88, 3) := by decide +kernel
theorem dX8_four_193 : decode cX8_four 193 = .ok (.imul, 1) := by decide +kernel
theorem dX8_four_194 : decode cX8_four 194 = .ok (.invokevirtual 104, 3) := by decide +kernel
theorem dX8_four_197 : decode cX8_four 197 = .ok (.aload_n 0, 1) := by decide +kernel
theorem dX8_four_198 : decode cX8_four 198 = .ok (.aload_n 0, 1) := by decide +kernel
theorem dX8_four_199 : decode cX8_four 199 = .ok (.getfield 42, 3) := by decide +kernel
theorem dX8_four_202 : decode cX8_four 202 = .ok (.iconst 0, 1) := by decide +kernel
theorem dX8_four_203 : decode cX8_four 203 = .ok (.laload, 1) := by decide +kernel
theorem dX8_four_204 : decode cX8_four 204 = .ok (.invokestatic 88, 3) := by decide +kernel
theorem dX8_four_207 : decode cX8_four 207 = .ok (.invokevirtual 104, 3) := by decide +kernel
theorem dX8_four_210 : decode cX8_four 210 = .ok (.return_, 1) := by decide +kernel
theorem dX8_apart_0 : decode cX8_apart 0 = .ok (.iload_n 1, 1) := by decide +kernel
theorem dX8_apart_1 : decode cX8_apart 1 = .ok (.iconst 3, 1) := by decide +kernel
theorem dX8_apart_2 : decode cX8_apart 2 = .ok (.if_icmp .ge 26, 3) := by decide +kernel
theorem dX8_apart_5 : decode cX8_apart 5 = .ok (.aload_n 0, 1) := by decide +kernel
theorem dX8_apart_6 : decode cX8_apart 6 = .ok (.aload_n 0, 1) := by decide +kernel
theorem dX8_apart_7 : decode cX8_apart 7 = .ok (.getfield 42, 3) := by decide +kernel
theorem dX8_apart_10 : decode cX8_apart 10 = .ok (.iconst 2, 1) := by decide +kernel
theorem dX8_apart_11 : decode cX8_apart 11 = .ok (.laload, 1) := by decide +kernel
theorem dX8_apart_12 : decode cX8_apart 12 = .ok (.aload_n 0, 1) := by decide +kernel
theorem dX8_apart_13 : decode cX8_apart 13 = .ok (.getfield 42, 3) := by decide +kernel
theorem dX8_apart_16 : decode cX8_apart 16 = .ok (.iconst 1, 1) := by decide +kernel
theorem dX8_apart_17 : decode cX8_apart 17 = .ok (.laload, 1) := by decide +kernel
theorem dX8_apart_18 : decode cX8_apart 18 = .ok (.aload_n 0, 1) := by decide +kernel
theorem dX8_apart_19 : decode cX8_apart 19 = .ok (.getfield 42, 3) := by decide +kernel
theorem dX8_apart_22 : decode cX8_apart 22 = .ok (.iconst 0, 1) := by decide +kernel
theorem dX8_apart_23 : decode cX8_apart 23 = .ok (.laload, 1) := by decide +kernel
theorem dX8_apart_24 : decode cX8_apart 24 = .ok (.invokevirtual 107, 3) := by decide +kernel
theorem dX8_apart_27 : decode cX8_apart 27 = .ok (.return_, 1) := by decide +kernel
theorem dX8_apart_28 : decode cX8_apart 28 = .ok (.aload_n 0, 1) := by decide +kernel
theorem dX8_apart_29 : decode cX8_apart 29 = .ok (.getfield 42, 3) := by decide +kernel
theorem dX8_apart_32 : decode cX8_apart 32 = .ok (.iload_n 1, 1) := by decide +kernel
theorem dX8_apart_33 : decode cX8_apart 33 = .ok (.laload, 1) := by decide +kernel
theorem dX8_apart_34 : decode cX8_apart 34 = .ok (.invokestatic 88, 3) := by decide +kernel
theorem dX8_apart_37 : decode cX8_apart 37 = .ok (.istore_n 2, 1) := by decide +kernel
theorem dX8_apart_38 : decode cX8_apart 38 = .ok (.iconst 0, 1) := by decide +kernel
theorem dX8_apart_39 : decode cX8_apart 39 = .ok (.istore_n 3, 1) := by decide +kernel
theorem dX8_apart_40 : decode cX8_apart 40 = .ok (.iload_n 3, 1) := by decide +kernel
theorem dX8_apart_41 : decode cX8_apart 41 = .ok (.iconst 5, 1) := by decide +kernel
theorem dX8_apart_42 : decode cX8_apart 42 = .ok (.if_icmp .ge 20, 3) := by decide +kernel
theorem dX8_apart_45 : decode cX8_apart 45 = .ok (.aload_n 0, 1) := by decide +kernel
theorem dX8_apart_46 : decode cX8_apart 46 = .ok (.getfield 42, 3) := by decide +kernel
theorem dX8_apart_49 : decode cX8_apart 49 = .ok (.iload_n 3, 1) := by decide +kernel
theorem dX8_apart_50 : decode cX8_apart 50 = .ok (.dup2, 1) := by decide +kernel
theorem dX8_apart_51 : decode cX8_apart 51 = .ok (.laload, 1) := by decide +kernel
theorem dX8_apart_52 : decode cX8_apart 52 = .ok (.iload_n 2, 1) := by decide +kernel
theorem dX8_apart_53 : decode cX8_apart 53 = .ok (.i2l, 1) := by decide +kernel
theorem dX8_apart_54 : decode cX8_apart 54 = .ok (.lmul, 1) := by decide +kernel
theorem dX8_apart_55 : decode cX8_apart 55 = .ok (.lastore, 1) := by decide +kernel
theorem dX8_apart_56 : decode cX8_apart 56 = .ok (.iinc 3 1, 3) := by decide +kernel
theorem dX8_apart_59 : decode cX8_apart 59 = .ok (.goto (-19), 3) := by decide +kernel
theorem dX8_apart_62 : decode cX8_apart 62 = .ok (.iload_n 1, 1) := by decide +kernel
theorem dX8_apart_63 : decode cX8_apart 63 = .ok (.iconst 3, 1) := by decide +kernel
theorem dX8_apart_64 : decode cX8_apart 64 = .ok (.if_icmp .ne 34, 3) := by decide +kernel
theorem dX8_apart_67 : decode cX8_apart 67 = .ok (.aload_n 0, 1) := by decide +kernel
theorem dX8_apart_68 : decode cX8_apart 68 = .ok (.aload_n 0, 1) := by decide +kernel
theorem dX8_apart_69 : decode cX8_apart 69 = .ok (.getfield 42, 3) := by decide +kernel
theorem dX8_apart_72 : decode cX8_apart 72 = .ok (.iconst 3, 1) := by decide +kernel
theorem dX8_apart_73 : decode cX8_apart 73 = .ok (.laload, 1) := by decide +kernel
theorem dX8_apart_74 : decode cX8_apart 74 = .ok (.aload_n 0, 1) := by decide +kernel
theorem dX8_apart_75 : decode cX8_apart 75 = .ok (.getfield 42, 3) := by decide +kernel
theorem dX8_apart_78 : decode cX8_apart 78 = .ok (.iconst 2, 1) := by decide +kernel
theorem dX8_apart_79 : decode cX8_apart 79 = .ok (.laload, 1) := by decide +kernel
theorem dX8_apart_80 : decode cX8_apart 80 = .ok (.aload_n 0, 1) := by decide +kernel
theorem dX8_apart_81 : decode cX8_apart 81 = .ok (.getfield 42, 3) := by decide +kernel
theorem dX8_apart_84 : decode cX8_apart 84 = .ok (.iconst 1, 1) := by decide +kernel
theorem dX8_apart_85 : decode cX8_apart 85 = .ok (.laload, 1) := by decide +kernel
theorem dX8_apart_86 : decode cX8_apart 86 = .ok (.aload_n 0, 1) := by decide +kernel
theorem dX8_apart_87 : decode cX8_apart 87 = .ok (.getfield 42, 3) := by decide +kernel
theorem dX8_apart_90 : decode cX8_apart 90 = .ok (.iconst 0, 1) := by decide +kernel
theorem dX8_apart_91 : decode cX8_apart 91 = .ok (.laload, 1) := by decide +kernel
theorem dX8_apart_92 : decode cX8_apart 92 = .ok (.invokevirtual 111, 3) := by decide +kernel
theorem dX8_apart_95 : decode cX8_apart 95 = .ok (.goto 7, 3) := by decide +kernel
theorem dX8_apart_98 : decode cX8_apart 98 = .ok (.aload_n 0, 1) := by decide +kernel
theorem dX8_apart_99 : decode cX8_apart 99 = .ok (.invokevirtual 115, 3) := by decide +kernel
theorem dX8_apart_102 : decode cX8_apart 102 = .ok (.aload_n 0, 1) := by decide +kernel
theorem dX8_apart_103 : decode cX8_apart 103 = .ok (.aload_n 0, 1) := by decide +kernel
theorem dX8_apart_104 : decode cX8_apart 104 = .ok (.getfield 98, 3) := by decide +kernel
theorem dX8_apart_107 : decode cX8_apart 107 = .ok (.iconst 0, 1) := by decide +kernel
theorem dX8_apart_108 : decode cX8_apart 108 = .ok (.iload_n 1, 1) := by decide +kernel
theorem dX8_apart_109 : decode cX8_apart 109 = .ok (.aload_n 0, 1) := by decide +kernel
theorem dX8_apart_110 : decode cX8_apart 110 = .ok (.getfield 98, 3) := by decide +kernel
theorem dX8_apart_113 : decode cX8_apart 113 = .ok (.isub, 1) := by decide +kernel
theorem dX8_apart_114 : decode cX8_apart 114 = .ok (.invokevirtual 84, 3) := by decide +kernel
theorem dX8_apart_117 : decode cX8_apart 117 = .ok (.return_, 1) := by decide +kernel
theorem dX8_counts_0 : decode cX8_counts 0 = .ok (.iconst 0, 1) := by decide +kernel
theorem dX8_counts_1 : decode cX8_counts 1 = .ok (.istore_n 1, 1) := by decide +kernel
theorem dX8_counts_2 : decode cX8_counts 2 = .ok (.aload_n 0, 1) := by decide +kernel
theorem dX8_counts_3 : decode cX8_counts 3 = .ok (.getfield 39, 3) := by decide +kernel
theorem dX8_counts_6 : decode cX8_counts 6 = .ok (.iload_n 1, 1) := by decide +kernel
theorem dX8_counts_7 : decode cX8_counts 7 = .ok (.laload, 1) := by decide +kernel
theorem dX8_counts_8 : decode cX8_counts 8 = .ok (.lconst 0, 1) := by decide +kernel
theorem dX8_counts_9 : decode cX8_counts 9 = .ok (.lcmp, 1) := by decide +kernel
theorem dX8_counts_10 : decode cX8_counts 10 = .ok (.ifCond .ne 9, 3) := by decide +kernel
theorem dX8_counts_13 : decode cX8_counts 13 = .ok (.iinc 1 1, 3) := by decide +kernel
theorem dX8_counts_16 : decode cX8_counts 16 = .ok (.goto (-14), 3) := by decide +kernel
theorem dX8_counts_19 : decode cX8_counts 19 = .ok (.aload_n 0, 1) := by decide +kernel
theorem dX8_counts_20 : decode cX8_counts 20 = .ok (.iconst 0, 1) := by decide +kernel
theorem dX8_counts_21 : decode cX8_counts 21 = .ok (.putfield 75, 3) := by decide +kernel
theorem dX8_counts_24 : decode cX8_counts 24 = .ok (.aload_n 0, 1) := by decide +kernel
theorem dX8_counts_25 : decode cX8_counts 25 = .ok (.iload_n 1, 1) := by decide +kernel
theorem dX8_counts_26 : decode cX8_counts 26 = .ok (.putfield 78, 3) := by decide +kernel
theorem dX8_counts_29 : decode cX8_counts 29 = .ok (.aload_n 0, 1) := by decide +kernel
theorem dX8_counts_30 : decode cX8_counts 30 = .ok (.iconst 0, 1) := by decide +kernel
theorem dX8_counts_31 : decode cX8_counts 31 = .ok (.putfield 81, 3) := by decide +kernel
theorem dX8_counts_34 : decode cX8_counts 34 = .ok (.iconst 0, 1) := by decide +kernel
theorem dX8_counts_35 : decode cX8_counts 35 = .ok (.istore_n 2, 1) := by decide +kernel
theorem dX8_counts_36 : decode cX8_counts 36 = .ok (.iload_n 2, 1) := by decide +kernel
theorem dX8_counts_37 : decode cX8_counts 37 = .ok (.iconst 5, 1) := by decide +kernel
theorem dX8_counts_38 : decode cX8_counts 38 = .ok (.if_icmp .ge 34, 3) := by decide +kernel
theorem dX8_counts_41 : decode cX8_counts 41 = .ok (.aload_n 0, 1) := by decide +kernel
theorem dX8_counts_42 : decode cX8_counts 42 = .ok (.getfield 42, 3) := by decide +kernel
theorem dX8_counts_45 : decode cX8_counts 45 = .ok (.iload_n 2, 1) := by decide +kernel
theorem dX8_counts_46 : decode cX8_counts 46 = .ok (.iload_n 2, 1) := by decide +kernel
theorem dX8_counts_47 : decode cX8_counts 47 = .ok (.iload_n 1, 1) := by decide +kernel
theorem dX8_counts_48 : decode cX8_counts 48 = .ok (.iadd, 1) := by decide +kernel
theorem dX8_counts_49 : decode cX8_counts 49 = .ok (.iconst 5, 1) := by decide +kernel
theorem dX8_counts_50 : decode cX8_counts 50 = .ok (.if_icmp .ge 14, 3) := by decide +kernel
theorem dX8_counts_53 : decode cX8_counts 53 = .ok (.aload_n 0, 1) := by decide +kernel
theorem dX8_counts_54 : decode cX8_counts 54 = .ok (.getfield 39, 3) := by decide +kernel
theorem dX8_counts_57 : decode cX8_counts 57 = .ok (.iload_n 2, 1) := by decide +kernel
theorem dX8_counts_58 : decode cX8_counts 58 = .ok (.iload_n 1, 1) := by decide +kernel
theorem dX8_counts_59 : decode cX8_counts 59 = .ok (.iadd, 1) := by decide +kernel
theorem dX8_counts_60 : decode cX8_counts 60 = .ok (.laload, 1) := by decide +kernel
theorem dX8_counts_61 : decode cX8_counts 61 = .ok (.goto 4, 3) := by decide +kernel
theorem dX8_counts_64 : decode cX8_counts 64 = .ok (.lconst 0, 1) := by decide +kernel
theorem dX8_counts_65 : decode cX8_counts 65 = .ok (.lastore, 1) := by decide +kernel
theorem dX8_counts_66 : decode cX8_counts 66 = .ok (.iinc 2 1, 3) := by decide +kernel
theorem dX8_counts_69 : decode cX8_counts 69 = .ok (.goto (-33), 3) := by decide +kernel
theorem dX8_counts_72 : decode cX8_counts 72 = .ok (.aload_n 0, 1) := by decide +kernel
theorem dX8_counts_73 : decode cX8_counts 73 = .ok (.getfield 42, 3) := by decide +kernel
theorem dX8_counts_76 : decode cX8_counts 76 = .ok (.iconst 0, 1) := by decide +kernel
theorem dX8_counts_77 : decode cX8_counts 77 = .ok (.invokestatic 118, 3) := by decide +kernel
theorem dX8_counts_80 : decode cX8_counts 80 = .ok (.istore_n 2, 1) := by decide +kernel
theorem dX8_counts_81 : decode cX8_counts 81 = .ok (.iload_n 2, 1) := by decide +kernel
theorem dX8_counts_82 : decode cX8_counts 82 = .ok (.ifCond .ne 4, 3) := by decide +kernel
theorem dX8_counts_85 : decode cX8_counts 85 = .ok (.return_, 1) := by decide +kernel
theorem dX8_counts_86 : decode cX8_counts 86 = .ok (.aload_n 0, 1) := by decide +kernel
theorem dX8_counts_87 : decode cX8_counts 87 = .ok (.getfield 42, 3) := by decide +kernel
theorem dX8_counts_90 : decode cX8_counts 90 = .ok (.iconst 1, 1) := by decide +kernel
theorem dX8_counts_91 : decode cX8_counts 91 = .ok (.laload, 1) := by decide +kernel
theorem dX8_counts_92 : decode cX8_counts 92 = .ok (.lconst 0, 1) := by decide +kernel
theorem dX8_counts_93 : decode cX8_counts 93 = .ok (.lcmp, 1) := by decide +kernel
theorem dX8_counts_94 : decode cX8_counts 94 = .ok (.ifCond .ne 37, 3) := by decide +kernel
theorem dX8_counts_97 : decode cX8_counts 97 = .ok (.aload_n 0, 1) := by decide +kernel
theorem dX8_counts_98 : decode cX8_counts 98 = .ok (.getfield 42, 3) := by decide +kernel
theorem dX8_counts_101 : decode cX8_counts 101 = .ok (.iconst 3, 1) := by decide +kernel
theorem dX8_counts_102 : decode cX8_counts 102 = .ok (.laload, 1) := by decide +kernel
theorem dX8_counts_103 : decode cX8_counts 103 = .ok (.lconst 0, 1) := by decide +kernel
theorem dX8_counts_104 : decode cX8_counts 104 = .ok (.lcmp, 1) := by decide +kernel
theorem dX8_counts_105 : decode cX8_counts 105 = .ok (.ifCond .ne 26, 3) := by decide +kernel
theorem dX8_counts_108 : decode cX8_counts 108 = .ok (.aload_n 0, 1) := by decide +kernel
theorem dX8_counts_109 : decode cX8_counts 109 = .ok (.aload_n 0, 1) := by decide +kernel
theorem dX8_counts_110 : decode cX8_counts 110 = .ok (.getfield 42, 3) := by decide +kernel
theorem dX8_counts_113 : decode cX8_counts 113 = .ok (.iconst 4, 1) := by decide +kernel
theorem dX8_counts_114 : decode cX8_counts 114 = .ok (.laload, 1) := by decide +kernel
theorem dX8_counts_115 : decode cX8_counts 115 = .ok (.aload_n 0, 1) := by decide +kernel
theorem dX8_counts_116 : decode cX8_counts 116 = .ok (.getfield 42, 3) := by decide +kernel
theorem dX8_counts_119 : decode cX8_counts 119 = .ok (.iconst 2, 1) := by decide +kernel
theorem dX8_counts_120 : decode cX8_counts 120 = .ok (.laload, 1) := by decide +kernel
theorem dX8_counts_121 : decode cX8_counts 121 = .ok (.aload_n 0, 1) := by decide +kernel
theorem dX8_counts_122 : decode cX8_counts 122 = .ok (.getfield 42, 3) := by decide +kernel
theorem dX8_counts_125 : decode cX8_counts 125 = .ok (.iconst 0, 1) := by decide +kernel
theorem dX8_counts_126 : decode cX8_counts 126 = .ok (.laload, 1) := by decide +kernel
theorem dX8_counts_127 : decode cX8_counts 127 = .ok (.invokevirtual 122, 3) := by decide +kernel
theorem dX8_counts_130 : decode cX8_counts 130 = .ok (.return_, 1) := by decide +kernel
theorem dX8_counts_131 : decode cX8_counts 131 = .ok (.aload_n 0, 1) := by decide +kernel
theorem dX8_counts_132 : decode cX8_counts 132 = .ok (.getfield 42, 3) := by decide +kernel
theorem dX8_counts_135 : decode cX8_counts 135 = .ok (.iconst 4, 1) := by decide +kernel
theorem dX8_counts_136 : decode cX8_counts 136 = .ok (.laload, 1) := by decide +kernel
theorem dX8_counts_137 : decode cX8_counts 137 = .ok (.aload_n 0, 1) := by decide +kernel
theorem dX8_counts_138 : decode cX8_counts 138 = .ok (.getfield 42, 3) := by decide +kernel
theorem dX8_counts_141 : decode cX8_counts 141 = .ok (.iconst 1, 1) := by decide +kernel
theorem dX8_counts_142 : decode cX8_counts 142 = .ok (.laload, 1) := by decide +kernel
theorem dX8_counts_143 : decode cX8_counts 143 = .ok (.lmul, 1) := by decide +kernel
theorem dX8_counts_144 : decode cX8_counts 144 = .ok (.aload_n 0, 1) := by decide +kernel
theorem dX8_counts_145 : decode cX8_counts 145 = .ok (.getfield 42, 3) := by decide +kernel
theorem dX8_counts_148 : decode cX8_counts 148 = .ok (.iconst 1, 1) := by decide +kernel
theorem dX8_counts_149 : decode cX8_counts 149 = .ok (.laload, 1) := by decide +kernel
theorem dX8_counts_150 : decode cX8_counts 150 = .ok (.lmul, 1) := by decide +kernel
theorem dX8_counts_151 : decode cX8_counts 151 = .ok (.aload_n 0, 1) := by decide +kernel
theorem dX8_counts_152 : decode cX8_counts 152 = .ok (.getfield 42, 3) := by decide +kernel
theorem dX8_counts_155 : decode cX8_counts 155 = .ok (.iconst 2, 1) := by decide +kernel
theorem dX8_counts_156 : decode cX8_counts 156 = .ok (.laload, 1) := by decide +kernel
theorem dX8_counts_157 : decode cX8_counts 157 = .ok (.aload_n 0, 1) := by decide +kernel
theorem dX8_counts_158 : decode cX8_counts 158 = .ok (.getfield 42, 3) := by decide +kernel
theorem dX8_counts_161 : decode cX8_counts 161 = .ok (.iconst 1, 1) := by decide +kernel
theorem dX8_counts_162 : decode cX8_counts 162 = .ok (.laload, 1) := by decide +kernel
theorem dX8_counts_163 : decode cX8_counts 163 = .ok (.lmul, 1) := by decide +kernel
theorem dX8_counts_164 : decode cX8_counts 164 = .ok (.aload_n 0, 1) := by decide +kernel
theorem dX8_counts_165 : decode cX8_counts 165 = .ok (.getfield 42, 3) := by decide +kernel
theorem dX8_counts_168 : decode cX8_counts 168 = .ok (.iconst 3, 1) := by decide +kernel
theorem dX8_counts_169 : decode cX8_counts 169 = .ok (.laload, 1) := by decide +kernel
theorem dX8_counts_170 : decode cX8_counts 170 = .ok (.lmul, 1) := by decide +kernel
theorem dX8_counts_171 : decode cX8_counts 171 = .ok (.lsub, 1) := by decide +kernel
theorem dX8_counts_172 : decode cX8_counts 172 = .ok (.aload_n 0, 1) := by decide +kernel
theorem dX8_counts_173 : decode cX8_counts 173 = .ok (.getfield 42, 3) := by decide +kernel
theorem dX8_counts_176 : decode cX8_counts 176 = .ok (.iconst 0, 1) := by decide +kernel
theorem dX8_counts_177 : decode cX8_counts 177 = .ok (.laload, 1) := by decide +kernel
theorem dX8_counts_178 : decode cX8_counts 178 = .ok (.aload_n 0, 1) := by decide +kernel
theorem dX8_counts_179 : decode cX8_counts 179 = .ok (.getfield 42, 3) := by decide +kernel
theorem dX8_counts_182 : decode cX8_counts 182 = .ok (.iconst 3, 1) := by decide +kernel
theorem dX8_counts_183 : decode cX8_counts 183 = .ok (.laload, 1) := by decide +kernel
theorem dX8_counts_184 : decode cX8_counts 184 = .ok (.lmul, 1) := by decide +kernel
theorem dX8_counts_185 : decode cX8_counts 185 = .ok (.aload_n 0, 1) := by decide +kernel
theorem dX8_counts_186 : decode cX8_counts 186 = .ok (.getfield 42, 3) := by decide +kernel
theorem dX8_counts_189 : decode cX8_counts 189 = .ok (.iconst 3, 1) := by decide +kernel
theorem dX8_counts_190 : decode cX8_counts 190 = .ok (.laload, 1) := by decide +kernel
theorem dX8_counts_191 : decode cX8_counts 191 = .ok (.lmul, 1) := by decide +kernel
theorem dX8_counts_192 : decode cX8_counts 192 = .ok (.ladd, 1) := by decide +kernel
theorem dX8_counts_193 : decode cX8_counts 193 = .ok (.lstore_n 3, 1) := by decide +kernel
theorem dX8_counts_194 : decode cX8_counts 194 = .ok (.aload_n 0, 1) := by decide +kernel
theorem dX8_counts_195 : decode cX8_counts 195 = .ok (.getfield 42, 3) := by decide +kernel
theorem dX8_counts_198 : decode cX8_counts 198 = .ok (.iconst 3, 1) := by decide +kernel
theorem dX8_counts_199 : decode cX8_counts 199 = .ok (.laload, 1) := by decide +kernel
theorem dX8_counts_200 : decode cX8_counts 200 = .ok (.lconst 0, 1) := by decide +kernel
theorem dX8_counts_201 : decode cX8_counts 201 = .ok (.lcmp, 1) := by decide +kernel
theorem dX8_counts_202 : decode cX8_counts 202 = .ok (.ifCond .eq 79, 3) := by decide +kernel
theorem dX8_counts_205 : decode cX8_counts 205 = .ok (.lload_n 3, 1) := by decide +kernel
theorem dX8_counts_206 : decode cX8_counts 206 = .ok (.lconst 0, 1) := by decide +kernel
theorem dX8_counts_207 : decode cX8_counts 207 = .ok (.lcmp, 1) := by decide +kernel
theorem dX8_counts_208 : decode cX8_counts 208 = .ok (.ifCond .ne 73, 3) := by decide +kernel
theorem dX8_counts_211 : decode cX8_counts 211 = .ok (.aload_n 0, 1) := by decide +kernel
theorem dX8_counts_212 : decode cX8_counts 212 = .ok (.aload_n 0, 1) := by decide +kernel
theorem dX8_counts_213 : decode cX8_counts 213 = .ok (.getfield 42, 3) := by decide +kernel
theorem dX8_counts_216 : decode cX8_counts 216 = .ok (.iconst 1, 1) := by decide +kernel
theorem dX8_counts_217 : decode cX8_counts 217 = .ok (.laload, 1) := by decide +kernel
theorem dX8_counts_218 : decode cX8_counts 218 = .ok (.invokestatic 88, 3) := by decide +kernel
theorem dX8_counts_221 : decode cX8_counts 221 = .ok (.ineg, 1) := by decide +kernel
theorem dX8_counts_222 : decode cX8_counts 222 = .ok (.aload_n 0, 1) := by decide +kernel
theorem dX8_counts_223 : decode cX8_counts 223 = .ok (.getfield 42, 3) := by decide +kernel
theorem dX8_counts_226 : decode cX8_counts 226 = .ok (.iconst 3, 1) := by decide +kernel
theorem dX8_counts_227 : decode cX8_counts 227 = .ok (.laload, 1) := by decide +kernel
theorem dX8_counts_228 : decode cX8_counts 228 = .ok (.invokestatic 88, 3) := by decide +kernel
theorem dX8_counts_231 : decode cX8_counts 231 = .ok (.imul, 1) := by decide +kernel
theorem dX8_counts_232 : decode cX8_counts 232 = .ok (.invokevirtual 92, 3) := by decide +kernel
theorem dX8_counts_235 : decode cX8_counts 235 = .ok (.aload_n 0, 1) := by decide +kernel
theorem dX8_counts_236 : decode cX8_counts 236 = .ok (.aload_n 0, 1) := by decide +kernel
theorem dX8_counts_237 : decode cX8_counts 237 = .ok (.getfield 42, 3) := by decide +kernel
theorem dX8_counts_240 : decode cX8_counts 240 = .ok (.iconst 4, 1) := by decide +kernel
theorem dX8_counts_241 : decode cX8_counts 241 = .ok (.laload, 1) := by decide +kernel
theorem dX8_counts_242 : decode cX8_counts 242 = .ok (.aload_n 0, 1) := by decide +kernel
theorem dX8_counts_243 : decode cX8_counts 243 = .ok (.getfield 42, 3) := by decide +kernel
theorem dX8_counts_246 : decode cX8_counts 246 = .ok (.iconst 1, 1) := by decide +kernel
theorem dX8_counts_247 : decode cX8_counts 247 = .ok (.laload, 1) := by decide +kernel
theorem dX8_counts_248 : decode cX8_counts 248 = .ok (.lmul, 1) := by decide +kernel
theorem dX8_counts_249 : decode cX8_counts 249 = .ok (.aload_n 0, 1) := by decide +kernel
theorem dX8_counts_250 : decode cX8_counts 250 = .ok (.getfield 42, 3) := by decide +kernel
theorem dX8_counts_253 : decode cX8_counts 253 = .ok (.iconst 3, 1) := by decide +kernel
theorem dX8_counts_254 : decode cX8_counts 254 = .ok (.laload, 1) := by decide +kernel
theorem dX8_counts_255 : decode cX8_counts 255 = .ok (.aload_n 0, 1) := by decide +kernel
theorem dX8_counts_256 : decode cX8_counts 256 = .ok (.getfield 42, 3) := by decide +kernel
theorem dX8_counts_259 : decode cX8_counts 259 = .ok (.iconst 1, 1) := by decide +kernel
theorem dX8_counts_260 : decode cX8_counts 260 = .ok (.laload, 1) := by decide +kernel
theorem dX8_counts_261 : decode cX8_counts 261 = .ok (.lmul, 1) := by decide +kernel
theorem dX8_counts_262 : decode cX8_counts 262 = .ok (.aload_n 0, 1) := by decide +kernel
theorem dX8_counts_263 : decode cX8_counts 263 = .ok (.getfield 42, 3) := by decide +kernel
theorem dX8_counts_266 : decode cX8_counts 266 = .ok (.iconst 0, 1) := by decide +kernel
theorem dX8_counts_267 : decode cX8_counts 267 = .ok (.laload, 1) := by decide +kernel
theorem dX8_counts_268 : decode cX8_counts 268 = .ok (.aload_n 0, 1) := by decide +kernel
theorem dX8_counts_269 : decode cX8_counts 269 = .ok (.getfield 42, 3) := by decide +kernel
theorem dX8_counts_272 : decode cX8_counts 272 = .ok (.iconst 3, 1) := by decide +kernel
theorem dX8_counts_273 : decode cX8_counts 273 = .ok (.laload, 1) := by decide +kernel
theorem dX8_counts_274 : decode cX8_counts 274 = .ok (.lmul, 1) := by decide +kernel
theorem dX8_counts_275 : decode cX8_counts 275 = .ok (.invokevirtual 107, 3) := by decide +kernel
theorem dX8_counts_278 : decode cX8_counts 278 = .ok (.goto 8, 3) := by decide +kernel
theorem dX8_counts_281 : decode cX8_counts 281 = .ok (.aload_n 0, 1) := by decide +kernel
theorem dX8_counts_282 : decode cX8_counts 282 = .ok (.iload_n 2, 1) := by decide +kernel
theorem dX8_counts_283 : decode cX8_counts 283 = .ok (.invokevirtual 125, 3) := by decide +kernel
theorem dX8_counts_286 : decode cX8_counts 286 = .ok (.return_, 1) := by decide +kernel
theorem dX8_multiplies_0 : decode cX8_multiplies 0 = .ok (.iconst 4, 1) := by decide +kernel
theorem dX8_multiplies_1 : decode cX8_multiplies 1 = .ok (.istore_n 2, 1) := by decide +kernel
theorem dX8_multiplies_2 : decode cX8_multiplies 2 = .ok (.iload_n 2, 1) := by decide +kernel
theorem dX8_multiplies_3 : decode cX8_multiplies 3 = .ok (.ifCond .lt 37, 3) := by decide +kernel
theorem dX8_multiplies_6 : decode cX8_multiplies 6 = .ok (.aload_n 0, 1) := by decide +kernel
theorem dX8_multiplies_7 : decode cX8_multiplies 7 = .ok (.getfield 48, 3) := by decide +kernel
theorem dX8_multiplies_10 : decode cX8_multiplies 10 = .ok (.iload_n 2, 1) := by decide +kernel
theorem dX8_multiplies_11 : decode cX8_multiplies 11 = .ok (.dup2, 1) := by decide +kernel
theorem dX8_multiplies_12 : decode cX8_multiplies 12 = .ok (.laload, 1) := by decide +kernel
theorem dX8_multiplies_13 : decode cX8_multiplies 13 = .ok (.iload_n 2, 1) := by decide +kernel
theorem dX8_multiplies_14 : decode cX8_multiplies 14 = .ok (.ifCond .le 17, 3) := by decide +kernel
theorem dX8_multiplies_17 : decode cX8_multiplies 17 = .ok (.iload_n 1, 1) := by decide +kernel
theorem dX8_multiplies_18 : decode cX8_multiplies 18 = .ok (.i2l, 1) := by decide +kernel
theorem dX8_multiplies_19 : decode cX8_multiplies 19 = .ok (.aload_n 0, 1) := by decide +kernel
theorem dX8_multiplies_20 : decode cX8_multiplies 20 = .ok (.getfield 48, 3) := by decide +kernel
theorem dX8_multiplies_23 : decode cX8_multiplies 23 = .ok (.iload_n 2, 1) := by decide +kernel
theorem dX8_multiplies_24 : decode cX8_multiplies 24 = .ok (.iconst 1, 1) := by decide +kernel
theorem dX8_multiplies_25 : decode cX8_multiplies 25 = .ok (.isub, 1) := by decide +kernel
theorem dX8_multiplies_26 : decode cX8_multiplies 26 = .ok (.laload, 1) := by decide +kernel
theorem dX8_multiplies_27 : decode cX8_multiplies 27 = .ok (.lmul, 1) := by decide +kernel
theorem dX8_multiplies_28 : decode cX8_multiplies 28 = .ok (.goto 4, 3) := by decide +kernel
theorem dX8_multiplies_31 : decode cX8_multiplies 31 = .ok (.lconst 0, 1) := by decide +kernel
theorem dX8_multiplies_32 : decode cX8_multiplies 32 = .ok (.ladd, 1) := by decide +kernel
theorem dX8_multiplies_33 : decode cX8_multiplies 33 = .ok (.lastore, 1) := by decide +kernel
theorem dX8_multiplies_34 : decode cX8_multiplies 34 = .ok (.iinc 2 (-1), 3) := by decide +kernel
theorem dX8_multiplies_37 : decode cX8_multiplies 37 = .ok (.goto (-35), 3) := by decide +kernel
theorem dX8_multiplies_40 : decode cX8_multiplies 40 = .ok (.return_, 1) := by decide +kernel
theorem dX8_turns_0 : decode cX8_turns 0 = .ok (.iconst 0, 1) := by decide +kernel
theorem dX8_turns_1 : decode cX8_turns 1 = .ok (.istore_n 2, 1) := by decide +kernel
theorem dX8_turns_2 : decode cX8_turns 2 = .ok (.iload_n 2, 1) := by decide +kernel
theorem dX8_turns_3 : decode cX8_turns 3 = .ok (.iconst 5, 1) := by decide +kernel
theorem dX8_turns_4 : decode cX8_turns 4 = .ok (.if_icmp .ge 16, 3) := by decide +kernel
theorem dX8_turns_7 : decode cX8_turns 7 = .ok (.aload_n 0, 1) := by decide +kernel
theorem dX8_turns_8 : decode cX8_turns 8 = .ok (.getfield 45, 3) := by decide +kernel
theorem dX8_turns_11 : decode cX8_turns 11 = .ok (.iload_n 2, 1) := by decide +kernel
theorem dX8_turns_12 : decode cX8_turns 12 = .ok (.lconst 0, 1) := by decide +kernel
theorem dX8_turns_13 : decode cX8_turns 13 = .ok (.lastore, 1) := by decide +kernel
theorem dX8_turns_14 : decode cX8_turns 14 = .ok (.iinc 2 1, 3) := by decide +kernel
theorem dX8_turns_17 : decode cX8_turns 17 = .ok (.goto (-15), 3) := by decide +kernel
theorem dX8_turns_20 : decode cX8_turns 20 = .ok (.iconst 0, 1) := by decide +kernel
theorem dX8_turns_21 : decode cX8_turns 21 = .ok (.istore_n 2, 1) := by decide +kernel
theorem dX8_turns_22 : decode cX8_turns 22 = .ok (.iload_n 2, 1) := by decide +kernel
theorem dX8_turns_23 : decode cX8_turns 23 = .ok (.iload_n 1, 1) := by decide +kernel
theorem dX8_turns_24 : decode cX8_turns 24 = .ok (.if_icmp .gt 97, 3) := by decide +kernel
theorem dX8_turns_27 : decode cX8_turns 27 = .ok (.iconst 0, 1) := by decide +kernel
theorem dX8_turns_28 : decode cX8_turns 28 = .ok (.istore_n 3, 1) := by decide +kernel
theorem dX8_turns_29 : decode cX8_turns 29 = .ok (.iload_n 3, 1) := by decide +kernel
theorem dX8_turns_30 : decode cX8_turns 30 = .ok (.iconst 5, 1) := by decide +kernel
theorem dX8_turns_31 : decode cX8_turns 31 = .ok (.if_icmp .ge 29, 3) := by decide +kernel
theorem dX8_turns_34 : decode cX8_turns 34 = .ok (.aload_n 0, 1) := by decide +kernel
theorem dX8_turns_35 : decode cX8_turns 35 = .ok (.getfield 48, 3) := by decide +kernel
theorem dX8_turns_38 : decode cX8_turns 38 = .ok (.iload_n 3, 1) := by decide +kernel
theorem dX8_turns_39 : decode cX8_turns 39 = .ok (.iload_n 3, 1) := by decide +kernel
theorem dX8_turns_40 : decode cX8_turns 40 = .ok (.ifCond .ne 12, 3) := by decide +kernel
theorem dX8_turns_43 : decode cX8_turns 43 = .ok (.aload_n 0, 1) := by decide +kernel
theorem dX8_turns_44 : decode cX8_turns 44 = .ok (.getfield 39, 3) := by decide +kernel
theorem dX8_turns_47 : decode cX8_turns 47 = .ok (.iload_n 2, 1) := by decide +kernel
theorem dX8_turns_48 : decode cX8_turns 48 = .ok (.laload, 1) := by decide +kernel
theorem dX8_turns_49 : decode cX8_turns 49 = .ok (.goto 4, 3) := by decide +kernel
theorem dX8_turns_52 : decode cX8_turns 52 = .ok (.lconst 0, 1) := by decide +kernel
theorem dX8_turns_53 : decode cX8_turns 53 = .ok (.lastore, 1) := by decide +kernel
theorem dX8_turns_54 : decode cX8_turns 54 = .ok (.iinc 3 1, 3) := by decide +kernel
theorem dX8_turns_57 : decode cX8_turns 57 = .ok (.goto (-28), 3) := by decide +kernel
theorem dX8_turns_60 : decode cX8_turns 60 = .ok (.iconst 0, 1) := by decide +kernel
theorem dX8_turns_61 : decode cX8_turns 61 = .ok (.istore_n 3, 1) := by decide +kernel
theorem dX8_turns_62 : decode cX8_turns 62 = .ok (.iload_n 3, 1) := by decide +kernel
theorem dX8_turns_63 : decode cX8_turns 63 = .ok (.iload_n 1, 1) := by decide +kernel
theorem dX8_turns_64 : decode cX8_turns 64 = .ok (.if_icmp .ge 23, 3) := by decide +kernel
theorem dX8_turns_67 : decode cX8_turns 67 = .ok (.aload_n 0, 1) := by decide +kernel
theorem dX8_turns_68 : decode cX8_turns 68 = .ok (.iload_n 3, 1) := by decide +kernel
theorem dX8_turns_69 : decode cX8_turns 69 = .ok (.iload_n 2, 1) := by decide +kernel
theorem dX8_turns_70 : decode cX8_turns 70 = .ok (.if_icmp .ge 7, 3) := by decide +kernel
theorem dX8_turns_73 : decode cX8_turns 73 = .ok (.iconst 1, 1) := by decide +kernel
theorem dX8_turns_74 : decode cX8_turns 74 = .ok (.goto 4, 3) := by decide +kernel
theorem dX8_turns_77 : decode cX8_turns 77 = .ok (.iconst (-1), 1) := by decide +kernel
theorem dX8_turns_78 : decode cX8_turns 78 = .ok (.invokevirtual 128, 3) := by decide +kernel
theorem dX8_turns_81 : decode cX8_turns 81 = .ok (.iinc 3 1, 3) := by decide +kernel
theorem dX8_turns_84 : decode cX8_turns 84 = .ok (.goto (-22), 3) := by decide +kernel
theorem dX8_turns_87 : decode cX8_turns 87 = .ok (.iconst 0, 1) := by decide +kernel
theorem dX8_turns_88 : decode cX8_turns 88 = .ok (.istore_n 3, 1) := by decide +kernel
theorem dX8_turns_89 : decode cX8_turns 89 = .ok (.iload_n 3, 1) := by decide +kernel
theorem dX8_turns_90 : decode cX8_turns 90 = .ok (.iconst 5, 1) := by decide +kernel
theorem dX8_turns_91 : decode cX8_turns 91 = .ok (.if_icmp .ge 24, 3) := by decide +kernel
theorem dX8_turns_94 : decode cX8_turns 94 = .ok (.aload_n 0, 1) := by decide +kernel
theorem dX8_turns_95 : decode cX8_turns 95 = .ok (.getfield 45, 3) := by decide +kernel
theorem dX8_turns_98 : decode cX8_turns 98 = .ok (.iload_n 3, 1) := by decide +kernel
theorem dX8_turns_99 : decode cX8_turns 99 = .ok (.dup2, 1) := by decide +kernel
theorem dX8_turns_100 : decode cX8_turns 100 = .ok (.laload, 1) := by decide +kernel
theorem dX8_turns_101 : decode cX8_turns 101 = .ok (.aload_n 0, 1) := by decide +kernel
theorem dX8_turns_102 : decode cX8_turns 102 = .ok (.getfield 48, 3) := by decide +kernel
theorem dX8_turns_105 : decode cX8_turns 105 = .ok (.iload_n 3, 1) := by decide +kernel
theorem dX8_turns_106 : decode cX8_turns 106 = .ok (.laload, 1) := by decide +kernel
theorem dX8_turns_107 : decode cX8_turns 107 = .ok (.ladd, 1) := by decide +kernel
theorem dX8_turns_108 : decode cX8_turns 108 = .ok (.lastore, 1) := by decide +kernel
theorem dX8_turns_109 : decode cX8_turns 109 = .ok (.iinc 3 1, 3) := by decide +kernel
theorem dX8_turns_112 : decode cX8_turns 112 = .ok (.goto (-23), 3) := by decide +kernel
theorem dX8_turns_115 : decode cX8_turns 115 = .ok (.iinc 2 1, 3) := by decide +kernel
theorem dX8_turns_118 : decode cX8_turns 118 = .ok (.goto (-96), 3) := by decide +kernel
theorem dX8_turns_121 : decode cX8_turns 121 = .ok (.iconst 0, 1) := by decide +kernel
theorem dX8_turns_122 : decode cX8_turns 122 = .ok (.istore_n 2, 1) := by decide +kernel
theorem dX8_turns_123 : decode cX8_turns 123 = .ok (.iload_n 2, 1) := by decide +kernel
theorem dX8_turns_124 : decode cX8_turns 124 = .ok (.iconst 5, 1) := by decide +kernel
theorem dX8_turns_125 : decode cX8_turns 125 = .ok (.if_icmp .ge 21, 3) := by decide +kernel
theorem dX8_turns_128 : decode cX8_turns 128 = .ok (.aload_n 0, 1) := by decide +kernel
theorem dX8_turns_129 : decode cX8_turns 129 = .ok (.getfield 39, 3) := by decide +kernel
theorem dX8_turns_132 : decode cX8_turns 132 = .ok (.iload_n 2, 1) := by decide +kernel
theorem dX8_turns_133 : decode cX8_turns 133 = .ok (.aload_n 0, 1) := by decide +kernel
theorem dX8_turns_134 : decode cX8_turns 134 = .ok (.getfield 45, 3) := by decide +kernel
theorem dX8_turns_137 : decode cX8_turns 137 = .ok (.iload_n 2, 1) := by decide +kernel
theorem dX8_turns_138 : decode cX8_turns 138 = .ok (.laload, 1) := by decide +kernel
theorem dX8_turns_139 : decode cX8_turns 139 = .ok (.lastore, 1) := by decide +kernel
theorem dX8_turns_140 : decode cX8_turns 140 = .ok (.iinc 2 1, 3) := by decide +kernel
theorem dX8_turns_143 : decode cX8_turns 143 = .ok (.goto (-20), 3) := by decide +kernel
theorem dX8_turns_146 : decode cX8_turns 146 = .ok (.return_, 1) := by decide +kernel
theorem dX8_countsBy_0 : decode cX8_countsBy 0 = .ok (.aload_n 0, 1) := by decide +kernel
theorem dX8_countsBy_1 : decode cX8_countsBy 1 = .ok (.getfield 39, 3) := by decide +kernel
theorem dX8_countsBy_4 : decode cX8_countsBy 4 = .ok (.iconst 0, 1) := by decide +kernel
theorem dX8_countsBy_5 : decode cX8_countsBy 5 = .ok (.invokestatic 118, 3) := by decide +kernel
theorem dX8_countsBy_8 : decode cX8_countsBy 8 = .ok (.istore_n 2, 1) := by decide +kernel
theorem dX8_countsBy_9 : decode cX8_countsBy 9 = .ok (.iload_n 2, 1) := by decide +kernel
theorem dX8_countsBy_10 : decode cX8_countsBy 10 = .ok (.bipush (-4), 2) := by decide +kernel
theorem dX8_countsBy_12 : decode cX8_countsBy 12 = .ok (.if_icmp .ne 6, 3) := by decide +kernel
theorem dX8_countsBy_15 : decode cX8_countsBy 15 = .ok (.bipush (-4), 2) := by decide +kernel
theorem dX8_countsBy_17 : decode cX8_countsBy 17 = .ok (.ireturn, 1) := by decide +kernel
theorem dX8_countsBy_18 : decode cX8_countsBy 18 = .ok (.iload_n 1, 1) := by decide +kernel
theorem dX8_countsBy_19 : decode cX8_countsBy 19 = .ok (.iconst 1, 1) := by decide +kernel
theorem dX8_countsBy_20 : decode cX8_countsBy 20 = .ok (.if_icmp .ne 8, 3) := by decide +kernel
theorem dX8_countsBy_23 : decode cX8_countsBy 23 = .ok (.aload_n 0, 1) := by decide +kernel
theorem dX8_countsBy_24 : decode cX8_countsBy 24 = .ok (.iload_n 2, 1) := by decide +kernel
theorem dX8_countsBy_25 : decode cX8_countsBy 25 = .ok (.invokevirtual 131, 3) := by decide +kernel
theorem dX8_countsBy_28 : decode cX8_countsBy 28 = .ok (.aload_n 0, 1) := by decide +kernel
theorem dX8_countsBy_29 : decode cX8_countsBy 29 = .ok (.getfield 39, 3) := by decide +kernel
theorem dX8_countsBy_32 : decode cX8_countsBy 32 = .ok (.iconst 0, 1) := by decide +kernel
theorem dX8_countsBy_33 : decode cX8_countsBy 33 = .ok (.invokestatic 118, 3) := by decide +kernel
theorem dX8_countsBy_36 : decode cX8_countsBy 36 = .ok (.istore_n 3, 1) := by decide +kernel
theorem dX8_countsBy_37 : decode cX8_countsBy 37 = .ok (.aload_n 0, 1) := by decide +kernel
theorem dX8_countsBy_38 : decode cX8_countsBy 38 = .ok (.invokevirtual 134, 3) := by decide +kernel
theorem dX8_countsBy_41 : decode cX8_countsBy 41 = .ok (.aload_n 0, 1) := by decide +kernel
theorem dX8_countsBy_42 : decode cX8_countsBy 42 = .ok (.dup, 1) := by decide +kernel
theorem dX8_countsBy_43 : decode cX8_countsBy 43 = .ok (.getfield 78, 3) := by decide +kernel
theorem dX8_countsBy_46 : decode cX8_countsBy 46 = .ok (.iload_n 2, 1) := by decide +kernel
theorem dX8_countsBy_47 : decode cX8_countsBy 47 = .ok (.iload_n 3, 1) := by decide +kernel
theorem dX8_countsBy_48 : decode cX8_countsBy 48 = .ok (.isub, 1) := by decide +kernel
theorem dX8_countsBy_49 : decode cX8_countsBy 49 = .ok (.iadd, 1) := by decide +kernel
theorem dX8_countsBy_50 : decode cX8_countsBy 50 = .ok (.putfield 78, 3) := by decide +kernel
theorem dX8_countsBy_53 : decode cX8_countsBy 53 = .ok (.iload_n 2, 1) := by decide +kernel
theorem dX8_countsBy_54 : decode cX8_countsBy 54 = .ok (.ireturn, 1) := by decide +kernel
theorem dX8_isSteady_0 : decode cX8_isSteady 0 = .ok (.aload_n 0, 1) := by decide +kernel
theorem dX8_isSteady_1 : decode cX8_isSteady 1 = .ok (.iload_n 1, 1) := by decide +kernel
theorem dX8_isSteady_2 : decode cX8_isSteady 2 = .ok (.invokevirtual 137, 3) := by decide +kernel
theorem dX8_isSteady_5 : decode cX8_isSteady 5 = .ok (.istore_n 2, 1) := by decide +kernel
theorem dX8_isSteady_6 : decode cX8_isSteady 6 = .ok (.iload_n 2, 1) := by decide +kernel
theorem dX8_isSteady_7 : decode cX8_isSteady 7 = .ok (.bipush (-4), 2) := by decide +kernel
theorem dX8_isSteady_9 : decode cX8_isSteady 9 = .ok (.if_icmp .eq 15, 3) := by decide +kernel
theorem dX8_isSteady_12 : decode cX8_isSteady 12 = .ok (.aload_n 0, 1) := by decide +kernel
theorem dX8_isSteady_13 : decode cX8_isSteady 13 = .ok (.getfield 81, 3) := by decide +kernel
theorem dX8_isSteady_16 : decode cX8_isSteady 16 = .ok (.iload_n 2, 1) := by decide +kernel
theorem dX8_isSteady_17 : decode cX8_isSteady 17 = .ok (.if_icmp .ne 7, 3) := by decide +kernel
theorem dX8_isSteady_20 : decode cX8_isSteady 20 = .ok (.iconst 1, 1) := by decide +kernel
theorem dX8_isSteady_21 : decode cX8_isSteady 21 = .ok (.goto 4, 3) := by decide +kernel
theorem dX8_isSteady_24 : decode cX8_isSteady 24 = .ok (.iconst 0, 1) := by decide +kernel
theorem dX8_isSteady_25 : decode cX8_isSteady 25 = .ok (.ireturn, 1) := by decide +kernel
theorem dX8_isPart_0 : decode cX8_isPart 0 = .ok (.iload_n 0, 1) := by decide +kernel
theorem dX8_isPart_1 : decode cX8_isPart 1 = .ok (.i2l, 1) := by decide +kernel
theorem dX8_isPart_2 : decode cX8_isPart 2 = .ok (.lconst 0, 1) := by decide +kernel
theorem dX8_isPart_3 : decode cX8_isPart 3 = .ok (.lconst 1, 1) := by decide +kernel
theorem dX8_isPart_4 : decode cX8_isPart 4 = .ok (.invokestatic 141, 3) := by decide +kernel
theorem dX8_isPart_7 : decode cX8_isPart 7 = .ok (.ifCond .eq 19, 3) := by decide +kernel
theorem dX8_isPart_10 : decode cX8_isPart 10 = .ok (.iload_n 1, 1) := by decide +kernel
theorem dX8_isPart_11 : decode cX8_isPart 11 = .ok (.i2l, 1) := by decide +kernel
theorem dX8_isPart_12 : decode cX8_isPart 12 = .ok (.lconst 0, 1) := by decide +kernel
theorem dX8_isPart_13 : decode cX8_isPart 13 = .ok (.ldc2_w 96, 3) := by decide +kernel
theorem dX8_isPart_16 : decode cX8_isPart 16 = .ok (.invokestatic 141, 3) := by decide +kernel
theorem dX8_isPart_19 : decode cX8_isPart 19 = .ok (.ifCond .eq 7, 3) := by decide +kernel
theorem dX8_isPart_22 : decode cX8_isPart 22 = .ok (.iconst 1, 1) := by decide +kernel
theorem dX8_isPart_23 : decode cX8_isPart 23 = .ok (.goto 4, 3) := by decide +kernel
theorem dX8_isPart_26 : decode cX8_isPart 26 = .ok (.iconst 0, 1) := by decide +kernel
theorem dX8_isPart_27 : decode cX8_isPart 27 = .ok (.ireturn, 1) := by decide +kernel
theorem dX8_part_0 : decode cX8_part 0 = .ok (.iload_n 1, 1) := by decide +kernel
theorem dX8_part_1 : decode cX8_part 1 = .ok (.iload_n 2, 1) := by decide +kernel
theorem dX8_part_2 : decode cX8_part 2 = .ok (.invokestatic 145, 3) := by decide +kernel
theorem dX8_part_5 : decode cX8_part 5 = .ok (.ifCond .eq 17, 3) := by decide +kernel
theorem dX8_part_8 : decode cX8_part 8 = .ok (.iload_n 3, 1) := by decide +kernel
theorem dX8_part_9 : decode cX8_part 9 = .ok (.i2l, 1) := by decide +kernel
theorem dX8_part_10 : decode cX8_part 10 = .ok (.ldc2_w 149, 3) := by decide +kernel
theorem dX8_part_13 : decode cX8_part 13 = .ok (.ldc2_w 151, 3) := by decide +kernel
theorem dX8_part_16 : decode cX8_part 16 = .ok (.invokestatic 141, 3) := by decide +kernel
theorem dX8_part_19 : decode cX8_part 19 = .ok (.ifCond .ne 5, 3) := by decide +kernel
theorem dX8_part_22 : decode cX8_part 22 = .ok (.iconst (-1), 1) := by decide +kernel
theorem dX8_part_23 : decode cX8_part 23 = .ok (.ireturn, 1) := by decide +kernel
theorem dX8_part_24 : decode cX8_part 24 = .ok (.aload_n 0, 1) := by decide +kernel
theorem dX8_part_25 : decode cX8_part 25 = .ok (.getfield 7, 3) := by decide +kernel
theorem dX8_part_28 : decode cX8_part 28 = .ok (.iconst 5, 1) := by decide +kernel
theorem dX8_part_29 : decode cX8_part 29 = .ok (.iload_n 1, 1) := by decide +kernel
theorem dX8_part_30 : decode cX8_part 30 = .ok (.imul, 1) := by decide +kernel
theorem dX8_part_31 : decode cX8_part 31 = .ok (.iload_n 2, 1) := by decide +kernel
theorem dX8_part_32 : decode cX8_part 32 = .ok (.iadd, 1) := by decide +kernel
theorem dX8_part_33 : decode cX8_part 33 = .ok (.iaload, 1) := by decide +kernel
theorem dX8_part_34 : decode cX8_part 34 = .ok (.istore 4, 2) := by decide +kernel
theorem dX8_part_36 : decode cX8_part 36 = .ok (.iload 4, 2) := by decide +kernel
theorem dX8_part_38 : decode cX8_part 38 = .ok (.iload_n 3, 1) := by decide +kernel
theorem dX8_part_39 : decode cX8_part 39 = .ok (.if_icmp .ne 6, 3) := by decide +kernel
theorem dX8_part_42 : decode cX8_part 42 = .ok (.bipush (-2), 2) := by decide +kernel
theorem dX8_part_44 : decode cX8_part 44 = .ok (.ireturn, 1) := by decide +kernel
theorem dX8_part_45 : decode cX8_part 45 = .ok (.aload_n 0, 1) := by decide +kernel
theorem dX8_part_46 : decode cX8_part 46 = .ok (.invokevirtual 153, 3) := by decide +kernel
theorem dX8_part_49 : decode cX8_part 49 = .ok (.aload_n 0, 1) := by decide +kernel
theorem dX8_part_50 : decode cX8_part 50 = .ok (.getfield 7, 3) := by decide +kernel
theorem dX8_part_53 : decode cX8_part 53 = .ok (.iconst 5, 1) := by decide +kernel
theorem dX8_part_54 : decode cX8_part 54 = .ok (.iload_n 1, 1) := by decide +kernel
theorem dX8_part_55 : decode cX8_part 55 = .ok (.imul, 1) := by decide +kernel
theorem dX8_part_56 : decode cX8_part 56 = .ok (.iload_n 2, 1) := by decide +kernel
theorem dX8_part_57 : decode cX8_part 57 = .ok (.iadd, 1) := by decide +kernel
theorem dX8_part_58 : decode cX8_part 58 = .ok (.iload_n 3, 1) := by decide +kernel
theorem dX8_part_59 : decode cX8_part 59 = .ok (.iastore, 1) := by decide +kernel
theorem dX8_part_60 : decode cX8_part 60 = .ok (.iload 4, 2) := by decide +kernel
theorem dX8_part_62 : decode cX8_part 62 = .ok (.bipush 9, 2) := by decide +kernel
theorem dX8_part_64 : decode cX8_part 64 = .ok (.iadd, 1) := by decide +kernel
theorem dX8_part_65 : decode cX8_part 65 = .ok (.ireturn, 1) := by decide +kernel
theorem dX8_isGain_0 : decode cX8_isGain 0 = .ok (.iload_n 0, 1) := by decide +kernel
theorem dX8_isGain_1 : decode cX8_isGain 1 = .ok (.i2l, 1) := by decide +kernel
theorem dX8_isGain_2 : decode cX8_isGain 2 = .ok (.ldc2_w 156, 3) := by decide +kernel
theorem dX8_isGain_5 : decode cX8_isGain 5 = .ok (.ldc2_w 158, 3) := by decide +kernel
theorem dX8_isGain_8 : decode cX8_isGain 8 = .ok (.invokestatic 141, 3) := by decide +kernel
theorem dX8_isGain_11 : decode cX8_isGain 11 = .ok (.ireturn, 1) := by decide +kernel
theorem dX8_gain_0 : decode cX8_gain 0 = .ok (.iload_n 1, 1) := by decide +kernel
theorem dX8_gain_1 : decode cX8_gain 1 = .ok (.invokestatic 160, 3) := by decide +kernel
theorem dX8_gain_4 : decode cX8_gain 4 = .ok (.ifCond .ne 5, 3) := by decide +kernel
theorem dX8_gain_7 : decode cX8_gain 7 = .ok (.iconst (-1), 1) := by decide +kernel
theorem dX8_gain_8 : decode cX8_gain 8 = .ok (.ireturn, 1) := by decide +kernel
theorem dX8_gain_9 : decode cX8_gain 9 = .ok (.aload_n 0, 1) := by decide +kernel
theorem dX8_gain_10 : decode cX8_gain 10 = .ok (.getfield 7, 3) := by decide +kernel
theorem dX8_gain_13 : decode cX8_gain 13 = .ok (.bipush 10, 2) := by decide +kernel
theorem dX8_gain_15 : decode cX8_gain 15 = .ok (.iaload, 1) := by decide +kernel
theorem dX8_gain_16 : decode cX8_gain 16 = .ok (.istore_n 2, 1) := by decide +kernel
theorem dX8_gain_17 : decode cX8_gain 17 = .ok (.iload_n 2, 1) := by decide +kernel
theorem dX8_gain_18 : decode cX8_gain 18 = .ok (.iload_n 1, 1) := by decide +kernel
theorem dX8_gain_19 : decode cX8_gain 19 = .ok (.if_icmp .ne 6, 3) := by decide +kernel
theorem dX8_gain_22 : decode cX8_gain 22 = .ok (.bipush (-2), 2) := by decide +kernel
theorem dX8_gain_24 : decode cX8_gain 24 = .ok (.ireturn, 1) := by decide +kernel
theorem dX8_gain_25 : decode cX8_gain 25 = .ok (.aload_n 0, 1) := by decide +kernel
theorem dX8_gain_26 : decode cX8_gain 26 = .ok (.invokevirtual 153, 3) := by decide +kernel
theorem dX8_gain_29 : decode cX8_gain 29 = .ok (.aload_n 0, 1) := by decide +kernel
theorem dX8_gain_30 : decode cX8_gain 30 = .ok (.getfield 7, 3) := by decide +kernel
theorem dX8_gain_33 : decode cX8_gain 33 = .ok (.bipush 10, 2) := by decide +kernel
theorem dX8_gain_35 : decode cX8_gain 35 = .ok (.iload_n 1, 1) := by decide +kernel
theorem dX8_gain_36 : decode cX8_gain 36 = .ok (.iastore, 1) := by decide +kernel
theorem dX8_gain_37 : decode cX8_gain 37 = .ok (.iload_n 2, 1) := by decide +kernel
theorem dX8_gain_38 : decode cX8_gain 38 = .ok (.sipush 800, 3) := by decide +kernel
theorem dX8_gain_41 : decode cX8_gain 41 = .ok (.iadd, 1) := by decide +kernel
theorem dX8_gain_42 : decode cX8_gain 42 = .ok (.ireturn, 1) := by decide +kernel
theorem dX8_told_0 : decode cX8_told 0 = .ok (.iload_n 1, 1) := by decide +kernel
theorem dX8_told_1 : decode cX8_told 1 = .ok (.iload_n 2, 1) := by decide +kernel
theorem dX8_told_2 : decode cX8_told 2 = .ok (.invokestatic 145, 3) := by decide +kernel
theorem dX8_told_5 : decode cX8_told 5 = .ok (.ifCond .eq 19, 3) := by decide +kernel
theorem dX8_told_8 : decode cX8_told 8 = .ok (.aload_n 0, 1) := by decide +kernel
theorem dX8_told_9 : decode cX8_told 9 = .ok (.getfield 7, 3) := by decide +kernel
theorem dX8_told_12 : decode cX8_told 12 = .ok (.iconst 5, 1) := by decide +kernel
theorem dX8_told_13 : decode cX8_told 13 = .ok (.iload_n 1, 1) := by decide +kernel
theorem dX8_told_14 : decode cX8_told 14 = .ok (.imul, 1) := by decide +kernel
theorem dX8_told_15 : decode cX8_told 15 = .ok (.iload_n 2, 1) := by decide +kernel
theorem dX8_told_16 : decode cX8_told 16 = .ok (.iadd, 1) := by decide +kernel
theorem dX8_told_17 : decode cX8_told 17 = .ok (.iaload, 1) := by decide +kernel
theorem dX8_told_18 : decode cX8_told 18 = .ok (.bipush 9, 2) := by decide +kernel
theorem dX8_told_20 : decode cX8_told 20 = .ok (.iadd, 1) := by decide +kernel
theorem dX8_told_21 : decode cX8_told 21 = .ok (.goto 4, 3) := by decide +kernel
theorem dX8_told_24 : decode cX8_told 24 = .ok (.iconst (-1), 1) := by decide +kernel
theorem dX8_told_25 : decode cX8_told 25 = .ok (.ireturn, 1) := by decide +kernel
theorem dX8_degreeOf_0 : decode cX8_degreeOf 0 = .ok (.iconst 4, 1) := by decide +kernel
theorem dX8_degreeOf_1 : decode cX8_degreeOf 1 = .ok (.istore_n 2, 1) := by decide +kernel
theorem dX8_degreeOf_2 : decode cX8_degreeOf 2 = .ok (.iload_n 2, 1) := by decide +kernel
theorem dX8_degreeOf_3 : decode cX8_degreeOf 3 = .ok (.ifCond .lt 22, 3) := by decide +kernel
theorem dX8_degreeOf_6 : decode cX8_degreeOf 6 = .ok (.aload_n 0, 1) := by decide +kernel
theorem dX8_degreeOf_7 : decode cX8_degreeOf 7 = .ok (.getfield 7, 3) := by decide +kernel
theorem dX8_degreeOf_10 : decode cX8_degreeOf 10 = .ok (.iconst 5, 1) := by decide +kernel
theorem dX8_degreeOf_11 : decode cX8_degreeOf 11 = .ok (.iload_n 1, 1) := by decide +kernel
theorem dX8_degreeOf_12 : decode cX8_degreeOf 12 = .ok (.imul, 1) := by decide +kernel
theorem dX8_degreeOf_13 : decode cX8_degreeOf 13 = .ok (.iload_n 2, 1) := by decide +kernel
theorem dX8_degreeOf_14 : decode cX8_degreeOf 14 = .ok (.iadd, 1) := by decide +kernel
theorem dX8_degreeOf_15 : decode cX8_degreeOf 15 = .ok (.iaload, 1) := by decide +kernel
theorem dX8_degreeOf_16 : decode cX8_degreeOf 16 = .ok (.ifCond .ne 9, 3) := by decide +kernel
theorem dX8_degreeOf_19 : decode cX8_degreeOf 19 = .ok (.iinc 2 (-1), 3) := by decide +kernel
theorem dX8_degreeOf_22 : decode cX8_degreeOf 22 = .ok (.goto (-20), 3) := by decide +kernel
theorem dX8_degreeOf_25 : decode cX8_degreeOf 25 = .ok (.iload_n 2, 1) := by decide +kernel
theorem dX8_degreeOf_26 : decode cX8_degreeOf 26 = .ok (.ifCond .ge 8, 3) := by decide +kernel
theorem dX8_degreeOf_29 : decode cX8_degreeOf 29 = .ok (.bipush (-4), 2) := by decide +kernel
theorem dX8_degreeOf_31 : decode cX8_degreeOf 31 = .ok (.goto 4, 3) := by decide +kernel
theorem dX8_degreeOf_34 : decode cX8_degreeOf 34 = .ok (.iload_n 2, 1) := by decide +kernel
theorem dX8_degreeOf_35 : decode cX8_degreeOf 35 = .ok (.ireturn, 1) := by decide +kernel
theorem dX8_count_0 : decode cX8_count 0 = .ok (.iload_n 1, 1) := by decide +kernel
theorem dX8_count_1 : decode cX8_count 1 = .ok (.tableswitch 80 0 4 #[35, 47, 47, 55, 75], 35) := by decide +kernel
theorem dX8_count_36 : decode cX8_count 36 = .ok (.aload_n 0, 1) := by decide +kernel
theorem dX8_count_37 : decode cX8_count 37 = .ok (.getfield 7, 3) := by decide +kernel
theorem dX8_count_40 : decode cX8_count 40 = .ok (.bipush 10, 2) := by decide +kernel
theorem dX8_count_42 : decode cX8_count 42 = .ok (.iaload, 1) := by decide +kernel
theorem dX8_count_43 : decode cX8_count 43 = .ok (.sipush 800, 3) := by decide +kernel
theorem dX8_count_46 : decode cX8_count 46 = .ok (.iadd, 1) := by decide +kernel
theorem dX8_count_47 : decode cX8_count 47 = .ok (.ireturn, 1) := by decide +kernel
theorem dX8_count_48 : decode cX8_count 48 = .ok (.aload_n 0, 1) := by decide +kernel
theorem dX8_count_49 : decode cX8_count 49 = .ok (.iload_n 1, 1) := by decide +kernel
theorem dX8_count_50 : decode cX8_count 50 = .ok (.iconst 1, 1) := by decide +kernel
theorem dX8_count_51 : decode cX8_count 51 = .ok (.isub, 1) := by decide +kernel
theorem dX8_count_52 : decode cX8_count 52 = .ok (.invokevirtual 164, 3) := by decide +kernel
theorem dX8_count_55 : decode cX8_count 55 = .ok (.ireturn, 1) := by decide +kernel
theorem dX8_count_56 : decode cX8_count 56 = .ok (.aload_n 0, 1) := by decide +kernel
theorem dX8_count_57 : decode cX8_count 57 = .ok (.aload_n 0, 1) := by decide +kernel
theorem dX8_count_58 : decode cX8_count 58 = .ok (.getfield 7, 3) := by decide +kernel
theorem dX8_count_61 : decode cX8_count 61 = .ok (.bipush 10, 2) := by decide +kernel
theorem dX8_count_63 : decode cX8_count 63 = .ok (.iaload, 1) := by decide +kernel
theorem dX8_count_64 : decode cX8_count 64 = .ok (.invokevirtual 167, 3) := by decide +kernel
theorem dX8_count_67 : decode cX8_count 67 = .ok (.aload_n 0, 1) := by decide +kernel
theorem dX8_count_68 : decode cX8_count 68 = .ok (.getfield 39, 3) := by decide +kernel
theorem dX8_count_71 : decode cX8_count 71 = .ok (.iconst 0, 1) := by decide +kernel
theorem dX8_count_72 : decode cX8_count 72 = .ok (.invokestatic 118, 3) := by decide +kernel
theorem dX8_count_75 : decode cX8_count 75 = .ok (.ireturn, 1) := by decide +kernel
theorem dX8_count_76 : decode cX8_count 76 = .ok (.aload_n 0, 1) := by decide +kernel
theorem dX8_count_77 : decode cX8_count 77 = .ok (.getfield 66, 3) := by decide +kernel
theorem dX8_count_80 : decode cX8_count 80 = .ok (.ireturn, 1) := by decide +kernel
theorem dX8_count_81 : decode cX8_count 81 = .ok (.iconst (-1), 1) := by decide +kernel
theorem dX8_count_82 : decode cX8_count 82 = .ok (.ireturn, 1) := by decide +kernel
theorem dX8_roots_0 : decode cX8_roots 0 = .ok (.aload_n 0, 1) := by decide +kernel
theorem dX8_roots_1 : decode cX8_roots 1 = .ok (.iload_n 1, 1) := by decide +kernel
theorem dX8_roots_2 : decode cX8_roots 2 = .ok (.aload_n 0, 1) := by decide +kernel
theorem dX8_roots_3 : decode cX8_roots 3 = .ok (.getfield 7, 3) := by decide +kernel
theorem dX8_roots_6 : decode cX8_roots 6 = .ok (.bipush 10, 2) := by decide +kernel
theorem dX8_roots_8 : decode cX8_roots 8 = .ok (.iaload, 1) := by decide +kernel
theorem dX8_roots_9 : decode cX8_roots 9 = .ok (.iload_n 2, 1) := by decide +kernel
theorem dX8_roots_10 : decode cX8_roots 10 = .ok (.invokevirtual 170, 3) := by decide +kernel
theorem dX8_roots_13 : decode cX8_roots 13 = .ok (.ireturn, 1) := by decide +kernel
theorem dX8_at_0 : decode cX8_at 0 = .ok (.iload_n 1, 1) := by decide +kernel
theorem dX8_at_1 : decode cX8_at 1 = .ok (.i2l, 1) := by decide +kernel
theorem dX8_at_2 : decode cX8_at 2 = .ok (.lconst 0, 1) := by decide +kernel
theorem dX8_at_3 : decode cX8_at 3 = .ok (.lconst 1, 1) := by decide +kernel
theorem dX8_at_4 : decode cX8_at 4 = .ok (.invokestatic 141, 3) := by decide +kernel
theorem dX8_at_7 : decode cX8_at 7 = .ok (.ifCond .eq 22, 3) := by decide +kernel
theorem dX8_at_10 : decode cX8_at 10 = .ok (.iload_n 2, 1) := by decide +kernel
theorem dX8_at_11 : decode cX8_at 11 = .ok (.invokestatic 160, 3) := by decide +kernel
theorem dX8_at_14 : decode cX8_at 14 = .ok (.ifCond .eq 15, 3) := by decide +kernel
theorem dX8_at_17 : decode cX8_at 17 = .ok (.iload_n 3, 1) := by decide +kernel
theorem dX8_at_18 : decode cX8_at 18 = .ok (.i2l, 1) := by decide +kernel
theorem dX8_at_19 : decode cX8_at 19 = .ok (.lconst 0, 1) := by decide +kernel
theorem dX8_at_20 : decode cX8_at 20 = .ok (.ldc2_w 174, 3) := by decide +kernel
theorem dX8_at_23 : decode cX8_at 23 = .ok (.invokestatic 141, 3) := by decide +kernel
theorem dX8_at_26 : decode cX8_at 26 = .ok (.ifCond .ne 5, 3) := by decide +kernel
theorem dX8_at_29 : decode cX8_at 29 = .ok (.iconst (-1), 1) := by decide +kernel
theorem dX8_at_30 : decode cX8_at 30 = .ok (.ireturn, 1) := by decide +kernel
theorem dX8_at_31 : decode cX8_at 31 = .ok (.aload_n 0, 1) := by decide +kernel
theorem dX8_at_32 : decode cX8_at 32 = .ok (.iload_n 2, 1) := by decide +kernel
theorem dX8_at_33 : decode cX8_at 33 = .ok (.invokevirtual 167, 3) := by decide +kernel
theorem dX8_at_36 : decode cX8_at 36 = .ok (.aload_n 0, 1) := by decide +kernel
theorem dX8_at_37 : decode cX8_at 37 = .ok (.iload_n 1, 1) := by decide +kernel
theorem dX8_at_38 : decode cX8_at 38 = .ok (.invokevirtual 137, 3) := by decide +kernel
theorem dX8_at_41 : decode cX8_at 41 = .ok (.istore 4, 2) := by decide +kernel
theorem dX8_at_43 : decode cX8_at 43 = .ok (.iload 4, 2) := by decide +kernel
theorem dX8_at_45 : decode cX8_at 45 = .ok (.bipush (-4), 2) := by decide +kernel
theorem dX8_at_47 : decode cX8_at 47 = .ok (.if_icmp .ne 6, 3) := by decide +kernel
theorem dX8_at_50 : decode cX8_at 50 = .ok (.bipush (-4), 2) := by decide +kernel
theorem dX8_at_52 : decode cX8_at 52 = .ok (.ireturn, 1) := by decide +kernel
theorem dX8_at_53 : decode cX8_at 53 = .ok (.iload_n 3, 1) := by decide +kernel
theorem dX8_at_54 : decode cX8_at 54 = .ok (.ifCond .ne 10, 3) := by decide +kernel
theorem dX8_at_57 : decode cX8_at 57 = .ok (.aload_n 0, 1) := by decide +kernel
theorem dX8_at_58 : decode cX8_at 58 = .ok (.getfield 75, 3) := by decide +kernel
theorem dX8_at_61 : decode cX8_at 61 = .ok (.goto 41, 3) := by decide +kernel
theorem dX8_at_64 : decode cX8_at 64 = .ok (.iload_n 3, 1) := by decide +kernel
theorem dX8_at_65 : decode cX8_at 65 = .ok (.iconst 1, 1) := by decide +kernel
theorem dX8_at_66 : decode cX8_at 66 = .ok (.if_icmp .ne 10, 3) := by decide +kernel
theorem dX8_at_69 : decode cX8_at 69 = .ok (.aload_n 0, 1) := by decide +kernel
theorem dX8_at_70 : decode cX8_at 70 = .ok (.getfield 78, 3) := by decide +kernel
theorem dX8_at_73 : decode cX8_at 73 = .ok (.goto 29, 3) := by decide +kernel
theorem dX8_at_76 : decode cX8_at 76 = .ok (.iload_n 3, 1) := by decide +kernel
theorem dX8_at_77 : decode cX8_at 77 = .ok (.iconst 2, 1) := by decide +kernel
theorem dX8_at_78 : decode cX8_at 78 = .ok (.if_icmp .ne 10, 3) := by decide +kernel
theorem dX8_at_81 : decode cX8_at 81 = .ok (.aload_n 0, 1) := by decide +kernel
theorem dX8_at_82 : decode cX8_at 82 = .ok (.getfield 81, 3) := by decide +kernel
theorem dX8_at_85 : decode cX8_at 85 = .ok (.goto 17, 3) := by decide +kernel
theorem dX8_at_88 : decode cX8_at 88 = .ok (.aload_n 0, 1) := by decide +kernel
theorem dX8_at_89 : decode cX8_at 89 = .ok (.getfield 81, 3) := by decide +kernel
theorem dX8_at_92 : decode cX8_at 92 = .ok (.iload 4, 2) := by decide +kernel
theorem dX8_at_94 : decode cX8_at 94 = .ok (.if_icmp .ne 7, 3) := by decide +kernel
theorem dX8_at_97 : decode cX8_at 97 = .ok (.iconst 1, 1) := by decide +kernel
theorem dX8_at_98 : decode cX8_at 98 = .ok (.goto 4, 3) := by decide +kernel
theorem dX8_at_101 : decode cX8_at 101 = .ok (.iconst 0, 1) := by decide +kernel
theorem dX8_at_102 : decode cX8_at 102 = .ok (.ireturn, 1) := by decide +kernel
theorem dX8_divisor_0 : decode cX8_divisor 0 = .ok (.lload_n 0, 1) := by decide +kernel
theorem dX8_divisor_1 : decode cX8_divisor 1 = .ok (.lconst 0, 1) := by decide +kernel
theorem dX8_divisor_2 : decode cX8_divisor 2 = .ok (.lcmp, 1) := by decide +kernel
theorem dX8_divisor_3 : decode cX8_divisor 3 = .ok (.ifCond .ge 8, 3) := by decide +kernel
theorem dX8_divisor_6 : decode cX8_divisor 6 = .ok (.lload_n 0, 1) := by decide +kernel
theorem dX8_divisor_7 : decode cX8_divisor 7 = .ok (.lneg, 1) := by decide +kernel
theorem dX8_divisor_8 : decode cX8_divisor 8 = .ok (.goto 4, 3) := by decide +kernel
theorem dX8_divisor_11 : decode cX8_divisor 11 = .ok (.lload_n 0, 1) := by decide +kernel
theorem dX8_divisor_12 : decode cX8_divisor 12 = .ok (.lstore 4, 2) := by decide +kernel
theorem dX8_divisor_14 : decode cX8_divisor 14 = .ok (.lload_n 2, 1) := by decide +kernel
theorem dX8_divisor_15 : decode cX8_divisor 15 = .ok (.lconst 0, 1) := by decide +kernel
theorem dX8_divisor_16 : decode cX8_divisor 16 = .ok (.lcmp, 1) := by decide +kernel
theorem dX8_divisor_17 : decode cX8_divisor 17 = .ok (.ifCond .ge 8, 3) := by decide +kernel
theorem dX8_divisor_20 : decode cX8_divisor 20 = .ok (.lload_n 2, 1) := by decide +kernel
theorem dX8_divisor_21 : decode cX8_divisor 21 = .ok (.lneg, 1) := by decide +kernel
theorem dX8_divisor_22 : decode cX8_divisor 22 = .ok (.goto 4, 3) := by decide +kernel
theorem dX8_divisor_25 : decode cX8_divisor 25 = .ok (.lload_n 2, 1) := by decide +kernel
theorem dX8_divisor_26 : decode cX8_divisor 26 = .ok (.lstore 6, 2) := by decide +kernel
theorem dX8_divisor_28 : decode cX8_divisor 28 = .ok (.lload 6, 2) := by decide +kernel
theorem dX8_divisor_30 : decode cX8_divisor 30 = .ok (.lconst 0, 1) := by decide +kernel
theorem dX8_divisor_31 : decode cX8_divisor 31 = .ok (.lcmp, 1) := by decide +kernel
theorem dX8_divisor_32 : decode cX8_divisor 32 = .ok (.ifCond .eq 21, 3) := by decide +kernel
theorem dX8_divisor_35 : decode cX8_divisor 35 = .ok (.lload 4, 2) := by decide +kernel
theorem dX8_divisor_37 : decode cX8_divisor 37 = .ok (.lload 6, 2) := by decide +kernel
theorem dX8_divisor_39 : decode cX8_divisor 39 = .ok (.lrem, 1) := by decide +kernel
theorem dX8_divisor_40 : decode cX8_divisor 40 = .ok (.lstore 8, 2) := by decide +kernel
theorem dX8_divisor_42 : decode cX8_divisor 42 = .ok (.lload 6, 2) := by decide +kernel
theorem dX8_divisor_44 : decode cX8_divisor 44 = .ok (.lstore 4, 2) := by decide +kernel
theorem dX8_divisor_46 : decode cX8_divisor 46 = .ok (.lload 8, 2) := by decide +kernel
theorem dX8_divisor_48 : decode cX8_divisor 48 = .ok (.lstore 6, 2) := by decide +kernel
theorem dX8_divisor_50 : decode cX8_divisor 50 = .ok (.goto (-22), 3) := by decide +kernel
theorem dX8_divisor_53 : decode cX8_divisor 53 = .ok (.lload 4, 2) := by decide +kernel
theorem dX8_divisor_55 : decode cX8_divisor 55 = .ok (.lreturn, 1) := by decide +kernel
theorem dX8_shortens_0 : decode cX8_shortens 0 = .ok (.lconst 0, 1) := by decide +kernel
theorem dX8_shortens_1 : decode cX8_shortens 1 = .ok (.lstore_n 1, 1) := by decide +kernel
theorem dX8_shortens_2 : decode cX8_shortens 2 = .ok (.iconst 0, 1) := by decide +kernel
theorem dX8_shortens_3 : decode cX8_shortens 3 = .ok (.istore_n 3, 1) := by decide +kernel
theorem dX8_shortens_4 : decode cX8_shortens 4 = .ok (.iload_n 3, 1) := by decide +kernel
theorem dX8_shortens_5 : decode cX8_shortens 5 = .ok (.iconst 5, 1) := by decide +kernel
end
section
theorem dX8_shortens_6 : decode cX8_shortens 6 = .ok (.if_icmp .ge 20, 3) := by decide +kernel
theorem dX8_shortens_9 : decode cX8_shortens 9 = .ok (.lload_n 1, 1) := by decide +kernel
theorem dX8_shortens_10 : decode cX8_shortens 10 = .ok (.aload_n 0, 1) := by decide +kernel
theorem dX8_shortens_11 : decode cX8_shortens 11 = .ok (.getfield 54, 3) := by decide +kernel
theorem dX8_shortens_14 : decode cX8_shortens 14 = .ok (.iload_n 3, 1) := by decide +kernel
theorem dX8_shortens_15 : decode cX8_shortens 15 = .ok (.laload, 1) := by decide +kernel
theorem dX8_shortens_16 : decode cX8_shortens 16 = .ok (.invokestatic 176, 3) := by decide +kernel
theorem dX8_shortens_19 : decode cX8_shortens 19 = .ok (.lstore_n 1, 1) := by decide +kernel
theorem dX8_shortens_20 : decode cX8_shortens 20 = .ok (.iinc 3 1, 3) := by decide +kernel
theorem dX8_shortens_23 : decode cX8_shortens 23 = .ok (.goto (-19), 3) := by decide +kernel
theorem dX8_shortens_26 : decode cX8_shortens 26 = .ok (.iconst 0, 1) := by decide +kernel
theorem dX8_shortens_27 : decode cX8_shortens 27 = .ok (.istore_n 3, 1) := by decide +kernel
theorem dX8_shortens_28 : decode cX8_shortens 28 = .ok (.iload_n 3, 1) := by decide +kernel
theorem dX8_shortens_29 : decode cX8_shortens 29 = .ok (.iconst 5, 1) := by decide +kernel
theorem dX8_shortens_30 : decode cX8_shortens 30 = .ok (.if_icmp .ge 25, 3) := by decide +kernel
theorem dX8_shortens_33 : decode cX8_shortens 33 = .ok (.lload_n 1, 1) := by decide +kernel
theorem dX8_shortens_34 : decode cX8_shortens 34 = .ok (.lconst 1, 1) := by decide +kernel
theorem dX8_shortens_35 : decode cX8_shortens 35 = .ok (.lcmp, 1) := by decide +kernel
theorem dX8_shortens_36 : decode cX8_shortens 36 = .ok (.ifCond .le 19, 3) := by decide +kernel
theorem dX8_shortens_39 : decode cX8_shortens 39 = .ok (.aload_n 0, 1) := by decide +kernel
theorem dX8_shortens_40 : decode cX8_shortens 40 = .ok (.getfield 54, 3) := by decide +kernel
theorem dX8_shortens_43 : decode cX8_shortens 43 = .ok (.iload_n 3, 1) := by decide +kernel
theorem dX8_shortens_44 : decode cX8_shortens 44 = .ok (.dup2, 1) := by decide +kernel
theorem dX8_shortens_45 : decode cX8_shortens 45 = .ok (.laload, 1) := by decide +kernel
theorem dX8_shortens_46 : decode cX8_shortens 46 = .ok (.lload_n 1, 1) := by decide +kernel
theorem dX8_shortens_47 : decode cX8_shortens 47 = .ok (.ldiv, 1) := by decide +kernel
theorem dX8_shortens_48 : decode cX8_shortens 48 = .ok (.lastore, 1) := by decide +kernel
theorem dX8_shortens_49 : decode cX8_shortens 49 = .ok (.iinc 3 1, 3) := by decide +kernel
theorem dX8_shortens_52 : decode cX8_shortens 52 = .ok (.goto (-24), 3) := by decide +kernel
theorem dX8_shortens_55 : decode cX8_shortens 55 = .ok (.return_, 1) := by decide +kernel
theorem dX8_divides_0 : decode cX8_divides 0 = .ok (.aload_n 0, 1) := by decide +kernel
theorem dX8_divides_1 : decode cX8_divides 1 = .ok (.getfield 51, 3) := by decide +kernel
theorem dX8_divides_4 : decode cX8_divides 4 = .ok (.iload_n 1, 1) := by decide +kernel
theorem dX8_divides_5 : decode cX8_divides 5 = .ok (.invokestatic 118, 3) := by decide +kernel
theorem dX8_divides_8 : decode cX8_divides 8 = .ok (.istore_n 2, 1) := by decide +kernel
theorem dX8_divides_9 : decode cX8_divides 9 = .ok (.aload_n 0, 1) := by decide +kernel
theorem dX8_divides_10 : decode cX8_divides 10 = .ok (.getfield 54, 3) := by decide +kernel
theorem dX8_divides_13 : decode cX8_divides 13 = .ok (.iconst 0, 1) := by decide +kernel
theorem dX8_divides_14 : decode cX8_divides 14 = .ok (.invokestatic 118, 3) := by decide +kernel
theorem dX8_divides_17 : decode cX8_divides 17 = .ok (.istore_n 3, 1) := by decide +kernel
theorem dX8_divides_18 : decode cX8_divides 18 = .ok (.iload_n 3, 1) := by decide +kernel
theorem dX8_divides_19 : decode cX8_divides 19 = .ok (.iload_n 2, 1) := by decide +kernel
theorem dX8_divides_20 : decode cX8_divides 20 = .ok (.if_icmp .lt 131, 3) := by decide +kernel
theorem dX8_divides_23 : decode cX8_divides 23 = .ok (.aload_n 0, 1) := by decide +kernel
theorem dX8_divides_24 : decode cX8_divides 24 = .ok (.getfield 54, 3) := by decide +kernel
theorem dX8_divides_27 : decode cX8_divides 27 = .ok (.iload_n 3, 1) := by decide +kernel
theorem dX8_divides_28 : decode cX8_divides 28 = .ok (.laload, 1) := by decide +kernel
theorem dX8_divides_29 : decode cX8_divides 29 = .ok (.lstore 4, 2) := by decide +kernel
theorem dX8_divides_31 : decode cX8_divides 31 = .ok (.aload_n 0, 1) := by decide +kernel
theorem dX8_divides_32 : decode cX8_divides 32 = .ok (.getfield 51, 3) := by decide +kernel
theorem dX8_divides_35 : decode cX8_divides 35 = .ok (.iload_n 1, 1) := by decide +kernel
theorem dX8_divides_36 : decode cX8_divides 36 = .ok (.iload_n 2, 1) := by decide +kernel
theorem dX8_divides_37 : decode cX8_divides 37 = .ok (.iadd, 1) := by decide +kernel
theorem dX8_divides_38 : decode cX8_divides 38 = .ok (.laload, 1) := by decide +kernel
theorem dX8_divides_39 : decode cX8_divides 39 = .ok (.lstore 6, 2) := by decide +kernel
theorem dX8_divides_41 : decode cX8_divides 41 = .ok (.iconst 0, 1) := by decide +kernel
theorem dX8_divides_42 : decode cX8_divides 42 = .ok (.istore 8, 2) := by decide +kernel
theorem dX8_divides_44 : decode cX8_divides 44 = .ok (.iload 8, 2) := by decide +kernel
theorem dX8_divides_46 : decode cX8_divides 46 = .ok (.iconst 5, 1) := by decide +kernel
theorem dX8_divides_47 : decode cX8_divides 47 = .ok (.if_icmp .ge 34, 3) := by decide +kernel
theorem dX8_divides_50 : decode cX8_divides 50 = .ok (.aload_n 0, 1) := by decide +kernel
theorem dX8_divides_51 : decode cX8_divides 51 = .ok (.getfield 54, 3) := by decide +kernel
theorem dX8_divides_54 : decode cX8_divides 54 = .ok (.iload 8, 2) := by decide +kernel
theorem dX8_divides_56 : decode cX8_divides 56 = .ok (.dup2, 1) := by decide +kernel
theorem dX8_divides_57 : decode cX8_divides 57 = .ok (.laload, 1) := by decide +kernel
theorem dX8_divides_58 : decode cX8_divides 58 = .ok (.lload 6, 2) := by decide +kernel
theorem dX8_divides_60 : decode cX8_divides 60 = .ok (.lconst 0, 1) := by decide +kernel
theorem dX8_divides_61 : decode cX8_divides 61 = .ok (.lcmp, 1) := by decide +kernel
theorem dX8_divides_62 : decode cX8_divides 62 = .ok (.ifCond .le 8, 3) := by decide +kernel
theorem dX8_divides_65 : decode cX8_divides 65 = .ok (.lload 6, 2) := by decide +kernel
theorem dX8_divides_67 : decode cX8_divides 67 = .ok (.goto 6, 3) := by decide +kernel
theorem dX8_divides_70 : decode cX8_divides 70 = .ok (.lload 6, 2) := by decide +kernel
theorem dX8_divides_72 : decode cX8_divides 72 = .ok (.lneg, 1) := by decide +kernel
theorem dX8_divides_73 : decode cX8_divides 73 = .ok (.lmul, 1) := by decide +kernel
theorem dX8_divides_74 : decode cX8_divides 74 = .ok (.lastore, 1) := by decide +kernel
theorem dX8_divides_75 : decode cX8_divides 75 = .ok (.iinc 8 1, 3) := by decide +kernel
theorem dX8_divides_78 : decode cX8_divides 78 = .ok (.goto (-34), 3) := by decide +kernel
theorem dX8_divides_81 : decode cX8_divides 81 = .ok (.iconst 0, 1) := by decide +kernel
theorem dX8_divides_82 : decode cX8_divides 82 = .ok (.istore 8, 2) := by decide +kernel
theorem dX8_divides_84 : decode cX8_divides 84 = .ok (.iload 8, 2) := by decide +kernel
theorem dX8_divides_86 : decode cX8_divides 86 = .ok (.iload_n 2, 1) := by decide +kernel
theorem dX8_divides_87 : decode cX8_divides 87 = .ok (.if_icmp .gt 48, 3) := by decide +kernel
theorem dX8_divides_90 : decode cX8_divides 90 = .ok (.aload_n 0, 1) := by decide +kernel
theorem dX8_divides_91 : decode cX8_divides 91 = .ok (.getfield 54, 3) := by decide +kernel
theorem dX8_divides_94 : decode cX8_divides 94 = .ok (.iload 8, 2) := by decide +kernel
theorem dX8_divides_96 : decode cX8_divides 96 = .ok (.iload_n 3, 1) := by decide +kernel
theorem dX8_divides_97 : decode cX8_divides 97 = .ok (.iadd, 1) := by decide +kernel
theorem dX8_divides_98 : decode cX8_divides 98 = .ok (.iload_n 2, 1) := by decide +kernel
theorem dX8_divides_99 : decode cX8_divides 99 = .ok (.isub, 1) := by decide +kernel
theorem dX8_divides_100 : decode cX8_divides 100 = .ok (.dup2, 1) := by decide +kernel
theorem dX8_divides_101 : decode cX8_divides 101 = .ok (.laload, 1) := by decide +kernel
theorem dX8_divides_102 : decode cX8_divides 102 = .ok (.lload 6, 2) := by decide +kernel
theorem dX8_divides_104 : decode cX8_divides 104 = .ok (.lconst 0, 1) := by decide +kernel
theorem dX8_divides_105 : decode cX8_divides 105 = .ok (.lcmp, 1) := by decide +kernel
theorem dX8_divides_106 : decode cX8_divides 106 = .ok (.ifCond .le 8, 3) := by decide +kernel
theorem dX8_divides_109 : decode cX8_divides 109 = .ok (.lload 4, 2) := by decide +kernel
theorem dX8_divides_111 : decode cX8_divides 111 = .ok (.goto 6, 3) := by decide +kernel
theorem dX8_divides_114 : decode cX8_divides 114 = .ok (.lload 4, 2) := by decide +kernel
theorem dX8_divides_116 : decode cX8_divides 116 = .ok (.lneg, 1) := by decide +kernel
theorem dX8_divides_117 : decode cX8_divides 117 = .ok (.aload_n 0, 1) := by decide +kernel
theorem dX8_divides_118 : decode cX8_divides 118 = .ok (.getfield 51, 3) := by decide +kernel
theorem dX8_divides_121 : decode cX8_divides 121 = .ok (.iload_n 1, 1) := by decide +kernel
theorem dX8_divides_122 : decode cX8_divides 122 = .ok (.iload 8, 2) := by decide +kernel
theorem dX8_divides_124 : decode cX8_divides 124 = .ok (.iadd, 1) := by decide +kernel
theorem dX8_divides_125 : decode cX8_divides 125 = .ok (.laload, 1) := by decide +kernel
theorem dX8_divides_126 : decode cX8_divides 126 = .ok (.lmul, 1) := by decide +kernel
theorem dX8_divides_127 : decode cX8_divides 127 = .ok (.lsub, 1) := by decide +kernel
theorem dX8_divides_128 : decode cX8_divides 128 = .ok (.lastore, 1) := by decide +kernel
theorem dX8_divides_129 : decode cX8_divides 129 = .ok (.iinc 8 1, 3) := by decide +kernel
theorem dX8_divides_132 : decode cX8_divides 132 = .ok (.goto (-48), 3) := by decide +kernel
theorem dX8_divides_135 : decode cX8_divides 135 = .ok (.aload_n 0, 1) := by decide +kernel
theorem dX8_divides_136 : decode cX8_divides 136 = .ok (.invokevirtual 180, 3) := by decide +kernel
theorem dX8_divides_139 : decode cX8_divides 139 = .ok (.aload_n 0, 1) := by decide +kernel
theorem dX8_divides_140 : decode cX8_divides 140 = .ok (.getfield 54, 3) := by decide +kernel
theorem dX8_divides_143 : decode cX8_divides 143 = .ok (.iconst 0, 1) := by decide +kernel
theorem dX8_divides_144 : decode cX8_divides 144 = .ok (.invokestatic 118, 3) := by decide +kernel
theorem dX8_divides_147 : decode cX8_divides 147 = .ok (.istore_n 3, 1) := by decide +kernel
theorem dX8_divides_148 : decode cX8_divides 148 = .ok (.goto (-130), 3) := by decide +kernel
theorem dX8_divides_151 : decode cX8_divides 151 = .ok (.return_, 1) := by decide +kernel
theorem dX8_addsRow_0 : decode cX8_addsRow 0 = .ok (.iconst 0, 1) := by decide +kernel
theorem dX8_addsRow_1 : decode cX8_addsRow 1 = .ok (.istore_n 1, 1) := by decide +kernel
theorem dX8_addsRow_2 : decode cX8_addsRow 2 = .ok (.iload_n 1, 1) := by decide +kernel
theorem dX8_addsRow_3 : decode cX8_addsRow 3 = .ok (.iconst 5, 1) := by decide +kernel
theorem dX8_addsRow_4 : decode cX8_addsRow 4 = .ok (.if_icmp .ge 28, 3) := by decide +kernel
theorem dX8_addsRow_7 : decode cX8_addsRow 7 = .ok (.aload_n 0, 1) := by decide +kernel
theorem dX8_addsRow_8 : decode cX8_addsRow 8 = .ok (.getfield 51, 3) := by decide +kernel
theorem dX8_addsRow_11 : decode cX8_addsRow 11 = .ok (.iconst 5, 1) := by decide +kernel
theorem dX8_addsRow_12 : decode cX8_addsRow 12 = .ok (.aload_n 0, 1) := by decide +kernel
theorem dX8_addsRow_13 : decode cX8_addsRow 13 = .ok (.getfield 183, 3) := by decide +kernel
theorem dX8_addsRow_16 : decode cX8_addsRow 16 = .ok (.imul, 1) := by decide +kernel
theorem dX8_addsRow_17 : decode cX8_addsRow 17 = .ok (.iload_n 1, 1) := by decide +kernel
theorem dX8_addsRow_18 : decode cX8_addsRow 18 = .ok (.iadd, 1) := by decide +kernel
theorem dX8_addsRow_19 : decode cX8_addsRow 19 = .ok (.aload_n 0, 1) := by decide +kernel
theorem dX8_addsRow_20 : decode cX8_addsRow 20 = .ok (.getfield 54, 3) := by decide +kernel
theorem dX8_addsRow_23 : decode cX8_addsRow 23 = .ok (.iload_n 1, 1) := by decide +kernel
theorem dX8_addsRow_24 : decode cX8_addsRow 24 = .ok (.laload, 1) := by decide +kernel
theorem dX8_addsRow_25 : decode cX8_addsRow 25 = .ok (.lastore, 1) := by decide +kernel
theorem dX8_addsRow_26 : decode cX8_addsRow 26 = .ok (.iinc 1 1, 3) := by decide +kernel
theorem dX8_addsRow_29 : decode cX8_addsRow 29 = .ok (.goto (-27), 3) := by decide +kernel
theorem dX8_addsRow_32 : decode cX8_addsRow 32 = .ok (.aload_n 0, 1) := by decide +kernel
theorem dX8_addsRow_33 : decode cX8_addsRow 33 = .ok (.dup, 1) := by decide +kernel
theorem dX8_addsRow_34 : decode cX8_addsRow 34 = .ok (.getfield 183, 3) := by decide +kernel
theorem dX8_addsRow_37 : decode cX8_addsRow 37 = .ok (.iconst 1, 1) := by decide +kernel
theorem dX8_addsRow_38 : decode cX8_addsRow 38 = .ok (.iadd, 1) := by decide +kernel
theorem dX8_addsRow_39 : decode cX8_addsRow 39 = .ok (.putfield 183, 3) := by decide +kernel
theorem dX8_addsRow_42 : decode cX8_addsRow 42 = .ok (.return_, 1) := by decide +kernel
theorem dX8_laysRows_0 : decode cX8_laysRows 0 = .ok (.aload_n 0, 1) := by decide +kernel
theorem dX8_laysRows_1 : decode cX8_laysRows 1 = .ok (.aload_n 0, 1) := by decide +kernel
theorem dX8_laysRows_2 : decode cX8_laysRows 2 = .ok (.getfield 7, 3) := by decide +kernel
theorem dX8_laysRows_5 : decode cX8_laysRows 5 = .ok (.bipush 10, 2) := by decide +kernel
theorem dX8_laysRows_7 : decode cX8_laysRows 7 = .ok (.iaload, 1) := by decide +kernel
theorem dX8_laysRows_8 : decode cX8_laysRows 8 = .ok (.invokevirtual 167, 3) := by decide +kernel
theorem dX8_laysRows_11 : decode cX8_laysRows 11 = .ok (.aload_n 0, 1) := by decide +kernel
theorem dX8_laysRows_12 : decode cX8_laysRows 12 = .ok (.iconst 0, 1) := by decide +kernel
theorem dX8_laysRows_13 : decode cX8_laysRows 13 = .ok (.putfield 183, 3) := by decide +kernel
theorem dX8_laysRows_16 : decode cX8_laysRows 16 = .ok (.aload_n 0, 1) := by decide +kernel
theorem dX8_laysRows_17 : decode cX8_laysRows 17 = .ok (.getfield 39, 3) := by decide +kernel
theorem dX8_laysRows_20 : decode cX8_laysRows 20 = .ok (.iconst 0, 1) := by decide +kernel
theorem dX8_laysRows_21 : decode cX8_laysRows 21 = .ok (.invokestatic 118, 3) := by decide +kernel
theorem dX8_laysRows_24 : decode cX8_laysRows 24 = .ok (.istore_n 1, 1) := by decide +kernel
theorem dX8_laysRows_25 : decode cX8_laysRows 25 = .ok (.iconst 0, 1) := by decide +kernel
theorem dX8_laysRows_26 : decode cX8_laysRows 26 = .ok (.istore_n 2, 1) := by decide +kernel
theorem dX8_laysRows_27 : decode cX8_laysRows 27 = .ok (.iload_n 2, 1) := by decide +kernel
theorem dX8_laysRows_28 : decode cX8_laysRows 28 = .ok (.iconst 2, 1) := by decide +kernel
theorem dX8_laysRows_29 : decode cX8_laysRows 29 = .ok (.if_icmp .ge 71, 3) := by decide +kernel
theorem dX8_laysRows_32 : decode cX8_laysRows 32 = .ok (.iload_n 1, 1) := by decide +kernel
theorem dX8_laysRows_33 : decode cX8_laysRows 33 = .ok (.bipush (-4), 2) := by decide +kernel
theorem dX8_laysRows_35 : decode cX8_laysRows 35 = .ok (.if_icmp .eq 65, 3) := by decide +kernel
theorem dX8_laysRows_38 : decode cX8_laysRows 38 = .ok (.iconst 0, 1) := by decide +kernel
theorem dX8_laysRows_39 : decode cX8_laysRows 39 = .ok (.istore_n 3, 1) := by decide +kernel
theorem dX8_laysRows_40 : decode cX8_laysRows 40 = .ok (.iload_n 3, 1) := by decide +kernel
theorem dX8_laysRows_41 : decode cX8_laysRows 41 = .ok (.iconst 5, 1) := by decide +kernel
theorem dX8_laysRows_42 : decode cX8_laysRows 42 = .ok (.if_icmp .ge 35, 3) := by decide +kernel
theorem dX8_laysRows_45 : decode cX8_laysRows 45 = .ok (.aload_n 0, 1) := by decide +kernel
theorem dX8_laysRows_46 : decode cX8_laysRows 46 = .ok (.getfield 54, 3) := by decide +kernel
theorem dX8_laysRows_49 : decode cX8_laysRows 49 = .ok (.iload_n 3, 1) := by decide +kernel
theorem dX8_laysRows_50 : decode cX8_laysRows 50 = .ok (.iload_n 3, 1) := by decide +kernel
theorem dX8_laysRows_51 : decode cX8_laysRows 51 = .ok (.iload_n 1, 1) := by decide +kernel
theorem dX8_laysRows_52 : decode cX8_laysRows 52 = .ok (.iadd, 1) := by decide +kernel
theorem dX8_laysRows_53 : decode cX8_laysRows 53 = .ok (.iload_n 2, 1) := by decide +kernel
theorem dX8_laysRows_54 : decode cX8_laysRows 54 = .ok (.iadd, 1) := by decide +kernel
theorem dX8_laysRows_55 : decode cX8_laysRows 55 = .ok (.iconst 2, 1) := by decide +kernel
theorem dX8_laysRows_56 : decode cX8_laysRows 56 = .ok (.irem, 1) := by decide +kernel
theorem dX8_laysRows_57 : decode cX8_laysRows 57 = .ok (.ifCond .ne 12, 3) := by decide +kernel
theorem dX8_laysRows_60 : decode cX8_laysRows 60 = .ok (.aload_n 0, 1) := by decide +kernel
theorem dX8_laysRows_61 : decode cX8_laysRows 61 = .ok (.getfield 39, 3) := by decide +kernel
theorem dX8_laysRows_64 : decode cX8_laysRows 64 = .ok (.iload_n 3, 1) := by decide +kernel
theorem dX8_laysRows_65 : decode cX8_laysRows 65 = .ok (.laload, 1) := by decide +kernel
theorem dX8_laysRows_66 : decode cX8_laysRows 66 = .ok (.goto 4, 3) := by decide +kernel
theorem dX8_laysRows_69 : decode cX8_laysRows 69 = .ok (.lconst 0, 1) := by decide +kernel
theorem dX8_laysRows_70 : decode cX8_laysRows 70 = .ok (.lastore, 1) := by decide +kernel
theorem dX8_laysRows_71 : decode cX8_laysRows 71 = .ok (.iinc 3 1, 3) := by decide +kernel
theorem dX8_laysRows_74 : decode cX8_laysRows 74 = .ok (.goto (-34), 3) := by decide +kernel
theorem dX8_laysRows_77 : decode cX8_laysRows 77 = .ok (.aload_n 0, 1) := by decide +kernel
theorem dX8_laysRows_78 : decode cX8_laysRows 78 = .ok (.getfield 54, 3) := by decide +kernel
theorem dX8_laysRows_81 : decode cX8_laysRows 81 = .ok (.iconst 0, 1) := by decide +kernel
theorem dX8_laysRows_82 : decode cX8_laysRows 82 = .ok (.invokestatic 118, 3) := by decide +kernel
theorem dX8_laysRows_85 : decode cX8_laysRows 85 = .ok (.bipush (-4), 2) := by decide +kernel
theorem dX8_laysRows_87 : decode cX8_laysRows 87 = .ok (.if_icmp .eq 7, 3) := by decide +kernel
theorem dX8_laysRows_90 : decode cX8_laysRows 90 = .ok (.aload_n 0, 1) := by decide +kernel
theorem dX8_laysRows_91 : decode cX8_laysRows 91 = .ok (.invokevirtual 186, 3) := by decide +kernel
theorem dX8_laysRows_94 : decode cX8_laysRows 94 = .ok (.iinc 2 1, 3) := by decide +kernel
theorem dX8_laysRows_97 : decode cX8_laysRows 97 = .ok (.goto (-70), 3) := by decide +kernel
theorem dX8_laysRows_100 : decode cX8_laysRows 100 = .ok (.aload_n 0, 1) := by decide +kernel
theorem dX8_laysRows_101 : decode cX8_laysRows 101 = .ok (.getfield 183, 3) := by decide +kernel
theorem dX8_laysRows_104 : decode cX8_laysRows 104 = .ok (.iconst 2, 1) := by decide +kernel
theorem dX8_laysRows_105 : decode cX8_laysRows 105 = .ok (.if_icmp .ne 7, 3) := by decide +kernel
theorem dX8_laysRows_108 : decode cX8_laysRows 108 = .ok (.iconst 1, 1) := by decide +kernel
theorem dX8_laysRows_109 : decode cX8_laysRows 109 = .ok (.goto 4, 3) := by decide +kernel
theorem dX8_laysRows_112 : decode cX8_laysRows 112 = .ok (.iconst 0, 1) := by decide +kernel
theorem dX8_laysRows_113 : decode cX8_laysRows 113 = .ok (.istore_n 2, 1) := by decide +kernel
theorem dX8_laysRows_114 : decode cX8_laysRows 114 = .ok (.iload_n 2, 1) := by decide +kernel
theorem dX8_laysRows_115 : decode cX8_laysRows 115 = .ok (.ifCond .eq 84, 3) := by decide +kernel
theorem dX8_laysRows_118 : decode cX8_laysRows 118 = .ok (.iconst 0, 1) := by decide +kernel
theorem dX8_laysRows_119 : decode cX8_laysRows 119 = .ok (.istore_n 3, 1) := by decide +kernel
theorem dX8_laysRows_120 : decode cX8_laysRows 120 = .ok (.iload_n 3, 1) := by decide +kernel
theorem dX8_laysRows_121 : decode cX8_laysRows 121 = .ok (.iconst 5, 1) := by decide +kernel
theorem dX8_laysRows_122 : decode cX8_laysRows 122 = .ok (.if_icmp .ge 31, 3) := by decide +kernel
theorem dX8_laysRows_125 : decode cX8_laysRows 125 = .ok (.aload_n 0, 1) := by decide +kernel
theorem dX8_laysRows_126 : decode cX8_laysRows 126 = .ok (.getfield 54, 3) := by decide +kernel
theorem dX8_laysRows_129 : decode cX8_laysRows 129 = .ok (.iload_n 3, 1) := by decide +kernel
theorem dX8_laysRows_130 : decode cX8_laysRows 130 = .ok (.aload_n 0, 1) := by decide +kernel
theorem dX8_laysRows_131 : decode cX8_laysRows 131 = .ok (.getfield 51, 3) := by decide +kernel
theorem dX8_laysRows_134 : decode cX8_laysRows 134 = .ok (.iconst 5, 1) := by decide +kernel
theorem dX8_laysRows_135 : decode cX8_laysRows 135 = .ok (.aload_n 0, 1) := by decide +kernel
theorem dX8_laysRows_136 : decode cX8_laysRows 136 = .ok (.getfield 183, 3) := by decide +kernel
theorem dX8_laysRows_139 : decode cX8_laysRows 139 = .ok (.imul, 1) := by decide +kernel
theorem dX8_laysRows_140 : decode cX8_laysRows 140 = .ok (.bipush 10, 2) := by decide +kernel
theorem dX8_laysRows_142 : decode cX8_laysRows 142 = .ok (.isub, 1) := by decide +kernel
theorem dX8_laysRows_143 : decode cX8_laysRows 143 = .ok (.iload_n 3, 1) := by decide +kernel
theorem dX8_laysRows_144 : decode cX8_laysRows 144 = .ok (.iadd, 1) := by decide +kernel
theorem dX8_laysRows_145 : decode cX8_laysRows 145 = .ok (.laload, 1) := by decide +kernel
theorem dX8_laysRows_146 : decode cX8_laysRows 146 = .ok (.lastore, 1) := by decide +kernel
theorem dX8_laysRows_147 : decode cX8_laysRows 147 = .ok (.iinc 3 1, 3) := by decide +kernel
theorem dX8_laysRows_150 : decode cX8_laysRows 150 = .ok (.goto (-30), 3) := by decide +kernel
theorem dX8_laysRows_153 : decode cX8_laysRows 153 = .ok (.aload_n 0, 1) := by decide +kernel
theorem dX8_laysRows_154 : decode cX8_laysRows 154 = .ok (.iconst 5, 1) := by decide +kernel
theorem dX8_laysRows_155 : decode cX8_laysRows 155 = .ok (.aload_n 0, 1) := by decide +kernel
theorem dX8_laysRows_156 : decode cX8_laysRows 156 = .ok (.getfield 183, 3) := by decide +kernel
theorem dX8_laysRows_159 : decode cX8_laysRows 159 = .ok (.imul, 1) := by decide +kernel
theorem dX8_laysRows_160 : decode cX8_laysRows 160 = .ok (.iconst 5, 1) := by decide +kernel
theorem dX8_laysRows_161 : decode cX8_laysRows 161 = .ok (.isub, 1) := by decide +kernel
theorem dX8_laysRows_162 : decode cX8_laysRows 162 = .ok (.invokevirtual 189, 3) := by decide +kernel
theorem dX8_laysRows_165 : decode cX8_laysRows 165 = .ok (.aload_n 0, 1) := by decide +kernel
theorem dX8_laysRows_166 : decode cX8_laysRows 166 = .ok (.getfield 54, 3) := by decide +kernel
theorem dX8_laysRows_169 : decode cX8_laysRows 169 = .ok (.iconst 0, 1) := by decide +kernel
theorem dX8_laysRows_170 : decode cX8_laysRows 170 = .ok (.invokestatic 118, 3) := by decide +kernel
theorem dX8_laysRows_173 : decode cX8_laysRows 173 = .ok (.bipush (-4), 2) := by decide +kernel
theorem dX8_laysRows_175 : decode cX8_laysRows 175 = .ok (.if_icmp .eq 7, 3) := by decide +kernel
theorem dX8_laysRows_178 : decode cX8_laysRows 178 = .ok (.iconst 1, 1) := by decide +kernel
theorem dX8_laysRows_179 : decode cX8_laysRows 179 = .ok (.goto 4, 3) := by decide +kernel
theorem dX8_laysRows_182 : decode cX8_laysRows 182 = .ok (.iconst 0, 1) := by decide +kernel
theorem dX8_laysRows_183 : decode cX8_laysRows 183 = .ok (.istore_n 2, 1) := by decide +kernel
theorem dX8_laysRows_184 : decode cX8_laysRows 184 = .ok (.iload_n 2, 1) := by decide +kernel
theorem dX8_laysRows_185 : decode cX8_laysRows 185 = .ok (.ifCond .eq (-71), 3) := by decide +kernel
theorem dX8_laysRows_188 : decode cX8_laysRows 188 = .ok (.aload_n 0, 1) := by decide +kernel
theorem dX8_laysRows_189 : decode cX8_laysRows 189 = .ok (.invokevirtual 180, 3) := by decide +kernel
theorem dX8_laysRows_192 : decode cX8_laysRows 192 = .ok (.aload_n 0, 1) := by decide +kernel
theorem dX8_laysRows_193 : decode cX8_laysRows 193 = .ok (.invokevirtual 186, 3) := by decide +kernel
theorem dX8_laysRows_196 : decode cX8_laysRows 196 = .ok (.goto (-82), 3) := by decide +kernel
theorem dX8_laysRows_199 : decode cX8_laysRows 199 = .ok (.return_, 1) := by decide +kernel
theorem dX8_row_0 : decode cX8_row 0 = .ok (.iload_n 1, 1) := by decide +kernel
theorem dX8_row_1 : decode cX8_row 1 = .ok (.ifCond .lt 25, 3) := by decide +kernel
theorem dX8_row_4 : decode cX8_row 4 = .ok (.iload_n 2, 1) := by decide +kernel
theorem dX8_row_5 : decode cX8_row 5 = .ok (.i2l, 1) := by decide +kernel
theorem dX8_row_6 : decode cX8_row 6 = .ok (.lconst 0, 1) := by decide +kernel
theorem dX8_row_7 : decode cX8_row 7 = .ok (.ldc2_w 96, 3) := by decide +kernel
theorem dX8_row_10 : decode cX8_row 10 = .ok (.invokestatic 141, 3) := by decide +kernel
theorem dX8_row_13 : decode cX8_row 13 = .ok (.ifCond .eq 13, 3) := by decide +kernel
theorem dX8_row_16 : decode cX8_row 16 = .ok (.iload_n 3, 1) := by decide +kernel
theorem dX8_row_17 : decode cX8_row 17 = .ok (.i2l, 1) := by decide +kernel
theorem dX8_row_18 : decode cX8_row 18 = .ok (.lconst 0, 1) := by decide +kernel
theorem dX8_row_19 : decode cX8_row 19 = .ok (.lconst 1, 1) := by decide +kernel
theorem dX8_row_20 : decode cX8_row 20 = .ok (.invokestatic 141, 3) := by decide +kernel
theorem dX8_row_23 : decode cX8_row 23 = .ok (.ifCond .ne 7, 3) := by decide +kernel
theorem dX8_row_26 : decode cX8_row 26 = .ok (.ldc2_w 192, 3) := by decide +kernel
theorem dX8_row_29 : decode cX8_row 29 = .ok (.lreturn, 1) := by decide +kernel
theorem dX8_row_30 : decode cX8_row 30 = .ok (.aload_n 0, 1) := by decide +kernel
theorem dX8_row_31 : decode cX8_row 31 = .ok (.invokevirtual 194, 3) := by decide +kernel
theorem dX8_row_34 : decode cX8_row 34 = .ok (.iload_n 1, 1) := by decide +kernel
theorem dX8_row_35 : decode cX8_row 35 = .ok (.aload_n 0, 1) := by decide +kernel
theorem dX8_row_36 : decode cX8_row 36 = .ok (.getfield 183, 3) := by decide +kernel
theorem dX8_row_39 : decode cX8_row 39 = .ok (.if_icmp .lt 7, 3) := by decide +kernel
theorem dX8_row_42 : decode cX8_row 42 = .ok (.ldc2_w 197, 3) := by decide +kernel
theorem dX8_row_45 : decode cX8_row 45 = .ok (.lreturn, 1) := by decide +kernel
theorem dX8_row_46 : decode cX8_row 46 = .ok (.aload_n 0, 1) := by decide +kernel
theorem dX8_row_47 : decode cX8_row 47 = .ok (.getfield 51, 3) := by decide +kernel
theorem dX8_row_50 : decode cX8_row 50 = .ok (.iconst 5, 1) := by decide +kernel
theorem dX8_row_51 : decode cX8_row 51 = .ok (.iload_n 1, 1) := by decide +kernel
theorem dX8_row_52 : decode cX8_row 52 = .ok (.imul, 1) := by decide +kernel
theorem dX8_row_53 : decode cX8_row 53 = .ok (.iload_n 2, 1) := by decide +kernel
theorem dX8_row_54 : decode cX8_row 54 = .ok (.iadd, 1) := by decide +kernel
theorem dX8_row_55 : decode cX8_row 55 = .ok (.laload, 1) := by decide +kernel
theorem dX8_row_56 : decode cX8_row 56 = .ok (.lstore 4, 2) := by decide +kernel
theorem dX8_row_58 : decode cX8_row 58 = .ok (.iload_n 3, 1) := by decide +kernel
theorem dX8_row_59 : decode cX8_row 59 = .ok (.ifCond .ne 21, 3) := by decide +kernel
theorem dX8_row_62 : decode cX8_row 62 = .ok (.lload 4, 2) := by decide +kernel
theorem dX8_row_64 : decode cX8_row 64 = .ok (.lconst 0, 1) := by decide +kernel
theorem dX8_row_65 : decode cX8_row 65 = .ok (.lcmp, 1) := by decide +kernel
theorem dX8_row_66 : decode cX8_row 66 = .ok (.ifCond .ge 9, 3) := by decide +kernel
theorem dX8_row_69 : decode cX8_row 69 = .ok (.lload 4, 2) := by decide +kernel
theorem dX8_row_71 : decode cX8_row 71 = .ok (.lneg, 1) := by decide +kernel
theorem dX8_row_72 : decode cX8_row 72 = .ok (.goto 33, 3) := by decide +kernel
theorem dX8_row_75 : decode cX8_row 75 = .ok (.lload 4, 2) := by decide +kernel
theorem dX8_row_77 : decode cX8_row 77 = .ok (.goto 28, 3) := by decide +kernel
theorem dX8_row_80 : decode cX8_row 80 = .ok (.lload 4, 2) := by decide +kernel
theorem dX8_row_82 : decode cX8_row 82 = .ok (.lconst 0, 1) := by decide +kernel
theorem dX8_row_83 : decode cX8_row 83 = .ok (.lcmp, 1) := by decide +kernel
theorem dX8_row_84 : decode cX8_row 84 = .ok (.ifCond .le 7, 3) := by decide +kernel
theorem dX8_row_87 : decode cX8_row 87 = .ok (.lconst 1, 1) := by decide +kernel
theorem dX8_row_88 : decode cX8_row 88 = .ok (.goto 17, 3) := by decide +kernel
theorem dX8_row_91 : decode cX8_row 91 = .ok (.lload 4, 2) := by decide +kernel
theorem dX8_row_93 : decode cX8_row 93 = .ok (.lconst 0, 1) := by decide +kernel
theorem dX8_row_94 : decode cX8_row 94 = .ok (.lcmp, 1) := by decide +kernel
theorem dX8_row_95 : decode cX8_row 95 = .ok (.ifCond .ge 9, 3) := by decide +kernel
theorem dX8_row_98 : decode cX8_row 98 = .ok (.ldc2_w 199, 3) := by decide +kernel
theorem dX8_row_101 : decode cX8_row 101 = .ok (.goto 4, 3) := by decide +kernel
theorem dX8_row_104 : decode cX8_row 104 = .ok (.lconst 0, 1) := by decide +kernel
theorem dX8_row_105 : decode cX8_row 105 = .ok (.lreturn, 1) := by decide +kernel
theorem dX8_rows_0 : decode cX8_rows 0 = .ok (.aload_n 0, 1) := by decide +kernel
theorem dX8_rows_1 : decode cX8_rows 1 = .ok (.invokevirtual 194, 3) := by decide +kernel
theorem dX8_rows_4 : decode cX8_rows 4 = .ok (.aload_n 0, 1) := by decide +kernel
theorem dX8_rows_5 : decode cX8_rows 5 = .ok (.getfield 183, 3) := by decide +kernel
theorem dX8_rows_8 : decode cX8_rows 8 = .ok (.ireturn, 1) := by decide +kernel
theorem dX8_laysSpans_0 : decode cX8_laysSpans 0 = .ok (.aload_n 0, 1) := by decide +kernel
theorem dX8_laysSpans_1 : decode cX8_laysSpans 1 = .ok (.iconst 0, 1) := by decide +kernel
theorem dX8_laysSpans_2 : decode cX8_laysSpans 2 = .ok (.putfield 201, 3) := by decide +kernel
theorem dX8_laysSpans_5 : decode cX8_laysSpans 5 = .ok (.iconst 0, 1) := by decide +kernel
theorem dX8_laysSpans_6 : decode cX8_laysSpans 6 = .ok (.istore_n 2, 1) := by decide +kernel
theorem dX8_laysSpans_7 : decode cX8_laysSpans 7 = .ok (.iconst 0, 1) := by decide +kernel
theorem dX8_laysSpans_8 : decode cX8_laysSpans 8 = .ok (.istore_n 3, 1) := by decide +kernel
theorem dX8_laysSpans_9 : decode cX8_laysSpans 9 = .ok (.sipush (-800), 3) := by decide +kernel
theorem dX8_laysSpans_12 : decode cX8_laysSpans 12 = .ok (.istore 4, 2) := by decide +kernel
theorem dX8_laysSpans_14 : decode cX8_laysSpans 14 = .ok (.iload 4, 2) := by decide +kernel
theorem dX8_laysSpans_16 : decode cX8_laysSpans 16 = .ok (.sipush 800, 3) := by decide +kernel
theorem dX8_laysSpans_19 : decode cX8_laysSpans 19 = .ok (.if_icmp .gt 76, 3) := by decide +kernel
theorem dX8_laysSpans_22 : decode cX8_laysSpans 22 = .ok (.aload_n 0, 1) := by decide +kernel
theorem dX8_laysSpans_23 : decode cX8_laysSpans 23 = .ok (.iload 4, 2) := by decide +kernel
theorem dX8_laysSpans_25 : decode cX8_laysSpans 25 = .ok (.invokevirtual 167, 3) := by decide +kernel
theorem dX8_laysSpans_28 : decode cX8_laysSpans 28 = .ok (.aload_n 0, 1) := by decide +kernel
theorem dX8_laysSpans_29 : decode cX8_laysSpans 29 = .ok (.iload_n 1, 1) := by decide +kernel
theorem dX8_laysSpans_30 : decode cX8_laysSpans 30 = .ok (.invokevirtual 204, 3) := by decide +kernel
theorem dX8_laysSpans_33 : decode cX8_laysSpans 33 = .ok (.istore 5, 2) := by decide +kernel
theorem dX8_laysSpans_35 : decode cX8_laysSpans 35 = .ok (.iload 5, 2) := by decide +kernel
theorem dX8_laysSpans_37 : decode cX8_laysSpans 37 = .ok (.ifCond .eq 28, 3) := by decide +kernel
theorem dX8_laysSpans_40 : decode cX8_laysSpans 40 = .ok (.iload_n 3, 1) := by decide +kernel
theorem dX8_laysSpans_41 : decode cX8_laysSpans 41 = .ok (.ifCond .ne 24, 3) := by decide +kernel
theorem dX8_laysSpans_44 : decode cX8_laysSpans 44 = .ok (.aload_n 0, 1) := by decide +kernel
theorem dX8_laysSpans_45 : decode cX8_laysSpans 45 = .ok (.getfield 57, 3) := by decide +kernel
theorem dX8_laysSpans_48 : decode cX8_laysSpans 48 = .ok (.aload_n 0, 1) := by decide +kernel
theorem dX8_laysSpans_49 : decode cX8_laysSpans 49 = .ok (.getfield 201, 3) := by decide +kernel
theorem dX8_laysSpans_52 : decode cX8_laysSpans 52 = .ok (.iload 4, 2) := by decide +kernel
theorem dX8_laysSpans_54 : decode cX8_laysSpans 54 = .ok (.iastore, 1) := by decide +kernel
theorem dX8_laysSpans_55 : decode cX8_laysSpans 55 = .ok (.aload_n 0, 1) := by decide +kernel
theorem dX8_laysSpans_56 : decode cX8_laysSpans 56 = .ok (.dup, 1) := by decide +kernel
theorem dX8_laysSpans_57 : decode cX8_laysSpans 57 = .ok (.getfield 201, 3) := by decide +kernel
theorem dX8_laysSpans_60 : decode cX8_laysSpans 60 = .ok (.iconst 1, 1) := by decide +kernel
theorem dX8_laysSpans_61 : decode cX8_laysSpans 61 = .ok (.iadd, 1) := by decide +kernel
theorem dX8_laysSpans_62 : decode cX8_laysSpans 62 = .ok (.putfield 201, 3) := by decide +kernel
theorem dX8_laysSpans_65 : decode cX8_laysSpans 65 = .ok (.iload 5, 2) := by decide +kernel
theorem dX8_laysSpans_67 : decode cX8_laysSpans 67 = .ok (.ifCond .eq 19, 3) := by decide +kernel
theorem dX8_laysSpans_70 : decode cX8_laysSpans 70 = .ok (.aload_n 0, 1) := by decide +kernel
theorem dX8_laysSpans_71 : decode cX8_laysSpans 71 = .ok (.getfield 60, 3) := by decide +kernel
theorem dX8_laysSpans_74 : decode cX8_laysSpans 74 = .ok (.aload_n 0, 1) := by decide +kernel
theorem dX8_laysSpans_75 : decode cX8_laysSpans 75 = .ok (.getfield 201, 3) := by decide +kernel
theorem dX8_laysSpans_78 : decode cX8_laysSpans 78 = .ok (.iconst 1, 1) := by decide +kernel
theorem dX8_laysSpans_79 : decode cX8_laysSpans 79 = .ok (.isub, 1) := by decide +kernel
theorem dX8_laysSpans_80 : decode cX8_laysSpans 80 = .ok (.iload 4, 2) := by decide +kernel
theorem dX8_laysSpans_82 : decode cX8_laysSpans 82 = .ok (.iastore, 1) := by decide +kernel
theorem dX8_laysSpans_83 : decode cX8_laysSpans 83 = .ok (.iinc 2 1, 3) := by decide +kernel
theorem dX8_laysSpans_86 : decode cX8_laysSpans 86 = .ok (.iload 5, 2) := by decide +kernel
theorem dX8_laysSpans_88 : decode cX8_laysSpans 88 = .ok (.istore_n 3, 1) := by decide +kernel
theorem dX8_laysSpans_89 : decode cX8_laysSpans 89 = .ok (.iinc 4 1, 3) := by decide +kernel
theorem dX8_laysSpans_92 : decode cX8_laysSpans 92 = .ok (.goto (-78), 3) := by decide +kernel
theorem dX8_laysSpans_95 : decode cX8_laysSpans 95 = .ok (.iload_n 2, 1) := by decide +kernel
theorem dX8_laysSpans_96 : decode cX8_laysSpans 96 = .ok (.ireturn, 1) := by decide +kernel
theorem dX8_isAsk_0 : decode cX8_isAsk 0 = .ok (.iload_n 0, 1) := by decide +kernel
theorem dX8_isAsk_1 : decode cX8_isAsk 1 = .ok (.i2l, 1) := by decide +kernel
theorem dX8_isAsk_2 : decode cX8_isAsk 2 = .ok (.lconst 0, 1) := by decide +kernel
theorem dX8_isAsk_3 : decode cX8_isAsk 3 = .ok (.lconst 1, 1) := by decide +kernel
theorem dX8_isAsk_4 : decode cX8_isAsk 4 = .ok (.invokestatic 141, 3) := by decide +kernel
theorem dX8_isAsk_7 : decode cX8_isAsk 7 = .ok (.ifCond .eq 21, 3) := by decide +kernel
theorem dX8_isAsk_10 : decode cX8_isAsk 10 = .ok (.iload_n 1, 1) := by decide +kernel
theorem dX8_isAsk_11 : decode cX8_isAsk 11 = .ok (.ifCond .lt 17, 3) := by decide +kernel
theorem dX8_isAsk_14 : decode cX8_isAsk 14 = .ok (.iload_n 2, 1) := by decide +kernel
theorem dX8_isAsk_15 : decode cX8_isAsk 15 = .ok (.i2l, 1) := by decide +kernel
theorem dX8_isAsk_16 : decode cX8_isAsk 16 = .ok (.lconst 0, 1) := by decide +kernel
theorem dX8_isAsk_17 : decode cX8_isAsk 17 = .ok (.lconst 1, 1) := by decide +kernel
theorem dX8_isAsk_18 : decode cX8_isAsk 18 = .ok (.invokestatic 141, 3) := by decide +kernel
theorem dX8_isAsk_21 : decode cX8_isAsk 21 = .ok (.ifCond .eq 7, 3) := by decide +kernel
theorem dX8_isAsk_24 : decode cX8_isAsk 24 = .ok (.iconst 1, 1) := by decide +kernel
theorem dX8_isAsk_25 : decode cX8_isAsk 25 = .ok (.goto 4, 3) := by decide +kernel
theorem dX8_isAsk_28 : decode cX8_isAsk 28 = .ok (.iconst 0, 1) := by decide +kernel
theorem dX8_isAsk_29 : decode cX8_isAsk 29 = .ok (.ireturn, 1) := by decide +kernel
theorem dX8_span_0 : decode cX8_span 0 = .ok (.iload_n 1, 1) := by decide +kernel
theorem dX8_span_1 : decode cX8_span 1 = .ok (.iload_n 2, 1) := by decide +kernel
theorem dX8_span_2 : decode cX8_span 2 = .ok (.iload_n 3, 1) := by decide +kernel
theorem dX8_span_3 : decode cX8_span 3 = .ok (.invokestatic 207, 3) := by decide +kernel
theorem dX8_span_6 : decode cX8_span 6 = .ok (.ifCond .ne 5, 3) := by decide +kernel
theorem dX8_span_9 : decode cX8_span 9 = .ok (.iconst (-1), 1) := by decide +kernel
theorem dX8_span_10 : decode cX8_span 10 = .ok (.ireturn, 1) := by decide +kernel
theorem dX8_span_11 : decode cX8_span 11 = .ok (.aload_n 0, 1) := by decide +kernel
theorem dX8_span_12 : decode cX8_span 12 = .ok (.iload_n 1, 1) := by decide +kernel
theorem dX8_span_13 : decode cX8_span 13 = .ok (.invokevirtual 211, 3) := by decide +kernel
theorem dX8_span_16 : decode cX8_span 16 = .ok (.pop, 1) := by decide +kernel
theorem dX8_span_17 : decode cX8_span 17 = .ok (.iload_n 2, 1) := by decide +kernel
theorem dX8_span_18 : decode cX8_span 18 = .ok (.aload_n 0, 1) := by decide +kernel
theorem dX8_span_19 : decode cX8_span 19 = .ok (.getfield 201, 3) := by decide +kernel
theorem dX8_span_22 : decode cX8_span 22 = .ok (.if_icmp .lt 8, 3) := by decide +kernel
theorem dX8_span_25 : decode cX8_span 25 = .ok (.bipush (-4), 2) := by decide +kernel
theorem dX8_span_27 : decode cX8_span 27 = .ok (.goto 26, 3) := by decide +kernel
theorem dX8_span_30 : decode cX8_span 30 = .ok (.iload_n 3, 1) := by decide +kernel
theorem dX8_span_31 : decode cX8_span 31 = .ok (.ifCond .ne 12, 3) := by decide +kernel
theorem dX8_span_34 : decode cX8_span 34 = .ok (.aload_n 0, 1) := by decide +kernel
theorem dX8_span_35 : decode cX8_span 35 = .ok (.getfield 57, 3) := by decide +kernel
theorem dX8_span_38 : decode cX8_span 38 = .ok (.iload_n 2, 1) := by decide +kernel
theorem dX8_span_39 : decode cX8_span 39 = .ok (.iaload, 1) := by decide +kernel
theorem dX8_span_40 : decode cX8_span 40 = .ok (.goto 9, 3) := by decide +kernel
theorem dX8_span_43 : decode cX8_span 43 = .ok (.aload_n 0, 1) := by decide +kernel
theorem dX8_span_44 : decode cX8_span 44 = .ok (.getfield 60, 3) := by decide +kernel
theorem dX8_span_47 : decode cX8_span 47 = .ok (.iload_n 2, 1) := by decide +kernel
theorem dX8_span_48 : decode cX8_span 48 = .ok (.iaload, 1) := by decide +kernel
theorem dX8_span_49 : decode cX8_span 49 = .ok (.sipush 800, 3) := by decide +kernel
theorem dX8_span_52 : decode cX8_span 52 = .ok (.iadd, 1) := by decide +kernel
theorem dX8_span_53 : decode cX8_span 53 = .ok (.ireturn, 1) := by decide +kernel
theorem dX8_widest_0 : decode cX8_widest 0 = .ok (.iload_n 1, 1) := by decide +kernel
theorem dX8_widest_1 : decode cX8_widest 1 = .ok (.iload_n 2, 1) := by decide +kernel
theorem dX8_widest_2 : decode cX8_widest 2 = .ok (.iload_n 3, 1) := by decide +kernel
theorem dX8_widest_3 : decode cX8_widest 3 = .ok (.invokestatic 207, 3) := by decide +kernel
theorem dX8_widest_6 : decode cX8_widest 6 = .ok (.ifCond .ne 5, 3) := by decide +kernel
theorem dX8_widest_9 : decode cX8_widest 9 = .ok (.iconst (-1), 1) := by decide +kernel
theorem dX8_widest_10 : decode cX8_widest 10 = .ok (.ireturn, 1) := by decide +kernel
theorem dX8_widest_11 : decode cX8_widest 11 = .ok (.aload_n 0, 1) := by decide +kernel
theorem dX8_widest_12 : decode cX8_widest 12 = .ok (.iload_n 1, 1) := by decide +kernel
theorem dX8_widest_13 : decode cX8_widest 13 = .ok (.invokevirtual 211, 3) := by decide +kernel
theorem dX8_widest_16 : decode cX8_widest 16 = .ok (.pop, 1) := by decide +kernel
theorem dX8_widest_17 : decode cX8_widest 17 = .ok (.iconst 0, 1) := by decide +kernel
theorem dX8_widest_18 : decode cX8_widest 18 = .ok (.istore 4, 2) := by decide +kernel
theorem dX8_widest_20 : decode cX8_widest 20 = .ok (.iload 4, 2) := by decide +kernel
theorem dX8_widest_22 : decode cX8_widest 22 = .ok (.aload_n 0, 1) := by decide +kernel
theorem dX8_widest_23 : decode cX8_widest 23 = .ok (.getfield 201, 3) := by decide +kernel
theorem dX8_widest_26 : decode cX8_widest 26 = .ok (.if_icmp .ge 122, 3) := by decide +kernel
theorem dX8_widest_29 : decode cX8_widest 29 = .ok (.iconst 0, 1) := by decide +kernel
theorem dX8_widest_30 : decode cX8_widest 30 = .ok (.istore 5, 2) := by decide +kernel
theorem dX8_widest_32 : decode cX8_widest 32 = .ok (.iconst 0, 1) := by decide +kernel
theorem dX8_widest_33 : decode cX8_widest 33 = .ok (.istore 6, 2) := by decide +kernel
theorem dX8_widest_35 : decode cX8_widest 35 = .ok (.iload 6, 2) := by decide +kernel
theorem dX8_widest_37 : decode cX8_widest 37 = .ok (.aload_n 0, 1) := by decide +kernel
theorem dX8_widest_38 : decode cX8_widest 38 = .ok (.getfield 201, 3) := by decide +kernel
theorem dX8_widest_41 : decode cX8_widest 41 = .ok (.if_icmp .ge 69, 3) := by decide +kernel
theorem dX8_widest_44 : decode cX8_widest 44 = .ok (.aload_n 0, 1) := by decide +kernel
theorem dX8_widest_45 : decode cX8_widest 45 = .ok (.getfield 60, 3) := by decide +kernel
theorem dX8_widest_48 : decode cX8_widest 48 = .ok (.iload 6, 2) := by decide +kernel
theorem dX8_widest_50 : decode cX8_widest 50 = .ok (.iaload, 1) := by decide +kernel
theorem dX8_widest_51 : decode cX8_widest 51 = .ok (.aload_n 0, 1) := by decide +kernel
theorem dX8_widest_52 : decode cX8_widest 52 = .ok (.getfield 57, 3) := by decide +kernel
theorem dX8_widest_55 : decode cX8_widest 55 = .ok (.iload 6, 2) := by decide +kernel
theorem dX8_widest_57 : decode cX8_widest 57 = .ok (.iaload, 1) := by decide +kernel
theorem dX8_widest_58 : decode cX8_widest 58 = .ok (.isub, 1) := by decide +kernel
theorem dX8_widest_59 : decode cX8_widest 59 = .ok (.aload_n 0, 1) := by decide +kernel
theorem dX8_widest_60 : decode cX8_widest 60 = .ok (.getfield 60, 3) := by decide +kernel
theorem dX8_widest_63 : decode cX8_widest 63 = .ok (.iload 4, 2) := by decide +kernel
theorem dX8_widest_65 : decode cX8_widest 65 = .ok (.iaload, 1) := by decide +kernel
theorem dX8_widest_66 : decode cX8_widest 66 = .ok (.isub, 1) := by decide +kernel
theorem dX8_widest_67 : decode cX8_widest 67 = .ok (.aload_n 0, 1) := by decide +kernel
theorem dX8_widest_68 : decode cX8_widest 68 = .ok (.getfield 57, 3) := by decide +kernel
theorem dX8_widest_71 : decode cX8_widest 71 = .ok (.iload 4, 2) := by decide +kernel
theorem dX8_widest_73 : decode cX8_widest 73 = .ok (.iaload, 1) := by decide +kernel
theorem dX8_widest_74 : decode cX8_widest 74 = .ok (.iadd, 1) := by decide +kernel
theorem dX8_widest_75 : decode cX8_widest 75 = .ok (.istore 7, 2) := by decide +kernel
theorem dX8_widest_77 : decode cX8_widest 77 = .ok (.iload 5, 2) := by decide +kernel
theorem dX8_widest_79 : decode cX8_widest 79 = .ok (.iload 7, 2) := by decide +kernel
theorem dX8_widest_81 : decode cX8_widest 81 = .ok (.ifCond .gt 15, 3) := by decide +kernel
theorem dX8_widest_84 : decode cX8_widest 84 = .ok (.iload 7, 2) := by decide +kernel
theorem dX8_widest_86 : decode cX8_widest 86 = .ok (.ifCond .ne 14, 3) := by decide +kernel
theorem dX8_widest_89 : decode cX8_widest 89 = .ok (.iload 6, 2) := by decide +kernel
theorem dX8_widest_91 : decode cX8_widest 91 = .ok (.iload 4, 2) := by decide +kernel
theorem dX8_widest_93 : decode cX8_widest 93 = .ok (.if_icmp .ge 7, 3) := by decide +kernel
theorem dX8_widest_96 : decode cX8_widest 96 = .ok (.iconst 1, 1) := by decide +kernel
theorem dX8_widest_97 : decode cX8_widest 97 = .ok (.goto 4, 3) := by decide +kernel
theorem dX8_widest_100 : decode cX8_widest 100 = .ok (.iconst 0, 1) := by decide +kernel
theorem dX8_widest_101 : decode cX8_widest 101 = .ok (.iadd, 1) := by decide +kernel
theorem dX8_widest_102 : decode cX8_widest 102 = .ok (.istore 5, 2) := by decide +kernel
theorem dX8_widest_104 : decode cX8_widest 104 = .ok (.iinc 6 1, 3) := by decide +kernel
theorem dX8_widest_107 : decode cX8_widest 107 = .ok (.goto (-72), 3) := by decide +kernel
theorem dX8_widest_110 : decode cX8_widest 110 = .ok (.iload 5, 2) := by decide +kernel
theorem dX8_widest_112 : decode cX8_widest 112 = .ok (.iload_n 2, 1) := by decide +kernel
theorem dX8_widest_113 : decode cX8_widest 113 = .ok (.if_icmp .ne 29, 3) := by decide +kernel
theorem dX8_widest_116 : decode cX8_widest 116 = .ok (.iload_n 3, 1) := by decide +kernel
theorem dX8_widest_117 : decode cX8_widest 117 = .ok (.ifCond .ne 13, 3) := by decide +kernel
theorem dX8_widest_120 : decode cX8_widest 120 = .ok (.aload_n 0, 1) := by decide +kernel
theorem dX8_widest_121 : decode cX8_widest 121 = .ok (.getfield 57, 3) := by decide +kernel
theorem dX8_widest_124 : decode cX8_widest 124 = .ok (.iload 4, 2) := by decide +kernel
theorem dX8_widest_126 : decode cX8_widest 126 = .ok (.iaload, 1) := by decide +kernel
theorem dX8_widest_127 : decode cX8_widest 127 = .ok (.goto 10, 3) := by decide +kernel
theorem dX8_widest_130 : decode cX8_widest 130 = .ok (.aload_n 0, 1) := by decide +kernel
theorem dX8_widest_131 : decode cX8_widest 131 = .ok (.getfield 60, 3) := by decide +kernel
theorem dX8_widest_134 : decode cX8_widest 134 = .ok (.iload 4, 2) := by decide +kernel
theorem dX8_widest_136 : decode cX8_widest 136 = .ok (.iaload, 1) := by decide +kernel
theorem dX8_widest_137 : decode cX8_widest 137 = .ok (.sipush 800, 3) := by decide +kernel
theorem dX8_widest_140 : decode cX8_widest 140 = .ok (.iadd, 1) := by decide +kernel
theorem dX8_widest_141 : decode cX8_widest 141 = .ok (.ireturn, 1) := by decide +kernel
theorem dX8_widest_142 : decode cX8_widest 142 = .ok (.iinc 4 1, 3) := by decide +kernel
theorem dX8_widest_145 : decode cX8_widest 145 = .ok (.goto (-125), 3) := by decide +kernel
theorem dX8_widest_148 : decode cX8_widest 148 = .ok (.bipush (-4), 2) := by decide +kernel
theorem dX8_widest_150 : decode cX8_widest 150 = .ok (.ireturn, 1) := by decide +kernel
theorem dX8_spans_0 : decode cX8_spans 0 = .ok (.iload_n 1, 1) := by decide +kernel
theorem dX8_spans_1 : decode cX8_spans 1 = .ok (.i2l, 1) := by decide +kernel
theorem dX8_spans_2 : decode cX8_spans 2 = .ok (.lconst 0, 1) := by decide +kernel
theorem dX8_spans_3 : decode cX8_spans 3 = .ok (.lconst 1, 1) := by decide +kernel
theorem dX8_spans_4 : decode cX8_spans 4 = .ok (.invokestatic 141, 3) := by decide +kernel
theorem dX8_spans_7 : decode cX8_spans 7 = .ok (.ifCond .eq 13, 3) := by decide +kernel
theorem dX8_spans_10 : decode cX8_spans 10 = .ok (.iload_n 2, 1) := by decide +kernel
theorem dX8_spans_11 : decode cX8_spans 11 = .ok (.i2l, 1) := by decide +kernel
theorem dX8_spans_12 : decode cX8_spans 12 = .ok (.lconst 0, 1) := by decide +kernel
theorem dX8_spans_13 : decode cX8_spans 13 = .ok (.lconst 1, 1) := by decide +kernel
theorem dX8_spans_14 : decode cX8_spans 14 = .ok (.invokestatic 141, 3) := by decide +kernel
theorem dX8_spans_17 : decode cX8_spans 17 = .ok (.ifCond .ne 5, 3) := by decide +kernel
theorem dX8_spans_20 : decode cX8_spans 20 = .ok (.iconst (-1), 1) := by decide +kernel
theorem dX8_spans_21 : decode cX8_spans 21 = .ok (.ireturn, 1) := by decide +kernel
theorem dX8_spans_22 : decode cX8_spans 22 = .ok (.aload_n 0, 1) := by decide +kernel
theorem dX8_spans_23 : decode cX8_spans 23 = .ok (.iload_n 1, 1) := by decide +kernel
theorem dX8_spans_24 : decode cX8_spans 24 = .ok (.invokevirtual 211, 3) := by decide +kernel
theorem dX8_spans_27 : decode cX8_spans 27 = .ok (.istore_n 3, 1) := by decide +kernel
theorem dX8_spans_28 : decode cX8_spans 28 = .ok (.iload_n 2, 1) := by decide +kernel
theorem dX8_spans_29 : decode cX8_spans 29 = .ok (.ifCond .ne 10, 3) := by decide +kernel
theorem dX8_spans_32 : decode cX8_spans 32 = .ok (.aload_n 0, 1) := by decide +kernel
theorem dX8_spans_33 : decode cX8_spans 33 = .ok (.getfield 201, 3) := by decide +kernel
theorem dX8_spans_36 : decode cX8_spans 36 = .ok (.goto 4, 3) := by decide +kernel
theorem dX8_spans_39 : decode cX8_spans 39 = .ok (.iload_n 3, 1) := by decide +kernel
theorem dX8_spans_40 : decode cX8_spans 40 = .ok (.ireturn, 1) := by decide +kernel
theorem dX8_corners_0 : decode cX8_corners 0 = .ok (.iload_n 1, 1) := by decide +kernel
theorem dX8_corners_1 : decode cX8_corners 1 = .ok (.i2l, 1) := by decide +kernel
theorem dX8_corners_2 : decode cX8_corners 2 = .ok (.lconst 0, 1) := by decide +kernel
theorem dX8_corners_3 : decode cX8_corners 3 = .ok (.ldc2_w 151, 3) := by decide +kernel
theorem dX8_corners_6 : decode cX8_corners 6 = .ok (.invokestatic 141, 3) := by decide +kernel
theorem dX8_corners_9 : decode cX8_corners 9 = .ok (.ifCond .ne 5, 3) := by decide +kernel
theorem dX8_corners_12 : decode cX8_corners 12 = .ok (.iconst (-1), 1) := by decide +kernel
theorem dX8_corners_13 : decode cX8_corners 13 = .ok (.ireturn, 1) := by decide +kernel
theorem dX8_corners_14 : decode cX8_corners 14 = .ok (.iconst 0, 1) := by decide +kernel
theorem dX8_corners_15 : decode cX8_corners 15 = .ok (.istore_n 2, 1) := by decide +kernel
theorem dX8_corners_16 : decode cX8_corners 16 = .ok (.iconst 0, 1) := by decide +kernel
theorem dX8_corners_17 : decode cX8_corners 17 = .ok (.istore_n 3, 1) := by decide +kernel
theorem dX8_corners_18 : decode cX8_corners 18 = .ok (.iload_n 3, 1) := by decide +kernel
theorem dX8_corners_19 : decode cX8_corners 19 = .ok (.iconst 4, 1) := by decide +kernel
theorem dX8_corners_20 : decode cX8_corners 20 = .ok (.if_icmp .ge 106, 3) := by decide +kernel
theorem dX8_corners_23 : decode cX8_corners 23 = .ok (.iload_n 3, 1) := by decide +kernel
theorem dX8_corners_24 : decode cX8_corners 24 = .ok (.ifCond .ne 8, 3) := by decide +kernel
theorem dX8_corners_27 : decode cX8_corners 27 = .ok (.bipush 12, 2) := by decide +kernel
theorem dX8_corners_29 : decode cX8_corners 29 = .ok (.goto 25, 3) := by decide +kernel
theorem dX8_corners_32 : decode cX8_corners 32 = .ok (.iload_n 3, 1) := by decide +kernel
theorem dX8_corners_33 : decode cX8_corners 33 = .ok (.iconst 1, 1) := by decide +kernel
theorem dX8_corners_34 : decode cX8_corners 34 = .ok (.if_icmp .ne 8, 3) := by decide +kernel
theorem dX8_corners_37 : decode cX8_corners 37 = .ok (.bipush 19, 2) := by decide +kernel
theorem dX8_corners_39 : decode cX8_corners 39 = .ok (.goto 15, 3) := by decide +kernel
theorem dX8_corners_42 : decode cX8_corners 42 = .ok (.iload_n 3, 1) := by decide +kernel
theorem dX8_corners_43 : decode cX8_corners 43 = .ok (.iconst 2, 1) := by decide +kernel
theorem dX8_corners_44 : decode cX8_corners 44 = .ok (.if_icmp .ne 8, 3) := by decide +kernel
theorem dX8_corners_47 : decode cX8_corners 47 = .ok (.bipush 6, 2) := by decide +kernel
theorem dX8_corners_49 : decode cX8_corners 49 = .ok (.goto 5, 3) := by decide +kernel
theorem dX8_corners_52 : decode cX8_corners 52 = .ok (.bipush 25, 2) := by decide +kernel
theorem dX8_corners_54 : decode cX8_corners 54 = .ok (.istore 4, 2) := by decide +kernel
theorem dX8_corners_56 : decode cX8_corners 56 = .ok (.iconst 0, 1) := by decide +kernel
theorem dX8_corners_57 : decode cX8_corners 57 = .ok (.istore 5, 2) := by decide +kernel
theorem dX8_corners_59 : decode cX8_corners 59 = .ok (.iload 5, 2) := by decide +kernel
theorem dX8_corners_61 : decode cX8_corners 61 = .ok (.iconst 5, 1) := by decide +kernel
theorem dX8_corners_62 : decode cX8_corners 62 = .ok (.if_icmp .ge 42, 3) := by decide +kernel
theorem dX8_corners_65 : decode cX8_corners 65 = .ok (.aload_n 0, 1) := by decide +kernel
theorem dX8_corners_66 : decode cX8_corners 66 = .ok (.getfield 39, 3) := by decide +kernel
theorem dX8_corners_69 : decode cX8_corners 69 = .ok (.iload 5, 2) := by decide +kernel
theorem dX8_corners_71 : decode cX8_corners 71 = .ok (.aload_n 0, 1) := by decide +kernel
theorem dX8_corners_72 : decode cX8_corners 72 = .ok (.getfield 7, 3) := by decide +kernel
theorem dX8_corners_75 : decode cX8_corners 75 = .ok (.iload 5, 2) := by decide +kernel
theorem dX8_corners_77 : decode cX8_corners 77 = .ok (.iaload, 1) := by decide +kernel
theorem dX8_corners_78 : decode cX8_corners 78 = .ok (.iload 4, 2) := by decide +kernel
theorem dX8_corners_80 : decode cX8_corners 80 = .ok (.iload 5, 2) := by decide +kernel
theorem dX8_corners_82 : decode cX8_corners 82 = .ok (.ishr, 1) := by decide +kernel
theorem dX8_corners_83 : decode cX8_corners 83 = .ok (.iconst 1, 1) := by decide +kernel
theorem dX8_corners_84 : decode cX8_corners 84 = .ok (.iand, 1) := by decide +kernel
theorem dX8_corners_85 : decode cX8_corners 85 = .ok (.iconst 1, 1) := by decide +kernel
theorem dX8_corners_86 : decode cX8_corners 86 = .ok (.if_icmp .ne 7, 3) := by decide +kernel
theorem dX8_corners_89 : decode cX8_corners 89 = .ok (.iload_n 1, 1) := by decide +kernel
theorem dX8_corners_90 : decode cX8_corners 90 = .ok (.goto 5, 3) := by decide +kernel
theorem dX8_corners_93 : decode cX8_corners 93 = .ok (.iload_n 1, 1) := by decide +kernel
theorem dX8_corners_94 : decode cX8_corners 94 = .ok (.ineg, 1) := by decide +kernel
theorem dX8_corners_95 : decode cX8_corners 95 = .ok (.iadd, 1) := by decide +kernel
theorem dX8_corners_96 : decode cX8_corners 96 = .ok (.i2l, 1) := by decide +kernel
theorem dX8_corners_97 : decode cX8_corners 97 = .ok (.lastore, 1) := by decide +kernel
theorem dX8_corners_98 : decode cX8_corners 98 = .ok (.iinc 5 1, 3) := by decide +kernel
theorem dX8_corners_101 : decode cX8_corners 101 = .ok (.goto (-42), 3) := by decide +kernel
theorem dX8_corners_104 : decode cX8_corners 104 = .ok (.iload_n 2, 1) := by decide +kernel
theorem dX8_corners_105 : decode cX8_corners 105 = .ok (.aload_n 0, 1) := by decide +kernel
theorem dX8_corners_106 : decode cX8_corners 106 = .ok (.iconst 0, 1) := by decide +kernel
theorem dX8_corners_107 : decode cX8_corners 107 = .ok (.invokevirtual 204, 3) := by decide +kernel
theorem dX8_corners_110 : decode cX8_corners 110 = .ok (.ifCond .eq 7, 3) := by decide +kernel
theorem dX8_corners_113 : decode cX8_corners 113 = .ok (.iconst 1, 1) := by decide +kernel
theorem dX8_corners_114 : decode cX8_corners 114 = .ok (.goto 4, 3) := by decide +kernel
theorem dX8_corners_117 : decode cX8_corners 117 = .ok (.iconst 0, 1) := by decide +kernel
theorem dX8_corners_118 : decode cX8_corners 118 = .ok (.iadd, 1) := by decide +kernel
theorem dX8_corners_119 : decode cX8_corners 119 = .ok (.istore_n 2, 1) := by decide +kernel
theorem dX8_corners_120 : decode cX8_corners 120 = .ok (.iinc 3 1, 3) := by decide +kernel
theorem dX8_corners_123 : decode cX8_corners 123 = .ok (.goto (-105), 3) := by decide +kernel
theorem dX8_corners_126 : decode cX8_corners 126 = .ok (.iload_n 2, 1) := by decide +kernel
theorem dX8_corners_127 : decode cX8_corners 127 = .ok (.ireturn, 1) := by decide +kernel
theorem dX8_neighbours_0 : decode cX8_neighbours 0 = .ok (.iload_n 1, 1) := by decide +kernel
theorem dX8_neighbours_1 : decode cX8_neighbours 1 = .ok (.i2l, 1) := by decide +kernel
theorem dX8_neighbours_2 : decode cX8_neighbours 2 = .ok (.lconst 0, 1) := by decide +kernel
theorem dX8_neighbours_3 : decode cX8_neighbours 3 = .ok (.lconst 1, 1) := by decide +kernel
theorem dX8_neighbours_4 : decode cX8_neighbours 4 = .ok (.invokestatic 141, 3) := by decide +kernel
theorem dX8_neighbours_7 : decode cX8_neighbours 7 = .ok (.ifCond .ne 5, 3) := by decide +kernel
theorem dX8_neighbours_10 : decode cX8_neighbours 10 = .ok (.iconst (-1), 1) := by decide +kernel
theorem dX8_neighbours_11 : decode cX8_neighbours 11 = .ok (.ireturn, 1) := by decide +kernel
theorem dX8_neighbours_12 : decode cX8_neighbours 12 = .ok (.iconst 0, 1) := by decide +kernel
theorem dX8_neighbours_13 : decode cX8_neighbours 13 = .ok (.istore_n 2, 1) := by decide +kernel
theorem dX8_neighbours_14 : decode cX8_neighbours 14 = .ok (.iconst 0, 1) := by decide +kernel
theorem dX8_neighbours_15 : decode cX8_neighbours 15 = .ok (.istore_n 3, 1) := by decide +kernel
theorem dX8_neighbours_16 : decode cX8_neighbours 16 = .ok (.iload_n 3, 1) := by decide +kernel
theorem dX8_neighbours_17 : decode cX8_neighbours 17 = .ok (.sipush 243, 3) := by decide +kernel
theorem dX8_neighbours_20 : decode cX8_neighbours 20 = .ok (.if_icmp .ge 71, 3) := by decide +kernel
theorem dX8_neighbours_23 : decode cX8_neighbours 23 = .ok (.iload_n 3, 1) := by decide +kernel
theorem dX8_neighbours_24 : decode cX8_neighbours 24 = .ok (.istore 4, 2) := by decide +kernel
theorem dX8_neighbours_26 : decode cX8_neighbours 26 = .ok (.iconst 0, 1) := by decide +kernel
theorem dX8_neighbours_27 : decode cX8_neighbours 27 = .ok (.istore 5, 2) := by decide +kernel
theorem dX8_neighbours_29 : decode cX8_neighbours 29 = .ok (.iload 5, 2) := by decide +kernel
theorem dX8_neighbours_31 : decode cX8_neighbours 31 = .ok (.iconst 5, 1) := by decide +kernel
theorem dX8_neighbours_32 : decode cX8_neighbours 32 = .ok (.if_icmp .ge 37, 3) := by decide +kernel
theorem dX8_neighbours_35 : decode cX8_neighbours 35 = .ok (.aload_n 0, 1) := by decide +kernel
theorem dX8_neighbours_36 : decode cX8_neighbours 36 = .ok (.getfield 39, 3) := by decide +kernel
theorem dX8_neighbours_39 : decode cX8_neighbours 39 = .ok (.iload 5, 2) := by decide +kernel
theorem dX8_neighbours_41 : decode cX8_neighbours 41 = .ok (.aload_n 0, 1) := by decide +kernel
theorem dX8_neighbours_42 : decode cX8_neighbours 42 = .ok (.getfield 7, 3) := by decide +kernel
theorem dX8_neighbours_45 : decode cX8_neighbours 45 = .ok (.iload 5, 2) := by decide +kernel
theorem dX8_neighbours_47 : decode cX8_neighbours 47 = .ok (.iaload, 1) := by decide +kernel
theorem dX8_neighbours_48 : decode cX8_neighbours 48 = .ok (.iload 4, 2) := by decide +kernel
theorem dX8_neighbours_50 : decode cX8_neighbours 50 = .ok (.iconst 3, 1) := by decide +kernel
theorem dX8_neighbours_51 : decode cX8_neighbours 51 = .ok (.irem, 1) := by decide +kernel
theorem dX8_neighbours_52 : decode cX8_neighbours 52 = .ok (.iadd, 1) := by decide +kernel
theorem dX8_neighbours_53 : decode cX8_neighbours 53 = .ok (.iconst 1, 1) := by decide +kernel
theorem dX8_neighbours_54 : decode cX8_neighbours 54 = .ok (.isub, 1) := by decide +kernel
theorem dX8_neighbours_55 : decode cX8_neighbours 55 = .ok (.i2l, 1) := by decide +kernel
theorem dX8_neighbours_56 : decode cX8_neighbours 56 = .ok (.lastore, 1) := by decide +kernel
theorem dX8_neighbours_57 : decode cX8_neighbours 57 = .ok (.iload 4, 2) := by decide +kernel
theorem dX8_neighbours_59 : decode cX8_neighbours 59 = .ok (.iconst 3, 1) := by decide +kernel
theorem dX8_neighbours_60 : decode cX8_neighbours 60 = .ok (.idiv, 1) := by decide +kernel
theorem dX8_neighbours_61 : decode cX8_neighbours 61 = .ok (.istore 4, 2) := by decide +kernel
theorem dX8_neighbours_63 : decode cX8_neighbours 63 = .ok (.iinc 5 1, 3) := by decide +kernel
theorem dX8_neighbours_66 : decode cX8_neighbours 66 = .ok (.goto (-37), 3) := by decide +kernel
theorem dX8_neighbours_69 : decode cX8_neighbours 69 = .ok (.iload_n 2, 1) := by decide +kernel
theorem dX8_neighbours_70 : decode cX8_neighbours 70 = .ok (.aload_n 0, 1) := by decide +kernel
theorem dX8_neighbours_71 : decode cX8_neighbours 71 = .ok (.iload_n 1, 1) := by decide +kernel
theorem dX8_neighbours_72 : decode cX8_neighbours 72 = .ok (.invokevirtual 204, 3) := by decide +kernel
theorem dX8_neighbours_75 : decode cX8_neighbours 75 = .ok (.ifCond .eq 7, 3) := by decide +kernel
theorem dX8_neighbours_78 : decode cX8_neighbours 78 = .ok (.iconst 1, 1) := by decide +kernel
theorem dX8_neighbours_79 : decode cX8_neighbours 79 = .ok (.goto 4, 3) := by decide +kernel
theorem dX8_neighbours_82 : decode cX8_neighbours 82 = .ok (.iconst 0, 1) := by decide +kernel
theorem dX8_neighbours_83 : decode cX8_neighbours 83 = .ok (.iadd, 1) := by decide +kernel
theorem dX8_neighbours_84 : decode cX8_neighbours 84 = .ok (.istore_n 2, 1) := by decide +kernel
theorem dX8_neighbours_85 : decode cX8_neighbours 85 = .ok (.iinc 3 1, 3) := by decide +kernel
theorem dX8_neighbours_88 : decode cX8_neighbours 88 = .ok (.goto (-72), 3) := by decide +kernel
theorem dX8_neighbours_91 : decode cX8_neighbours 91 = .ok (.iload_n 2, 1) := by decide +kernel
theorem dX8_neighbours_92 : decode cX8_neighbours 92 = .ok (.ireturn, 1) := by decide +kernel
theorem dX8_off_0 : decode cX8_off 0 = .ok (.iload_n 1, 1) := by decide +kernel
theorem dX8_off_1 : decode cX8_off 1 = .ok (.i2l, 1) := by decide +kernel
theorem dX8_off_2 : decode cX8_off 2 = .ok (.lconst 0, 1) := by decide +kernel
theorem dX8_off_3 : decode cX8_off 3 = .ok (.ldc2_w 214, 3) := by decide +kernel
theorem dX8_off_6 : decode cX8_off 6 = .ok (.invokestatic 141, 3) := by decide +kernel
theorem dX8_off_9 : decode cX8_off 9 = .ok (.ifCond .eq 13, 3) := by decide +kernel
theorem dX8_off_12 : decode cX8_off 12 = .ok (.iload_n 2, 1) := by decide +kernel
theorem dX8_off_13 : decode cX8_off 13 = .ok (.i2l, 1) := by decide +kernel
theorem dX8_off_14 : decode cX8_off 14 = .ok (.lconst 0, 1) := by decide +kernel
theorem dX8_off_15 : decode cX8_off 15 = .ok (.lconst 1, 1) := by decide +kernel
theorem dX8_off_16 : decode cX8_off 16 = .ok (.invokestatic 141, 3) := by decide +kernel
theorem dX8_off_19 : decode cX8_off 19 = .ok (.ifCond .ne 5, 3) := by decide +kernel
theorem dX8_off_22 : decode cX8_off 22 = .ok (.iconst (-1), 1) := by decide +kernel
theorem dX8_off_23 : decode cX8_off 23 = .ok (.ireturn, 1) := by decide +kernel
theorem dX8_off_24 : decode cX8_off 24 = .ok (.iconst 0, 1) := by decide +kernel
theorem dX8_off_25 : decode cX8_off 25 = .ok (.istore_n 3, 1) := by decide +kernel
theorem dX8_off_26 : decode cX8_off 26 = .ok (.iconst 0, 1) := by decide +kernel
theorem dX8_off_27 : decode cX8_off 27 = .ok (.istore 4, 2) := by decide +kernel
theorem dX8_off_29 : decode cX8_off 29 = .ok (.iload 4, 2) := by decide +kernel
theorem dX8_off_31 : decode cX8_off 31 = .ok (.bipush 32, 2) := by decide +kernel
theorem dX8_off_33 : decode cX8_off 33 = .ok (.if_icmp .ge 91, 3) := by decide +kernel
theorem dX8_off_36 : decode cX8_off 36 = .ok (.iconst 1, 1) := by decide +kernel
theorem dX8_off_37 : decode cX8_off 37 = .ok (.istore 5, 2) := by decide +kernel
theorem dX8_off_39 : decode cX8_off 39 = .ok (.iconst 0, 1) := by decide +kernel
theorem dX8_off_40 : decode cX8_off 40 = .ok (.istore 6, 2) := by decide +kernel
theorem dX8_off_42 : decode cX8_off 42 = .ok (.iload 6, 2) := by decide +kernel
theorem dX8_off_44 : decode cX8_off 44 = .ok (.iconst 5, 1) := by decide +kernel
theorem dX8_off_45 : decode cX8_off 45 = .ok (.if_icmp .ge 56, 3) := by decide +kernel
theorem dX8_off_48 : decode cX8_off 48 = .ok (.aload_n 0, 1) := by decide +kernel
theorem dX8_off_49 : decode cX8_off 49 = .ok (.getfield 39, 3) := by decide +kernel
theorem dX8_off_52 : decode cX8_off 52 = .ok (.iload 6, 2) := by decide +kernel
theorem dX8_off_54 : decode cX8_off 54 = .ok (.aload_n 0, 1) := by decide +kernel
theorem dX8_off_55 : decode cX8_off 55 = .ok (.getfield 7, 3) := by decide +kernel
theorem dX8_off_58 : decode cX8_off 58 = .ok (.iload 6, 2) := by decide +kernel
theorem dX8_off_60 : decode cX8_off 60 = .ok (.iaload, 1) := by decide +kernel
theorem dX8_off_61 : decode cX8_off 61 = .ok (.iload 4, 2) := by decide +kernel
theorem dX8_off_63 : decode cX8_off 63 = .ok (.iload 6, 2) := by decide +kernel
theorem dX8_off_65 : decode cX8_off 65 = .ok (.ishr, 1) := by decide +kernel
theorem dX8_off_66 : decode cX8_off 66 = .ok (.iconst 1, 1) := by decide +kernel
end
section
theorem dX8_off_67 : decode cX8_off 67 = .ok (.iand, 1) := by decide +kernel
theorem dX8_off_68 : decode cX8_off 68 = .ok (.iadd, 1) := by decide +kernel
theorem dX8_off_69 : decode cX8_off 69 = .ok (.i2l, 1) := by decide +kernel
theorem dX8_off_70 : decode cX8_off 70 = .ok (.lastore, 1) := by decide +kernel
theorem dX8_off_71 : decode cX8_off 71 = .ok (.iload 5, 2) := by decide +kernel
theorem dX8_off_73 : decode cX8_off 73 = .ok (.iload 4, 2) := by decide +kernel
theorem dX8_off_75 : decode cX8_off 75 = .ok (.iload 6, 2) := by decide +kernel
theorem dX8_off_77 : decode cX8_off 77 = .ok (.ishr, 1) := by decide +kernel
theorem dX8_off_78 : decode cX8_off 78 = .ok (.iconst 1, 1) := by decide +kernel
theorem dX8_off_79 : decode cX8_off 79 = .ok (.iand, 1) := by decide +kernel
theorem dX8_off_80 : decode cX8_off 80 = .ok (.iconst 1, 1) := by decide +kernel
theorem dX8_off_81 : decode cX8_off 81 = .ok (.if_icmp .ne 7, 3) := by decide +kernel
theorem dX8_off_84 : decode cX8_off 84 = .ok (.iload_n 1, 1) := by decide +kernel
theorem dX8_off_85 : decode cX8_off 85 = .ok (.goto 7, 3) := by decide +kernel
theorem dX8_off_88 : decode cX8_off 88 = .ok (.bipush 10, 2) := by decide +kernel
theorem dX8_off_90 : decode cX8_off 90 = .ok (.iload_n 1, 1) := by decide +kernel
theorem dX8_off_91 : decode cX8_off 91 = .ok (.isub, 1) := by decide +kernel
theorem dX8_off_92 : decode cX8_off 92 = .ok (.imul, 1) := by decide +kernel
theorem dX8_off_93 : decode cX8_off 93 = .ok (.istore 5, 2) := by decide +kernel
theorem dX8_off_95 : decode cX8_off 95 = .ok (.iinc 6 1, 3) := by decide +kernel
theorem dX8_off_98 : decode cX8_off 98 = .ok (.goto (-56), 3) := by decide +kernel
theorem dX8_off_101 : decode cX8_off 101 = .ok (.iload_n 3, 1) := by decide +kernel
theorem dX8_off_102 : decode cX8_off 102 = .ok (.aload_n 0, 1) := by decide +kernel
theorem dX8_off_103 : decode cX8_off 103 = .ok (.iconst 0, 1) := by decide +kernel
theorem dX8_off_104 : decode cX8_off 104 = .ok (.invokevirtual 204, 3) := by decide +kernel
theorem dX8_off_107 : decode cX8_off 107 = .ok (.ifCond .eq 8, 3) := by decide +kernel
theorem dX8_off_110 : decode cX8_off 110 = .ok (.iload 5, 2) := by decide +kernel
theorem dX8_off_112 : decode cX8_off 112 = .ok (.goto 4, 3) := by decide +kernel
theorem dX8_off_115 : decode cX8_off 115 = .ok (.iconst 0, 1) := by decide +kernel
theorem dX8_off_116 : decode cX8_off 116 = .ok (.iadd, 1) := by decide +kernel
theorem dX8_off_117 : decode cX8_off 117 = .ok (.istore_n 3, 1) := by decide +kernel
theorem dX8_off_118 : decode cX8_off 118 = .ok (.iinc 4 1, 3) := by decide +kernel
theorem dX8_off_121 : decode cX8_off 121 = .ok (.goto (-92), 3) := by decide +kernel
theorem dX8_off_124 : decode cX8_off 124 = .ok (.iload_n 3, 1) := by decide +kernel
theorem dX8_off_125 : decode cX8_off 125 = .ok (.i2l, 1) := by decide +kernel
theorem dX8_off_126 : decode cX8_off 126 = .ok (.ldc2_w 216, 3) := by decide +kernel
theorem dX8_off_129 : decode cX8_off 129 = .ok (.invokestatic 176, 3) := by decide +kernel
theorem dX8_off_132 : decode cX8_off 132 = .ok (.l2i, 1) := by decide +kernel
theorem dX8_off_133 : decode cX8_off 133 = .ok (.istore 4, 2) := by decide +kernel
theorem dX8_off_135 : decode cX8_off 135 = .ok (.iload_n 2, 1) := by decide +kernel
theorem dX8_off_136 : decode cX8_off 136 = .ok (.ifCond .ne 10, 3) := by decide +kernel
theorem dX8_off_139 : decode cX8_off 139 = .ok (.iload_n 3, 1) := by decide +kernel
theorem dX8_off_140 : decode cX8_off 140 = .ok (.iload 4, 2) := by decide +kernel
theorem dX8_off_142 : decode cX8_off 142 = .ok (.idiv, 1) := by decide +kernel
theorem dX8_off_143 : decode cX8_off 143 = .ok (.goto 8, 3) := by decide +kernel
theorem dX8_off_146 : decode cX8_off 146 = .ok (.ldc 218, 2) := by decide +kernel
theorem dX8_off_148 : decode cX8_off 148 = .ok (.iload 4, 2) := by decide +kernel
theorem dX8_off_150 : decode cX8_off 150 = .ok (.idiv, 1) := by decide +kernel
theorem dX8_off_151 : decode cX8_off 151 = .ok (.ireturn, 1) := by decide +kernel
theorem dX8_type_0 : decode cX8_type 0 = .ok (.iload_n 1, 1) := by decide +kernel
theorem dX8_type_1 : decode cX8_type 1 = .ok (.i2l, 1) := by decide +kernel
theorem dX8_type_2 : decode cX8_type 2 = .ok (.ldc2_w 219, 3) := by decide +kernel
theorem dX8_type_5 : decode cX8_type 5 = .ok (.ldc2_w 221, 3) := by decide +kernel
theorem dX8_type_8 : decode cX8_type 8 = .ok (.invokestatic 141, 3) := by decide +kernel
theorem dX8_type_11 : decode cX8_type 11 = .ok (.ifCond .ne 5, 3) := by decide +kernel
theorem dX8_type_14 : decode cX8_type 14 = .ok (.iconst (-1), 1) := by decide +kernel
theorem dX8_type_15 : decode cX8_type 15 = .ok (.ireturn, 1) := by decide +kernel
theorem dX8_type_16 : decode cX8_type 16 = .ok (.aload_n 0, 1) := by decide +kernel
theorem dX8_type_17 : decode cX8_type 17 = .ok (.getfield 223, 3) := by decide +kernel
theorem dX8_type_20 : decode cX8_type 20 = .ok (.bipush 60, 2) := by decide +kernel
theorem dX8_type_22 : decode cX8_type 22 = .ok (.if_icmp .ne 6, 3) := by decide +kernel
theorem dX8_type_25 : decode cX8_type 25 = .ok (.bipush (-3), 2) := by decide +kernel
theorem dX8_type_27 : decode cX8_type 27 = .ok (.ireturn, 1) := by decide +kernel
theorem dX8_type_28 : decode cX8_type 28 = .ok (.aload_n 0, 1) := by decide +kernel
theorem dX8_type_29 : decode cX8_type 29 = .ok (.getfield 26, 3) := by decide +kernel
theorem dX8_type_32 : decode cX8_type 32 = .ok (.aload_n 0, 1) := by decide +kernel
theorem dX8_type_33 : decode cX8_type 33 = .ok (.getfield 223, 3) := by decide +kernel
theorem dX8_type_36 : decode cX8_type 36 = .ok (.iload_n 1, 1) := by decide +kernel
theorem dX8_type_37 : decode cX8_type 37 = .ok (.iastore, 1) := by decide +kernel
theorem dX8_type_38 : decode cX8_type 38 = .ok (.aload_n 0, 1) := by decide +kernel
theorem dX8_type_39 : decode cX8_type 39 = .ok (.dup, 1) := by decide +kernel
theorem dX8_type_40 : decode cX8_type 40 = .ok (.getfield 223, 3) := by decide +kernel
theorem dX8_type_43 : decode cX8_type 43 = .ok (.iconst 1, 1) := by decide +kernel
theorem dX8_type_44 : decode cX8_type 44 = .ok (.iadd, 1) := by decide +kernel
theorem dX8_type_45 : decode cX8_type 45 = .ok (.putfield 223, 3) := by decide +kernel
theorem dX8_type_48 : decode cX8_type 48 = .ok (.aload_n 0, 1) := by decide +kernel
theorem dX8_type_49 : decode cX8_type 49 = .ok (.getfield 223, 3) := by decide +kernel
theorem dX8_type_52 : decode cX8_type 52 = .ok (.ireturn, 1) := by decide +kernel
theorem dX8_looks_0 : decode cX8_looks 0 = .ok (.aload_n 0, 1) := by decide +kernel
theorem dX8_looks_1 : decode cX8_looks 1 = .ok (.getfield 226, 3) := by decide +kernel
theorem dX8_looks_4 : decode cX8_looks 4 = .ok (.aload_n 0, 1) := by decide +kernel
theorem dX8_looks_5 : decode cX8_looks 5 = .ok (.getfield 223, 3) := by decide +kernel
theorem dX8_looks_8 : decode cX8_looks 8 = .ok (.if_icmp .ge 30, 3) := by decide +kernel
theorem dX8_looks_11 : decode cX8_looks 11 = .ok (.aload_n 0, 1) := by decide +kernel
theorem dX8_looks_12 : decode cX8_looks 12 = .ok (.getfield 26, 3) := by decide +kernel
theorem dX8_looks_15 : decode cX8_looks 15 = .ok (.aload_n 0, 1) := by decide +kernel
theorem dX8_looks_16 : decode cX8_looks 16 = .ok (.getfield 226, 3) := by decide +kernel
theorem dX8_looks_19 : decode cX8_looks 19 = .ok (.iaload, 1) := by decide +kernel
theorem dX8_looks_20 : decode cX8_looks 20 = .ok (.bipush 32, 2) := by decide +kernel
theorem dX8_looks_22 : decode cX8_looks 22 = .ok (.if_icmp .ne 16, 3) := by decide +kernel
theorem dX8_looks_25 : decode cX8_looks 25 = .ok (.aload_n 0, 1) := by decide +kernel
theorem dX8_looks_26 : decode cX8_looks 26 = .ok (.dup, 1) := by decide +kernel
theorem dX8_looks_27 : decode cX8_looks 27 = .ok (.getfield 226, 3) := by decide +kernel
theorem dX8_looks_30 : decode cX8_looks 30 = .ok (.iconst 1, 1) := by decide +kernel
theorem dX8_looks_31 : decode cX8_looks 31 = .ok (.iadd, 1) := by decide +kernel
theorem dX8_looks_32 : decode cX8_looks 32 = .ok (.putfield 226, 3) := by decide +kernel
theorem dX8_looks_35 : decode cX8_looks 35 = .ok (.goto (-35), 3) := by decide +kernel
theorem dX8_looks_38 : decode cX8_looks 38 = .ok (.aload_n 0, 1) := by decide +kernel
theorem dX8_looks_39 : decode cX8_looks 39 = .ok (.getfield 226, 3) := by decide +kernel
theorem dX8_looks_42 : decode cX8_looks 42 = .ok (.aload_n 0, 1) := by decide +kernel
theorem dX8_looks_43 : decode cX8_looks 43 = .ok (.getfield 223, 3) := by decide +kernel
theorem dX8_looks_46 : decode cX8_looks 46 = .ok (.if_icmp .ge 15, 3) := by decide +kernel
theorem dX8_looks_49 : decode cX8_looks 49 = .ok (.aload_n 0, 1) := by decide +kernel
theorem dX8_looks_50 : decode cX8_looks 50 = .ok (.getfield 26, 3) := by decide +kernel
theorem dX8_looks_53 : decode cX8_looks 53 = .ok (.aload_n 0, 1) := by decide +kernel
theorem dX8_looks_54 : decode cX8_looks 54 = .ok (.getfield 226, 3) := by decide +kernel
theorem dX8_looks_57 : decode cX8_looks 57 = .ok (.iaload, 1) := by decide +kernel
theorem dX8_looks_58 : decode cX8_looks 58 = .ok (.goto 4, 3) := by decide +kernel
theorem dX8_looks_61 : decode cX8_looks 61 = .ok (.iconst 0, 1) := by decide +kernel
theorem dX8_looks_62 : decode cX8_looks 62 = .ok (.ireturn, 1) := by decide +kernel
theorem dX8_goesBy_0 : decode cX8_goesBy 0 = .ok (.aload_n 0, 1) := by decide +kernel
theorem dX8_goesBy_1 : decode cX8_goesBy 1 = .ok (.dup, 1) := by decide +kernel
theorem dX8_goesBy_2 : decode cX8_goesBy 2 = .ok (.getfield 226, 3) := by decide +kernel
theorem dX8_goesBy_5 : decode cX8_goesBy 5 = .ok (.iload_n 1, 1) := by decide +kernel
theorem dX8_goesBy_6 : decode cX8_goesBy 6 = .ok (.ifCond .eq 7, 3) := by decide +kernel
theorem dX8_goesBy_9 : decode cX8_goesBy 9 = .ok (.iconst 1, 1) := by decide +kernel
theorem dX8_goesBy_10 : decode cX8_goesBy 10 = .ok (.goto 4, 3) := by decide +kernel
theorem dX8_goesBy_13 : decode cX8_goesBy 13 = .ok (.iconst 0, 1) := by decide +kernel
theorem dX8_goesBy_14 : decode cX8_goesBy 14 = .ok (.iadd, 1) := by decide +kernel
theorem dX8_goesBy_15 : decode cX8_goesBy 15 = .ok (.putfield 226, 3) := by decide +kernel
theorem dX8_goesBy_18 : decode cX8_goesBy 18 = .ok (.iload_n 1, 1) := by decide +kernel
theorem dX8_goesBy_19 : decode cX8_goesBy 19 = .ok (.ireturn, 1) := by decide +kernel
theorem dX8_term_0 : decode cX8_term 0 = .ok (.aload_n 0, 1) := by decide +kernel
theorem dX8_term_1 : decode cX8_term 1 = .ok (.invokevirtual 229, 3) := by decide +kernel
theorem dX8_term_4 : decode cX8_term 4 = .ok (.istore 4, 2) := by decide +kernel
theorem dX8_term_6 : decode cX8_term 6 = .ok (.aload_n 0, 1) := by decide +kernel
theorem dX8_term_7 : decode cX8_term 7 = .ok (.getfield 226, 3) := by decide +kernel
theorem dX8_term_10 : decode cX8_term 10 = .ok (.istore 5, 2) := by decide +kernel
theorem dX8_term_12 : decode cX8_term 12 = .ok (.iload 4, 2) := by decide +kernel
theorem dX8_term_14 : decode cX8_term 14 = .ok (.i2l, 1) := by decide +kernel
theorem dX8_term_15 : decode cX8_term 15 = .ok (.ldc2_w 233, 3) := by decide +kernel
theorem dX8_term_18 : decode cX8_term 18 = .ok (.ldc2_w 235, 3) := by decide +kernel
theorem dX8_term_21 : decode cX8_term 21 = .ok (.invokestatic 141, 3) := by decide +kernel
theorem dX8_term_24 : decode cX8_term 24 = .ok (.ifCond .eq 11, 3) := by decide +kernel
theorem dX8_term_27 : decode cX8_term 27 = .ok (.iload 4, 2) := by decide +kernel
theorem dX8_term_29 : decode cX8_term 29 = .ok (.bipush 48, 2) := by decide +kernel
theorem dX8_term_31 : decode cX8_term 31 = .ok (.isub, 1) := by decide +kernel
theorem dX8_term_32 : decode cX8_term 32 = .ok (.goto 4, 3) := by decide +kernel
theorem dX8_term_35 : decode cX8_term 35 = .ok (.iconst 1, 1) := by decide +kernel
theorem dX8_term_36 : decode cX8_term 36 = .ok (.istore 6, 2) := by decide +kernel
theorem dX8_term_38 : decode cX8_term 38 = .ok (.aload_n 0, 1) := by decide +kernel
theorem dX8_term_39 : decode cX8_term 39 = .ok (.iload 4, 2) := by decide +kernel
theorem dX8_term_41 : decode cX8_term 41 = .ok (.i2l, 1) := by decide +kernel
theorem dX8_term_42 : decode cX8_term 42 = .ok (.ldc2_w 233, 3) := by decide +kernel
theorem dX8_term_45 : decode cX8_term 45 = .ok (.ldc2_w 235, 3) := by decide +kernel
theorem dX8_term_48 : decode cX8_term 48 = .ok (.invokestatic 141, 3) := by decide +kernel
theorem dX8_term_51 : decode cX8_term 51 = .ok (.invokevirtual 237, 3) := by decide +kernel
theorem dX8_term_54 : decode cX8_term 54 = .ok (.istore 7, 2) := by decide +kernel
theorem dX8_term_56 : decode cX8_term 56 = .ok (.aload_n 0, 1) := by decide +kernel
theorem dX8_term_57 : decode cX8_term 57 = .ok (.aload_n 0, 1) := by decide +kernel
theorem dX8_term_58 : decode cX8_term 58 = .ok (.invokevirtual 229, 3) := by decide +kernel
theorem dX8_term_61 : decode cX8_term 61 = .ok (.bipush 115, 2) := by decide +kernel
theorem dX8_term_63 : decode cX8_term 63 = .ok (.if_icmp .ne 7, 3) := by decide +kernel
theorem dX8_term_66 : decode cX8_term 66 = .ok (.iconst 1, 1) := by decide +kernel
theorem dX8_term_67 : decode cX8_term 67 = .ok (.goto 4, 3) := by decide +kernel
theorem dX8_term_70 : decode cX8_term 70 = .ok (.iconst 0, 1) := by decide +kernel
theorem dX8_term_71 : decode cX8_term 71 = .ok (.invokevirtual 237, 3) := by decide +kernel
theorem dX8_term_74 : decode cX8_term 74 = .ok (.istore 8, 2) := by decide +kernel
theorem dX8_term_76 : decode cX8_term 76 = .ok (.iload 7, 2) := by decide +kernel
theorem dX8_term_78 : decode cX8_term 78 = .ok (.ifCond .ne 15, 3) := by decide +kernel
theorem dX8_term_81 : decode cX8_term 81 = .ok (.iload 8, 2) := by decide +kernel
theorem dX8_term_83 : decode cX8_term 83 = .ok (.ifCond .ne 10, 3) := by decide +kernel
theorem dX8_term_86 : decode cX8_term 86 = .ok (.aload_n 0, 1) := by decide +kernel
theorem dX8_term_87 : decode cX8_term 87 = .ok (.iconst 1, 1) := by decide +kernel
theorem dX8_term_88 : decode cX8_term 88 = .ok (.putfield 241, 3) := by decide +kernel
theorem dX8_term_91 : decode cX8_term 91 = .ok (.iconst 0, 1) := by decide +kernel
theorem dX8_term_92 : decode cX8_term 92 = .ok (.ireturn, 1) := by decide +kernel
theorem dX8_term_93 : decode cX8_term 93 = .ok (.iload 8, 2) := by decide +kernel
theorem dX8_term_95 : decode cX8_term 95 = .ok (.ifCond .eq 7, 3) := by decide +kernel
theorem dX8_term_98 : decode cX8_term 98 = .ok (.iconst 1, 1) := by decide +kernel
theorem dX8_term_99 : decode cX8_term 99 = .ok (.goto 4, 3) := by decide +kernel
theorem dX8_term_102 : decode cX8_term 102 = .ok (.iconst 0, 1) := by decide +kernel
theorem dX8_term_103 : decode cX8_term 103 = .ok (.istore 9, 2) := by decide +kernel
theorem dX8_term_105 : decode cX8_term 105 = .ok (.iload 8, 2) := by decide +kernel
theorem dX8_term_107 : decode cX8_term 107 = .ok (.ifCond .eq 39, 3) := by decide +kernel
theorem dX8_term_110 : decode cX8_term 110 = .ok (.aload_n 0, 1) := by decide +kernel
theorem dX8_term_111 : decode cX8_term 111 = .ok (.invokevirtual 229, 3) := by decide +kernel
theorem dX8_term_114 : decode cX8_term 114 = .ok (.i2l, 1) := by decide +kernel
theorem dX8_term_115 : decode cX8_term 115 = .ok (.ldc2_w 245, 3) := by decide +kernel
theorem dX8_term_118 : decode cX8_term 118 = .ok (.ldc2_w 247, 3) := by decide +kernel
theorem dX8_term_121 : decode cX8_term 121 = .ok (.invokestatic 141, 3) := by decide +kernel
theorem dX8_term_124 : decode cX8_term 124 = .ok (.ifCond .eq 22, 3) := by decide +kernel
theorem dX8_term_127 : decode cX8_term 127 = .ok (.aload_n 0, 1) := by decide +kernel
theorem dX8_term_128 : decode cX8_term 128 = .ok (.invokevirtual 229, 3) := by decide +kernel
theorem dX8_term_131 : decode cX8_term 131 = .ok (.bipush 48, 2) := by decide +kernel
theorem dX8_term_133 : decode cX8_term 133 = .ok (.isub, 1) := by decide +kernel
theorem dX8_term_134 : decode cX8_term 134 = .ok (.istore 9, 2) := by decide +kernel
theorem dX8_term_136 : decode cX8_term 136 = .ok (.aload_n 0, 1) := by decide +kernel
theorem dX8_term_137 : decode cX8_term 137 = .ok (.dup, 1) := by decide +kernel
theorem dX8_term_138 : decode cX8_term 138 = .ok (.getfield 226, 3) := by decide +kernel
theorem dX8_term_141 : decode cX8_term 141 = .ok (.iconst 1, 1) := by decide +kernel
theorem dX8_term_142 : decode cX8_term 142 = .ok (.iadd, 1) := by decide +kernel
theorem dX8_term_143 : decode cX8_term 143 = .ok (.putfield 226, 3) := by decide +kernel
theorem dX8_term_146 : decode cX8_term 146 = .ok (.iload 9, 2) := by decide +kernel
theorem dX8_term_148 : decode cX8_term 148 = .ok (.iload_n 3, 1) := by decide +kernel
theorem dX8_term_149 : decode cX8_term 149 = .ok (.if_icmp .lt 16, 3) := by decide +kernel
theorem dX8_term_152 : decode cX8_term 152 = .ok (.aload_n 0, 1) := by decide +kernel
theorem dX8_term_153 : decode cX8_term 153 = .ok (.iload 5, 2) := by decide +kernel
theorem dX8_term_155 : decode cX8_term 155 = .ok (.putfield 226, 3) := by decide +kernel
theorem dX8_term_158 : decode cX8_term 158 = .ok (.aload_n 0, 1) := by decide +kernel
theorem dX8_term_159 : decode cX8_term 159 = .ok (.iconst 1, 1) := by decide +kernel
theorem dX8_term_160 : decode cX8_term 160 = .ok (.putfield 241, 3) := by decide +kernel
theorem dX8_term_163 : decode cX8_term 163 = .ok (.iconst 0, 1) := by decide +kernel
theorem dX8_term_164 : decode cX8_term 164 = .ok (.ireturn, 1) := by decide +kernel
theorem dX8_term_165 : decode cX8_term 165 = .ok (.aload_n 0, 1) := by decide +kernel
theorem dX8_term_166 : decode cX8_term 166 = .ok (.getfield 63, 3) := by decide +kernel
theorem dX8_term_169 : decode cX8_term 169 = .ok (.iconst 5, 1) := by decide +kernel
theorem dX8_term_170 : decode cX8_term 170 = .ok (.iload_n 1, 1) := by decide +kernel
theorem dX8_term_171 : decode cX8_term 171 = .ok (.imul, 1) := by decide +kernel
theorem dX8_term_172 : decode cX8_term 172 = .ok (.iload 9, 2) := by decide +kernel
theorem dX8_term_174 : decode cX8_term 174 = .ok (.iadd, 1) := by decide +kernel
theorem dX8_term_175 : decode cX8_term 175 = .ok (.iload_n 2, 1) := by decide +kernel
theorem dX8_term_176 : decode cX8_term 176 = .ok (.iload 6, 2) := by decide +kernel
theorem dX8_term_178 : decode cX8_term 178 = .ok (.imul, 1) := by decide +kernel
theorem dX8_term_179 : decode cX8_term 179 = .ok (.iastore, 1) := by decide +kernel
theorem dX8_term_180 : decode cX8_term 180 = .ok (.iload 9, 2) := by decide +kernel
theorem dX8_term_182 : decode cX8_term 182 = .ok (.ireturn, 1) := by decide +kernel
theorem dX8_terms_0 : decode cX8_terms 0 = .ok (.iconst 0, 1) := by decide +kernel
theorem dX8_terms_1 : decode cX8_terms 1 = .ok (.istore_n 2, 1) := by decide +kernel
theorem dX8_terms_2 : decode cX8_terms 2 = .ok (.iload_n 2, 1) := by decide +kernel
theorem dX8_terms_3 : decode cX8_terms 3 = .ok (.iconst 5, 1) := by decide +kernel
theorem dX8_terms_4 : decode cX8_terms 4 = .ok (.if_icmp .ge 20, 3) := by decide +kernel
theorem dX8_terms_7 : decode cX8_terms 7 = .ok (.aload_n 0, 1) := by decide +kernel
theorem dX8_terms_8 : decode cX8_terms 8 = .ok (.getfield 63, 3) := by decide +kernel
theorem dX8_terms_11 : decode cX8_terms 11 = .ok (.iconst 5, 1) := by decide +kernel
theorem dX8_terms_12 : decode cX8_terms 12 = .ok (.iload_n 1, 1) := by decide +kernel
theorem dX8_terms_13 : decode cX8_terms 13 = .ok (.imul, 1) := by decide +kernel
theorem dX8_terms_14 : decode cX8_terms 14 = .ok (.iload_n 2, 1) := by decide +kernel
theorem dX8_terms_15 : decode cX8_terms 15 = .ok (.iadd, 1) := by decide +kernel
theorem dX8_terms_16 : decode cX8_terms 16 = .ok (.iconst 0, 1) := by decide +kernel
theorem dX8_terms_17 : decode cX8_terms 17 = .ok (.iastore, 1) := by decide +kernel
theorem dX8_terms_18 : decode cX8_terms 18 = .ok (.iinc 2 1, 3) := by decide +kernel
theorem dX8_terms_21 : decode cX8_terms 21 = .ok (.goto (-19), 3) := by decide +kernel
theorem dX8_terms_24 : decode cX8_terms 24 = .ok (.aload_n 0, 1) := by decide +kernel
theorem dX8_terms_25 : decode cX8_terms 25 = .ok (.iload_n 1, 1) := by decide +kernel
theorem dX8_terms_26 : decode cX8_terms 26 = .ok (.aload_n 0, 1) := by decide +kernel
theorem dX8_terms_27 : decode cX8_terms 27 = .ok (.aload_n 0, 1) := by decide +kernel
theorem dX8_terms_28 : decode cX8_terms 28 = .ok (.invokevirtual 229, 3) := by decide +kernel
theorem dX8_terms_31 : decode cX8_terms 31 = .ok (.bipush 45, 2) := by decide +kernel
theorem dX8_terms_33 : decode cX8_terms 33 = .ok (.if_icmp .ne 7, 3) := by decide +kernel
theorem dX8_terms_36 : decode cX8_terms 36 = .ok (.iconst 1, 1) := by decide +kernel
theorem dX8_terms_37 : decode cX8_terms 37 = .ok (.goto 4, 3) := by decide +kernel
theorem dX8_terms_40 : decode cX8_terms 40 = .ok (.iconst 0, 1) := by decide +kernel
theorem dX8_terms_41 : decode cX8_terms 41 = .ok (.invokevirtual 237, 3) := by decide +kernel
theorem dX8_terms_44 : decode cX8_terms 44 = .ok (.ifCond .eq 7, 3) := by decide +kernel
theorem dX8_terms_47 : decode cX8_terms 47 = .ok (.iconst (-1), 1) := by decide +kernel
theorem dX8_terms_48 : decode cX8_terms 48 = .ok (.goto 4, 3) := by decide +kernel
theorem dX8_terms_51 : decode cX8_terms 51 = .ok (.iconst 1, 1) := by decide +kernel
theorem dX8_terms_52 : decode cX8_terms 52 = .ok (.iconst 5, 1) := by decide +kernel
theorem dX8_terms_53 : decode cX8_terms 53 = .ok (.invokevirtual 249, 3) := by decide +kernel
theorem dX8_terms_56 : decode cX8_terms 56 = .ok (.istore_n 2, 1) := by decide +kernel
theorem dX8_terms_57 : decode cX8_terms 57 = .ok (.aload_n 0, 1) := by decide +kernel
theorem dX8_terms_58 : decode cX8_terms 58 = .ok (.getfield 241, 3) := by decide +kernel
theorem dX8_terms_61 : decode cX8_terms 61 = .ok (.ifCond .ne 57, 3) := by decide +kernel
theorem dX8_terms_64 : decode cX8_terms 64 = .ok (.aload_n 0, 1) := by decide +kernel
theorem dX8_terms_65 : decode cX8_terms 65 = .ok (.invokevirtual 229, 3) := by decide +kernel
theorem dX8_terms_68 : decode cX8_terms 68 = .ok (.bipush 43, 2) := by decide +kernel
theorem dX8_terms_70 : decode cX8_terms 70 = .ok (.if_icmp .eq 12, 3) := by decide +kernel
theorem dX8_terms_73 : decode cX8_terms 73 = .ok (.aload_n 0, 1) := by decide +kernel
theorem dX8_terms_74 : decode cX8_terms 74 = .ok (.invokevirtual 229, 3) := by decide +kernel
theorem dX8_terms_77 : decode cX8_terms 77 = .ok (.bipush 45, 2) := by decide +kernel
theorem dX8_terms_79 : decode cX8_terms 79 = .ok (.if_icmp .ne 39, 3) := by decide +kernel
theorem dX8_terms_82 : decode cX8_terms 82 = .ok (.aload_n 0, 1) := by decide +kernel
theorem dX8_terms_83 : decode cX8_terms 83 = .ok (.invokevirtual 229, 3) := by decide +kernel
theorem dX8_terms_86 : decode cX8_terms 86 = .ok (.bipush 43, 2) := by decide +kernel
theorem dX8_terms_88 : decode cX8_terms 88 = .ok (.if_icmp .ne 7, 3) := by decide +kernel
theorem dX8_terms_91 : decode cX8_terms 91 = .ok (.iconst 1, 1) := by decide +kernel
theorem dX8_terms_92 : decode cX8_terms 92 = .ok (.goto 4, 3) := by decide +kernel
theorem dX8_terms_95 : decode cX8_terms 95 = .ok (.iconst (-1), 1) := by decide +kernel
theorem dX8_terms_96 : decode cX8_terms 96 = .ok (.istore_n 3, 1) := by decide +kernel
theorem dX8_terms_97 : decode cX8_terms 97 = .ok (.aload_n 0, 1) := by decide +kernel
theorem dX8_terms_98 : decode cX8_terms 98 = .ok (.dup, 1) := by decide +kernel
theorem dX8_terms_99 : decode cX8_terms 99 = .ok (.getfield 226, 3) := by decide +kernel
theorem dX8_terms_102 : decode cX8_terms 102 = .ok (.iconst 1, 1) := by decide +kernel
theorem dX8_terms_103 : decode cX8_terms 103 = .ok (.iadd, 1) := by decide +kernel
theorem dX8_terms_104 : decode cX8_terms 104 = .ok (.putfield 226, 3) := by decide +kernel
theorem dX8_terms_107 : decode cX8_terms 107 = .ok (.aload_n 0, 1) := by decide +kernel
theorem dX8_terms_108 : decode cX8_terms 108 = .ok (.iload_n 1, 1) := by decide +kernel
theorem dX8_terms_109 : decode cX8_terms 109 = .ok (.iload_n 3, 1) := by decide +kernel
theorem dX8_terms_110 : decode cX8_terms 110 = .ok (.iload_n 2, 1) := by decide +kernel
theorem dX8_terms_111 : decode cX8_terms 111 = .ok (.invokevirtual 249, 3) := by decide +kernel
theorem dX8_terms_114 : decode cX8_terms 114 = .ok (.istore_n 2, 1) := by decide +kernel
theorem dX8_terms_115 : decode cX8_terms 115 = .ok (.goto (-58), 3) := by decide +kernel
theorem dX8_terms_118 : decode cX8_terms 118 = .ok (.return_, 1) := by decide +kernel
theorem dX8_read_0 : decode cX8_read 0 = .ok (.aload_n 0, 1) := by decide +kernel
theorem dX8_read_1 : decode cX8_read 1 = .ok (.iconst 0, 1) := by decide +kernel
theorem dX8_read_2 : decode cX8_read 2 = .ok (.putfield 226, 3) := by decide +kernel
theorem dX8_read_5 : decode cX8_read 5 = .ok (.aload_n 0, 1) := by decide +kernel
theorem dX8_read_6 : decode cX8_read 6 = .ok (.iconst 0, 1) := by decide +kernel
theorem dX8_read_7 : decode cX8_read 7 = .ok (.putfield 241, 3) := by decide +kernel
theorem dX8_read_10 : decode cX8_read 10 = .ok (.aload_n 0, 1) := by decide +kernel
theorem dX8_read_11 : decode cX8_read 11 = .ok (.getfield 7, 3) := by decide +kernel
theorem dX8_read_14 : decode cX8_read 14 = .ok (.iconst 0, 1) := by decide +kernel
theorem dX8_read_15 : decode cX8_read 15 = .ok (.aload_n 0, 1) := by decide +kernel
theorem dX8_read_16 : decode cX8_read 16 = .ok (.getfield 63, 3) := by decide +kernel
theorem dX8_read_19 : decode cX8_read 19 = .ok (.iconst 0, 1) := by decide +kernel
theorem dX8_read_20 : decode cX8_read 20 = .ok (.bipush 10, 2) := by decide +kernel
theorem dX8_read_22 : decode cX8_read 22 = .ok (.invokestatic 69, 3) := by decide +kernel
theorem dX8_read_25 : decode cX8_read 25 = .ok (.aload_n 0, 1) := by decide +kernel
theorem dX8_read_26 : decode cX8_read 26 = .ok (.iconst 0, 1) := by decide +kernel
theorem dX8_read_27 : decode cX8_read 27 = .ok (.invokevirtual 252, 3) := by decide +kernel
theorem dX8_read_30 : decode cX8_read 30 = .ok (.aload_n 0, 1) := by decide +kernel
theorem dX8_read_31 : decode cX8_read 31 = .ok (.getfield 241, 3) := by decide +kernel
theorem dX8_read_34 : decode cX8_read 34 = .ok (.ifCond .ne 29, 3) := by decide +kernel
theorem dX8_read_37 : decode cX8_read 37 = .ok (.aload_n 0, 1) := by decide +kernel
theorem dX8_read_38 : decode cX8_read 38 = .ok (.aload_n 0, 1) := by decide +kernel
theorem dX8_read_39 : decode cX8_read 39 = .ok (.invokevirtual 229, 3) := by decide +kernel
theorem dX8_read_42 : decode cX8_read 42 = .ok (.bipush 59, 2) := by decide +kernel
theorem dX8_read_44 : decode cX8_read 44 = .ok (.if_icmp .ne 7, 3) := by decide +kernel
theorem dX8_read_47 : decode cX8_read 47 = .ok (.iconst 1, 1) := by decide +kernel
theorem dX8_read_48 : decode cX8_read 48 = .ok (.goto 4, 3) := by decide +kernel
theorem dX8_read_51 : decode cX8_read 51 = .ok (.iconst 0, 1) := by decide +kernel
theorem dX8_read_52 : decode cX8_read 52 = .ok (.invokevirtual 237, 3) := by decide +kernel
theorem dX8_read_55 : decode cX8_read 55 = .ok (.ifCond .eq 8, 3) := by decide +kernel
theorem dX8_read_58 : decode cX8_read 58 = .ok (.aload_n 0, 1) := by decide +kernel
theorem dX8_read_59 : decode cX8_read 59 = .ok (.iconst 1, 1) := by decide +kernel
theorem dX8_read_60 : decode cX8_read 60 = .ok (.invokevirtual 252, 3) := by decide +kernel
theorem dX8_read_63 : decode cX8_read 63 = .ok (.aload_n 0, 1) := by decide +kernel
theorem dX8_read_64 : decode cX8_read 64 = .ok (.aload_n 0, 1) := by decide +kernel
theorem dX8_read_65 : decode cX8_read 65 = .ok (.getfield 241, 3) := by decide +kernel
theorem dX8_read_68 : decode cX8_read 68 = .ok (.ifCond .ne 10, 3) := by decide +kernel
theorem dX8_read_71 : decode cX8_read 71 = .ok (.aload_n 0, 1) := by decide +kernel
theorem dX8_read_72 : decode cX8_read 72 = .ok (.invokevirtual 229, 3) := by decide +kernel
theorem dX8_read_75 : decode cX8_read 75 = .ok (.ifCond .eq 7, 3) := by decide +kernel
theorem dX8_read_78 : decode cX8_read 78 = .ok (.iconst 1, 1) := by decide +kernel
theorem dX8_read_79 : decode cX8_read 79 = .ok (.goto 4, 3) := by decide +kernel
theorem dX8_read_82 : decode cX8_read 82 = .ok (.iconst 0, 1) := by decide +kernel
theorem dX8_read_83 : decode cX8_read 83 = .ok (.putfield 241, 3) := by decide +kernel
theorem dX8_read_86 : decode cX8_read 86 = .ok (.aload_n 0, 1) := by decide +kernel
theorem dX8_read_87 : decode cX8_read 87 = .ok (.invokevirtual 229, 3) := by decide +kernel
theorem dX8_read_90 : decode cX8_read 90 = .ok (.pop, 1) := by decide +kernel
theorem dX8_read_91 : decode cX8_read 91 = .ok (.aload_n 0, 1) := by decide +kernel
theorem dX8_read_92 : decode cX8_read 92 = .ok (.getfield 226, 3) := by decide +kernel
theorem dX8_read_95 : decode cX8_read 95 = .ok (.istore_n 1, 1) := by decide +kernel
theorem dX8_read_96 : decode cX8_read 96 = .ok (.aload_n 0, 1) := by decide +kernel
theorem dX8_read_97 : decode cX8_read 97 = .ok (.iconst 0, 1) := by decide +kernel
theorem dX8_read_98 : decode cX8_read 98 = .ok (.putfield 223, 3) := by decide +kernel
theorem dX8_read_101 : decode cX8_read 101 = .ok (.aload_n 0, 1) := by decide +kernel
theorem dX8_read_102 : decode cX8_read 102 = .ok (.getfield 241, 3) := by decide +kernel
theorem dX8_read_105 : decode cX8_read 105 = .ok (.ifCond .eq 8, 3) := by decide +kernel
theorem dX8_read_108 : decode cX8_read 108 = .ok (.bipush (-20), 2) := by decide +kernel
theorem dX8_read_110 : decode cX8_read 110 = .ok (.iload_n 1, 1) := by decide +kernel
theorem dX8_read_111 : decode cX8_read 111 = .ok (.isub, 1) := by decide +kernel
theorem dX8_read_112 : decode cX8_read 112 = .ok (.ireturn, 1) := by decide +kernel
theorem dX8_read_113 : decode cX8_read 113 = .ok (.aload_n 0, 1) := by decide +kernel
theorem dX8_read_114 : decode cX8_read 114 = .ok (.invokevirtual 153, 3) := by decide +kernel
theorem dX8_read_117 : decode cX8_read 117 = .ok (.aload_n 0, 1) := by decide +kernel
theorem dX8_read_118 : decode cX8_read 118 = .ok (.getfield 63, 3) := by decide +kernel
theorem dX8_read_121 : decode cX8_read 121 = .ok (.iconst 0, 1) := by decide +kernel
theorem dX8_read_122 : decode cX8_read 122 = .ok (.aload_n 0, 1) := by decide +kernel
theorem dX8_read_123 : decode cX8_read 123 = .ok (.getfield 7, 3) := by decide +kernel
theorem dX8_read_126 : decode cX8_read 126 = .ok (.iconst 0, 1) := by decide +kernel
theorem dX8_read_127 : decode cX8_read 127 = .ok (.bipush 10, 2) := by decide +kernel
theorem dX8_read_129 : decode cX8_read 129 = .ok (.invokestatic 69, 3) := by decide +kernel
theorem dX8_read_132 : decode cX8_read 132 = .ok (.aload_n 0, 1) := by decide +kernel
theorem dX8_read_133 : decode cX8_read 133 = .ok (.iconst 0, 1) := by decide +kernel
theorem dX8_read_134 : decode cX8_read 134 = .ok (.invokevirtual 164, 3) := by decide +kernel
theorem dX8_read_137 : decode cX8_read 137 = .ok (.ireturn, 1) := by decide +kernel
theorem dX8_drift_0 : decode cX8_drift 0 = .ok (.iload_n 1, 1) := by decide +kernel
theorem dX8_drift_1 : decode cX8_drift 1 = .ok (.i2l, 1) := by decide +kernel
theorem dX8_drift_2 : decode cX8_drift 2 = .ok (.lconst 1, 1) := by decide +kernel
theorem dX8_drift_3 : decode cX8_drift 3 = .ok (.ldc2_w 255, 3) := by decide +kernel
theorem dX8_drift_6 : decode cX8_drift 6 = .ok (.invokestatic 141, 3) := by decide +kernel
theorem dX8_drift_9 : decode cX8_drift 9 = .ok (.ifCond .ne 5, 3) := by decide +kernel
theorem dX8_drift_12 : decode cX8_drift 12 = .ok (.iconst (-1), 1) := by decide +kernel
theorem dX8_drift_13 : decode cX8_drift 13 = .ok (.ireturn, 1) := by decide +kernel
theorem dX8_drift_14 : decode cX8_drift 14 = .ok (.iconst 0, 1) := by decide +kernel
theorem dX8_drift_15 : decode cX8_drift 15 = .ok (.istore_n 2, 1) := by decide +kernel
theorem dX8_drift_16 : decode cX8_drift 16 = .ok (.iload_n 2, 1) := by decide +kernel
theorem dX8_drift_17 : decode cX8_drift 17 = .ok (.iload_n 1, 1) := by decide +kernel
theorem dX8_drift_18 : decode cX8_drift 18 = .ok (.if_icmp .ge 85, 3) := by decide +kernel
theorem dX8_drift_21 : decode cX8_drift 21 = .ok (.aload_n 0, 1) := by decide +kernel
theorem dX8_drift_22 : decode cX8_drift 22 = .ok (.invokevirtual 153, 3) := by decide +kernel
theorem dX8_drift_25 : decode cX8_drift 25 = .ok (.aload_n 0, 1) := by decide +kernel
theorem dX8_drift_26 : decode cX8_drift 26 = .ok (.getfield 7, 3) := by decide +kernel
theorem dX8_drift_29 : decode cX8_drift 29 = .ok (.bipush 11, 2) := by decide +kernel
theorem dX8_drift_31 : decode cX8_drift 31 = .ok (.iaload, 1) := by decide +kernel
theorem dX8_drift_32 : decode cX8_drift 32 = .ok (.i2l, 1) := by decide +kernel
theorem dX8_drift_33 : decode cX8_drift 33 = .ok (.ldc2_w 257, 3) := by decide +kernel
theorem dX8_drift_36 : decode cX8_drift 36 = .ok (.lmul, 1) := by decide +kernel
theorem dX8_drift_37 : decode cX8_drift 37 = .ok (.ldc2_w 259, 3) := by decide +kernel
theorem dX8_drift_40 : decode cX8_drift 40 = .ok (.ladd, 1) := by decide +kernel
theorem dX8_drift_41 : decode cX8_drift 41 = .ok (.lstore_n 3, 1) := by decide +kernel
theorem dX8_drift_42 : decode cX8_drift 42 = .ok (.aload_n 0, 1) := by decide +kernel
theorem dX8_drift_43 : decode cX8_drift 43 = .ok (.getfield 7, 3) := by decide +kernel
theorem dX8_drift_46 : decode cX8_drift 46 = .ok (.bipush 11, 2) := by decide +kernel
theorem dX8_drift_48 : decode cX8_drift 48 = .ok (.lload_n 3, 1) := by decide +kernel
theorem dX8_drift_49 : decode cX8_drift 49 = .ok (.ldc2_w 261, 3) := by decide +kernel
theorem dX8_drift_52 : decode cX8_drift 52 = .ok (.lrem, 1) := by decide +kernel
theorem dX8_drift_53 : decode cX8_drift 53 = .ok (.l2i, 1) := by decide +kernel
theorem dX8_drift_54 : decode cX8_drift 54 = .ok (.iastore, 1) := by decide +kernel
theorem dX8_drift_55 : decode cX8_drift 55 = .ok (.aload_n 0, 1) := by decide +kernel
theorem dX8_drift_56 : decode cX8_drift 56 = .ok (.getfield 7, 3) := by decide +kernel
theorem dX8_drift_59 : decode cX8_drift 59 = .ok (.bipush 11, 2) := by decide +kernel
theorem dX8_drift_61 : decode cX8_drift 61 = .ok (.iaload, 1) := by decide +kernel
theorem dX8_drift_62 : decode cX8_drift 62 = .ok (.ldc_w 263, 3) := by decide +kernel
theorem dX8_drift_65 : decode cX8_drift 65 = .ok (.idiv, 1) := by decide +kernel
theorem dX8_drift_66 : decode cX8_drift 66 = .ok (.istore 5, 2) := by decide +kernel
theorem dX8_drift_68 : decode cX8_drift 68 = .ok (.aload_n 0, 1) := by decide +kernel
theorem dX8_drift_69 : decode cX8_drift 69 = .ok (.getfield 7, 3) := by decide +kernel
theorem dX8_drift_72 : decode cX8_drift 72 = .ok (.iconst 5, 1) := by decide +kernel
theorem dX8_drift_73 : decode cX8_drift 73 = .ok (.iload 5, 2) := by decide +kernel
theorem dX8_drift_75 : decode cX8_drift 75 = .ok (.iconst 2, 1) := by decide +kernel
theorem dX8_drift_76 : decode cX8_drift 76 = .ok (.irem, 1) := by decide +kernel
theorem dX8_drift_77 : decode cX8_drift 77 = .ok (.imul, 1) := by decide +kernel
theorem dX8_drift_78 : decode cX8_drift 78 = .ok (.iload 5, 2) := by decide +kernel
theorem dX8_drift_80 : decode cX8_drift 80 = .ok (.iconst 2, 1) := by decide +kernel
theorem dX8_drift_81 : decode cX8_drift 81 = .ok (.idiv, 1) := by decide +kernel
theorem dX8_drift_82 : decode cX8_drift 82 = .ok (.iconst 5, 1) := by decide +kernel
theorem dX8_drift_83 : decode cX8_drift 83 = .ok (.irem, 1) := by decide +kernel
theorem dX8_drift_84 : decode cX8_drift 84 = .ok (.iadd, 1) := by decide +kernel
theorem dX8_drift_85 : decode cX8_drift 85 = .ok (.iload 5, 2) := by decide +kernel
theorem dX8_drift_87 : decode cX8_drift 87 = .ok (.bipush 16, 2) := by decide +kernel
theorem dX8_drift_89 : decode cX8_drift 89 = .ok (.idiv, 1) := by decide +kernel
theorem dX8_drift_90 : decode cX8_drift 90 = .ok (.bipush 19, 2) := by decide +kernel
theorem dX8_drift_92 : decode cX8_drift 92 = .ok (.irem, 1) := by decide +kernel
theorem dX8_drift_93 : decode cX8_drift 93 = .ok (.bipush 9, 2) := by decide +kernel
theorem dX8_drift_95 : decode cX8_drift 95 = .ok (.isub, 1) := by decide +kernel
theorem dX8_drift_96 : decode cX8_drift 96 = .ok (.iastore, 1) := by decide +kernel
theorem dX8_drift_97 : decode cX8_drift 97 = .ok (.iinc 2 1, 3) := by decide +kernel
theorem dX8_drift_100 : decode cX8_drift 100 = .ok (.goto (-84), 3) := by decide +kernel
theorem dX8_drift_103 : decode cX8_drift 103 = .ok (.aload_n 0, 1) := by decide +kernel
theorem dX8_drift_104 : decode cX8_drift 104 = .ok (.iconst 0, 1) := by decide +kernel
theorem dX8_drift_105 : decode cX8_drift 105 = .ok (.invokevirtual 164, 3) := by decide +kernel
theorem dX8_drift_108 : decode cX8_drift 108 = .ok (.ireturn, 1) := by decide +kernel
theorem dX8_undo_0 : decode cX8_undo 0 = .ok (.aload_n 0, 1) := by decide +kernel
theorem dX8_undo_1 : decode cX8_undo 1 = .ok (.getfield 66, 3) := by decide +kernel
theorem dX8_undo_4 : decode cX8_undo 4 = .ok (.ifCond .ne 6, 3) := by decide +kernel
theorem dX8_undo_7 : decode cX8_undo 7 = .ok (.bipush (-4), 2) := by decide +kernel
theorem dX8_undo_9 : decode cX8_undo 9 = .ok (.ireturn, 1) := by decide +kernel
theorem dX8_undo_10 : decode cX8_undo 10 = .ok (.aload_n 0, 1) := by decide +kernel
theorem dX8_undo_11 : decode cX8_undo 11 = .ok (.dup, 1) := by decide +kernel
theorem dX8_undo_12 : decode cX8_undo 12 = .ok (.getfield 66, 3) := by decide +kernel
theorem dX8_undo_15 : decode cX8_undo 15 = .ok (.iconst 1, 1) := by decide +kernel
theorem dX8_undo_16 : decode cX8_undo 16 = .ok (.isub, 1) := by decide +kernel
theorem dX8_undo_17 : decode cX8_undo 17 = .ok (.putfield 66, 3) := by decide +kernel
theorem dX8_undo_20 : decode cX8_undo 20 = .ok (.aload_n 0, 1) := by decide +kernel
theorem dX8_undo_21 : decode cX8_undo 21 = .ok (.getfield 13, 3) := by decide +kernel
theorem dX8_undo_24 : decode cX8_undo 24 = .ok (.bipush 12, 2) := by decide +kernel
theorem dX8_undo_26 : decode cX8_undo 26 = .ok (.aload_n 0, 1) := by decide +kernel
theorem dX8_undo_27 : decode cX8_undo 27 = .ok (.getfield 66, 3) := by decide +kernel
theorem dX8_undo_30 : decode cX8_undo 30 = .ok (.imul, 1) := by decide +kernel
theorem dX8_undo_31 : decode cX8_undo 31 = .ok (.aload_n 0, 1) := by decide +kernel
theorem dX8_undo_32 : decode cX8_undo 32 = .ok (.getfield 7, 3) := by decide +kernel
theorem dX8_undo_35 : decode cX8_undo 35 = .ok (.iconst 0, 1) := by decide +kernel
theorem dX8_undo_36 : decode cX8_undo 36 = .ok (.bipush 12, 2) := by decide +kernel
theorem dX8_undo_38 : decode cX8_undo 38 = .ok (.invokestatic 69, 3) := by decide +kernel
theorem dX8_undo_41 : decode cX8_undo 41 = .ok (.aload_n 0, 1) := by decide +kernel
theorem dX8_undo_42 : decode cX8_undo 42 = .ok (.getfield 66, 3) := by decide +kernel
theorem dX8_undo_45 : decode cX8_undo 45 = .ok (.ireturn, 1) := by decide +kernel
theorem dX8_seed_0 : decode cX8_seed 0 = .ok (.iload_n 1, 1) := by decide +kernel
theorem dX8_seed_1 : decode cX8_seed 1 = .ok (.ifCond .ge 5, 3) := by decide +kernel
theorem dX8_seed_4 : decode cX8_seed 4 = .ok (.iconst (-1), 1) := by decide +kernel
theorem dX8_seed_5 : decode cX8_seed 5 = .ok (.ireturn, 1) := by decide +kernel
theorem dX8_seed_6 : decode cX8_seed 6 = .ok (.aload_n 0, 1) := by decide +kernel
theorem dX8_seed_7 : decode cX8_seed 7 = .ok (.getfield 7, 3) := by decide +kernel
theorem dX8_seed_10 : decode cX8_seed 10 = .ok (.bipush 11, 2) := by decide +kernel
theorem dX8_seed_12 : decode cX8_seed 12 = .ok (.iaload, 1) := by decide +kernel
theorem dX8_seed_13 : decode cX8_seed 13 = .ok (.istore_n 2, 1) := by decide +kernel
theorem dX8_seed_14 : decode cX8_seed 14 = .ok (.aload_n 0, 1) := by decide +kernel
theorem dX8_seed_15 : decode cX8_seed 15 = .ok (.getfield 7, 3) := by decide +kernel
theorem dX8_seed_18 : decode cX8_seed 18 = .ok (.bipush 11, 2) := by decide +kernel
theorem dX8_seed_20 : decode cX8_seed 20 = .ok (.iload_n 1, 1) := by decide +kernel
theorem dX8_seed_21 : decode cX8_seed 21 = .ok (.iastore, 1) := by decide +kernel
theorem dX8_seed_22 : decode cX8_seed 22 = .ok (.iload_n 2, 1) := by decide +kernel
theorem dX8_seed_23 : decode cX8_seed 23 = .ok (.ireturn, 1) := by decide +kernel
theorem dX8_image_0 : decode cX8_image 0 = .ok (.aload_n 0, 1) := by decide +kernel
theorem dX8_image_1 : decode cX8_image 1 = .ok (.getfield 7, 3) := by decide +kernel
theorem dX8_image_4 : decode cX8_image 4 = .ok (.iconst 0, 1) := by decide +kernel
theorem dX8_image_5 : decode cX8_image 5 = .ok (.aload_n 0, 1) := by decide +kernel
theorem dX8_image_6 : decode cX8_image 6 = .ok (.getfield 16, 3) := by decide +kernel
theorem dX8_image_9 : decode cX8_image 9 = .ok (.iconst 0, 1) := by decide +kernel
theorem dX8_image_10 : decode cX8_image 10 = .ok (.bipush 12, 2) := by decide +kernel
theorem dX8_image_12 : decode cX8_image 12 = .ok (.invokestatic 69, 3) := by decide +kernel
theorem dX8_image_15 : decode cX8_image 15 = .ok (.aload_n 0, 1) := by decide +kernel
theorem dX8_image_16 : decode cX8_image 16 = .ok (.getfield 13, 3) := by decide +kernel
theorem dX8_image_19 : decode cX8_image 19 = .ok (.iconst 0, 1) := by decide +kernel
theorem dX8_image_20 : decode cX8_image 20 = .ok (.aload_n 0, 1) := by decide +kernel
theorem dX8_image_21 : decode cX8_image 21 = .ok (.getfield 19, 3) := by decide +kernel
theorem dX8_image_24 : decode cX8_image 24 = .ok (.iconst 0, 1) := by decide +kernel
theorem dX8_image_25 : decode cX8_image 25 = .ok (.bipush 72, 2) := by decide +kernel
theorem dX8_image_27 : decode cX8_image 27 = .ok (.invokestatic 69, 3) := by decide +kernel
theorem dX8_image_30 : decode cX8_image 30 = .ok (.aload_n 0, 1) := by decide +kernel
theorem dX8_image_31 : decode cX8_image 31 = .ok (.aload_n 0, 1) := by decide +kernel
theorem dX8_image_32 : decode cX8_image 32 = .ok (.getfield 66, 3) := by decide +kernel
theorem dX8_image_35 : decode cX8_image 35 = .ok (.putfield 22, 3) := by decide +kernel
theorem dX8_image_38 : decode cX8_image 38 = .ok (.iconst 1, 1) := by decide +kernel
theorem dX8_image_39 : decode cX8_image 39 = .ok (.ireturn, 1) := by decide +kernel
theorem dX8_restore_0 : decode cX8_restore 0 = .ok (.aload_n 0, 1) := by decide +kernel
theorem dX8_restore_1 : decode cX8_restore 1 = .ok (.getfield 22, 3) := by decide +kernel
theorem dX8_restore_4 : decode cX8_restore 4 = .ok (.ifCond .ge 6, 3) := by decide +kernel
theorem dX8_restore_7 : decode cX8_restore 7 = .ok (.bipush (-4), 2) := by decide +kernel
theorem dX8_restore_9 : decode cX8_restore 9 = .ok (.ireturn, 1) := by decide +kernel
theorem dX8_restore_10 : decode cX8_restore 10 = .ok (.aload_n 0, 1) := by decide +kernel
theorem dX8_restore_11 : decode cX8_restore 11 = .ok (.getfield 16, 3) := by decide +kernel
theorem dX8_restore_14 : decode cX8_restore 14 = .ok (.iconst 0, 1) := by decide +kernel
theorem dX8_restore_15 : decode cX8_restore 15 = .ok (.aload_n 0, 1) := by decide +kernel
theorem dX8_restore_16 : decode cX8_restore 16 = .ok (.getfield 7, 3) := by decide +kernel
theorem dX8_restore_19 : decode cX8_restore 19 = .ok (.iconst 0, 1) := by decide +kernel
theorem dX8_restore_20 : decode cX8_restore 20 = .ok (.bipush 12, 2) := by decide +kernel
theorem dX8_restore_22 : decode cX8_restore 22 = .ok (.invokestatic 69, 3) := by decide +kernel
theorem dX8_restore_25 : decode cX8_restore 25 = .ok (.aload_n 0, 1) := by decide +kernel
theorem dX8_restore_26 : decode cX8_restore 26 = .ok (.getfield 19, 3) := by decide +kernel
theorem dX8_restore_29 : decode cX8_restore 29 = .ok (.iconst 0, 1) := by decide +kernel
theorem dX8_restore_30 : decode cX8_restore 30 = .ok (.aload_n 0, 1) := by decide +kernel
theorem dX8_restore_31 : decode cX8_restore 31 = .ok (.getfield 13, 3) := by decide +kernel
theorem dX8_restore_34 : decode cX8_restore 34 = .ok (.iconst 0, 1) := by decide +kernel
theorem dX8_restore_35 : decode cX8_restore 35 = .ok (.bipush 72, 2) := by decide +kernel
theorem dX8_restore_37 : decode cX8_restore 37 = .ok (.invokestatic 69, 3) := by decide +kernel
theorem dX8_restore_40 : decode cX8_restore 40 = .ok (.aload_n 0, 1) := by decide +kernel
theorem dX8_restore_41 : decode cX8_restore 41 = .ok (.aload_n 0, 1) := by decide +kernel
theorem dX8_restore_42 : decode cX8_restore 42 = .ok (.getfield 22, 3) := by decide +kernel
theorem dX8_restore_45 : decode cX8_restore 45 = .ok (.putfield 66, 3) := by decide +kernel
theorem dX8_restore_48 : decode cX8_restore 48 = .ok (.iconst 1, 1) := by decide +kernel
theorem dX8_restore_49 : decode cX8_restore 49 = .ok (.ireturn, 1) := by decide +kernel
theorem dX8_isSheet_0 : decode cX8_isSheet 0 = .ok (.iload_n 0, 1) := by decide +kernel
theorem dX8_isSheet_1 : decode cX8_isSheet 1 = .ok (.i2l, 1) := by decide +kernel
theorem dX8_isSheet_2 : decode cX8_isSheet 2 = .ok (.lconst 0, 1) := by decide +kernel
theorem dX8_isSheet_3 : decode cX8_isSheet 3 = .ok (.ldc2_w 174, 3) := by decide +kernel
theorem dX8_isSheet_6 : decode cX8_isSheet 6 = .ok (.invokestatic 141, 3) := by decide +kernel
theorem dX8_isSheet_9 : decode cX8_isSheet 9 = .ok (.ifCond .eq 19, 3) := by decide +kernel
theorem dX8_isSheet_12 : decode cX8_isSheet 12 = .ok (.iload_n 1, 1) := by decide +kernel
theorem dX8_isSheet_13 : decode cX8_isSheet 13 = .ok (.i2l, 1) := by decide +kernel
theorem dX8_isSheet_14 : decode cX8_isSheet 14 = .ok (.lconst 0, 1) := by decide +kernel
theorem dX8_isSheet_15 : decode cX8_isSheet 15 = .ok (.ldc2_w 174, 3) := by decide +kernel
theorem dX8_isSheet_18 : decode cX8_isSheet 18 = .ok (.invokestatic 141, 3) := by decide +kernel
theorem dX8_isSheet_21 : decode cX8_isSheet 21 = .ok (.ifCond .eq 7, 3) := by decide +kernel
theorem dX8_isSheet_24 : decode cX8_isSheet 24 = .ok (.iconst 1, 1) := by decide +kernel
theorem dX8_isSheet_25 : decode cX8_isSheet 25 = .ok (.goto 4, 3) := by decide +kernel
theorem dX8_isSheet_28 : decode cX8_isSheet 28 = .ok (.iconst 0, 1) := by decide +kernel
theorem dX8_isSheet_29 : decode cX8_isSheet 29 = .ok (.ireturn, 1) := by decide +kernel
theorem dX8_found_0 : decode cX8_found 0 = .ok (.aload_n 0, 1) := by decide +kernel
theorem dX8_found_1 : decode cX8_found 1 = .ok (.getfield 29, 3) := by decide +kernel
theorem dX8_found_4 : decode cX8_found 4 = .ok (.iload_n 1, 1) := by decide +kernel
theorem dX8_found_5 : decode cX8_found 5 = .ok (.iaload, 1) := by decide +kernel
theorem dX8_found_6 : decode cX8_found 6 = .ok (.ifCond .ge 6, 3) := by decide +kernel
theorem dX8_found_9 : decode cX8_found 9 = .ok (.bipush (-11), 2) := by decide +kernel
theorem dX8_found_11 : decode cX8_found 11 = .ok (.ireturn, 1) := by decide +kernel
theorem dX8_found_12 : decode cX8_found 12 = .ok (.aload_n 0, 1) := by decide +kernel
theorem dX8_found_13 : decode cX8_found 13 = .ok (.getfield 29, 3) := by decide +kernel
theorem dX8_found_16 : decode cX8_found 16 = .ok (.iload_n 1, 1) := by decide +kernel
theorem dX8_found_17 : decode cX8_found 17 = .ok (.iaload, 1) := by decide +kernel
theorem dX8_found_18 : decode cX8_found 18 = .ok (.iload_n 2, 1) := by decide +kernel
theorem dX8_found_19 : decode cX8_found 19 = .ok (.if_icmp .eq 6, 3) := by decide +kernel
theorem dX8_found_22 : decode cX8_found 22 = .ok (.bipush (-12), 2) := by decide +kernel
theorem dX8_found_24 : decode cX8_found 24 = .ok (.ireturn, 1) := by decide +kernel
theorem dX8_found_25 : decode cX8_found 25 = .ok (.iload_n 3, 1) := by decide +kernel
theorem dX8_found_26 : decode cX8_found 26 = .ok (.ifCond .lt 16, 3) := by decide +kernel
theorem dX8_found_29 : decode cX8_found 29 = .ok (.iload_n 3, 1) := by decide +kernel
theorem dX8_found_30 : decode cX8_found 30 = .ok (.aload_n 0, 1) := by decide +kernel
theorem dX8_found_31 : decode cX8_found 31 = .ok (.getfield 32, 3) := by decide +kernel
theorem dX8_found_34 : decode cX8_found 34 = .ok (.iload_n 1, 1) := by decide +kernel
theorem dX8_found_35 : decode cX8_found 35 = .ok (.iaload, 1) := by decide +kernel
theorem dX8_found_36 : decode cX8_found 36 = .ok (.iload 4, 2) := by decide +kernel
theorem dX8_found_38 : decode cX8_found 38 = .ok (.isub, 1) := by decide +kernel
theorem dX8_found_39 : decode cX8_found 39 = .ok (.if_icmp .le 8, 3) := by decide +kernel
theorem dX8_found_42 : decode cX8_found 42 = .ok (.bipush (-13), 2) := by decide +kernel
theorem dX8_found_44 : decode cX8_found 44 = .ok (.goto 4, 3) := by decide +kernel
theorem dX8_found_47 : decode cX8_found 47 = .ok (.iconst 0, 1) := by decide +kernel
theorem dX8_found_48 : decode cX8_found 48 = .ok (.ireturn, 1) := by decide +kernel
theorem dX8_judged_0 : decode cX8_judged 0 = .ok (.iload_n 1, 1) := by decide +kernel
theorem dX8_judged_1 : decode cX8_judged 1 = .ok (.iload_n 2, 1) := by decide +kernel
theorem dX8_judged_2 : decode cX8_judged 2 = .ok (.invokestatic 264, 3) := by decide +kernel
theorem dX8_judged_5 : decode cX8_judged 5 = .ok (.ifCond .eq 16, 3) := by decide +kernel
theorem dX8_judged_8 : decode cX8_judged 8 = .ok (.iload 4, 2) := by decide +kernel
theorem dX8_judged_10 : decode cX8_judged 10 = .ok (.i2l, 1) := by decide +kernel
theorem dX8_judged_11 : decode cX8_judged 11 = .ok (.lconst 1, 1) := by decide +kernel
theorem dX8_judged_12 : decode cX8_judged 12 = .ok (.ldc2_w 96, 3) := by decide +kernel
theorem dX8_judged_15 : decode cX8_judged 15 = .ok (.invokestatic 141, 3) := by decide +kernel
theorem dX8_judged_18 : decode cX8_judged 18 = .ok (.ifCond .ne 5, 3) := by decide +kernel
theorem dX8_judged_21 : decode cX8_judged 21 = .ok (.iconst (-1), 1) := by decide +kernel
theorem dX8_judged_22 : decode cX8_judged 22 = .ok (.ireturn, 1) := by decide +kernel
theorem dX8_judged_23 : decode cX8_judged 23 = .ok (.aload_n 0, 1) := by decide +kernel
theorem dX8_judged_24 : decode cX8_judged 24 = .ok (.iload_n 1, 1) := by decide +kernel
theorem dX8_judged_25 : decode cX8_judged 25 = .ok (.iload_n 2, 1) := by decide +kernel
theorem dX8_judged_26 : decode cX8_judged 26 = .ok (.iload_n 3, 1) := by decide +kernel
theorem dX8_judged_27 : decode cX8_judged 27 = .ok (.iconst 5, 1) := by decide +kernel
theorem dX8_judged_28 : decode cX8_judged 28 = .ok (.iload 4, 2) := by decide +kernel
theorem dX8_judged_30 : decode cX8_judged 30 = .ok (.imul, 1) := by decide +kernel
theorem dX8_judged_31 : decode cX8_judged 31 = .ok (.invokevirtual 267, 3) := by decide +kernel
theorem dX8_judged_34 : decode cX8_judged 34 = .ok (.istore 5, 2) := by decide +kernel
theorem dX8_judged_36 : decode cX8_judged 36 = .ok (.iload 5, 2) := by decide +kernel
theorem dX8_judged_38 : decode cX8_judged 38 = .ok (.ifCond .eq 6, 3) := by decide +kernel
theorem dX8_judged_41 : decode cX8_judged 41 = .ok (.iload 5, 2) := by decide +kernel
theorem dX8_judged_43 : decode cX8_judged 43 = .ok (.ireturn, 1) := by decide +kernel
theorem dX8_judged_44 : decode cX8_judged 44 = .ok (.bipush 24, 2) := by decide +kernel
theorem dX8_judged_46 : decode cX8_judged 46 = .ok (.iload_n 1, 1) := by decide +kernel
theorem dX8_judged_47 : decode cX8_judged 47 = .ok (.imul, 1) := by decide +kernel
theorem dX8_judged_48 : decode cX8_judged 48 = .ok (.iload_n 3, 1) := by decide +kernel
theorem dX8_judged_49 : decode cX8_judged 49 = .ok (.iadd, 1) := by decide +kernel
theorem dX8_judged_50 : decode cX8_judged 50 = .ok (.istore 6, 2) := by decide +kernel
theorem dX8_judged_52 : decode cX8_judged 52 = .ok (.iconst 0, 1) := by decide +kernel
theorem dX8_judged_53 : decode cX8_judged 53 = .ok (.istore 7, 2) := by decide +kernel
theorem dX8_judged_55 : decode cX8_judged 55 = .ok (.iload 7, 2) := by decide +kernel
theorem dX8_judged_57 : decode cX8_judged 57 = .ok (.iconst 5, 1) := by decide +kernel
theorem dX8_judged_58 : decode cX8_judged 58 = .ok (.iload 4, 2) := by decide +kernel
theorem dX8_judged_60 : decode cX8_judged 60 = .ok (.imul, 1) := by decide +kernel
theorem dX8_judged_61 : decode cX8_judged 61 = .ok (.if_icmp .ge 34, 3) := by decide +kernel
theorem dX8_judged_64 : decode cX8_judged 64 = .ok (.aload_n 0, 1) := by decide +kernel
theorem dX8_judged_65 : decode cX8_judged 65 = .ok (.getfield 35, 3) := by decide +kernel
theorem dX8_judged_68 : decode cX8_judged 68 = .ok (.iload 6, 2) := by decide +kernel
theorem dX8_judged_70 : decode cX8_judged 70 = .ok (.iload 7, 2) := by decide +kernel
theorem dX8_judged_72 : decode cX8_judged 72 = .ok (.iadd, 1) := by decide +kernel
theorem dX8_judged_73 : decode cX8_judged 73 = .ok (.laload, 1) := by decide +kernel
theorem dX8_judged_74 : decode cX8_judged 74 = .ok (.ldc2_w 149, 3) := by decide +kernel
theorem dX8_judged_77 : decode cX8_judged 77 = .ok (.ldc2_w 151, 3) := by decide +kernel
theorem dX8_judged_80 : decode cX8_judged 80 = .ok (.invokestatic 141, 3) := by decide +kernel
theorem dX8_judged_83 : decode cX8_judged 83 = .ok (.ifCond .ne 6, 3) := by decide +kernel
theorem dX8_judged_86 : decode cX8_judged 86 = .ok (.bipush (-2), 2) := by decide +kernel
theorem dX8_judged_88 : decode cX8_judged 88 = .ok (.ireturn, 1) := by decide +kernel
theorem dX8_judged_89 : decode cX8_judged 89 = .ok (.iinc 7 1, 3) := by decide +kernel
theorem dX8_judged_92 : decode cX8_judged 92 = .ok (.goto (-37), 3) := by decide +kernel
theorem dX8_judged_95 : decode cX8_judged 95 = .ok (.iconst 0, 1) := by decide +kernel
theorem dX8_judged_96 : decode cX8_judged 96 = .ok (.istore 7, 2) := by decide +kernel
theorem dX8_judged_98 : decode cX8_judged 98 = .ok (.iconst 0, 1) := by decide +kernel
theorem dX8_judged_99 : decode cX8_judged 99 = .ok (.istore 8, 2) := by decide +kernel
theorem dX8_judged_101 : decode cX8_judged 101 = .ok (.iload 8, 2) := by decide +kernel
theorem dX8_judged_103 : decode cX8_judged 103 = .ok (.iload 4, 2) := by decide +kernel
theorem dX8_judged_105 : decode cX8_judged 105 = .ok (.if_icmp .ge 89, 3) := by decide +kernel
theorem dX8_judged_108 : decode cX8_judged 108 = .ok (.iconst 0, 1) := by decide +kernel
theorem dX8_judged_109 : decode cX8_judged 109 = .ok (.istore 9, 2) := by decide +kernel
theorem dX8_judged_111 : decode cX8_judged 111 = .ok (.iload 9, 2) := by decide +kernel
theorem dX8_judged_113 : decode cX8_judged 113 = .ok (.iconst 2, 1) := by decide +kernel
theorem dX8_judged_114 : decode cX8_judged 114 = .ok (.if_icmp .ge 74, 3) := by decide +kernel
theorem dX8_judged_117 : decode cX8_judged 117 = .ok (.iconst 0, 1) := by decide +kernel
theorem dX8_judged_118 : decode cX8_judged 118 = .ok (.istore 10, 2) := by decide +kernel
theorem dX8_judged_120 : decode cX8_judged 120 = .ok (.iload 10, 2) := by decide +kernel
theorem dX8_judged_122 : decode cX8_judged 122 = .ok (.iconst 5, 1) := by decide +kernel
theorem dX8_judged_123 : decode cX8_judged 123 = .ok (.if_icmp .ge 31, 3) := by decide +kernel
theorem dX8_judged_126 : decode cX8_judged 126 = .ok (.aload_n 0, 1) := by decide +kernel
theorem dX8_judged_127 : decode cX8_judged 127 = .ok (.getfield 39, 3) := by decide +kernel
theorem dX8_judged_130 : decode cX8_judged 130 = .ok (.iload 10, 2) := by decide +kernel
theorem dX8_judged_132 : decode cX8_judged 132 = .ok (.aload_n 0, 1) := by decide +kernel
theorem dX8_judged_133 : decode cX8_judged 133 = .ok (.getfield 35, 3) := by decide +kernel
theorem dX8_judged_136 : decode cX8_judged 136 = .ok (.iload 6, 2) := by decide +kernel
theorem dX8_judged_138 : decode cX8_judged 138 = .ok (.iconst 5, 1) := by decide +kernel
theorem dX8_judged_139 : decode cX8_judged 139 = .ok (.iload 8, 2) := by decide +kernel
theorem dX8_judged_141 : decode cX8_judged 141 = .ok (.imul, 1) := by decide +kernel
theorem dX8_judged_142 : decode cX8_judged 142 = .ok (.iadd, 1) := by decide +kernel
theorem dX8_judged_143 : decode cX8_judged 143 = .ok (.iload 10, 2) := by decide +kernel
theorem dX8_judged_145 : decode cX8_judged 145 = .ok (.iadd, 1) := by decide +kernel
theorem dX8_judged_146 : decode cX8_judged 146 = .ok (.laload, 1) := by decide +kernel
theorem dX8_judged_147 : decode cX8_judged 147 = .ok (.lastore, 1) := by decide +kernel
theorem dX8_judged_148 : decode cX8_judged 148 = .ok (.iinc 10 1, 3) := by decide +kernel
theorem dX8_judged_151 : decode cX8_judged 151 = .ok (.goto (-31), 3) := by decide +kernel
theorem dX8_judged_154 : decode cX8_judged 154 = .ok (.iload 7, 2) := by decide +kernel
theorem dX8_judged_156 : decode cX8_judged 156 = .ok (.aload_n 0, 1) := by decide +kernel
theorem dX8_judged_157 : decode cX8_judged 157 = .ok (.iload 9, 2) := by decide +kernel
theorem dX8_judged_159 : decode cX8_judged 159 = .ok (.invokevirtual 204, 3) := by decide +kernel
theorem dX8_judged_162 : decode cX8_judged 162 = .ok (.ifCond .eq 16, 3) := by decide +kernel
theorem dX8_judged_165 : decode cX8_judged 165 = .ok (.iconst 1, 1) := by decide +kernel
theorem dX8_judged_166 : decode cX8_judged 166 = .ok (.bipush 8, 2) := by decide +kernel
theorem dX8_judged_168 : decode cX8_judged 168 = .ok (.iload 9, 2) := by decide +kernel
theorem dX8_judged_170 : decode cX8_judged 170 = .ok (.imul, 1) := by decide +kernel
theorem dX8_judged_171 : decode cX8_judged 171 = .ok (.iload 8, 2) := by decide +kernel
theorem dX8_judged_173 : decode cX8_judged 173 = .ok (.iadd, 1) := by decide +kernel
theorem dX8_judged_174 : decode cX8_judged 174 = .ok (.ishl, 1) := by decide +kernel
theorem dX8_judged_175 : decode cX8_judged 175 = .ok (.goto 4, 3) := by decide +kernel
theorem dX8_judged_178 : decode cX8_judged 178 = .ok (.iconst 0, 1) := by decide +kernel
theorem dX8_judged_179 : decode cX8_judged 179 = .ok (.ior, 1) := by decide +kernel
theorem dX8_judged_180 : decode cX8_judged 180 = .ok (.istore 7, 2) := by decide +kernel
theorem dX8_judged_182 : decode cX8_judged 182 = .ok (.iinc 9 1, 3) := by decide +kernel
theorem dX8_judged_185 : decode cX8_judged 185 = .ok (.goto (-74), 3) := by decide +kernel
theorem dX8_judged_188 : decode cX8_judged 188 = .ok (.iinc 8 1, 3) := by decide +kernel
theorem dX8_judged_191 : decode cX8_judged 191 = .ok (.goto (-90), 3) := by decide +kernel
theorem dX8_judged_194 : decode cX8_judged 194 = .ok (.iload 7, 2) := by decide +kernel
theorem dX8_judged_196 : decode cX8_judged 196 = .ok (.ireturn, 1) := by decide +kernel
theorem dX8_film_0 : decode cX8_film 0 = .ok (.iload_n 1, 1) := by decide +kernel
theorem dX8_film_1 : decode cX8_film 1 = .ok (.i2l, 1) := by decide +kernel
theorem dX8_film_2 : decode cX8_film 2 = .ok (.lconst 0, 1) := by decide +kernel
theorem dX8_film_3 : decode cX8_film 3 = .ok (.lconst 1, 1) := by decide +kernel
theorem dX8_film_4 : decode cX8_film 4 = .ok (.invokestatic 141, 3) := by decide +kernel
theorem dX8_film_7 : decode cX8_film 7 = .ok (.ifCond .eq 11, 3) := by decide +kernel
theorem dX8_film_10 : decode cX8_film 10 = .ok (.iload_n 2, 1) := by decide +kernel
theorem dX8_film_11 : decode cX8_film 11 = .ok (.iload_n 3, 1) := by decide +kernel
theorem dX8_film_12 : decode cX8_film 12 = .ok (.invokestatic 264, 3) := by decide +kernel
theorem dX8_film_15 : decode cX8_film 15 = .ok (.ifCond .ne 5, 3) := by decide +kernel
theorem dX8_film_18 : decode cX8_film 18 = .ok (.iconst (-1), 1) := by decide +kernel
theorem dX8_film_19 : decode cX8_film 19 = .ok (.ireturn, 1) := by decide +kernel
theorem dX8_film_20 : decode cX8_film 20 = .ok (.aload_n 0, 1) := by decide +kernel
theorem dX8_film_21 : decode cX8_film 21 = .ok (.iload_n 2, 1) := by decide +kernel
theorem dX8_film_22 : decode cX8_film 22 = .ok (.iload_n 3, 1) := by decide +kernel
theorem dX8_film_23 : decode cX8_film 23 = .ok (.iload 4, 2) := by decide +kernel
theorem dX8_film_25 : decode cX8_film 25 = .ok (.iconst 5, 1) := by decide +kernel
theorem dX8_film_26 : decode cX8_film 26 = .ok (.invokevirtual 267, 3) := by decide +kernel
theorem dX8_film_29 : decode cX8_film 29 = .ok (.istore 5, 2) := by decide +kernel
theorem dX8_film_31 : decode cX8_film 31 = .ok (.iload 5, 2) := by decide +kernel
theorem dX8_film_33 : decode cX8_film 33 = .ok (.ifCond .eq 6, 3) := by decide +kernel
theorem dX8_film_36 : decode cX8_film 36 = .ok (.iload 5, 2) := by decide +kernel
theorem dX8_film_38 : decode cX8_film 38 = .ok (.ireturn, 1) := by decide +kernel
theorem dX8_film_39 : decode cX8_film 39 = .ok (.iconst 0, 1) := by decide +kernel
theorem dX8_film_40 : decode cX8_film 40 = .ok (.istore 6, 2) := by decide +kernel
theorem dX8_film_42 : decode cX8_film 42 = .ok (.iload 6, 2) := by decide +kernel
theorem dX8_film_44 : decode cX8_film 44 = .ok (.iconst 5, 1) := by decide +kernel
theorem dX8_film_45 : decode cX8_film 45 = .ok (.if_icmp .ge 36, 3) := by decide +kernel
theorem dX8_film_48 : decode cX8_film 48 = .ok (.aload_n 0, 1) := by decide +kernel
theorem dX8_film_49 : decode cX8_film 49 = .ok (.getfield 35, 3) := by decide +kernel
theorem dX8_film_52 : decode cX8_film 52 = .ok (.bipush 24, 2) := by decide +kernel
theorem dX8_film_54 : decode cX8_film 54 = .ok (.iload_n 2, 1) := by decide +kernel
theorem dX8_film_55 : decode cX8_film 55 = .ok (.imul, 1) := by decide +kernel
end
section
theorem dX8_film_56 : decode cX8_film 56 = .ok (.iload 4, 2) := by decide +kernel
theorem dX8_film_58 : decode cX8_film 58 = .ok (.iadd, 1) := by decide +kernel
theorem dX8_film_59 : decode cX8_film 59 = .ok (.iload 6, 2) := by decide +kernel
theorem dX8_film_61 : decode cX8_film 61 = .ok (.iadd, 1) := by decide +kernel
theorem dX8_film_62 : decode cX8_film 62 = .ok (.aload_n 0, 1) := by decide +kernel
theorem dX8_film_63 : decode cX8_film 63 = .ok (.getfield 7, 3) := by decide +kernel
theorem dX8_film_66 : decode cX8_film 66 = .ok (.iconst 5, 1) := by decide +kernel
theorem dX8_film_67 : decode cX8_film 67 = .ok (.iload_n 1, 1) := by decide +kernel
theorem dX8_film_68 : decode cX8_film 68 = .ok (.imul, 1) := by decide +kernel
theorem dX8_film_69 : decode cX8_film 69 = .ok (.iload 6, 2) := by decide +kernel
theorem dX8_film_71 : decode cX8_film 71 = .ok (.iadd, 1) := by decide +kernel
theorem dX8_film_72 : decode cX8_film 72 = .ok (.iaload, 1) := by decide +kernel
theorem dX8_film_73 : decode cX8_film 73 = .ok (.i2l, 1) := by decide +kernel
theorem dX8_film_74 : decode cX8_film 74 = .ok (.lastore, 1) := by decide +kernel
theorem dX8_film_75 : decode cX8_film 75 = .ok (.iinc 6 1, 3) := by decide +kernel
theorem dX8_film_78 : decode cX8_film 78 = .ok (.goto (-36), 3) := by decide +kernel
theorem dX8_film_81 : decode cX8_film 81 = .ok (.iconst 5, 1) := by decide +kernel
theorem dX8_film_82 : decode cX8_film 82 = .ok (.ireturn, 1) := by decide +kernel
theorem dX8_lowest_0 : decode cX8_lowest 0 = .ok (.iload_n 2, 1) := by decide +kernel
theorem dX8_lowest_1 : decode cX8_lowest 1 = .ok (.ifCond .ne 13, 3) := by decide +kernel
theorem dX8_lowest_4 : decode cX8_lowest 4 = .ok (.lload_n 0, 1) := by decide +kernel
theorem dX8_lowest_5 : decode cX8_lowest 5 = .ok (.bipush 56, 2) := by decide +kernel
theorem dX8_lowest_7 : decode cX8_lowest 7 = .ok (.lshl, 1) := by decide +kernel
theorem dX8_lowest_8 : decode cX8_lowest 8 = .ok (.bipush 56, 2) := by decide +kernel
theorem dX8_lowest_10 : decode cX8_lowest 10 = .ok (.lshr, 1) := by decide +kernel
theorem dX8_lowest_11 : decode cX8_lowest 11 = .ok (.goto 34, 3) := by decide +kernel
theorem dX8_lowest_14 : decode cX8_lowest 14 = .ok (.iload_n 2, 1) := by decide +kernel
theorem dX8_lowest_15 : decode cX8_lowest 15 = .ok (.iconst 1, 1) := by decide +kernel
theorem dX8_lowest_16 : decode cX8_lowest 16 = .ok (.if_icmp .ne 13, 3) := by decide +kernel
theorem dX8_lowest_19 : decode cX8_lowest 19 = .ok (.lload_n 0, 1) := by decide +kernel
theorem dX8_lowest_20 : decode cX8_lowest 20 = .ok (.bipush 48, 2) := by decide +kernel
theorem dX8_lowest_22 : decode cX8_lowest 22 = .ok (.lshl, 1) := by decide +kernel
theorem dX8_lowest_23 : decode cX8_lowest 23 = .ok (.bipush 48, 2) := by decide +kernel
theorem dX8_lowest_25 : decode cX8_lowest 25 = .ok (.lshr, 1) := by decide +kernel
theorem dX8_lowest_26 : decode cX8_lowest 26 = .ok (.goto 19, 3) := by decide +kernel
theorem dX8_lowest_29 : decode cX8_lowest 29 = .ok (.iload_n 2, 1) := by decide +kernel
theorem dX8_lowest_30 : decode cX8_lowest 30 = .ok (.iconst 2, 1) := by decide +kernel
theorem dX8_lowest_31 : decode cX8_lowest 31 = .ok (.if_icmp .ne 13, 3) := by decide +kernel
theorem dX8_lowest_34 : decode cX8_lowest 34 = .ok (.lload_n 0, 1) := by decide +kernel
theorem dX8_lowest_35 : decode cX8_lowest 35 = .ok (.bipush 32, 2) := by decide +kernel
theorem dX8_lowest_37 : decode cX8_lowest 37 = .ok (.lshl, 1) := by decide +kernel
theorem dX8_lowest_38 : decode cX8_lowest 38 = .ok (.bipush 32, 2) := by decide +kernel
theorem dX8_lowest_40 : decode cX8_lowest 40 = .ok (.lshr, 1) := by decide +kernel
theorem dX8_lowest_41 : decode cX8_lowest 41 = .ok (.goto 4, 3) := by decide +kernel
theorem dX8_lowest_44 : decode cX8_lowest 44 = .ok (.lload_n 0, 1) := by decide +kernel
theorem dX8_lowest_45 : decode cX8_lowest 45 = .ok (.lreturn, 1) := by decide +kernel
theorem dX8_sheet_0 : decode cX8_sheet 0 = .ok (.iload_n 1, 1) := by decide +kernel
theorem dX8_sheet_1 : decode cX8_sheet 1 = .ok (.iload_n 2, 1) := by decide +kernel
theorem dX8_sheet_2 : decode cX8_sheet 2 = .ok (.invokestatic 264, 3) := by decide +kernel
theorem dX8_sheet_5 : decode cX8_sheet 5 = .ok (.ifCond .eq 9, 3) := by decide +kernel
theorem dX8_sheet_8 : decode cX8_sheet 8 = .ok (.iload_n 3, 1) := by decide +kernel
theorem dX8_sheet_9 : decode cX8_sheet 9 = .ok (.bipush 24, 2) := by decide +kernel
theorem dX8_sheet_11 : decode cX8_sheet 11 = .ok (.if_icmp .le 5, 3) := by decide +kernel
theorem dX8_sheet_14 : decode cX8_sheet 14 = .ok (.iconst (-1), 1) := by decide +kernel
theorem dX8_sheet_15 : decode cX8_sheet 15 = .ok (.ireturn, 1) := by decide +kernel
theorem dX8_sheet_16 : decode cX8_sheet 16 = .ok (.iload_n 3, 1) := by decide +kernel
theorem dX8_sheet_17 : decode cX8_sheet 17 = .ok (.ifCond .ge 6, 3) := by decide +kernel
theorem dX8_sheet_20 : decode cX8_sheet 20 = .ok (.bipush (-14), 2) := by decide +kernel
theorem dX8_sheet_22 : decode cX8_sheet 22 = .ok (.ireturn, 1) := by decide +kernel
theorem dX8_sheet_23 : decode cX8_sheet 23 = .ok (.aload_n 0, 1) := by decide +kernel
theorem dX8_sheet_24 : decode cX8_sheet 24 = .ok (.getfield 29, 3) := by decide +kernel
theorem dX8_sheet_27 : decode cX8_sheet 27 = .ok (.iload_n 1, 1) := by decide +kernel
theorem dX8_sheet_28 : decode cX8_sheet 28 = .ok (.iload_n 2, 1) := by decide +kernel
theorem dX8_sheet_29 : decode cX8_sheet 29 = .ok (.iastore, 1) := by decide +kernel
theorem dX8_sheet_30 : decode cX8_sheet 30 = .ok (.aload_n 0, 1) := by decide +kernel
theorem dX8_sheet_31 : decode cX8_sheet 31 = .ok (.getfield 32, 3) := by decide +kernel
theorem dX8_sheet_34 : decode cX8_sheet 34 = .ok (.iload_n 1, 1) := by decide +kernel
theorem dX8_sheet_35 : decode cX8_sheet 35 = .ok (.iload_n 3, 1) := by decide +kernel
theorem dX8_sheet_36 : decode cX8_sheet 36 = .ok (.iastore, 1) := by decide +kernel
theorem dX8_sheet_37 : decode cX8_sheet 37 = .ok (.iconst 0, 1) := by decide +kernel
theorem dX8_sheet_38 : decode cX8_sheet 38 = .ok (.istore 4, 2) := by decide +kernel
theorem dX8_sheet_40 : decode cX8_sheet 40 = .ok (.iload 4, 2) := by decide +kernel
theorem dX8_sheet_42 : decode cX8_sheet 42 = .ok (.iload_n 3, 1) := by decide +kernel
theorem dX8_sheet_43 : decode cX8_sheet 43 = .ok (.if_icmp .ge 22, 3) := by decide +kernel
theorem dX8_sheet_46 : decode cX8_sheet 46 = .ok (.aload_n 0, 1) := by decide +kernel
theorem dX8_sheet_47 : decode cX8_sheet 47 = .ok (.getfield 35, 3) := by decide +kernel
theorem dX8_sheet_50 : decode cX8_sheet 50 = .ok (.bipush 24, 2) := by decide +kernel
theorem dX8_sheet_52 : decode cX8_sheet 52 = .ok (.iload_n 1, 1) := by decide +kernel
theorem dX8_sheet_53 : decode cX8_sheet 53 = .ok (.imul, 1) := by decide +kernel
theorem dX8_sheet_54 : decode cX8_sheet 54 = .ok (.iload 4, 2) := by decide +kernel
theorem dX8_sheet_56 : decode cX8_sheet 56 = .ok (.iadd, 1) := by decide +kernel
theorem dX8_sheet_57 : decode cX8_sheet 57 = .ok (.lconst 0, 1) := by decide +kernel
theorem dX8_sheet_58 : decode cX8_sheet 58 = .ok (.lastore, 1) := by decide +kernel
theorem dX8_sheet_59 : decode cX8_sheet 59 = .ok (.iinc 4 1, 3) := by decide +kernel
theorem dX8_sheet_62 : decode cX8_sheet 62 = .ok (.goto (-22), 3) := by decide +kernel
theorem dX8_sheet_65 : decode cX8_sheet 65 = .ok (.iload_n 3, 1) := by decide +kernel
theorem dX8_sheet_66 : decode cX8_sheet 66 = .ok (.ireturn, 1) := by decide +kernel
theorem dX8_drop_0 : decode cX8_drop 0 = .ok (.iload_n 1, 1) := by decide +kernel
theorem dX8_drop_1 : decode cX8_drop 1 = .ok (.i2l, 1) := by decide +kernel
theorem dX8_drop_2 : decode cX8_drop 2 = .ok (.lconst 0, 1) := by decide +kernel
theorem dX8_drop_3 : decode cX8_drop 3 = .ok (.ldc2_w 174, 3) := by decide +kernel
theorem dX8_drop_6 : decode cX8_drop 6 = .ok (.invokestatic 141, 3) := by decide +kernel
theorem dX8_drop_9 : decode cX8_drop 9 = .ok (.ifCond .ne 5, 3) := by decide +kernel
theorem dX8_drop_12 : decode cX8_drop 12 = .ok (.iconst (-1), 1) := by decide +kernel
theorem dX8_drop_13 : decode cX8_drop 13 = .ok (.ireturn, 1) := by decide +kernel
theorem dX8_drop_14 : decode cX8_drop 14 = .ok (.aload_n 0, 1) := by decide +kernel
theorem dX8_drop_15 : decode cX8_drop 15 = .ok (.getfield 29, 3) := by decide +kernel
theorem dX8_drop_18 : decode cX8_drop 18 = .ok (.iload_n 1, 1) := by decide +kernel
theorem dX8_drop_19 : decode cX8_drop 19 = .ok (.iaload, 1) := by decide +kernel
theorem dX8_drop_20 : decode cX8_drop 20 = .ok (.ifCond .ge 6, 3) := by decide +kernel
theorem dX8_drop_23 : decode cX8_drop 23 = .ok (.bipush (-11), 2) := by decide +kernel
theorem dX8_drop_25 : decode cX8_drop 25 = .ok (.ireturn, 1) := by decide +kernel
theorem dX8_drop_26 : decode cX8_drop 26 = .ok (.aload_n 0, 1) := by decide +kernel
theorem dX8_drop_27 : decode cX8_drop 27 = .ok (.getfield 29, 3) := by decide +kernel
theorem dX8_drop_30 : decode cX8_drop 30 = .ok (.iload_n 1, 1) := by decide +kernel
theorem dX8_drop_31 : decode cX8_drop 31 = .ok (.bipush (-4), 2) := by decide +kernel
theorem dX8_drop_33 : decode cX8_drop 33 = .ok (.iastore, 1) := by decide +kernel
theorem dX8_drop_34 : decode cX8_drop 34 = .ok (.aload_n 0, 1) := by decide +kernel
theorem dX8_drop_35 : decode cX8_drop 35 = .ok (.getfield 32, 3) := by decide +kernel
theorem dX8_drop_38 : decode cX8_drop 38 = .ok (.iload_n 1, 1) := by decide +kernel
theorem dX8_drop_39 : decode cX8_drop 39 = .ok (.iaload, 1) := by decide +kernel
theorem dX8_drop_40 : decode cX8_drop 40 = .ok (.ireturn, 1) := by decide +kernel
theorem dX8_item_0 : decode cX8_item 0 = .ok (.iload_n 1, 1) := by decide +kernel
theorem dX8_item_1 : decode cX8_item 1 = .ok (.iload_n 2, 1) := by decide +kernel
theorem dX8_item_2 : decode cX8_item 2 = .ok (.invokestatic 264, 3) := by decide +kernel
theorem dX8_item_5 : decode cX8_item 5 = .ok (.ifCond .ne 5, 3) := by decide +kernel
theorem dX8_item_8 : decode cX8_item 8 = .ok (.iconst (-1), 1) := by decide +kernel
theorem dX8_item_9 : decode cX8_item 9 = .ok (.ireturn, 1) := by decide +kernel
theorem dX8_item_10 : decode cX8_item 10 = .ok (.aload_n 0, 1) := by decide +kernel
theorem dX8_item_11 : decode cX8_item 11 = .ok (.iload_n 1, 1) := by decide +kernel
theorem dX8_item_12 : decode cX8_item 12 = .ok (.iload_n 2, 1) := by decide +kernel
theorem dX8_item_13 : decode cX8_item 13 = .ok (.iload_n 3, 1) := by decide +kernel
theorem dX8_item_14 : decode cX8_item 14 = .ok (.iconst 1, 1) := by decide +kernel
theorem dX8_item_15 : decode cX8_item 15 = .ok (.invokevirtual 267, 3) := by decide +kernel
theorem dX8_item_18 : decode cX8_item 18 = .ok (.istore 6, 2) := by decide +kernel
theorem dX8_item_20 : decode cX8_item 20 = .ok (.iload 6, 2) := by decide +kernel
theorem dX8_item_22 : decode cX8_item 22 = .ok (.ifCond .eq 6, 3) := by decide +kernel
theorem dX8_item_25 : decode cX8_item 25 = .ok (.iload 6, 2) := by decide +kernel
theorem dX8_item_27 : decode cX8_item 27 = .ok (.ireturn, 1) := by decide +kernel
theorem dX8_item_28 : decode cX8_item 28 = .ok (.aload_n 0, 1) := by decide +kernel
theorem dX8_item_29 : decode cX8_item 29 = .ok (.getfield 35, 3) := by decide +kernel
theorem dX8_item_32 : decode cX8_item 32 = .ok (.bipush 24, 2) := by decide +kernel
theorem dX8_item_34 : decode cX8_item 34 = .ok (.iload_n 1, 1) := by decide +kernel
theorem dX8_item_35 : decode cX8_item 35 = .ok (.imul, 1) := by decide +kernel
theorem dX8_item_36 : decode cX8_item 36 = .ok (.iload_n 3, 1) := by decide +kernel
theorem dX8_item_37 : decode cX8_item 37 = .ok (.iadd, 1) := by decide +kernel
theorem dX8_item_38 : decode cX8_item 38 = .ok (.lload 4, 2) := by decide +kernel
theorem dX8_item_40 : decode cX8_item 40 = .ok (.iload_n 2, 1) := by decide +kernel
theorem dX8_item_41 : decode cX8_item 41 = .ok (.invokestatic 271, 3) := by decide +kernel
theorem dX8_item_44 : decode cX8_item 44 = .ok (.lastore, 1) := by decide +kernel
theorem dX8_item_45 : decode cX8_item 45 = .ok (.iconst 1, 1) := by decide +kernel
theorem dX8_item_46 : decode cX8_item 46 = .ok (.ireturn, 1) := by decide +kernel
theorem dX8_copy_0 : decode cX8_copy 0 = .ok (.iload_n 1, 1) := by decide +kernel
theorem dX8_copy_1 : decode cX8_copy 1 = .ok (.i2l, 1) := by decide +kernel
theorem dX8_copy_2 : decode cX8_copy 2 = .ok (.lconst 0, 1) := by decide +kernel
theorem dX8_copy_3 : decode cX8_copy 3 = .ok (.ldc2_w 174, 3) := by decide +kernel
theorem dX8_copy_6 : decode cX8_copy 6 = .ok (.invokestatic 141, 3) := by decide +kernel
theorem dX8_copy_9 : decode cX8_copy 9 = .ok (.ifCond .eq 15, 3) := by decide +kernel
theorem dX8_copy_12 : decode cX8_copy 12 = .ok (.iload_n 3, 1) := by decide +kernel
theorem dX8_copy_13 : decode cX8_copy 13 = .ok (.i2l, 1) := by decide +kernel
theorem dX8_copy_14 : decode cX8_copy 14 = .ok (.lconst 0, 1) := by decide +kernel
theorem dX8_copy_15 : decode cX8_copy 15 = .ok (.ldc2_w 174, 3) := by decide +kernel
theorem dX8_copy_18 : decode cX8_copy 18 = .ok (.invokestatic 141, 3) := by decide +kernel
theorem dX8_copy_21 : decode cX8_copy 21 = .ok (.ifCond .ne 5, 3) := by decide +kernel
theorem dX8_copy_24 : decode cX8_copy 24 = .ok (.iconst (-1), 1) := by decide +kernel
theorem dX8_copy_25 : decode cX8_copy 25 = .ok (.ireturn, 1) := by decide +kernel
theorem dX8_copy_26 : decode cX8_copy 26 = .ok (.aload_n 0, 1) := by decide +kernel
theorem dX8_copy_27 : decode cX8_copy 27 = .ok (.getfield 29, 3) := by decide +kernel
theorem dX8_copy_30 : decode cX8_copy 30 = .ok (.iload_n 1, 1) := by decide +kernel
theorem dX8_copy_31 : decode cX8_copy 31 = .ok (.iaload, 1) := by decide +kernel
theorem dX8_copy_32 : decode cX8_copy 32 = .ok (.ifCond .lt 12, 3) := by decide +kernel
theorem dX8_copy_35 : decode cX8_copy 35 = .ok (.aload_n 0, 1) := by decide +kernel
theorem dX8_copy_36 : decode cX8_copy 36 = .ok (.getfield 29, 3) := by decide +kernel
theorem dX8_copy_39 : decode cX8_copy 39 = .ok (.iload_n 3, 1) := by decide +kernel
theorem dX8_copy_40 : decode cX8_copy 40 = .ok (.iaload, 1) := by decide +kernel
theorem dX8_copy_41 : decode cX8_copy 41 = .ok (.ifCond .ge 6, 3) := by decide +kernel
theorem dX8_copy_44 : decode cX8_copy 44 = .ok (.bipush (-11), 2) := by decide +kernel
theorem dX8_copy_46 : decode cX8_copy 46 = .ok (.ireturn, 1) := by decide +kernel
theorem dX8_copy_47 : decode cX8_copy 47 = .ok (.aload_n 0, 1) := by decide +kernel
theorem dX8_copy_48 : decode cX8_copy 48 = .ok (.getfield 29, 3) := by decide +kernel
theorem dX8_copy_51 : decode cX8_copy 51 = .ok (.iload_n 1, 1) := by decide +kernel
theorem dX8_copy_52 : decode cX8_copy 52 = .ok (.iaload, 1) := by decide +kernel
theorem dX8_copy_53 : decode cX8_copy 53 = .ok (.aload_n 0, 1) := by decide +kernel
theorem dX8_copy_54 : decode cX8_copy 54 = .ok (.getfield 29, 3) := by decide +kernel
theorem dX8_copy_57 : decode cX8_copy 57 = .ok (.iload_n 3, 1) := by decide +kernel
theorem dX8_copy_58 : decode cX8_copy 58 = .ok (.iaload, 1) := by decide +kernel
theorem dX8_copy_59 : decode cX8_copy 59 = .ok (.if_icmp .eq 6, 3) := by decide +kernel
theorem dX8_copy_62 : decode cX8_copy 62 = .ok (.bipush (-12), 2) := by decide +kernel
theorem dX8_copy_64 : decode cX8_copy 64 = .ok (.ireturn, 1) := by decide +kernel
theorem dX8_copy_65 : decode cX8_copy 65 = .ok (.iload 5, 2) := by decide +kernel
theorem dX8_copy_67 : decode cX8_copy 67 = .ok (.ifCond .lt 46, 3) := by decide +kernel
theorem dX8_copy_70 : decode cX8_copy 70 = .ok (.iload 5, 2) := by decide +kernel
theorem dX8_copy_72 : decode cX8_copy 72 = .ok (.bipush 24, 2) := by decide +kernel
theorem dX8_copy_74 : decode cX8_copy 74 = .ok (.if_icmp .gt 39, 3) := by decide +kernel
theorem dX8_copy_77 : decode cX8_copy 77 = .ok (.iload_n 2, 1) := by decide +kernel
theorem dX8_copy_78 : decode cX8_copy 78 = .ok (.ifCond .lt 35, 3) := by decide +kernel
theorem dX8_copy_81 : decode cX8_copy 81 = .ok (.iload 4, 2) := by decide +kernel
theorem dX8_copy_83 : decode cX8_copy 83 = .ok (.ifCond .lt 30, 3) := by decide +kernel
theorem dX8_copy_86 : decode cX8_copy 86 = .ok (.iload_n 2, 1) := by decide +kernel
theorem dX8_copy_87 : decode cX8_copy 87 = .ok (.aload_n 0, 1) := by decide +kernel
theorem dX8_copy_88 : decode cX8_copy 88 = .ok (.getfield 32, 3) := by decide +kernel
theorem dX8_copy_91 : decode cX8_copy 91 = .ok (.iload_n 1, 1) := by decide +kernel
theorem dX8_copy_92 : decode cX8_copy 92 = .ok (.iaload, 1) := by decide +kernel
theorem dX8_copy_93 : decode cX8_copy 93 = .ok (.iload 5, 2) := by decide +kernel
theorem dX8_copy_95 : decode cX8_copy 95 = .ok (.isub, 1) := by decide +kernel
theorem dX8_copy_96 : decode cX8_copy 96 = .ok (.if_icmp .gt 17, 3) := by decide +kernel
theorem dX8_copy_99 : decode cX8_copy 99 = .ok (.iload 4, 2) := by decide +kernel
theorem dX8_copy_101 : decode cX8_copy 101 = .ok (.aload_n 0, 1) := by decide +kernel
theorem dX8_copy_102 : decode cX8_copy 102 = .ok (.getfield 32, 3) := by decide +kernel
theorem dX8_copy_105 : decode cX8_copy 105 = .ok (.iload_n 3, 1) := by decide +kernel
theorem dX8_copy_106 : decode cX8_copy 106 = .ok (.iaload, 1) := by decide +kernel
theorem dX8_copy_107 : decode cX8_copy 107 = .ok (.iload 5, 2) := by decide +kernel
theorem dX8_copy_109 : decode cX8_copy 109 = .ok (.isub, 1) := by decide +kernel
theorem dX8_copy_110 : decode cX8_copy 110 = .ok (.if_icmp .le 6, 3) := by decide +kernel
theorem dX8_copy_113 : decode cX8_copy 113 = .ok (.bipush (-13), 2) := by decide +kernel
theorem dX8_copy_115 : decode cX8_copy 115 = .ok (.ireturn, 1) := by decide +kernel
theorem dX8_copy_116 : decode cX8_copy 116 = .ok (.iload 4, 2) := by decide +kernel
theorem dX8_copy_118 : decode cX8_copy 118 = .ok (.iload_n 2, 1) := by decide +kernel
theorem dX8_copy_119 : decode cX8_copy 119 = .ok (.if_icmp .le 7, 3) := by decide +kernel
theorem dX8_copy_122 : decode cX8_copy 122 = .ok (.iconst 1, 1) := by decide +kernel
theorem dX8_copy_123 : decode cX8_copy 123 = .ok (.goto 4, 3) := by decide +kernel
theorem dX8_copy_126 : decode cX8_copy 126 = .ok (.iconst 0, 1) := by decide +kernel
theorem dX8_copy_127 : decode cX8_copy 127 = .ok (.istore 6, 2) := by decide +kernel
theorem dX8_copy_129 : decode cX8_copy 129 = .ok (.iconst 0, 1) := by decide +kernel
theorem dX8_copy_130 : decode cX8_copy 130 = .ok (.istore 7, 2) := by decide +kernel
theorem dX8_copy_132 : decode cX8_copy 132 = .ok (.iload 7, 2) := by decide +kernel
theorem dX8_copy_134 : decode cX8_copy 134 = .ok (.iload 5, 2) := by decide +kernel
theorem dX8_copy_136 : decode cX8_copy 136 = .ok (.if_icmp .ge 57, 3) := by decide +kernel
theorem dX8_copy_139 : decode cX8_copy 139 = .ok (.iload 6, 2) := by decide +kernel
theorem dX8_copy_141 : decode cX8_copy 141 = .ok (.ifCond .eq 13, 3) := by decide +kernel
theorem dX8_copy_144 : decode cX8_copy 144 = .ok (.iload 5, 2) := by decide +kernel
theorem dX8_copy_146 : decode cX8_copy 146 = .ok (.iconst 1, 1) := by decide +kernel
theorem dX8_copy_147 : decode cX8_copy 147 = .ok (.isub, 1) := by decide +kernel
theorem dX8_copy_148 : decode cX8_copy 148 = .ok (.iload 7, 2) := by decide +kernel
theorem dX8_copy_150 : decode cX8_copy 150 = .ok (.isub, 1) := by decide +kernel
theorem dX8_copy_151 : decode cX8_copy 151 = .ok (.goto 5, 3) := by decide +kernel
theorem dX8_copy_154 : decode cX8_copy 154 = .ok (.iload 7, 2) := by decide +kernel
theorem dX8_copy_156 : decode cX8_copy 156 = .ok (.istore 8, 2) := by decide +kernel
theorem dX8_copy_158 : decode cX8_copy 158 = .ok (.aload_n 0, 1) := by decide +kernel
theorem dX8_copy_159 : decode cX8_copy 159 = .ok (.getfield 35, 3) := by decide +kernel
theorem dX8_copy_162 : decode cX8_copy 162 = .ok (.bipush 24, 2) := by decide +kernel
theorem dX8_copy_164 : decode cX8_copy 164 = .ok (.iload_n 3, 1) := by decide +kernel
theorem dX8_copy_165 : decode cX8_copy 165 = .ok (.imul, 1) := by decide +kernel
theorem dX8_copy_166 : decode cX8_copy 166 = .ok (.iload 4, 2) := by decide +kernel
theorem dX8_copy_168 : decode cX8_copy 168 = .ok (.iadd, 1) := by decide +kernel
theorem dX8_copy_169 : decode cX8_copy 169 = .ok (.iload 8, 2) := by decide +kernel
theorem dX8_copy_171 : decode cX8_copy 171 = .ok (.iadd, 1) := by decide +kernel
theorem dX8_copy_172 : decode cX8_copy 172 = .ok (.aload_n 0, 1) := by decide +kernel
theorem dX8_copy_173 : decode cX8_copy 173 = .ok (.getfield 35, 3) := by decide +kernel
theorem dX8_copy_176 : decode cX8_copy 176 = .ok (.bipush 24, 2) := by decide +kernel
theorem dX8_copy_178 : decode cX8_copy 178 = .ok (.iload_n 1, 1) := by decide +kernel
theorem dX8_copy_179 : decode cX8_copy 179 = .ok (.imul, 1) := by decide +kernel
theorem dX8_copy_180 : decode cX8_copy 180 = .ok (.iload_n 2, 1) := by decide +kernel
theorem dX8_copy_181 : decode cX8_copy 181 = .ok (.iadd, 1) := by decide +kernel
theorem dX8_copy_182 : decode cX8_copy 182 = .ok (.iload 8, 2) := by decide +kernel
theorem dX8_copy_184 : decode cX8_copy 184 = .ok (.iadd, 1) := by decide +kernel
theorem dX8_copy_185 : decode cX8_copy 185 = .ok (.laload, 1) := by decide +kernel
theorem dX8_copy_186 : decode cX8_copy 186 = .ok (.lastore, 1) := by decide +kernel
theorem dX8_copy_187 : decode cX8_copy 187 = .ok (.iinc 7 1, 3) := by decide +kernel
theorem dX8_copy_190 : decode cX8_copy 190 = .ok (.goto (-58), 3) := by decide +kernel
theorem dX8_copy_193 : decode cX8_copy 193 = .ok (.iload 5, 2) := by decide +kernel
theorem dX8_copy_195 : decode cX8_copy 195 = .ok (.ireturn, 1) := by decide +kernel
theorem dJ6_bitCount_0f7a4_0 : decode cJ6_bitCount_0f7a4 0 = .ok (.iload_n 0, 1) := by decide +kernel
theorem dJ6_bitCount_0f7a4_1 : decode cJ6_bitCount_0f7a4 1 = .ok (.iload_n 0, 1) := by decide +kernel
theorem dJ6_bitCount_0f7a4_2 : decode cJ6_bitCount_0f7a4 2 = .ok (.iconst 1, 1) := by decide +kernel
theorem dJ6_bitCount_0f7a4_3 : decode cJ6_bitCount_0f7a4 3 = .ok (.iushr, 1) := by decide +kernel
theorem dJ6_bitCount_0f7a4_4 : decode cJ6_bitCount_0f7a4 4 = .ok (.ldc_w 265, 3) := by decide +kernel
theorem dJ6_bitCount_0f7a4_7 : decode cJ6_bitCount_0f7a4 7 = .ok (.iand, 1) := by decide +kernel
theorem dJ6_bitCount_0f7a4_8 : decode cJ6_bitCount_0f7a4 8 = .ok (.isub, 1) := by decide +kernel
theorem dJ6_bitCount_0f7a4_9 : decode cJ6_bitCount_0f7a4 9 = .ok (.istore_n 0, 1) := by decide +kernel
theorem dJ6_bitCount_0f7a4_10 : decode cJ6_bitCount_0f7a4 10 = .ok (.iload_n 0, 1) := by decide +kernel
theorem dJ6_bitCount_0f7a4_11 : decode cJ6_bitCount_0f7a4 11 = .ok (.ldc_w 266, 3) := by decide +kernel
theorem dJ6_bitCount_0f7a4_14 : decode cJ6_bitCount_0f7a4 14 = .ok (.iand, 1) := by decide +kernel
theorem dJ6_bitCount_0f7a4_15 : decode cJ6_bitCount_0f7a4 15 = .ok (.iload_n 0, 1) := by decide +kernel
theorem dJ6_bitCount_0f7a4_16 : decode cJ6_bitCount_0f7a4 16 = .ok (.iconst 2, 1) := by decide +kernel
theorem dJ6_bitCount_0f7a4_17 : decode cJ6_bitCount_0f7a4 17 = .ok (.iushr, 1) := by decide +kernel
theorem dJ6_bitCount_0f7a4_18 : decode cJ6_bitCount_0f7a4 18 = .ok (.ldc_w 266, 3) := by decide +kernel
theorem dJ6_bitCount_0f7a4_21 : decode cJ6_bitCount_0f7a4 21 = .ok (.iand, 1) := by decide +kernel
theorem dJ6_bitCount_0f7a4_22 : decode cJ6_bitCount_0f7a4 22 = .ok (.iadd, 1) := by decide +kernel
theorem dJ6_bitCount_0f7a4_23 : decode cJ6_bitCount_0f7a4 23 = .ok (.istore_n 0, 1) := by decide +kernel
theorem dJ6_bitCount_0f7a4_24 : decode cJ6_bitCount_0f7a4 24 = .ok (.iload_n 0, 1) := by decide +kernel
theorem dJ6_bitCount_0f7a4_25 : decode cJ6_bitCount_0f7a4 25 = .ok (.iload_n 0, 1) := by decide +kernel
theorem dJ6_bitCount_0f7a4_26 : decode cJ6_bitCount_0f7a4 26 = .ok (.iconst 4, 1) := by decide +kernel
theorem dJ6_bitCount_0f7a4_27 : decode cJ6_bitCount_0f7a4 27 = .ok (.iushr, 1) := by decide +kernel
theorem dJ6_bitCount_0f7a4_28 : decode cJ6_bitCount_0f7a4 28 = .ok (.iadd, 1) := by decide +kernel
theorem dJ6_bitCount_0f7a4_29 : decode cJ6_bitCount_0f7a4 29 = .ok (.ldc_w 267, 3) := by decide +kernel
theorem dJ6_bitCount_0f7a4_32 : decode cJ6_bitCount_0f7a4 32 = .ok (.iand, 1) := by decide +kernel
theorem dJ6_bitCount_0f7a4_33 : decode cJ6_bitCount_0f7a4 33 = .ok (.istore_n 0, 1) := by decide +kernel
theorem dJ6_bitCount_0f7a4_34 : decode cJ6_bitCount_0f7a4 34 = .ok (.iload_n 0, 1) := by decide +kernel
theorem dJ6_bitCount_0f7a4_35 : decode cJ6_bitCount_0f7a4 35 = .ok (.iload_n 0, 1) := by decide +kernel
theorem dJ6_bitCount_0f7a4_36 : decode cJ6_bitCount_0f7a4 36 = .ok (.bipush 8, 2) := by decide +kernel
theorem dJ6_bitCount_0f7a4_38 : decode cJ6_bitCount_0f7a4 38 = .ok (.iushr, 1) := by decide +kernel
theorem dJ6_bitCount_0f7a4_39 : decode cJ6_bitCount_0f7a4 39 = .ok (.iadd, 1) := by decide +kernel
theorem dJ6_bitCount_0f7a4_40 : decode cJ6_bitCount_0f7a4 40 = .ok (.istore_n 0, 1) := by decide +kernel
theorem dJ6_bitCount_0f7a4_41 : decode cJ6_bitCount_0f7a4 41 = .ok (.iload_n 0, 1) := by decide +kernel
theorem dJ6_bitCount_0f7a4_42 : decode cJ6_bitCount_0f7a4 42 = .ok (.iload_n 0, 1) := by decide +kernel
theorem dJ6_bitCount_0f7a4_43 : decode cJ6_bitCount_0f7a4 43 = .ok (.bipush 16, 2) := by decide +kernel
theorem dJ6_bitCount_0f7a4_45 : decode cJ6_bitCount_0f7a4 45 = .ok (.iushr, 1) := by decide +kernel
theorem dJ6_bitCount_0f7a4_46 : decode cJ6_bitCount_0f7a4 46 = .ok (.iadd, 1) := by decide +kernel
theorem dJ6_bitCount_0f7a4_47 : decode cJ6_bitCount_0f7a4 47 = .ok (.istore_n 0, 1) := by decide +kernel
theorem dJ6_bitCount_0f7a4_48 : decode cJ6_bitCount_0f7a4 48 = .ok (.iload_n 0, 1) := by decide +kernel
theorem dJ6_bitCount_0f7a4_49 : decode cJ6_bitCount_0f7a4 49 = .ok (.bipush 63, 2) := by decide +kernel
theorem dJ6_bitCount_0f7a4_51 : decode cJ6_bitCount_0f7a4 51 = .ok (.iand, 1) := by decide +kernel
theorem dJ6_bitCount_0f7a4_52 : decode cJ6_bitCount_0f7a4 52 = .ok (.ireturn, 1) := by decide +kernel
theorem dJ9_abs_067f4_0 : decode cJ9_abs_067f4 0 = .ok (.lload_n 0, 1) := by decide +kernel
theorem dJ9_abs_067f4_1 : decode cJ9_abs_067f4 1 = .ok (.lconst 0, 1) := by decide +kernel
theorem dJ9_abs_067f4_2 : decode cJ9_abs_067f4 2 = .ok (.lcmp, 1) := by decide +kernel
theorem dJ9_abs_067f4_3 : decode cJ9_abs_067f4 3 = .ok (.ifCond .ge 8, 3) := by decide +kernel
theorem dJ9_abs_067f4_6 : decode cJ9_abs_067f4 6 = .ok (.lload_n 0, 1) := by decide +kernel
theorem dJ9_abs_067f4_7 : decode cJ9_abs_067f4 7 = .ok (.lneg, 1) := by decide +kernel
theorem dJ9_abs_067f4_8 : decode cJ9_abs_067f4 8 = .ok (.goto 4, 3) := by decide +kernel
theorem dJ9_abs_067f4_11 : decode cJ9_abs_067f4 11 = .ok (.lload_n 0, 1) := by decide +kernel
theorem dJ9_abs_067f4_12 : decode cJ9_abs_067f4 12 = .ok (.lreturn, 1) := by decide +kernel
theorem dJ7_fill_d0a16_0 : decode cJ7_fill_d0a16 0 = .ok (.iconst 0, 1) := by decide +kernel
theorem dJ7_fill_d0a16_1 : decode cJ7_fill_d0a16 1 = .ok (.istore_n 3, 1) := by decide +kernel
theorem dJ7_fill_d0a16_2 : decode cJ7_fill_d0a16 2 = .ok (.aload_n 0, 1) := by decide +kernel
theorem dJ7_fill_d0a16_3 : decode cJ7_fill_d0a16 3 = .ok (.arraylength, 1) := by decide +kernel
theorem dJ7_fill_d0a16_4 : decode cJ7_fill_d0a16 4 = .ok (.istore 4, 2) := by decide +kernel
theorem dJ7_fill_d0a16_6 : decode cJ7_fill_d0a16 6 = .ok (.iload_n 3, 1) := by decide +kernel
theorem dJ7_fill_d0a16_7 : decode cJ7_fill_d0a16 7 = .ok (.iload 4, 2) := by decide +kernel
theorem dJ7_fill_d0a16_9 : decode cJ7_fill_d0a16 9 = .ok (.if_icmp .ge 13, 3) := by decide +kernel
theorem dJ7_fill_d0a16_12 : decode cJ7_fill_d0a16 12 = .ok (.aload_n 0, 1) := by decide +kernel
theorem dJ7_fill_d0a16_13 : decode cJ7_fill_d0a16 13 = .ok (.iload_n 3, 1) := by decide +kernel
theorem dJ7_fill_d0a16_14 : decode cJ7_fill_d0a16 14 = .ok (.lload_n 1, 1) := by decide +kernel
theorem dJ7_fill_d0a16_15 : decode cJ7_fill_d0a16 15 = .ok (.lastore, 1) := by decide +kernel
theorem dJ7_fill_d0a16_16 : decode cJ7_fill_d0a16 16 = .ok (.iinc 3 1, 3) := by decide +kernel
theorem dJ7_fill_d0a16_19 : decode cJ7_fill_d0a16 19 = .ok (.goto (-13), 3) := by decide +kernel
theorem dJ7_fill_d0a16_22 : decode cJ7_fill_d0a16 22 = .ok (.return_, 1) := by decide +kernel
theorem dJ7_fill_53178_0 : decode cJ7_fill_53178 0 = .ok (.iconst 0, 1) := by decide +kernel
theorem dJ7_fill_53178_1 : decode cJ7_fill_53178 1 = .ok (.istore_n 2, 1) := by decide +kernel
theorem dJ7_fill_53178_2 : decode cJ7_fill_53178 2 = .ok (.aload_n 0, 1) := by decide +kernel
theorem dJ7_fill_53178_3 : decode cJ7_fill_53178 3 = .ok (.arraylength, 1) := by decide +kernel
theorem dJ7_fill_53178_4 : decode cJ7_fill_53178 4 = .ok (.istore_n 3, 1) := by decide +kernel
theorem dJ7_fill_53178_5 : decode cJ7_fill_53178 5 = .ok (.iload_n 2, 1) := by decide +kernel
theorem dJ7_fill_53178_6 : decode cJ7_fill_53178 6 = .ok (.iload_n 3, 1) := by decide +kernel
theorem dJ7_fill_53178_7 : decode cJ7_fill_53178 7 = .ok (.if_icmp .ge 13, 3) := by decide +kernel
theorem dJ7_fill_53178_10 : decode cJ7_fill_53178 10 = .ok (.aload_n 0, 1) := by decide +kernel
theorem dJ7_fill_53178_11 : decode cJ7_fill_53178 11 = .ok (.iload_n 2, 1) := by decide +kernel
theorem dJ7_fill_53178_12 : decode cJ7_fill_53178 12 = .ok (.iload_n 1, 1) := by decide +kernel
theorem dJ7_fill_53178_13 : decode cJ7_fill_53178 13 = .ok (.iastore, 1) := by decide +kernel
theorem dJ7_fill_53178_14 : decode cJ7_fill_53178 14 = .ok (.iinc 2 1, 3) := by decide +kernel
theorem dJ7_fill_53178_17 : decode cJ7_fill_53178 17 = .ok (.goto (-12), 3) := by decide +kernel
theorem dJ7_fill_53178_20 : decode cJ7_fill_53178 20 = .ok (.return_, 1) := by decide +kernel
theorem dL_law_0 : decode cL_law 0 = .ok (.new 7, 3) := by decide +kernel
theorem dL_law_3 : decode cL_law 3 = .ok (.dup, 1) := by decide +kernel
theorem dL_law_4 : decode cL_law 4 = .ok (.invokespecial 9, 3) := by decide +kernel
theorem dL_law_7 : decode cL_law 7 = .ok (.astore_n 1, 1) := by decide +kernel
theorem dL_law_8 : decode cL_law 8 = .ok (.new 10, 3) := by decide +kernel
theorem dL_law_11 : decode cL_law 11 = .ok (.dup, 1) := by decide +kernel
theorem dL_law_12 : decode cL_law 12 = .ok (.invokespecial 12, 3) := by decide +kernel
theorem dL_law_15 : decode cL_law 15 = .ok (.astore_n 2, 1) := by decide +kernel
theorem dL_law_16 : decode cL_law 16 = .ok (.iconst 0, 1) := by decide +kernel
theorem dL_law_17 : decode cL_law 17 = .ok (.istore_n 3, 1) := by decide +kernel
theorem dL_law_18 : decode cL_law 18 = .ok (.iload_n 3, 1) := by decide +kernel
theorem dL_law_19 : decode cL_law 19 = .ok (.aload_n 0, 1) := by decide +kernel
theorem dL_law_20 : decode cL_law 20 = .ok (.arraylength, 1) := by decide +kernel
theorem dL_law_21 : decode cL_law 21 = .ok (.bipush 6, 2) := by decide +kernel
theorem dL_law_23 : decode cL_law 23 = .ok (.isub, 1) := by decide +kernel
theorem dL_law_24 : decode cL_law 24 = .ok (.if_icmp .gt 1030, 3) := by decide +kernel
theorem dL_law_27 : decode cL_law 27 = .ok (.aload_n 0, 1) := by decide +kernel
theorem dL_law_28 : decode cL_law 28 = .ok (.iload_n 3, 1) := by decide +kernel
theorem dL_law_29 : decode cL_law 29 = .ok (.iaload, 1) := by decide +kernel
theorem dL_law_30 : decode cL_law 30 = .ok (.bipush 31, 2) := by decide +kernel
theorem dL_law_32 : decode cL_law 32 = .ok (.iand, 1) := by decide +kernel
theorem dL_law_33 : decode cL_law 33 = .ok (.tableswitch 1015 0 26 #[123, 166, 189, 222, 245, 278, 321, 365, 378, 421, 464, 497, 520, 543, 576, 599, 612, 635, 648, 671, 684, 697, 750, 803, 846, 869, 952], 123) := by decide +kernel
theorem dL_law_156 : decode cL_law 156 = .ok (.aload_n 1, 1) := by decide +kernel
theorem dL_law_157 : decode cL_law 157 = .ok (.aload_n 0, 1) := by decide +kernel
theorem dL_law_158 : decode cL_law 158 = .ok (.iload_n 3, 1) := by decide +kernel
theorem dL_law_159 : decode cL_law 159 = .ok (.iconst 1, 1) := by decide +kernel
theorem dL_law_160 : decode cL_law 160 = .ok (.iadd, 1) := by decide +kernel
theorem dL_law_161 : decode cL_law 161 = .ok (.iaload, 1) := by decide +kernel
theorem dL_law_162 : decode cL_law 162 = .ok (.aload_n 0, 1) := by decide +kernel
theorem dL_law_163 : decode cL_law 163 = .ok (.iload_n 3, 1) := by decide +kernel
theorem dL_law_164 : decode cL_law 164 = .ok (.iconst 2, 1) := by decide +kernel
theorem dL_law_165 : decode cL_law 165 = .ok (.iadd, 1) := by decide +kernel
theorem dL_law_166 : decode cL_law 166 = .ok (.iaload, 1) := by decide +kernel
theorem dL_law_167 : decode cL_law 167 = .ok (.aload_n 0, 1) := by decide +kernel
theorem dL_law_168 : decode cL_law 168 = .ok (.iload_n 3, 1) := by decide +kernel
theorem dL_law_169 : decode cL_law 169 = .ok (.iconst 3, 1) := by decide +kernel
theorem dL_law_170 : decode cL_law 170 = .ok (.iadd, 1) := by decide +kernel
theorem dL_law_171 : decode cL_law 171 = .ok (.iaload, 1) := by decide +kernel
theorem dL_law_172 : decode cL_law 172 = .ok (.invokevirtual 13, 3) := by decide +kernel
theorem dL_law_175 : decode cL_law 175 = .ok (.aload_n 2, 1) := by decide +kernel
theorem dL_law_176 : decode cL_law 176 = .ok (.aload_n 0, 1) := by decide +kernel
theorem dL_law_177 : decode cL_law 177 = .ok (.iload_n 3, 1) := by decide +kernel
theorem dL_law_178 : decode cL_law 178 = .ok (.iconst 1, 1) := by decide +kernel
theorem dL_law_179 : decode cL_law 179 = .ok (.iadd, 1) := by decide +kernel
theorem dL_law_180 : decode cL_law 180 = .ok (.iaload, 1) := by decide +kernel
theorem dL_law_181 : decode cL_law 181 = .ok (.aload_n 0, 1) := by decide +kernel
theorem dL_law_182 : decode cL_law 182 = .ok (.iload_n 3, 1) := by decide +kernel
theorem dL_law_183 : decode cL_law 183 = .ok (.iconst 2, 1) := by decide +kernel
theorem dL_law_184 : decode cL_law 184 = .ok (.iadd, 1) := by decide +kernel
theorem dL_law_185 : decode cL_law 185 = .ok (.iaload, 1) := by decide +kernel
theorem dL_law_186 : decode cL_law 186 = .ok (.aload_n 0, 1) := by decide +kernel
theorem dL_law_187 : decode cL_law 187 = .ok (.iload_n 3, 1) := by decide +kernel
theorem dL_law_188 : decode cL_law 188 = .ok (.iconst 3, 1) := by decide +kernel
theorem dL_law_189 : decode cL_law 189 = .ok (.iadd, 1) := by decide +kernel
theorem dL_law_190 : decode cL_law 190 = .ok (.iaload, 1) := by decide +kernel
theorem dL_law_191 : decode cL_law 191 = .ok (.invokevirtual 17, 3) := by decide +kernel
theorem dL_law_194 : decode cL_law 194 = .ok (.if_icmp .eq 854, 3) := by decide +kernel
theorem dL_law_197 : decode cL_law 197 = .ok (.iconst 0, 1) := by decide +kernel
theorem dL_law_198 : decode cL_law 198 = .ok (.ireturn, 1) := by decide +kernel
theorem dL_law_199 : decode cL_law 199 = .ok (.aload_n 1, 1) := by decide +kernel
theorem dL_law_200 : decode cL_law 200 = .ok (.aload_n 0, 1) := by decide +kernel
theorem dL_law_201 : decode cL_law 201 = .ok (.iload_n 3, 1) := by decide +kernel
theorem dL_law_202 : decode cL_law 202 = .ok (.iconst 1, 1) := by decide +kernel
theorem dL_law_203 : decode cL_law 203 = .ok (.iadd, 1) := by decide +kernel
theorem dL_law_204 : decode cL_law 204 = .ok (.iaload, 1) := by decide +kernel
theorem dL_law_205 : decode cL_law 205 = .ok (.invokevirtual 18, 3) := by decide +kernel
theorem dL_law_208 : decode cL_law 208 = .ok (.aload_n 2, 1) := by decide +kernel
theorem dL_law_209 : decode cL_law 209 = .ok (.aload_n 0, 1) := by decide +kernel
theorem dL_law_210 : decode cL_law 210 = .ok (.iload_n 3, 1) := by decide +kernel
theorem dL_law_211 : decode cL_law 211 = .ok (.iconst 1, 1) := by decide +kernel
theorem dL_law_212 : decode cL_law 212 = .ok (.iadd, 1) := by decide +kernel
theorem dL_law_213 : decode cL_law 213 = .ok (.iaload, 1) := by decide +kernel
theorem dL_law_214 : decode cL_law 214 = .ok (.invokevirtual 22, 3) := by decide +kernel
theorem dL_law_217 : decode cL_law 217 = .ok (.if_icmp .eq 831, 3) := by decide +kernel
theorem dL_law_220 : decode cL_law 220 = .ok (.iconst 0, 1) := by decide +kernel
theorem dL_law_221 : decode cL_law 221 = .ok (.ireturn, 1) := by decide +kernel
theorem dL_law_222 : decode cL_law 222 = .ok (.aload_n 1, 1) := by decide +kernel
theorem dL_law_223 : decode cL_law 223 = .ok (.aload_n 0, 1) := by decide +kernel
theorem dL_law_224 : decode cL_law 224 = .ok (.iload_n 3, 1) := by decide +kernel
theorem dL_law_225 : decode cL_law 225 = .ok (.iconst 1, 1) := by decide +kernel
theorem dL_law_226 : decode cL_law 226 = .ok (.iadd, 1) := by decide +kernel
theorem dL_law_227 : decode cL_law 227 = .ok (.iaload, 1) := by decide +kernel
theorem dL_law_228 : decode cL_law 228 = .ok (.aload_n 0, 1) := by decide +kernel
theorem dL_law_229 : decode cL_law 229 = .ok (.iload_n 3, 1) := by decide +kernel
theorem dL_law_230 : decode cL_law 230 = .ok (.iconst 2, 1) := by decide +kernel
theorem dL_law_231 : decode cL_law 231 = .ok (.iadd, 1) := by decide +kernel
theorem dL_law_232 : decode cL_law 232 = .ok (.iaload, 1) := by decide +kernel
theorem dL_law_233 : decode cL_law 233 = .ok (.invokevirtual 23, 3) := by decide +kernel
theorem dL_law_236 : decode cL_law 236 = .ok (.aload_n 2, 1) := by decide +kernel
theorem dL_law_237 : decode cL_law 237 = .ok (.aload_n 0, 1) := by decide +kernel
theorem dL_law_238 : decode cL_law 238 = .ok (.iload_n 3, 1) := by decide +kernel
theorem dL_law_239 : decode cL_law 239 = .ok (.iconst 1, 1) := by decide +kernel
theorem dL_law_240 : decode cL_law 240 = .ok (.iadd, 1) := by decide +kernel
theorem dL_law_241 : decode cL_law 241 = .ok (.iaload, 1) := by decide +kernel
theorem dL_law_242 : decode cL_law 242 = .ok (.aload_n 0, 1) := by decide +kernel
theorem dL_law_243 : decode cL_law 243 = .ok (.iload_n 3, 1) := by decide +kernel
theorem dL_law_244 : decode cL_law 244 = .ok (.iconst 2, 1) := by decide +kernel
theorem dL_law_245 : decode cL_law 245 = .ok (.iadd, 1) := by decide +kernel
theorem dL_law_246 : decode cL_law 246 = .ok (.iaload, 1) := by decide +kernel
theorem dL_law_247 : decode cL_law 247 = .ok (.invokevirtual 27, 3) := by decide +kernel
theorem dL_law_250 : decode cL_law 250 = .ok (.if_icmp .eq 798, 3) := by decide +kernel
theorem dL_law_253 : decode cL_law 253 = .ok (.iconst 0, 1) := by decide +kernel
theorem dL_law_254 : decode cL_law 254 = .ok (.ireturn, 1) := by decide +kernel
theorem dL_law_255 : decode cL_law 255 = .ok (.aload_n 1, 1) := by decide +kernel
theorem dL_law_256 : decode cL_law 256 = .ok (.aload_n 0, 1) := by decide +kernel
theorem dL_law_257 : decode cL_law 257 = .ok (.iload_n 3, 1) := by decide +kernel
theorem dL_law_258 : decode cL_law 258 = .ok (.iconst 1, 1) := by decide +kernel
theorem dL_law_259 : decode cL_law 259 = .ok (.iadd, 1) := by decide +kernel
theorem dL_law_260 : decode cL_law 260 = .ok (.iaload, 1) := by decide +kernel
theorem dL_law_261 : decode cL_law 261 = .ok (.invokevirtual 28, 3) := by decide +kernel
theorem dL_law_264 : decode cL_law 264 = .ok (.aload_n 2, 1) := by decide +kernel
theorem dL_law_265 : decode cL_law 265 = .ok (.aload_n 0, 1) := by decide +kernel
theorem dL_law_266 : decode cL_law 266 = .ok (.iload_n 3, 1) := by decide +kernel
theorem dL_law_267 : decode cL_law 267 = .ok (.iconst 1, 1) := by decide +kernel
theorem dL_law_268 : decode cL_law 268 = .ok (.iadd, 1) := by decide +kernel
theorem dL_law_269 : decode cL_law 269 = .ok (.iaload, 1) := by decide +kernel
theorem dL_law_270 : decode cL_law 270 = .ok (.invokevirtual 31, 3) := by decide +kernel
theorem dL_law_273 : decode cL_law 273 = .ok (.if_icmp .eq 775, 3) := by decide +kernel
theorem dL_law_276 : decode cL_law 276 = .ok (.iconst 0, 1) := by decide +kernel
theorem dL_law_277 : decode cL_law 277 = .ok (.ireturn, 1) := by decide +kernel
theorem dL_law_278 : decode cL_law 278 = .ok (.aload_n 1, 1) := by decide +kernel
theorem dL_law_279 : decode cL_law 279 = .ok (.aload_n 0, 1) := by decide +kernel
theorem dL_law_280 : decode cL_law 280 = .ok (.iload_n 3, 1) := by decide +kernel
theorem dL_law_281 : decode cL_law 281 = .ok (.iconst 1, 1) := by decide +kernel
theorem dL_law_282 : decode cL_law 282 = .ok (.iadd, 1) := by decide +kernel
theorem dL_law_283 : decode cL_law 283 = .ok (.iaload, 1) := by decide +kernel
theorem dL_law_284 : decode cL_law 284 = .ok (.aload_n 0, 1) := by decide +kernel
theorem dL_law_285 : decode cL_law 285 = .ok (.iload_n 3, 1) := by decide +kernel
theorem dL_law_286 : decode cL_law 286 = .ok (.iconst 2, 1) := by decide +kernel
theorem dL_law_287 : decode cL_law 287 = .ok (.iadd, 1) := by decide +kernel
theorem dL_law_288 : decode cL_law 288 = .ok (.iaload, 1) := by decide +kernel
theorem dL_law_289 : decode cL_law 289 = .ok (.invokevirtual 32, 3) := by decide +kernel
theorem dL_law_292 : decode cL_law 292 = .ok (.aload_n 2, 1) := by decide +kernel
theorem dL_law_293 : decode cL_law 293 = .ok (.aload_n 0, 1) := by decide +kernel
theorem dL_law_294 : decode cL_law 294 = .ok (.iload_n 3, 1) := by decide +kernel
theorem dL_law_295 : decode cL_law 295 = .ok (.iconst 1, 1) := by decide +kernel
theorem dL_law_296 : decode cL_law 296 = .ok (.iadd, 1) := by decide +kernel
theorem dL_law_297 : decode cL_law 297 = .ok (.iaload, 1) := by decide +kernel
theorem dL_law_298 : decode cL_law 298 = .ok (.aload_n 0, 1) := by decide +kernel
theorem dL_law_299 : decode cL_law 299 = .ok (.iload_n 3, 1) := by decide +kernel
theorem dL_law_300 : decode cL_law 300 = .ok (.iconst 2, 1) := by decide +kernel
theorem dL_law_301 : decode cL_law 301 = .ok (.iadd, 1) := by decide +kernel
theorem dL_law_302 : decode cL_law 302 = .ok (.iaload, 1) := by decide +kernel
theorem dL_law_303 : decode cL_law 303 = .ok (.invokevirtual 35, 3) := by decide +kernel
theorem dL_law_306 : decode cL_law 306 = .ok (.if_icmp .eq 742, 3) := by decide +kernel
theorem dL_law_309 : decode cL_law 309 = .ok (.iconst 0, 1) := by decide +kernel
theorem dL_law_310 : decode cL_law 310 = .ok (.ireturn, 1) := by decide +kernel
theorem dL_law_311 : decode cL_law 311 = .ok (.aload_n 1, 1) := by decide +kernel
theorem dL_law_312 : decode cL_law 312 = .ok (.aload_n 0, 1) := by decide +kernel
theorem dL_law_313 : decode cL_law 313 = .ok (.iload_n 3, 1) := by decide +kernel
theorem dL_law_314 : decode cL_law 314 = .ok (.iconst 1, 1) := by decide +kernel
theorem dL_law_315 : decode cL_law 315 = .ok (.iadd, 1) := by decide +kernel
theorem dL_law_316 : decode cL_law 316 = .ok (.iaload, 1) := by decide +kernel
theorem dL_law_317 : decode cL_law 317 = .ok (.aload_n 0, 1) := by decide +kernel
theorem dL_law_318 : decode cL_law 318 = .ok (.iload_n 3, 1) := by decide +kernel
theorem dL_law_319 : decode cL_law 319 = .ok (.iconst 2, 1) := by decide +kernel
theorem dL_law_320 : decode cL_law 320 = .ok (.iadd, 1) := by decide +kernel
theorem dL_law_321 : decode cL_law 321 = .ok (.iaload, 1) := by decide +kernel
theorem dL_law_322 : decode cL_law 322 = .ok (.aload_n 0, 1) := by decide +kernel
theorem dL_law_323 : decode cL_law 323 = .ok (.iload_n 3, 1) := by decide +kernel
theorem dL_law_324 : decode cL_law 324 = .ok (.iconst 3, 1) := by decide +kernel
theorem dL_law_325 : decode cL_law 325 = .ok (.iadd, 1) := by decide +kernel
theorem dL_law_326 : decode cL_law 326 = .ok (.iaload, 1) := by decide +kernel
theorem dL_law_327 : decode cL_law 327 = .ok (.invokevirtual 36, 3) := by decide +kernel
theorem dL_law_330 : decode cL_law 330 = .ok (.aload_n 2, 1) := by decide +kernel
theorem dL_law_331 : decode cL_law 331 = .ok (.aload_n 0, 1) := by decide +kernel
theorem dL_law_332 : decode cL_law 332 = .ok (.iload_n 3, 1) := by decide +kernel
theorem dL_law_333 : decode cL_law 333 = .ok (.iconst 1, 1) := by decide +kernel
theorem dL_law_334 : decode cL_law 334 = .ok (.iadd, 1) := by decide +kernel
theorem dL_law_335 : decode cL_law 335 = .ok (.iaload, 1) := by decide +kernel
theorem dL_law_336 : decode cL_law 336 = .ok (.aload_n 0, 1) := by decide +kernel
theorem dL_law_337 : decode cL_law 337 = .ok (.iload_n 3, 1) := by decide +kernel
theorem dL_law_338 : decode cL_law 338 = .ok (.iconst 2, 1) := by decide +kernel
theorem dL_law_339 : decode cL_law 339 = .ok (.iadd, 1) := by decide +kernel
theorem dL_law_340 : decode cL_law 340 = .ok (.iaload, 1) := by decide +kernel
theorem dL_law_341 : decode cL_law 341 = .ok (.aload_n 0, 1) := by decide +kernel
theorem dL_law_342 : decode cL_law 342 = .ok (.iload_n 3, 1) := by decide +kernel
theorem dL_law_343 : decode cL_law 343 = .ok (.iconst 3, 1) := by decide +kernel
theorem dL_law_344 : decode cL_law 344 = .ok (.iadd, 1) := by decide +kernel
theorem dL_law_345 : decode cL_law 345 = .ok (.iaload, 1) := by decide +kernel
theorem dL_law_346 : decode cL_law 346 = .ok (.invokevirtual 39, 3) := by decide +kernel
theorem dL_law_349 : decode cL_law 349 = .ok (.if_icmp .eq 699, 3) := by decide +kernel
theorem dL_law_352 : decode cL_law 352 = .ok (.iconst 0, 1) := by decide +kernel
theorem dL_law_353 : decode cL_law 353 = .ok (.ireturn, 1) := by decide +kernel
theorem dL_law_354 : decode cL_law 354 = .ok (.aload_n 1, 1) := by decide +kernel
theorem dL_law_355 : decode cL_law 355 = .ok (.aload_n 0, 1) := by decide +kernel
theorem dL_law_356 : decode cL_law 356 = .ok (.iload_n 3, 1) := by decide +kernel
theorem dL_law_357 : decode cL_law 357 = .ok (.iconst 1, 1) := by decide +kernel
theorem dL_law_358 : decode cL_law 358 = .ok (.iadd, 1) := by decide +kernel
theorem dL_law_359 : decode cL_law 359 = .ok (.iaload, 1) := by decide +kernel
theorem dL_law_360 : decode cL_law 360 = .ok (.aload_n 0, 1) := by decide +kernel
theorem dL_law_361 : decode cL_law 361 = .ok (.iload_n 3, 1) := by decide +kernel
theorem dL_law_362 : decode cL_law 362 = .ok (.iconst 2, 1) := by decide +kernel
theorem dL_law_363 : decode cL_law 363 = .ok (.iadd, 1) := by decide +kernel
theorem dL_law_364 : decode cL_law 364 = .ok (.iaload, 1) := by decide +kernel
theorem dL_law_365 : decode cL_law 365 = .ok (.aload_n 0, 1) := by decide +kernel
theorem dL_law_366 : decode cL_law 366 = .ok (.iload_n 3, 1) := by decide +kernel
theorem dL_law_367 : decode cL_law 367 = .ok (.iconst 3, 1) := by decide +kernel
theorem dL_law_368 : decode cL_law 368 = .ok (.iadd, 1) := by decide +kernel
theorem dL_law_369 : decode cL_law 369 = .ok (.iaload, 1) := by decide +kernel
theorem dL_law_370 : decode cL_law 370 = .ok (.invokevirtual 40, 3) := by decide +kernel
theorem dL_law_373 : decode cL_law 373 = .ok (.aload_n 2, 1) := by decide +kernel
theorem dL_law_374 : decode cL_law 374 = .ok (.aload_n 0, 1) := by decide +kernel
theorem dL_law_375 : decode cL_law 375 = .ok (.iload_n 3, 1) := by decide +kernel
theorem dL_law_376 : decode cL_law 376 = .ok (.iconst 1, 1) := by decide +kernel
theorem dL_law_377 : decode cL_law 377 = .ok (.iadd, 1) := by decide +kernel
theorem dL_law_378 : decode cL_law 378 = .ok (.iaload, 1) := by decide +kernel
theorem dL_law_379 : decode cL_law 379 = .ok (.aload_n 0, 1) := by decide +kernel
theorem dL_law_380 : decode cL_law 380 = .ok (.iload_n 3, 1) := by decide +kernel
theorem dL_law_381 : decode cL_law 381 = .ok (.iconst 2, 1) := by decide +kernel
theorem dL_law_382 : decode cL_law 382 = .ok (.iadd, 1) := by decide +kernel
theorem dL_law_383 : decode cL_law 383 = .ok (.iaload, 1) := by decide +kernel
theorem dL_law_384 : decode cL_law 384 = .ok (.aload_n 0, 1) := by decide +kernel
theorem dL_law_385 : decode cL_law 385 = .ok (.iload_n 3, 1) := by decide +kernel
theorem dL_law_386 : decode cL_law 386 = .ok (.iconst 3, 1) := by decide +kernel
theorem dL_law_387 : decode cL_law 387 = .ok (.iadd, 1) := by decide +kernel
theorem dL_law_388 : decode cL_law 388 = .ok (.iaload, 1) := by decide +kernel
theorem dL_law_389 : decode cL_law 389 = .ok (.invokevirtual 44, 3) := by decide +kernel
theorem dL_law_392 : decode cL_law 392 = .ok (.lcmp, 1) := by decide +kernel
theorem dL_law_393 : decode cL_law 393 = .ok (.ifCond .eq 655, 3) := by decide +kernel
theorem dL_law_396 : decode cL_law 396 = .ok (.iconst 0, 1) := by decide +kernel
theorem dL_law_397 : decode cL_law 397 = .ok (.ireturn, 1) := by decide +kernel
theorem dL_law_398 : decode cL_law 398 = .ok (.aload_n 1, 1) := by decide +kernel
theorem dL_law_399 : decode cL_law 399 = .ok (.invokevirtual 45, 3) := by decide +kernel
theorem dL_law_402 : decode cL_law 402 = .ok (.aload_n 2, 1) := by decide +kernel
theorem dL_law_403 : decode cL_law 403 = .ok (.invokevirtual 49, 3) := by decide +kernel
theorem dL_law_406 : decode cL_law 406 = .ok (.if_icmp .eq 642, 3) := by decide +kernel
theorem dL_law_409 : decode cL_law 409 = .ok (.iconst 0, 1) := by decide +kernel
theorem dL_law_410 : decode cL_law 410 = .ok (.ireturn, 1) := by decide +kernel
theorem dL_law_411 : decode cL_law 411 = .ok (.aload_n 1, 1) := by decide +kernel
theorem dL_law_412 : decode cL_law 412 = .ok (.aload_n 0, 1) := by decide +kernel
theorem dL_law_413 : decode cL_law 413 = .ok (.iload_n 3, 1) := by decide +kernel
theorem dL_law_414 : decode cL_law 414 = .ok (.iconst 1, 1) := by decide +kernel
theorem dL_law_415 : decode cL_law 415 = .ok (.iadd, 1) := by decide +kernel
theorem dL_law_416 : decode cL_law 416 = .ok (.iaload, 1) := by decide +kernel
theorem dL_law_417 : decode cL_law 417 = .ok (.aload_n 0, 1) := by decide +kernel
theorem dL_law_418 : decode cL_law 418 = .ok (.iload_n 3, 1) := by decide +kernel
theorem dL_law_419 : decode cL_law 419 = .ok (.iconst 2, 1) := by decide +kernel
theorem dL_law_420 : decode cL_law 420 = .ok (.iadd, 1) := by decide +kernel
theorem dL_law_421 : decode cL_law 421 = .ok (.iaload, 1) := by decide +kernel
theorem dL_law_422 : decode cL_law 422 = .ok (.aload_n 0, 1) := by decide +kernel
theorem dL_law_423 : decode cL_law 423 = .ok (.iload_n 3, 1) := by decide +kernel
theorem dL_law_424 : decode cL_law 424 = .ok (.iconst 3, 1) := by decide +kernel
theorem dL_law_425 : decode cL_law 425 = .ok (.iadd, 1) := by decide +kernel
theorem dL_law_426 : decode cL_law 426 = .ok (.iaload, 1) := by decide +kernel
theorem dL_law_427 : decode cL_law 427 = .ok (.invokevirtual 50, 3) := by decide +kernel
theorem dL_law_430 : decode cL_law 430 = .ok (.aload_n 2, 1) := by decide +kernel
theorem dL_law_431 : decode cL_law 431 = .ok (.aload_n 0, 1) := by decide +kernel
theorem dL_law_432 : decode cL_law 432 = .ok (.iload_n 3, 1) := by decide +kernel
theorem dL_law_433 : decode cL_law 433 = .ok (.iconst 1, 1) := by decide +kernel
theorem dL_law_434 : decode cL_law 434 = .ok (.iadd, 1) := by decide +kernel
theorem dL_law_435 : decode cL_law 435 = .ok (.iaload, 1) := by decide +kernel
theorem dL_law_436 : decode cL_law 436 = .ok (.aload_n 0, 1) := by decide +kernel
theorem dL_law_437 : decode cL_law 437 = .ok (.iload_n 3, 1) := by decide +kernel
theorem dL_law_438 : decode cL_law 438 = .ok (.iconst 2, 1) := by decide +kernel
theorem dL_law_439 : decode cL_law 439 = .ok (.iadd, 1) := by decide +kernel
theorem dL_law_440 : decode cL_law 440 = .ok (.iaload, 1) := by decide +kernel
theorem dL_law_441 : decode cL_law 441 = .ok (.aload_n 0, 1) := by decide +kernel
theorem dL_law_442 : decode cL_law 442 = .ok (.iload_n 3, 1) := by decide +kernel
theorem dL_law_443 : decode cL_law 443 = .ok (.iconst 3, 1) := by decide +kernel
theorem dL_law_444 : decode cL_law 444 = .ok (.iadd, 1) := by decide +kernel
theorem dL_law_445 : decode cL_law 445 = .ok (.iaload, 1) := by decide +kernel
theorem dL_law_446 : decode cL_law 446 = .ok (.invokevirtual 53, 3) := by decide +kernel
theorem dL_law_449 : decode cL_law 449 = .ok (.if_icmp .eq 599, 3) := by decide +kernel
theorem dL_law_452 : decode cL_law 452 = .ok (.iconst 0, 1) := by decide +kernel
theorem dL_law_453 : decode cL_law 453 = .ok (.ireturn, 1) := by decide +kernel
theorem dL_law_454 : decode cL_law 454 = .ok (.aload_n 1, 1) := by decide +kernel
theorem dL_law_455 : decode cL_law 455 = .ok (.aload_n 0, 1) := by decide +kernel
theorem dL_law_456 : decode cL_law 456 = .ok (.iload_n 3, 1) := by decide +kernel
theorem dL_law_457 : decode cL_law 457 = .ok (.iconst 1, 1) := by decide +kernel
theorem dL_law_458 : decode cL_law 458 = .ok (.iadd, 1) := by decide +kernel
theorem dL_law_459 : decode cL_law 459 = .ok (.iaload, 1) := by decide +kernel
theorem dL_law_460 : decode cL_law 460 = .ok (.aload_n 0, 1) := by decide +kernel
theorem dL_law_461 : decode cL_law 461 = .ok (.iload_n 3, 1) := by decide +kernel
theorem dL_law_462 : decode cL_law 462 = .ok (.iconst 2, 1) := by decide +kernel
theorem dL_law_463 : decode cL_law 463 = .ok (.iadd, 1) := by decide +kernel
theorem dL_law_464 : decode cL_law 464 = .ok (.iaload, 1) := by decide +kernel
theorem dL_law_465 : decode cL_law 465 = .ok (.aload_n 0, 1) := by decide +kernel
theorem dL_law_466 : decode cL_law 466 = .ok (.iload_n 3, 1) := by decide +kernel
theorem dL_law_467 : decode cL_law 467 = .ok (.iconst 3, 1) := by decide +kernel
theorem dL_law_468 : decode cL_law 468 = .ok (.iadd, 1) := by decide +kernel
theorem dL_law_469 : decode cL_law 469 = .ok (.iaload, 1) := by decide +kernel
theorem dL_law_470 : decode cL_law 470 = .ok (.invokevirtual 54, 3) := by decide +kernel
theorem dL_law_473 : decode cL_law 473 = .ok (.aload_n 2, 1) := by decide +kernel
theorem dL_law_474 : decode cL_law 474 = .ok (.aload_n 0, 1) := by decide +kernel
theorem dL_law_475 : decode cL_law 475 = .ok (.iload_n 3, 1) := by decide +kernel
theorem dL_law_476 : decode cL_law 476 = .ok (.iconst 1, 1) := by decide +kernel
theorem dL_law_477 : decode cL_law 477 = .ok (.iadd, 1) := by decide +kernel
theorem dL_law_478 : decode cL_law 478 = .ok (.iaload, 1) := by decide +kernel
theorem dL_law_479 : decode cL_law 479 = .ok (.aload_n 0, 1) := by decide +kernel
theorem dL_law_480 : decode cL_law 480 = .ok (.iload_n 3, 1) := by decide +kernel
theorem dL_law_481 : decode cL_law 481 = .ok (.iconst 2, 1) := by decide +kernel
theorem dL_law_482 : decode cL_law 482 = .ok (.iadd, 1) := by decide +kernel
theorem dL_law_483 : decode cL_law 483 = .ok (.iaload, 1) := by decide +kernel
theorem dL_law_484 : decode cL_law 484 = .ok (.aload_n 0, 1) := by decide +kernel
theorem dL_law_485 : decode cL_law 485 = .ok (.iload_n 3, 1) := by decide +kernel
theorem dL_law_486 : decode cL_law 486 = .ok (.iconst 3, 1) := by decide +kernel
theorem dL_law_487 : decode cL_law 487 = .ok (.iadd, 1) := by decide +kernel
theorem dL_law_488 : decode cL_law 488 = .ok (.iaload, 1) := by decide +kernel
theorem dL_law_489 : decode cL_law 489 = .ok (.invokevirtual 57, 3) := by decide +kernel
theorem dL_law_492 : decode cL_law 492 = .ok (.if_icmp .eq 556, 3) := by decide +kernel
theorem dL_law_495 : decode cL_law 495 = .ok (.iconst 0, 1) := by decide +kernel
theorem dL_law_496 : decode cL_law 496 = .ok (.ireturn, 1) := by decide +kernel
theorem dL_law_497 : decode cL_law 497 = .ok (.aload_n 1, 1) := by decide +kernel
theorem dL_law_498 : decode cL_law 498 = .ok (.aload_n 0, 1) := by decide +kernel
theorem dL_law_499 : decode cL_law 499 = .ok (.iload_n 3, 1) := by decide +kernel
theorem dL_law_500 : decode cL_law 500 = .ok (.iconst 1, 1) := by decide +kernel
theorem dL_law_501 : decode cL_law 501 = .ok (.iadd, 1) := by decide +kernel
theorem dL_law_502 : decode cL_law 502 = .ok (.iaload, 1) := by decide +kernel
theorem dL_law_503 : decode cL_law 503 = .ok (.aload_n 0, 1) := by decide +kernel
theorem dL_law_504 : decode cL_law 504 = .ok (.iload_n 3, 1) := by decide +kernel
theorem dL_law_505 : decode cL_law 505 = .ok (.iconst 2, 1) := by decide +kernel
theorem dL_law_506 : decode cL_law 506 = .ok (.iadd, 1) := by decide +kernel
theorem dL_law_507 : decode cL_law 507 = .ok (.iaload, 1) := by decide +kernel
theorem dL_law_508 : decode cL_law 508 = .ok (.invokevirtual 58, 3) := by decide +kernel
theorem dL_law_511 : decode cL_law 511 = .ok (.aload_n 2, 1) := by decide +kernel
theorem dL_law_512 : decode cL_law 512 = .ok (.aload_n 0, 1) := by decide +kernel
theorem dL_law_513 : decode cL_law 513 = .ok (.iload_n 3, 1) := by decide +kernel
theorem dL_law_514 : decode cL_law 514 = .ok (.iconst 1, 1) := by decide +kernel
theorem dL_law_515 : decode cL_law 515 = .ok (.iadd, 1) := by decide +kernel
theorem dL_law_516 : decode cL_law 516 = .ok (.iaload, 1) := by decide +kernel
theorem dL_law_517 : decode cL_law 517 = .ok (.aload_n 0, 1) := by decide +kernel
theorem dL_law_518 : decode cL_law 518 = .ok (.iload_n 3, 1) := by decide +kernel
theorem dL_law_519 : decode cL_law 519 = .ok (.iconst 2, 1) := by decide +kernel
theorem dL_law_520 : decode cL_law 520 = .ok (.iadd, 1) := by decide +kernel
theorem dL_law_521 : decode cL_law 521 = .ok (.iaload, 1) := by decide +kernel
theorem dL_law_522 : decode cL_law 522 = .ok (.invokevirtual 61, 3) := by decide +kernel
theorem dL_law_525 : decode cL_law 525 = .ok (.if_icmp .eq 523, 3) := by decide +kernel
theorem dL_law_528 : decode cL_law 528 = .ok (.iconst 0, 1) := by decide +kernel
theorem dL_law_529 : decode cL_law 529 = .ok (.ireturn, 1) := by decide +kernel
theorem dL_law_530 : decode cL_law 530 = .ok (.aload_n 1, 1) := by decide +kernel
theorem dL_law_531 : decode cL_law 531 = .ok (.aload_n 0, 1) := by decide +kernel
theorem dL_law_532 : decode cL_law 532 = .ok (.iload_n 3, 1) := by decide +kernel
theorem dL_law_533 : decode cL_law 533 = .ok (.iconst 1, 1) := by decide +kernel
theorem dL_law_534 : decode cL_law 534 = .ok (.iadd, 1) := by decide +kernel
theorem dL_law_535 : decode cL_law 535 = .ok (.iaload, 1) := by decide +kernel
theorem dL_law_536 : decode cL_law 536 = .ok (.invokevirtual 62, 3) := by decide +kernel
theorem dL_law_539 : decode cL_law 539 = .ok (.aload_n 2, 1) := by decide +kernel
theorem dL_law_540 : decode cL_law 540 = .ok (.aload_n 0, 1) := by decide +kernel
theorem dL_law_541 : decode cL_law 541 = .ok (.iload_n 3, 1) := by decide +kernel
theorem dL_law_542 : decode cL_law 542 = .ok (.iconst 1, 1) := by decide +kernel
theorem dL_law_543 : decode cL_law 543 = .ok (.iadd, 1) := by decide +kernel
theorem dL_law_544 : decode cL_law 544 = .ok (.iaload, 1) := by decide +kernel
theorem dL_law_545 : decode cL_law 545 = .ok (.invokevirtual 65, 3) := by decide +kernel
theorem dL_law_548 : decode cL_law 548 = .ok (.if_icmp .eq 500, 3) := by decide +kernel
theorem dL_law_551 : decode cL_law 551 = .ok (.iconst 0, 1) := by decide +kernel
theorem dL_law_552 : decode cL_law 552 = .ok (.ireturn, 1) := by decide +kernel
theorem dL_law_553 : decode cL_law 553 = .ok (.aload_n 1, 1) := by decide +kernel
theorem dL_law_554 : decode cL_law 554 = .ok (.aload_n 0, 1) := by decide +kernel
theorem dL_law_555 : decode cL_law 555 = .ok (.iload_n 3, 1) := by decide +kernel
theorem dL_law_556 : decode cL_law 556 = .ok (.iconst 1, 1) := by decide +kernel
theorem dL_law_557 : decode cL_law 557 = .ok (.iadd, 1) := by decide +kernel
theorem dL_law_558 : decode cL_law 558 = .ok (.iaload, 1) := by decide +kernel
theorem dL_law_559 : decode cL_law 559 = .ok (.invokevirtual 66, 3) := by decide +kernel
theorem dL_law_562 : decode cL_law 562 = .ok (.aload_n 2, 1) := by decide +kernel
theorem dL_law_563 : decode cL_law 563 = .ok (.aload_n 0, 1) := by decide +kernel
theorem dL_law_564 : decode cL_law 564 = .ok (.iload_n 3, 1) := by decide +kernel
theorem dL_law_565 : decode cL_law 565 = .ok (.iconst 1, 1) := by decide +kernel
theorem dL_law_566 : decode cL_law 566 = .ok (.iadd, 1) := by decide +kernel
theorem dL_law_567 : decode cL_law 567 = .ok (.iaload, 1) := by decide +kernel
theorem dL_law_568 : decode cL_law 568 = .ok (.invokevirtual 69, 3) := by decide +kernel
theorem dL_law_571 : decode cL_law 571 = .ok (.if_icmp .eq 477, 3) := by decide +kernel
theorem dL_law_574 : decode cL_law 574 = .ok (.iconst 0, 1) := by decide +kernel
theorem dL_law_575 : decode cL_law 575 = .ok (.ireturn, 1) := by decide +kernel
theorem dL_law_576 : decode cL_law 576 = .ok (.aload_n 1, 1) := by decide +kernel
theorem dL_law_577 : decode cL_law 577 = .ok (.aload_n 0, 1) := by decide +kernel
theorem dL_law_578 : decode cL_law 578 = .ok (.iload_n 3, 1) := by decide +kernel
end
section
theorem dL_law_579 : decode cL_law 579 = .ok (.iconst 1, 1) := by decide +kernel
theorem dL_law_580 : decode cL_law 580 = .ok (.iadd, 1) := by decide +kernel
theorem dL_law_581 : decode cL_law 581 = .ok (.iaload, 1) := by decide +kernel
theorem dL_law_582 : decode cL_law 582 = .ok (.aload_n 0, 1) := by decide +kernel
theorem dL_law_583 : decode cL_law 583 = .ok (.iload_n 3, 1) := by decide +kernel
theorem dL_law_584 : decode cL_law 584 = .ok (.iconst 2, 1) := by decide +kernel
theorem dL_law_585 : decode cL_law 585 = .ok (.iadd, 1) := by decide +kernel
theorem dL_law_586 : decode cL_law 586 = .ok (.iaload, 1) := by decide +kernel
theorem dL_law_587 : decode cL_law 587 = .ok (.invokevirtual 70, 3) := by decide +kernel
theorem dL_law_590 : decode cL_law 590 = .ok (.aload_n 2, 1) := by decide +kernel
theorem dL_law_591 : decode cL_law 591 = .ok (.aload_n 0, 1) := by decide +kernel
theorem dL_law_592 : decode cL_law 592 = .ok (.iload_n 3, 1) := by decide +kernel
theorem dL_law_593 : decode cL_law 593 = .ok (.iconst 1, 1) := by decide +kernel
theorem dL_law_594 : decode cL_law 594 = .ok (.iadd, 1) := by decide +kernel
theorem dL_law_595 : decode cL_law 595 = .ok (.iaload, 1) := by decide +kernel
theorem dL_law_596 : decode cL_law 596 = .ok (.aload_n 0, 1) := by decide +kernel
theorem dL_law_597 : decode cL_law 597 = .ok (.iload_n 3, 1) := by decide +kernel
theorem dL_law_598 : decode cL_law 598 = .ok (.iconst 2, 1) := by decide +kernel
theorem dL_law_599 : decode cL_law 599 = .ok (.iadd, 1) := by decide +kernel
theorem dL_law_600 : decode cL_law 600 = .ok (.iaload, 1) := by decide +kernel
theorem dL_law_601 : decode cL_law 601 = .ok (.invokevirtual 73, 3) := by decide +kernel
theorem dL_law_604 : decode cL_law 604 = .ok (.if_icmp .eq 444, 3) := by decide +kernel
theorem dL_law_607 : decode cL_law 607 = .ok (.iconst 0, 1) := by decide +kernel
theorem dL_law_608 : decode cL_law 608 = .ok (.ireturn, 1) := by decide +kernel
theorem dL_law_609 : decode cL_law 609 = .ok (.aload_n 1, 1) := by decide +kernel
theorem dL_law_610 : decode cL_law 610 = .ok (.aload_n 0, 1) := by decide +kernel
theorem dL_law_611 : decode cL_law 611 = .ok (.iload_n 3, 1) := by decide +kernel
theorem dL_law_612 : decode cL_law 612 = .ok (.iconst 1, 1) := by decide +kernel
theorem dL_law_613 : decode cL_law 613 = .ok (.iadd, 1) := by decide +kernel
theorem dL_law_614 : decode cL_law 614 = .ok (.iaload, 1) := by decide +kernel
theorem dL_law_615 : decode cL_law 615 = .ok (.invokevirtual 74, 3) := by decide +kernel
theorem dL_law_618 : decode cL_law 618 = .ok (.aload_n 2, 1) := by decide +kernel
theorem dL_law_619 : decode cL_law 619 = .ok (.aload_n 0, 1) := by decide +kernel
theorem dL_law_620 : decode cL_law 620 = .ok (.iload_n 3, 1) := by decide +kernel
theorem dL_law_621 : decode cL_law 621 = .ok (.iconst 1, 1) := by decide +kernel
theorem dL_law_622 : decode cL_law 622 = .ok (.iadd, 1) := by decide +kernel
theorem dL_law_623 : decode cL_law 623 = .ok (.iaload, 1) := by decide +kernel
theorem dL_law_624 : decode cL_law 624 = .ok (.invokevirtual 77, 3) := by decide +kernel
theorem dL_law_627 : decode cL_law 627 = .ok (.if_icmp .eq 421, 3) := by decide +kernel
theorem dL_law_630 : decode cL_law 630 = .ok (.iconst 0, 1) := by decide +kernel
theorem dL_law_631 : decode cL_law 631 = .ok (.ireturn, 1) := by decide +kernel
theorem dL_law_632 : decode cL_law 632 = .ok (.aload_n 1, 1) := by decide +kernel
theorem dL_law_633 : decode cL_law 633 = .ok (.invokevirtual 78, 3) := by decide +kernel
theorem dL_law_636 : decode cL_law 636 = .ok (.aload_n 2, 1) := by decide +kernel
theorem dL_law_637 : decode cL_law 637 = .ok (.invokevirtual 81, 3) := by decide +kernel
theorem dL_law_640 : decode cL_law 640 = .ok (.if_icmp .eq 408, 3) := by decide +kernel
theorem dL_law_643 : decode cL_law 643 = .ok (.iconst 0, 1) := by decide +kernel
theorem dL_law_644 : decode cL_law 644 = .ok (.ireturn, 1) := by decide +kernel
theorem dL_law_645 : decode cL_law 645 = .ok (.aload_n 1, 1) := by decide +kernel
theorem dL_law_646 : decode cL_law 646 = .ok (.aload_n 0, 1) := by decide +kernel
theorem dL_law_647 : decode cL_law 647 = .ok (.iload_n 3, 1) := by decide +kernel
theorem dL_law_648 : decode cL_law 648 = .ok (.iconst 1, 1) := by decide +kernel
theorem dL_law_649 : decode cL_law 649 = .ok (.iadd, 1) := by decide +kernel
theorem dL_law_650 : decode cL_law 650 = .ok (.iaload, 1) := by decide +kernel
theorem dL_law_651 : decode cL_law 651 = .ok (.invokevirtual 82, 3) := by decide +kernel
theorem dL_law_654 : decode cL_law 654 = .ok (.aload_n 2, 1) := by decide +kernel
theorem dL_law_655 : decode cL_law 655 = .ok (.aload_n 0, 1) := by decide +kernel
theorem dL_law_656 : decode cL_law 656 = .ok (.iload_n 3, 1) := by decide +kernel
theorem dL_law_657 : decode cL_law 657 = .ok (.iconst 1, 1) := by decide +kernel
theorem dL_law_658 : decode cL_law 658 = .ok (.iadd, 1) := by decide +kernel
theorem dL_law_659 : decode cL_law 659 = .ok (.iaload, 1) := by decide +kernel
theorem dL_law_660 : decode cL_law 660 = .ok (.invokevirtual 85, 3) := by decide +kernel
theorem dL_law_663 : decode cL_law 663 = .ok (.if_icmp .eq 385, 3) := by decide +kernel
theorem dL_law_666 : decode cL_law 666 = .ok (.iconst 0, 1) := by decide +kernel
theorem dL_law_667 : decode cL_law 667 = .ok (.ireturn, 1) := by decide +kernel
theorem dL_law_668 : decode cL_law 668 = .ok (.aload_n 1, 1) := by decide +kernel
theorem dL_law_669 : decode cL_law 669 = .ok (.invokevirtual 86, 3) := by decide +kernel
theorem dL_law_672 : decode cL_law 672 = .ok (.aload_n 2, 1) := by decide +kernel
theorem dL_law_673 : decode cL_law 673 = .ok (.invokevirtual 89, 3) := by decide +kernel
theorem dL_law_676 : decode cL_law 676 = .ok (.if_icmp .eq 372, 3) := by decide +kernel
theorem dL_law_679 : decode cL_law 679 = .ok (.iconst 0, 1) := by decide +kernel
theorem dL_law_680 : decode cL_law 680 = .ok (.ireturn, 1) := by decide +kernel
theorem dL_law_681 : decode cL_law 681 = .ok (.aload_n 1, 1) := by decide +kernel
theorem dL_law_682 : decode cL_law 682 = .ok (.aload_n 0, 1) := by decide +kernel
theorem dL_law_683 : decode cL_law 683 = .ok (.iload_n 3, 1) := by decide +kernel
theorem dL_law_684 : decode cL_law 684 = .ok (.iconst 1, 1) := by decide +kernel
theorem dL_law_685 : decode cL_law 685 = .ok (.iadd, 1) := by decide +kernel
theorem dL_law_686 : decode cL_law 686 = .ok (.iaload, 1) := by decide +kernel
theorem dL_law_687 : decode cL_law 687 = .ok (.invokevirtual 90, 3) := by decide +kernel
theorem dL_law_690 : decode cL_law 690 = .ok (.aload_n 2, 1) := by decide +kernel
theorem dL_law_691 : decode cL_law 691 = .ok (.aload_n 0, 1) := by decide +kernel
theorem dL_law_692 : decode cL_law 692 = .ok (.iload_n 3, 1) := by decide +kernel
theorem dL_law_693 : decode cL_law 693 = .ok (.iconst 1, 1) := by decide +kernel
theorem dL_law_694 : decode cL_law 694 = .ok (.iadd, 1) := by decide +kernel
theorem dL_law_695 : decode cL_law 695 = .ok (.iaload, 1) := by decide +kernel
theorem dL_law_696 : decode cL_law 696 = .ok (.invokevirtual 93, 3) := by decide +kernel
theorem dL_law_699 : decode cL_law 699 = .ok (.if_icmp .eq 349, 3) := by decide +kernel
theorem dL_law_702 : decode cL_law 702 = .ok (.iconst 0, 1) := by decide +kernel
theorem dL_law_703 : decode cL_law 703 = .ok (.ireturn, 1) := by decide +kernel
theorem dL_law_704 : decode cL_law 704 = .ok (.aload_n 1, 1) := by decide +kernel
theorem dL_law_705 : decode cL_law 705 = .ok (.invokevirtual 94, 3) := by decide +kernel
theorem dL_law_708 : decode cL_law 708 = .ok (.aload_n 2, 1) := by decide +kernel
theorem dL_law_709 : decode cL_law 709 = .ok (.invokevirtual 97, 3) := by decide +kernel
theorem dL_law_712 : decode cL_law 712 = .ok (.if_icmp .eq 336, 3) := by decide +kernel
theorem dL_law_715 : decode cL_law 715 = .ok (.iconst 0, 1) := by decide +kernel
theorem dL_law_716 : decode cL_law 716 = .ok (.ireturn, 1) := by decide +kernel
theorem dL_law_717 : decode cL_law 717 = .ok (.aload_n 1, 1) := by decide +kernel
theorem dL_law_718 : decode cL_law 718 = .ok (.invokevirtual 98, 3) := by decide +kernel
theorem dL_law_721 : decode cL_law 721 = .ok (.aload_n 2, 1) := by decide +kernel
theorem dL_law_722 : decode cL_law 722 = .ok (.invokevirtual 101, 3) := by decide +kernel
theorem dL_law_725 : decode cL_law 725 = .ok (.if_icmp .eq 323, 3) := by decide +kernel
theorem dL_law_728 : decode cL_law 728 = .ok (.iconst 0, 1) := by decide +kernel
theorem dL_law_729 : decode cL_law 729 = .ok (.ireturn, 1) := by decide +kernel
theorem dL_law_730 : decode cL_law 730 = .ok (.aload_n 1, 1) := by decide +kernel
theorem dL_law_731 : decode cL_law 731 = .ok (.aload_n 0, 1) := by decide +kernel
theorem dL_law_732 : decode cL_law 732 = .ok (.iload_n 3, 1) := by decide +kernel
theorem dL_law_733 : decode cL_law 733 = .ok (.iconst 1, 1) := by decide +kernel
theorem dL_law_734 : decode cL_law 734 = .ok (.iadd, 1) := by decide +kernel
theorem dL_law_735 : decode cL_law 735 = .ok (.iaload, 1) := by decide +kernel
theorem dL_law_736 : decode cL_law 736 = .ok (.aload_n 0, 1) := by decide +kernel
theorem dL_law_737 : decode cL_law 737 = .ok (.iload_n 3, 1) := by decide +kernel
theorem dL_law_738 : decode cL_law 738 = .ok (.iconst 2, 1) := by decide +kernel
theorem dL_law_739 : decode cL_law 739 = .ok (.iadd, 1) := by decide +kernel
theorem dL_law_740 : decode cL_law 740 = .ok (.iaload, 1) := by decide +kernel
theorem dL_law_741 : decode cL_law 741 = .ok (.aload_n 0, 1) := by decide +kernel
theorem dL_law_742 : decode cL_law 742 = .ok (.iload_n 3, 1) := by decide +kernel
theorem dL_law_743 : decode cL_law 743 = .ok (.iconst 3, 1) := by decide +kernel
theorem dL_law_744 : decode cL_law 744 = .ok (.iadd, 1) := by decide +kernel
theorem dL_law_745 : decode cL_law 745 = .ok (.iaload, 1) := by decide +kernel
theorem dL_law_746 : decode cL_law 746 = .ok (.aload_n 0, 1) := by decide +kernel
theorem dL_law_747 : decode cL_law 747 = .ok (.iload_n 3, 1) := by decide +kernel
theorem dL_law_748 : decode cL_law 748 = .ok (.iconst 4, 1) := by decide +kernel
theorem dL_law_749 : decode cL_law 749 = .ok (.iadd, 1) := by decide +kernel
theorem dL_law_750 : decode cL_law 750 = .ok (.iaload, 1) := by decide +kernel
theorem dL_law_751 : decode cL_law 751 = .ok (.invokevirtual 102, 3) := by decide +kernel
theorem dL_law_754 : decode cL_law 754 = .ok (.aload_n 2, 1) := by decide +kernel
theorem dL_law_755 : decode cL_law 755 = .ok (.aload_n 0, 1) := by decide +kernel
theorem dL_law_756 : decode cL_law 756 = .ok (.iload_n 3, 1) := by decide +kernel
theorem dL_law_757 : decode cL_law 757 = .ok (.iconst 1, 1) := by decide +kernel
theorem dL_law_758 : decode cL_law 758 = .ok (.iadd, 1) := by decide +kernel
theorem dL_law_759 : decode cL_law 759 = .ok (.iaload, 1) := by decide +kernel
theorem dL_law_760 : decode cL_law 760 = .ok (.aload_n 0, 1) := by decide +kernel
theorem dL_law_761 : decode cL_law 761 = .ok (.iload_n 3, 1) := by decide +kernel
theorem dL_law_762 : decode cL_law 762 = .ok (.iconst 2, 1) := by decide +kernel
theorem dL_law_763 : decode cL_law 763 = .ok (.iadd, 1) := by decide +kernel
theorem dL_law_764 : decode cL_law 764 = .ok (.iaload, 1) := by decide +kernel
theorem dL_law_765 : decode cL_law 765 = .ok (.aload_n 0, 1) := by decide +kernel
theorem dL_law_766 : decode cL_law 766 = .ok (.iload_n 3, 1) := by decide +kernel
theorem dL_law_767 : decode cL_law 767 = .ok (.iconst 3, 1) := by decide +kernel
theorem dL_law_768 : decode cL_law 768 = .ok (.iadd, 1) := by decide +kernel
theorem dL_law_769 : decode cL_law 769 = .ok (.iaload, 1) := by decide +kernel
theorem dL_law_770 : decode cL_law 770 = .ok (.aload_n 0, 1) := by decide +kernel
theorem dL_law_771 : decode cL_law 771 = .ok (.iload_n 3, 1) := by decide +kernel
theorem dL_law_772 : decode cL_law 772 = .ok (.iconst 4, 1) := by decide +kernel
theorem dL_law_773 : decode cL_law 773 = .ok (.iadd, 1) := by decide +kernel
theorem dL_law_774 : decode cL_law 774 = .ok (.iaload, 1) := by decide +kernel
theorem dL_law_775 : decode cL_law 775 = .ok (.invokevirtual 106, 3) := by decide +kernel
theorem dL_law_778 : decode cL_law 778 = .ok (.if_icmp .eq 270, 3) := by decide +kernel
theorem dL_law_781 : decode cL_law 781 = .ok (.iconst 0, 1) := by decide +kernel
theorem dL_law_782 : decode cL_law 782 = .ok (.ireturn, 1) := by decide +kernel
theorem dL_law_783 : decode cL_law 783 = .ok (.aload_n 1, 1) := by decide +kernel
theorem dL_law_784 : decode cL_law 784 = .ok (.aload_n 0, 1) := by decide +kernel
theorem dL_law_785 : decode cL_law 785 = .ok (.iload_n 3, 1) := by decide +kernel
theorem dL_law_786 : decode cL_law 786 = .ok (.iconst 1, 1) := by decide +kernel
theorem dL_law_787 : decode cL_law 787 = .ok (.iadd, 1) := by decide +kernel
theorem dL_law_788 : decode cL_law 788 = .ok (.iaload, 1) := by decide +kernel
theorem dL_law_789 : decode cL_law 789 = .ok (.aload_n 0, 1) := by decide +kernel
theorem dL_law_790 : decode cL_law 790 = .ok (.iload_n 3, 1) := by decide +kernel
theorem dL_law_791 : decode cL_law 791 = .ok (.iconst 2, 1) := by decide +kernel
theorem dL_law_792 : decode cL_law 792 = .ok (.iadd, 1) := by decide +kernel
theorem dL_law_793 : decode cL_law 793 = .ok (.iaload, 1) := by decide +kernel
theorem dL_law_794 : decode cL_law 794 = .ok (.aload_n 0, 1) := by decide +kernel
theorem dL_law_795 : decode cL_law 795 = .ok (.iload_n 3, 1) := by decide +kernel
theorem dL_law_796 : decode cL_law 796 = .ok (.iconst 3, 1) := by decide +kernel
theorem dL_law_797 : decode cL_law 797 = .ok (.iadd, 1) := by decide +kernel
theorem dL_law_798 : decode cL_law 798 = .ok (.iaload, 1) := by decide +kernel
theorem dL_law_799 : decode cL_law 799 = .ok (.aload_n 0, 1) := by decide +kernel
theorem dL_law_800 : decode cL_law 800 = .ok (.iload_n 3, 1) := by decide +kernel
theorem dL_law_801 : decode cL_law 801 = .ok (.iconst 4, 1) := by decide +kernel
theorem dL_law_802 : decode cL_law 802 = .ok (.iadd, 1) := by decide +kernel
theorem dL_law_803 : decode cL_law 803 = .ok (.iaload, 1) := by decide +kernel
theorem dL_law_804 : decode cL_law 804 = .ok (.invokevirtual 107, 3) := by decide +kernel
theorem dL_law_807 : decode cL_law 807 = .ok (.aload_n 2, 1) := by decide +kernel
theorem dL_law_808 : decode cL_law 808 = .ok (.aload_n 0, 1) := by decide +kernel
theorem dL_law_809 : decode cL_law 809 = .ok (.iload_n 3, 1) := by decide +kernel
theorem dL_law_810 : decode cL_law 810 = .ok (.iconst 1, 1) := by decide +kernel
theorem dL_law_811 : decode cL_law 811 = .ok (.iadd, 1) := by decide +kernel
theorem dL_law_812 : decode cL_law 812 = .ok (.iaload, 1) := by decide +kernel
theorem dL_law_813 : decode cL_law 813 = .ok (.aload_n 0, 1) := by decide +kernel
theorem dL_law_814 : decode cL_law 814 = .ok (.iload_n 3, 1) := by decide +kernel
theorem dL_law_815 : decode cL_law 815 = .ok (.iconst 2, 1) := by decide +kernel
theorem dL_law_816 : decode cL_law 816 = .ok (.iadd, 1) := by decide +kernel
theorem dL_law_817 : decode cL_law 817 = .ok (.iaload, 1) := by decide +kernel
theorem dL_law_818 : decode cL_law 818 = .ok (.aload_n 0, 1) := by decide +kernel
theorem dL_law_819 : decode cL_law 819 = .ok (.iload_n 3, 1) := by decide +kernel
theorem dL_law_820 : decode cL_law 820 = .ok (.iconst 3, 1) := by decide +kernel
theorem dL_law_821 : decode cL_law 821 = .ok (.iadd, 1) := by decide +kernel
theorem dL_law_822 : decode cL_law 822 = .ok (.iaload, 1) := by decide +kernel
theorem dL_law_823 : decode cL_law 823 = .ok (.aload_n 0, 1) := by decide +kernel
theorem dL_law_824 : decode cL_law 824 = .ok (.iload_n 3, 1) := by decide +kernel
theorem dL_law_825 : decode cL_law 825 = .ok (.iconst 4, 1) := by decide +kernel
theorem dL_law_826 : decode cL_law 826 = .ok (.iadd, 1) := by decide +kernel
theorem dL_law_827 : decode cL_law 827 = .ok (.iaload, 1) := by decide +kernel
theorem dL_law_828 : decode cL_law 828 = .ok (.invokevirtual 110, 3) := by decide +kernel
theorem dL_law_831 : decode cL_law 831 = .ok (.if_icmp .eq 217, 3) := by decide +kernel
theorem dL_law_834 : decode cL_law 834 = .ok (.iconst 0, 1) := by decide +kernel
theorem dL_law_835 : decode cL_law 835 = .ok (.ireturn, 1) := by decide +kernel
theorem dL_law_836 : decode cL_law 836 = .ok (.aload_n 1, 1) := by decide +kernel
theorem dL_law_837 : decode cL_law 837 = .ok (.aload_n 0, 1) := by decide +kernel
theorem dL_law_838 : decode cL_law 838 = .ok (.iload_n 3, 1) := by decide +kernel
theorem dL_law_839 : decode cL_law 839 = .ok (.iconst 1, 1) := by decide +kernel
theorem dL_law_840 : decode cL_law 840 = .ok (.iadd, 1) := by decide +kernel
theorem dL_law_841 : decode cL_law 841 = .ok (.iaload, 1) := by decide +kernel
theorem dL_law_842 : decode cL_law 842 = .ok (.aload_n 0, 1) := by decide +kernel
theorem dL_law_843 : decode cL_law 843 = .ok (.iload_n 3, 1) := by decide +kernel
theorem dL_law_844 : decode cL_law 844 = .ok (.iconst 2, 1) := by decide +kernel
theorem dL_law_845 : decode cL_law 845 = .ok (.iadd, 1) := by decide +kernel
theorem dL_law_846 : decode cL_law 846 = .ok (.iaload, 1) := by decide +kernel
theorem dL_law_847 : decode cL_law 847 = .ok (.aload_n 0, 1) := by decide +kernel
theorem dL_law_848 : decode cL_law 848 = .ok (.iload_n 3, 1) := by decide +kernel
theorem dL_law_849 : decode cL_law 849 = .ok (.iconst 3, 1) := by decide +kernel
theorem dL_law_850 : decode cL_law 850 = .ok (.iadd, 1) := by decide +kernel
theorem dL_law_851 : decode cL_law 851 = .ok (.iaload, 1) := by decide +kernel
theorem dL_law_852 : decode cL_law 852 = .ok (.invokevirtual 111, 3) := by decide +kernel
theorem dL_law_855 : decode cL_law 855 = .ok (.aload_n 2, 1) := by decide +kernel
theorem dL_law_856 : decode cL_law 856 = .ok (.aload_n 0, 1) := by decide +kernel
theorem dL_law_857 : decode cL_law 857 = .ok (.iload_n 3, 1) := by decide +kernel
theorem dL_law_858 : decode cL_law 858 = .ok (.iconst 1, 1) := by decide +kernel
theorem dL_law_859 : decode cL_law 859 = .ok (.iadd, 1) := by decide +kernel
theorem dL_law_860 : decode cL_law 860 = .ok (.iaload, 1) := by decide +kernel
theorem dL_law_861 : decode cL_law 861 = .ok (.aload_n 0, 1) := by decide +kernel
theorem dL_law_862 : decode cL_law 862 = .ok (.iload_n 3, 1) := by decide +kernel
theorem dL_law_863 : decode cL_law 863 = .ok (.iconst 2, 1) := by decide +kernel
theorem dL_law_864 : decode cL_law 864 = .ok (.iadd, 1) := by decide +kernel
theorem dL_law_865 : decode cL_law 865 = .ok (.iaload, 1) := by decide +kernel
theorem dL_law_866 : decode cL_law 866 = .ok (.aload_n 0, 1) := by decide +kernel
theorem dL_law_867 : decode cL_law 867 = .ok (.iload_n 3, 1) := by decide +kernel
theorem dL_law_868 : decode cL_law 868 = .ok (.iconst 3, 1) := by decide +kernel
theorem dL_law_869 : decode cL_law 869 = .ok (.iadd, 1) := by decide +kernel
theorem dL_law_870 : decode cL_law 870 = .ok (.iaload, 1) := by decide +kernel
theorem dL_law_871 : decode cL_law 871 = .ok (.invokevirtual 114, 3) := by decide +kernel
theorem dL_law_874 : decode cL_law 874 = .ok (.if_icmp .eq 174, 3) := by decide +kernel
theorem dL_law_877 : decode cL_law 877 = .ok (.iconst 0, 1) := by decide +kernel
theorem dL_law_878 : decode cL_law 878 = .ok (.ireturn, 1) := by decide +kernel
theorem dL_law_879 : decode cL_law 879 = .ok (.aload_n 1, 1) := by decide +kernel
theorem dL_law_880 : decode cL_law 880 = .ok (.aload_n 0, 1) := by decide +kernel
theorem dL_law_881 : decode cL_law 881 = .ok (.iload_n 3, 1) := by decide +kernel
theorem dL_law_882 : decode cL_law 882 = .ok (.iconst 1, 1) := by decide +kernel
theorem dL_law_883 : decode cL_law 883 = .ok (.iadd, 1) := by decide +kernel
theorem dL_law_884 : decode cL_law 884 = .ok (.iaload, 1) := by decide +kernel
theorem dL_law_885 : decode cL_law 885 = .ok (.invokevirtual 115, 3) := by decide +kernel
theorem dL_law_888 : decode cL_law 888 = .ok (.aload_n 2, 1) := by decide +kernel
theorem dL_law_889 : decode cL_law 889 = .ok (.aload_n 0, 1) := by decide +kernel
theorem dL_law_890 : decode cL_law 890 = .ok (.iload_n 3, 1) := by decide +kernel
theorem dL_law_891 : decode cL_law 891 = .ok (.iconst 1, 1) := by decide +kernel
theorem dL_law_892 : decode cL_law 892 = .ok (.iadd, 1) := by decide +kernel
theorem dL_law_893 : decode cL_law 893 = .ok (.iaload, 1) := by decide +kernel
theorem dL_law_894 : decode cL_law 894 = .ok (.invokevirtual 118, 3) := by decide +kernel
theorem dL_law_897 : decode cL_law 897 = .ok (.if_icmp .eq 151, 3) := by decide +kernel
theorem dL_law_900 : decode cL_law 900 = .ok (.iconst 0, 1) := by decide +kernel
theorem dL_law_901 : decode cL_law 901 = .ok (.ireturn, 1) := by decide +kernel
theorem dL_law_902 : decode cL_law 902 = .ok (.aload_n 1, 1) := by decide +kernel
theorem dL_law_903 : decode cL_law 903 = .ok (.aload_n 0, 1) := by decide +kernel
theorem dL_law_904 : decode cL_law 904 = .ok (.iload_n 3, 1) := by decide +kernel
theorem dL_law_905 : decode cL_law 905 = .ok (.iconst 1, 1) := by decide +kernel
theorem dL_law_906 : decode cL_law 906 = .ok (.iadd, 1) := by decide +kernel
theorem dL_law_907 : decode cL_law 907 = .ok (.iaload, 1) := by decide +kernel
theorem dL_law_908 : decode cL_law 908 = .ok (.aload_n 0, 1) := by decide +kernel
theorem dL_law_909 : decode cL_law 909 = .ok (.iload_n 3, 1) := by decide +kernel
theorem dL_law_910 : decode cL_law 910 = .ok (.iconst 2, 1) := by decide +kernel
theorem dL_law_911 : decode cL_law 911 = .ok (.iadd, 1) := by decide +kernel
theorem dL_law_912 : decode cL_law 912 = .ok (.iaload, 1) := by decide +kernel
theorem dL_law_913 : decode cL_law 913 = .ok (.aload_n 0, 1) := by decide +kernel
theorem dL_law_914 : decode cL_law 914 = .ok (.iload_n 3, 1) := by decide +kernel
theorem dL_law_915 : decode cL_law 915 = .ok (.iconst 3, 1) := by decide +kernel
theorem dL_law_916 : decode cL_law 916 = .ok (.iadd, 1) := by decide +kernel
theorem dL_law_917 : decode cL_law 917 = .ok (.iaload, 1) := by decide +kernel
theorem dL_law_918 : decode cL_law 918 = .ok (.aload_n 0, 1) := by decide +kernel
theorem dL_law_919 : decode cL_law 919 = .ok (.iload_n 3, 1) := by decide +kernel
theorem dL_law_920 : decode cL_law 920 = .ok (.iconst 4, 1) := by decide +kernel
theorem dL_law_921 : decode cL_law 921 = .ok (.iadd, 1) := by decide +kernel
theorem dL_law_922 : decode cL_law 922 = .ok (.iaload, 1) := by decide +kernel
theorem dL_law_923 : decode cL_law 923 = .ok (.i2l, 1) := by decide +kernel
theorem dL_law_924 : decode cL_law 924 = .ok (.bipush 32, 2) := by decide +kernel
theorem dL_law_926 : decode cL_law 926 = .ok (.lshl, 1) := by decide +kernel
theorem dL_law_927 : decode cL_law 927 = .ok (.aload_n 0, 1) := by decide +kernel
theorem dL_law_928 : decode cL_law 928 = .ok (.iload_n 3, 1) := by decide +kernel
theorem dL_law_929 : decode cL_law 929 = .ok (.iconst 5, 1) := by decide +kernel
theorem dL_law_930 : decode cL_law 930 = .ok (.iadd, 1) := by decide +kernel
theorem dL_law_931 : decode cL_law 931 = .ok (.iaload, 1) := by decide +kernel
theorem dL_law_932 : decode cL_law 932 = .ok (.i2l, 1) := by decide +kernel
theorem dL_law_933 : decode cL_law 933 = .ok (.ldc2_w 119, 3) := by decide +kernel
theorem dL_law_936 : decode cL_law 936 = .ok (.land, 1) := by decide +kernel
theorem dL_law_937 : decode cL_law 937 = .ok (.lor, 1) := by decide +kernel
theorem dL_law_938 : decode cL_law 938 = .ok (.invokevirtual 121, 3) := by decide +kernel
theorem dL_law_941 : decode cL_law 941 = .ok (.aload_n 2, 1) := by decide +kernel
theorem dL_law_942 : decode cL_law 942 = .ok (.aload_n 0, 1) := by decide +kernel
theorem dL_law_943 : decode cL_law 943 = .ok (.iload_n 3, 1) := by decide +kernel
theorem dL_law_944 : decode cL_law 944 = .ok (.iconst 1, 1) := by decide +kernel
theorem dL_law_945 : decode cL_law 945 = .ok (.iadd, 1) := by decide +kernel
theorem dL_law_946 : decode cL_law 946 = .ok (.iaload, 1) := by decide +kernel
theorem dL_law_947 : decode cL_law 947 = .ok (.aload_n 0, 1) := by decide +kernel
theorem dL_law_948 : decode cL_law 948 = .ok (.iload_n 3, 1) := by decide +kernel
theorem dL_law_949 : decode cL_law 949 = .ok (.iconst 2, 1) := by decide +kernel
theorem dL_law_950 : decode cL_law 950 = .ok (.iadd, 1) := by decide +kernel
theorem dL_law_951 : decode cL_law 951 = .ok (.iaload, 1) := by decide +kernel
theorem dL_law_952 : decode cL_law 952 = .ok (.aload_n 0, 1) := by decide +kernel
theorem dL_law_953 : decode cL_law 953 = .ok (.iload_n 3, 1) := by decide +kernel
theorem dL_law_954 : decode cL_law 954 = .ok (.iconst 3, 1) := by decide +kernel
theorem dL_law_955 : decode cL_law 955 = .ok (.iadd, 1) := by decide +kernel
theorem dL_law_956 : decode cL_law 956 = .ok (.iaload, 1) := by decide +kernel
theorem dL_law_957 : decode cL_law 957 = .ok (.aload_n 0, 1) := by decide +kernel
theorem dL_law_958 : decode cL_law 958 = .ok (.iload_n 3, 1) := by decide +kernel
theorem dL_law_959 : decode cL_law 959 = .ok (.iconst 4, 1) := by decide +kernel
theorem dL_law_960 : decode cL_law 960 = .ok (.iadd, 1) := by decide +kernel
theorem dL_law_961 : decode cL_law 961 = .ok (.iaload, 1) := by decide +kernel
theorem dL_law_962 : decode cL_law 962 = .ok (.i2l, 1) := by decide +kernel
theorem dL_law_963 : decode cL_law 963 = .ok (.bipush 32, 2) := by decide +kernel
theorem dL_law_965 : decode cL_law 965 = .ok (.lshl, 1) := by decide +kernel
theorem dL_law_966 : decode cL_law 966 = .ok (.aload_n 0, 1) := by decide +kernel
theorem dL_law_967 : decode cL_law 967 = .ok (.iload_n 3, 1) := by decide +kernel
theorem dL_law_968 : decode cL_law 968 = .ok (.iconst 5, 1) := by decide +kernel
theorem dL_law_969 : decode cL_law 969 = .ok (.iadd, 1) := by decide +kernel
theorem dL_law_970 : decode cL_law 970 = .ok (.iaload, 1) := by decide +kernel
theorem dL_law_971 : decode cL_law 971 = .ok (.i2l, 1) := by decide +kernel
theorem dL_law_972 : decode cL_law 972 = .ok (.ldc2_w 119, 3) := by decide +kernel
theorem dL_law_975 : decode cL_law 975 = .ok (.land, 1) := by decide +kernel
theorem dL_law_976 : decode cL_law 976 = .ok (.lor, 1) := by decide +kernel
theorem dL_law_977 : decode cL_law 977 = .ok (.invokevirtual 125, 3) := by decide +kernel
theorem dL_law_980 : decode cL_law 980 = .ok (.if_icmp .eq 68, 3) := by decide +kernel
theorem dL_law_983 : decode cL_law 983 = .ok (.iconst 0, 1) := by decide +kernel
theorem dL_law_984 : decode cL_law 984 = .ok (.ireturn, 1) := by decide +kernel
theorem dL_law_985 : decode cL_law 985 = .ok (.aload_n 1, 1) := by decide +kernel
theorem dL_law_986 : decode cL_law 986 = .ok (.aload_n 0, 1) := by decide +kernel
theorem dL_law_987 : decode cL_law 987 = .ok (.iload_n 3, 1) := by decide +kernel
theorem dL_law_988 : decode cL_law 988 = .ok (.iconst 1, 1) := by decide +kernel
theorem dL_law_989 : decode cL_law 989 = .ok (.iadd, 1) := by decide +kernel
theorem dL_law_990 : decode cL_law 990 = .ok (.iaload, 1) := by decide +kernel
theorem dL_law_991 : decode cL_law 991 = .ok (.aload_n 0, 1) := by decide +kernel
theorem dL_law_992 : decode cL_law 992 = .ok (.iload_n 3, 1) := by decide +kernel
theorem dL_law_993 : decode cL_law 993 = .ok (.iconst 2, 1) := by decide +kernel
theorem dL_law_994 : decode cL_law 994 = .ok (.iadd, 1) := by decide +kernel
theorem dL_law_995 : decode cL_law 995 = .ok (.iaload, 1) := by decide +kernel
theorem dL_law_996 : decode cL_law 996 = .ok (.aload_n 0, 1) := by decide +kernel
theorem dL_law_997 : decode cL_law 997 = .ok (.iload_n 3, 1) := by decide +kernel
theorem dL_law_998 : decode cL_law 998 = .ok (.iconst 3, 1) := by decide +kernel
theorem dL_law_999 : decode cL_law 999 = .ok (.iadd, 1) := by decide +kernel
theorem dL_law_1000 : decode cL_law 1000 = .ok (.iaload, 1) := by decide +kernel
theorem dL_law_1001 : decode cL_law 1001 = .ok (.aload_n 0, 1) := by decide +kernel
theorem dL_law_1002 : decode cL_law 1002 = .ok (.iload_n 3, 1) := by decide +kernel
theorem dL_law_1003 : decode cL_law 1003 = .ok (.iconst 4, 1) := by decide +kernel
theorem dL_law_1004 : decode cL_law 1004 = .ok (.iadd, 1) := by decide +kernel
theorem dL_law_1005 : decode cL_law 1005 = .ok (.iaload, 1) := by decide +kernel
theorem dL_law_1006 : decode cL_law 1006 = .ok (.aload_n 0, 1) := by decide +kernel
theorem dL_law_1007 : decode cL_law 1007 = .ok (.iload_n 3, 1) := by decide +kernel
theorem dL_law_1008 : decode cL_law 1008 = .ok (.iconst 5, 1) := by decide +kernel
theorem dL_law_1009 : decode cL_law 1009 = .ok (.iadd, 1) := by decide +kernel
theorem dL_law_1010 : decode cL_law 1010 = .ok (.iaload, 1) := by decide +kernel
theorem dL_law_1011 : decode cL_law 1011 = .ok (.invokevirtual 126, 3) := by decide +kernel
theorem dL_law_1014 : decode cL_law 1014 = .ok (.aload_n 2, 1) := by decide +kernel
theorem dL_law_1015 : decode cL_law 1015 = .ok (.aload_n 0, 1) := by decide +kernel
theorem dL_law_1016 : decode cL_law 1016 = .ok (.iload_n 3, 1) := by decide +kernel
theorem dL_law_1017 : decode cL_law 1017 = .ok (.iconst 1, 1) := by decide +kernel
theorem dL_law_1018 : decode cL_law 1018 = .ok (.iadd, 1) := by decide +kernel
theorem dL_law_1019 : decode cL_law 1019 = .ok (.iaload, 1) := by decide +kernel
theorem dL_law_1020 : decode cL_law 1020 = .ok (.aload_n 0, 1) := by decide +kernel
theorem dL_law_1021 : decode cL_law 1021 = .ok (.iload_n 3, 1) := by decide +kernel
theorem dL_law_1022 : decode cL_law 1022 = .ok (.iconst 2, 1) := by decide +kernel
theorem dL_law_1023 : decode cL_law 1023 = .ok (.iadd, 1) := by decide +kernel
theorem dL_law_1024 : decode cL_law 1024 = .ok (.iaload, 1) := by decide +kernel
theorem dL_law_1025 : decode cL_law 1025 = .ok (.aload_n 0, 1) := by decide +kernel
theorem dL_law_1026 : decode cL_law 1026 = .ok (.iload_n 3, 1) := by decide +kernel
theorem dL_law_1027 : decode cL_law 1027 = .ok (.iconst 3, 1) := by decide +kernel
theorem dL_law_1028 : decode cL_law 1028 = .ok (.iadd, 1) := by decide +kernel
theorem dL_law_1029 : decode cL_law 1029 = .ok (.iaload, 1) := by decide +kernel
theorem dL_law_1030 : decode cL_law 1030 = .ok (.aload_n 0, 1) := by decide +kernel
theorem dL_law_1031 : decode cL_law 1031 = .ok (.iload_n 3, 1) := by decide +kernel
theorem dL_law_1032 : decode cL_law 1032 = .ok (.iconst 4, 1) := by decide +kernel
theorem dL_law_1033 : decode cL_law 1033 = .ok (.iadd, 1) := by decide +kernel
theorem dL_law_1034 : decode cL_law 1034 = .ok (.iaload, 1) := by decide +kernel
theorem dL_law_1035 : decode cL_law 1035 = .ok (.aload_n 0, 1) := by decide +kernel
theorem dL_law_1036 : decode cL_law 1036 = .ok (.iload_n 3, 1) := by decide +kernel
theorem dL_law_1037 : decode cL_law 1037 = .ok (.iconst 5, 1) := by decide +kernel
theorem dL_law_1038 : decode cL_law 1038 = .ok (.iadd, 1) := by decide +kernel
theorem dL_law_1039 : decode cL_law 1039 = .ok (.iaload, 1) := by decide +kernel
theorem dL_law_1040 : decode cL_law 1040 = .ok (.invokevirtual 130, 3) := by decide +kernel
theorem dL_law_1043 : decode cL_law 1043 = .ok (.if_icmp .eq 5, 3) := by decide +kernel
theorem dL_law_1046 : decode cL_law 1046 = .ok (.iconst 0, 1) := by decide +kernel
theorem dL_law_1047 : decode cL_law 1047 = .ok (.ireturn, 1) := by decide +kernel
theorem dL_law_1048 : decode cL_law 1048 = .ok (.iinc 3 6, 3) := by decide +kernel
theorem dL_law_1051 : decode cL_law 1051 = .ok (.goto (-1033), 3) := by decide +kernel
theorem dL_law_1054 : decode cL_law 1054 = .ok (.iconst 1, 1) := by decide +kernel
theorem dL_law_1055 : decode cL_law 1055 = .ok (.ireturn, 1) := by decide +kernel
end

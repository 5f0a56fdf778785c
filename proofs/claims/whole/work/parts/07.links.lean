theorem t_1 {w : Cond} (h : w ∈ tables_1_1) : w ∈ lw_tbl := List.mem_append_right _ (List.mem_append_left _ h)
theorem t_2 {w : Cond} (h : w ∈ tables_1_2) : w ∈ lw_tbl := List.mem_append_right _ (List.mem_append_right _ (List.mem_append_left _ h))
theorem t_3 {w : Cond} (h : w ∈ tables_1_3) : w ∈ lw_tbl := List.mem_append_right _ (List.mem_append_right _ (List.mem_append_right _ (List.mem_append_left _ h)))
theorem t_4 {w : Cond} (h : w ∈ tables_1_4) : w ∈ lw_tbl := List.mem_append_right _ (List.mem_append_right _ (List.mem_append_right _ (List.mem_append_right _ h)))
theorem w_1_0 : (Jvm.Cond.initialized "LoopJudgeLaw") ∈ TB := tb_of (t_1 (List.mem_of_getElem? (i := 0) rfl)) rfl
theorem w_1_1 : (Jvm.Cond.initialized "LoopJudge") ∈ TB := tb_of (t_1 (List.mem_of_getElem? (i := 1) rfl)) rfl
theorem w_1_2 : (Jvm.Cond.initialized "LoopJudge$Setting") ∈ TB := tb_of (t_1 (List.mem_of_getElem? (i := 2) rfl)) rfl
theorem w_1_3 : (Jvm.Cond.initialized "LoopJudge$Past") ∈ TB := tb_of (t_1 (List.mem_of_getElem? (i := 3) rfl)) rfl
theorem w_1_4 : (Jvm.Cond.initialized "LoopJudge$Tape") ∈ TB := tb_of (t_1 (List.mem_of_getElem? (i := 4) rfl)) rfl
theorem w_1_5 : (Jvm.Cond.initialized "LoopJudge$Shelf") ∈ TB := tb_of (t_1 (List.mem_of_getElem? (i := 5) rfl)) rfl
theorem w_1_6 : (Jvm.Cond.initialized "LoopJudge$Judge") ∈ TB := tb_of (t_1 (List.mem_of_getElem? (i := 6) rfl)) rfl
theorem w_1_7 : (Jvm.Cond.initialized "LoopJudge$Chain") ∈ TB := tb_of (t_1 (List.mem_of_getElem? (i := 7) rfl)) rfl
theorem w_1_8 : (Jvm.Cond.initialized "LoopJudge$SpanBook") ∈ TB := tb_of (t_1 (List.mem_of_getElem? (i := 8) rfl)) rfl
theorem w_1_9 : (Jvm.Cond.initialized "LoopJudgeModel") ∈ TB := tb_of (t_1 (List.mem_of_getElem? (i := 9) rfl)) rfl
theorem w_1_10 : (Jvm.Cond.initialized "java/lang/System") ∈ TB := tb_of (t_1 (List.mem_of_getElem? (i := 10) rfl)) rfl
theorem w_1_11 : (Jvm.Cond.initialized "java/lang/Math") ∈ TB := tb_of (t_1 (List.mem_of_getElem? (i := 11) rfl)) rfl
theorem w_1_12 : (Jvm.Cond.initialized "java/lang/Integer") ∈ TB := tb_of (t_1 (List.mem_of_getElem? (i := 12) rfl)) rfl
theorem w_1_13 : (Jvm.Cond.initialized "java/util/Arrays") ∈ TB := tb_of (t_1 (List.mem_of_getElem? (i := 13) rfl)) rfl
theorem w_1_14 : (Jvm.Cond.classLink "LoopJudgeLaw" (7 : Nat) "LoopJudge") ∈ TB := tb_of (t_1 (List.mem_of_getElem? (i := 14) rfl)) rfl
theorem w_1_15 : (Jvm.Cond.instantiable "LoopJudge" (11 : Nat)) ∈ TB := tb_of (t_1 (List.mem_of_getElem? (i := 15) rfl)) rfl
theorem w_1_16 : (Jvm.Cond.methodLink "LoopJudgeLaw" (9 : Nat) ({ cls := "LoopJudge", name := "<init>", desc := "()V" } : Jvm.MethodName)) ∈ TB := tb_of (t_1 (List.mem_of_getElem? (i := 16) rfl)) rfl
theorem w_1_17 : (Jvm.Cond.instanceMethod ({ cls := "LoopJudge", name := "<init>", desc := "()V" } : Jvm.MethodName)) ∈ TB := tb_of (t_1 (List.mem_of_getElem? (i := 17) rfl)) rfl
theorem w_1_18 : (Jvm.Cond.code ({ cls := "LoopJudge", name := "<init>", desc := "()V" } : Jvm.MethodName) prog_1_method_1_code (1 : Nat) (Option.none : Option Jvm.ClassFile.FieldType)) ∈ TB := tb_of (t_1 (List.mem_of_getElem? (i := 18) rfl)) rfl
theorem w_1_19 : (Jvm.Cond.methodLink "LoopJudge" (3 : Nat) ({ cls := "java/lang/Object", name := "<init>", desc := "()V" } : Jvm.MethodName)) ∈ TB := tb_of (t_1 (List.mem_of_getElem? (i := 19) rfl)) rfl
theorem w_1_20 : (Jvm.Cond.instanceMethod ({ cls := "java/lang/Object", name := "<init>", desc := "()V" } : Jvm.MethodName)) ∈ TB := tb_of (t_1 (List.mem_of_getElem? (i := 20) rfl)) rfl
theorem w_1_21 : (Jvm.Cond.code ({ cls := "java/lang/Object", name := "<init>", desc := "()V" } : Jvm.MethodName) object_method_1_code (1 : Nat) (Option.none : Option Jvm.ClassFile.FieldType)) ∈ TB := tb_of (t_1 (List.mem_of_getElem? (i := 21) rfl)) rfl
theorem w_1_22 : (Jvm.Cond.classLink "LoopJudge" (9 : Nat) "LoopJudge$Setting") ∈ TB := tb_of (t_1 (List.mem_of_getElem? (i := 22) rfl)) rfl
theorem w_1_23 : (Jvm.Cond.instantiable "LoopJudge$Setting" (3 : Nat)) ∈ TB := tb_of (t_1 (List.mem_of_getElem? (i := 23) rfl)) rfl
theorem w_1_24 : (Jvm.Cond.methodLink "LoopJudge" (11 : Nat) ({ cls := "LoopJudge$Setting", name := "<init>", desc := "()V" } : Jvm.MethodName)) ∈ TB := tb_of (t_1 (List.mem_of_getElem? (i := 24) rfl)) rfl
theorem w_1_25 : (Jvm.Cond.instanceMethod ({ cls := "LoopJudge$Setting", name := "<init>", desc := "()V" } : Jvm.MethodName)) ∈ TB := tb_of (t_1 (List.mem_of_getElem? (i := 25) rfl)) rfl
theorem w_1_26 : (Jvm.Cond.code ({ cls := "LoopJudge$Setting", name := "<init>", desc := "()V" } : Jvm.MethodName) prog_5_method_1_code (1 : Nat) (Option.none : Option Jvm.ClassFile.FieldType)) ∈ TB := tb_of (t_1 (List.mem_of_getElem? (i := 26) rfl)) rfl
theorem w_1_27 : (Jvm.Cond.methodLink "LoopJudge$Setting" (3 : Nat) ({ cls := "java/lang/Object", name := "<init>", desc := "()V" } : Jvm.MethodName)) ∈ TB := tb_of (t_1 (List.mem_of_getElem? (i := 27) rfl)) rfl
theorem w_1_28 : (Jvm.Cond.fieldLink "LoopJudge$Setting" (9 : Nat) "LoopJudge$Setting" "parts" "[I") ∈ TB := tb_of (t_1 (List.mem_of_getElem? (i := 28) rfl)) rfl
theorem w_1_29 : (Jvm.Cond.fieldLink "LoopJudge$SpanBook" (46 : Nat) "LoopJudge$Setting" "parts" "[I") ∈ TB := tb_of (t_1 (List.mem_of_getElem? (i := 29) rfl)) rfl
theorem w_1_30 : (Jvm.Cond.fieldLink "LoopJudge" (81 : Nat) "LoopJudge$Setting" "parts" "[I") ∈ TB := tb_of (t_1 (List.mem_of_getElem? (i := 30) rfl)) rfl
theorem w_1_31 : (Jvm.Cond.fieldLink "LoopJudge$Setting" (15 : Nat) "LoopJudge$Setting" "gainTold" "I") ∈ TB := tb_of (t_1 (List.mem_of_getElem? (i := 31) rfl)) rfl
theorem w_1_32 : (Jvm.Cond.fieldLink "LoopJudge" (93 : Nat) "LoopJudge$Setting" "gainTold" "I") ∈ TB := tb_of (t_1 (List.mem_of_getElem? (i := 32) rfl)) rfl
theorem w_1_33 : (Jvm.Cond.fieldLink "LoopJudge$Setting" (19 : Nat) "LoopJudge$Setting" "draw" "I") ∈ TB := tb_of (t_1 (List.mem_of_getElem? (i := 33) rfl)) rfl
theorem w_1_34 : (Jvm.Cond.fieldLink "LoopJudge" (209 : Nat) "LoopJudge$Setting" "draw" "I") ∈ TB := tb_of (t_1 (List.mem_of_getElem? (i := 34) rfl)) rfl
theorem w_1_35 : (Jvm.Cond.laysFinal "LoopJudge$Setting" "LoopJudge$Setting" "parts" "[I") ∈ TB := tb_of (t_1 (List.mem_of_getElem? (i := 35) rfl)) rfl
theorem w_1_37 : (Jvm.Cond.lays "LoopJudge$Setting" "LoopJudge$Setting" "gainTold" "I") ∈ TB := tb_of (t_1 (List.mem_of_getElem? (i := 37) rfl)) rfl
theorem w_1_39 : (Jvm.Cond.lays "LoopJudge$Setting" "LoopJudge$Setting" "draw" "I") ∈ TB := tb_of (t_1 (List.mem_of_getElem? (i := 39) rfl)) rfl
theorem w_1_42 : (Jvm.Cond.arrayClass Jvm.ClassFile.FieldType.int) ∈ TB := tb_of (t_1 (List.mem_of_getElem? (i := 42) rfl)) rfl
theorem w_1_43 : (Jvm.Cond.methodLink "LoopJudge" (16 : Nat) ({ cls := "LoopJudge$Setting", name := "begin", desc := "()V" } : Jvm.MethodName)) ∈ TB := tb_of (t_1 (List.mem_of_getElem? (i := 43) rfl)) rfl
theorem w_1_44 : (Jvm.Cond.instanceMethod ({ cls := "LoopJudge$Setting", name := "begin", desc := "()V" } : Jvm.MethodName)) ∈ TB := tb_of (t_1 (List.mem_of_getElem? (i := 44) rfl)) rfl
theorem w_1_45 : (Jvm.Cond.selects "LoopJudge$Setting" ({ cls := "LoopJudge$Setting", name := "begin", desc := "()V" } : Jvm.MethodName) ({ cls := "LoopJudge$Setting", name := "begin", desc := "()V" } : Jvm.MethodName)) ∈ TB := tb_of (t_1 (List.mem_of_getElem? (i := 45) rfl)) rfl
theorem w_1_46 : (Jvm.Cond.code ({ cls := "LoopJudge$Setting", name := "begin", desc := "()V" } : Jvm.MethodName) prog_5_method_2_code (1 : Nat) (Option.none : Option Jvm.ClassFile.FieldType)) ∈ TB := tb_of (t_1 (List.mem_of_getElem? (i := 46) rfl)) rfl
theorem w_1_47 : (Jvm.Cond.classLink "LoopJudge" (19 : Nat) "LoopJudge$Past") ∈ TB := tb_of (t_1 (List.mem_of_getElem? (i := 47) rfl)) rfl
theorem w_1_48 : (Jvm.Cond.instantiable "LoopJudge$Past" (3 : Nat)) ∈ TB := tb_of (t_1 (List.mem_of_getElem? (i := 48) rfl)) rfl
theorem w_1_49 : (Jvm.Cond.methodLink "LoopJudge" (21 : Nat) ({ cls := "LoopJudge$Past", name := "<init>", desc := "()V" } : Jvm.MethodName)) ∈ TB := tb_of (t_1 (List.mem_of_getElem? (i := 49) rfl)) rfl
theorem w_1_50 : (Jvm.Cond.instanceMethod ({ cls := "LoopJudge$Past", name := "<init>", desc := "()V" } : Jvm.MethodName)) ∈ TB := tb_of (t_1 (List.mem_of_getElem? (i := 50) rfl)) rfl
theorem w_1_51 : (Jvm.Cond.code ({ cls := "LoopJudge$Past", name := "<init>", desc := "()V" } : Jvm.MethodName) prog_4_method_1_code (2 : Nat) (Option.none : Option Jvm.ClassFile.FieldType)) ∈ TB := tb_of (t_1 (List.mem_of_getElem? (i := 51) rfl)) rfl
theorem w_1_52 : (Jvm.Cond.methodLink "LoopJudge$Past" (1 : Nat) ({ cls := "java/lang/Object", name := "<init>", desc := "()V" } : Jvm.MethodName)) ∈ TB := tb_of (t_1 (List.mem_of_getElem? (i := 52) rfl)) rfl
theorem w_1_53 : (Jvm.Cond.classLink "LoopJudge$Past" (9 : Nat) "LoopJudge$Setting") ∈ TB := tb_of (t_1 (List.mem_of_getElem? (i := 53) rfl)) rfl
theorem w_1_55 : (Jvm.Cond.methodLink "LoopJudge$Past" (15 : Nat) ({ cls := "LoopJudge$Setting", name := "<init>", desc := "()V" } : Jvm.MethodName)) ∈ TB := tb_of (t_1 (List.mem_of_getElem? (i := 55) rfl)) rfl
theorem w_1_56 : (Jvm.Cond.fieldLink "LoopJudge$Past" (11 : Nat) "LoopJudge$Past" "settings" "[LLoopJudge$Setting;") ∈ TB := tb_of (t_1 (List.mem_of_getElem? (i := 56) rfl)) rfl
theorem w_1_57 : (Jvm.Cond.fieldLink "LoopJudge$Past" (16 : Nat) "LoopJudge$Past" "newest" "I") ∈ TB := tb_of (t_1 (List.mem_of_getElem? (i := 57) rfl)) rfl
theorem w_1_58 : (Jvm.Cond.fieldLink "LoopJudge$Past" (20 : Nat) "LoopJudge$Past" "known" "I") ∈ TB := tb_of (t_1 (List.mem_of_getElem? (i := 58) rfl)) rfl
theorem w_1_59 : (Jvm.Cond.fieldLink "LoopJudge" (112 : Nat) "LoopJudge$Past" "known" "I") ∈ TB := tb_of (t_1 (List.mem_of_getElem? (i := 59) rfl)) rfl
theorem w_1_60 : (Jvm.Cond.laysFinal "LoopJudge$Past" "LoopJudge$Past" "settings" "[LLoopJudge$Setting;") ∈ TB := tb_of (t_1 (List.mem_of_getElem? (i := 60) rfl)) rfl
theorem w_1_62 : (Jvm.Cond.lays "LoopJudge$Past" "LoopJudge$Past" "newest" "I") ∈ TB := tb_of (t_1 (List.mem_of_getElem? (i := 62) rfl)) rfl
theorem w_1_64 : (Jvm.Cond.lays "LoopJudge$Past" "LoopJudge$Past" "known" "I") ∈ TB := tb_of (t_1 (List.mem_of_getElem? (i := 64) rfl)) rfl
theorem w_1_67 : (Jvm.Cond.classLink "LoopJudge" (36 : Nat) "LoopJudge$Tape") ∈ TB := tb_of (t_1 (List.mem_of_getElem? (i := 67) rfl)) rfl
theorem w_1_68 : (Jvm.Cond.instantiable "LoopJudge$Tape" (7 : Nat)) ∈ TB := tb_of (t_1 (List.mem_of_getElem? (i := 68) rfl)) rfl
theorem w_1_69 : (Jvm.Cond.methodLink "LoopJudge" (38 : Nat) ({ cls := "LoopJudge$Tape", name := "<init>", desc := "()V" } : Jvm.MethodName)) ∈ TB := tb_of (t_1 (List.mem_of_getElem? (i := 69) rfl)) rfl
theorem w_1_70 : (Jvm.Cond.instanceMethod ({ cls := "LoopJudge$Tape", name := "<init>", desc := "()V" } : Jvm.MethodName)) ∈ TB := tb_of (t_1 (List.mem_of_getElem? (i := 70) rfl)) rfl
theorem w_1_71 : (Jvm.Cond.code ({ cls := "LoopJudge$Tape", name := "<init>", desc := "()V" } : Jvm.MethodName) prog_8_method_1_code (1 : Nat) (Option.none : Option Jvm.ClassFile.FieldType)) ∈ TB := tb_of (t_1 (List.mem_of_getElem? (i := 71) rfl)) rfl
theorem w_1_72 : (Jvm.Cond.methodLink "LoopJudge$Tape" (3 : Nat) ({ cls := "java/lang/Object", name := "<init>", desc := "()V" } : Jvm.MethodName)) ∈ TB := tb_of (t_1 (List.mem_of_getElem? (i := 72) rfl)) rfl
theorem w_1_73 : (Jvm.Cond.fieldLink "LoopJudge$Tape" (11 : Nat) "LoopJudge$Tape" "letters" "[B") ∈ TB := tb_of (t_1 (List.mem_of_getElem? (i := 73) rfl)) rfl
theorem w_1_74 : (Jvm.Cond.fieldLink "LoopJudge$Tape" (15 : Nat) "LoopJudge$Tape" "parts" "[I") ∈ TB := tb_of (t_1 (List.mem_of_getElem? (i := 74) rfl)) rfl
theorem w_1_75 : (Jvm.Cond.fieldLink "LoopJudge" (193 : Nat) "LoopJudge$Tape" "parts" "[I") ∈ TB := tb_of (t_1 (List.mem_of_getElem? (i := 75) rfl)) rfl
theorem w_1_76 : (Jvm.Cond.fieldLink "LoopJudge$Tape" (19 : Nat) "LoopJudge$Tape" "tellsQ" "Z") ∈ TB := tb_of (t_1 (List.mem_of_getElem? (i := 76) rfl)) rfl
theorem w_1_77 : (Jvm.Cond.fieldLink "LoopJudge" (194 : Nat) "LoopJudge$Tape" "tellsQ" "Z") ∈ TB := tb_of (t_1 (List.mem_of_getElem? (i := 77) rfl)) rfl
theorem w_1_78 : (Jvm.Cond.fieldLink "LoopJudge$Tape" (23 : Nat) "LoopJudge$Tape" "size" "I") ∈ TB := tb_of (t_1 (List.mem_of_getElem? (i := 78) rfl)) rfl
theorem w_1_79 : (Jvm.Cond.fieldLink "LoopJudge" (188 : Nat) "LoopJudge$Tape" "size" "I") ∈ TB := tb_of (t_1 (List.mem_of_getElem? (i := 79) rfl)) rfl
theorem w_1_80 : (Jvm.Cond.fieldLink "LoopJudge$Tape" (27 : Nat) "LoopJudge$Tape" "place" "I") ∈ TB := tb_of (t_1 (List.mem_of_getElem? (i := 80) rfl)) rfl
theorem w_1_81 : (Jvm.Cond.fieldLink "LoopJudge$Tape" (30 : Nat) "LoopJudge$Tape" "figure" "I") ∈ TB := tb_of (t_1 (List.mem_of_getElem? (i := 81) rfl)) rfl
theorem w_1_82 : (Jvm.Cond.fieldLink "LoopJudge$Tape" (33 : Nat) "LoopJudge$Tape" "power" "I") ∈ TB := tb_of (t_1 (List.mem_of_getElem? (i := 82) rfl)) rfl
theorem w_1_83 : (Jvm.Cond.laysFinal "LoopJudge$Tape" "LoopJudge$Tape" "letters" "[B") ∈ TB := tb_of (t_1 (List.mem_of_getElem? (i := 83) rfl)) rfl
theorem w_1_85 : (Jvm.Cond.laysFinal "LoopJudge$Tape" "LoopJudge$Tape" "parts" "[I") ∈ TB := tb_of (t_1 (List.mem_of_getElem? (i := 85) rfl)) rfl
theorem w_1_87 : (Jvm.Cond.lays "LoopJudge$Tape" "LoopJudge$Tape" "tellsQ" "Z") ∈ TB := tb_of (t_1 (List.mem_of_getElem? (i := 87) rfl)) rfl
theorem w_1_89 : (Jvm.Cond.lays "LoopJudge$Tape" "LoopJudge$Tape" "size" "I") ∈ TB := tb_of (t_1 (List.mem_of_getElem? (i := 89) rfl)) rfl
theorem w_1_91 : (Jvm.Cond.lays "LoopJudge$Tape" "LoopJudge$Tape" "place" "I") ∈ TB := tb_of (t_1 (List.mem_of_getElem? (i := 91) rfl)) rfl
theorem w_1_93 : (Jvm.Cond.lays "LoopJudge$Tape" "LoopJudge$Tape" "figure" "I") ∈ TB := tb_of (t_1 (List.mem_of_getElem? (i := 93) rfl)) rfl
theorem w_1_95 : (Jvm.Cond.lays "LoopJudge$Tape" "LoopJudge$Tape" "power" "I") ∈ TB := tb_of (t_1 (List.mem_of_getElem? (i := 95) rfl)) rfl
theorem w_1_98 : (Jvm.Cond.arrayClass Jvm.ClassFile.FieldType.byte) ∈ TB := tb_of (t_1 (List.mem_of_getElem? (i := 98) rfl)) rfl
theorem w_1_99 : (Jvm.Cond.classLink "LoopJudge" (43 : Nat) "LoopJudge$Shelf") ∈ TB := tb_of (t_1 (List.mem_of_getElem? (i := 99) rfl)) rfl
theorem w_1_100 : (Jvm.Cond.instantiable "LoopJudge$Shelf" (3 : Nat)) ∈ TB := tb_of (t_1 (List.mem_of_getElem? (i := 100) rfl)) rfl
theorem w_1_101 : (Jvm.Cond.methodLink "LoopJudge" (45 : Nat) ({ cls := "LoopJudge$Shelf", name := "<init>", desc := "()V" } : Jvm.MethodName)) ∈ TB := tb_of (t_1 (List.mem_of_getElem? (i := 101) rfl)) rfl
theorem w_1_102 : (Jvm.Cond.instanceMethod ({ cls := "LoopJudge$Shelf", name := "<init>", desc := "()V" } : Jvm.MethodName)) ∈ TB := tb_of (t_1 (List.mem_of_getElem? (i := 102) rfl)) rfl
theorem w_1_103 : (Jvm.Cond.code ({ cls := "LoopJudge$Shelf", name := "<init>", desc := "()V" } : Jvm.MethodName) prog_6_method_1_code (2 : Nat) (Option.none : Option Jvm.ClassFile.FieldType)) ∈ TB := tb_of (t_1 (List.mem_of_getElem? (i := 103) rfl)) rfl
theorem w_1_104 : (Jvm.Cond.methodLink "LoopJudge$Shelf" (3 : Nat) ({ cls := "java/lang/Object", name := "<init>", desc := "()V" } : Jvm.MethodName)) ∈ TB := tb_of (t_1 (List.mem_of_getElem? (i := 104) rfl)) rfl
theorem w_1_105 : (Jvm.Cond.classLink "LoopJudge$Shelf" (18 : Nat) "[[J") ∈ TB := tb_of (t_1 (List.mem_of_getElem? (i := 105) rfl)) rfl
theorem w_1_107 : (Jvm.Cond.fieldLink "LoopJudge$Shelf" (9 : Nat) "LoopJudge$Shelf" "lanes" "[I") ∈ TB := tb_of (t_1 (List.mem_of_getElem? (i := 107) rfl)) rfl
theorem w_1_108 : (Jvm.Cond.fieldLink "LoopJudge" (246 : Nat) "LoopJudge$Shelf" "lanes" "[I") ∈ TB := tb_of (t_1 (List.mem_of_getElem? (i := 108) rfl)) rfl
theorem w_1_109 : (Jvm.Cond.fieldLink "LoopJudge$Shelf" (15 : Nat) "LoopJudge$Shelf" "sizes" "[I") ∈ TB := tb_of (t_1 (List.mem_of_getElem? (i := 109) rfl)) rfl
theorem w_1_110 : (Jvm.Cond.fieldLink "LoopJudge" (236 : Nat) "LoopJudge$Shelf" "sizes" "[I") ∈ TB := tb_of (t_1 (List.mem_of_getElem? (i := 110) rfl)) rfl
theorem w_1_111 : (Jvm.Cond.fieldLink "LoopJudge$Shelf" (20 : Nat) "LoopJudge$Shelf" "items" "[[J") ∈ TB := tb_of (t_1 (List.mem_of_getElem? (i := 111) rfl)) rfl
theorem w_1_112 : (Jvm.Cond.fieldLink "LoopJudge" (226 : Nat) "LoopJudge$Shelf" "items" "[[J") ∈ TB := tb_of (t_1 (List.mem_of_getElem? (i := 112) rfl)) rfl
theorem w_1_113 : (Jvm.Cond.laysFinal "LoopJudge$Shelf" "LoopJudge$Shelf" "lanes" "[I") ∈ TB := tb_of (t_1 (List.mem_of_getElem? (i := 113) rfl)) rfl
theorem w_1_115 : (Jvm.Cond.laysFinal "LoopJudge$Shelf" "LoopJudge$Shelf" "sizes" "[I") ∈ TB := tb_of (t_1 (List.mem_of_getElem? (i := 115) rfl)) rfl
theorem w_1_117 : (Jvm.Cond.laysFinal "LoopJudge$Shelf" "LoopJudge$Shelf" "items" "[[J") ∈ TB := tb_of (t_1 (List.mem_of_getElem? (i := 117) rfl)) rfl
theorem w_1_120 : (Jvm.Cond.arrayClass Jvm.ClassFile.FieldType.long) ∈ TB := tb_of (t_1 (List.mem_of_getElem? (i := 120) rfl)) rfl
theorem w_1_121 : (Jvm.Cond.classLink "LoopJudge" (50 : Nat) "LoopJudge$Judge") ∈ TB := tb_of (t_1 (List.mem_of_getElem? (i := 121) rfl)) rfl
theorem w_1_122 : (Jvm.Cond.instantiable "LoopJudge$Judge" (5 : Nat)) ∈ TB := tb_of (t_1 (List.mem_of_getElem? (i := 122) rfl)) rfl
theorem w_1_123 : (Jvm.Cond.methodLink "LoopJudge" (52 : Nat) ({ cls := "LoopJudge$Judge", name := "<init>", desc := "()V" } : Jvm.MethodName)) ∈ TB := tb_of (t_1 (List.mem_of_getElem? (i := 123) rfl)) rfl
theorem w_1_124 : (Jvm.Cond.instanceMethod ({ cls := "LoopJudge$Judge", name := "<init>", desc := "()V" } : Jvm.MethodName)) ∈ TB := tb_of (t_1 (List.mem_of_getElem? (i := 124) rfl)) rfl
theorem w_1_125 : (Jvm.Cond.code ({ cls := "LoopJudge$Judge", name := "<init>", desc := "()V" } : Jvm.MethodName) prog_3_method_1_code (1 : Nat) (Option.none : Option Jvm.ClassFile.FieldType)) ∈ TB := tb_of (t_1 (List.mem_of_getElem? (i := 125) rfl)) rfl
theorem w_1_126 : (Jvm.Cond.methodLink "LoopJudge$Judge" (3 : Nat) ({ cls := "java/lang/Object", name := "<init>", desc := "()V" } : Jvm.MethodName)) ∈ TB := tb_of (t_1 (List.mem_of_getElem? (i := 126) rfl)) rfl
theorem w_1_127 : (Jvm.Cond.classLink "LoopJudge$Judge" (9 : Nat) "LoopJudge$Chain") ∈ TB := tb_of (t_1 (List.mem_of_getElem? (i := 127) rfl)) rfl
theorem w_1_128 : (Jvm.Cond.instantiable "LoopJudge$Chain" (3 : Nat)) ∈ TB := tb_of (t_1 (List.mem_of_getElem? (i := 128) rfl)) rfl
theorem w_1_129 : (Jvm.Cond.methodLink "LoopJudge$Judge" (11 : Nat) ({ cls := "LoopJudge$Chain", name := "<init>", desc := "()V" } : Jvm.MethodName)) ∈ TB := tb_of (t_1 (List.mem_of_getElem? (i := 129) rfl)) rfl
theorem w_1_130 : (Jvm.Cond.instanceMethod ({ cls := "LoopJudge$Chain", name := "<init>", desc := "()V" } : Jvm.MethodName)) ∈ TB := tb_of (t_1 (List.mem_of_getElem? (i := 130) rfl)) rfl
theorem w_1_131 : (Jvm.Cond.code ({ cls := "LoopJudge$Chain", name := "<init>", desc := "()V" } : Jvm.MethodName) prog_2_method_1_code (1 : Nat) (Option.none : Option Jvm.ClassFile.FieldType)) ∈ TB := tb_of (t_1 (List.mem_of_getElem? (i := 131) rfl)) rfl
theorem w_1_132 : (Jvm.Cond.methodLink "LoopJudge$Chain" (3 : Nat) ({ cls := "java/lang/Object", name := "<init>", desc := "()V" } : Jvm.MethodName)) ∈ TB := tb_of (t_1 (List.mem_of_getElem? (i := 132) rfl)) rfl
theorem w_1_133 : (Jvm.Cond.classLink "LoopJudge$Chain" (9 : Nat) "[[J") ∈ TB := tb_of (t_1 (List.mem_of_getElem? (i := 133) rfl)) rfl
theorem w_1_134 : (Jvm.Cond.fieldLink "LoopJudge$Chain" (11 : Nat) "LoopJudge$Chain" "lines" "[[J") ∈ TB := tb_of (t_1 (List.mem_of_getElem? (i := 134) rfl)) rfl
theorem w_1_135 : (Jvm.Cond.fieldLink "LoopJudge$Judge" (71 : Nat) "LoopJudge$Chain" "lines" "[[J") ∈ TB := tb_of (t_1 (List.mem_of_getElem? (i := 135) rfl)) rfl
theorem w_1_136 : (Jvm.Cond.fieldLink "LoopJudge" (136 : Nat) "LoopJudge$Chain" "lines" "[[J") ∈ TB := tb_of (t_1 (List.mem_of_getElem? (i := 136) rfl)) rfl
theorem w_1_137 : (Jvm.Cond.fieldLink "LoopJudge$Chain" (16 : Nat) "LoopJudge$Chain" "degrees" "[I") ∈ TB := tb_of (t_1 (List.mem_of_getElem? (i := 137) rfl)) rfl
theorem w_1_138 : (Jvm.Cond.fieldLink "LoopJudge$Judge" (63 : Nat) "LoopJudge$Chain" "degrees" "[I") ∈ TB := tb_of (t_1 (List.mem_of_getElem? (i := 138) rfl)) rfl
theorem w_1_139 : (Jvm.Cond.fieldLink "LoopJudge$Chain" (20 : Nat) "LoopJudge$Chain" "size" "I") ∈ TB := tb_of (t_1 (List.mem_of_getElem? (i := 139) rfl)) rfl
theorem w_1_140 : (Jvm.Cond.fieldLink "LoopJudge$Judge" (60 : Nat) "LoopJudge$Chain" "size" "I") ∈ TB := tb_of (t_1 (List.mem_of_getElem? (i := 140) rfl)) rfl
theorem w_1_141 : (Jvm.Cond.fieldLink "LoopJudge" (131 : Nat) "LoopJudge$Chain" "size" "I") ∈ TB := tb_of (t_1 (List.mem_of_getElem? (i := 141) rfl)) rfl
theorem w_1_142 : (Jvm.Cond.laysFinal "LoopJudge$Chain" "LoopJudge$Chain" "lines" "[[J") ∈ TB := tb_of (t_1 (List.mem_of_getElem? (i := 142) rfl)) rfl
theorem w_1_144 : (Jvm.Cond.laysFinal "LoopJudge$Chain" "LoopJudge$Chain" "degrees" "[I") ∈ TB := tb_of (t_1 (List.mem_of_getElem? (i := 144) rfl)) rfl
theorem w_1_146 : (Jvm.Cond.lays "LoopJudge$Chain" "LoopJudge$Chain" "size" "I") ∈ TB := tb_of (t_1 (List.mem_of_getElem? (i := 146) rfl)) rfl
theorem w_1_149 : (Jvm.Cond.fieldLink "LoopJudge$Judge" (12 : Nat) "LoopJudge$Judge" "chain" "LLoopJudge$Chain;") ∈ TB := tb_of (t_1 (List.mem_of_getElem? (i := 149) rfl)) rfl
theorem w_1_150 : (Jvm.Cond.fieldLink "LoopJudge" (121 : Nat) "LoopJudge$Judge" "chain" "LLoopJudge$Chain;") ∈ TB := tb_of (t_1 (List.mem_of_getElem? (i := 150) rfl)) rfl
theorem w_1_151 : (Jvm.Cond.fieldLink "LoopJudge$Judge" (18 : Nat) "LoopJudge$Judge" "turned" "[J") ∈ TB := tb_of (t_1 (List.mem_of_getElem? (i := 151) rfl)) rfl
theorem w_1_152 : (Jvm.Cond.fieldLink "LoopJudge$Judge" (22 : Nat) "LoopJudge$Judge" "right" "I") ∈ TB := tb_of (t_1 (List.mem_of_getElem? (i := 152) rfl)) rfl
theorem w_1_153 : (Jvm.Cond.fieldLink "LoopJudge" (256 : Nat) "LoopJudge$Judge" "right" "I") ∈ TB := tb_of (t_1 (List.mem_of_getElem? (i := 153) rfl)) rfl
theorem w_1_154 : (Jvm.Cond.fieldLink "LoopJudge$Judge" (26 : Nat) "LoopJudge$Judge" "even" "I") ∈ TB := tb_of (t_1 (List.mem_of_getElem? (i := 154) rfl)) rfl
theorem w_1_155 : (Jvm.Cond.fieldLink "LoopJudge" (259 : Nat) "LoopJudge$Judge" "even" "I") ∈ TB := tb_of (t_1 (List.mem_of_getElem? (i := 155) rfl)) rfl
theorem w_1_156 : (Jvm.Cond.fieldLink "LoopJudge$Judge" (29 : Nat) "LoopJudge$Judge" "left" "I") ∈ TB := tb_of (t_1 (List.mem_of_getElem? (i := 156) rfl)) rfl
theorem w_1_157 : (Jvm.Cond.fieldLink "LoopJudge" (262 : Nat) "LoopJudge$Judge" "left" "I") ∈ TB := tb_of (t_1 (List.mem_of_getElem? (i := 157) rfl)) rfl
theorem w_1_158 : (Jvm.Cond.laysFinal "LoopJudge$Judge" "LoopJudge$Judge" "chain" "LLoopJudge$Chain;") ∈ TB := tb_of (t_1 (List.mem_of_getElem? (i := 158) rfl)) rfl
theorem w_1_160 : (Jvm.Cond.laysFinal "LoopJudge$Judge" "LoopJudge$Judge" "turned" "[J") ∈ TB := tb_of (t_1 (List.mem_of_getElem? (i := 160) rfl)) rfl
theorem w_1_162 : (Jvm.Cond.lays "LoopJudge$Judge" "LoopJudge$Judge" "right" "I") ∈ TB := tb_of (t_1 (List.mem_of_getElem? (i := 162) rfl)) rfl
theorem w_1_164 : (Jvm.Cond.lays "LoopJudge$Judge" "LoopJudge$Judge" "even" "I") ∈ TB := tb_of (t_1 (List.mem_of_getElem? (i := 164) rfl)) rfl
theorem w_1_166 : (Jvm.Cond.lays "LoopJudge$Judge" "LoopJudge$Judge" "left" "I") ∈ TB := tb_of (t_1 (List.mem_of_getElem? (i := 166) rfl)) rfl
theorem w_1_169 : (Jvm.Cond.classLink "LoopJudge" (57 : Nat) "LoopJudge$SpanBook") ∈ TB := tb_of (t_1 (List.mem_of_getElem? (i := 169) rfl)) rfl
theorem w_1_170 : (Jvm.Cond.instantiable "LoopJudge$SpanBook" (9 : Nat)) ∈ TB := tb_of (t_1 (List.mem_of_getElem? (i := 170) rfl)) rfl
theorem w_1_171 : (Jvm.Cond.methodLink "LoopJudge" (59 : Nat) ({ cls := "LoopJudge$SpanBook", name := "<init>", desc := "(I)V" } : Jvm.MethodName)) ∈ TB := tb_of (t_1 (List.mem_of_getElem? (i := 171) rfl)) rfl
theorem w_1_172 : (Jvm.Cond.instanceMethod ({ cls := "LoopJudge$SpanBook", name := "<init>", desc := "(I)V" } : Jvm.MethodName)) ∈ TB := tb_of (t_1 (List.mem_of_getElem? (i := 172) rfl)) rfl
theorem w_1_173 : (Jvm.Cond.code ({ cls := "LoopJudge$SpanBook", name := "<init>", desc := "(I)V" } : Jvm.MethodName) prog_7_method_1_code (2 : Nat) (Option.none : Option Jvm.ClassFile.FieldType)) ∈ TB := tb_of (t_1 (List.mem_of_getElem? (i := 173) rfl)) rfl
theorem w_1_174 : (Jvm.Cond.methodLink "LoopJudge$SpanBook" (3 : Nat) ({ cls := "java/lang/Object", name := "<init>", desc := "()V" } : Jvm.MethodName)) ∈ TB := tb_of (t_1 (List.mem_of_getElem? (i := 174) rfl)) rfl
theorem w_1_175 : (Jvm.Cond.fieldLink "LoopJudge$SpanBook" (9 : Nat) "LoopJudge$SpanBook" "by" "I") ∈ TB := tb_of (t_1 (List.mem_of_getElem? (i := 175) rfl)) rfl
theorem w_1_176 : (Jvm.Cond.fieldLink "LoopJudge$SpanBook" (15 : Nat) "LoopJudge$SpanBook" "parts" "[I") ∈ TB := tb_of (t_1 (List.mem_of_getElem? (i := 176) rfl)) rfl
theorem w_1_177 : (Jvm.Cond.fieldLink "LoopJudge$SpanBook" (19 : Nat) "LoopJudge$SpanBook" "loop" "[J") ∈ TB := tb_of (t_1 (List.mem_of_getElem? (i := 177) rfl)) rfl
theorem w_1_178 : (Jvm.Cond.fieldLink "LoopJudge$SpanBook" (23 : Nat) "LoopJudge$SpanBook" "least" "[I") ∈ TB := tb_of (t_1 (List.mem_of_getElem? (i := 178) rfl)) rfl
theorem w_1_179 : (Jvm.Cond.fieldLink "LoopJudge$SpanBook" (26 : Nat) "LoopJudge$SpanBook" "greatest" "[I") ∈ TB := tb_of (t_1 (List.mem_of_getElem? (i := 179) rfl)) rfl
theorem w_1_180 : (Jvm.Cond.fieldLink "LoopJudge$SpanBook" (29 : Nat) "LoopJudge$SpanBook" "byWidth" "[I") ∈ TB := tb_of (t_1 (List.mem_of_getElem? (i := 180) rfl)) rfl
theorem w_1_181 : (Jvm.Cond.fieldLink "LoopJudge" (157 : Nat) "LoopJudge$SpanBook" "byWidth" "[I") ∈ TB := tb_of (t_1 (List.mem_of_getElem? (i := 181) rfl)) rfl
theorem w_1_182 : (Jvm.Cond.fieldLink "LoopJudge$SpanBook" (32 : Nat) "LoopJudge$SpanBook" "made" "Z") ∈ TB := tb_of (t_1 (List.mem_of_getElem? (i := 182) rfl)) rfl
theorem w_1_183 : (Jvm.Cond.fieldLink "LoopJudge$SpanBook" (36 : Nat) "LoopJudge$SpanBook" "size" "I") ∈ TB := tb_of (t_1 (List.mem_of_getElem? (i := 183) rfl)) rfl
theorem w_1_184 : (Jvm.Cond.fieldLink "LoopJudge" (152 : Nat) "LoopJudge$SpanBook" "size" "I") ∈ TB := tb_of (t_1 (List.mem_of_getElem? (i := 184) rfl)) rfl
theorem w_1_185 : (Jvm.Cond.fieldLink "LoopJudge$SpanBook" (39 : Nat) "LoopJudge$SpanBook" "steadyGains" "I") ∈ TB := tb_of (t_1 (List.mem_of_getElem? (i := 185) rfl)) rfl
theorem w_1_186 : (Jvm.Cond.fieldLink "LoopJudge" (160 : Nat) "LoopJudge$SpanBook" "steadyGains" "I") ∈ TB := tb_of (t_1 (List.mem_of_getElem? (i := 186) rfl)) rfl
theorem w_1_187 : (Jvm.Cond.laysFinal "LoopJudge$SpanBook" "LoopJudge$SpanBook" "by" "I") ∈ TB := tb_of (t_1 (List.mem_of_getElem? (i := 187) rfl)) rfl
theorem w_1_189 : (Jvm.Cond.laysFinal "LoopJudge$SpanBook" "LoopJudge$SpanBook" "parts" "[I") ∈ TB := tb_of (t_1 (List.mem_of_getElem? (i := 189) rfl)) rfl
theorem w_1_191 : (Jvm.Cond.laysFinal "LoopJudge$SpanBook" "LoopJudge$SpanBook" "loop" "[J") ∈ TB := tb_of (t_1 (List.mem_of_getElem? (i := 191) rfl)) rfl
theorem w_1_193 : (Jvm.Cond.laysFinal "LoopJudge$SpanBook" "LoopJudge$SpanBook" "least" "[I") ∈ TB := tb_of (t_1 (List.mem_of_getElem? (i := 193) rfl)) rfl
theorem w_1_195 : (Jvm.Cond.laysFinal "LoopJudge$SpanBook" "LoopJudge$SpanBook" "greatest" "[I") ∈ TB := tb_of (t_1 (List.mem_of_getElem? (i := 195) rfl)) rfl
theorem w_1_197 : (Jvm.Cond.laysFinal "LoopJudge$SpanBook" "LoopJudge$SpanBook" "byWidth" "[I") ∈ TB := tb_of (t_1 (List.mem_of_getElem? (i := 197) rfl)) rfl
theorem w_1_199 : (Jvm.Cond.lays "LoopJudge$SpanBook" "LoopJudge$SpanBook" "made" "Z") ∈ TB := tb_of (t_1 (List.mem_of_getElem? (i := 199) rfl)) rfl
theorem w_1_201 : (Jvm.Cond.lays "LoopJudge$SpanBook" "LoopJudge$SpanBook" "size" "I") ∈ TB := tb_of (t_1 (List.mem_of_getElem? (i := 201) rfl)) rfl
theorem w_1_203 : (Jvm.Cond.lays "LoopJudge$SpanBook" "LoopJudge$SpanBook" "steadyGains" "I") ∈ TB := tb_of (t_1 (List.mem_of_getElem? (i := 203) rfl)) rfl
theorem w_1_206 : (Jvm.Cond.fieldLink "LoopJudge" (12 : Nat) "LoopJudge" "now" "LLoopJudge$Setting;") ∈ TB := tb_of (t_1 (List.mem_of_getElem? (i := 206) rfl)) rfl
theorem w_1_207 : (Jvm.Cond.fieldLink "LoopJudge" (22 : Nat) "LoopJudge" "past" "LLoopJudge$Past;") ∈ TB := tb_of (t_1 (List.mem_of_getElem? (i := 207) rfl)) rfl
theorem w_1_208 : (Jvm.Cond.fieldLink "LoopJudge" (26 : Nat) "LoopJudge" "keptNow" "LLoopJudge$Setting;") ∈ TB := tb_of (t_1 (List.mem_of_getElem? (i := 208) rfl)) rfl
theorem w_1_209 : (Jvm.Cond.fieldLink "LoopJudge" (29 : Nat) "LoopJudge" "keptPast" "LLoopJudge$Past;") ∈ TB := tb_of (t_1 (List.mem_of_getElem? (i := 209) rfl)) rfl
theorem w_1_210 : (Jvm.Cond.fieldLink "LoopJudge" (32 : Nat) "LoopJudge" "kept" "Z") ∈ TB := tb_of (t_1 (List.mem_of_getElem? (i := 210) rfl)) rfl
theorem w_1_211 : (Jvm.Cond.fieldLink "LoopJudge" (39 : Nat) "LoopJudge" "tape" "LLoopJudge$Tape;") ∈ TB := tb_of (t_1 (List.mem_of_getElem? (i := 211) rfl)) rfl
theorem w_1_212 : (Jvm.Cond.fieldLink "LoopJudge" (46 : Nat) "LoopJudge" "shelf" "LLoopJudge$Shelf;") ∈ TB := tb_of (t_1 (List.mem_of_getElem? (i := 212) rfl)) rfl
theorem w_1_213 : (Jvm.Cond.fieldLink "LoopJudge" (53 : Nat) "LoopJudge" "judge" "LLoopJudge$Judge;") ∈ TB := tb_of (t_1 (List.mem_of_getElem? (i := 213) rfl)) rfl
theorem w_1_214 : (Jvm.Cond.fieldLink "LoopJudge" (62 : Nat) "LoopJudge" "axisSpans" "LLoopJudge$SpanBook;") ∈ TB := tb_of (t_1 (List.mem_of_getElem? (i := 214) rfl)) rfl
theorem w_1_215 : (Jvm.Cond.fieldLink "LoopJudge" (66 : Nat) "LoopJudge" "circleSpans" "LLoopJudge$SpanBook;") ∈ TB := tb_of (t_1 (List.mem_of_getElem? (i := 215) rfl)) rfl
theorem w_1_216 : (Jvm.Cond.fieldLink "LoopJudge" (69 : Nat) "LoopJudge" "poly" "[J") ∈ TB := tb_of (t_1 (List.mem_of_getElem? (i := 216) rfl)) rfl
theorem w_1_217 : (Jvm.Cond.laysFinal "LoopJudge" "LoopJudge" "now" "LLoopJudge$Setting;") ∈ TB := tb_of (t_1 (List.mem_of_getElem? (i := 217) rfl)) rfl
theorem w_1_219 : (Jvm.Cond.laysFinal "LoopJudge" "LoopJudge" "past" "LLoopJudge$Past;") ∈ TB := tb_of (t_1 (List.mem_of_getElem? (i := 219) rfl)) rfl
theorem w_1_221 : (Jvm.Cond.laysFinal "LoopJudge" "LoopJudge" "keptNow" "LLoopJudge$Setting;") ∈ TB := tb_of (t_1 (List.mem_of_getElem? (i := 221) rfl)) rfl
theorem w_1_223 : (Jvm.Cond.laysFinal "LoopJudge" "LoopJudge" "keptPast" "LLoopJudge$Past;") ∈ TB := tb_of (t_1 (List.mem_of_getElem? (i := 223) rfl)) rfl
theorem w_1_225 : (Jvm.Cond.lays "LoopJudge" "LoopJudge" "kept" "Z") ∈ TB := tb_of (t_1 (List.mem_of_getElem? (i := 225) rfl)) rfl
theorem w_1_227 : (Jvm.Cond.laysFinal "LoopJudge" "LoopJudge" "tape" "LLoopJudge$Tape;") ∈ TB := tb_of (t_1 (List.mem_of_getElem? (i := 227) rfl)) rfl
theorem w_1_229 : (Jvm.Cond.laysFinal "LoopJudge" "LoopJudge" "shelf" "LLoopJudge$Shelf;") ∈ TB := tb_of (t_1 (List.mem_of_getElem? (i := 229) rfl)) rfl
theorem w_1_231 : (Jvm.Cond.laysFinal "LoopJudge" "LoopJudge" "judge" "LLoopJudge$Judge;") ∈ TB := tb_of (t_1 (List.mem_of_getElem? (i := 231) rfl)) rfl
theorem w_1_233 : (Jvm.Cond.laysFinal "LoopJudge" "LoopJudge" "axisSpans" "LLoopJudge$SpanBook;") ∈ TB := tb_of (t_1 (List.mem_of_getElem? (i := 233) rfl)) rfl
theorem w_1_235 : (Jvm.Cond.laysFinal "LoopJudge" "LoopJudge" "circleSpans" "LLoopJudge$SpanBook;") ∈ TB := tb_of (t_1 (List.mem_of_getElem? (i := 235) rfl)) rfl
theorem w_1_237 : (Jvm.Cond.laysFinal "LoopJudge" "LoopJudge" "poly" "[J") ∈ TB := tb_of (t_1 (List.mem_of_getElem? (i := 237) rfl)) rfl
theorem w_2_0 : (Jvm.Cond.methodLink "LoopJudgeLaw" (13 : Nat) ({ cls := "LoopJudge", name := "part", desc := "(III)I" } : Jvm.MethodName)) ∈ TB := tb_of (t_2 (List.mem_of_getElem? (i := 0) rfl)) rfl
theorem w_2_1 : (Jvm.Cond.instanceMethod ({ cls := "LoopJudge", name := "part", desc := "(III)I" } : Jvm.MethodName)) ∈ TB := tb_of (t_2 (List.mem_of_getElem? (i := 1) rfl)) rfl
theorem w_2_2 : (Jvm.Cond.selects "LoopJudge" ({ cls := "LoopJudge", name := "part", desc := "(III)I" } : Jvm.MethodName) ({ cls := "LoopJudge", name := "part", desc := "(III)I" } : Jvm.MethodName)) ∈ TB := tb_of (t_2 (List.mem_of_getElem? (i := 2) rfl)) rfl
theorem w_2_3 : (Jvm.Cond.code ({ cls := "LoopJudge", name := "part", desc := "(III)I" } : Jvm.MethodName) prog_1_method_2_code (6 : Nat) (Option.some Jvm.ClassFile.FieldType.int)) ∈ TB := tb_of (t_2 (List.mem_of_getElem? (i := 3) rfl)) rfl
theorem w_2_4 : (Jvm.Cond.methodLink "LoopJudge" (73 : Nat) ({ cls := "LoopJudge", name := "isChoice", desc := "(II)Z" } : Jvm.MethodName)) ∈ TB := tb_of (t_2 (List.mem_of_getElem? (i := 4) rfl)) rfl
theorem w_2_5 : (Jvm.Cond.static ({ cls := "LoopJudge", name := "isChoice", desc := "(II)Z" } : Jvm.MethodName)) ∈ TB := tb_of (t_2 (List.mem_of_getElem? (i := 5) rfl)) rfl
theorem w_2_6 : (Jvm.Cond.code ({ cls := "LoopJudge", name := "isChoice", desc := "(II)Z" } : Jvm.MethodName) prog_1_method_31_code (2 : Nat) (Option.some Jvm.ClassFile.FieldType.boolean)) ∈ TB := tb_of (t_2 (List.mem_of_getElem? (i := 6) rfl)) rfl
theorem w_2_7 : (Jvm.Cond.methodLink "LoopJudge" (77 : Nat) ({ cls := "LoopJudge", name := "isPart", desc := "(J)Z" } : Jvm.MethodName)) ∈ TB := tb_of (t_2 (List.mem_of_getElem? (i := 7) rfl)) rfl
theorem w_2_8 : (Jvm.Cond.static ({ cls := "LoopJudge", name := "isPart", desc := "(J)Z" } : Jvm.MethodName)) ∈ TB := tb_of (t_2 (List.mem_of_getElem? (i := 8) rfl)) rfl
theorem w_2_9 : (Jvm.Cond.code ({ cls := "LoopJudge", name := "isPart", desc := "(J)Z" } : Jvm.MethodName) prog_1_method_32_code (2 : Nat) (Option.some Jvm.ClassFile.FieldType.boolean)) ∈ TB := tb_of (t_2 (List.mem_of_getElem? (i := 9) rfl)) rfl
theorem w_2_10 : (Jvm.Cond.constantLong "LoopJudge" (269 : Nat) (-9 : Int64)) ∈ TB := tb_of (t_2 (List.mem_of_getElem? (i := 10) rfl)) rfl
theorem w_2_11 : (Jvm.Cond.constantLong "LoopJudge" (271 : Nat) (9 : Int64)) ∈ TB := tb_of (t_2 (List.mem_of_getElem? (i := 11) rfl)) rfl
theorem w_2_12 : (Jvm.Cond.methodLink "LoopJudge" (85 : Nat) ({ cls := "LoopJudge$Past", name := "keep", desc := "(LLoopJudge$Setting;)V" } : Jvm.MethodName)) ∈ TB := tb_of (t_2 (List.mem_of_getElem? (i := 12) rfl)) rfl
theorem w_2_13 : (Jvm.Cond.instanceMethod ({ cls := "LoopJudge$Past", name := "keep", desc := "(LLoopJudge$Setting;)V" } : Jvm.MethodName)) ∈ TB := tb_of (t_2 (List.mem_of_getElem? (i := 13) rfl)) rfl
theorem w_2_14 : (Jvm.Cond.selects "LoopJudge$Past" ({ cls := "LoopJudge$Past", name := "keep", desc := "(LLoopJudge$Setting;)V" } : Jvm.MethodName) ({ cls := "LoopJudge$Past", name := "keep", desc := "(LLoopJudge$Setting;)V" } : Jvm.MethodName)) ∈ TB := tb_of (t_2 (List.mem_of_getElem? (i := 14) rfl)) rfl
theorem w_2_15 : (Jvm.Cond.code ({ cls := "LoopJudge$Past", name := "keep", desc := "(LLoopJudge$Setting;)V" } : Jvm.MethodName) prog_4_method_2_code (2 : Nat) (Option.none : Option Jvm.ClassFile.FieldType)) ∈ TB := tb_of (t_2 (List.mem_of_getElem? (i := 15) rfl)) rfl
theorem w_2_16 : (Jvm.Cond.methodLink "LoopJudge$Past" (23 : Nat) ({ cls := "LoopJudge$Setting", name := "become", desc := "(LLoopJudge$Setting;)V" } : Jvm.MethodName)) ∈ TB := tb_of (t_2 (List.mem_of_getElem? (i := 16) rfl)) rfl
theorem w_2_17 : (Jvm.Cond.instanceMethod ({ cls := "LoopJudge$Setting", name := "become", desc := "(LLoopJudge$Setting;)V" } : Jvm.MethodName)) ∈ TB := tb_of (t_2 (List.mem_of_getElem? (i := 17) rfl)) rfl
theorem w_2_18 : (Jvm.Cond.selects "LoopJudge$Setting" ({ cls := "LoopJudge$Setting", name := "become", desc := "(LLoopJudge$Setting;)V" } : Jvm.MethodName) ({ cls := "LoopJudge$Setting", name := "become", desc := "(LLoopJudge$Setting;)V" } : Jvm.MethodName)) ∈ TB := tb_of (t_2 (List.mem_of_getElem? (i := 18) rfl)) rfl
theorem w_2_19 : (Jvm.Cond.code ({ cls := "LoopJudge$Setting", name := "become", desc := "(LLoopJudge$Setting;)V" } : Jvm.MethodName) prog_5_method_3_code (2 : Nat) (Option.none : Option Jvm.ClassFile.FieldType)) ∈ TB := tb_of (t_2 (List.mem_of_getElem? (i := 19) rfl)) rfl
theorem w_2_20 : (Jvm.Cond.methodLink "LoopJudge$Setting" (22 : Nat) ({ cls := "java/lang/System", name := "arraycopy", desc := "(Ljava/lang/Object;ILjava/lang/Object;II)V" } : Jvm.MethodName)) ∈ TB := tb_of (t_2 (List.mem_of_getElem? (i := 20) rfl)) rfl
theorem w_2_21 : (Jvm.Cond.static ({ cls := "java/lang/System", name := "arraycopy", desc := "(Ljava/lang/Object;ILjava/lang/Object;II)V" } : Jvm.MethodName)) ∈ TB := tb_of (t_2 (List.mem_of_getElem? (i := 21) rfl)) rfl
theorem w_2_22 : (Jvm.Cond.native ({ cls := "java/lang/System", name := "arraycopy", desc := "(Ljava/lang/Object;ILjava/lang/Object;II)V" } : Jvm.MethodName)) ∈ TB := tb_of (t_2 (List.mem_of_getElem? (i := 22) rfl)) rfl
theorem w_2_23 : (Jvm.Cond.methodLink "LoopJudgeLaw" (18 : Nat) ({ cls := "LoopJudge", name := "gain", desc := "(I)I" } : Jvm.MethodName)) ∈ TB := tb_of (t_2 (List.mem_of_getElem? (i := 23) rfl)) rfl
theorem w_2_24 : (Jvm.Cond.instanceMethod ({ cls := "LoopJudge", name := "gain", desc := "(I)I" } : Jvm.MethodName)) ∈ TB := tb_of (t_2 (List.mem_of_getElem? (i := 24) rfl)) rfl
theorem w_2_25 : (Jvm.Cond.selects "LoopJudge" ({ cls := "LoopJudge", name := "gain", desc := "(I)I" } : Jvm.MethodName) ({ cls := "LoopJudge", name := "gain", desc := "(I)I" } : Jvm.MethodName)) ∈ TB := tb_of (t_2 (List.mem_of_getElem? (i := 25) rfl)) rfl
theorem w_2_26 : (Jvm.Cond.code ({ cls := "LoopJudge", name := "gain", desc := "(I)I" } : Jvm.MethodName) prog_1_method_3_code (3 : Nat) (Option.some Jvm.ClassFile.FieldType.int)) ∈ TB := tb_of (t_2 (List.mem_of_getElem? (i := 26) rfl)) rfl
theorem w_2_27 : (Jvm.Cond.methodLink "LoopJudge" (89 : Nat) ({ cls := "LoopJudge", name := "isGain", desc := "(I)Z" } : Jvm.MethodName)) ∈ TB := tb_of (t_2 (List.mem_of_getElem? (i := 27) rfl)) rfl
theorem w_2_28 : (Jvm.Cond.static ({ cls := "LoopJudge", name := "isGain", desc := "(I)Z" } : Jvm.MethodName)) ∈ TB := tb_of (t_2 (List.mem_of_getElem? (i := 28) rfl)) rfl
theorem w_2_29 : (Jvm.Cond.code ({ cls := "LoopJudge", name := "isGain", desc := "(I)Z" } : Jvm.MethodName) prog_1_method_33_code (1 : Nat) (Option.some Jvm.ClassFile.FieldType.boolean)) ∈ TB := tb_of (t_2 (List.mem_of_getElem? (i := 29) rfl)) rfl
theorem w_2_30 : (Jvm.Cond.methodLink "LoopJudgeLaw" (23 : Nat) ({ cls := "LoopJudge", name := "told", desc := "(II)I" } : Jvm.MethodName)) ∈ TB := tb_of (t_2 (List.mem_of_getElem? (i := 30) rfl)) rfl
theorem w_2_31 : (Jvm.Cond.instanceMethod ({ cls := "LoopJudge", name := "told", desc := "(II)I" } : Jvm.MethodName)) ∈ TB := tb_of (t_2 (List.mem_of_getElem? (i := 31) rfl)) rfl
theorem w_2_32 : (Jvm.Cond.selects "LoopJudge" ({ cls := "LoopJudge", name := "told", desc := "(II)I" } : Jvm.MethodName) ({ cls := "LoopJudge", name := "told", desc := "(II)I" } : Jvm.MethodName)) ∈ TB := tb_of (t_2 (List.mem_of_getElem? (i := 32) rfl)) rfl
theorem w_2_33 : (Jvm.Cond.code ({ cls := "LoopJudge", name := "told", desc := "(II)I" } : Jvm.MethodName) prog_1_method_4_code (3 : Nat) (Option.some Jvm.ClassFile.FieldType.int)) ∈ TB := tb_of (t_2 (List.mem_of_getElem? (i := 33) rfl)) rfl
theorem w_2_34 : (Jvm.Cond.methodLink "LoopJudgeLaw" (28 : Nat) ({ cls := "LoopJudge", name := "count", desc := "(I)I" } : Jvm.MethodName)) ∈ TB := tb_of (t_2 (List.mem_of_getElem? (i := 34) rfl)) rfl
theorem w_2_35 : (Jvm.Cond.instanceMethod ({ cls := "LoopJudge", name := "count", desc := "(I)I" } : Jvm.MethodName)) ∈ TB := tb_of (t_2 (List.mem_of_getElem? (i := 35) rfl)) rfl
theorem w_2_36 : (Jvm.Cond.selects "LoopJudge" ({ cls := "LoopJudge", name := "count", desc := "(I)I" } : Jvm.MethodName) ({ cls := "LoopJudge", name := "count", desc := "(I)I" } : Jvm.MethodName)) ∈ TB := tb_of (t_2 (List.mem_of_getElem? (i := 36) rfl)) rfl
theorem w_2_37 : (Jvm.Cond.code ({ cls := "LoopJudge", name := "count", desc := "(I)I" } : Jvm.MethodName) prog_1_method_5_code (2 : Nat) (Option.some Jvm.ClassFile.FieldType.int)) ∈ TB := tb_of (t_2 (List.mem_of_getElem? (i := 37) rfl)) rfl
theorem w_2_38 : (Jvm.Cond.methodLink "LoopJudge" (97 : Nat) ({ cls := "LoopJudge$Setting", name := "degreeTold", desc := "(I)I" } : Jvm.MethodName)) ∈ TB := tb_of (t_2 (List.mem_of_getElem? (i := 38) rfl)) rfl
theorem w_2_39 : (Jvm.Cond.instanceMethod ({ cls := "LoopJudge$Setting", name := "degreeTold", desc := "(I)I" } : Jvm.MethodName)) ∈ TB := tb_of (t_2 (List.mem_of_getElem? (i := 39) rfl)) rfl
theorem w_2_40 : (Jvm.Cond.selects "LoopJudge$Setting" ({ cls := "LoopJudge$Setting", name := "degreeTold", desc := "(I)I" } : Jvm.MethodName) ({ cls := "LoopJudge$Setting", name := "degreeTold", desc := "(I)I" } : Jvm.MethodName)) ∈ TB := tb_of (t_2 (List.mem_of_getElem? (i := 40) rfl)) rfl
theorem w_2_41 : (Jvm.Cond.code ({ cls := "LoopJudge$Setting", name := "degreeTold", desc := "(I)I" } : Jvm.MethodName) prog_5_method_4_code (3 : Nat) (Option.some Jvm.ClassFile.FieldType.int)) ∈ TB := tb_of (t_2 (List.mem_of_getElem? (i := 41) rfl)) rfl
theorem w_2_42 : (Jvm.Cond.methodLink "LoopJudge" (101 : Nat) ({ cls := "LoopJudge", name := "orNone", desc := "(I)I" } : Jvm.MethodName)) ∈ TB := tb_of (t_2 (List.mem_of_getElem? (i := 42) rfl)) rfl
theorem w_2_43 : (Jvm.Cond.static ({ cls := "LoopJudge", name := "orNone", desc := "(I)I" } : Jvm.MethodName)) ∈ TB := tb_of (t_2 (List.mem_of_getElem? (i := 43) rfl)) rfl
theorem w_2_44 : (Jvm.Cond.code ({ cls := "LoopJudge", name := "orNone", desc := "(I)I" } : Jvm.MethodName) prog_1_method_34_code (1 : Nat) (Option.some Jvm.ClassFile.FieldType.int)) ∈ TB := tb_of (t_2 (List.mem_of_getElem? (i := 44) rfl)) rfl
theorem w_2_45 : (Jvm.Cond.methodLink "LoopJudge" (104 : Nat) ({ cls := "LoopJudge$Setting", name := "fillLoop", desc := "([JI)V" } : Jvm.MethodName)) ∈ TB := tb_of (t_2 (List.mem_of_getElem? (i := 45) rfl)) rfl
theorem w_2_46 : (Jvm.Cond.instanceMethod ({ cls := "LoopJudge$Setting", name := "fillLoop", desc := "([JI)V" } : Jvm.MethodName)) ∈ TB := tb_of (t_2 (List.mem_of_getElem? (i := 46) rfl)) rfl
theorem w_2_47 : (Jvm.Cond.selects "LoopJudge$Setting" ({ cls := "LoopJudge$Setting", name := "fillLoop", desc := "([JI)V" } : Jvm.MethodName) ({ cls := "LoopJudge$Setting", name := "fillLoop", desc := "([JI)V" } : Jvm.MethodName)) ∈ TB := tb_of (t_2 (List.mem_of_getElem? (i := 47) rfl)) rfl
theorem w_2_48 : (Jvm.Cond.code ({ cls := "LoopJudge$Setting", name := "fillLoop", desc := "([JI)V" } : Jvm.MethodName) prog_5_method_5_code (4 : Nat) (Option.none : Option Jvm.ClassFile.FieldType)) ∈ TB := tb_of (t_2 (List.mem_of_getElem? (i := 48) rfl)) rfl
theorem w_2_49 : (Jvm.Cond.methodLink "LoopJudge" (108 : Nat) ({ cls := "LoopJudge", name := "degreeOf", desc := "([J)I" } : Jvm.MethodName)) ∈ TB := tb_of (t_2 (List.mem_of_getElem? (i := 49) rfl)) rfl
theorem w_2_50 : (Jvm.Cond.static ({ cls := "LoopJudge", name := "degreeOf", desc := "([J)I" } : Jvm.MethodName)) ∈ TB := tb_of (t_2 (List.mem_of_getElem? (i := 50) rfl)) rfl
theorem w_2_51 : (Jvm.Cond.code ({ cls := "LoopJudge", name := "degreeOf", desc := "([J)I" } : Jvm.MethodName) prog_1_method_35_code (2 : Nat) (Option.some Jvm.ClassFile.FieldType.int)) ∈ TB := tb_of (t_2 (List.mem_of_getElem? (i := 51) rfl)) rfl
theorem w_2_52 : (Jvm.Cond.methodLink "LoopJudgeLaw" (32 : Nat) ({ cls := "LoopJudge", name := "roots", desc := "(II)I" } : Jvm.MethodName)) ∈ TB := tb_of (t_2 (List.mem_of_getElem? (i := 52) rfl)) rfl
theorem w_2_53 : (Jvm.Cond.instanceMethod ({ cls := "LoopJudge", name := "roots", desc := "(II)I" } : Jvm.MethodName)) ∈ TB := tb_of (t_2 (List.mem_of_getElem? (i := 53) rfl)) rfl
theorem w_2_54 : (Jvm.Cond.selects "LoopJudge" ({ cls := "LoopJudge", name := "roots", desc := "(II)I" } : Jvm.MethodName) ({ cls := "LoopJudge", name := "roots", desc := "(II)I" } : Jvm.MethodName)) ∈ TB := tb_of (t_2 (List.mem_of_getElem? (i := 54) rfl)) rfl
theorem w_2_55 : (Jvm.Cond.code ({ cls := "LoopJudge", name := "roots", desc := "(II)I" } : Jvm.MethodName) prog_1_method_6_code (3 : Nat) (Option.some Jvm.ClassFile.FieldType.int)) ∈ TB := tb_of (t_2 (List.mem_of_getElem? (i := 55) rfl)) rfl
theorem w_2_56 : (Jvm.Cond.methodLink "LoopJudge" (115 : Nat) ({ cls := "LoopJudge", name := "countRoots", desc := "(III)I" } : Jvm.MethodName)) ∈ TB := tb_of (t_2 (List.mem_of_getElem? (i := 56) rfl)) rfl
theorem w_2_58 : (Jvm.Cond.instanceMethod ({ cls := "LoopJudge", name := "countRoots", desc := "(III)I" } : Jvm.MethodName)) ∈ TB := tb_of (t_2 (List.mem_of_getElem? (i := 58) rfl)) rfl
theorem w_2_59 : (Jvm.Cond.code ({ cls := "LoopJudge", name := "countRoots", desc := "(III)I" } : Jvm.MethodName) prog_1_method_29_code (4 : Nat) (Option.some Jvm.ClassFile.FieldType.int)) ∈ TB := tb_of (t_2 (List.mem_of_getElem? (i := 59) rfl)) rfl
theorem w_2_60 : (Jvm.Cond.methodLink "LoopJudge" (252 : Nat) ({ cls := "LoopJudge$Judge", name := "countRootsOf", desc := "(I[J)V" } : Jvm.MethodName)) ∈ TB := tb_of (t_2 (List.mem_of_getElem? (i := 60) rfl)) rfl
theorem w_2_61 : (Jvm.Cond.instanceMethod ({ cls := "LoopJudge$Judge", name := "countRootsOf", desc := "(I[J)V" } : Jvm.MethodName)) ∈ TB := tb_of (t_2 (List.mem_of_getElem? (i := 61) rfl)) rfl
theorem w_2_62 : (Jvm.Cond.selects "LoopJudge$Judge" ({ cls := "LoopJudge$Judge", name := "countRootsOf", desc := "(I[J)V" } : Jvm.MethodName) ({ cls := "LoopJudge$Judge", name := "countRootsOf", desc := "(I[J)V" } : Jvm.MethodName)) ∈ TB := tb_of (t_2 (List.mem_of_getElem? (i := 62) rfl)) rfl
theorem w_2_63 : (Jvm.Cond.code ({ cls := "LoopJudge$Judge", name := "countRootsOf", desc := "(I[J)V" } : Jvm.MethodName) prog_3_method_2_code (3 : Nat) (Option.none : Option Jvm.ClassFile.FieldType)) ∈ TB := tb_of (t_2 (List.mem_of_getElem? (i := 63) rfl)) rfl
theorem w_2_64 : (Jvm.Cond.methodLink "LoopJudge$Judge" (32 : Nat) ({ cls := "LoopJudge$Chain", name := "fill", desc := "([J)V" } : Jvm.MethodName)) ∈ TB := tb_of (t_2 (List.mem_of_getElem? (i := 64) rfl)) rfl
theorem w_2_65 : (Jvm.Cond.instanceMethod ({ cls := "LoopJudge$Chain", name := "fill", desc := "([J)V" } : Jvm.MethodName)) ∈ TB := tb_of (t_2 (List.mem_of_getElem? (i := 65) rfl)) rfl
theorem w_2_66 : (Jvm.Cond.selects "LoopJudge$Chain" ({ cls := "LoopJudge$Chain", name := "fill", desc := "([J)V" } : Jvm.MethodName) ({ cls := "LoopJudge$Chain", name := "fill", desc := "([J)V" } : Jvm.MethodName)) ∈ TB := tb_of (t_2 (List.mem_of_getElem? (i := 66) rfl)) rfl
theorem w_2_67 : (Jvm.Cond.code ({ cls := "LoopJudge$Chain", name := "fill", desc := "([J)V" } : Jvm.MethodName) prog_2_method_2_code (4 : Nat) (Option.none : Option Jvm.ClassFile.FieldType)) ∈ TB := tb_of (t_2 (List.mem_of_getElem? (i := 67) rfl)) rfl
theorem w_2_69 : (Jvm.Cond.methodLink "LoopJudge$Chain" (28 : Nat) ({ cls := "LoopJudge$Chain", name := "addHalf", desc := "([JI)V" } : Jvm.MethodName)) ∈ TB := tb_of (t_2 (List.mem_of_getElem? (i := 69) rfl)) rfl
theorem w_2_71 : (Jvm.Cond.instanceMethod ({ cls := "LoopJudge$Chain", name := "addHalf", desc := "([JI)V" } : Jvm.MethodName)) ∈ TB := tb_of (t_2 (List.mem_of_getElem? (i := 71) rfl)) rfl
theorem w_2_72 : (Jvm.Cond.code ({ cls := "LoopJudge$Chain", name := "addHalf", desc := "([JI)V" } : Jvm.MethodName) prog_2_method_3_code (5 : Nat) (Option.none : Option Jvm.ClassFile.FieldType)) ∈ TB := tb_of (t_2 (List.mem_of_getElem? (i := 72) rfl)) rfl
theorem w_2_73 : (Jvm.Cond.methodLink "LoopJudge$Chain" (36 : Nat) ({ cls := "LoopJudge$Chain", name := "addUnlessZero", desc := "()V" } : Jvm.MethodName)) ∈ TB := tb_of (t_2 (List.mem_of_getElem? (i := 73) rfl)) rfl
theorem w_2_75 : (Jvm.Cond.instanceMethod ({ cls := "LoopJudge$Chain", name := "addUnlessZero", desc := "()V" } : Jvm.MethodName)) ∈ TB := tb_of (t_2 (List.mem_of_getElem? (i := 75) rfl)) rfl
theorem w_2_76 : (Jvm.Cond.code ({ cls := "LoopJudge$Chain", name := "addUnlessZero", desc := "()V" } : Jvm.MethodName) prog_2_method_5_code (1 : Nat) (Option.none : Option Jvm.ClassFile.FieldType)) ∈ TB := tb_of (t_2 (List.mem_of_getElem? (i := 76) rfl)) rfl
theorem w_2_77 : (Jvm.Cond.methodLink "LoopJudge$Chain" (32 : Nat) ({ cls := "LoopJudge$Chain", name := "addRemainder", desc := "(I)V" } : Jvm.MethodName)) ∈ TB := tb_of (t_2 (List.mem_of_getElem? (i := 77) rfl)) rfl
theorem w_2_79 : (Jvm.Cond.instanceMethod ({ cls := "LoopJudge$Chain", name := "addRemainder", desc := "(I)V" } : Jvm.MethodName)) ∈ TB := tb_of (t_2 (List.mem_of_getElem? (i := 79) rfl)) rfl
theorem w_2_80 : (Jvm.Cond.code ({ cls := "LoopJudge$Chain", name := "addRemainder", desc := "(I)V" } : Jvm.MethodName) prog_2_method_4_code (5 : Nat) (Option.none : Option Jvm.ClassFile.FieldType)) ∈ TB := tb_of (t_2 (List.mem_of_getElem? (i := 80) rfl)) rfl
theorem w_2_81 : (Jvm.Cond.methodLink "LoopJudge$Chain" (39 : Nat) ({ cls := "java/lang/System", name := "arraycopy", desc := "(Ljava/lang/Object;ILjava/lang/Object;II)V" } : Jvm.MethodName)) ∈ TB := tb_of (t_2 (List.mem_of_getElem? (i := 81) rfl)) rfl
theorem w_2_82 : (Jvm.Cond.methodLink "LoopJudge$Chain" (45 : Nat) ({ cls := "LoopJudge$Chain", name := "strike", desc := "([JI[JI)V" } : Jvm.MethodName)) ∈ TB := tb_of (t_2 (List.mem_of_getElem? (i := 82) rfl)) rfl
theorem w_2_83 : (Jvm.Cond.static ({ cls := "LoopJudge$Chain", name := "strike", desc := "([JI[JI)V" } : Jvm.MethodName)) ∈ TB := tb_of (t_2 (List.mem_of_getElem? (i := 83) rfl)) rfl
theorem w_2_84 : (Jvm.Cond.code ({ cls := "LoopJudge$Chain", name := "strike", desc := "([JI[JI)V" } : Jvm.MethodName) prog_2_method_6_code (9 : Nat) (Option.none : Option Jvm.ClassFile.FieldType)) ∈ TB := tb_of (t_2 (List.mem_of_getElem? (i := 84) rfl)) rfl
theorem w_2_85 : (Jvm.Cond.methodLink "LoopJudge$Chain" (53 : Nat) ({ cls := "java/lang/Math", name := "abs", desc := "(J)J" } : Jvm.MethodName)) ∈ TB := tb_of (t_2 (List.mem_of_getElem? (i := 85) rfl)) rfl
theorem w_2_86 : (Jvm.Cond.static ({ cls := "java/lang/Math", name := "abs", desc := "(J)J" } : Jvm.MethodName)) ∈ TB := tb_of (t_2 (List.mem_of_getElem? (i := 86) rfl)) rfl
theorem w_2_87 : (Jvm.Cond.code ({ cls := "java/lang/Math", name := "abs", desc := "(J)J" } : Jvm.MethodName) prog_12_method_61_code (2 : Nat) (Option.some Jvm.ClassFile.FieldType.long)) ∈ TB := tb_of (t_2 (List.mem_of_getElem? (i := 87) rfl)) rfl
theorem w_2_88 : (Jvm.Cond.methodLink "LoopJudge$Chain" (49 : Nat) ({ cls := "LoopJudge$Chain", name := "takeLowestTerms", desc := "([J)V" } : Jvm.MethodName)) ∈ TB := tb_of (t_2 (List.mem_of_getElem? (i := 88) rfl)) rfl
theorem w_2_89 : (Jvm.Cond.static ({ cls := "LoopJudge$Chain", name := "takeLowestTerms", desc := "([J)V" } : Jvm.MethodName)) ∈ TB := tb_of (t_2 (List.mem_of_getElem? (i := 89) rfl)) rfl
theorem w_2_90 : (Jvm.Cond.code ({ cls := "LoopJudge$Chain", name := "takeLowestTerms", desc := "([J)V" } : Jvm.MethodName) prog_2_method_7_code (4 : Nat) (Option.none : Option Jvm.ClassFile.FieldType)) ∈ TB := tb_of (t_2 (List.mem_of_getElem? (i := 90) rfl)) rfl
theorem w_2_92 : (Jvm.Cond.static ({ cls := "LoopJudge", name := "commonDivisor", desc := "(JJ)J" } : Jvm.MethodName)) ∈ TB := tb_of (t_2 (List.mem_of_getElem? (i := 92) rfl)) rfl
theorem w_2_93 : (Jvm.Cond.code ({ cls := "LoopJudge", name := "commonDivisor", desc := "(JJ)J" } : Jvm.MethodName) prog_1_method_37_code (11 : Nat) (Option.some Jvm.ClassFile.FieldType.long)) ∈ TB := tb_of (t_2 (List.mem_of_getElem? (i := 93) rfl)) rfl
theorem w_2_94 : (Jvm.Cond.constantLong "LoopJudge$Chain" (63 : Nat) (2 : Int64)) ∈ TB := tb_of (t_2 (List.mem_of_getElem? (i := 94) rfl)) rfl
theorem w_2_95 : (Jvm.Cond.methodLink "LoopJudge$Judge" (36 : Nat) ({ cls := "LoopJudge$Judge", name := "countByChain", desc := "()V" } : Jvm.MethodName)) ∈ TB := tb_of (t_2 (List.mem_of_getElem? (i := 95) rfl)) rfl
theorem w_2_97 : (Jvm.Cond.instanceMethod ({ cls := "LoopJudge$Judge", name := "countByChain", desc := "()V" } : Jvm.MethodName)) ∈ TB := tb_of (t_2 (List.mem_of_getElem? (i := 97) rfl)) rfl
theorem w_2_98 : (Jvm.Cond.code ({ cls := "LoopJudge$Judge", name := "countByChain", desc := "()V" } : Jvm.MethodName) prog_3_method_6_code (4 : Nat) (Option.none : Option Jvm.ClassFile.FieldType)) ∈ TB := tb_of (t_2 (List.mem_of_getElem? (i := 98) rfl)) rfl
theorem w_2_99 : (Jvm.Cond.methodLink "LoopJudge$Judge" (67 : Nat) ({ cls := "LoopJudge$Judge", name := "signTurns", desc := "()I" } : Jvm.MethodName)) ∈ TB := tb_of (t_2 (List.mem_of_getElem? (i := 99) rfl)) rfl
theorem w_2_101 : (Jvm.Cond.instanceMethod ({ cls := "LoopJudge$Judge", name := "signTurns", desc := "()I" } : Jvm.MethodName)) ∈ TB := tb_of (t_2 (List.mem_of_getElem? (i := 101) rfl)) rfl
theorem w_2_102 : (Jvm.Cond.code ({ cls := "LoopJudge$Judge", name := "signTurns", desc := "()I" } : Jvm.MethodName) prog_3_method_7_code (9 : Nat) (Option.some Jvm.ClassFile.FieldType.int)) ∈ TB := tb_of (t_2 (List.mem_of_getElem? (i := 102) rfl)) rfl
theorem w_2_103 : (Jvm.Cond.methodLink "LoopJudge$Judge" (75 : Nat) ({ cls := "LoopJudge$Judge", name := "rootsOnAxis", desc := "([JI)I" } : Jvm.MethodName)) ∈ TB := tb_of (t_2 (List.mem_of_getElem? (i := 103) rfl)) rfl
theorem w_2_104 : (Jvm.Cond.static ({ cls := "LoopJudge$Judge", name := "rootsOnAxis", desc := "([JI)I" } : Jvm.MethodName)) ∈ TB := tb_of (t_2 (List.mem_of_getElem? (i := 104) rfl)) rfl
theorem w_2_105 : (Jvm.Cond.code ({ cls := "LoopJudge$Judge", name := "rootsOnAxis", desc := "([JI)I" } : Jvm.MethodName) prog_3_method_8_code (3 : Nat) (Option.some Jvm.ClassFile.FieldType.int)) ∈ TB := tb_of (t_2 (List.mem_of_getElem? (i := 105) rfl)) rfl
theorem w_2_106 : (Jvm.Cond.methodLink "LoopJudge$Judge" (79 : Nat) ({ cls := "LoopJudge$Judge", name := "rootsOnAxisOfFour", desc := "(JJJ)I" } : Jvm.MethodName)) ∈ TB := tb_of (t_2 (List.mem_of_getElem? (i := 106) rfl)) rfl
theorem w_2_107 : (Jvm.Cond.static ({ cls := "LoopJudge$Judge", name := "rootsOnAxisOfFour", desc := "(JJJ)I" } : Jvm.MethodName)) ∈ TB := tb_of (t_2 (List.mem_of_getElem? (i := 107) rfl)) rfl
theorem w_2_108 : (Jvm.Cond.code ({ cls := "LoopJudge$Judge", name := "rootsOnAxisOfFour", desc := "(JJJ)I" } : Jvm.MethodName) prog_3_method_9_code (7 : Nat) (Option.some Jvm.ClassFile.FieldType.int)) ∈ TB := tb_of (t_2 (List.mem_of_getElem? (i := 108) rfl)) rfl
theorem w_2_109 : (Jvm.Cond.constantLong "LoopJudge$Judge" (54 : Nat) (4 : Int64)) ∈ TB := tb_of (t_2 (List.mem_of_getElem? (i := 109) rfl)) rfl
theorem w_2_110 : (Jvm.Cond.methodLink "LoopJudge$Judge" (39 : Nat) ({ cls := "LoopJudge$Judge", name := "turn", desc := "([J)V" } : Jvm.MethodName)) ∈ TB := tb_of (t_2 (List.mem_of_getElem? (i := 110) rfl)) rfl
theorem w_2_112 : (Jvm.Cond.instanceMethod ({ cls := "LoopJudge$Judge", name := "turn", desc := "([J)V" } : Jvm.MethodName)) ∈ TB := tb_of (t_2 (List.mem_of_getElem? (i := 112) rfl)) rfl
theorem w_2_113 : (Jvm.Cond.code ({ cls := "LoopJudge$Judge", name := "turn", desc := "([J)V" } : Jvm.MethodName) prog_3_method_4_code (13 : Nat) (Option.none : Option Jvm.ClassFile.FieldType)) ∈ TB := tb_of (t_2 (List.mem_of_getElem? (i := 113) rfl)) rfl
theorem w_2_115 : (Jvm.Cond.methodLink "LoopJudge$Judge" (50 : Nat) ({ cls := "LoopJudge$Judge", name := "partBelow", desc := "([JII)J" } : Jvm.MethodName)) ∈ TB := tb_of (t_2 (List.mem_of_getElem? (i := 115) rfl)) rfl
theorem w_2_116 : (Jvm.Cond.static ({ cls := "LoopJudge$Judge", name := "partBelow", desc := "([JII)J" } : Jvm.MethodName)) ∈ TB := tb_of (t_2 (List.mem_of_getElem? (i := 116) rfl)) rfl
theorem w_2_117 : (Jvm.Cond.code ({ cls := "LoopJudge$Judge", name := "partBelow", desc := "([JII)J" } : Jvm.MethodName) prog_3_method_5_code (3 : Nat) (Option.some Jvm.ClassFile.FieldType.long)) ∈ TB := tb_of (t_2 (List.mem_of_getElem? (i := 117) rfl)) rfl
theorem w_2_118 : (Jvm.Cond.constantLong "LoopJudge$Judge" (56 : Nat) (2 : Int64)) ∈ TB := tb_of (t_2 (List.mem_of_getElem? (i := 118) rfl)) rfl
theorem w_2_119 : (Jvm.Cond.constantLong "LoopJudge$Judge" (58 : Nat) (6 : Int64)) ∈ TB := tb_of (t_2 (List.mem_of_getElem? (i := 119) rfl)) rfl
theorem w_2_120 : (Jvm.Cond.methodLink "LoopJudgeLaw" (36 : Nat) ({ cls := "LoopJudge", name := "at", desc := "(III)I" } : Jvm.MethodName)) ∈ TB := tb_of (t_2 (List.mem_of_getElem? (i := 120) rfl)) rfl
theorem w_2_121 : (Jvm.Cond.instanceMethod ({ cls := "LoopJudge", name := "at", desc := "(III)I" } : Jvm.MethodName)) ∈ TB := tb_of (t_2 (List.mem_of_getElem? (i := 121) rfl)) rfl
theorem w_2_122 : (Jvm.Cond.selects "LoopJudge" ({ cls := "LoopJudge", name := "at", desc := "(III)I" } : Jvm.MethodName) ({ cls := "LoopJudge", name := "at", desc := "(III)I" } : Jvm.MethodName)) ∈ TB := tb_of (t_2 (List.mem_of_getElem? (i := 122) rfl)) rfl
theorem w_2_123 : (Jvm.Cond.code ({ cls := "LoopJudge", name := "at", desc := "(III)I" } : Jvm.MethodName) prog_1_method_7_code (4 : Nat) (Option.some Jvm.ClassFile.FieldType.int)) ∈ TB := tb_of (t_2 (List.mem_of_getElem? (i := 123) rfl)) rfl
theorem w_2_124 : (Jvm.Cond.methodLink "LoopJudgeLaw" (40 : Nat) ({ cls := "LoopJudge", name := "row", desc := "(III)J" } : Jvm.MethodName)) ∈ TB := tb_of (t_2 (List.mem_of_getElem? (i := 124) rfl)) rfl
theorem w_2_125 : (Jvm.Cond.instanceMethod ({ cls := "LoopJudge", name := "row", desc := "(III)J" } : Jvm.MethodName)) ∈ TB := tb_of (t_2 (List.mem_of_getElem? (i := 125) rfl)) rfl
theorem w_2_126 : (Jvm.Cond.selects "LoopJudge" ({ cls := "LoopJudge", name := "row", desc := "(III)J" } : Jvm.MethodName) ({ cls := "LoopJudge", name := "row", desc := "(III)J" } : Jvm.MethodName)) ∈ TB := tb_of (t_2 (List.mem_of_getElem? (i := 126) rfl)) rfl
theorem w_2_127 : (Jvm.Cond.code ({ cls := "LoopJudge", name := "row", desc := "(III)J" } : Jvm.MethodName) prog_1_method_8_code (6 : Nat) (Option.some Jvm.ClassFile.FieldType.long)) ∈ TB := tb_of (t_2 (List.mem_of_getElem? (i := 127) rfl)) rfl
theorem w_2_128 : (Jvm.Cond.constantLong "LoopJudge" (119 : Nat) (-1 : Int64)) ∈ TB := tb_of (t_2 (List.mem_of_getElem? (i := 128) rfl)) rfl
theorem w_2_129 : (Jvm.Cond.methodLink "LoopJudge" (125 : Nat) ({ cls := "LoopJudge$Chain", name := "fill", desc := "([J)V" } : Jvm.MethodName)) ∈ TB := tb_of (t_2 (List.mem_of_getElem? (i := 129) rfl)) rfl
theorem w_2_130 : (Jvm.Cond.constantLong "LoopJudge" (134 : Nat) (-4 : Int64)) ∈ TB := tb_of (t_2 (List.mem_of_getElem? (i := 130) rfl)) rfl
theorem w_2_131 : (Jvm.Cond.methodLink "LoopJudge" (140 : Nat) ({ cls := "java/lang/Math", name := "abs", desc := "(J)J" } : Jvm.MethodName)) ∈ TB := tb_of (t_2 (List.mem_of_getElem? (i := 131) rfl)) rfl
theorem w_2_132 : (Jvm.Cond.constantLong "LoopJudge" (146 : Nat) (2 : Int64)) ∈ TB := tb_of (t_2 (List.mem_of_getElem? (i := 132) rfl)) rfl
theorem w_2_133 : (Jvm.Cond.methodLink "LoopJudgeLaw" (45 : Nat) ({ cls := "LoopJudge", name := "rows", desc := "()I" } : Jvm.MethodName)) ∈ TB := tb_of (t_2 (List.mem_of_getElem? (i := 133) rfl)) rfl
theorem w_2_134 : (Jvm.Cond.instanceMethod ({ cls := "LoopJudge", name := "rows", desc := "()I" } : Jvm.MethodName)) ∈ TB := tb_of (t_2 (List.mem_of_getElem? (i := 134) rfl)) rfl
theorem w_2_135 : (Jvm.Cond.selects "LoopJudge" ({ cls := "LoopJudge", name := "rows", desc := "()I" } : Jvm.MethodName) ({ cls := "LoopJudge", name := "rows", desc := "()I" } : Jvm.MethodName)) ∈ TB := tb_of (t_2 (List.mem_of_getElem? (i := 135) rfl)) rfl
theorem w_2_136 : (Jvm.Cond.code ({ cls := "LoopJudge", name := "rows", desc := "()I" } : Jvm.MethodName) prog_1_method_9_code (1 : Nat) (Option.some Jvm.ClassFile.FieldType.int)) ∈ TB := tb_of (t_2 (List.mem_of_getElem? (i := 136) rfl)) rfl
theorem w_2_137 : (Jvm.Cond.methodLink "LoopJudgeLaw" (50 : Nat) ({ cls := "LoopJudge", name := "span", desc := "(III)I" } : Jvm.MethodName)) ∈ TB := tb_of (t_2 (List.mem_of_getElem? (i := 137) rfl)) rfl
theorem w_2_138 : (Jvm.Cond.instanceMethod ({ cls := "LoopJudge", name := "span", desc := "(III)I" } : Jvm.MethodName)) ∈ TB := tb_of (t_2 (List.mem_of_getElem? (i := 138) rfl)) rfl
theorem w_2_139 : (Jvm.Cond.selects "LoopJudge" ({ cls := "LoopJudge", name := "span", desc := "(III)I" } : Jvm.MethodName) ({ cls := "LoopJudge", name := "span", desc := "(III)I" } : Jvm.MethodName)) ∈ TB := tb_of (t_2 (List.mem_of_getElem? (i := 139) rfl)) rfl
theorem w_2_140 : (Jvm.Cond.code ({ cls := "LoopJudge", name := "span", desc := "(III)I" } : Jvm.MethodName) prog_1_method_10_code (5 : Nat) (Option.some Jvm.ClassFile.FieldType.int)) ∈ TB := tb_of (t_2 (List.mem_of_getElem? (i := 140) rfl)) rfl
theorem w_2_141 : (Jvm.Cond.methodLink "LoopJudge" (148 : Nat) ({ cls := "LoopJudge", name := "bookOf", desc := "(I)LLoopJudge$SpanBook;" } : Jvm.MethodName)) ∈ TB := tb_of (t_2 (List.mem_of_getElem? (i := 141) rfl)) rfl
theorem w_2_143 : (Jvm.Cond.instanceMethod ({ cls := "LoopJudge", name := "bookOf", desc := "(I)LLoopJudge$SpanBook;" } : Jvm.MethodName)) ∈ TB := tb_of (t_2 (List.mem_of_getElem? (i := 143) rfl)) rfl
theorem w_2_144 : (Jvm.Cond.code ({ cls := "LoopJudge", name := "bookOf", desc := "(I)LLoopJudge$SpanBook;" } : Jvm.MethodName) prog_1_method_30_code (3 : Nat) (Option.some (Jvm.ClassFile.FieldType.object "LoopJudge$SpanBook"))) ∈ TB := tb_of (t_2 (List.mem_of_getElem? (i := 144) rfl)) rfl
theorem w_2_145 : (Jvm.Cond.methodLink "LoopJudge" (265 : Nat) ({ cls := "LoopJudge$SpanBook", name := "refresh", desc := "(LLoopJudge$Setting;LLoopJudge$Judge;)V" } : Jvm.MethodName)) ∈ TB := tb_of (t_2 (List.mem_of_getElem? (i := 145) rfl)) rfl
theorem w_2_146 : (Jvm.Cond.instanceMethod ({ cls := "LoopJudge$SpanBook", name := "refresh", desc := "(LLoopJudge$Setting;LLoopJudge$Judge;)V" } : Jvm.MethodName)) ∈ TB := tb_of (t_2 (List.mem_of_getElem? (i := 146) rfl)) rfl
theorem w_2_147 : (Jvm.Cond.selects "LoopJudge$SpanBook" ({ cls := "LoopJudge$SpanBook", name := "refresh", desc := "(LLoopJudge$Setting;LLoopJudge$Judge;)V" } : Jvm.MethodName) ({ cls := "LoopJudge$SpanBook", name := "refresh", desc := "(LLoopJudge$Setting;LLoopJudge$Judge;)V" } : Jvm.MethodName)) ∈ TB := tb_of (t_2 (List.mem_of_getElem? (i := 147) rfl)) rfl
theorem w_2_148 : (Jvm.Cond.code ({ cls := "LoopJudge$SpanBook", name := "refresh", desc := "(LLoopJudge$Setting;LLoopJudge$Judge;)V" } : Jvm.MethodName) prog_7_method_2_code (3 : Nat) (Option.none : Option Jvm.ClassFile.FieldType)) ∈ TB := tb_of (t_2 (List.mem_of_getElem? (i := 148) rfl)) rfl
theorem w_2_149 : (Jvm.Cond.methodLink "LoopJudge$SpanBook" (42 : Nat) ({ cls := "LoopJudge$SpanBook", name := "isOf", desc := "(LLoopJudge$Setting;)Z" } : Jvm.MethodName)) ∈ TB := tb_of (t_2 (List.mem_of_getElem? (i := 149) rfl)) rfl
theorem w_2_151 : (Jvm.Cond.instanceMethod ({ cls := "LoopJudge$SpanBook", name := "isOf", desc := "(LLoopJudge$Setting;)Z" } : Jvm.MethodName)) ∈ TB := tb_of (t_2 (List.mem_of_getElem? (i := 151) rfl)) rfl
theorem w_2_152 : (Jvm.Cond.code ({ cls := "LoopJudge$SpanBook", name := "isOf", desc := "(LLoopJudge$Setting;)Z" } : Jvm.MethodName) prog_7_method_4_code (3 : Nat) (Option.some Jvm.ClassFile.FieldType.boolean)) ∈ TB := tb_of (t_2 (List.mem_of_getElem? (i := 152) rfl)) rfl
theorem w_2_153 : (Jvm.Cond.methodLink "LoopJudge$SpanBook" (49 : Nat) ({ cls := "java/lang/System", name := "arraycopy", desc := "(Ljava/lang/Object;ILjava/lang/Object;II)V" } : Jvm.MethodName)) ∈ TB := tb_of (t_2 (List.mem_of_getElem? (i := 153) rfl)) rfl
theorem w_2_154 : (Jvm.Cond.methodLink "LoopJudge$SpanBook" (55 : Nat) ({ cls := "LoopJudge$SpanBook", name := "collect", desc := "(LLoopJudge$Setting;LLoopJudge$Judge;)V" } : Jvm.MethodName)) ∈ TB := tb_of (t_2 (List.mem_of_getElem? (i := 154) rfl)) rfl
theorem w_2_156 : (Jvm.Cond.instanceMethod ({ cls := "LoopJudge$SpanBook", name := "collect", desc := "(LLoopJudge$Setting;LLoopJudge$Judge;)V" } : Jvm.MethodName)) ∈ TB := tb_of (t_2 (List.mem_of_getElem? (i := 156) rfl)) rfl
theorem w_2_157 : (Jvm.Cond.code ({ cls := "LoopJudge$SpanBook", name := "collect", desc := "(LLoopJudge$Setting;LLoopJudge$Judge;)V" } : Jvm.MethodName) prog_7_method_5_code (4 : Nat) (Option.none : Option Jvm.ClassFile.FieldType)) ∈ TB := tb_of (t_2 (List.mem_of_getElem? (i := 157) rfl)) rfl
theorem w_2_158 : (Jvm.Cond.methodLink "LoopJudge$SpanBook" (62 : Nat) ({ cls := "LoopJudge$Setting", name := "fillLoop", desc := "([JI)V" } : Jvm.MethodName)) ∈ TB := tb_of (t_2 (List.mem_of_getElem? (i := 158) rfl)) rfl
theorem w_2_159 : (Jvm.Cond.methodLink "LoopJudge$SpanBook" (66 : Nat) ({ cls := "LoopJudge$Judge", name := "isSteady", desc := "(I[J)Z" } : Jvm.MethodName)) ∈ TB := tb_of (t_2 (List.mem_of_getElem? (i := 159) rfl)) rfl
theorem w_2_160 : (Jvm.Cond.instanceMethod ({ cls := "LoopJudge$Judge", name := "isSteady", desc := "(I[J)Z" } : Jvm.MethodName)) ∈ TB := tb_of (t_2 (List.mem_of_getElem? (i := 160) rfl)) rfl
theorem w_2_161 : (Jvm.Cond.selects "LoopJudge$Judge" ({ cls := "LoopJudge$Judge", name := "isSteady", desc := "(I[J)Z" } : Jvm.MethodName) ({ cls := "LoopJudge$Judge", name := "isSteady", desc := "(I[J)Z" } : Jvm.MethodName)) ∈ TB := tb_of (t_2 (List.mem_of_getElem? (i := 161) rfl)) rfl
theorem w_2_162 : (Jvm.Cond.code ({ cls := "LoopJudge$Judge", name := "isSteady", desc := "(I[J)Z" } : Jvm.MethodName) prog_3_method_3_code (3 : Nat) (Option.some Jvm.ClassFile.FieldType.boolean)) ∈ TB := tb_of (t_2 (List.mem_of_getElem? (i := 162) rfl)) rfl
theorem w_2_163 : (Jvm.Cond.methodLink "LoopJudge$Judge" (46 : Nat) ({ cls := "LoopJudge$Judge", name := "isSteadyByAxis", desc := "([J)Z" } : Jvm.MethodName)) ∈ TB := tb_of (t_2 (List.mem_of_getElem? (i := 163) rfl)) rfl
theorem w_2_164 : (Jvm.Cond.static ({ cls := "LoopJudge$Judge", name := "isSteadyByAxis", desc := "([J)Z" } : Jvm.MethodName)) ∈ TB := tb_of (t_2 (List.mem_of_getElem? (i := 164) rfl)) rfl
theorem w_2_165 : (Jvm.Cond.code ({ cls := "LoopJudge$Judge", name := "isSteadyByAxis", desc := "([J)Z" } : Jvm.MethodName) prog_3_method_10_code (5 : Nat) (Option.some Jvm.ClassFile.FieldType.boolean)) ∈ TB := tb_of (t_2 (List.mem_of_getElem? (i := 165) rfl)) rfl
theorem w_2_166 : (Jvm.Cond.methodLink "LoopJudge$SpanBook" (72 : Nat) ({ cls := "LoopJudge$SpanBook", name := "addGain", desc := "(I)V" } : Jvm.MethodName)) ∈ TB := tb_of (t_2 (List.mem_of_getElem? (i := 166) rfl)) rfl
theorem w_2_168 : (Jvm.Cond.instanceMethod ({ cls := "LoopJudge$SpanBook", name := "addGain", desc := "(I)V" } : Jvm.MethodName)) ∈ TB := tb_of (t_2 (List.mem_of_getElem? (i := 168) rfl)) rfl
theorem w_2_169 : (Jvm.Cond.code ({ cls := "LoopJudge$SpanBook", name := "addGain", desc := "(I)V" } : Jvm.MethodName) prog_7_method_6_code (2 : Nat) (Option.none : Option Jvm.ClassFile.FieldType)) ∈ TB := tb_of (t_2 (List.mem_of_getElem? (i := 169) rfl)) rfl
theorem w_2_170 : (Jvm.Cond.methodLink "LoopJudge$SpanBook" (59 : Nat) ({ cls := "LoopJudge$SpanBook", name := "orderByWidth", desc := "()V" } : Jvm.MethodName)) ∈ TB := tb_of (t_2 (List.mem_of_getElem? (i := 170) rfl)) rfl
theorem w_2_172 : (Jvm.Cond.instanceMethod ({ cls := "LoopJudge$SpanBook", name := "orderByWidth", desc := "()V" } : Jvm.MethodName)) ∈ TB := tb_of (t_2 (List.mem_of_getElem? (i := 172) rfl)) rfl
theorem w_2_173 : (Jvm.Cond.code ({ cls := "LoopJudge$SpanBook", name := "orderByWidth", desc := "()V" } : Jvm.MethodName) prog_7_method_7_code (3 : Nat) (Option.none : Option Jvm.ClassFile.FieldType)) ∈ TB := tb_of (t_2 (List.mem_of_getElem? (i := 173) rfl)) rfl
theorem w_2_174 : (Jvm.Cond.methodLink "LoopJudge$SpanBook" (76 : Nat) ({ cls := "LoopJudge$SpanBook", name := "widthOf", desc := "(I)I" } : Jvm.MethodName)) ∈ TB := tb_of (t_2 (List.mem_of_getElem? (i := 174) rfl)) rfl
theorem w_2_176 : (Jvm.Cond.instanceMethod ({ cls := "LoopJudge$SpanBook", name := "widthOf", desc := "(I)I" } : Jvm.MethodName)) ∈ TB := tb_of (t_2 (List.mem_of_getElem? (i := 176) rfl)) rfl
theorem w_2_177 : (Jvm.Cond.code ({ cls := "LoopJudge$SpanBook", name := "widthOf", desc := "(I)I" } : Jvm.MethodName) prog_7_method_8_code (2 : Nat) (Option.some Jvm.ClassFile.FieldType.int)) ∈ TB := tb_of (t_2 (List.mem_of_getElem? (i := 177) rfl)) rfl
theorem w_2_178 : (Jvm.Cond.methodLink "LoopJudge" (153 : Nat) ({ cls := "LoopJudge$SpanBook", name := "endOf", desc := "(II)I" } : Jvm.MethodName)) ∈ TB := tb_of (t_2 (List.mem_of_getElem? (i := 178) rfl)) rfl
theorem w_2_179 : (Jvm.Cond.instanceMethod ({ cls := "LoopJudge$SpanBook", name := "endOf", desc := "(II)I" } : Jvm.MethodName)) ∈ TB := tb_of (t_2 (List.mem_of_getElem? (i := 179) rfl)) rfl
theorem w_2_180 : (Jvm.Cond.selects "LoopJudge$SpanBook" ({ cls := "LoopJudge$SpanBook", name := "endOf", desc := "(II)I" } : Jvm.MethodName) ({ cls := "LoopJudge$SpanBook", name := "endOf", desc := "(II)I" } : Jvm.MethodName)) ∈ TB := tb_of (t_2 (List.mem_of_getElem? (i := 180) rfl)) rfl
theorem w_2_181 : (Jvm.Cond.code ({ cls := "LoopJudge$SpanBook", name := "endOf", desc := "(II)I" } : Jvm.MethodName) prog_7_method_3_code (3 : Nat) (Option.some Jvm.ClassFile.FieldType.int)) ∈ TB := tb_of (t_2 (List.mem_of_getElem? (i := 181) rfl)) rfl
theorem w_2_182 : (Jvm.Cond.methodLink "LoopJudgeLaw" (54 : Nat) ({ cls := "LoopJudge", name := "widest", desc := "(III)I" } : Jvm.MethodName)) ∈ TB := tb_of (t_2 (List.mem_of_getElem? (i := 182) rfl)) rfl
theorem w_2_183 : (Jvm.Cond.instanceMethod ({ cls := "LoopJudge", name := "widest", desc := "(III)I" } : Jvm.MethodName)) ∈ TB := tb_of (t_2 (List.mem_of_getElem? (i := 183) rfl)) rfl
theorem w_2_184 : (Jvm.Cond.selects "LoopJudge" ({ cls := "LoopJudge", name := "widest", desc := "(III)I" } : Jvm.MethodName) ({ cls := "LoopJudge", name := "widest", desc := "(III)I" } : Jvm.MethodName)) ∈ TB := tb_of (t_2 (List.mem_of_getElem? (i := 184) rfl)) rfl
theorem w_2_185 : (Jvm.Cond.code ({ cls := "LoopJudge", name := "widest", desc := "(III)I" } : Jvm.MethodName) prog_1_method_11_code (5 : Nat) (Option.some Jvm.ClassFile.FieldType.int)) ∈ TB := tb_of (t_2 (List.mem_of_getElem? (i := 185) rfl)) rfl
theorem w_2_186 : (Jvm.Cond.methodLink "LoopJudgeLaw" (58 : Nat) ({ cls := "LoopJudge", name := "spans", desc := "(II)I" } : Jvm.MethodName)) ∈ TB := tb_of (t_2 (List.mem_of_getElem? (i := 186) rfl)) rfl
theorem w_2_187 : (Jvm.Cond.instanceMethod ({ cls := "LoopJudge", name := "spans", desc := "(II)I" } : Jvm.MethodName)) ∈ TB := tb_of (t_2 (List.mem_of_getElem? (i := 187) rfl)) rfl
theorem w_2_188 : (Jvm.Cond.selects "LoopJudge" ({ cls := "LoopJudge", name := "spans", desc := "(II)I" } : Jvm.MethodName) ({ cls := "LoopJudge", name := "spans", desc := "(II)I" } : Jvm.MethodName)) ∈ TB := tb_of (t_2 (List.mem_of_getElem? (i := 188) rfl)) rfl
theorem w_2_189 : (Jvm.Cond.code ({ cls := "LoopJudge", name := "spans", desc := "(II)I" } : Jvm.MethodName) prog_1_method_12_code (4 : Nat) (Option.some Jvm.ClassFile.FieldType.int)) ∈ TB := tb_of (t_2 (List.mem_of_getElem? (i := 189) rfl)) rfl
theorem w_2_190 : (Jvm.Cond.methodLink "LoopJudgeLaw" (62 : Nat) ({ cls := "LoopJudge", name := "corners", desc := "(I)I" } : Jvm.MethodName)) ∈ TB := tb_of (t_2 (List.mem_of_getElem? (i := 190) rfl)) rfl
theorem w_2_191 : (Jvm.Cond.instanceMethod ({ cls := "LoopJudge", name := "corners", desc := "(I)I" } : Jvm.MethodName)) ∈ TB := tb_of (t_2 (List.mem_of_getElem? (i := 191) rfl)) rfl
theorem w_2_192 : (Jvm.Cond.selects "LoopJudge" ({ cls := "LoopJudge", name := "corners", desc := "(I)I" } : Jvm.MethodName) ({ cls := "LoopJudge", name := "corners", desc := "(I)I" } : Jvm.MethodName)) ∈ TB := tb_of (t_2 (List.mem_of_getElem? (i := 192) rfl)) rfl
theorem w_2_193 : (Jvm.Cond.code ({ cls := "LoopJudge", name := "corners", desc := "(I)I" } : Jvm.MethodName) prog_1_method_13_code (5 : Nat) (Option.some Jvm.ClassFile.FieldType.int)) ∈ TB := tb_of (t_2 (List.mem_of_getElem? (i := 193) rfl)) rfl
theorem w_2_194 : (Jvm.Cond.fieldLink "LoopJudge" (163 : Nat) "LoopJudge" "CORNER_SIDES" "[I") ∈ TB := tb_of (t_2 (List.mem_of_getElem? (i := 194) rfl)) rfl
theorem w_2_196 : (Jvm.Cond.methodLink "LoopJudge" (166 : Nat) ({ cls := "LoopJudge$Judge", name := "isSteady", desc := "(I[J)Z" } : Jvm.MethodName)) ∈ TB := tb_of (t_2 (List.mem_of_getElem? (i := 196) rfl)) rfl
theorem w_2_197 : (Jvm.Cond.methodLink "LoopJudgeLaw" (66 : Nat) ({ cls := "LoopJudge", name := "neighbours", desc := "(I)I" } : Jvm.MethodName)) ∈ TB := tb_of (t_2 (List.mem_of_getElem? (i := 197) rfl)) rfl
theorem w_2_198 : (Jvm.Cond.instanceMethod ({ cls := "LoopJudge", name := "neighbours", desc := "(I)I" } : Jvm.MethodName)) ∈ TB := tb_of (t_2 (List.mem_of_getElem? (i := 198) rfl)) rfl
theorem w_2_199 : (Jvm.Cond.selects "LoopJudge" ({ cls := "LoopJudge", name := "neighbours", desc := "(I)I" } : Jvm.MethodName) ({ cls := "LoopJudge", name := "neighbours", desc := "(I)I" } : Jvm.MethodName)) ∈ TB := tb_of (t_2 (List.mem_of_getElem? (i := 199) rfl)) rfl
theorem w_2_200 : (Jvm.Cond.code ({ cls := "LoopJudge", name := "neighbours", desc := "(I)I" } : Jvm.MethodName) prog_1_method_14_code (6 : Nat) (Option.some Jvm.ClassFile.FieldType.int)) ∈ TB := tb_of (t_2 (List.mem_of_getElem? (i := 200) rfl)) rfl
theorem w_2_201 : (Jvm.Cond.methodLink "LoopJudgeLaw" (70 : Nat) ({ cls := "LoopJudge", name := "off", desc := "(II)I" } : Jvm.MethodName)) ∈ TB := tb_of (t_2 (List.mem_of_getElem? (i := 201) rfl)) rfl
theorem w_2_202 : (Jvm.Cond.instanceMethod ({ cls := "LoopJudge", name := "off", desc := "(II)I" } : Jvm.MethodName)) ∈ TB := tb_of (t_2 (List.mem_of_getElem? (i := 202) rfl)) rfl
theorem w_2_203 : (Jvm.Cond.selects "LoopJudge" ({ cls := "LoopJudge", name := "off", desc := "(II)I" } : Jvm.MethodName) ({ cls := "LoopJudge", name := "off", desc := "(II)I" } : Jvm.MethodName)) ∈ TB := tb_of (t_2 (List.mem_of_getElem? (i := 203) rfl)) rfl
theorem w_2_204 : (Jvm.Cond.code ({ cls := "LoopJudge", name := "off", desc := "(II)I" } : Jvm.MethodName) prog_1_method_15_code (6 : Nat) (Option.some Jvm.ClassFile.FieldType.int)) ∈ TB := tb_of (t_2 (List.mem_of_getElem? (i := 204) rfl)) rfl
theorem w_2_205 : (Jvm.Cond.methodLink "LoopJudge" (170 : Nat) ({ cls := "java/lang/Integer", name := "bitCount", desc := "(I)I" } : Jvm.MethodName)) ∈ TB := tb_of (t_2 (List.mem_of_getElem? (i := 205) rfl)) rfl
theorem w_2_206 : (Jvm.Cond.static ({ cls := "java/lang/Integer", name := "bitCount", desc := "(I)I" } : Jvm.MethodName)) ∈ TB := tb_of (t_2 (List.mem_of_getElem? (i := 206) rfl)) rfl
theorem w_2_207 : (Jvm.Cond.code ({ cls := "java/lang/Integer", name := "bitCount", desc := "(I)I" } : Jvm.MethodName) prog_11_method_49_code (1 : Nat) (Option.some Jvm.ClassFile.FieldType.int)) ∈ TB := tb_of (t_2 (List.mem_of_getElem? (i := 207) rfl)) rfl
theorem w_2_208 : (Jvm.Cond.constant "java/lang/Integer" (265 : Nat) (1431655765 : Int32)) ∈ TB := tb_of (t_2 (List.mem_of_getElem? (i := 208) rfl)) rfl
theorem w_2_209 : (Jvm.Cond.constant "java/lang/Integer" (266 : Nat) (858993459 : Int32)) ∈ TB := tb_of (t_2 (List.mem_of_getElem? (i := 209) rfl)) rfl
theorem w_2_210 : (Jvm.Cond.constant "java/lang/Integer" (267 : Nat) (252645135 : Int32)) ∈ TB := tb_of (t_2 (List.mem_of_getElem? (i := 210) rfl)) rfl
theorem w_2_211 : (Jvm.Cond.methodLink "LoopJudge" (175 : Nat) ({ cls := "LoopJudge", name := "oddsOf", desc := "(II)I" } : Jvm.MethodName)) ∈ TB := tb_of (t_2 (List.mem_of_getElem? (i := 211) rfl)) rfl
theorem w_2_212 : (Jvm.Cond.static ({ cls := "LoopJudge", name := "oddsOf", desc := "(II)I" } : Jvm.MethodName)) ∈ TB := tb_of (t_2 (List.mem_of_getElem? (i := 212) rfl)) rfl
theorem w_2_213 : (Jvm.Cond.code ({ cls := "LoopJudge", name := "oddsOf", desc := "(II)I" } : Jvm.MethodName) prog_1_method_36_code (4 : Nat) (Option.some Jvm.ClassFile.FieldType.int)) ∈ TB := tb_of (t_2 (List.mem_of_getElem? (i := 213) rfl)) rfl
theorem w_2_214 : (Jvm.Cond.constantLong "LoopJudge" (178 : Nat) (100000 : Int64)) ∈ TB := tb_of (t_2 (List.mem_of_getElem? (i := 214) rfl)) rfl
theorem w_2_215 : (Jvm.Cond.methodLink "LoopJudge" (180 : Nat) ({ cls := "LoopJudge", name := "commonDivisor", desc := "(JJ)J" } : Jvm.MethodName)) ∈ TB := tb_of (t_2 (List.mem_of_getElem? (i := 215) rfl)) rfl
theorem w_2_216 : (Jvm.Cond.constant "LoopJudge" (184 : Nat) (100000 : Int32)) ∈ TB := tb_of (t_2 (List.mem_of_getElem? (i := 216) rfl)) rfl
theorem w_2_217 : (Jvm.Cond.methodLink "LoopJudgeLaw" (74 : Nat) ({ cls := "LoopJudge", name := "type", desc := "(I)I" } : Jvm.MethodName)) ∈ TB := tb_of (t_2 (List.mem_of_getElem? (i := 217) rfl)) rfl
theorem w_2_218 : (Jvm.Cond.instanceMethod ({ cls := "LoopJudge", name := "type", desc := "(I)I" } : Jvm.MethodName)) ∈ TB := tb_of (t_2 (List.mem_of_getElem? (i := 218) rfl)) rfl
theorem w_2_219 : (Jvm.Cond.selects "LoopJudge" ({ cls := "LoopJudge", name := "type", desc := "(I)I" } : Jvm.MethodName) ({ cls := "LoopJudge", name := "type", desc := "(I)I" } : Jvm.MethodName)) ∈ TB := tb_of (t_2 (List.mem_of_getElem? (i := 219) rfl)) rfl
theorem w_2_220 : (Jvm.Cond.code ({ cls := "LoopJudge", name := "type", desc := "(I)I" } : Jvm.MethodName) prog_1_method_16_code (2 : Nat) (Option.some Jvm.ClassFile.FieldType.int)) ∈ TB := tb_of (t_2 (List.mem_of_getElem? (i := 220) rfl)) rfl
theorem w_2_221 : (Jvm.Cond.methodLink "LoopJudge" (185 : Nat) ({ cls := "LoopJudge$Tape", name := "append", desc := "(I)Z" } : Jvm.MethodName)) ∈ TB := tb_of (t_2 (List.mem_of_getElem? (i := 221) rfl)) rfl
theorem w_2_222 : (Jvm.Cond.instanceMethod ({ cls := "LoopJudge$Tape", name := "append", desc := "(I)Z" } : Jvm.MethodName)) ∈ TB := tb_of (t_2 (List.mem_of_getElem? (i := 222) rfl)) rfl
theorem w_2_223 : (Jvm.Cond.selects "LoopJudge$Tape" ({ cls := "LoopJudge$Tape", name := "append", desc := "(I)Z" } : Jvm.MethodName) ({ cls := "LoopJudge$Tape", name := "append", desc := "(I)Z" } : Jvm.MethodName)) ∈ TB := tb_of (t_2 (List.mem_of_getElem? (i := 223) rfl)) rfl
theorem w_2_224 : (Jvm.Cond.code ({ cls := "LoopJudge$Tape", name := "append", desc := "(I)Z" } : Jvm.MethodName) prog_8_method_2_code (2 : Nat) (Option.some Jvm.ClassFile.FieldType.boolean)) ∈ TB := tb_of (t_2 (List.mem_of_getElem? (i := 224) rfl)) rfl
theorem w_2_225 : (Jvm.Cond.methodLink "LoopJudgeLaw" (78 : Nat) ({ cls := "LoopJudge", name := "read", desc := "()I" } : Jvm.MethodName)) ∈ TB := tb_of (t_2 (List.mem_of_getElem? (i := 225) rfl)) rfl
theorem w_2_226 : (Jvm.Cond.instanceMethod ({ cls := "LoopJudge", name := "read", desc := "()I" } : Jvm.MethodName)) ∈ TB := tb_of (t_2 (List.mem_of_getElem? (i := 226) rfl)) rfl
theorem w_2_227 : (Jvm.Cond.selects "LoopJudge" ({ cls := "LoopJudge", name := "read", desc := "()I" } : Jvm.MethodName) ({ cls := "LoopJudge", name := "read", desc := "()I" } : Jvm.MethodName)) ∈ TB := tb_of (t_2 (List.mem_of_getElem? (i := 227) rfl)) rfl
theorem w_2_228 : (Jvm.Cond.code ({ cls := "LoopJudge", name := "read", desc := "()I" } : Jvm.MethodName) prog_1_method_17_code (2 : Nat) (Option.some Jvm.ClassFile.FieldType.int)) ∈ TB := tb_of (t_2 (List.mem_of_getElem? (i := 228) rfl)) rfl
theorem w_2_229 : (Jvm.Cond.methodLink "LoopJudge" (189 : Nat) ({ cls := "LoopJudge$Tape", name := "readText", desc := "()I" } : Jvm.MethodName)) ∈ TB := tb_of (t_2 (List.mem_of_getElem? (i := 229) rfl)) rfl
theorem w_2_230 : (Jvm.Cond.instanceMethod ({ cls := "LoopJudge$Tape", name := "readText", desc := "()I" } : Jvm.MethodName)) ∈ TB := tb_of (t_2 (List.mem_of_getElem? (i := 230) rfl)) rfl
theorem w_2_231 : (Jvm.Cond.selects "LoopJudge$Tape" ({ cls := "LoopJudge$Tape", name := "readText", desc := "()I" } : Jvm.MethodName) ({ cls := "LoopJudge$Tape", name := "readText", desc := "()I" } : Jvm.MethodName)) ∈ TB := tb_of (t_2 (List.mem_of_getElem? (i := 231) rfl)) rfl
theorem w_2_232 : (Jvm.Cond.code ({ cls := "LoopJudge$Tape", name := "readText", desc := "()I" } : Jvm.MethodName) prog_8_method_3_code (2 : Nat) (Option.some Jvm.ClassFile.FieldType.int)) ∈ TB := tb_of (t_2 (List.mem_of_getElem? (i := 232) rfl)) rfl
theorem w_2_233 : (Jvm.Cond.methodLink "LoopJudge$Tape" (36 : Nat) ({ cls := "java/util/Arrays", name := "fill", desc := "([II)V" } : Jvm.MethodName)) ∈ TB := tb_of (t_2 (List.mem_of_getElem? (i := 233) rfl)) rfl
theorem w_2_234 : (Jvm.Cond.static ({ cls := "java/util/Arrays", name := "fill", desc := "([II)V" } : Jvm.MethodName)) ∈ TB := tb_of (t_2 (List.mem_of_getElem? (i := 234) rfl)) rfl
theorem w_2_235 : (Jvm.Cond.code ({ cls := "java/util/Arrays", name := "fill", desc := "([II)V" } : Jvm.MethodName) prog_14_method_103_code (4 : Nat) (Option.none : Option Jvm.ClassFile.FieldType)) ∈ TB := tb_of (t_2 (List.mem_of_getElem? (i := 235) rfl)) rfl
theorem w_2_236 : (Jvm.Cond.methodLink "LoopJudge$Tape" (42 : Nat) ({ cls := "LoopJudge$Tape", name := "readTerms", desc := "(I)I" } : Jvm.MethodName)) ∈ TB := tb_of (t_2 (List.mem_of_getElem? (i := 236) rfl)) rfl
theorem w_2_238 : (Jvm.Cond.instanceMethod ({ cls := "LoopJudge$Tape", name := "readTerms", desc := "(I)I" } : Jvm.MethodName)) ∈ TB := tb_of (t_2 (List.mem_of_getElem? (i := 238) rfl)) rfl
theorem w_2_239 : (Jvm.Cond.code ({ cls := "LoopJudge$Tape", name := "readTerms", desc := "(I)I" } : Jvm.MethodName) prog_8_method_4_code (7 : Nat) (Option.some Jvm.ClassFile.FieldType.int)) ∈ TB := tb_of (t_2 (List.mem_of_getElem? (i := 239) rfl)) rfl
theorem w_3_0 : (Jvm.Cond.methodLink "LoopJudge$Tape" (46 : Nat) ({ cls := "LoopJudge$Tape", name := "nextLetter", desc := "()I" } : Jvm.MethodName)) ∈ TB := tb_of (t_3 (List.mem_of_getElem? (i := 0) rfl)) rfl
theorem w_3_2 : (Jvm.Cond.instanceMethod ({ cls := "LoopJudge$Tape", name := "nextLetter", desc := "()I" } : Jvm.MethodName)) ∈ TB := tb_of (t_3 (List.mem_of_getElem? (i := 2) rfl)) rfl
theorem w_3_3 : (Jvm.Cond.code ({ cls := "LoopJudge$Tape", name := "nextLetter", desc := "()I" } : Jvm.MethodName) prog_8_method_7_code (1 : Nat) (Option.some Jvm.ClassFile.FieldType.int)) ∈ TB := tb_of (t_3 (List.mem_of_getElem? (i := 3) rfl)) rfl
theorem w_3_4 : (Jvm.Cond.methodLink "LoopJudge$Tape" (50 : Nat) ({ cls := "LoopJudge$Tape", name := "readTerm", desc := "()Z" } : Jvm.MethodName)) ∈ TB := tb_of (t_3 (List.mem_of_getElem? (i := 4) rfl)) rfl
theorem w_3_6 : (Jvm.Cond.instanceMethod ({ cls := "LoopJudge$Tape", name := "readTerm", desc := "()Z" } : Jvm.MethodName)) ∈ TB := tb_of (t_3 (List.mem_of_getElem? (i := 6) rfl)) rfl
theorem w_3_7 : (Jvm.Cond.code ({ cls := "LoopJudge$Tape", name := "readTerm", desc := "()Z" } : Jvm.MethodName) prog_8_method_5_code (2 : Nat) (Option.some Jvm.ClassFile.FieldType.boolean)) ∈ TB := tb_of (t_3 (List.mem_of_getElem? (i := 7) rfl)) rfl
theorem w_3_8 : (Jvm.Cond.methodLink "LoopJudge$Tape" (54 : Nat) ({ cls := "LoopJudge$Tape", name := "readPower", desc := "()V" } : Jvm.MethodName)) ∈ TB := tb_of (t_3 (List.mem_of_getElem? (i := 8) rfl)) rfl
theorem w_3_10 : (Jvm.Cond.instanceMethod ({ cls := "LoopJudge$Tape", name := "readPower", desc := "()V" } : Jvm.MethodName)) ∈ TB := tb_of (t_3 (List.mem_of_getElem? (i := 10) rfl)) rfl
theorem w_3_11 : (Jvm.Cond.code ({ cls := "LoopJudge$Tape", name := "readPower", desc := "()V" } : Jvm.MethodName) prog_8_method_6_code (2 : Nat) (Option.none : Option Jvm.ClassFile.FieldType)) ∈ TB := tb_of (t_3 (List.mem_of_getElem? (i := 11) rfl)) rfl
theorem w_3_12 : (Jvm.Cond.methodLink "LoopJudge" (197 : Nat) ({ cls := "java/lang/System", name := "arraycopy", desc := "(Ljava/lang/Object;ILjava/lang/Object;II)V" } : Jvm.MethodName)) ∈ TB := tb_of (t_3 (List.mem_of_getElem? (i := 12) rfl)) rfl
theorem w_3_13 : (Jvm.Cond.methodLink "LoopJudgeLaw" (82 : Nat) ({ cls := "LoopJudge", name := "drift", desc := "(I)I" } : Jvm.MethodName)) ∈ TB := tb_of (t_3 (List.mem_of_getElem? (i := 13) rfl)) rfl
theorem w_3_14 : (Jvm.Cond.instanceMethod ({ cls := "LoopJudge", name := "drift", desc := "(I)I" } : Jvm.MethodName)) ∈ TB := tb_of (t_3 (List.mem_of_getElem? (i := 14) rfl)) rfl
theorem w_3_15 : (Jvm.Cond.selects "LoopJudge" ({ cls := "LoopJudge", name := "drift", desc := "(I)I" } : Jvm.MethodName) ({ cls := "LoopJudge", name := "drift", desc := "(I)I" } : Jvm.MethodName)) ∈ TB := tb_of (t_3 (List.mem_of_getElem? (i := 15) rfl)) rfl
theorem w_3_16 : (Jvm.Cond.code ({ cls := "LoopJudge", name := "drift", desc := "(I)I" } : Jvm.MethodName) prog_1_method_18_code (3 : Nat) (Option.some Jvm.ClassFile.FieldType.int)) ∈ TB := tb_of (t_3 (List.mem_of_getElem? (i := 16) rfl)) rfl
theorem w_3_17 : (Jvm.Cond.methodLink "LoopJudge" (203 : Nat) ({ cls := "LoopJudge$Setting", name := "drawOnce", desc := "()V" } : Jvm.MethodName)) ∈ TB := tb_of (t_3 (List.mem_of_getElem? (i := 17) rfl)) rfl
theorem w_3_18 : (Jvm.Cond.instanceMethod ({ cls := "LoopJudge$Setting", name := "drawOnce", desc := "()V" } : Jvm.MethodName)) ∈ TB := tb_of (t_3 (List.mem_of_getElem? (i := 18) rfl)) rfl
theorem w_3_19 : (Jvm.Cond.selects "LoopJudge$Setting" ({ cls := "LoopJudge$Setting", name := "drawOnce", desc := "()V" } : Jvm.MethodName) ({ cls := "LoopJudge$Setting", name := "drawOnce", desc := "()V" } : Jvm.MethodName)) ∈ TB := tb_of (t_3 (List.mem_of_getElem? (i := 19) rfl)) rfl
theorem w_3_20 : (Jvm.Cond.code ({ cls := "LoopJudge$Setting", name := "drawOnce", desc := "()V" } : Jvm.MethodName) prog_5_method_6_code (2 : Nat) (Option.none : Option Jvm.ClassFile.FieldType)) ∈ TB := tb_of (t_3 (List.mem_of_getElem? (i := 20) rfl)) rfl
theorem w_3_21 : (Jvm.Cond.constant "LoopJudge$Setting" (28 : Nat) (1103515245 : Int32)) ∈ TB := tb_of (t_3 (List.mem_of_getElem? (i := 21) rfl)) rfl
theorem w_3_22 : (Jvm.Cond.constant "LoopJudge$Setting" (29 : Nat) (2147483647 : Int32)) ∈ TB := tb_of (t_3 (List.mem_of_getElem? (i := 22) rfl)) rfl
theorem w_3_23 : (Jvm.Cond.constant "LoopJudge$Setting" (30 : Nat) (65536 : Int32)) ∈ TB := tb_of (t_3 (List.mem_of_getElem? (i := 23) rfl)) rfl
theorem w_3_24 : (Jvm.Cond.methodLink "LoopJudgeLaw" (86 : Nat) ({ cls := "LoopJudge", name := "undo", desc := "()I" } : Jvm.MethodName)) ∈ TB := tb_of (t_3 (List.mem_of_getElem? (i := 24) rfl)) rfl
theorem w_3_25 : (Jvm.Cond.instanceMethod ({ cls := "LoopJudge", name := "undo", desc := "()I" } : Jvm.MethodName)) ∈ TB := tb_of (t_3 (List.mem_of_getElem? (i := 25) rfl)) rfl
theorem w_3_26 : (Jvm.Cond.selects "LoopJudge" ({ cls := "LoopJudge", name := "undo", desc := "()I" } : Jvm.MethodName) ({ cls := "LoopJudge", name := "undo", desc := "()I" } : Jvm.MethodName)) ∈ TB := tb_of (t_3 (List.mem_of_getElem? (i := 26) rfl)) rfl
theorem w_3_27 : (Jvm.Cond.code ({ cls := "LoopJudge", name := "undo", desc := "()I" } : Jvm.MethodName) prog_1_method_19_code (1 : Nat) (Option.some Jvm.ClassFile.FieldType.int)) ∈ TB := tb_of (t_3 (List.mem_of_getElem? (i := 27) rfl)) rfl
theorem w_3_28 : (Jvm.Cond.methodLink "LoopJudge" (206 : Nat) ({ cls := "LoopJudge$Past", name := "giveBack", desc := "(LLoopJudge$Setting;)V" } : Jvm.MethodName)) ∈ TB := tb_of (t_3 (List.mem_of_getElem? (i := 28) rfl)) rfl
theorem w_3_29 : (Jvm.Cond.instanceMethod ({ cls := "LoopJudge$Past", name := "giveBack", desc := "(LLoopJudge$Setting;)V" } : Jvm.MethodName)) ∈ TB := tb_of (t_3 (List.mem_of_getElem? (i := 29) rfl)) rfl
theorem w_3_30 : (Jvm.Cond.selects "LoopJudge$Past" ({ cls := "LoopJudge$Past", name := "giveBack", desc := "(LLoopJudge$Setting;)V" } : Jvm.MethodName) ({ cls := "LoopJudge$Past", name := "giveBack", desc := "(LLoopJudge$Setting;)V" } : Jvm.MethodName)) ∈ TB := tb_of (t_3 (List.mem_of_getElem? (i := 30) rfl)) rfl
theorem w_3_31 : (Jvm.Cond.code ({ cls := "LoopJudge$Past", name := "giveBack", desc := "(LLoopJudge$Setting;)V" } : Jvm.MethodName) prog_4_method_3_code (2 : Nat) (Option.none : Option Jvm.ClassFile.FieldType)) ∈ TB := tb_of (t_3 (List.mem_of_getElem? (i := 31) rfl)) rfl
theorem w_3_32 : (Jvm.Cond.methodLink "LoopJudgeLaw" (90 : Nat) ({ cls := "LoopJudge", name := "seed", desc := "(I)I" } : Jvm.MethodName)) ∈ TB := tb_of (t_3 (List.mem_of_getElem? (i := 32) rfl)) rfl
theorem w_3_33 : (Jvm.Cond.instanceMethod ({ cls := "LoopJudge", name := "seed", desc := "(I)I" } : Jvm.MethodName)) ∈ TB := tb_of (t_3 (List.mem_of_getElem? (i := 33) rfl)) rfl
theorem w_3_34 : (Jvm.Cond.selects "LoopJudge" ({ cls := "LoopJudge", name := "seed", desc := "(I)I" } : Jvm.MethodName) ({ cls := "LoopJudge", name := "seed", desc := "(I)I" } : Jvm.MethodName)) ∈ TB := tb_of (t_3 (List.mem_of_getElem? (i := 34) rfl)) rfl
theorem w_3_35 : (Jvm.Cond.code ({ cls := "LoopJudge", name := "seed", desc := "(I)I" } : Jvm.MethodName) prog_1_method_20_code (3 : Nat) (Option.some Jvm.ClassFile.FieldType.int)) ∈ TB := tb_of (t_3 (List.mem_of_getElem? (i := 35) rfl)) rfl
theorem w_3_36 : (Jvm.Cond.methodLink "LoopJudgeLaw" (94 : Nat) ({ cls := "LoopJudge", name := "image", desc := "()I" } : Jvm.MethodName)) ∈ TB := tb_of (t_3 (List.mem_of_getElem? (i := 36) rfl)) rfl
theorem w_3_37 : (Jvm.Cond.instanceMethod ({ cls := "LoopJudge", name := "image", desc := "()I" } : Jvm.MethodName)) ∈ TB := tb_of (t_3 (List.mem_of_getElem? (i := 37) rfl)) rfl
theorem w_3_38 : (Jvm.Cond.selects "LoopJudge" ({ cls := "LoopJudge", name := "image", desc := "()I" } : Jvm.MethodName) ({ cls := "LoopJudge", name := "image", desc := "()I" } : Jvm.MethodName)) ∈ TB := tb_of (t_3 (List.mem_of_getElem? (i := 38) rfl)) rfl
theorem w_3_39 : (Jvm.Cond.code ({ cls := "LoopJudge", name := "image", desc := "()I" } : Jvm.MethodName) prog_1_method_21_code (1 : Nat) (Option.some Jvm.ClassFile.FieldType.int)) ∈ TB := tb_of (t_3 (List.mem_of_getElem? (i := 39) rfl)) rfl
theorem w_3_40 : (Jvm.Cond.methodLink "LoopJudge" (212 : Nat) ({ cls := "LoopJudge$Setting", name := "become", desc := "(LLoopJudge$Setting;)V" } : Jvm.MethodName)) ∈ TB := tb_of (t_3 (List.mem_of_getElem? (i := 40) rfl)) rfl
theorem w_3_41 : (Jvm.Cond.methodLink "LoopJudge" (215 : Nat) ({ cls := "LoopJudge$Past", name := "become", desc := "(LLoopJudge$Past;)V" } : Jvm.MethodName)) ∈ TB := tb_of (t_3 (List.mem_of_getElem? (i := 41) rfl)) rfl
theorem w_3_42 : (Jvm.Cond.instanceMethod ({ cls := "LoopJudge$Past", name := "become", desc := "(LLoopJudge$Past;)V" } : Jvm.MethodName)) ∈ TB := tb_of (t_3 (List.mem_of_getElem? (i := 42) rfl)) rfl
theorem w_3_43 : (Jvm.Cond.selects "LoopJudge$Past" ({ cls := "LoopJudge$Past", name := "become", desc := "(LLoopJudge$Past;)V" } : Jvm.MethodName) ({ cls := "LoopJudge$Past", name := "become", desc := "(LLoopJudge$Past;)V" } : Jvm.MethodName)) ∈ TB := tb_of (t_3 (List.mem_of_getElem? (i := 43) rfl)) rfl
theorem w_3_44 : (Jvm.Cond.code ({ cls := "LoopJudge$Past", name := "become", desc := "(LLoopJudge$Past;)V" } : Jvm.MethodName) prog_4_method_4_code (3 : Nat) (Option.none : Option Jvm.ClassFile.FieldType)) ∈ TB := tb_of (t_3 (List.mem_of_getElem? (i := 44) rfl)) rfl
theorem w_3_45 : (Jvm.Cond.methodLink "LoopJudgeLaw" (98 : Nat) ({ cls := "LoopJudge", name := "restore", desc := "()I" } : Jvm.MethodName)) ∈ TB := tb_of (t_3 (List.mem_of_getElem? (i := 45) rfl)) rfl
theorem w_3_46 : (Jvm.Cond.instanceMethod ({ cls := "LoopJudge", name := "restore", desc := "()I" } : Jvm.MethodName)) ∈ TB := tb_of (t_3 (List.mem_of_getElem? (i := 46) rfl)) rfl
theorem w_3_47 : (Jvm.Cond.selects "LoopJudge" ({ cls := "LoopJudge", name := "restore", desc := "()I" } : Jvm.MethodName) ({ cls := "LoopJudge", name := "restore", desc := "()I" } : Jvm.MethodName)) ∈ TB := tb_of (t_3 (List.mem_of_getElem? (i := 47) rfl)) rfl
theorem w_3_48 : (Jvm.Cond.code ({ cls := "LoopJudge", name := "restore", desc := "()I" } : Jvm.MethodName) prog_1_method_22_code (1 : Nat) (Option.some Jvm.ClassFile.FieldType.int)) ∈ TB := tb_of (t_3 (List.mem_of_getElem? (i := 48) rfl)) rfl
theorem w_3_49 : (Jvm.Cond.methodLink "LoopJudgeLaw" (102 : Nat) ({ cls := "LoopJudge", name := "judged", desc := "(IIII)I" } : Jvm.MethodName)) ∈ TB := tb_of (t_3 (List.mem_of_getElem? (i := 49) rfl)) rfl
theorem w_3_50 : (Jvm.Cond.instanceMethod ({ cls := "LoopJudge", name := "judged", desc := "(IIII)I" } : Jvm.MethodName)) ∈ TB := tb_of (t_3 (List.mem_of_getElem? (i := 50) rfl)) rfl
theorem w_3_51 : (Jvm.Cond.selects "LoopJudge" ({ cls := "LoopJudge", name := "judged", desc := "(IIII)I" } : Jvm.MethodName) ({ cls := "LoopJudge", name := "judged", desc := "(IIII)I" } : Jvm.MethodName)) ∈ TB := tb_of (t_3 (List.mem_of_getElem? (i := 51) rfl)) rfl
theorem w_3_52 : (Jvm.Cond.code ({ cls := "LoopJudge", name := "judged", desc := "(IIII)I" } : Jvm.MethodName) prog_1_method_23_code (8 : Nat) (Option.some Jvm.ClassFile.FieldType.int)) ∈ TB := tb_of (t_3 (List.mem_of_getElem? (i := 52) rfl)) rfl
theorem w_3_53 : (Jvm.Cond.methodLink "LoopJudge" (218 : Nat) ({ cls := "LoopJudge$Shelf", name := "refusal", desc := "(IIII)I" } : Jvm.MethodName)) ∈ TB := tb_of (t_3 (List.mem_of_getElem? (i := 53) rfl)) rfl
theorem w_3_54 : (Jvm.Cond.instanceMethod ({ cls := "LoopJudge$Shelf", name := "refusal", desc := "(IIII)I" } : Jvm.MethodName)) ∈ TB := tb_of (t_3 (List.mem_of_getElem? (i := 54) rfl)) rfl
theorem w_3_55 : (Jvm.Cond.selects "LoopJudge$Shelf" ({ cls := "LoopJudge$Shelf", name := "refusal", desc := "(IIII)I" } : Jvm.MethodName) ({ cls := "LoopJudge$Shelf", name := "refusal", desc := "(IIII)I" } : Jvm.MethodName)) ∈ TB := tb_of (t_3 (List.mem_of_getElem? (i := 55) rfl)) rfl
theorem w_3_56 : (Jvm.Cond.code ({ cls := "LoopJudge$Shelf", name := "refusal", desc := "(IIII)I" } : Jvm.MethodName) prog_6_method_5_code (5 : Nat) (Option.some Jvm.ClassFile.FieldType.int)) ∈ TB := tb_of (t_3 (List.mem_of_getElem? (i := 56) rfl)) rfl
theorem w_3_57 : (Jvm.Cond.methodLink "LoopJudge$Shelf" (29 : Nat) ({ cls := "LoopJudge$Shelf", name := "isMissing", desc := "(I)Z" } : Jvm.MethodName)) ∈ TB := tb_of (t_3 (List.mem_of_getElem? (i := 57) rfl)) rfl
theorem w_3_58 : (Jvm.Cond.instanceMethod ({ cls := "LoopJudge$Shelf", name := "isMissing", desc := "(I)Z" } : Jvm.MethodName)) ∈ TB := tb_of (t_3 (List.mem_of_getElem? (i := 58) rfl)) rfl
theorem w_3_59 : (Jvm.Cond.selects "LoopJudge$Shelf" ({ cls := "LoopJudge$Shelf", name := "isMissing", desc := "(I)Z" } : Jvm.MethodName) ({ cls := "LoopJudge$Shelf", name := "isMissing", desc := "(I)Z" } : Jvm.MethodName)) ∈ TB := tb_of (t_3 (List.mem_of_getElem? (i := 59) rfl)) rfl
theorem w_3_60 : (Jvm.Cond.code ({ cls := "LoopJudge$Shelf", name := "isMissing", desc := "(I)Z" } : Jvm.MethodName) prog_6_method_2_code (2 : Nat) (Option.some Jvm.ClassFile.FieldType.boolean)) ∈ TB := tb_of (t_3 (List.mem_of_getElem? (i := 60) rfl)) rfl
theorem w_3_61 : (Jvm.Cond.methodLink "LoopJudge$Shelf" (33 : Nat) ({ cls := "LoopJudge$Shelf", name := "hasItems", desc := "(III)Z" } : Jvm.MethodName)) ∈ TB := tb_of (t_3 (List.mem_of_getElem? (i := 61) rfl)) rfl
theorem w_3_62 : (Jvm.Cond.instanceMethod ({ cls := "LoopJudge$Shelf", name := "hasItems", desc := "(III)Z" } : Jvm.MethodName)) ∈ TB := tb_of (t_3 (List.mem_of_getElem? (i := 62) rfl)) rfl
theorem w_3_63 : (Jvm.Cond.selects "LoopJudge$Shelf" ({ cls := "LoopJudge$Shelf", name := "hasItems", desc := "(III)Z" } : Jvm.MethodName) ({ cls := "LoopJudge$Shelf", name := "hasItems", desc := "(III)Z" } : Jvm.MethodName)) ∈ TB := tb_of (t_3 (List.mem_of_getElem? (i := 63) rfl)) rfl
theorem w_3_64 : (Jvm.Cond.code ({ cls := "LoopJudge$Shelf", name := "hasItems", desc := "(III)Z" } : Jvm.MethodName) prog_6_method_6_code (4 : Nat) (Option.some Jvm.ClassFile.FieldType.boolean)) ∈ TB := tb_of (t_3 (List.mem_of_getElem? (i := 64) rfl)) rfl
theorem w_3_65 : (Jvm.Cond.methodLink "LoopJudge" (222 : Nat) ({ cls := "LoopJudge$Shelf", name := "holdsParts", desc := "(III)Z" } : Jvm.MethodName)) ∈ TB := tb_of (t_3 (List.mem_of_getElem? (i := 65) rfl)) rfl
theorem w_3_66 : (Jvm.Cond.instanceMethod ({ cls := "LoopJudge$Shelf", name := "holdsParts", desc := "(III)Z" } : Jvm.MethodName)) ∈ TB := tb_of (t_3 (List.mem_of_getElem? (i := 66) rfl)) rfl
theorem w_3_67 : (Jvm.Cond.selects "LoopJudge$Shelf" ({ cls := "LoopJudge$Shelf", name := "holdsParts", desc := "(III)Z" } : Jvm.MethodName) ({ cls := "LoopJudge$Shelf", name := "holdsParts", desc := "(III)Z" } : Jvm.MethodName)) ∈ TB := tb_of (t_3 (List.mem_of_getElem? (i := 67) rfl)) rfl
theorem w_3_68 : (Jvm.Cond.code ({ cls := "LoopJudge$Shelf", name := "holdsParts", desc := "(III)Z" } : Jvm.MethodName) prog_6_method_7_code (5 : Nat) (Option.some Jvm.ClassFile.FieldType.boolean)) ∈ TB := tb_of (t_3 (List.mem_of_getElem? (i := 68) rfl)) rfl
theorem w_3_70 : (Jvm.Cond.methodLink "LoopJudgeLaw" (107 : Nat) ({ cls := "LoopJudge", name := "film", desc := "(IIII)I" } : Jvm.MethodName)) ∈ TB := tb_of (t_3 (List.mem_of_getElem? (i := 70) rfl)) rfl
theorem w_3_71 : (Jvm.Cond.instanceMethod ({ cls := "LoopJudge", name := "film", desc := "(IIII)I" } : Jvm.MethodName)) ∈ TB := tb_of (t_3 (List.mem_of_getElem? (i := 71) rfl)) rfl
theorem w_3_72 : (Jvm.Cond.selects "LoopJudge" ({ cls := "LoopJudge", name := "film", desc := "(IIII)I" } : Jvm.MethodName) ({ cls := "LoopJudge", name := "film", desc := "(IIII)I" } : Jvm.MethodName)) ∈ TB := tb_of (t_3 (List.mem_of_getElem? (i := 72) rfl)) rfl
theorem w_3_73 : (Jvm.Cond.code ({ cls := "LoopJudge", name := "film", desc := "(IIII)I" } : Jvm.MethodName) prog_1_method_24_code (7 : Nat) (Option.some Jvm.ClassFile.FieldType.int)) ∈ TB := tb_of (t_3 (List.mem_of_getElem? (i := 73) rfl)) rfl
theorem w_3_74 : (Jvm.Cond.methodLink "LoopJudgeLaw" (111 : Nat) ({ cls := "LoopJudge", name := "sheet", desc := "(III)I" } : Jvm.MethodName)) ∈ TB := tb_of (t_3 (List.mem_of_getElem? (i := 74) rfl)) rfl
theorem w_3_75 : (Jvm.Cond.instanceMethod ({ cls := "LoopJudge", name := "sheet", desc := "(III)I" } : Jvm.MethodName)) ∈ TB := tb_of (t_3 (List.mem_of_getElem? (i := 75) rfl)) rfl
theorem w_3_76 : (Jvm.Cond.selects "LoopJudge" ({ cls := "LoopJudge", name := "sheet", desc := "(III)I" } : Jvm.MethodName) ({ cls := "LoopJudge", name := "sheet", desc := "(III)I" } : Jvm.MethodName)) ∈ TB := tb_of (t_3 (List.mem_of_getElem? (i := 76) rfl)) rfl
theorem w_3_77 : (Jvm.Cond.code ({ cls := "LoopJudge", name := "sheet", desc := "(III)I" } : Jvm.MethodName) prog_1_method_25_code (4 : Nat) (Option.some Jvm.ClassFile.FieldType.int)) ∈ TB := tb_of (t_3 (List.mem_of_getElem? (i := 77) rfl)) rfl
theorem w_3_78 : (Jvm.Cond.methodLink "LoopJudge" (229 : Nat) ({ cls := "LoopJudge$Shelf", name := "renew", desc := "(III)V" } : Jvm.MethodName)) ∈ TB := tb_of (t_3 (List.mem_of_getElem? (i := 78) rfl)) rfl
theorem w_3_79 : (Jvm.Cond.instanceMethod ({ cls := "LoopJudge$Shelf", name := "renew", desc := "(III)V" } : Jvm.MethodName)) ∈ TB := tb_of (t_3 (List.mem_of_getElem? (i := 79) rfl)) rfl
theorem w_3_80 : (Jvm.Cond.selects "LoopJudge$Shelf" ({ cls := "LoopJudge$Shelf", name := "renew", desc := "(III)V" } : Jvm.MethodName) ({ cls := "LoopJudge$Shelf", name := "renew", desc := "(III)V" } : Jvm.MethodName)) ∈ TB := tb_of (t_3 (List.mem_of_getElem? (i := 80) rfl)) rfl
theorem w_3_81 : (Jvm.Cond.code ({ cls := "LoopJudge$Shelf", name := "renew", desc := "(III)V" } : Jvm.MethodName) prog_6_method_3_code (4 : Nat) (Option.none : Option Jvm.ClassFile.FieldType)) ∈ TB := tb_of (t_3 (List.mem_of_getElem? (i := 81) rfl)) rfl
theorem w_3_82 : (Jvm.Cond.methodLink "LoopJudge$Shelf" (23 : Nat) ({ cls := "java/util/Arrays", name := "fill", desc := "([JJ)V" } : Jvm.MethodName)) ∈ TB := tb_of (t_3 (List.mem_of_getElem? (i := 82) rfl)) rfl
theorem w_3_83 : (Jvm.Cond.static ({ cls := "java/util/Arrays", name := "fill", desc := "([JJ)V" } : Jvm.MethodName)) ∈ TB := tb_of (t_3 (List.mem_of_getElem? (i := 83) rfl)) rfl
theorem w_3_84 : (Jvm.Cond.code ({ cls := "java/util/Arrays", name := "fill", desc := "([JJ)V" } : Jvm.MethodName) prog_14_method_101_code (5 : Nat) (Option.none : Option Jvm.ClassFile.FieldType)) ∈ TB := tb_of (t_3 (List.mem_of_getElem? (i := 84) rfl)) rfl
theorem w_3_85 : (Jvm.Cond.methodLink "LoopJudgeLaw" (115 : Nat) ({ cls := "LoopJudge", name := "drop", desc := "(I)I" } : Jvm.MethodName)) ∈ TB := tb_of (t_3 (List.mem_of_getElem? (i := 85) rfl)) rfl
theorem w_3_86 : (Jvm.Cond.instanceMethod ({ cls := "LoopJudge", name := "drop", desc := "(I)I" } : Jvm.MethodName)) ∈ TB := tb_of (t_3 (List.mem_of_getElem? (i := 86) rfl)) rfl
theorem w_3_87 : (Jvm.Cond.selects "LoopJudge" ({ cls := "LoopJudge", name := "drop", desc := "(I)I" } : Jvm.MethodName) ({ cls := "LoopJudge", name := "drop", desc := "(I)I" } : Jvm.MethodName)) ∈ TB := tb_of (t_3 (List.mem_of_getElem? (i := 87) rfl)) rfl
theorem w_3_88 : (Jvm.Cond.code ({ cls := "LoopJudge", name := "drop", desc := "(I)I" } : Jvm.MethodName) prog_1_method_26_code (3 : Nat) (Option.some Jvm.ClassFile.FieldType.int)) ∈ TB := tb_of (t_3 (List.mem_of_getElem? (i := 88) rfl)) rfl
theorem w_3_89 : (Jvm.Cond.methodLink "LoopJudge" (233 : Nat) ({ cls := "LoopJudge$Shelf", name := "isMissing", desc := "(I)Z" } : Jvm.MethodName)) ∈ TB := tb_of (t_3 (List.mem_of_getElem? (i := 89) rfl)) rfl
theorem w_3_90 : (Jvm.Cond.methodLink "LoopJudge" (239 : Nat) ({ cls := "LoopJudge$Shelf", name := "remove", desc := "(I)V" } : Jvm.MethodName)) ∈ TB := tb_of (t_3 (List.mem_of_getElem? (i := 90) rfl)) rfl
theorem w_3_91 : (Jvm.Cond.instanceMethod ({ cls := "LoopJudge$Shelf", name := "remove", desc := "(I)V" } : Jvm.MethodName)) ∈ TB := tb_of (t_3 (List.mem_of_getElem? (i := 91) rfl)) rfl
theorem w_3_92 : (Jvm.Cond.selects "LoopJudge$Shelf" ({ cls := "LoopJudge$Shelf", name := "remove", desc := "(I)V" } : Jvm.MethodName) ({ cls := "LoopJudge$Shelf", name := "remove", desc := "(I)V" } : Jvm.MethodName)) ∈ TB := tb_of (t_3 (List.mem_of_getElem? (i := 92) rfl)) rfl
theorem w_3_93 : (Jvm.Cond.code ({ cls := "LoopJudge$Shelf", name := "remove", desc := "(I)V" } : Jvm.MethodName) prog_6_method_4_code (2 : Nat) (Option.none : Option Jvm.ClassFile.FieldType)) ∈ TB := tb_of (t_3 (List.mem_of_getElem? (i := 93) rfl)) rfl
theorem w_3_94 : (Jvm.Cond.methodLink "LoopJudgeLaw" (121 : Nat) ({ cls := "LoopJudge", name := "item", desc := "(IIIJ)I" } : Jvm.MethodName)) ∈ TB := tb_of (t_3 (List.mem_of_getElem? (i := 94) rfl)) rfl
theorem w_3_95 : (Jvm.Cond.instanceMethod ({ cls := "LoopJudge", name := "item", desc := "(IIIJ)I" } : Jvm.MethodName)) ∈ TB := tb_of (t_3 (List.mem_of_getElem? (i := 95) rfl)) rfl
theorem w_3_96 : (Jvm.Cond.selects "LoopJudge" ({ cls := "LoopJudge", name := "item", desc := "(IIIJ)I" } : Jvm.MethodName) ({ cls := "LoopJudge", name := "item", desc := "(IIIJ)I" } : Jvm.MethodName)) ∈ TB := tb_of (t_3 (List.mem_of_getElem? (i := 96) rfl)) rfl
theorem w_3_97 : (Jvm.Cond.code ({ cls := "LoopJudge", name := "item", desc := "(IIIJ)I" } : Jvm.MethodName) prog_1_method_27_code (7 : Nat) (Option.some Jvm.ClassFile.FieldType.int)) ∈ TB := tb_of (t_3 (List.mem_of_getElem? (i := 97) rfl)) rfl
theorem w_3_98 : (Jvm.Cond.methodLink "LoopJudge" (242 : Nat) ({ cls := "LoopJudge", name := "cutTo", desc := "(IJ)J" } : Jvm.MethodName)) ∈ TB := tb_of (t_3 (List.mem_of_getElem? (i := 98) rfl)) rfl
theorem w_3_99 : (Jvm.Cond.static ({ cls := "LoopJudge", name := "cutTo", desc := "(IJ)J" } : Jvm.MethodName)) ∈ TB := tb_of (t_3 (List.mem_of_getElem? (i := 99) rfl)) rfl
theorem w_3_100 : (Jvm.Cond.code ({ cls := "LoopJudge", name := "cutTo", desc := "(IJ)J" } : Jvm.MethodName) prog_1_method_38_code (3 : Nat) (Option.some Jvm.ClassFile.FieldType.long)) ∈ TB := tb_of (t_3 (List.mem_of_getElem? (i := 100) rfl)) rfl
theorem w_3_101 : (Jvm.Cond.methodLink "LoopJudgeLaw" (126 : Nat) ({ cls := "LoopJudge", name := "copy", desc := "(IIIII)I" } : Jvm.MethodName)) ∈ TB := tb_of (t_3 (List.mem_of_getElem? (i := 101) rfl)) rfl
theorem w_3_102 : (Jvm.Cond.instanceMethod ({ cls := "LoopJudge", name := "copy", desc := "(IIIII)I" } : Jvm.MethodName)) ∈ TB := tb_of (t_3 (List.mem_of_getElem? (i := 102) rfl)) rfl
theorem w_3_103 : (Jvm.Cond.selects "LoopJudge" ({ cls := "LoopJudge", name := "copy", desc := "(IIIII)I" } : Jvm.MethodName) ({ cls := "LoopJudge", name := "copy", desc := "(IIIII)I" } : Jvm.MethodName)) ∈ TB := tb_of (t_3 (List.mem_of_getElem? (i := 103) rfl)) rfl
theorem w_3_104 : (Jvm.Cond.code ({ cls := "LoopJudge", name := "copy", desc := "(IIIII)I" } : Jvm.MethodName) prog_1_method_28_code (6 : Nat) (Option.some Jvm.ClassFile.FieldType.int)) ∈ TB := tb_of (t_3 (List.mem_of_getElem? (i := 104) rfl)) rfl
theorem w_3_105 : (Jvm.Cond.methodLink "LoopJudge" (249 : Nat) ({ cls := "LoopJudge$Shelf", name := "hasItems", desc := "(III)Z" } : Jvm.MethodName)) ∈ TB := tb_of (t_3 (List.mem_of_getElem? (i := 105) rfl)) rfl
theorem w_3_106 : (Jvm.Cond.classLink "LoopJudgeLaw" (10 : Nat) "LoopJudgeModel") ∈ TB := tb_of (t_3 (List.mem_of_getElem? (i := 106) rfl)) rfl
theorem w_3_107 : (Jvm.Cond.instantiable "LoopJudgeModel" (29 : Nat)) ∈ TB := tb_of (t_3 (List.mem_of_getElem? (i := 107) rfl)) rfl
theorem w_3_108 : (Jvm.Cond.methodLink "LoopJudgeLaw" (12 : Nat) ({ cls := "LoopJudgeModel", name := "<init>", desc := "()V" } : Jvm.MethodName)) ∈ TB := tb_of (t_3 (List.mem_of_getElem? (i := 108) rfl)) rfl
theorem w_3_109 : (Jvm.Cond.instanceMethod ({ cls := "LoopJudgeModel", name := "<init>", desc := "()V" } : Jvm.MethodName)) ∈ TB := tb_of (t_3 (List.mem_of_getElem? (i := 109) rfl)) rfl
theorem w_3_110 : (Jvm.Cond.code ({ cls := "LoopJudgeModel", name := "<init>", desc := "()V" } : Jvm.MethodName) prog_10_method_1_code (2 : Nat) (Option.none : Option Jvm.ClassFile.FieldType)) ∈ TB := tb_of (t_3 (List.mem_of_getElem? (i := 110) rfl)) rfl
theorem w_3_111 : (Jvm.Cond.methodLink "LoopJudgeModel" (1 : Nat) ({ cls := "java/lang/Object", name := "<init>", desc := "()V" } : Jvm.MethodName)) ∈ TB := tb_of (t_3 (List.mem_of_getElem? (i := 111) rfl)) rfl
theorem w_3_112 : (Jvm.Cond.fieldLink "LoopJudgeModel" (7 : Nat) "LoopJudgeModel" "st" "[I") ∈ TB := tb_of (t_3 (List.mem_of_getElem? (i := 112) rfl)) rfl
theorem w_3_113 : (Jvm.Cond.fieldLink "LoopJudgeModel" (13 : Nat) "LoopJudgeModel" "past" "[I") ∈ TB := tb_of (t_3 (List.mem_of_getElem? (i := 113) rfl)) rfl
theorem w_3_114 : (Jvm.Cond.fieldLink "LoopJudgeModel" (66 : Nat) "LoopJudgeModel" "acts" "I") ∈ TB := tb_of (t_3 (List.mem_of_getElem? (i := 114) rfl)) rfl
theorem w_3_115 : (Jvm.Cond.fieldLink "LoopJudgeModel" (16 : Nat) "LoopJudgeModel" "image" "[I") ∈ TB := tb_of (t_3 (List.mem_of_getElem? (i := 115) rfl)) rfl
theorem w_3_116 : (Jvm.Cond.fieldLink "LoopJudgeModel" (19 : Nat) "LoopJudgeModel" "imagePast" "[I") ∈ TB := tb_of (t_3 (List.mem_of_getElem? (i := 116) rfl)) rfl
theorem w_3_117 : (Jvm.Cond.fieldLink "LoopJudgeModel" (22 : Nat) "LoopJudgeModel" "imageActs" "I") ∈ TB := tb_of (t_3 (List.mem_of_getElem? (i := 117) rfl)) rfl
theorem w_3_118 : (Jvm.Cond.fieldLink "LoopJudgeModel" (26 : Nat) "LoopJudgeModel" "tape" "[I") ∈ TB := tb_of (t_3 (List.mem_of_getElem? (i := 118) rfl)) rfl
theorem w_3_119 : (Jvm.Cond.fieldLink "LoopJudgeModel" (223 : Nat) "LoopJudgeModel" "tapeMany" "I") ∈ TB := tb_of (t_3 (List.mem_of_getElem? (i := 119) rfl)) rfl
theorem w_3_120 : (Jvm.Cond.fieldLink "LoopJudgeModel" (29 : Nat) "LoopJudgeModel" "laneOf" "[I") ∈ TB := tb_of (t_3 (List.mem_of_getElem? (i := 120) rfl)) rfl
theorem w_3_121 : (Jvm.Cond.fieldLink "LoopJudgeModel" (32 : Nat) "LoopJudgeModel" "sizeOf" "[I") ∈ TB := tb_of (t_3 (List.mem_of_getElem? (i := 121) rfl)) rfl
theorem w_3_122 : (Jvm.Cond.fieldLink "LoopJudgeModel" (35 : Nat) "LoopJudgeModel" "items" "[J") ∈ TB := tb_of (t_3 (List.mem_of_getElem? (i := 122) rfl)) rfl
theorem w_3_123 : (Jvm.Cond.fieldLink "LoopJudgeModel" (39 : Nat) "LoopJudgeModel" "p" "[J") ∈ TB := tb_of (t_3 (List.mem_of_getElem? (i := 123) rfl)) rfl
theorem w_3_124 : (Jvm.Cond.fieldLink "LoopJudgeModel" (75 : Nat) "LoopJudgeModel" "right" "I") ∈ TB := tb_of (t_3 (List.mem_of_getElem? (i := 124) rfl)) rfl
theorem w_3_125 : (Jvm.Cond.fieldLink "LoopJudgeModel" (78 : Nat) "LoopJudgeModel" "even" "I") ∈ TB := tb_of (t_3 (List.mem_of_getElem? (i := 125) rfl)) rfl
theorem w_3_126 : (Jvm.Cond.fieldLink "LoopJudgeModel" (81 : Nat) "LoopJudgeModel" "left" "I") ∈ TB := tb_of (t_3 (List.mem_of_getElem? (i := 126) rfl)) rfl
theorem w_3_127 : (Jvm.Cond.fieldLink "LoopJudgeModel" (42 : Nat) "LoopJudgeModel" "a" "[J") ∈ TB := tb_of (t_3 (List.mem_of_getElem? (i := 127) rfl)) rfl
theorem w_3_128 : (Jvm.Cond.fieldLink "LoopJudgeModel" (98 : Nat) "LoopJudgeModel" "changes" "I") ∈ TB := tb_of (t_3 (List.mem_of_getElem? (i := 128) rfl)) rfl
theorem w_3_129 : (Jvm.Cond.fieldLink "LoopJudgeModel" (101 : Nat) "LoopJudgeModel" "lastSign" "I") ∈ TB := tb_of (t_3 (List.mem_of_getElem? (i := 129) rfl)) rfl
theorem w_3_130 : (Jvm.Cond.fieldLink "LoopJudgeModel" (45 : Nat) "LoopJudgeModel" "turned" "[J") ∈ TB := tb_of (t_3 (List.mem_of_getElem? (i := 130) rfl)) rfl
theorem w_3_131 : (Jvm.Cond.fieldLink "LoopJudgeModel" (48 : Nat) "LoopJudgeModel" "product" "[J") ∈ TB := tb_of (t_3 (List.mem_of_getElem? (i := 131) rfl)) rfl
theorem w_3_132 : (Jvm.Cond.fieldLink "LoopJudgeModel" (51 : Nat) "LoopJudgeModel" "rows" "[J") ∈ TB := tb_of (t_3 (List.mem_of_getElem? (i := 132) rfl)) rfl
theorem w_3_133 : (Jvm.Cond.fieldLink "LoopJudgeModel" (183 : Nat) "LoopJudgeModel" "rowMany" "I") ∈ TB := tb_of (t_3 (List.mem_of_getElem? (i := 133) rfl)) rfl
theorem w_3_134 : (Jvm.Cond.fieldLink "LoopJudgeModel" (54 : Nat) "LoopJudgeModel" "u" "[J") ∈ TB := tb_of (t_3 (List.mem_of_getElem? (i := 134) rfl)) rfl
theorem w_3_135 : (Jvm.Cond.fieldLink "LoopJudgeModel" (57 : Nat) "LoopJudgeModel" "from" "[I") ∈ TB := tb_of (t_3 (List.mem_of_getElem? (i := 135) rfl)) rfl
theorem w_3_136 : (Jvm.Cond.fieldLink "LoopJudgeModel" (60 : Nat) "LoopJudgeModel" "to" "[I") ∈ TB := tb_of (t_3 (List.mem_of_getElem? (i := 136) rfl)) rfl
theorem w_3_137 : (Jvm.Cond.fieldLink "LoopJudgeModel" (201 : Nat) "LoopJudgeModel" "spanMany" "I") ∈ TB := tb_of (t_3 (List.mem_of_getElem? (i := 137) rfl)) rfl
theorem w_3_138 : (Jvm.Cond.fieldLink "LoopJudgeModel" (226 : Nat) "LoopJudgeModel" "readAt" "I") ∈ TB := tb_of (t_3 (List.mem_of_getElem? (i := 138) rfl)) rfl
theorem w_3_139 : (Jvm.Cond.fieldLink "LoopJudgeModel" (241 : Nat) "LoopJudgeModel" "isFault" "Z") ∈ TB := tb_of (t_3 (List.mem_of_getElem? (i := 139) rfl)) rfl
theorem w_3_140 : (Jvm.Cond.fieldLink "LoopJudgeModel" (63 : Nat) "LoopJudgeModel" "read" "[I") ∈ TB := tb_of (t_3 (List.mem_of_getElem? (i := 140) rfl)) rfl
theorem w_3_141 : (Jvm.Cond.laysFinal "LoopJudgeModel" "LoopJudgeModel" "st" "[I") ∈ TB := tb_of (t_3 (List.mem_of_getElem? (i := 141) rfl)) rfl
theorem w_3_143 : (Jvm.Cond.laysFinal "LoopJudgeModel" "LoopJudgeModel" "past" "[I") ∈ TB := tb_of (t_3 (List.mem_of_getElem? (i := 143) rfl)) rfl
theorem w_3_145 : (Jvm.Cond.lays "LoopJudgeModel" "LoopJudgeModel" "acts" "I") ∈ TB := tb_of (t_3 (List.mem_of_getElem? (i := 145) rfl)) rfl
theorem w_3_147 : (Jvm.Cond.laysFinal "LoopJudgeModel" "LoopJudgeModel" "image" "[I") ∈ TB := tb_of (t_3 (List.mem_of_getElem? (i := 147) rfl)) rfl
theorem w_3_149 : (Jvm.Cond.laysFinal "LoopJudgeModel" "LoopJudgeModel" "imagePast" "[I") ∈ TB := tb_of (t_3 (List.mem_of_getElem? (i := 149) rfl)) rfl
theorem w_3_151 : (Jvm.Cond.lays "LoopJudgeModel" "LoopJudgeModel" "imageActs" "I") ∈ TB := tb_of (t_3 (List.mem_of_getElem? (i := 151) rfl)) rfl
theorem w_3_153 : (Jvm.Cond.laysFinal "LoopJudgeModel" "LoopJudgeModel" "tape" "[I") ∈ TB := tb_of (t_3 (List.mem_of_getElem? (i := 153) rfl)) rfl
theorem w_3_155 : (Jvm.Cond.lays "LoopJudgeModel" "LoopJudgeModel" "tapeMany" "I") ∈ TB := tb_of (t_3 (List.mem_of_getElem? (i := 155) rfl)) rfl
theorem w_3_157 : (Jvm.Cond.laysFinal "LoopJudgeModel" "LoopJudgeModel" "laneOf" "[I") ∈ TB := tb_of (t_3 (List.mem_of_getElem? (i := 157) rfl)) rfl
theorem w_3_159 : (Jvm.Cond.laysFinal "LoopJudgeModel" "LoopJudgeModel" "sizeOf" "[I") ∈ TB := tb_of (t_3 (List.mem_of_getElem? (i := 159) rfl)) rfl
theorem w_3_161 : (Jvm.Cond.laysFinal "LoopJudgeModel" "LoopJudgeModel" "items" "[J") ∈ TB := tb_of (t_3 (List.mem_of_getElem? (i := 161) rfl)) rfl
theorem w_3_163 : (Jvm.Cond.laysFinal "LoopJudgeModel" "LoopJudgeModel" "p" "[J") ∈ TB := tb_of (t_3 (List.mem_of_getElem? (i := 163) rfl)) rfl
theorem w_3_165 : (Jvm.Cond.lays "LoopJudgeModel" "LoopJudgeModel" "right" "I") ∈ TB := tb_of (t_3 (List.mem_of_getElem? (i := 165) rfl)) rfl
theorem w_3_167 : (Jvm.Cond.lays "LoopJudgeModel" "LoopJudgeModel" "even" "I") ∈ TB := tb_of (t_3 (List.mem_of_getElem? (i := 167) rfl)) rfl
theorem w_3_169 : (Jvm.Cond.lays "LoopJudgeModel" "LoopJudgeModel" "left" "I") ∈ TB := tb_of (t_3 (List.mem_of_getElem? (i := 169) rfl)) rfl
theorem w_3_171 : (Jvm.Cond.laysFinal "LoopJudgeModel" "LoopJudgeModel" "a" "[J") ∈ TB := tb_of (t_3 (List.mem_of_getElem? (i := 171) rfl)) rfl
theorem w_3_173 : (Jvm.Cond.lays "LoopJudgeModel" "LoopJudgeModel" "changes" "I") ∈ TB := tb_of (t_3 (List.mem_of_getElem? (i := 173) rfl)) rfl
theorem w_3_175 : (Jvm.Cond.lays "LoopJudgeModel" "LoopJudgeModel" "lastSign" "I") ∈ TB := tb_of (t_3 (List.mem_of_getElem? (i := 175) rfl)) rfl
theorem w_3_177 : (Jvm.Cond.laysFinal "LoopJudgeModel" "LoopJudgeModel" "turned" "[J") ∈ TB := tb_of (t_3 (List.mem_of_getElem? (i := 177) rfl)) rfl
theorem w_3_179 : (Jvm.Cond.laysFinal "LoopJudgeModel" "LoopJudgeModel" "product" "[J") ∈ TB := tb_of (t_3 (List.mem_of_getElem? (i := 179) rfl)) rfl
theorem w_3_181 : (Jvm.Cond.laysFinal "LoopJudgeModel" "LoopJudgeModel" "rows" "[J") ∈ TB := tb_of (t_3 (List.mem_of_getElem? (i := 181) rfl)) rfl
theorem w_3_183 : (Jvm.Cond.lays "LoopJudgeModel" "LoopJudgeModel" "rowMany" "I") ∈ TB := tb_of (t_3 (List.mem_of_getElem? (i := 183) rfl)) rfl
theorem w_3_185 : (Jvm.Cond.laysFinal "LoopJudgeModel" "LoopJudgeModel" "u" "[J") ∈ TB := tb_of (t_3 (List.mem_of_getElem? (i := 185) rfl)) rfl
theorem w_3_187 : (Jvm.Cond.laysFinal "LoopJudgeModel" "LoopJudgeModel" "from" "[I") ∈ TB := tb_of (t_3 (List.mem_of_getElem? (i := 187) rfl)) rfl
theorem w_3_189 : (Jvm.Cond.laysFinal "LoopJudgeModel" "LoopJudgeModel" "to" "[I") ∈ TB := tb_of (t_3 (List.mem_of_getElem? (i := 189) rfl)) rfl
theorem w_3_191 : (Jvm.Cond.lays "LoopJudgeModel" "LoopJudgeModel" "spanMany" "I") ∈ TB := tb_of (t_3 (List.mem_of_getElem? (i := 191) rfl)) rfl
theorem w_3_193 : (Jvm.Cond.lays "LoopJudgeModel" "LoopJudgeModel" "readAt" "I") ∈ TB := tb_of (t_3 (List.mem_of_getElem? (i := 193) rfl)) rfl
theorem w_3_195 : (Jvm.Cond.lays "LoopJudgeModel" "LoopJudgeModel" "isFault" "Z") ∈ TB := tb_of (t_3 (List.mem_of_getElem? (i := 195) rfl)) rfl
theorem w_3_197 : (Jvm.Cond.laysFinal "LoopJudgeModel" "LoopJudgeModel" "read" "[I") ∈ TB := tb_of (t_3 (List.mem_of_getElem? (i := 197) rfl)) rfl
theorem w_3_200 : (Jvm.Cond.methodLink "LoopJudgeLaw" (17 : Nat) ({ cls := "LoopJudgeModel", name := "part", desc := "(III)I" } : Jvm.MethodName)) ∈ TB := tb_of (t_3 (List.mem_of_getElem? (i := 200) rfl)) rfl
theorem w_3_201 : (Jvm.Cond.instanceMethod ({ cls := "LoopJudgeModel", name := "part", desc := "(III)I" } : Jvm.MethodName)) ∈ TB := tb_of (t_3 (List.mem_of_getElem? (i := 201) rfl)) rfl
theorem w_3_202 : (Jvm.Cond.selects "LoopJudgeModel" ({ cls := "LoopJudgeModel", name := "part", desc := "(III)I" } : Jvm.MethodName) ({ cls := "LoopJudgeModel", name := "part", desc := "(III)I" } : Jvm.MethodName)) ∈ TB := tb_of (t_3 (List.mem_of_getElem? (i := 202) rfl)) rfl
theorem w_3_203 : (Jvm.Cond.code ({ cls := "LoopJudgeModel", name := "part", desc := "(III)I" } : Jvm.MethodName) prog_10_method_22_code (5 : Nat) (Option.some Jvm.ClassFile.FieldType.int)) ∈ TB := tb_of (t_3 (List.mem_of_getElem? (i := 203) rfl)) rfl
theorem w_3_204 : (Jvm.Cond.methodLink "LoopJudgeModel" (145 : Nat) ({ cls := "LoopJudgeModel", name := "isPart", desc := "(II)Z" } : Jvm.MethodName)) ∈ TB := tb_of (t_3 (List.mem_of_getElem? (i := 204) rfl)) rfl
theorem w_3_205 : (Jvm.Cond.static ({ cls := "LoopJudgeModel", name := "isPart", desc := "(II)Z" } : Jvm.MethodName)) ∈ TB := tb_of (t_3 (List.mem_of_getElem? (i := 205) rfl)) rfl
theorem w_3_206 : (Jvm.Cond.code ({ cls := "LoopJudgeModel", name := "isPart", desc := "(II)Z" } : Jvm.MethodName) prog_10_method_21_code (2 : Nat) (Option.some Jvm.ClassFile.FieldType.boolean)) ∈ TB := tb_of (t_3 (List.mem_of_getElem? (i := 206) rfl)) rfl
theorem w_3_207 : (Jvm.Cond.methodLink "LoopJudgeModel" (141 : Nat) ({ cls := "LoopJudgeModel", name := "in", desc := "(JJJ)Z" } : Jvm.MethodName)) ∈ TB := tb_of (t_3 (List.mem_of_getElem? (i := 207) rfl)) rfl
theorem w_3_208 : (Jvm.Cond.static ({ cls := "LoopJudgeModel", name := "in", desc := "(JJJ)Z" } : Jvm.MethodName)) ∈ TB := tb_of (t_3 (List.mem_of_getElem? (i := 208) rfl)) rfl
theorem w_3_209 : (Jvm.Cond.code ({ cls := "LoopJudgeModel", name := "in", desc := "(JJJ)Z" } : Jvm.MethodName) prog_10_method_2_code (6 : Nat) (Option.some Jvm.ClassFile.FieldType.boolean)) ∈ TB := tb_of (t_3 (List.mem_of_getElem? (i := 209) rfl)) rfl
theorem w_3_210 : (Jvm.Cond.constantLong "LoopJudgeModel" (96 : Nat) (4 : Int64)) ∈ TB := tb_of (t_3 (List.mem_of_getElem? (i := 210) rfl)) rfl
theorem w_3_211 : (Jvm.Cond.constantLong "LoopJudgeModel" (149 : Nat) (-9 : Int64)) ∈ TB := tb_of (t_3 (List.mem_of_getElem? (i := 211) rfl)) rfl
theorem w_3_212 : (Jvm.Cond.constantLong "LoopJudgeModel" (151 : Nat) (9 : Int64)) ∈ TB := tb_of (t_3 (List.mem_of_getElem? (i := 212) rfl)) rfl
theorem w_3_213 : (Jvm.Cond.methodLink "LoopJudgeModel" (153 : Nat) ({ cls := "LoopJudgeModel", name := "notes", desc := "()V" } : Jvm.MethodName)) ∈ TB := tb_of (t_3 (List.mem_of_getElem? (i := 213) rfl)) rfl
theorem w_3_215 : (Jvm.Cond.instanceMethod ({ cls := "LoopJudgeModel", name := "notes", desc := "()V" } : Jvm.MethodName)) ∈ TB := tb_of (t_3 (List.mem_of_getElem? (i := 215) rfl)) rfl
theorem w_3_216 : (Jvm.Cond.code ({ cls := "LoopJudgeModel", name := "notes", desc := "()V" } : Jvm.MethodName) prog_10_method_4_code (1 : Nat) (Option.none : Option Jvm.ClassFile.FieldType)) ∈ TB := tb_of (t_3 (List.mem_of_getElem? (i := 216) rfl)) rfl
theorem w_3_217 : (Jvm.Cond.methodLink "LoopJudgeModel" (69 : Nat) ({ cls := "LoopJudgeModel", name := "bring", desc := "([II[III)V" } : Jvm.MethodName)) ∈ TB := tb_of (t_3 (List.mem_of_getElem? (i := 217) rfl)) rfl
theorem w_3_218 : (Jvm.Cond.static ({ cls := "LoopJudgeModel", name := "bring", desc := "([II[III)V" } : Jvm.MethodName)) ∈ TB := tb_of (t_3 (List.mem_of_getElem? (i := 218) rfl)) rfl
theorem w_3_219 : (Jvm.Cond.code ({ cls := "LoopJudgeModel", name := "bring", desc := "([II[III)V" } : Jvm.MethodName) prog_10_method_3_code (6 : Nat) (Option.none : Option Jvm.ClassFile.FieldType)) ∈ TB := tb_of (t_3 (List.mem_of_getElem? (i := 219) rfl)) rfl
theorem w_3_220 : (Jvm.Cond.methodLink "LoopJudgeLaw" (22 : Nat) ({ cls := "LoopJudgeModel", name := "gain", desc := "(I)I" } : Jvm.MethodName)) ∈ TB := tb_of (t_3 (List.mem_of_getElem? (i := 220) rfl)) rfl
theorem w_3_221 : (Jvm.Cond.instanceMethod ({ cls := "LoopJudgeModel", name := "gain", desc := "(I)I" } : Jvm.MethodName)) ∈ TB := tb_of (t_3 (List.mem_of_getElem? (i := 221) rfl)) rfl
theorem w_3_222 : (Jvm.Cond.selects "LoopJudgeModel" ({ cls := "LoopJudgeModel", name := "gain", desc := "(I)I" } : Jvm.MethodName) ({ cls := "LoopJudgeModel", name := "gain", desc := "(I)I" } : Jvm.MethodName)) ∈ TB := tb_of (t_3 (List.mem_of_getElem? (i := 222) rfl)) rfl
theorem w_3_223 : (Jvm.Cond.code ({ cls := "LoopJudgeModel", name := "gain", desc := "(I)I" } : Jvm.MethodName) prog_10_method_24_code (3 : Nat) (Option.some Jvm.ClassFile.FieldType.int)) ∈ TB := tb_of (t_3 (List.mem_of_getElem? (i := 223) rfl)) rfl
theorem w_3_224 : (Jvm.Cond.methodLink "LoopJudgeModel" (160 : Nat) ({ cls := "LoopJudgeModel", name := "isGain", desc := "(I)Z" } : Jvm.MethodName)) ∈ TB := tb_of (t_3 (List.mem_of_getElem? (i := 224) rfl)) rfl
theorem w_3_225 : (Jvm.Cond.static ({ cls := "LoopJudgeModel", name := "isGain", desc := "(I)Z" } : Jvm.MethodName)) ∈ TB := tb_of (t_3 (List.mem_of_getElem? (i := 225) rfl)) rfl
theorem w_3_226 : (Jvm.Cond.code ({ cls := "LoopJudgeModel", name := "isGain", desc := "(I)Z" } : Jvm.MethodName) prog_10_method_23_code (1 : Nat) (Option.some Jvm.ClassFile.FieldType.boolean)) ∈ TB := tb_of (t_3 (List.mem_of_getElem? (i := 226) rfl)) rfl
theorem w_3_227 : (Jvm.Cond.constantLong "LoopJudgeModel" (156 : Nat) (-800 : Int64)) ∈ TB := tb_of (t_3 (List.mem_of_getElem? (i := 227) rfl)) rfl
theorem w_3_228 : (Jvm.Cond.constantLong "LoopJudgeModel" (158 : Nat) (800 : Int64)) ∈ TB := tb_of (t_3 (List.mem_of_getElem? (i := 228) rfl)) rfl
theorem w_3_229 : (Jvm.Cond.methodLink "LoopJudgeLaw" (27 : Nat) ({ cls := "LoopJudgeModel", name := "told", desc := "(II)I" } : Jvm.MethodName)) ∈ TB := tb_of (t_3 (List.mem_of_getElem? (i := 229) rfl)) rfl
theorem w_3_230 : (Jvm.Cond.instanceMethod ({ cls := "LoopJudgeModel", name := "told", desc := "(II)I" } : Jvm.MethodName)) ∈ TB := tb_of (t_3 (List.mem_of_getElem? (i := 230) rfl)) rfl
theorem w_3_231 : (Jvm.Cond.selects "LoopJudgeModel" ({ cls := "LoopJudgeModel", name := "told", desc := "(II)I" } : Jvm.MethodName) ({ cls := "LoopJudgeModel", name := "told", desc := "(II)I" } : Jvm.MethodName)) ∈ TB := tb_of (t_3 (List.mem_of_getElem? (i := 231) rfl)) rfl
theorem w_3_232 : (Jvm.Cond.code ({ cls := "LoopJudgeModel", name := "told", desc := "(II)I" } : Jvm.MethodName) prog_10_method_25_code (3 : Nat) (Option.some Jvm.ClassFile.FieldType.int)) ∈ TB := tb_of (t_3 (List.mem_of_getElem? (i := 232) rfl)) rfl
theorem w_3_233 : (Jvm.Cond.methodLink "LoopJudgeLaw" (31 : Nat) ({ cls := "LoopJudgeModel", name := "count", desc := "(I)I" } : Jvm.MethodName)) ∈ TB := tb_of (t_3 (List.mem_of_getElem? (i := 233) rfl)) rfl
theorem w_3_234 : (Jvm.Cond.instanceMethod ({ cls := "LoopJudgeModel", name := "count", desc := "(I)I" } : Jvm.MethodName)) ∈ TB := tb_of (t_3 (List.mem_of_getElem? (i := 234) rfl)) rfl
theorem w_3_235 : (Jvm.Cond.selects "LoopJudgeModel" ({ cls := "LoopJudgeModel", name := "count", desc := "(I)I" } : Jvm.MethodName) ({ cls := "LoopJudgeModel", name := "count", desc := "(I)I" } : Jvm.MethodName)) ∈ TB := tb_of (t_3 (List.mem_of_getElem? (i := 235) rfl)) rfl
theorem w_3_236 : (Jvm.Cond.code ({ cls := "LoopJudgeModel", name := "count", desc := "(I)I" } : Jvm.MethodName) prog_10_method_27_code (2 : Nat) (Option.some Jvm.ClassFile.FieldType.int)) ∈ TB := tb_of (t_3 (List.mem_of_getElem? (i := 236) rfl)) rfl
theorem w_3_237 : (Jvm.Cond.methodLink "LoopJudgeModel" (164 : Nat) ({ cls := "LoopJudgeModel", name := "degreeOf", desc := "(I)I" } : Jvm.MethodName)) ∈ TB := tb_of (t_3 (List.mem_of_getElem? (i := 237) rfl)) rfl
theorem w_3_239 : (Jvm.Cond.instanceMethod ({ cls := "LoopJudgeModel", name := "degreeOf", desc := "(I)I" } : Jvm.MethodName)) ∈ TB := tb_of (t_3 (List.mem_of_getElem? (i := 239) rfl)) rfl
theorem w_4_0 : (Jvm.Cond.code ({ cls := "LoopJudgeModel", name := "degreeOf", desc := "(I)I" } : Jvm.MethodName) prog_10_method_26_code (3 : Nat) (Option.some Jvm.ClassFile.FieldType.int)) ∈ TB := tb_of (t_4 (List.mem_of_getElem? (i := 0) rfl)) rfl
theorem w_4_1 : (Jvm.Cond.methodLink "LoopJudgeModel" (167 : Nat) ({ cls := "LoopJudgeModel", name := "loops", desc := "(I)V" } : Jvm.MethodName)) ∈ TB := tb_of (t_4 (List.mem_of_getElem? (i := 1) rfl)) rfl
theorem w_4_3 : (Jvm.Cond.instanceMethod ({ cls := "LoopJudgeModel", name := "loops", desc := "(I)V" } : Jvm.MethodName)) ∈ TB := tb_of (t_4 (List.mem_of_getElem? (i := 3) rfl)) rfl
theorem w_4_4 : (Jvm.Cond.code ({ cls := "LoopJudgeModel", name := "loops", desc := "(I)V" } : Jvm.MethodName) prog_10_method_6_code (3 : Nat) (Option.none : Option Jvm.ClassFile.FieldType)) ∈ TB := tb_of (t_4 (List.mem_of_getElem? (i := 4) rfl)) rfl
theorem w_4_5 : (Jvm.Cond.constantLong "LoopJudgeModel" (73 : Nat) (8 : Int64)) ∈ TB := tb_of (t_4 (List.mem_of_getElem? (i := 5) rfl)) rfl
theorem w_4_6 : (Jvm.Cond.methodLink "LoopJudgeModel" (118 : Nat) ({ cls := "LoopJudgeModel", name := "degree", desc := "([JI)I" } : Jvm.MethodName)) ∈ TB := tb_of (t_4 (List.mem_of_getElem? (i := 6) rfl)) rfl
theorem w_4_7 : (Jvm.Cond.static ({ cls := "LoopJudgeModel", name := "degree", desc := "([JI)I" } : Jvm.MethodName)) ∈ TB := tb_of (t_4 (List.mem_of_getElem? (i := 7) rfl)) rfl
theorem w_4_8 : (Jvm.Cond.code ({ cls := "LoopJudgeModel", name := "degree", desc := "([JI)I" } : Jvm.MethodName) prog_10_method_5_code (3 : Nat) (Option.some Jvm.ClassFile.FieldType.int)) ∈ TB := tb_of (t_4 (List.mem_of_getElem? (i := 8) rfl)) rfl
theorem w_4_9 : (Jvm.Cond.methodLink "LoopJudgeLaw" (35 : Nat) ({ cls := "LoopJudgeModel", name := "roots", desc := "(II)I" } : Jvm.MethodName)) ∈ TB := tb_of (t_4 (List.mem_of_getElem? (i := 9) rfl)) rfl
theorem w_4_10 : (Jvm.Cond.instanceMethod ({ cls := "LoopJudgeModel", name := "roots", desc := "(II)I" } : Jvm.MethodName)) ∈ TB := tb_of (t_4 (List.mem_of_getElem? (i := 10) rfl)) rfl
theorem w_4_11 : (Jvm.Cond.selects "LoopJudgeModel" ({ cls := "LoopJudgeModel", name := "roots", desc := "(II)I" } : Jvm.MethodName) ({ cls := "LoopJudgeModel", name := "roots", desc := "(II)I" } : Jvm.MethodName)) ∈ TB := tb_of (t_4 (List.mem_of_getElem? (i := 11) rfl)) rfl
theorem w_4_12 : (Jvm.Cond.code ({ cls := "LoopJudgeModel", name := "roots", desc := "(II)I" } : Jvm.MethodName) prog_10_method_28_code (3 : Nat) (Option.some Jvm.ClassFile.FieldType.int)) ∈ TB := tb_of (t_4 (List.mem_of_getElem? (i := 12) rfl)) rfl
theorem w_4_13 : (Jvm.Cond.methodLink "LoopJudgeModel" (170 : Nat) ({ cls := "LoopJudgeModel", name := "at", desc := "(III)I" } : Jvm.MethodName)) ∈ TB := tb_of (t_4 (List.mem_of_getElem? (i := 13) rfl)) rfl
theorem w_4_14 : (Jvm.Cond.instanceMethod ({ cls := "LoopJudgeModel", name := "at", desc := "(III)I" } : Jvm.MethodName)) ∈ TB := tb_of (t_4 (List.mem_of_getElem? (i := 14) rfl)) rfl
theorem w_4_15 : (Jvm.Cond.selects "LoopJudgeModel" ({ cls := "LoopJudgeModel", name := "at", desc := "(III)I" } : Jvm.MethodName) ({ cls := "LoopJudgeModel", name := "at", desc := "(III)I" } : Jvm.MethodName)) ∈ TB := tb_of (t_4 (List.mem_of_getElem? (i := 15) rfl)) rfl
theorem w_4_16 : (Jvm.Cond.code ({ cls := "LoopJudgeModel", name := "at", desc := "(III)I" } : Jvm.MethodName) prog_10_method_29_code (5 : Nat) (Option.some Jvm.ClassFile.FieldType.int)) ∈ TB := tb_of (t_4 (List.mem_of_getElem? (i := 16) rfl)) rfl
theorem w_4_17 : (Jvm.Cond.constantLong "LoopJudgeModel" (174 : Nat) (3 : Int64)) ∈ TB := tb_of (t_4 (List.mem_of_getElem? (i := 17) rfl)) rfl
theorem w_4_18 : (Jvm.Cond.methodLink "LoopJudgeModel" (137 : Nat) ({ cls := "LoopJudgeModel", name := "countsBy", desc := "(I)I" } : Jvm.MethodName)) ∈ TB := tb_of (t_4 (List.mem_of_getElem? (i := 18) rfl)) rfl
theorem w_4_20 : (Jvm.Cond.instanceMethod ({ cls := "LoopJudgeModel", name := "countsBy", desc := "(I)I" } : Jvm.MethodName)) ∈ TB := tb_of (t_4 (List.mem_of_getElem? (i := 20) rfl)) rfl
theorem w_4_21 : (Jvm.Cond.code ({ cls := "LoopJudgeModel", name := "countsBy", desc := "(I)I" } : Jvm.MethodName) prog_10_method_19_code (4 : Nat) (Option.some Jvm.ClassFile.FieldType.int)) ∈ TB := tb_of (t_4 (List.mem_of_getElem? (i := 21) rfl)) rfl
theorem w_4_22 : (Jvm.Cond.methodLink "LoopJudgeModel" (131 : Nat) ({ cls := "LoopJudgeModel", name := "turns", desc := "(I)V" } : Jvm.MethodName)) ∈ TB := tb_of (t_4 (List.mem_of_getElem? (i := 22) rfl)) rfl
theorem w_4_24 : (Jvm.Cond.instanceMethod ({ cls := "LoopJudgeModel", name := "turns", desc := "(I)V" } : Jvm.MethodName)) ∈ TB := tb_of (t_4 (List.mem_of_getElem? (i := 24) rfl)) rfl
theorem w_4_25 : (Jvm.Cond.code ({ cls := "LoopJudgeModel", name := "turns", desc := "(I)V" } : Jvm.MethodName) prog_10_method_18_code (4 : Nat) (Option.none : Option Jvm.ClassFile.FieldType)) ∈ TB := tb_of (t_4 (List.mem_of_getElem? (i := 25) rfl)) rfl
theorem w_4_26 : (Jvm.Cond.methodLink "LoopJudgeModel" (128 : Nat) ({ cls := "LoopJudgeModel", name := "multiplies", desc := "(I)V" } : Jvm.MethodName)) ∈ TB := tb_of (t_4 (List.mem_of_getElem? (i := 26) rfl)) rfl
theorem w_4_28 : (Jvm.Cond.instanceMethod ({ cls := "LoopJudgeModel", name := "multiplies", desc := "(I)V" } : Jvm.MethodName)) ∈ TB := tb_of (t_4 (List.mem_of_getElem? (i := 28) rfl)) rfl
theorem w_4_29 : (Jvm.Cond.code ({ cls := "LoopJudgeModel", name := "multiplies", desc := "(I)V" } : Jvm.MethodName) prog_10_method_17_code (3 : Nat) (Option.none : Option Jvm.ClassFile.FieldType)) ∈ TB := tb_of (t_4 (List.mem_of_getElem? (i := 29) rfl)) rfl
theorem w_4_30 : (Jvm.Cond.methodLink "LoopJudgeModel" (134 : Nat) ({ cls := "LoopJudgeModel", name := "counts", desc := "()V" } : Jvm.MethodName)) ∈ TB := tb_of (t_4 (List.mem_of_getElem? (i := 30) rfl)) rfl
theorem w_4_32 : (Jvm.Cond.instanceMethod ({ cls := "LoopJudgeModel", name := "counts", desc := "()V" } : Jvm.MethodName)) ∈ TB := tb_of (t_4 (List.mem_of_getElem? (i := 32) rfl)) rfl
theorem w_4_33 : (Jvm.Cond.code ({ cls := "LoopJudgeModel", name := "counts", desc := "()V" } : Jvm.MethodName) prog_10_method_16_code (5 : Nat) (Option.none : Option Jvm.ClassFile.FieldType)) ∈ TB := tb_of (t_4 (List.mem_of_getElem? (i := 33) rfl)) rfl
theorem w_4_34 : (Jvm.Cond.methodLink "LoopJudgeModel" (122 : Nat) ({ cls := "LoopJudgeModel", name := "squares", desc := "(JJJ)V" } : Jvm.MethodName)) ∈ TB := tb_of (t_4 (List.mem_of_getElem? (i := 34) rfl)) rfl
theorem w_4_36 : (Jvm.Cond.instanceMethod ({ cls := "LoopJudgeModel", name := "squares", desc := "(JJJ)V" } : Jvm.MethodName)) ∈ TB := tb_of (t_4 (List.mem_of_getElem? (i := 36) rfl)) rfl
theorem w_4_37 : (Jvm.Cond.code ({ cls := "LoopJudgeModel", name := "squares", desc := "(JJJ)V" } : Jvm.MethodName) prog_10_method_10_code (9 : Nat) (Option.none : Option Jvm.ClassFile.FieldType)) ∈ TB := tb_of (t_4 (List.mem_of_getElem? (i := 37) rfl)) rfl
theorem w_4_38 : (Jvm.Cond.methodLink "LoopJudgeModel" (88 : Nat) ({ cls := "LoopJudgeModel", name := "sign", desc := "(J)I" } : Jvm.MethodName)) ∈ TB := tb_of (t_4 (List.mem_of_getElem? (i := 38) rfl)) rfl
theorem w_4_39 : (Jvm.Cond.static ({ cls := "LoopJudgeModel", name := "sign", desc := "(J)I" } : Jvm.MethodName)) ∈ TB := tb_of (t_4 (List.mem_of_getElem? (i := 39) rfl)) rfl
theorem w_4_40 : (Jvm.Cond.code ({ cls := "LoopJudgeModel", name := "sign", desc := "(J)I" } : Jvm.MethodName) prog_10_method_7_code (2 : Nat) (Option.some Jvm.ClassFile.FieldType.int)) ∈ TB := tb_of (t_4 (List.mem_of_getElem? (i := 40) rfl)) rfl
theorem w_4_41 : (Jvm.Cond.methodLink "LoopJudgeModel" (92 : Nat) ({ cls := "LoopJudgeModel", name := "square", desc := "(I)V" } : Jvm.MethodName)) ∈ TB := tb_of (t_4 (List.mem_of_getElem? (i := 41) rfl)) rfl
theorem w_4_43 : (Jvm.Cond.instanceMethod ({ cls := "LoopJudgeModel", name := "square", desc := "(I)V" } : Jvm.MethodName)) ∈ TB := tb_of (t_4 (List.mem_of_getElem? (i := 43) rfl)) rfl
theorem w_4_44 : (Jvm.Cond.code ({ cls := "LoopJudgeModel", name := "square", desc := "(I)V" } : Jvm.MethodName) prog_10_method_9_code (2 : Nat) (Option.none : Option Jvm.ClassFile.FieldType)) ∈ TB := tb_of (t_4 (List.mem_of_getElem? (i := 44) rfl)) rfl
theorem w_4_45 : (Jvm.Cond.methodLink "LoopJudgeModel" (84 : Nat) ({ cls := "LoopJudgeModel", name := "more", desc := "(III)V" } : Jvm.MethodName)) ∈ TB := tb_of (t_4 (List.mem_of_getElem? (i := 45) rfl)) rfl
theorem w_4_47 : (Jvm.Cond.instanceMethod ({ cls := "LoopJudgeModel", name := "more", desc := "(III)V" } : Jvm.MethodName)) ∈ TB := tb_of (t_4 (List.mem_of_getElem? (i := 47) rfl)) rfl
theorem w_4_48 : (Jvm.Cond.code ({ cls := "LoopJudgeModel", name := "more", desc := "(III)V" } : Jvm.MethodName) prog_10_method_8_code (4 : Nat) (Option.none : Option Jvm.ClassFile.FieldType)) ∈ TB := tb_of (t_4 (List.mem_of_getElem? (i := 48) rfl)) rfl
theorem w_4_49 : (Jvm.Cond.methodLink "LoopJudgeModel" (107 : Nat) ({ cls := "LoopJudgeModel", name := "two", desc := "(JJJ)V" } : Jvm.MethodName)) ∈ TB := tb_of (t_4 (List.mem_of_getElem? (i := 49) rfl)) rfl
theorem w_4_51 : (Jvm.Cond.instanceMethod ({ cls := "LoopJudgeModel", name := "two", desc := "(JJJ)V" } : Jvm.MethodName)) ∈ TB := tb_of (t_4 (List.mem_of_getElem? (i := 51) rfl)) rfl
theorem w_4_52 : (Jvm.Cond.code ({ cls := "LoopJudgeModel", name := "two", desc := "(JJJ)V" } : Jvm.MethodName) prog_10_method_11_code (8 : Nat) (Option.none : Option Jvm.ClassFile.FieldType)) ∈ TB := tb_of (t_4 (List.mem_of_getElem? (i := 52) rfl)) rfl
theorem w_4_53 : (Jvm.Cond.methodLink "LoopJudgeModel" (125 : Nat) ({ cls := "LoopJudgeModel", name := "apart", desc := "(I)V" } : Jvm.MethodName)) ∈ TB := tb_of (t_4 (List.mem_of_getElem? (i := 53) rfl)) rfl
theorem w_4_55 : (Jvm.Cond.instanceMethod ({ cls := "LoopJudgeModel", name := "apart", desc := "(I)V" } : Jvm.MethodName)) ∈ TB := tb_of (t_4 (List.mem_of_getElem? (i := 55) rfl)) rfl
theorem w_4_56 : (Jvm.Cond.code ({ cls := "LoopJudgeModel", name := "apart", desc := "(I)V" } : Jvm.MethodName) prog_10_method_15_code (4 : Nat) (Option.none : Option Jvm.ClassFile.FieldType)) ∈ TB := tb_of (t_4 (List.mem_of_getElem? (i := 56) rfl)) rfl
theorem w_4_57 : (Jvm.Cond.methodLink "LoopJudgeModel" (111 : Nat) ({ cls := "LoopJudgeModel", name := "three", desc := "(JJJJ)V" } : Jvm.MethodName)) ∈ TB := tb_of (t_4 (List.mem_of_getElem? (i := 57) rfl)) rfl
theorem w_4_59 : (Jvm.Cond.instanceMethod ({ cls := "LoopJudgeModel", name := "three", desc := "(JJJJ)V" } : Jvm.MethodName)) ∈ TB := tb_of (t_4 (List.mem_of_getElem? (i := 59) rfl)) rfl
theorem w_4_60 : (Jvm.Cond.code ({ cls := "LoopJudgeModel", name := "three", desc := "(JJJJ)V" } : Jvm.MethodName) prog_10_method_13_code (11 : Nat) (Option.none : Option Jvm.ClassFile.FieldType)) ∈ TB := tb_of (t_4 (List.mem_of_getElem? (i := 60) rfl)) rfl
theorem w_4_61 : (Jvm.Cond.methodLink "LoopJudgeModel" (104 : Nat) ({ cls := "LoopJudgeModel", name := "passes", desc := "(I)V" } : Jvm.MethodName)) ∈ TB := tb_of (t_4 (List.mem_of_getElem? (i := 61) rfl)) rfl
theorem w_4_63 : (Jvm.Cond.instanceMethod ({ cls := "LoopJudgeModel", name := "passes", desc := "(I)V" } : Jvm.MethodName)) ∈ TB := tb_of (t_4 (List.mem_of_getElem? (i := 63) rfl)) rfl
theorem w_4_64 : (Jvm.Cond.code ({ cls := "LoopJudgeModel", name := "passes", desc := "(I)V" } : Jvm.MethodName) prog_10_method_12_code (2 : Nat) (Option.none : Option Jvm.ClassFile.FieldType)) ∈ TB := tb_of (t_4 (List.mem_of_getElem? (i := 64) rfl)) rfl
theorem w_4_65 : (Jvm.Cond.methodLink "LoopJudgeModel" (115 : Nat) ({ cls := "LoopJudgeModel", name := "four", desc := "()V" } : Jvm.MethodName)) ∈ TB := tb_of (t_4 (List.mem_of_getElem? (i := 65) rfl)) rfl
theorem w_4_67 : (Jvm.Cond.instanceMethod ({ cls := "LoopJudgeModel", name := "four", desc := "()V" } : Jvm.MethodName)) ∈ TB := tb_of (t_4 (List.mem_of_getElem? (i := 67) rfl)) rfl
theorem w_4_68 : (Jvm.Cond.code ({ cls := "LoopJudgeModel", name := "four", desc := "()V" } : Jvm.MethodName) prog_10_method_14_code (5 : Nat) (Option.none : Option Jvm.ClassFile.FieldType)) ∈ TB := tb_of (t_4 (List.mem_of_getElem? (i := 68) rfl)) rfl
theorem w_4_69 : (Jvm.Cond.methodLink "LoopJudgeLaw" (39 : Nat) ({ cls := "LoopJudgeModel", name := "at", desc := "(III)I" } : Jvm.MethodName)) ∈ TB := tb_of (t_4 (List.mem_of_getElem? (i := 69) rfl)) rfl
theorem w_4_70 : (Jvm.Cond.methodLink "LoopJudgeLaw" (44 : Nat) ({ cls := "LoopJudgeModel", name := "row", desc := "(III)J" } : Jvm.MethodName)) ∈ TB := tb_of (t_4 (List.mem_of_getElem? (i := 70) rfl)) rfl
theorem w_4_71 : (Jvm.Cond.instanceMethod ({ cls := "LoopJudgeModel", name := "row", desc := "(III)J" } : Jvm.MethodName)) ∈ TB := tb_of (t_4 (List.mem_of_getElem? (i := 71) rfl)) rfl
theorem w_4_72 : (Jvm.Cond.selects "LoopJudgeModel" ({ cls := "LoopJudgeModel", name := "row", desc := "(III)J" } : Jvm.MethodName) ({ cls := "LoopJudgeModel", name := "row", desc := "(III)J" } : Jvm.MethodName)) ∈ TB := tb_of (t_4 (List.mem_of_getElem? (i := 72) rfl)) rfl
theorem w_4_73 : (Jvm.Cond.code ({ cls := "LoopJudgeModel", name := "row", desc := "(III)J" } : Jvm.MethodName) prog_10_method_35_code (6 : Nat) (Option.some Jvm.ClassFile.FieldType.long)) ∈ TB := tb_of (t_4 (List.mem_of_getElem? (i := 73) rfl)) rfl
theorem w_4_74 : (Jvm.Cond.constantLong "LoopJudgeModel" (192 : Nat) (-1 : Int64)) ∈ TB := tb_of (t_4 (List.mem_of_getElem? (i := 74) rfl)) rfl
theorem w_4_75 : (Jvm.Cond.methodLink "LoopJudgeModel" (194 : Nat) ({ cls := "LoopJudgeModel", name := "laysRows", desc := "()V" } : Jvm.MethodName)) ∈ TB := tb_of (t_4 (List.mem_of_getElem? (i := 75) rfl)) rfl
theorem w_4_77 : (Jvm.Cond.instanceMethod ({ cls := "LoopJudgeModel", name := "laysRows", desc := "()V" } : Jvm.MethodName)) ∈ TB := tb_of (t_4 (List.mem_of_getElem? (i := 77) rfl)) rfl
theorem w_4_78 : (Jvm.Cond.code ({ cls := "LoopJudgeModel", name := "laysRows", desc := "()V" } : Jvm.MethodName) prog_10_method_34_code (4 : Nat) (Option.none : Option Jvm.ClassFile.FieldType)) ∈ TB := tb_of (t_4 (List.mem_of_getElem? (i := 78) rfl)) rfl
theorem w_4_79 : (Jvm.Cond.methodLink "LoopJudgeModel" (186 : Nat) ({ cls := "LoopJudgeModel", name := "addsRow", desc := "()V" } : Jvm.MethodName)) ∈ TB := tb_of (t_4 (List.mem_of_getElem? (i := 79) rfl)) rfl
theorem w_4_81 : (Jvm.Cond.instanceMethod ({ cls := "LoopJudgeModel", name := "addsRow", desc := "()V" } : Jvm.MethodName)) ∈ TB := tb_of (t_4 (List.mem_of_getElem? (i := 81) rfl)) rfl
theorem w_4_82 : (Jvm.Cond.code ({ cls := "LoopJudgeModel", name := "addsRow", desc := "()V" } : Jvm.MethodName) prog_10_method_33_code (2 : Nat) (Option.none : Option Jvm.ClassFile.FieldType)) ∈ TB := tb_of (t_4 (List.mem_of_getElem? (i := 82) rfl)) rfl
theorem w_4_83 : (Jvm.Cond.methodLink "LoopJudgeModel" (189 : Nat) ({ cls := "LoopJudgeModel", name := "divides", desc := "(I)V" } : Jvm.MethodName)) ∈ TB := tb_of (t_4 (List.mem_of_getElem? (i := 83) rfl)) rfl
theorem w_4_85 : (Jvm.Cond.instanceMethod ({ cls := "LoopJudgeModel", name := "divides", desc := "(I)V" } : Jvm.MethodName)) ∈ TB := tb_of (t_4 (List.mem_of_getElem? (i := 85) rfl)) rfl
theorem w_4_86 : (Jvm.Cond.code ({ cls := "LoopJudgeModel", name := "divides", desc := "(I)V" } : Jvm.MethodName) prog_10_method_32_code (9 : Nat) (Option.none : Option Jvm.ClassFile.FieldType)) ∈ TB := tb_of (t_4 (List.mem_of_getElem? (i := 86) rfl)) rfl
theorem w_4_87 : (Jvm.Cond.methodLink "LoopJudgeModel" (180 : Nat) ({ cls := "LoopJudgeModel", name := "shortens", desc := "()V" } : Jvm.MethodName)) ∈ TB := tb_of (t_4 (List.mem_of_getElem? (i := 87) rfl)) rfl
theorem w_4_89 : (Jvm.Cond.instanceMethod ({ cls := "LoopJudgeModel", name := "shortens", desc := "()V" } : Jvm.MethodName)) ∈ TB := tb_of (t_4 (List.mem_of_getElem? (i := 89) rfl)) rfl
theorem w_4_90 : (Jvm.Cond.code ({ cls := "LoopJudgeModel", name := "shortens", desc := "()V" } : Jvm.MethodName) prog_10_method_31_code (4 : Nat) (Option.none : Option Jvm.ClassFile.FieldType)) ∈ TB := tb_of (t_4 (List.mem_of_getElem? (i := 90) rfl)) rfl
theorem w_4_91 : (Jvm.Cond.methodLink "LoopJudgeModel" (176 : Nat) ({ cls := "LoopJudgeModel", name := "divisor", desc := "(JJ)J" } : Jvm.MethodName)) ∈ TB := tb_of (t_4 (List.mem_of_getElem? (i := 91) rfl)) rfl
theorem w_4_92 : (Jvm.Cond.static ({ cls := "LoopJudgeModel", name := "divisor", desc := "(JJ)J" } : Jvm.MethodName)) ∈ TB := tb_of (t_4 (List.mem_of_getElem? (i := 92) rfl)) rfl
theorem w_4_93 : (Jvm.Cond.code ({ cls := "LoopJudgeModel", name := "divisor", desc := "(JJ)J" } : Jvm.MethodName) prog_10_method_30_code (10 : Nat) (Option.some Jvm.ClassFile.FieldType.long)) ∈ TB := tb_of (t_4 (List.mem_of_getElem? (i := 93) rfl)) rfl
theorem w_4_94 : (Jvm.Cond.constantLong "LoopJudgeModel" (197 : Nat) (-4 : Int64)) ∈ TB := tb_of (t_4 (List.mem_of_getElem? (i := 94) rfl)) rfl
theorem w_4_95 : (Jvm.Cond.constantLong "LoopJudgeModel" (199 : Nat) (2 : Int64)) ∈ TB := tb_of (t_4 (List.mem_of_getElem? (i := 95) rfl)) rfl
theorem w_4_96 : (Jvm.Cond.methodLink "LoopJudgeLaw" (49 : Nat) ({ cls := "LoopJudgeModel", name := "rows", desc := "()I" } : Jvm.MethodName)) ∈ TB := tb_of (t_4 (List.mem_of_getElem? (i := 96) rfl)) rfl
theorem w_4_97 : (Jvm.Cond.instanceMethod ({ cls := "LoopJudgeModel", name := "rows", desc := "()I" } : Jvm.MethodName)) ∈ TB := tb_of (t_4 (List.mem_of_getElem? (i := 97) rfl)) rfl
theorem w_4_98 : (Jvm.Cond.selects "LoopJudgeModel" ({ cls := "LoopJudgeModel", name := "rows", desc := "()I" } : Jvm.MethodName) ({ cls := "LoopJudgeModel", name := "rows", desc := "()I" } : Jvm.MethodName)) ∈ TB := tb_of (t_4 (List.mem_of_getElem? (i := 98) rfl)) rfl
theorem w_4_99 : (Jvm.Cond.code ({ cls := "LoopJudgeModel", name := "rows", desc := "()I" } : Jvm.MethodName) prog_10_method_36_code (1 : Nat) (Option.some Jvm.ClassFile.FieldType.int)) ∈ TB := tb_of (t_4 (List.mem_of_getElem? (i := 99) rfl)) rfl
theorem w_4_100 : (Jvm.Cond.methodLink "LoopJudgeLaw" (53 : Nat) ({ cls := "LoopJudgeModel", name := "span", desc := "(III)I" } : Jvm.MethodName)) ∈ TB := tb_of (t_4 (List.mem_of_getElem? (i := 100) rfl)) rfl
theorem w_4_101 : (Jvm.Cond.instanceMethod ({ cls := "LoopJudgeModel", name := "span", desc := "(III)I" } : Jvm.MethodName)) ∈ TB := tb_of (t_4 (List.mem_of_getElem? (i := 101) rfl)) rfl
theorem w_4_102 : (Jvm.Cond.selects "LoopJudgeModel" ({ cls := "LoopJudgeModel", name := "span", desc := "(III)I" } : Jvm.MethodName) ({ cls := "LoopJudgeModel", name := "span", desc := "(III)I" } : Jvm.MethodName)) ∈ TB := tb_of (t_4 (List.mem_of_getElem? (i := 102) rfl)) rfl
theorem w_4_103 : (Jvm.Cond.code ({ cls := "LoopJudgeModel", name := "span", desc := "(III)I" } : Jvm.MethodName) prog_10_method_39_code (4 : Nat) (Option.some Jvm.ClassFile.FieldType.int)) ∈ TB := tb_of (t_4 (List.mem_of_getElem? (i := 103) rfl)) rfl
theorem w_4_104 : (Jvm.Cond.methodLink "LoopJudgeModel" (207 : Nat) ({ cls := "LoopJudgeModel", name := "isAsk", desc := "(III)Z" } : Jvm.MethodName)) ∈ TB := tb_of (t_4 (List.mem_of_getElem? (i := 104) rfl)) rfl
theorem w_4_105 : (Jvm.Cond.static ({ cls := "LoopJudgeModel", name := "isAsk", desc := "(III)Z" } : Jvm.MethodName)) ∈ TB := tb_of (t_4 (List.mem_of_getElem? (i := 105) rfl)) rfl
theorem w_4_106 : (Jvm.Cond.code ({ cls := "LoopJudgeModel", name := "isAsk", desc := "(III)Z" } : Jvm.MethodName) prog_10_method_38_code (3 : Nat) (Option.some Jvm.ClassFile.FieldType.boolean)) ∈ TB := tb_of (t_4 (List.mem_of_getElem? (i := 106) rfl)) rfl
theorem w_4_107 : (Jvm.Cond.methodLink "LoopJudgeModel" (211 : Nat) ({ cls := "LoopJudgeModel", name := "laysSpans", desc := "(I)I" } : Jvm.MethodName)) ∈ TB := tb_of (t_4 (List.mem_of_getElem? (i := 107) rfl)) rfl
theorem w_4_109 : (Jvm.Cond.instanceMethod ({ cls := "LoopJudgeModel", name := "laysSpans", desc := "(I)I" } : Jvm.MethodName)) ∈ TB := tb_of (t_4 (List.mem_of_getElem? (i := 109) rfl)) rfl
theorem w_4_110 : (Jvm.Cond.code ({ cls := "LoopJudgeModel", name := "laysSpans", desc := "(I)I" } : Jvm.MethodName) prog_10_method_37_code (6 : Nat) (Option.some Jvm.ClassFile.FieldType.int)) ∈ TB := tb_of (t_4 (List.mem_of_getElem? (i := 110) rfl)) rfl
theorem w_4_111 : (Jvm.Cond.methodLink "LoopJudgeModel" (204 : Nat) ({ cls := "LoopJudgeModel", name := "isSteady", desc := "(I)Z" } : Jvm.MethodName)) ∈ TB := tb_of (t_4 (List.mem_of_getElem? (i := 111) rfl)) rfl
theorem w_4_113 : (Jvm.Cond.instanceMethod ({ cls := "LoopJudgeModel", name := "isSteady", desc := "(I)Z" } : Jvm.MethodName)) ∈ TB := tb_of (t_4 (List.mem_of_getElem? (i := 113) rfl)) rfl
theorem w_4_114 : (Jvm.Cond.code ({ cls := "LoopJudgeModel", name := "isSteady", desc := "(I)Z" } : Jvm.MethodName) prog_10_method_20_code (3 : Nat) (Option.some Jvm.ClassFile.FieldType.boolean)) ∈ TB := tb_of (t_4 (List.mem_of_getElem? (i := 114) rfl)) rfl
theorem w_4_115 : (Jvm.Cond.methodLink "LoopJudgeLaw" (57 : Nat) ({ cls := "LoopJudgeModel", name := "widest", desc := "(III)I" } : Jvm.MethodName)) ∈ TB := tb_of (t_4 (List.mem_of_getElem? (i := 115) rfl)) rfl
theorem w_4_116 : (Jvm.Cond.instanceMethod ({ cls := "LoopJudgeModel", name := "widest", desc := "(III)I" } : Jvm.MethodName)) ∈ TB := tb_of (t_4 (List.mem_of_getElem? (i := 116) rfl)) rfl
theorem w_4_117 : (Jvm.Cond.selects "LoopJudgeModel" ({ cls := "LoopJudgeModel", name := "widest", desc := "(III)I" } : Jvm.MethodName) ({ cls := "LoopJudgeModel", name := "widest", desc := "(III)I" } : Jvm.MethodName)) ∈ TB := tb_of (t_4 (List.mem_of_getElem? (i := 117) rfl)) rfl
theorem w_4_118 : (Jvm.Cond.code ({ cls := "LoopJudgeModel", name := "widest", desc := "(III)I" } : Jvm.MethodName) prog_10_method_40_code (8 : Nat) (Option.some Jvm.ClassFile.FieldType.int)) ∈ TB := tb_of (t_4 (List.mem_of_getElem? (i := 118) rfl)) rfl
theorem w_4_119 : (Jvm.Cond.methodLink "LoopJudgeLaw" (61 : Nat) ({ cls := "LoopJudgeModel", name := "spans", desc := "(II)I" } : Jvm.MethodName)) ∈ TB := tb_of (t_4 (List.mem_of_getElem? (i := 119) rfl)) rfl
theorem w_4_120 : (Jvm.Cond.instanceMethod ({ cls := "LoopJudgeModel", name := "spans", desc := "(II)I" } : Jvm.MethodName)) ∈ TB := tb_of (t_4 (List.mem_of_getElem? (i := 120) rfl)) rfl
theorem w_4_121 : (Jvm.Cond.selects "LoopJudgeModel" ({ cls := "LoopJudgeModel", name := "spans", desc := "(II)I" } : Jvm.MethodName) ({ cls := "LoopJudgeModel", name := "spans", desc := "(II)I" } : Jvm.MethodName)) ∈ TB := tb_of (t_4 (List.mem_of_getElem? (i := 121) rfl)) rfl
theorem w_4_122 : (Jvm.Cond.code ({ cls := "LoopJudgeModel", name := "spans", desc := "(II)I" } : Jvm.MethodName) prog_10_method_41_code (4 : Nat) (Option.some Jvm.ClassFile.FieldType.int)) ∈ TB := tb_of (t_4 (List.mem_of_getElem? (i := 122) rfl)) rfl
theorem w_4_123 : (Jvm.Cond.methodLink "LoopJudgeLaw" (65 : Nat) ({ cls := "LoopJudgeModel", name := "corners", desc := "(I)I" } : Jvm.MethodName)) ∈ TB := tb_of (t_4 (List.mem_of_getElem? (i := 123) rfl)) rfl
theorem w_4_124 : (Jvm.Cond.instanceMethod ({ cls := "LoopJudgeModel", name := "corners", desc := "(I)I" } : Jvm.MethodName)) ∈ TB := tb_of (t_4 (List.mem_of_getElem? (i := 124) rfl)) rfl
theorem w_4_125 : (Jvm.Cond.selects "LoopJudgeModel" ({ cls := "LoopJudgeModel", name := "corners", desc := "(I)I" } : Jvm.MethodName) ({ cls := "LoopJudgeModel", name := "corners", desc := "(I)I" } : Jvm.MethodName)) ∈ TB := tb_of (t_4 (List.mem_of_getElem? (i := 125) rfl)) rfl
theorem w_4_126 : (Jvm.Cond.code ({ cls := "LoopJudgeModel", name := "corners", desc := "(I)I" } : Jvm.MethodName) prog_10_method_42_code (6 : Nat) (Option.some Jvm.ClassFile.FieldType.int)) ∈ TB := tb_of (t_4 (List.mem_of_getElem? (i := 126) rfl)) rfl
theorem w_4_127 : (Jvm.Cond.methodLink "LoopJudgeLaw" (69 : Nat) ({ cls := "LoopJudgeModel", name := "neighbours", desc := "(I)I" } : Jvm.MethodName)) ∈ TB := tb_of (t_4 (List.mem_of_getElem? (i := 127) rfl)) rfl
theorem w_4_128 : (Jvm.Cond.instanceMethod ({ cls := "LoopJudgeModel", name := "neighbours", desc := "(I)I" } : Jvm.MethodName)) ∈ TB := tb_of (t_4 (List.mem_of_getElem? (i := 128) rfl)) rfl
theorem w_4_129 : (Jvm.Cond.selects "LoopJudgeModel" ({ cls := "LoopJudgeModel", name := "neighbours", desc := "(I)I" } : Jvm.MethodName) ({ cls := "LoopJudgeModel", name := "neighbours", desc := "(I)I" } : Jvm.MethodName)) ∈ TB := tb_of (t_4 (List.mem_of_getElem? (i := 129) rfl)) rfl
theorem w_4_130 : (Jvm.Cond.code ({ cls := "LoopJudgeModel", name := "neighbours", desc := "(I)I" } : Jvm.MethodName) prog_10_method_43_code (6 : Nat) (Option.some Jvm.ClassFile.FieldType.int)) ∈ TB := tb_of (t_4 (List.mem_of_getElem? (i := 130) rfl)) rfl
theorem w_4_131 : (Jvm.Cond.methodLink "LoopJudgeLaw" (73 : Nat) ({ cls := "LoopJudgeModel", name := "off", desc := "(II)I" } : Jvm.MethodName)) ∈ TB := tb_of (t_4 (List.mem_of_getElem? (i := 131) rfl)) rfl
theorem w_4_132 : (Jvm.Cond.instanceMethod ({ cls := "LoopJudgeModel", name := "off", desc := "(II)I" } : Jvm.MethodName)) ∈ TB := tb_of (t_4 (List.mem_of_getElem? (i := 132) rfl)) rfl
theorem w_4_133 : (Jvm.Cond.selects "LoopJudgeModel" ({ cls := "LoopJudgeModel", name := "off", desc := "(II)I" } : Jvm.MethodName) ({ cls := "LoopJudgeModel", name := "off", desc := "(II)I" } : Jvm.MethodName)) ∈ TB := tb_of (t_4 (List.mem_of_getElem? (i := 133) rfl)) rfl
theorem w_4_134 : (Jvm.Cond.code ({ cls := "LoopJudgeModel", name := "off", desc := "(II)I" } : Jvm.MethodName) prog_10_method_44_code (7 : Nat) (Option.some Jvm.ClassFile.FieldType.int)) ∈ TB := tb_of (t_4 (List.mem_of_getElem? (i := 134) rfl)) rfl
theorem w_4_135 : (Jvm.Cond.constantLong "LoopJudgeModel" (214 : Nat) (10 : Int64)) ∈ TB := tb_of (t_4 (List.mem_of_getElem? (i := 135) rfl)) rfl
theorem w_4_136 : (Jvm.Cond.constantLong "LoopJudgeModel" (216 : Nat) (100000 : Int64)) ∈ TB := tb_of (t_4 (List.mem_of_getElem? (i := 136) rfl)) rfl
theorem w_4_137 : (Jvm.Cond.constant "LoopJudgeModel" (218 : Nat) (100000 : Int32)) ∈ TB := tb_of (t_4 (List.mem_of_getElem? (i := 137) rfl)) rfl
theorem w_4_138 : (Jvm.Cond.methodLink "LoopJudgeLaw" (77 : Nat) ({ cls := "LoopJudgeModel", name := "type", desc := "(I)I" } : Jvm.MethodName)) ∈ TB := tb_of (t_4 (List.mem_of_getElem? (i := 138) rfl)) rfl
theorem w_4_139 : (Jvm.Cond.instanceMethod ({ cls := "LoopJudgeModel", name := "type", desc := "(I)I" } : Jvm.MethodName)) ∈ TB := tb_of (t_4 (List.mem_of_getElem? (i := 139) rfl)) rfl
theorem w_4_140 : (Jvm.Cond.selects "LoopJudgeModel" ({ cls := "LoopJudgeModel", name := "type", desc := "(I)I" } : Jvm.MethodName) ({ cls := "LoopJudgeModel", name := "type", desc := "(I)I" } : Jvm.MethodName)) ∈ TB := tb_of (t_4 (List.mem_of_getElem? (i := 140) rfl)) rfl
theorem w_4_141 : (Jvm.Cond.code ({ cls := "LoopJudgeModel", name := "type", desc := "(I)I" } : Jvm.MethodName) prog_10_method_45_code (2 : Nat) (Option.some Jvm.ClassFile.FieldType.int)) ∈ TB := tb_of (t_4 (List.mem_of_getElem? (i := 141) rfl)) rfl
theorem w_4_142 : (Jvm.Cond.constantLong "LoopJudgeModel" (219 : Nat) (32 : Int64)) ∈ TB := tb_of (t_4 (List.mem_of_getElem? (i := 142) rfl)) rfl
theorem w_4_143 : (Jvm.Cond.constantLong "LoopJudgeModel" (221 : Nat) (126 : Int64)) ∈ TB := tb_of (t_4 (List.mem_of_getElem? (i := 143) rfl)) rfl
theorem w_4_144 : (Jvm.Cond.methodLink "LoopJudgeLaw" (81 : Nat) ({ cls := "LoopJudgeModel", name := "read", desc := "()I" } : Jvm.MethodName)) ∈ TB := tb_of (t_4 (List.mem_of_getElem? (i := 144) rfl)) rfl
theorem w_4_145 : (Jvm.Cond.instanceMethod ({ cls := "LoopJudgeModel", name := "read", desc := "()I" } : Jvm.MethodName)) ∈ TB := tb_of (t_4 (List.mem_of_getElem? (i := 145) rfl)) rfl
theorem w_4_146 : (Jvm.Cond.selects "LoopJudgeModel" ({ cls := "LoopJudgeModel", name := "read", desc := "()I" } : Jvm.MethodName) ({ cls := "LoopJudgeModel", name := "read", desc := "()I" } : Jvm.MethodName)) ∈ TB := tb_of (t_4 (List.mem_of_getElem? (i := 146) rfl)) rfl
theorem w_4_147 : (Jvm.Cond.code ({ cls := "LoopJudgeModel", name := "read", desc := "()I" } : Jvm.MethodName) prog_10_method_50_code (2 : Nat) (Option.some Jvm.ClassFile.FieldType.int)) ∈ TB := tb_of (t_4 (List.mem_of_getElem? (i := 147) rfl)) rfl
theorem w_4_148 : (Jvm.Cond.methodLink "LoopJudgeModel" (252 : Nat) ({ cls := "LoopJudgeModel", name := "terms", desc := "(I)V" } : Jvm.MethodName)) ∈ TB := tb_of (t_4 (List.mem_of_getElem? (i := 148) rfl)) rfl
theorem w_4_150 : (Jvm.Cond.instanceMethod ({ cls := "LoopJudgeModel", name := "terms", desc := "(I)V" } : Jvm.MethodName)) ∈ TB := tb_of (t_4 (List.mem_of_getElem? (i := 150) rfl)) rfl
theorem w_4_151 : (Jvm.Cond.code ({ cls := "LoopJudgeModel", name := "terms", desc := "(I)V" } : Jvm.MethodName) prog_10_method_49_code (4 : Nat) (Option.none : Option Jvm.ClassFile.FieldType)) ∈ TB := tb_of (t_4 (List.mem_of_getElem? (i := 151) rfl)) rfl
theorem w_4_152 : (Jvm.Cond.methodLink "LoopJudgeModel" (229 : Nat) ({ cls := "LoopJudgeModel", name := "looks", desc := "()I" } : Jvm.MethodName)) ∈ TB := tb_of (t_4 (List.mem_of_getElem? (i := 152) rfl)) rfl
theorem w_4_154 : (Jvm.Cond.instanceMethod ({ cls := "LoopJudgeModel", name := "looks", desc := "()I" } : Jvm.MethodName)) ∈ TB := tb_of (t_4 (List.mem_of_getElem? (i := 154) rfl)) rfl
theorem w_4_155 : (Jvm.Cond.code ({ cls := "LoopJudgeModel", name := "looks", desc := "()I" } : Jvm.MethodName) prog_10_method_46_code (1 : Nat) (Option.some Jvm.ClassFile.FieldType.int)) ∈ TB := tb_of (t_4 (List.mem_of_getElem? (i := 155) rfl)) rfl
theorem w_4_156 : (Jvm.Cond.methodLink "LoopJudgeModel" (237 : Nat) ({ cls := "LoopJudgeModel", name := "goesBy", desc := "(Z)Z" } : Jvm.MethodName)) ∈ TB := tb_of (t_4 (List.mem_of_getElem? (i := 156) rfl)) rfl
theorem w_4_158 : (Jvm.Cond.instanceMethod ({ cls := "LoopJudgeModel", name := "goesBy", desc := "(Z)Z" } : Jvm.MethodName)) ∈ TB := tb_of (t_4 (List.mem_of_getElem? (i := 158) rfl)) rfl
theorem w_4_159 : (Jvm.Cond.code ({ cls := "LoopJudgeModel", name := "goesBy", desc := "(Z)Z" } : Jvm.MethodName) prog_10_method_47_code (2 : Nat) (Option.some Jvm.ClassFile.FieldType.boolean)) ∈ TB := tb_of (t_4 (List.mem_of_getElem? (i := 159) rfl)) rfl
theorem w_4_160 : (Jvm.Cond.methodLink "LoopJudgeModel" (249 : Nat) ({ cls := "LoopJudgeModel", name := "term", desc := "(III)I" } : Jvm.MethodName)) ∈ TB := tb_of (t_4 (List.mem_of_getElem? (i := 160) rfl)) rfl
theorem w_4_162 : (Jvm.Cond.instanceMethod ({ cls := "LoopJudgeModel", name := "term", desc := "(III)I" } : Jvm.MethodName)) ∈ TB := tb_of (t_4 (List.mem_of_getElem? (i := 162) rfl)) rfl
theorem w_4_163 : (Jvm.Cond.code ({ cls := "LoopJudgeModel", name := "term", desc := "(III)I" } : Jvm.MethodName) prog_10_method_48_code (10 : Nat) (Option.some Jvm.ClassFile.FieldType.int)) ∈ TB := tb_of (t_4 (List.mem_of_getElem? (i := 163) rfl)) rfl
theorem w_4_164 : (Jvm.Cond.constantLong "LoopJudgeModel" (233 : Nat) (49 : Int64)) ∈ TB := tb_of (t_4 (List.mem_of_getElem? (i := 164) rfl)) rfl
theorem w_4_165 : (Jvm.Cond.constantLong "LoopJudgeModel" (235 : Nat) (57 : Int64)) ∈ TB := tb_of (t_4 (List.mem_of_getElem? (i := 165) rfl)) rfl
theorem w_4_166 : (Jvm.Cond.constantLong "LoopJudgeModel" (245 : Nat) (50 : Int64)) ∈ TB := tb_of (t_4 (List.mem_of_getElem? (i := 166) rfl)) rfl
theorem w_4_167 : (Jvm.Cond.constantLong "LoopJudgeModel" (247 : Nat) (52 : Int64)) ∈ TB := tb_of (t_4 (List.mem_of_getElem? (i := 167) rfl)) rfl
theorem w_4_168 : (Jvm.Cond.methodLink "LoopJudgeLaw" (85 : Nat) ({ cls := "LoopJudgeModel", name := "drift", desc := "(I)I" } : Jvm.MethodName)) ∈ TB := tb_of (t_4 (List.mem_of_getElem? (i := 168) rfl)) rfl
theorem w_4_169 : (Jvm.Cond.instanceMethod ({ cls := "LoopJudgeModel", name := "drift", desc := "(I)I" } : Jvm.MethodName)) ∈ TB := tb_of (t_4 (List.mem_of_getElem? (i := 169) rfl)) rfl
theorem w_4_170 : (Jvm.Cond.selects "LoopJudgeModel" ({ cls := "LoopJudgeModel", name := "drift", desc := "(I)I" } : Jvm.MethodName) ({ cls := "LoopJudgeModel", name := "drift", desc := "(I)I" } : Jvm.MethodName)) ∈ TB := tb_of (t_4 (List.mem_of_getElem? (i := 170) rfl)) rfl
theorem w_4_171 : (Jvm.Cond.code ({ cls := "LoopJudgeModel", name := "drift", desc := "(I)I" } : Jvm.MethodName) prog_10_method_51_code (6 : Nat) (Option.some Jvm.ClassFile.FieldType.int)) ∈ TB := tb_of (t_4 (List.mem_of_getElem? (i := 171) rfl)) rfl
theorem w_4_172 : (Jvm.Cond.constantLong "LoopJudgeModel" (255 : Nat) (40 : Int64)) ∈ TB := tb_of (t_4 (List.mem_of_getElem? (i := 172) rfl)) rfl
theorem w_4_173 : (Jvm.Cond.constantLong "LoopJudgeModel" (257 : Nat) (1103515245 : Int64)) ∈ TB := tb_of (t_4 (List.mem_of_getElem? (i := 173) rfl)) rfl
theorem w_4_174 : (Jvm.Cond.constantLong "LoopJudgeModel" (259 : Nat) (12345 : Int64)) ∈ TB := tb_of (t_4 (List.mem_of_getElem? (i := 174) rfl)) rfl
theorem w_4_175 : (Jvm.Cond.constantLong "LoopJudgeModel" (261 : Nat) (2147483648 : Int64)) ∈ TB := tb_of (t_4 (List.mem_of_getElem? (i := 175) rfl)) rfl
theorem w_4_176 : (Jvm.Cond.constant "LoopJudgeModel" (263 : Nat) (65536 : Int32)) ∈ TB := tb_of (t_4 (List.mem_of_getElem? (i := 176) rfl)) rfl
theorem w_4_177 : (Jvm.Cond.methodLink "LoopJudgeLaw" (89 : Nat) ({ cls := "LoopJudgeModel", name := "undo", desc := "()I" } : Jvm.MethodName)) ∈ TB := tb_of (t_4 (List.mem_of_getElem? (i := 177) rfl)) rfl
theorem w_4_178 : (Jvm.Cond.instanceMethod ({ cls := "LoopJudgeModel", name := "undo", desc := "()I" } : Jvm.MethodName)) ∈ TB := tb_of (t_4 (List.mem_of_getElem? (i := 178) rfl)) rfl
theorem w_4_179 : (Jvm.Cond.selects "LoopJudgeModel" ({ cls := "LoopJudgeModel", name := "undo", desc := "()I" } : Jvm.MethodName) ({ cls := "LoopJudgeModel", name := "undo", desc := "()I" } : Jvm.MethodName)) ∈ TB := tb_of (t_4 (List.mem_of_getElem? (i := 179) rfl)) rfl
theorem w_4_180 : (Jvm.Cond.code ({ cls := "LoopJudgeModel", name := "undo", desc := "()I" } : Jvm.MethodName) prog_10_method_52_code (1 : Nat) (Option.some Jvm.ClassFile.FieldType.int)) ∈ TB := tb_of (t_4 (List.mem_of_getElem? (i := 180) rfl)) rfl
theorem w_4_181 : (Jvm.Cond.methodLink "LoopJudgeLaw" (93 : Nat) ({ cls := "LoopJudgeModel", name := "seed", desc := "(I)I" } : Jvm.MethodName)) ∈ TB := tb_of (t_4 (List.mem_of_getElem? (i := 181) rfl)) rfl
theorem w_4_182 : (Jvm.Cond.instanceMethod ({ cls := "LoopJudgeModel", name := "seed", desc := "(I)I" } : Jvm.MethodName)) ∈ TB := tb_of (t_4 (List.mem_of_getElem? (i := 182) rfl)) rfl
theorem w_4_183 : (Jvm.Cond.selects "LoopJudgeModel" ({ cls := "LoopJudgeModel", name := "seed", desc := "(I)I" } : Jvm.MethodName) ({ cls := "LoopJudgeModel", name := "seed", desc := "(I)I" } : Jvm.MethodName)) ∈ TB := tb_of (t_4 (List.mem_of_getElem? (i := 183) rfl)) rfl
theorem w_4_184 : (Jvm.Cond.code ({ cls := "LoopJudgeModel", name := "seed", desc := "(I)I" } : Jvm.MethodName) prog_10_method_53_code (3 : Nat) (Option.some Jvm.ClassFile.FieldType.int)) ∈ TB := tb_of (t_4 (List.mem_of_getElem? (i := 184) rfl)) rfl
theorem w_4_185 : (Jvm.Cond.methodLink "LoopJudgeLaw" (97 : Nat) ({ cls := "LoopJudgeModel", name := "image", desc := "()I" } : Jvm.MethodName)) ∈ TB := tb_of (t_4 (List.mem_of_getElem? (i := 185) rfl)) rfl
theorem w_4_186 : (Jvm.Cond.instanceMethod ({ cls := "LoopJudgeModel", name := "image", desc := "()I" } : Jvm.MethodName)) ∈ TB := tb_of (t_4 (List.mem_of_getElem? (i := 186) rfl)) rfl
theorem w_4_187 : (Jvm.Cond.selects "LoopJudgeModel" ({ cls := "LoopJudgeModel", name := "image", desc := "()I" } : Jvm.MethodName) ({ cls := "LoopJudgeModel", name := "image", desc := "()I" } : Jvm.MethodName)) ∈ TB := tb_of (t_4 (List.mem_of_getElem? (i := 187) rfl)) rfl
theorem w_4_188 : (Jvm.Cond.code ({ cls := "LoopJudgeModel", name := "image", desc := "()I" } : Jvm.MethodName) prog_10_method_54_code (1 : Nat) (Option.some Jvm.ClassFile.FieldType.int)) ∈ TB := tb_of (t_4 (List.mem_of_getElem? (i := 188) rfl)) rfl
theorem w_4_189 : (Jvm.Cond.methodLink "LoopJudgeLaw" (101 : Nat) ({ cls := "LoopJudgeModel", name := "restore", desc := "()I" } : Jvm.MethodName)) ∈ TB := tb_of (t_4 (List.mem_of_getElem? (i := 189) rfl)) rfl
theorem w_4_190 : (Jvm.Cond.instanceMethod ({ cls := "LoopJudgeModel", name := "restore", desc := "()I" } : Jvm.MethodName)) ∈ TB := tb_of (t_4 (List.mem_of_getElem? (i := 190) rfl)) rfl
theorem w_4_191 : (Jvm.Cond.selects "LoopJudgeModel" ({ cls := "LoopJudgeModel", name := "restore", desc := "()I" } : Jvm.MethodName) ({ cls := "LoopJudgeModel", name := "restore", desc := "()I" } : Jvm.MethodName)) ∈ TB := tb_of (t_4 (List.mem_of_getElem? (i := 191) rfl)) rfl
theorem w_4_192 : (Jvm.Cond.code ({ cls := "LoopJudgeModel", name := "restore", desc := "()I" } : Jvm.MethodName) prog_10_method_55_code (1 : Nat) (Option.some Jvm.ClassFile.FieldType.int)) ∈ TB := tb_of (t_4 (List.mem_of_getElem? (i := 192) rfl)) rfl
theorem w_4_193 : (Jvm.Cond.methodLink "LoopJudgeLaw" (106 : Nat) ({ cls := "LoopJudgeModel", name := "judged", desc := "(IIII)I" } : Jvm.MethodName)) ∈ TB := tb_of (t_4 (List.mem_of_getElem? (i := 193) rfl)) rfl
theorem w_4_194 : (Jvm.Cond.instanceMethod ({ cls := "LoopJudgeModel", name := "judged", desc := "(IIII)I" } : Jvm.MethodName)) ∈ TB := tb_of (t_4 (List.mem_of_getElem? (i := 194) rfl)) rfl
theorem w_4_195 : (Jvm.Cond.selects "LoopJudgeModel" ({ cls := "LoopJudgeModel", name := "judged", desc := "(IIII)I" } : Jvm.MethodName) ({ cls := "LoopJudgeModel", name := "judged", desc := "(IIII)I" } : Jvm.MethodName)) ∈ TB := tb_of (t_4 (List.mem_of_getElem? (i := 195) rfl)) rfl
theorem w_4_196 : (Jvm.Cond.code ({ cls := "LoopJudgeModel", name := "judged", desc := "(IIII)I" } : Jvm.MethodName) prog_10_method_58_code (11 : Nat) (Option.some Jvm.ClassFile.FieldType.int)) ∈ TB := tb_of (t_4 (List.mem_of_getElem? (i := 196) rfl)) rfl
theorem w_4_197 : (Jvm.Cond.methodLink "LoopJudgeModel" (264 : Nat) ({ cls := "LoopJudgeModel", name := "isSheet", desc := "(II)Z" } : Jvm.MethodName)) ∈ TB := tb_of (t_4 (List.mem_of_getElem? (i := 197) rfl)) rfl
theorem w_4_198 : (Jvm.Cond.static ({ cls := "LoopJudgeModel", name := "isSheet", desc := "(II)Z" } : Jvm.MethodName)) ∈ TB := tb_of (t_4 (List.mem_of_getElem? (i := 198) rfl)) rfl
theorem w_4_199 : (Jvm.Cond.code ({ cls := "LoopJudgeModel", name := "isSheet", desc := "(II)Z" } : Jvm.MethodName) prog_10_method_56_code (2 : Nat) (Option.some Jvm.ClassFile.FieldType.boolean)) ∈ TB := tb_of (t_4 (List.mem_of_getElem? (i := 199) rfl)) rfl
theorem w_4_200 : (Jvm.Cond.methodLink "LoopJudgeModel" (267 : Nat) ({ cls := "LoopJudgeModel", name := "found", desc := "(IIII)I" } : Jvm.MethodName)) ∈ TB := tb_of (t_4 (List.mem_of_getElem? (i := 200) rfl)) rfl
theorem w_4_202 : (Jvm.Cond.instanceMethod ({ cls := "LoopJudgeModel", name := "found", desc := "(IIII)I" } : Jvm.MethodName)) ∈ TB := tb_of (t_4 (List.mem_of_getElem? (i := 202) rfl)) rfl
theorem w_4_203 : (Jvm.Cond.code ({ cls := "LoopJudgeModel", name := "found", desc := "(IIII)I" } : Jvm.MethodName) prog_10_method_57_code (5 : Nat) (Option.some Jvm.ClassFile.FieldType.int)) ∈ TB := tb_of (t_4 (List.mem_of_getElem? (i := 203) rfl)) rfl
theorem w_4_204 : (Jvm.Cond.methodLink "LoopJudgeLaw" (110 : Nat) ({ cls := "LoopJudgeModel", name := "film", desc := "(IIII)I" } : Jvm.MethodName)) ∈ TB := tb_of (t_4 (List.mem_of_getElem? (i := 204) rfl)) rfl
theorem w_4_205 : (Jvm.Cond.instanceMethod ({ cls := "LoopJudgeModel", name := "film", desc := "(IIII)I" } : Jvm.MethodName)) ∈ TB := tb_of (t_4 (List.mem_of_getElem? (i := 205) rfl)) rfl
theorem w_4_206 : (Jvm.Cond.selects "LoopJudgeModel" ({ cls := "LoopJudgeModel", name := "film", desc := "(IIII)I" } : Jvm.MethodName) ({ cls := "LoopJudgeModel", name := "film", desc := "(IIII)I" } : Jvm.MethodName)) ∈ TB := tb_of (t_4 (List.mem_of_getElem? (i := 206) rfl)) rfl
theorem w_4_207 : (Jvm.Cond.code ({ cls := "LoopJudgeModel", name := "film", desc := "(IIII)I" } : Jvm.MethodName) prog_10_method_59_code (7 : Nat) (Option.some Jvm.ClassFile.FieldType.int)) ∈ TB := tb_of (t_4 (List.mem_of_getElem? (i := 207) rfl)) rfl
theorem w_4_208 : (Jvm.Cond.methodLink "LoopJudgeLaw" (114 : Nat) ({ cls := "LoopJudgeModel", name := "sheet", desc := "(III)I" } : Jvm.MethodName)) ∈ TB := tb_of (t_4 (List.mem_of_getElem? (i := 208) rfl)) rfl
theorem w_4_209 : (Jvm.Cond.instanceMethod ({ cls := "LoopJudgeModel", name := "sheet", desc := "(III)I" } : Jvm.MethodName)) ∈ TB := tb_of (t_4 (List.mem_of_getElem? (i := 209) rfl)) rfl
theorem w_4_210 : (Jvm.Cond.selects "LoopJudgeModel" ({ cls := "LoopJudgeModel", name := "sheet", desc := "(III)I" } : Jvm.MethodName) ({ cls := "LoopJudgeModel", name := "sheet", desc := "(III)I" } : Jvm.MethodName)) ∈ TB := tb_of (t_4 (List.mem_of_getElem? (i := 210) rfl)) rfl
theorem w_4_211 : (Jvm.Cond.code ({ cls := "LoopJudgeModel", name := "sheet", desc := "(III)I" } : Jvm.MethodName) prog_10_method_61_code (5 : Nat) (Option.some Jvm.ClassFile.FieldType.int)) ∈ TB := tb_of (t_4 (List.mem_of_getElem? (i := 211) rfl)) rfl
theorem w_4_212 : (Jvm.Cond.methodLink "LoopJudgeLaw" (118 : Nat) ({ cls := "LoopJudgeModel", name := "drop", desc := "(I)I" } : Jvm.MethodName)) ∈ TB := tb_of (t_4 (List.mem_of_getElem? (i := 212) rfl)) rfl
theorem w_4_213 : (Jvm.Cond.instanceMethod ({ cls := "LoopJudgeModel", name := "drop", desc := "(I)I" } : Jvm.MethodName)) ∈ TB := tb_of (t_4 (List.mem_of_getElem? (i := 213) rfl)) rfl
theorem w_4_214 : (Jvm.Cond.selects "LoopJudgeModel" ({ cls := "LoopJudgeModel", name := "drop", desc := "(I)I" } : Jvm.MethodName) ({ cls := "LoopJudgeModel", name := "drop", desc := "(I)I" } : Jvm.MethodName)) ∈ TB := tb_of (t_4 (List.mem_of_getElem? (i := 214) rfl)) rfl
theorem w_4_215 : (Jvm.Cond.code ({ cls := "LoopJudgeModel", name := "drop", desc := "(I)I" } : Jvm.MethodName) prog_10_method_62_code (2 : Nat) (Option.some Jvm.ClassFile.FieldType.int)) ∈ TB := tb_of (t_4 (List.mem_of_getElem? (i := 215) rfl)) rfl
theorem w_4_216 : (Jvm.Cond.methodLink "LoopJudgeLaw" (125 : Nat) ({ cls := "LoopJudgeModel", name := "item", desc := "(IIIJ)I" } : Jvm.MethodName)) ∈ TB := tb_of (t_4 (List.mem_of_getElem? (i := 216) rfl)) rfl
theorem w_4_217 : (Jvm.Cond.instanceMethod ({ cls := "LoopJudgeModel", name := "item", desc := "(IIIJ)I" } : Jvm.MethodName)) ∈ TB := tb_of (t_4 (List.mem_of_getElem? (i := 217) rfl)) rfl
theorem w_4_218 : (Jvm.Cond.selects "LoopJudgeModel" ({ cls := "LoopJudgeModel", name := "item", desc := "(IIIJ)I" } : Jvm.MethodName) ({ cls := "LoopJudgeModel", name := "item", desc := "(IIIJ)I" } : Jvm.MethodName)) ∈ TB := tb_of (t_4 (List.mem_of_getElem? (i := 218) rfl)) rfl
theorem w_4_219 : (Jvm.Cond.code ({ cls := "LoopJudgeModel", name := "item", desc := "(IIIJ)I" } : Jvm.MethodName) prog_10_method_63_code (7 : Nat) (Option.some Jvm.ClassFile.FieldType.int)) ∈ TB := tb_of (t_4 (List.mem_of_getElem? (i := 219) rfl)) rfl
theorem w_4_220 : (Jvm.Cond.methodLink "LoopJudgeModel" (271 : Nat) ({ cls := "LoopJudgeModel", name := "lowest", desc := "(JI)J" } : Jvm.MethodName)) ∈ TB := tb_of (t_4 (List.mem_of_getElem? (i := 220) rfl)) rfl
theorem w_4_221 : (Jvm.Cond.static ({ cls := "LoopJudgeModel", name := "lowest", desc := "(JI)J" } : Jvm.MethodName)) ∈ TB := tb_of (t_4 (List.mem_of_getElem? (i := 221) rfl)) rfl
theorem w_4_222 : (Jvm.Cond.code ({ cls := "LoopJudgeModel", name := "lowest", desc := "(JI)J" } : Jvm.MethodName) prog_10_method_60_code (3 : Nat) (Option.some Jvm.ClassFile.FieldType.long)) ∈ TB := tb_of (t_4 (List.mem_of_getElem? (i := 222) rfl)) rfl
theorem w_4_223 : (Jvm.Cond.methodLink "LoopJudgeLaw" (130 : Nat) ({ cls := "LoopJudgeModel", name := "copy", desc := "(IIIII)I" } : Jvm.MethodName)) ∈ TB := tb_of (t_4 (List.mem_of_getElem? (i := 223) rfl)) rfl
theorem w_4_224 : (Jvm.Cond.instanceMethod ({ cls := "LoopJudgeModel", name := "copy", desc := "(IIIII)I" } : Jvm.MethodName)) ∈ TB := tb_of (t_4 (List.mem_of_getElem? (i := 224) rfl)) rfl
theorem w_4_225 : (Jvm.Cond.selects "LoopJudgeModel" ({ cls := "LoopJudgeModel", name := "copy", desc := "(IIIII)I" } : Jvm.MethodName) ({ cls := "LoopJudgeModel", name := "copy", desc := "(IIIII)I" } : Jvm.MethodName)) ∈ TB := tb_of (t_4 (List.mem_of_getElem? (i := 225) rfl)) rfl
theorem w_4_226 : (Jvm.Cond.code ({ cls := "LoopJudgeModel", name := "copy", desc := "(IIIII)I" } : Jvm.MethodName) prog_10_method_64_code (9 : Nat) (Option.some Jvm.ClassFile.FieldType.int)) ∈ TB := tb_of (t_4 (List.mem_of_getElem? (i := 226) rfl)) rfl
theorem w_4_227 : (Jvm.Cond.constantLong "LoopJudgeLaw" (119 : Nat) (4294967295 : Int64)) ∈ TB := tb_of (t_4 (List.mem_of_getElem? (i := 227) rfl)) rfl
theorem ws_X7_countRoots : Cond.selects yX7_countRoots.cls yX7_countRoots yX7_countRoots ∈ TB := tb_of (List.mem_append_left _ (List.mem_of_getElem? (i := 0) rfl)) rfl
theorem ws_X0_addHalf : Cond.selects yX0_addHalf.cls yX0_addHalf yX0_addHalf ∈ TB := tb_of (List.mem_append_left _ (List.mem_of_getElem? (i := 1) rfl)) rfl
theorem ws_X0_addUnlessZero : Cond.selects yX0_addUnlessZero.cls yX0_addUnlessZero yX0_addUnlessZero ∈ TB := tb_of (List.mem_append_left _ (List.mem_of_getElem? (i := 2) rfl)) rfl
theorem ws_X0_addRemainder : Cond.selects yX0_addRemainder.cls yX0_addRemainder yX0_addRemainder ∈ TB := tb_of (List.mem_append_left _ (List.mem_of_getElem? (i := 3) rfl)) rfl
theorem ws_X1_countByChain : Cond.selects yX1_countByChain.cls yX1_countByChain yX1_countByChain ∈ TB := tb_of (List.mem_append_left _ (List.mem_of_getElem? (i := 4) rfl)) rfl
theorem ws_X1_signTurns : Cond.selects yX1_signTurns.cls yX1_signTurns yX1_signTurns ∈ TB := tb_of (List.mem_append_left _ (List.mem_of_getElem? (i := 5) rfl)) rfl
theorem ws_X1_turn : Cond.selects yX1_turn.cls yX1_turn yX1_turn ∈ TB := tb_of (List.mem_append_left _ (List.mem_of_getElem? (i := 6) rfl)) rfl
theorem ws_X7_bookOf : Cond.selects yX7_bookOf.cls yX7_bookOf yX7_bookOf ∈ TB := tb_of (List.mem_append_left _ (List.mem_of_getElem? (i := 7) rfl)) rfl
theorem ws_X5_isOf : Cond.selects yX5_isOf.cls yX5_isOf yX5_isOf ∈ TB := tb_of (List.mem_append_left _ (List.mem_of_getElem? (i := 8) rfl)) rfl
theorem ws_X5_collect : Cond.selects yX5_collect.cls yX5_collect yX5_collect ∈ TB := tb_of (List.mem_append_left _ (List.mem_of_getElem? (i := 9) rfl)) rfl
theorem ws_X5_addGain : Cond.selects yX5_addGain.cls yX5_addGain yX5_addGain ∈ TB := tb_of (List.mem_append_left _ (List.mem_of_getElem? (i := 10) rfl)) rfl
theorem ws_X5_orderByWidth : Cond.selects yX5_orderByWidth.cls yX5_orderByWidth yX5_orderByWidth ∈ TB := tb_of (List.mem_append_left _ (List.mem_of_getElem? (i := 11) rfl)) rfl
theorem ws_X5_widthOf : Cond.selects yX5_widthOf.cls yX5_widthOf yX5_widthOf ∈ TB := tb_of (List.mem_append_left _ (List.mem_of_getElem? (i := 12) rfl)) rfl
theorem ws_X6_readTerms : Cond.selects yX6_readTerms.cls yX6_readTerms yX6_readTerms ∈ TB := tb_of (List.mem_append_left _ (List.mem_of_getElem? (i := 13) rfl)) rfl
theorem ws_X6_nextLetter : Cond.selects yX6_nextLetter.cls yX6_nextLetter yX6_nextLetter ∈ TB := tb_of (List.mem_append_left _ (List.mem_of_getElem? (i := 14) rfl)) rfl
theorem ws_X6_readTerm : Cond.selects yX6_readTerm.cls yX6_readTerm yX6_readTerm ∈ TB := tb_of (List.mem_append_left _ (List.mem_of_getElem? (i := 15) rfl)) rfl
theorem ws_X6_readPower : Cond.selects yX6_readPower.cls yX6_readPower yX6_readPower ∈ TB := tb_of (List.mem_append_left _ (List.mem_of_getElem? (i := 16) rfl)) rfl
theorem ws_X8_notes : Cond.selects yX8_notes.cls yX8_notes yX8_notes ∈ TB := tb_of (List.mem_append_left _ (List.mem_of_getElem? (i := 17) rfl)) rfl
theorem ws_X8_degreeOf : Cond.selects yX8_degreeOf.cls yX8_degreeOf yX8_degreeOf ∈ TB := tb_of (List.mem_append_left _ (List.mem_of_getElem? (i := 18) rfl)) rfl
theorem ws_X8_loops : Cond.selects yX8_loops.cls yX8_loops yX8_loops ∈ TB := tb_of (List.mem_append_left _ (List.mem_of_getElem? (i := 19) rfl)) rfl
theorem ws_X8_countsBy : Cond.selects yX8_countsBy.cls yX8_countsBy yX8_countsBy ∈ TB := tb_of (List.mem_append_left _ (List.mem_of_getElem? (i := 20) rfl)) rfl
theorem ws_X8_turns : Cond.selects yX8_turns.cls yX8_turns yX8_turns ∈ TB := tb_of (List.mem_append_left _ (List.mem_of_getElem? (i := 21) rfl)) rfl
theorem ws_X8_multiplies : Cond.selects yX8_multiplies.cls yX8_multiplies yX8_multiplies ∈ TB := tb_of (List.mem_append_left _ (List.mem_of_getElem? (i := 22) rfl)) rfl
theorem ws_X8_counts : Cond.selects yX8_counts.cls yX8_counts yX8_counts ∈ TB := tb_of (List.mem_append_left _ (List.mem_of_getElem? (i := 23) rfl)) rfl
theorem ws_X8_squares : Cond.selects yX8_squares.cls yX8_squares yX8_squares ∈ TB := tb_of (List.mem_append_left _ (List.mem_of_getElem? (i := 24) rfl)) rfl
theorem ws_X8_square : Cond.selects yX8_square.cls yX8_square yX8_square ∈ TB := tb_of (List.mem_append_left _ (List.mem_of_getElem? (i := 25) rfl)) rfl
theorem ws_X8_more : Cond.selects yX8_more.cls yX8_more yX8_more ∈ TB := tb_of (List.mem_append_left _ (List.mem_of_getElem? (i := 26) rfl)) rfl
theorem ws_X8_two : Cond.selects yX8_two.cls yX8_two yX8_two ∈ TB := tb_of (List.mem_append_left _ (List.mem_of_getElem? (i := 27) rfl)) rfl
theorem ws_X8_apart : Cond.selects yX8_apart.cls yX8_apart yX8_apart ∈ TB := tb_of (List.mem_append_left _ (List.mem_of_getElem? (i := 28) rfl)) rfl
theorem ws_X8_three : Cond.selects yX8_three.cls yX8_three yX8_three ∈ TB := tb_of (List.mem_append_left _ (List.mem_of_getElem? (i := 29) rfl)) rfl
theorem ws_X8_passes : Cond.selects yX8_passes.cls yX8_passes yX8_passes ∈ TB := tb_of (List.mem_append_left _ (List.mem_of_getElem? (i := 30) rfl)) rfl
theorem ws_X8_four : Cond.selects yX8_four.cls yX8_four yX8_four ∈ TB := tb_of (List.mem_append_left _ (List.mem_of_getElem? (i := 31) rfl)) rfl
theorem ws_X8_laysRows : Cond.selects yX8_laysRows.cls yX8_laysRows yX8_laysRows ∈ TB := tb_of (List.mem_append_left _ (List.mem_of_getElem? (i := 32) rfl)) rfl
theorem ws_X8_addsRow : Cond.selects yX8_addsRow.cls yX8_addsRow yX8_addsRow ∈ TB := tb_of (List.mem_append_left _ (List.mem_of_getElem? (i := 33) rfl)) rfl
theorem ws_X8_divides : Cond.selects yX8_divides.cls yX8_divides yX8_divides ∈ TB := tb_of (List.mem_append_left _ (List.mem_of_getElem? (i := 34) rfl)) rfl
theorem ws_X8_shortens : Cond.selects yX8_shortens.cls yX8_shortens yX8_shortens ∈ TB := tb_of (List.mem_append_left _ (List.mem_of_getElem? (i := 35) rfl)) rfl
theorem ws_X8_laysSpans : Cond.selects yX8_laysSpans.cls yX8_laysSpans yX8_laysSpans ∈ TB := tb_of (List.mem_append_left _ (List.mem_of_getElem? (i := 36) rfl)) rfl
theorem ws_X8_isSteady : Cond.selects yX8_isSteady.cls yX8_isSteady yX8_isSteady ∈ TB := tb_of (List.mem_append_left _ (List.mem_of_getElem? (i := 37) rfl)) rfl
theorem ws_X8_terms : Cond.selects yX8_terms.cls yX8_terms yX8_terms ∈ TB := tb_of (List.mem_append_left _ (List.mem_of_getElem? (i := 38) rfl)) rfl
theorem ws_X8_looks : Cond.selects yX8_looks.cls yX8_looks yX8_looks ∈ TB := tb_of (List.mem_append_left _ (List.mem_of_getElem? (i := 39) rfl)) rfl
theorem ws_X8_goesBy : Cond.selects yX8_goesBy.cls yX8_goesBy yX8_goesBy ∈ TB := tb_of (List.mem_append_left _ (List.mem_of_getElem? (i := 40) rfl)) rfl
theorem ws_X8_term : Cond.selects yX8_term.cls yX8_term yX8_term ∈ TB := tb_of (List.mem_append_left _ (List.mem_of_getElem? (i := 41) rfl)) rfl
theorem ws_X8_found : Cond.selects yX8_found.cls yX8_found yX8_found ∈ TB := tb_of (List.mem_append_left _ (List.mem_of_getElem? (i := 42) rfl)) rfl
theorem inT0 : ∀ w ∈ u_ws RX0 TX0 3, w ∈ TB := List.forall_mem_cons.mpr ⟨w_1_142, List.forall_mem_cons.mpr ⟨w_1_144, List.forall_mem_cons.mpr ⟨w_1_146, fun _ h => absurd h List.not_mem_nil⟩⟩⟩
theorem inT1 : ∀ w ∈ u_ws RX1 TX1 5, w ∈ TB := List.forall_mem_cons.mpr ⟨w_1_158, List.forall_mem_cons.mpr ⟨w_1_160, List.forall_mem_cons.mpr ⟨w_1_162, List.forall_mem_cons.mpr ⟨w_1_164, List.forall_mem_cons.mpr ⟨w_1_166, fun _ h => absurd h List.not_mem_nil⟩⟩⟩⟩⟩
theorem inT2 : ∀ w ∈ u_ws RX2 TX2 3, w ∈ TB := List.forall_mem_cons.mpr ⟨w_1_60, List.forall_mem_cons.mpr ⟨w_1_62, List.forall_mem_cons.mpr ⟨w_1_64, fun _ h => absurd h List.not_mem_nil⟩⟩⟩
theorem inT3 : ∀ w ∈ u_ws RX3 TX3 3, w ∈ TB := List.forall_mem_cons.mpr ⟨w_1_35, List.forall_mem_cons.mpr ⟨w_1_37, List.forall_mem_cons.mpr ⟨w_1_39, fun _ h => absurd h List.not_mem_nil⟩⟩⟩
theorem inT4 : ∀ w ∈ u_ws RX4 TX4 3, w ∈ TB := List.forall_mem_cons.mpr ⟨w_1_113, List.forall_mem_cons.mpr ⟨w_1_115, List.forall_mem_cons.mpr ⟨w_1_117, fun _ h => absurd h List.not_mem_nil⟩⟩⟩
theorem inT5 : ∀ w ∈ u_ws RX5 TX5 9, w ∈ TB := List.forall_mem_cons.mpr ⟨w_1_187, List.forall_mem_cons.mpr ⟨w_1_189, List.forall_mem_cons.mpr ⟨w_1_191, List.forall_mem_cons.mpr ⟨w_1_193, List.forall_mem_cons.mpr ⟨w_1_195, List.forall_mem_cons.mpr ⟨w_1_197, List.forall_mem_cons.mpr ⟨w_1_199, List.forall_mem_cons.mpr ⟨w_1_201, List.forall_mem_cons.mpr ⟨w_1_203, fun _ h => absurd h List.not_mem_nil⟩⟩⟩⟩⟩⟩⟩⟩⟩
theorem inT6 : ∀ w ∈ u_ws RX6 TX6 7, w ∈ TB := List.forall_mem_cons.mpr ⟨w_1_83, List.forall_mem_cons.mpr ⟨w_1_85, List.forall_mem_cons.mpr ⟨w_1_87, List.forall_mem_cons.mpr ⟨w_1_89, List.forall_mem_cons.mpr ⟨w_1_91, List.forall_mem_cons.mpr ⟨w_1_93, List.forall_mem_cons.mpr ⟨w_1_95, fun _ h => absurd h List.not_mem_nil⟩⟩⟩⟩⟩⟩⟩
theorem inT7 : ∀ w ∈ u_ws RX7 TX7 11, w ∈ TB := List.forall_mem_cons.mpr ⟨w_1_217, List.forall_mem_cons.mpr ⟨w_1_219, List.forall_mem_cons.mpr ⟨w_1_221, List.forall_mem_cons.mpr ⟨w_1_223, List.forall_mem_cons.mpr ⟨w_1_225, List.forall_mem_cons.mpr ⟨w_1_227, List.forall_mem_cons.mpr ⟨w_1_229, List.forall_mem_cons.mpr ⟨w_1_231, List.forall_mem_cons.mpr ⟨w_1_233, List.forall_mem_cons.mpr ⟨w_1_235, List.forall_mem_cons.mpr ⟨w_1_237, fun _ h => absurd h List.not_mem_nil⟩⟩⟩⟩⟩⟩⟩⟩⟩⟩⟩
theorem inT8 : ∀ w ∈ u_ws RX8 TX8 29, w ∈ TB := List.forall_mem_cons.mpr ⟨w_3_141, List.forall_mem_cons.mpr ⟨w_3_143, List.forall_mem_cons.mpr ⟨w_3_145, List.forall_mem_cons.mpr ⟨w_3_147, List.forall_mem_cons.mpr ⟨w_3_149, List.forall_mem_cons.mpr ⟨w_3_151, List.forall_mem_cons.mpr ⟨w_3_153, List.forall_mem_cons.mpr ⟨w_3_155, List.forall_mem_cons.mpr ⟨w_3_157, List.forall_mem_cons.mpr ⟨w_3_159, List.forall_mem_cons.mpr ⟨w_3_161, List.forall_mem_cons.mpr ⟨w_3_163, List.forall_mem_cons.mpr ⟨w_3_165, List.forall_mem_cons.mpr ⟨w_3_167, List.forall_mem_cons.mpr ⟨w_3_169, List.forall_mem_cons.mpr ⟨w_3_171, List.forall_mem_cons.mpr ⟨w_3_173, List.forall_mem_cons.mpr ⟨w_3_175, List.forall_mem_cons.mpr ⟨w_3_177, List.forall_mem_cons.mpr ⟨w_3_179, List.forall_mem_cons.mpr ⟨w_3_181, List.forall_mem_cons.mpr ⟨w_3_183, List.forall_mem_cons.mpr ⟨w_3_185, List.forall_mem_cons.mpr ⟨w_3_187, List.forall_mem_cons.mpr ⟨w_3_189, List.forall_mem_cons.mpr ⟨w_3_191, List.forall_mem_cons.mpr ⟨w_3_193, List.forall_mem_cons.mpr ⟨w_3_195, List.forall_mem_cons.mpr ⟨w_3_197, fun _ h => absurd h List.not_mem_nil⟩⟩⟩⟩⟩⟩⟩⟩⟩⟩⟩⟩⟩⟩⟩⟩⟩⟩⟩⟩⟩⟩⟩⟩⟩⟩⟩⟩⟩
theorem fl_X7_12 : mFL RX7 12 7 0 (.object "LoopJudge$Setting") true := ⟨RX7, TX7, 11, tyX7, rfl, by decide, inT7, w_1_206, tyX7_ok, nmX7, rfl, rfl⟩
theorem fl_X7_22 : mFL RX7 22 7 1 (.object "LoopJudge$Past") true := ⟨RX7, TX7, 11, tyX7, rfl, by decide, inT7, w_1_207, tyX7_ok, nmX7, rfl, rfl⟩
theorem fl_X7_26 : mFL RX7 26 7 2 (.object "LoopJudge$Setting") true := ⟨RX7, TX7, 11, tyX7, rfl, by decide, inT7, w_1_208, tyX7_ok, nmX7, rfl, rfl⟩
theorem fl_X7_29 : mFL RX7 29 7 3 (.object "LoopJudge$Past") true := ⟨RX7, TX7, 11, tyX7, rfl, by decide, inT7, w_1_209, tyX7_ok, nmX7, rfl, rfl⟩
theorem fl_X7_32 : mFL RX7 32 7 4 .boolean false := ⟨RX7, TX7, 11, tyX7, rfl, by decide, inT7, w_1_210, tyX7_ok, nmX7, rfl, rfl⟩
theorem fl_X7_39 : mFL RX7 39 7 5 (.object "LoopJudge$Tape") true := ⟨RX7, TX7, 11, tyX7, rfl, by decide, inT7, w_1_211, tyX7_ok, nmX7, rfl, rfl⟩
theorem fl_X7_46 : mFL RX7 46 7 6 (.object "LoopJudge$Shelf") true := ⟨RX7, TX7, 11, tyX7, rfl, by decide, inT7, w_1_212, tyX7_ok, nmX7, rfl, rfl⟩
theorem fl_X7_53 : mFL RX7 53 7 7 (.object "LoopJudge$Judge") true := ⟨RX7, TX7, 11, tyX7, rfl, by decide, inT7, w_1_213, tyX7_ok, nmX7, rfl, rfl⟩
theorem fl_X7_62 : mFL RX7 62 7 8 (.object "LoopJudge$SpanBook") true := ⟨RX7, TX7, 11, tyX7, rfl, by decide, inT7, w_1_214, tyX7_ok, nmX7, rfl, rfl⟩
theorem fl_X7_66 : mFL RX7 66 7 9 (.object "LoopJudge$SpanBook") true := ⟨RX7, TX7, 11, tyX7, rfl, by decide, inT7, w_1_215, tyX7_ok, nmX7, rfl, rfl⟩
theorem fl_X7_69 : mFL RX7 69 7 10 (.array .long) true := ⟨RX7, TX7, 11, tyX7, rfl, by decide, inT7, w_1_216, tyX7_ok, nmX7, rfl, rfl⟩
theorem fl_X7_81 : mFL RX7 81 3 0 (.array .int) true := ⟨RX3, TX3, 3, tyX3, rfl, by decide, inT3, w_1_30, tyX3_ok, nmX3, rfl, rfl⟩
theorem fl_X7_93 : mFL RX7 93 3 1 .int false := ⟨RX3, TX3, 3, tyX3, rfl, by decide, inT3, w_1_32, tyX3_ok, nmX3, rfl, rfl⟩
theorem fl_X7_112 : mFL RX7 112 2 2 .int false := ⟨RX2, TX2, 3, tyX2, rfl, by decide, inT2, w_1_59, tyX2_ok, nmX2, rfl, rfl⟩
theorem fl_X7_121 : mFL RX7 121 1 0 (.object "LoopJudge$Chain") true := ⟨RX1, TX1, 5, tyX1, rfl, by decide, inT1, w_1_150, tyX1_ok, nmX1, rfl, rfl⟩
theorem fl_X7_131 : mFL RX7 131 0 2 .int false := ⟨RX0, TX0, 3, tyX0, rfl, by decide, inT0, w_1_141, tyX0_ok, nmX0, rfl, rfl⟩
theorem fl_X7_136 : mFL RX7 136 0 0 (.array (.array .long)) true := ⟨RX0, TX0, 3, tyX0, rfl, by decide, inT0, w_1_136, tyX0_ok, nmX0, rfl, rfl⟩
theorem fl_X7_152 : mFL RX7 152 5 7 .int false := ⟨RX5, TX5, 9, tyX5, rfl, by decide, inT5, w_1_184, tyX5_ok, nmX5, rfl, rfl⟩
theorem fl_X7_157 : mFL RX7 157 5 5 (.array .int) true := ⟨RX5, TX5, 9, tyX5, rfl, by decide, inT5, w_1_181, tyX5_ok, nmX5, rfl, rfl⟩
theorem fl_X7_160 : mFL RX7 160 5 8 .int false := ⟨RX5, TX5, 9, tyX5, rfl, by decide, inT5, w_1_186, tyX5_ok, nmX5, rfl, rfl⟩
theorem fl_X7_188 : mFL RX7 188 6 3 .int false := ⟨RX6, TX6, 7, tyX6, rfl, by decide, inT6, w_1_79, tyX6_ok, nmX6, rfl, rfl⟩
theorem fl_X7_193 : mFL RX7 193 6 1 (.array .int) true := ⟨RX6, TX6, 7, tyX6, rfl, by decide, inT6, w_1_75, tyX6_ok, nmX6, rfl, rfl⟩
theorem fl_X7_194 : mFL RX7 194 6 2 .boolean false := ⟨RX6, TX6, 7, tyX6, rfl, by decide, inT6, w_1_77, tyX6_ok, nmX6, rfl, rfl⟩
theorem fl_X7_209 : mFL RX7 209 3 2 .int false := ⟨RX3, TX3, 3, tyX3, rfl, by decide, inT3, w_1_34, tyX3_ok, nmX3, rfl, rfl⟩
theorem fl_X7_226 : mFL RX7 226 4 2 (.array (.array .long)) true := ⟨RX4, TX4, 3, tyX4, rfl, by decide, inT4, w_1_112, tyX4_ok, nmX4, rfl, rfl⟩
theorem fl_X7_236 : mFL RX7 236 4 1 (.array .int) true := ⟨RX4, TX4, 3, tyX4, rfl, by decide, inT4, w_1_110, tyX4_ok, nmX4, rfl, rfl⟩
theorem fl_X7_246 : mFL RX7 246 4 0 (.array .int) true := ⟨RX4, TX4, 3, tyX4, rfl, by decide, inT4, w_1_108, tyX4_ok, nmX4, rfl, rfl⟩
theorem fl_X7_256 : mFL RX7 256 1 2 .int false := ⟨RX1, TX1, 5, tyX1, rfl, by decide, inT1, w_1_153, tyX1_ok, nmX1, rfl, rfl⟩
theorem fl_X7_259 : mFL RX7 259 1 3 .int false := ⟨RX1, TX1, 5, tyX1, rfl, by decide, inT1, w_1_155, tyX1_ok, nmX1, rfl, rfl⟩
theorem fl_X7_262 : mFL RX7 262 1 4 .int false := ⟨RX1, TX1, 5, tyX1, rfl, by decide, inT1, w_1_157, tyX1_ok, nmX1, rfl, rfl⟩
theorem fl_X0_11 : mFL RX0 11 0 0 (.array (.array .long)) true := ⟨RX0, TX0, 3, tyX0, rfl, by decide, inT0, w_1_134, tyX0_ok, nmX0, rfl, rfl⟩
theorem fl_X0_16 : mFL RX0 16 0 1 (.array .int) true := ⟨RX0, TX0, 3, tyX0, rfl, by decide, inT0, w_1_137, tyX0_ok, nmX0, rfl, rfl⟩
theorem fl_X0_20 : mFL RX0 20 0 2 .int false := ⟨RX0, TX0, 3, tyX0, rfl, by decide, inT0, w_1_139, tyX0_ok, nmX0, rfl, rfl⟩
theorem fl_X1_12 : mFL RX1 12 1 0 (.object "LoopJudge$Chain") true := ⟨RX1, TX1, 5, tyX1, rfl, by decide, inT1, w_1_149, tyX1_ok, nmX1, rfl, rfl⟩
theorem fl_X1_18 : mFL RX1 18 1 1 (.array .long) true := ⟨RX1, TX1, 5, tyX1, rfl, by decide, inT1, w_1_151, tyX1_ok, nmX1, rfl, rfl⟩
theorem fl_X1_22 : mFL RX1 22 1 2 .int false := ⟨RX1, TX1, 5, tyX1, rfl, by decide, inT1, w_1_152, tyX1_ok, nmX1, rfl, rfl⟩
theorem fl_X1_26 : mFL RX1 26 1 3 .int false := ⟨RX1, TX1, 5, tyX1, rfl, by decide, inT1, w_1_154, tyX1_ok, nmX1, rfl, rfl⟩
theorem fl_X1_29 : mFL RX1 29 1 4 .int false := ⟨RX1, TX1, 5, tyX1, rfl, by decide, inT1, w_1_156, tyX1_ok, nmX1, rfl, rfl⟩
theorem fl_X1_60 : mFL RX1 60 0 2 .int false := ⟨RX0, TX0, 3, tyX0, rfl, by decide, inT0, w_1_140, tyX0_ok, nmX0, rfl, rfl⟩
theorem fl_X1_63 : mFL RX1 63 0 1 (.array .int) true := ⟨RX0, TX0, 3, tyX0, rfl, by decide, inT0, w_1_138, tyX0_ok, nmX0, rfl, rfl⟩
theorem fl_X1_71 : mFL RX1 71 0 0 (.array (.array .long)) true := ⟨RX0, TX0, 3, tyX0, rfl, by decide, inT0, w_1_135, tyX0_ok, nmX0, rfl, rfl⟩
theorem fl_X2_11 : mFL RX2 11 2 0 (.array (.object "LoopJudge$Setting")) true := ⟨RX2, TX2, 3, tyX2, rfl, by decide, inT2, w_1_56, tyX2_ok, nmX2, rfl, rfl⟩
theorem fl_X2_16 : mFL RX2 16 2 1 .int false := ⟨RX2, TX2, 3, tyX2, rfl, by decide, inT2, w_1_57, tyX2_ok, nmX2, rfl, rfl⟩
theorem fl_X2_20 : mFL RX2 20 2 2 .int false := ⟨RX2, TX2, 3, tyX2, rfl, by decide, inT2, w_1_58, tyX2_ok, nmX2, rfl, rfl⟩
theorem fl_X3_9 : mFL RX3 9 3 0 (.array .int) true := ⟨RX3, TX3, 3, tyX3, rfl, by decide, inT3, w_1_28, tyX3_ok, nmX3, rfl, rfl⟩
theorem fl_X3_15 : mFL RX3 15 3 1 .int false := ⟨RX3, TX3, 3, tyX3, rfl, by decide, inT3, w_1_31, tyX3_ok, nmX3, rfl, rfl⟩
theorem fl_X3_19 : mFL RX3 19 3 2 .int false := ⟨RX3, TX3, 3, tyX3, rfl, by decide, inT3, w_1_33, tyX3_ok, nmX3, rfl, rfl⟩
theorem fl_X4_9 : mFL RX4 9 4 0 (.array .int) true := ⟨RX4, TX4, 3, tyX4, rfl, by decide, inT4, w_1_107, tyX4_ok, nmX4, rfl, rfl⟩
theorem fl_X4_15 : mFL RX4 15 4 1 (.array .int) true := ⟨RX4, TX4, 3, tyX4, rfl, by decide, inT4, w_1_109, tyX4_ok, nmX4, rfl, rfl⟩
theorem fl_X4_20 : mFL RX4 20 4 2 (.array (.array .long)) true := ⟨RX4, TX4, 3, tyX4, rfl, by decide, inT4, w_1_111, tyX4_ok, nmX4, rfl, rfl⟩
theorem fl_X5_9 : mFL RX5 9 5 0 .int true := ⟨RX5, TX5, 9, tyX5, rfl, by decide, inT5, w_1_175, tyX5_ok, nmX5, rfl, rfl⟩
theorem fl_X5_15 : mFL RX5 15 5 1 (.array .int) true := ⟨RX5, TX5, 9, tyX5, rfl, by decide, inT5, w_1_176, tyX5_ok, nmX5, rfl, rfl⟩
theorem fl_X5_19 : mFL RX5 19 5 2 (.array .long) true := ⟨RX5, TX5, 9, tyX5, rfl, by decide, inT5, w_1_177, tyX5_ok, nmX5, rfl, rfl⟩
theorem fl_X5_23 : mFL RX5 23 5 3 (.array .int) true := ⟨RX5, TX5, 9, tyX5, rfl, by decide, inT5, w_1_178, tyX5_ok, nmX5, rfl, rfl⟩
theorem fl_X5_26 : mFL RX5 26 5 4 (.array .int) true := ⟨RX5, TX5, 9, tyX5, rfl, by decide, inT5, w_1_179, tyX5_ok, nmX5, rfl, rfl⟩
theorem fl_X5_29 : mFL RX5 29 5 5 (.array .int) true := ⟨RX5, TX5, 9, tyX5, rfl, by decide, inT5, w_1_180, tyX5_ok, nmX5, rfl, rfl⟩
theorem fl_X5_32 : mFL RX5 32 5 6 .boolean false := ⟨RX5, TX5, 9, tyX5, rfl, by decide, inT5, w_1_182, tyX5_ok, nmX5, rfl, rfl⟩
theorem fl_X5_36 : mFL RX5 36 5 7 .int false := ⟨RX5, TX5, 9, tyX5, rfl, by decide, inT5, w_1_183, tyX5_ok, nmX5, rfl, rfl⟩
theorem fl_X5_39 : mFL RX5 39 5 8 .int false := ⟨RX5, TX5, 9, tyX5, rfl, by decide, inT5, w_1_185, tyX5_ok, nmX5, rfl, rfl⟩
theorem fl_X5_46 : mFL RX5 46 3 0 (.array .int) true := ⟨RX3, TX3, 3, tyX3, rfl, by decide, inT3, w_1_29, tyX3_ok, nmX3, rfl, rfl⟩
theorem fl_X6_11 : mFL RX6 11 6 0 (.array .byte) true := ⟨RX6, TX6, 7, tyX6, rfl, by decide, inT6, w_1_73, tyX6_ok, nmX6, rfl, rfl⟩
theorem fl_X6_15 : mFL RX6 15 6 1 (.array .int) true := ⟨RX6, TX6, 7, tyX6, rfl, by decide, inT6, w_1_74, tyX6_ok, nmX6, rfl, rfl⟩
theorem fl_X6_19 : mFL RX6 19 6 2 .boolean false := ⟨RX6, TX6, 7, tyX6, rfl, by decide, inT6, w_1_76, tyX6_ok, nmX6, rfl, rfl⟩
theorem fl_X6_23 : mFL RX6 23 6 3 .int false := ⟨RX6, TX6, 7, tyX6, rfl, by decide, inT6, w_1_78, tyX6_ok, nmX6, rfl, rfl⟩
theorem fl_X6_27 : mFL RX6 27 6 4 .int false := ⟨RX6, TX6, 7, tyX6, rfl, by decide, inT6, w_1_80, tyX6_ok, nmX6, rfl, rfl⟩
theorem fl_X6_30 : mFL RX6 30 6 5 .int false := ⟨RX6, TX6, 7, tyX6, rfl, by decide, inT6, w_1_81, tyX6_ok, nmX6, rfl, rfl⟩
theorem fl_X6_33 : mFL RX6 33 6 6 .int false := ⟨RX6, TX6, 7, tyX6, rfl, by decide, inT6, w_1_82, tyX6_ok, nmX6, rfl, rfl⟩
theorem fl_X8_7 : mFL RX8 7 8 0 (.array .int) true := ⟨RX8, TX8, 29, tyX8, rfl, by decide, inT8, w_3_112, tyX8_ok, nmX8, rfl, rfl⟩
theorem fl_X8_13 : mFL RX8 13 8 1 (.array .int) true := ⟨RX8, TX8, 29, tyX8, rfl, by decide, inT8, w_3_113, tyX8_ok, nmX8, rfl, rfl⟩
theorem fl_X8_16 : mFL RX8 16 8 3 (.array .int) true := ⟨RX8, TX8, 29, tyX8, rfl, by decide, inT8, w_3_115, tyX8_ok, nmX8, rfl, rfl⟩
theorem fl_X8_19 : mFL RX8 19 8 4 (.array .int) true := ⟨RX8, TX8, 29, tyX8, rfl, by decide, inT8, w_3_116, tyX8_ok, nmX8, rfl, rfl⟩
theorem fl_X8_22 : mFL RX8 22 8 5 .int false := ⟨RX8, TX8, 29, tyX8, rfl, by decide, inT8, w_3_117, tyX8_ok, nmX8, rfl, rfl⟩
theorem fl_X8_26 : mFL RX8 26 8 6 (.array .int) true := ⟨RX8, TX8, 29, tyX8, rfl, by decide, inT8, w_3_118, tyX8_ok, nmX8, rfl, rfl⟩
theorem fl_X8_29 : mFL RX8 29 8 8 (.array .int) true := ⟨RX8, TX8, 29, tyX8, rfl, by decide, inT8, w_3_120, tyX8_ok, nmX8, rfl, rfl⟩
theorem fl_X8_32 : mFL RX8 32 8 9 (.array .int) true := ⟨RX8, TX8, 29, tyX8, rfl, by decide, inT8, w_3_121, tyX8_ok, nmX8, rfl, rfl⟩
theorem fl_X8_35 : mFL RX8 35 8 10 (.array .long) true := ⟨RX8, TX8, 29, tyX8, rfl, by decide, inT8, w_3_122, tyX8_ok, nmX8, rfl, rfl⟩
theorem fl_X8_39 : mFL RX8 39 8 11 (.array .long) true := ⟨RX8, TX8, 29, tyX8, rfl, by decide, inT8, w_3_123, tyX8_ok, nmX8, rfl, rfl⟩
theorem fl_X8_42 : mFL RX8 42 8 15 (.array .long) true := ⟨RX8, TX8, 29, tyX8, rfl, by decide, inT8, w_3_127, tyX8_ok, nmX8, rfl, rfl⟩
theorem fl_X8_45 : mFL RX8 45 8 18 (.array .long) true := ⟨RX8, TX8, 29, tyX8, rfl, by decide, inT8, w_3_130, tyX8_ok, nmX8, rfl, rfl⟩
theorem fl_X8_48 : mFL RX8 48 8 19 (.array .long) true := ⟨RX8, TX8, 29, tyX8, rfl, by decide, inT8, w_3_131, tyX8_ok, nmX8, rfl, rfl⟩
theorem fl_X8_51 : mFL RX8 51 8 20 (.array .long) true := ⟨RX8, TX8, 29, tyX8, rfl, by decide, inT8, w_3_132, tyX8_ok, nmX8, rfl, rfl⟩
theorem fl_X8_54 : mFL RX8 54 8 22 (.array .long) true := ⟨RX8, TX8, 29, tyX8, rfl, by decide, inT8, w_3_134, tyX8_ok, nmX8, rfl, rfl⟩
theorem fl_X8_57 : mFL RX8 57 8 23 (.array .int) true := ⟨RX8, TX8, 29, tyX8, rfl, by decide, inT8, w_3_135, tyX8_ok, nmX8, rfl, rfl⟩
theorem fl_X8_60 : mFL RX8 60 8 24 (.array .int) true := ⟨RX8, TX8, 29, tyX8, rfl, by decide, inT8, w_3_136, tyX8_ok, nmX8, rfl, rfl⟩
theorem fl_X8_63 : mFL RX8 63 8 28 (.array .int) true := ⟨RX8, TX8, 29, tyX8, rfl, by decide, inT8, w_3_140, tyX8_ok, nmX8, rfl, rfl⟩
theorem fl_X8_66 : mFL RX8 66 8 2 .int false := ⟨RX8, TX8, 29, tyX8, rfl, by decide, inT8, w_3_114, tyX8_ok, nmX8, rfl, rfl⟩
theorem fl_X8_75 : mFL RX8 75 8 12 .int false := ⟨RX8, TX8, 29, tyX8, rfl, by decide, inT8, w_3_124, tyX8_ok, nmX8, rfl, rfl⟩
theorem fl_X8_78 : mFL RX8 78 8 13 .int false := ⟨RX8, TX8, 29, tyX8, rfl, by decide, inT8, w_3_125, tyX8_ok, nmX8, rfl, rfl⟩
theorem fl_X8_81 : mFL RX8 81 8 14 .int false := ⟨RX8, TX8, 29, tyX8, rfl, by decide, inT8, w_3_126, tyX8_ok, nmX8, rfl, rfl⟩
theorem fl_X8_98 : mFL RX8 98 8 16 .int false := ⟨RX8, TX8, 29, tyX8, rfl, by decide, inT8, w_3_128, tyX8_ok, nmX8, rfl, rfl⟩
theorem fl_X8_101 : mFL RX8 101 8 17 .int false := ⟨RX8, TX8, 29, tyX8, rfl, by decide, inT8, w_3_129, tyX8_ok, nmX8, rfl, rfl⟩
theorem fl_X8_183 : mFL RX8 183 8 21 .int false := ⟨RX8, TX8, 29, tyX8, rfl, by decide, inT8, w_3_133, tyX8_ok, nmX8, rfl, rfl⟩
theorem fl_X8_201 : mFL RX8 201 8 25 .int false := ⟨RX8, TX8, 29, tyX8, rfl, by decide, inT8, w_3_137, tyX8_ok, nmX8, rfl, rfl⟩
theorem fl_X8_223 : mFL RX8 223 8 7 .int false := ⟨RX8, TX8, 29, tyX8, rfl, by decide, inT8, w_3_119, tyX8_ok, nmX8, rfl, rfl⟩
theorem fl_X8_226 : mFL RX8 226 8 26 .int false := ⟨RX8, TX8, 29, tyX8, rfl, by decide, inT8, w_3_138, tyX8_ok, nmX8, rfl, rfl⟩
theorem fl_X8_241 : mFL RX8 241 8 27 .boolean false := ⟨RX8, TX8, 29, tyX8, rfl, by decide, inT8, w_3_139, tyX8_ok, nmX8, rfl, rfl⟩
abbrev D_X0_init : MD := (RX0, yX0_init, cX0_init, 1, none, 1, 7, 35)
theorem md_X0_init : mMd D_X0_init := ⟨w_1_131, w_1_7, by decide +kernel, by decide +kernel⟩
theorem ar_X0_init : mAr D_X0_init 0 := by unfold mAr; decide +kernel
abbrev D_X0_fill : MD := (RX0, yX0_fill, cX0_fill, 4, none, 3, 0, 0)
theorem md_X0_fill : mMd D_X0_fill := ⟨w_2_67, w_1_7, by decide +kernel, by decide +kernel⟩
theorem ar_X0_fill : mAr D_X0_fill 1 := by unfold mAr; decide +kernel
abbrev D_X0_addHalf : MD := (RX0, yX0_addHalf, cX0_addHalf, 5, none, 2, 0, 0)
theorem md_X0_addHalf : mMd D_X0_addHalf := ⟨w_2_72, w_1_7, by decide +kernel, by decide +kernel⟩
theorem ar_X0_addHalf : mAr D_X0_addHalf 2 := by unfold mAr; decide +kernel
abbrev D_X0_addRemainder : MD := (RX0, yX0_addRemainder, cX0_addRemainder, 5, none, 2, 0, 0)
theorem md_X0_addRemainder : mMd D_X0_addRemainder := ⟨w_2_80, w_1_7, by decide +kernel, by decide +kernel⟩
theorem ar_X0_addRemainder : mAr D_X0_addRemainder 1 := by unfold mAr; decide +kernel
abbrev D_X0_addUnlessZero : MD := (RX0, yX0_addUnlessZero, cX0_addUnlessZero, 1, none, 1, 0, 0)
theorem md_X0_addUnlessZero : mMd D_X0_addUnlessZero := ⟨w_2_76, w_1_7, by decide +kernel, by decide +kernel⟩
theorem ar_X0_addUnlessZero : mAr D_X0_addUnlessZero 0 := by unfold mAr; decide +kernel
abbrev D_X0_strike : MD := (RX0, yX0_strike, cX0_strike, 9, none, 1, 0, 0)
theorem md_X0_strike : mMd D_X0_strike := ⟨w_2_84, w_1_7, by decide +kernel, by decide +kernel⟩
theorem ar_X0_strike : mAr D_X0_strike 4 := by unfold mAr; decide +kernel
abbrev D_X0_takeLowestTerms : MD := (RX0, yX0_takeLowestTerms, cX0_takeLowestTerms, 4, none, 1, 0, 0)
theorem md_X0_takeLowestTerms : mMd D_X0_takeLowestTerms := ⟨w_2_90, w_1_7, by decide +kernel, by decide +kernel⟩
theorem ar_X0_takeLowestTerms : mAr D_X0_takeLowestTerms 1 := by unfold mAr; decide +kernel
abbrev D_X1_init : MD := (RX1, yX1_init, cX1_init, 1, none, 2, 9, 43)
theorem md_X1_init : mMd D_X1_init := ⟨w_1_125, w_1_6, by decide +kernel, by decide +kernel⟩
theorem ar_X1_init : mAr D_X1_init 0 := by unfold mAr; decide +kernel
abbrev D_X1_countRootsOf : MD := (RX1, yX1_countRootsOf, cX1_countRootsOf, 3, none, 4, 0, 0)
theorem md_X1_countRootsOf : mMd D_X1_countRootsOf := ⟨w_2_63, w_1_6, by decide +kernel, by decide +kernel⟩
theorem ar_X1_countRootsOf : mAr D_X1_countRootsOf 2 := by unfold mAr; decide +kernel
abbrev D_X1_isSteady : MD := (RX1, yX1_isSteady, cX1_isSteady, 3, (some FieldType.boolean), 2, 0, 0)
theorem md_X1_isSteady : mMd D_X1_isSteady := ⟨w_2_162, w_1_6, by decide +kernel, by decide +kernel⟩
theorem ar_X1_isSteady : mAr D_X1_isSteady 2 := by unfold mAr; decide +kernel
abbrev D_X1_turn : MD := (RX1, yX1_turn, cX1_turn, 13, none, 1, 0, 0)
theorem md_X1_turn : mMd D_X1_turn := ⟨w_2_113, w_1_6, by decide +kernel, by decide +kernel⟩
theorem ar_X1_turn : mAr D_X1_turn 1 := by unfold mAr; decide +kernel
abbrev D_X1_partBelow : MD := (RX1, yX1_partBelow, cX1_partBelow, 3, (some FieldType.long), 0, 0, 0)
theorem md_X1_partBelow : mMd D_X1_partBelow := ⟨w_2_117, w_1_6, by decide +kernel, by decide +kernel⟩
theorem ar_X1_partBelow : mAr D_X1_partBelow 3 := by unfold mAr; decide +kernel
abbrev D_X1_countByChain : MD := (RX1, yX1_countByChain, cX1_countByChain, 4, none, 2, 0, 0)
theorem md_X1_countByChain : mMd D_X1_countByChain := ⟨w_2_98, w_1_6, by decide +kernel, by decide +kernel⟩
theorem ar_X1_countByChain : mAr D_X1_countByChain 0 := by unfold mAr; decide +kernel
abbrev D_X1_signTurns : MD := (RX1, yX1_signTurns, cX1_signTurns, 9, (some FieldType.int), 0, 0, 0)
theorem md_X1_signTurns : mMd D_X1_signTurns := ⟨w_2_102, w_1_6, by decide +kernel, by decide +kernel⟩
theorem ar_X1_signTurns : mAr D_X1_signTurns 0 := by unfold mAr; decide +kernel
abbrev D_X1_rootsOnAxis : MD := (RX1, yX1_rootsOnAxis, cX1_rootsOnAxis, 3, (some FieldType.int), 1, 0, 0)
theorem md_X1_rootsOnAxis : mMd D_X1_rootsOnAxis := ⟨w_2_105, w_1_6, by decide +kernel, by decide +kernel⟩
theorem ar_X1_rootsOnAxis : mAr D_X1_rootsOnAxis 2 := by unfold mAr; decide +kernel
abbrev D_X1_rootsOnAxisOfFour : MD := (RX1, yX1_rootsOnAxisOfFour, cX1_rootsOnAxisOfFour, 7, (some FieldType.int), 0, 0, 0)
theorem md_X1_rootsOnAxisOfFour : mMd D_X1_rootsOnAxisOfFour := ⟨w_2_108, w_1_6, by decide +kernel, by decide +kernel⟩
theorem ar_X1_rootsOnAxisOfFour : mAr D_X1_rootsOnAxisOfFour 3 := by unfold mAr; decide +kernel
abbrev D_X1_isSteadyByAxis : MD := (RX1, yX1_isSteadyByAxis, cX1_isSteadyByAxis, 5, (some FieldType.boolean), 1, 0, 0)
theorem md_X1_isSteadyByAxis : mMd D_X1_isSteadyByAxis := ⟨w_2_165, w_1_6, by decide +kernel, by decide +kernel⟩
theorem ar_X1_isSteadyByAxis : mAr D_X1_isSteadyByAxis 1 := by unfold mAr; decide +kernel
abbrev D_X2_init : MD := (RX2, yX2_init, cX2_init, 2, none, 2, 13, 84)
theorem md_X2_init : mMd D_X2_init := ⟨w_1_51, w_1_3, by decide +kernel, by decide +kernel⟩
theorem ar_X2_init : mAr D_X2_init 0 := by unfold mAr; decide +kernel
abbrev D_X2_keep : MD := (RX2, yX2_keep, cX2_keep, 2, none, 2, 0, 0)
theorem md_X2_keep : mMd D_X2_keep := ⟨w_2_15, w_1_3, by decide +kernel, by decide +kernel⟩
theorem ar_X2_keep : mAr D_X2_keep 1 := by unfold mAr; decide +kernel
abbrev D_X2_giveBack : MD := (RX2, yX2_giveBack, cX2_giveBack, 2, none, 2, 0, 0)
theorem md_X2_giveBack : mMd D_X2_giveBack := ⟨w_3_31, w_1_3, by decide +kernel, by decide +kernel⟩
theorem ar_X2_giveBack : mAr D_X2_giveBack 1 := by unfold mAr; decide +kernel
abbrev D_X2_become : MD := (RX2, yX2_become, cX2_become, 3, none, 2, 0, 0)
theorem md_X2_become : mMd D_X2_become := ⟨w_3_44, w_1_3, by decide +kernel, by decide +kernel⟩
theorem ar_X2_become : mAr D_X2_become 1 := by unfold mAr; decide +kernel
abbrev D_X3_init : MD := (RX3, yX3_init, cX3_init, 1, none, 1, 1, 10)
theorem md_X3_init : mMd D_X3_init := ⟨w_1_26, w_1_2, by decide +kernel, by decide +kernel⟩
theorem ar_X3_init : mAr D_X3_init 0 := by unfold mAr; decide +kernel
abbrev D_X3_begin : MD := (RX3, yX3_begin, cX3_begin, 1, none, 0, 0, 0)
theorem md_X3_begin : mMd D_X3_begin := ⟨w_1_46, w_1_2, by decide +kernel, by decide +kernel⟩
theorem ar_X3_begin : mAr D_X3_begin 0 := by unfold mAr; decide +kernel
abbrev D_X3_become : MD := (RX3, yX3_become, cX3_become, 2, none, 1, 0, 0)
theorem md_X3_become : mMd D_X3_become := ⟨w_2_19, w_1_2, by decide +kernel, by decide +kernel⟩
theorem ar_X3_become : mAr D_X3_become 1 := by unfold mAr; decide +kernel
abbrev D_X3_degreeTold : MD := (RX3, yX3_degreeTold, cX3_degreeTold, 3, (some FieldType.int), 0, 0, 0)
theorem md_X3_degreeTold : mMd D_X3_degreeTold := ⟨w_2_41, w_1_2, by decide +kernel, by decide +kernel⟩
theorem ar_X3_degreeTold : mAr D_X3_degreeTold 1 := by unfold mAr; decide +kernel
abbrev D_X3_fillLoop : MD := (RX3, yX3_fillLoop, cX3_fillLoop, 4, none, 0, 0, 0)
theorem md_X3_fillLoop : mMd D_X3_fillLoop := ⟨w_2_48, w_1_2, by decide +kernel, by decide +kernel⟩
theorem ar_X3_fillLoop : mAr D_X3_fillLoop 2 := by unfold mAr; decide +kernel
abbrev D_X3_drawOnce : MD := (RX3, yX3_drawOnce, cX3_drawOnce, 2, none, 0, 0, 0)
theorem md_X3_drawOnce : mMd D_X3_drawOnce := ⟨w_3_20, w_1_2, by decide +kernel, by decide +kernel⟩
theorem ar_X3_drawOnce : mAr D_X3_drawOnce 0 := by unfold mAr; decide +kernel
abbrev D_X4_init : MD := (RX4, yX4_init, cX4_init, 2, none, 1, 7, 108)
theorem md_X4_init : mMd D_X4_init := ⟨w_1_103, w_1_5, by decide +kernel, by decide +kernel⟩
theorem ar_X4_init : mAr D_X4_init 0 := by unfold mAr; decide +kernel
abbrev D_X4_isMissing : MD := (RX4, yX4_isMissing, cX4_isMissing, 2, (some FieldType.boolean), 0, 0, 0)
theorem md_X4_isMissing : mMd D_X4_isMissing := ⟨w_3_60, w_1_5, by decide +kernel, by decide +kernel⟩
theorem ar_X4_isMissing : mAr D_X4_isMissing 1 := by unfold mAr; decide +kernel
abbrev D_X4_renew : MD := (RX4, yX4_renew, cX4_renew, 4, none, 1, 0, 0)
theorem md_X4_renew : mMd D_X4_renew := ⟨w_3_81, w_1_5, by decide +kernel, by decide +kernel⟩
theorem ar_X4_renew : mAr D_X4_renew 3 := by unfold mAr; decide +kernel
abbrev D_X4_remove : MD := (RX4, yX4_remove, cX4_remove, 2, none, 0, 0, 0)
theorem md_X4_remove : mMd D_X4_remove := ⟨w_3_93, w_1_5, by decide +kernel, by decide +kernel⟩
theorem ar_X4_remove : mAr D_X4_remove 1 := by unfold mAr; decide +kernel
abbrev D_X4_refusal : MD := (RX4, yX4_refusal, cX4_refusal, 5, (some FieldType.int), 1, 0, 0)
theorem md_X4_refusal : mMd D_X4_refusal := ⟨w_3_56, w_1_5, by decide +kernel, by decide +kernel⟩
theorem ar_X4_refusal : mAr D_X4_refusal 4 := by unfold mAr; decide +kernel
abbrev D_X4_hasItems : MD := (RX4, yX4_hasItems, cX4_hasItems, 4, (some FieldType.boolean), 0, 0, 0)
theorem md_X4_hasItems : mMd D_X4_hasItems := ⟨w_3_64, w_1_5, by decide +kernel, by decide +kernel⟩
theorem ar_X4_hasItems : mAr D_X4_hasItems 3 := by unfold mAr; decide +kernel
abbrev D_X4_holdsParts : MD := (RX4, yX4_holdsParts, cX4_holdsParts, 5, (some FieldType.boolean), 1, 0, 0)
theorem md_X4_holdsParts : mMd D_X4_holdsParts := ⟨w_3_68, w_1_5, by decide +kernel, by decide +kernel⟩
theorem ar_X4_holdsParts : mAr D_X4_holdsParts 3 := by unfold mAr; decide +kernel
abbrev D_X5_init : MD := (RX5, yX5_init, cX5_init, 2, none, 1, 5, 111)
theorem md_X5_init : mMd D_X5_init := ⟨w_1_173, w_1_8, by decide +kernel, by decide +kernel⟩
theorem ar_X5_init : mAr D_X5_init 1 := by unfold mAr; decide +kernel
abbrev D_X5_refresh : MD := (RX5, yX5_refresh, cX5_refresh, 3, none, 4, 0, 0)
theorem md_X5_refresh : mMd D_X5_refresh := ⟨w_2_148, w_1_8, by decide +kernel, by decide +kernel⟩
theorem ar_X5_refresh : mAr D_X5_refresh 2 := by unfold mAr; decide +kernel
abbrev D_X5_endOf : MD := (RX5, yX5_endOf, cX5_endOf, 3, (some FieldType.int), 0, 0, 0)
theorem md_X5_endOf : mMd D_X5_endOf := ⟨w_2_181, w_1_8, by decide +kernel, by decide +kernel⟩
theorem ar_X5_endOf : mAr D_X5_endOf 2 := by unfold mAr; decide +kernel
abbrev D_X5_isOf : MD := (RX5, yX5_isOf, cX5_isOf, 3, (some FieldType.boolean), 0, 0, 0)
theorem md_X5_isOf : mMd D_X5_isOf := ⟨w_2_152, w_1_8, by decide +kernel, by decide +kernel⟩
theorem ar_X5_isOf : mAr D_X5_isOf 1 := by unfold mAr; decide +kernel
abbrev D_X5_collect : MD := (RX5, yX5_collect, cX5_collect, 4, none, 3, 0, 0)
theorem md_X5_collect : mMd D_X5_collect := ⟨w_2_157, w_1_8, by decide +kernel, by decide +kernel⟩
theorem ar_X5_collect : mAr D_X5_collect 2 := by unfold mAr; decide +kernel
abbrev D_X5_addGain : MD := (RX5, yX5_addGain, cX5_addGain, 2, none, 0, 0, 0)
theorem md_X5_addGain : mMd D_X5_addGain := ⟨w_2_169, w_1_8, by decide +kernel, by decide +kernel⟩
theorem ar_X5_addGain : mAr D_X5_addGain 1 := by unfold mAr; decide +kernel
abbrev D_X5_orderByWidth : MD := (RX5, yX5_orderByWidth, cX5_orderByWidth, 3, none, 1, 0, 0)
theorem md_X5_orderByWidth : mMd D_X5_orderByWidth := ⟨w_2_173, w_1_8, by decide +kernel, by decide +kernel⟩
theorem ar_X5_orderByWidth : mAr D_X5_orderByWidth 0 := by unfold mAr; decide +kernel
abbrev D_X5_widthOf : MD := (RX5, yX5_widthOf, cX5_widthOf, 2, (some FieldType.int), 0, 0, 0)
theorem md_X5_widthOf : mMd D_X5_widthOf := ⟨w_2_177, w_1_8, by decide +kernel, by decide +kernel⟩
theorem ar_X5_widthOf : mAr D_X5_widthOf 1 := by unfold mAr; decide +kernel
abbrev D_X6_init : MD := (RX6, yX6_init, cX6_init, 1, none, 1, 2, 70)
theorem md_X6_init : mMd D_X6_init := ⟨w_1_71, w_1_4, by decide +kernel, by decide +kernel⟩
theorem ar_X6_init : mAr D_X6_init 0 := by unfold mAr; decide +kernel
abbrev D_X6_append : MD := (RX6, yX6_append, cX6_append, 2, (some FieldType.boolean), 0, 0, 0)
theorem md_X6_append : mMd D_X6_append := ⟨w_2_224, w_1_4, by decide +kernel, by decide +kernel⟩
theorem ar_X6_append : mAr D_X6_append 1 := by unfold mAr; decide +kernel
abbrev D_X6_readText : MD := (RX6, yX6_readText, cX6_readText, 2, (some FieldType.int), 4, 0, 0)
theorem md_X6_readText : mMd D_X6_readText := ⟨w_2_232, w_1_4, by decide +kernel, by decide +kernel⟩
theorem ar_X6_readText : mAr D_X6_readText 0 := by unfold mAr; decide +kernel
abbrev D_X6_readTerms : MD := (RX6, yX6_readTerms, cX6_readTerms, 7, (some FieldType.int), 3, 0, 0)
theorem md_X6_readTerms : mMd D_X6_readTerms := ⟨w_2_239, w_1_4, by decide +kernel, by decide +kernel⟩
theorem ar_X6_readTerms : mAr D_X6_readTerms 1 := by unfold mAr; decide +kernel
abbrev D_X6_readTerm : MD := (RX6, yX6_readTerm, cX6_readTerm, 2, (some FieldType.boolean), 2, 0, 0)
theorem md_X6_readTerm : mMd D_X6_readTerm := ⟨w_3_7, w_1_4, by decide +kernel, by decide +kernel⟩
theorem ar_X6_readTerm : mAr D_X6_readTerm 0 := by unfold mAr; decide +kernel
abbrev D_X6_readPower : MD := (RX6, yX6_readPower, cX6_readPower, 2, none, 1, 0, 0)
theorem md_X6_readPower : mMd D_X6_readPower := ⟨w_3_11, w_1_4, by decide +kernel, by decide +kernel⟩
theorem ar_X6_readPower : mAr D_X6_readPower 0 := by unfold mAr; decide +kernel
abbrev D_X6_nextLetter : MD := (RX6, yX6_nextLetter, cX6_nextLetter, 1, (some FieldType.int), 0, 0, 0)
theorem md_X6_nextLetter : mMd D_X6_nextLetter := ⟨w_3_3, w_1_4, by decide +kernel, by decide +kernel⟩
theorem ar_X6_nextLetter : mAr D_X6_nextLetter 0 := by unfold mAr; decide +kernel
abbrev D_X7_init : MD := (RX7, yX7_init, cX7_init, 1, none, 3, 66, 681)
theorem md_X7_init : mMd D_X7_init := ⟨w_1_18, w_1_1, by decide +kernel, by decide +kernel⟩
theorem ar_X7_init : mAr D_X7_init 0 := by unfold mAr; decide +kernel
abbrev D_X7_part : MD := (RX7, yX7_part, cX7_part, 6, (some FieldType.int), 3, 0, 0)
theorem md_X7_part : mMd D_X7_part := ⟨w_2_3, w_1_1, by decide +kernel, by decide +kernel⟩
theorem ar_X7_part : mAr D_X7_part 3 := by unfold mAr; decide +kernel
abbrev D_X7_gain : MD := (RX7, yX7_gain, cX7_gain, 3, (some FieldType.int), 3, 0, 0)
theorem md_X7_gain : mMd D_X7_gain := ⟨w_2_26, w_1_1, by decide +kernel, by decide +kernel⟩
theorem ar_X7_gain : mAr D_X7_gain 1 := by unfold mAr; decide +kernel
abbrev D_X7_told : MD := (RX7, yX7_told, cX7_told, 3, (some FieldType.int), 1, 0, 0)
theorem md_X7_told : mMd D_X7_told := ⟨w_2_33, w_1_1, by decide +kernel, by decide +kernel⟩
theorem ar_X7_told : mAr D_X7_told 2 := by unfold mAr; decide +kernel
abbrev D_X7_count : MD := (RX7, yX7_count, cX7_count, 2, (some FieldType.int), 1, 0, 0)
theorem md_X7_count : mMd D_X7_count := ⟨w_2_37, w_1_1, by decide +kernel, by decide +kernel⟩
theorem ar_X7_count : mAr D_X7_count 1 := by unfold mAr; decide +kernel
abbrev D_X7_roots : MD := (RX7, yX7_roots, cX7_roots, 3, (some FieldType.int), 6, 0, 0)
theorem md_X7_roots : mMd D_X7_roots := ⟨w_2_55, w_1_1, by decide +kernel, by decide +kernel⟩
theorem ar_X7_roots : mAr D_X7_roots 2 := by unfold mAr; decide +kernel
abbrev D_X7_at : MD := (RX7, yX7_at, cX7_at, 4, (some FieldType.int), 6, 0, 0)
theorem md_X7_at : mMd D_X7_at := ⟨w_2_123, w_1_1, by decide +kernel, by decide +kernel⟩
theorem ar_X7_at : mAr D_X7_at 3 := by unfold mAr; decide +kernel
abbrev D_X7_row : MD := (RX7, yX7_row, cX7_row, 6, (some FieldType.long), 4, 0, 0)
theorem md_X7_row : mMd D_X7_row := ⟨w_2_127, w_1_1, by decide +kernel, by decide +kernel⟩
theorem ar_X7_row : mAr D_X7_row 3 := by unfold mAr; decide +kernel
abbrev D_X7_rows : MD := (RX7, yX7_rows, cX7_rows, 1, (some FieldType.int), 4, 0, 0)
theorem md_X7_rows : mMd D_X7_rows := ⟨w_2_136, w_1_1, by decide +kernel, by decide +kernel⟩
theorem ar_X7_rows : mAr D_X7_rows 0 := by unfold mAr; decide +kernel
abbrev D_X7_span : MD := (RX7, yX7_span, cX7_span, 5, (some FieldType.int), 6, 0, 0)
theorem md_X7_span : mMd D_X7_span := ⟨w_2_140, w_1_1, by decide +kernel, by decide +kernel⟩
theorem ar_X7_span : mAr D_X7_span 3 := by unfold mAr; decide +kernel
abbrev D_X7_widest : MD := (RX7, yX7_widest, cX7_widest, 5, (some FieldType.int), 6, 0, 0)
theorem md_X7_widest : mMd D_X7_widest := ⟨w_2_185, w_1_1, by decide +kernel, by decide +kernel⟩
theorem ar_X7_widest : mAr D_X7_widest 3 := by unfold mAr; decide +kernel
abbrev D_X7_spans : MD := (RX7, yX7_spans, cX7_spans, 4, (some FieldType.int), 6, 0, 0)
theorem md_X7_spans : mMd D_X7_spans := ⟨w_2_189, w_1_1, by decide +kernel, by decide +kernel⟩
theorem ar_X7_spans : mAr D_X7_spans 2 := by unfold mAr; decide +kernel
abbrev D_X7_corners : MD := (RX7, yX7_corners, cX7_corners, 5, (some FieldType.int), 3, 0, 0)
theorem md_X7_corners : mMd D_X7_corners := ⟨w_2_193, w_1_1, by decide +kernel, by decide +kernel⟩
theorem ar_X7_corners : mAr D_X7_corners 1 := by unfold mAr; decide +kernel
abbrev D_X7_neighbours : MD := (RX7, yX7_neighbours, cX7_neighbours, 6, (some FieldType.int), 3, 0, 0)
theorem md_X7_neighbours : mMd D_X7_neighbours := ⟨w_2_200, w_1_1, by decide +kernel, by decide +kernel⟩
theorem ar_X7_neighbours : mAr D_X7_neighbours 1 := by unfold mAr; decide +kernel
abbrev D_X7_off : MD := (RX7, yX7_off, cX7_off, 6, (some FieldType.int), 3, 0, 0)
theorem md_X7_off : mMd D_X7_off := ⟨w_2_204, w_1_1, by decide +kernel, by decide +kernel⟩
theorem ar_X7_off : mAr D_X7_off 2 := by unfold mAr; decide +kernel
abbrev D_X7_type : MD := (RX7, yX7_type, cX7_type, 2, (some FieldType.int), 1, 0, 0)
theorem md_X7_type : mMd D_X7_type := ⟨w_2_220, w_1_1, by decide +kernel, by decide +kernel⟩
theorem ar_X7_type : mAr D_X7_type 1 := by unfold mAr; decide +kernel
abbrev D_X7_read : MD := (RX7, yX7_read, cX7_read, 2, (some FieldType.int), 5, 0, 0)
theorem md_X7_read : mMd D_X7_read := ⟨w_2_228, w_1_1, by decide +kernel, by decide +kernel⟩
theorem ar_X7_read : mAr D_X7_read 0 := by unfold mAr; decide +kernel
abbrev D_X7_drift : MD := (RX7, yX7_drift, cX7_drift, 3, (some FieldType.int), 3, 0, 0)
theorem md_X7_drift : mMd D_X7_drift := ⟨w_3_16, w_1_1, by decide +kernel, by decide +kernel⟩
theorem ar_X7_drift : mAr D_X7_drift 1 := by unfold mAr; decide +kernel
abbrev D_X7_undo : MD := (RX7, yX7_undo, cX7_undo, 1, (some FieldType.int), 3, 0, 0)
theorem md_X7_undo : mMd D_X7_undo := ⟨w_3_27, w_1_1, by decide +kernel, by decide +kernel⟩
theorem ar_X7_undo : mAr D_X7_undo 0 := by unfold mAr; decide +kernel
abbrev D_X7_seed : MD := (RX7, yX7_seed, cX7_seed, 3, (some FieldType.int), 0, 0, 0)
theorem md_X7_seed : mMd D_X7_seed := ⟨w_3_35, w_1_1, by decide +kernel, by decide +kernel⟩
theorem ar_X7_seed : mAr D_X7_seed 1 := by unfold mAr; decide +kernel
abbrev D_X7_image : MD := (RX7, yX7_image, cX7_image, 1, (some FieldType.int), 3, 0, 0)
theorem md_X7_image : mMd D_X7_image := ⟨w_3_39, w_1_1, by decide +kernel, by decide +kernel⟩
theorem ar_X7_image : mAr D_X7_image 0 := by unfold mAr; decide +kernel
abbrev D_X7_restore : MD := (RX7, yX7_restore, cX7_restore, 1, (some FieldType.int), 3, 0, 0)
theorem md_X7_restore : mMd D_X7_restore := ⟨w_3_48, w_1_1, by decide +kernel, by decide +kernel⟩
theorem ar_X7_restore : mAr D_X7_restore 0 := by unfold mAr; decide +kernel
abbrev D_X7_judged : MD := (RX7, yX7_judged, cX7_judged, 8, (some FieldType.int), 3, 0, 0)
theorem md_X7_judged : mMd D_X7_judged := ⟨w_3_52, w_1_1, by decide +kernel, by decide +kernel⟩
theorem ar_X7_judged : mAr D_X7_judged 4 := by unfold mAr; decide +kernel
abbrev D_X7_film : MD := (RX7, yX7_film, cX7_film, 7, (some FieldType.int), 2, 0, 0)
theorem md_X7_film : mMd D_X7_film := ⟨w_3_73, w_1_1, by decide +kernel, by decide +kernel⟩
theorem ar_X7_film : mAr D_X7_film 4 := by unfold mAr; decide +kernel
abbrev D_X7_sheet : MD := (RX7, yX7_sheet, cX7_sheet, 4, (some FieldType.int), 2, 0, 0)
theorem md_X7_sheet : mMd D_X7_sheet := ⟨w_3_77, w_1_1, by decide +kernel, by decide +kernel⟩
theorem ar_X7_sheet : mAr D_X7_sheet 3 := by unfold mAr; decide +kernel
abbrev D_X7_drop : MD := (RX7, yX7_drop, cX7_drop, 3, (some FieldType.int), 1, 0, 0)
theorem md_X7_drop : mMd D_X7_drop := ⟨w_3_88, w_1_1, by decide +kernel, by decide +kernel⟩
theorem ar_X7_drop : mAr D_X7_drop 1 := by unfold mAr; decide +kernel
abbrev D_X7_item : MD := (RX7, yX7_item, cX7_item, 7, (some FieldType.int), 2, 0, 0)
theorem md_X7_item : mMd D_X7_item := ⟨w_3_97, w_1_1, by decide +kernel, by decide +kernel⟩
theorem ar_X7_item : mAr D_X7_item 4 := by unfold mAr; decide +kernel
abbrev D_X7_copy : MD := (RX7, yX7_copy, cX7_copy, 6, (some FieldType.int), 1, 0, 0)
theorem md_X7_copy : mMd D_X7_copy := ⟨w_3_104, w_1_1, by decide +kernel, by decide +kernel⟩
theorem ar_X7_copy : mAr D_X7_copy 5 := by unfold mAr; decide +kernel
abbrev D_X7_countRoots : MD := (RX7, yX7_countRoots, cX7_countRoots, 4, (some FieldType.int), 5, 0, 0)
theorem md_X7_countRoots : mMd D_X7_countRoots := ⟨w_2_59, w_1_1, by decide +kernel, by decide +kernel⟩
theorem ar_X7_countRoots : mAr D_X7_countRoots 3 := by unfold mAr; decide +kernel
abbrev D_X7_bookOf : MD := (RX7, yX7_bookOf, cX7_bookOf, 3, (some (FieldType.object "LoopJudge$SpanBook")), 5, 0, 0)
theorem md_X7_bookOf : mMd D_X7_bookOf := ⟨w_2_144, w_1_1, by decide +kernel, by decide +kernel⟩
theorem ar_X7_bookOf : mAr D_X7_bookOf 1 := by unfold mAr; decide +kernel
abbrev D_X7_isChoice : MD := (RX7, yX7_isChoice, cX7_isChoice, 2, (some FieldType.boolean), 0, 0, 0)
theorem md_X7_isChoice : mMd D_X7_isChoice := ⟨w_2_6, w_1_1, by decide +kernel, by decide +kernel⟩
theorem ar_X7_isChoice : mAr D_X7_isChoice 2 := by unfold mAr; decide +kernel
abbrev D_X7_isPart : MD := (RX7, yX7_isPart, cX7_isPart, 2, (some FieldType.boolean), 0, 0, 0)
theorem md_X7_isPart : mMd D_X7_isPart := ⟨w_2_9, w_1_1, by decide +kernel, by decide +kernel⟩
theorem ar_X7_isPart : mAr D_X7_isPart 1 := by unfold mAr; decide +kernel
abbrev D_X7_isGain : MD := (RX7, yX7_isGain, cX7_isGain, 1, (some FieldType.boolean), 0, 0, 0)
theorem md_X7_isGain : mMd D_X7_isGain := ⟨w_2_29, w_1_1, by decide +kernel, by decide +kernel⟩
theorem ar_X7_isGain : mAr D_X7_isGain 1 := by unfold mAr; decide +kernel
abbrev D_X7_orNone : MD := (RX7, yX7_orNone, cX7_orNone, 1, (some FieldType.int), 0, 0, 0)
theorem md_X7_orNone : mMd D_X7_orNone := ⟨w_2_44, w_1_1, by decide +kernel, by decide +kernel⟩
theorem ar_X7_orNone : mAr D_X7_orNone 1 := by unfold mAr; decide +kernel
abbrev D_X7_degreeOf : MD := (RX7, yX7_degreeOf, cX7_degreeOf, 2, (some FieldType.int), 0, 0, 0)
theorem md_X7_degreeOf : mMd D_X7_degreeOf := ⟨w_2_51, w_1_1, by decide +kernel, by decide +kernel⟩
theorem ar_X7_degreeOf : mAr D_X7_degreeOf 1 := by unfold mAr; decide +kernel
abbrev D_X7_oddsOf : MD := (RX7, yX7_oddsOf, cX7_oddsOf, 4, (some FieldType.int), 0, 0, 0)
theorem md_X7_oddsOf : mMd D_X7_oddsOf := ⟨w_2_213, w_1_1, by decide +kernel, by decide +kernel⟩
theorem ar_X7_oddsOf : mAr D_X7_oddsOf 2 := by unfold mAr; decide +kernel
abbrev D_X7_commonDivisor : MD := (RX7, yX7_commonDivisor, cX7_commonDivisor, 11, (some FieldType.long), 0, 0, 0)
theorem md_X7_commonDivisor : mMd D_X7_commonDivisor := ⟨w_2_93, w_1_1, by decide +kernel, by decide +kernel⟩
theorem ar_X7_commonDivisor : mAr D_X7_commonDivisor 2 := by unfold mAr; decide +kernel
abbrev D_X7_cutTo : MD := (RX7, yX7_cutTo, cX7_cutTo, 3, (some FieldType.long), 0, 0, 0)
theorem md_X7_cutTo : mMd D_X7_cutTo := ⟨w_3_100, w_1_1, by decide +kernel, by decide +kernel⟩
theorem ar_X7_cutTo : mAr D_X7_cutTo 2 := by unfold mAr; decide +kernel
abbrev D_X8_init : MD := (RX8, yX8_init, cX8_init, 2, none, 1, 17, 2009)
theorem md_X8_init : mMd D_X8_init := ⟨w_3_110, w_1_9, by decide +kernel, by decide +kernel⟩
theorem ar_X8_init : mAr D_X8_init 0 := by unfold mAr; decide +kernel
abbrev D_X8_in : MD := (RX8, yX8_in, cX8_in, 6, (some FieldType.boolean), 0, 0, 0)
theorem md_X8_in : mMd D_X8_in := ⟨w_3_209, w_1_9, by decide +kernel, by decide +kernel⟩
theorem ar_X8_in : mAr D_X8_in 3 := by unfold mAr; decide +kernel
abbrev D_X8_bring : MD := (RX8, yX8_bring, cX8_bring, 6, none, 0, 0, 0)
theorem md_X8_bring : mMd D_X8_bring := ⟨w_3_219, w_1_9, by decide +kernel, by decide +kernel⟩
theorem ar_X8_bring : mAr D_X8_bring 5 := by unfold mAr; decide +kernel
abbrev D_X8_notes : MD := (RX8, yX8_notes, cX8_notes, 1, none, 1, 0, 0)
theorem md_X8_notes : mMd D_X8_notes := ⟨w_3_216, w_1_9, by decide +kernel, by decide +kernel⟩
theorem ar_X8_notes : mAr D_X8_notes 0 := by unfold mAr; decide +kernel
abbrev D_X8_degree : MD := (RX8, yX8_degree, cX8_degree, 3, (some FieldType.int), 0, 0, 0)
theorem md_X8_degree : mMd D_X8_degree := ⟨w_4_8, w_1_9, by decide +kernel, by decide +kernel⟩
theorem ar_X8_degree : mAr D_X8_degree 2 := by unfold mAr; decide +kernel
abbrev D_X8_loops : MD := (RX8, yX8_loops, cX8_loops, 3, none, 0, 0, 0)
theorem md_X8_loops : mMd D_X8_loops := ⟨w_4_4, w_1_9, by decide +kernel, by decide +kernel⟩
theorem ar_X8_loops : mAr D_X8_loops 1 := by unfold mAr; decide +kernel
abbrev D_X8_sign : MD := (RX8, yX8_sign, cX8_sign, 2, (some FieldType.int), 0, 0, 0)
theorem md_X8_sign : mMd D_X8_sign := ⟨w_4_40, w_1_9, by decide +kernel, by decide +kernel⟩
theorem ar_X8_sign : mAr D_X8_sign 1 := by unfold mAr; decide +kernel
abbrev D_X8_more : MD := (RX8, yX8_more, cX8_more, 4, none, 0, 0, 0)
theorem md_X8_more : mMd D_X8_more := ⟨w_4_48, w_1_9, by decide +kernel, by decide +kernel⟩
theorem ar_X8_more : mAr D_X8_more 3 := by unfold mAr; decide +kernel
abbrev D_X8_square : MD := (RX8, yX8_square, cX8_square, 2, none, 1, 0, 0)
theorem md_X8_square : mMd D_X8_square := ⟨w_4_44, w_1_9, by decide +kernel, by decide +kernel⟩
theorem ar_X8_square : mAr D_X8_square 1 := by unfold mAr; decide +kernel
abbrev D_X8_squares : MD := (RX8, yX8_squares, cX8_squares, 9, none, 2, 0, 0)
theorem md_X8_squares : mMd D_X8_squares := ⟨w_4_37, w_1_9, by decide +kernel, by decide +kernel⟩
theorem ar_X8_squares : mAr D_X8_squares 3 := by unfold mAr; decide +kernel
abbrev D_X8_two : MD := (RX8, yX8_two, cX8_two, 8, none, 1, 0, 0)
theorem md_X8_two : mMd D_X8_two := ⟨w_4_52, w_1_9, by decide +kernel, by decide +kernel⟩
theorem ar_X8_two : mAr D_X8_two 3 := by unfold mAr; decide +kernel
abbrev D_X8_passes : MD := (RX8, yX8_passes, cX8_passes, 2, none, 0, 0, 0)
theorem md_X8_passes : mMd D_X8_passes := ⟨w_4_64, w_1_9, by decide +kernel, by decide +kernel⟩
theorem ar_X8_passes : mAr D_X8_passes 1 := by unfold mAr; decide +kernel
abbrev D_X8_three : MD := (RX8, yX8_three, cX8_three, 11, none, 1, 0, 0)
theorem md_X8_three : mMd D_X8_three := ⟨w_4_60, w_1_9, by decide +kernel, by decide +kernel⟩
theorem ar_X8_three : mAr D_X8_three 4 := by unfold mAr; decide +kernel
abbrev D_X8_four : MD := (RX8, yX8_four, cX8_four, 5, none, 1, 0, 0)
theorem md_X8_four : mMd D_X8_four := ⟨w_4_68, w_1_9, by decide +kernel, by decide +kernel⟩
theorem ar_X8_four : mAr D_X8_four 0 := by unfold mAr; decide +kernel
abbrev D_X8_apart : MD := (RX8, yX8_apart, cX8_apart, 4, none, 2, 0, 0)
theorem md_X8_apart : mMd D_X8_apart := ⟨w_4_56, w_1_9, by decide +kernel, by decide +kernel⟩
theorem ar_X8_apart : mAr D_X8_apart 1 := by unfold mAr; decide +kernel
abbrev D_X8_counts : MD := (RX8, yX8_counts, cX8_counts, 5, none, 3, 0, 0)
theorem md_X8_counts : mMd D_X8_counts := ⟨w_4_33, w_1_9, by decide +kernel, by decide +kernel⟩
theorem ar_X8_counts : mAr D_X8_counts 0 := by unfold mAr; decide +kernel
abbrev D_X8_multiplies : MD := (RX8, yX8_multiplies, cX8_multiplies, 3, none, 0, 0, 0)
theorem md_X8_multiplies : mMd D_X8_multiplies := ⟨w_4_29, w_1_9, by decide +kernel, by decide +kernel⟩
theorem ar_X8_multiplies : mAr D_X8_multiplies 1 := by unfold mAr; decide +kernel
abbrev D_X8_turns : MD := (RX8, yX8_turns, cX8_turns, 4, none, 1, 0, 0)
theorem md_X8_turns : mMd D_X8_turns := ⟨w_4_25, w_1_9, by decide +kernel, by decide +kernel⟩
theorem ar_X8_turns : mAr D_X8_turns 1 := by unfold mAr; decide +kernel
abbrev D_X8_countsBy : MD := (RX8, yX8_countsBy, cX8_countsBy, 4, (some FieldType.int), 4, 0, 0)
theorem md_X8_countsBy : mMd D_X8_countsBy := ⟨w_4_21, w_1_9, by decide +kernel, by decide +kernel⟩
theorem ar_X8_countsBy : mAr D_X8_countsBy 1 := by unfold mAr; decide +kernel
abbrev D_X8_isSteady : MD := (RX8, yX8_isSteady, cX8_isSteady, 3, (some FieldType.boolean), 5, 0, 0)
theorem md_X8_isSteady : mMd D_X8_isSteady := ⟨w_4_114, w_1_9, by decide +kernel, by decide +kernel⟩
theorem ar_X8_isSteady : mAr D_X8_isSteady 1 := by unfold mAr; decide +kernel
abbrev D_X8_isPart : MD := (RX8, yX8_isPart, cX8_isPart, 2, (some FieldType.boolean), 1, 0, 0)
theorem md_X8_isPart : mMd D_X8_isPart := ⟨w_3_206, w_1_9, by decide +kernel, by decide +kernel⟩
theorem ar_X8_isPart : mAr D_X8_isPart 2 := by unfold mAr; decide +kernel
abbrev D_X8_part : MD := (RX8, yX8_part, cX8_part, 5, (some FieldType.int), 2, 0, 0)
theorem md_X8_part : mMd D_X8_part := ⟨w_3_203, w_1_9, by decide +kernel, by decide +kernel⟩
theorem ar_X8_part : mAr D_X8_part 3 := by unfold mAr; decide +kernel
abbrev D_X8_isGain : MD := (RX8, yX8_isGain, cX8_isGain, 1, (some FieldType.boolean), 1, 0, 0)
theorem md_X8_isGain : mMd D_X8_isGain := ⟨w_3_226, w_1_9, by decide +kernel, by decide +kernel⟩
theorem ar_X8_isGain : mAr D_X8_isGain 1 := by unfold mAr; decide +kernel
abbrev D_X8_gain : MD := (RX8, yX8_gain, cX8_gain, 3, (some FieldType.int), 2, 0, 0)
theorem md_X8_gain : mMd D_X8_gain := ⟨w_3_223, w_1_9, by decide +kernel, by decide +kernel⟩
theorem ar_X8_gain : mAr D_X8_gain 1 := by unfold mAr; decide +kernel
abbrev D_X8_told : MD := (RX8, yX8_told, cX8_told, 3, (some FieldType.int), 2, 0, 0)
theorem md_X8_told : mMd D_X8_told := ⟨w_3_232, w_1_9, by decide +kernel, by decide +kernel⟩
theorem ar_X8_told : mAr D_X8_told 2 := by unfold mAr; decide +kernel
abbrev D_X8_degreeOf : MD := (RX8, yX8_degreeOf, cX8_degreeOf, 3, (some FieldType.int), 0, 0, 0)
theorem md_X8_degreeOf : mMd D_X8_degreeOf := ⟨w_4_0, w_1_9, by decide +kernel, by decide +kernel⟩
theorem ar_X8_degreeOf : mAr D_X8_degreeOf 1 := by unfold mAr; decide +kernel
abbrev D_X8_count : MD := (RX8, yX8_count, cX8_count, 2, (some FieldType.int), 1, 0, 0)
theorem md_X8_count : mMd D_X8_count := ⟨w_3_236, w_1_9, by decide +kernel, by decide +kernel⟩
theorem ar_X8_count : mAr D_X8_count 1 := by unfold mAr; decide +kernel
abbrev D_X8_roots : MD := (RX8, yX8_roots, cX8_roots, 3, (some FieldType.int), 6, 0, 0)
theorem md_X8_roots : mMd D_X8_roots := ⟨w_4_12, w_1_9, by decide +kernel, by decide +kernel⟩
theorem ar_X8_roots : mAr D_X8_roots 2 := by unfold mAr; decide +kernel
abbrev D_X8_at : MD := (RX8, yX8_at, cX8_at, 5, (some FieldType.int), 5, 0, 0)
theorem md_X8_at : mMd D_X8_at := ⟨w_4_16, w_1_9, by decide +kernel, by decide +kernel⟩
theorem ar_X8_at : mAr D_X8_at 3 := by unfold mAr; decide +kernel
abbrev D_X8_divisor : MD := (RX8, yX8_divisor, cX8_divisor, 10, (some FieldType.long), 0, 0, 0)
theorem md_X8_divisor : mMd D_X8_divisor := ⟨w_4_93, w_1_9, by decide +kernel, by decide +kernel⟩
theorem ar_X8_divisor : mAr D_X8_divisor 2 := by unfold mAr; decide +kernel
abbrev D_X8_shortens : MD := (RX8, yX8_shortens, cX8_shortens, 4, none, 1, 0, 0)
theorem md_X8_shortens : mMd D_X8_shortens := ⟨w_4_90, w_1_9, by decide +kernel, by decide +kernel⟩
theorem ar_X8_shortens : mAr D_X8_shortens 0 := by unfold mAr; decide +kernel
abbrev D_X8_divides : MD := (RX8, yX8_divides, cX8_divides, 9, none, 2, 0, 0)
theorem md_X8_divides : mMd D_X8_divides := ⟨w_4_86, w_1_9, by decide +kernel, by decide +kernel⟩
theorem ar_X8_divides : mAr D_X8_divides 1 := by unfold mAr; decide +kernel
abbrev D_X8_addsRow : MD := (RX8, yX8_addsRow, cX8_addsRow, 2, none, 0, 0, 0)
theorem md_X8_addsRow : mMd D_X8_addsRow := ⟨w_4_82, w_1_9, by decide +kernel, by decide +kernel⟩
theorem ar_X8_addsRow : mAr D_X8_addsRow 0 := by unfold mAr; decide +kernel
abbrev D_X8_laysRows : MD := (RX8, yX8_laysRows, cX8_laysRows, 4, none, 3, 0, 0)
theorem md_X8_laysRows : mMd D_X8_laysRows := ⟨w_4_78, w_1_9, by decide +kernel, by decide +kernel⟩
theorem ar_X8_laysRows : mAr D_X8_laysRows 0 := by unfold mAr; decide +kernel
abbrev D_X8_row : MD := (RX8, yX8_row, cX8_row, 6, (some FieldType.long), 4, 0, 0)
theorem md_X8_row : mMd D_X8_row := ⟨w_4_73, w_1_9, by decide +kernel, by decide +kernel⟩
theorem ar_X8_row : mAr D_X8_row 3 := by unfold mAr; decide +kernel
abbrev D_X8_rows : MD := (RX8, yX8_rows, cX8_rows, 1, (some FieldType.int), 4, 0, 0)
theorem md_X8_rows : mMd D_X8_rows := ⟨w_4_99, w_1_9, by decide +kernel, by decide +kernel⟩
theorem ar_X8_rows : mAr D_X8_rows 0 := by unfold mAr; decide +kernel
abbrev D_X8_laysSpans : MD := (RX8, yX8_laysSpans, cX8_laysSpans, 6, (some FieldType.int), 6, 0, 0)
theorem md_X8_laysSpans : mMd D_X8_laysSpans := ⟨w_4_110, w_1_9, by decide +kernel, by decide +kernel⟩
theorem ar_X8_laysSpans : mAr D_X8_laysSpans 1 := by unfold mAr; decide +kernel
abbrev D_X8_isAsk : MD := (RX8, yX8_isAsk, cX8_isAsk, 3, (some FieldType.boolean), 1, 0, 0)
theorem md_X8_isAsk : mMd D_X8_isAsk := ⟨w_4_106, w_1_9, by decide +kernel, by decide +kernel⟩
theorem ar_X8_isAsk : mAr D_X8_isAsk 3 := by unfold mAr; decide +kernel
abbrev D_X8_span : MD := (RX8, yX8_span, cX8_span, 4, (some FieldType.int), 7, 0, 0)
theorem md_X8_span : mMd D_X8_span := ⟨w_4_103, w_1_9, by decide +kernel, by decide +kernel⟩
theorem ar_X8_span : mAr D_X8_span 3 := by unfold mAr; decide +kernel
abbrev D_X8_widest : MD := (RX8, yX8_widest, cX8_widest, 8, (some FieldType.int), 7, 0, 0)
theorem md_X8_widest : mMd D_X8_widest := ⟨w_4_118, w_1_9, by decide +kernel, by decide +kernel⟩
theorem ar_X8_widest : mAr D_X8_widest 3 := by unfold mAr; decide +kernel
abbrev D_X8_spans : MD := (RX8, yX8_spans, cX8_spans, 4, (some FieldType.int), 7, 0, 0)
theorem md_X8_spans : mMd D_X8_spans := ⟨w_4_122, w_1_9, by decide +kernel, by decide +kernel⟩
theorem ar_X8_spans : mAr D_X8_spans 2 := by unfold mAr; decide +kernel
abbrev D_X8_corners : MD := (RX8, yX8_corners, cX8_corners, 6, (some FieldType.int), 6, 0, 0)
theorem md_X8_corners : mMd D_X8_corners := ⟨w_4_126, w_1_9, by decide +kernel, by decide +kernel⟩
theorem ar_X8_corners : mAr D_X8_corners 1 := by unfold mAr; decide +kernel
abbrev D_X8_neighbours : MD := (RX8, yX8_neighbours, cX8_neighbours, 6, (some FieldType.int), 6, 0, 0)
theorem md_X8_neighbours : mMd D_X8_neighbours := ⟨w_4_130, w_1_9, by decide +kernel, by decide +kernel⟩
theorem ar_X8_neighbours : mAr D_X8_neighbours 1 := by unfold mAr; decide +kernel
abbrev D_X8_off : MD := (RX8, yX8_off, cX8_off, 7, (some FieldType.int), 6, 0, 0)
theorem md_X8_off : mMd D_X8_off := ⟨w_4_134, w_1_9, by decide +kernel, by decide +kernel⟩
theorem ar_X8_off : mAr D_X8_off 2 := by unfold mAr; decide +kernel
abbrev D_X8_type : MD := (RX8, yX8_type, cX8_type, 2, (some FieldType.int), 1, 0, 0)
theorem md_X8_type : mMd D_X8_type := ⟨w_4_141, w_1_9, by decide +kernel, by decide +kernel⟩
theorem ar_X8_type : mAr D_X8_type 1 := by unfold mAr; decide +kernel
abbrev D_X8_looks : MD := (RX8, yX8_looks, cX8_looks, 1, (some FieldType.int), 0, 0, 0)
theorem md_X8_looks : mMd D_X8_looks := ⟨w_4_155, w_1_9, by decide +kernel, by decide +kernel⟩
theorem ar_X8_looks : mAr D_X8_looks 0 := by unfold mAr; decide +kernel
abbrev D_X8_goesBy : MD := (RX8, yX8_goesBy, cX8_goesBy, 2, (some FieldType.boolean), 0, 0, 0)
theorem md_X8_goesBy : mMd D_X8_goesBy := ⟨w_4_159, w_1_9, by decide +kernel, by decide +kernel⟩
theorem ar_X8_goesBy : mAr D_X8_goesBy 1 := by unfold mAr; decide +kernel
abbrev D_X8_term : MD := (RX8, yX8_term, cX8_term, 10, (some FieldType.int), 1, 0, 0)
theorem md_X8_term : mMd D_X8_term := ⟨w_4_163, w_1_9, by decide +kernel, by decide +kernel⟩
theorem ar_X8_term : mAr D_X8_term 3 := by unfold mAr; decide +kernel
abbrev D_X8_terms : MD := (RX8, yX8_terms, cX8_terms, 4, none, 2, 0, 0)
theorem md_X8_terms : mMd D_X8_terms := ⟨w_4_151, w_1_9, by decide +kernel, by decide +kernel⟩
theorem ar_X8_terms : mAr D_X8_terms 1 := by unfold mAr; decide +kernel
abbrev D_X8_read : MD := (RX8, yX8_read, cX8_read, 2, (some FieldType.int), 3, 0, 0)
theorem md_X8_read : mMd D_X8_read := ⟨w_4_147, w_1_9, by decide +kernel, by decide +kernel⟩
theorem ar_X8_read : mAr D_X8_read 0 := by unfold mAr; decide +kernel
abbrev D_X8_drift : MD := (RX8, yX8_drift, cX8_drift, 6, (some FieldType.int), 2, 0, 0)
theorem md_X8_drift : mMd D_X8_drift := ⟨w_4_171, w_1_9, by decide +kernel, by decide +kernel⟩
theorem ar_X8_drift : mAr D_X8_drift 1 := by unfold mAr; decide +kernel
abbrev D_X8_undo : MD := (RX8, yX8_undo, cX8_undo, 1, (some FieldType.int), 1, 0, 0)
theorem md_X8_undo : mMd D_X8_undo := ⟨w_4_180, w_1_9, by decide +kernel, by decide +kernel⟩
theorem ar_X8_undo : mAr D_X8_undo 0 := by unfold mAr; decide +kernel
abbrev D_X8_seed : MD := (RX8, yX8_seed, cX8_seed, 3, (some FieldType.int), 0, 0, 0)
theorem md_X8_seed : mMd D_X8_seed := ⟨w_4_184, w_1_9, by decide +kernel, by decide +kernel⟩
theorem ar_X8_seed : mAr D_X8_seed 1 := by unfold mAr; decide +kernel
abbrev D_X8_image : MD := (RX8, yX8_image, cX8_image, 1, (some FieldType.int), 1, 0, 0)
theorem md_X8_image : mMd D_X8_image := ⟨w_4_188, w_1_9, by decide +kernel, by decide +kernel⟩
theorem ar_X8_image : mAr D_X8_image 0 := by unfold mAr; decide +kernel
abbrev D_X8_restore : MD := (RX8, yX8_restore, cX8_restore, 1, (some FieldType.int), 1, 0, 0)
theorem md_X8_restore : mMd D_X8_restore := ⟨w_4_192, w_1_9, by decide +kernel, by decide +kernel⟩
theorem ar_X8_restore : mAr D_X8_restore 0 := by unfold mAr; decide +kernel
abbrev D_X8_isSheet : MD := (RX8, yX8_isSheet, cX8_isSheet, 2, (some FieldType.boolean), 1, 0, 0)
theorem md_X8_isSheet : mMd D_X8_isSheet := ⟨w_4_199, w_1_9, by decide +kernel, by decide +kernel⟩
theorem ar_X8_isSheet : mAr D_X8_isSheet 2 := by unfold mAr; decide +kernel
abbrev D_X8_found : MD := (RX8, yX8_found, cX8_found, 5, (some FieldType.int), 0, 0, 0)
theorem md_X8_found : mMd D_X8_found := ⟨w_4_203, w_1_9, by decide +kernel, by decide +kernel⟩
theorem ar_X8_found : mAr D_X8_found 4 := by unfold mAr; decide +kernel
abbrev D_X8_judged : MD := (RX8, yX8_judged, cX8_judged, 11, (some FieldType.int), 6, 0, 0)
theorem md_X8_judged : mMd D_X8_judged := ⟨w_4_196, w_1_9, by decide +kernel, by decide +kernel⟩
theorem ar_X8_judged : mAr D_X8_judged 4 := by unfold mAr; decide +kernel
abbrev D_X8_film : MD := (RX8, yX8_film, cX8_film, 7, (some FieldType.int), 2, 0, 0)
theorem md_X8_film : mMd D_X8_film := ⟨w_4_207, w_1_9, by decide +kernel, by decide +kernel⟩
theorem ar_X8_film : mAr D_X8_film 4 := by unfold mAr; decide +kernel
abbrev D_X8_lowest : MD := (RX8, yX8_lowest, cX8_lowest, 3, (some FieldType.long), 0, 0, 0)
theorem md_X8_lowest : mMd D_X8_lowest := ⟨w_4_222, w_1_9, by decide +kernel, by decide +kernel⟩
theorem ar_X8_lowest : mAr D_X8_lowest 2 := by unfold mAr; decide +kernel
abbrev D_X8_sheet : MD := (RX8, yX8_sheet, cX8_sheet, 5, (some FieldType.int), 2, 0, 0)
theorem md_X8_sheet : mMd D_X8_sheet := ⟨w_4_211, w_1_9, by decide +kernel, by decide +kernel⟩
theorem ar_X8_sheet : mAr D_X8_sheet 3 := by unfold mAr; decide +kernel
abbrev D_X8_drop : MD := (RX8, yX8_drop, cX8_drop, 2, (some FieldType.int), 1, 0, 0)
theorem md_X8_drop : mMd D_X8_drop := ⟨w_4_215, w_1_9, by decide +kernel, by decide +kernel⟩
theorem ar_X8_drop : mAr D_X8_drop 1 := by unfold mAr; decide +kernel
abbrev D_X8_item : MD := (RX8, yX8_item, cX8_item, 7, (some FieldType.int), 2, 0, 0)
theorem md_X8_item : mMd D_X8_item := ⟨w_4_219, w_1_9, by decide +kernel, by decide +kernel⟩
theorem ar_X8_item : mAr D_X8_item 4 := by unfold mAr; decide +kernel
abbrev D_X8_copy : MD := (RX8, yX8_copy, cX8_copy, 9, (some FieldType.int), 1, 0, 0)
theorem md_X8_copy : mMd D_X8_copy := ⟨w_4_226, w_1_9, by decide +kernel, by decide +kernel⟩
theorem ar_X8_copy : mAr D_X8_copy 5 := by unfold mAr; decide +kernel
abbrev D_J6_bitCount_0f7a4 : MD := (RJ6, yJ6_bitCount_0f7a4, cJ6_bitCount_0f7a4, 1, (some FieldType.int), 0, 0, 0)
theorem md_J6_bitCount_0f7a4 : mMd D_J6_bitCount_0f7a4 := ⟨w_2_207, w_1_12, by decide +kernel, by decide +kernel⟩
theorem ar_J6_bitCount_0f7a4 : mAr D_J6_bitCount_0f7a4 1 := by unfold mAr; decide +kernel
abbrev D_J9_abs_067f4 : MD := (RJ9, yJ9_abs_067f4, cJ9_abs_067f4, 2, (some FieldType.long), 0, 0, 0)
theorem md_J9_abs_067f4 : mMd D_J9_abs_067f4 := ⟨w_2_87, w_1_11, by decide +kernel, by decide +kernel⟩
theorem ar_J9_abs_067f4 : mAr D_J9_abs_067f4 1 := by unfold mAr; decide +kernel
abbrev D_J7_fill_d0a16 : MD := (RJ7, yJ7_fill_d0a16, cJ7_fill_d0a16, 5, none, 0, 0, 0)
theorem md_J7_fill_d0a16 : mMd D_J7_fill_d0a16 := ⟨w_3_84, w_1_13, by decide +kernel, by decide +kernel⟩
theorem ar_J7_fill_d0a16 : mAr D_J7_fill_d0a16 2 := by unfold mAr; decide +kernel
abbrev D_J7_fill_53178 : MD := (RJ7, yJ7_fill_53178, cJ7_fill_53178, 4, none, 0, 0, 0)
theorem md_J7_fill_53178 : mMd D_J7_fill_53178 := ⟨w_2_235, w_1_13, by decide +kernel, by decide +kernel⟩
theorem ar_J7_fill_53178 : mAr D_J7_fill_53178 2 := by unfold mAr; decide +kernel
abbrev D_L_law : MD := (RL, yL_law, code, 4, some .boolean, 10, 600000, 7302249)
theorem lk_X7_3 : Cond.methodLink RX7 3 Lib.objectInit ∈ TB ∧ Cond.instanceMethod Lib.objectInit ∈ TB ∧ Cond.code Lib.objectInit ⟨#[0xb1]⟩ 1 none ∈ TB := ⟨w_1_19, w_1_20, w_1_21⟩
theorem lk_X7_11 : Cond.methodLink RX7 11 yX3_init ∈ TB ∧ Cond.instanceMethod yX3_init ∈ TB ∧ yX3_init.name = "<init>" ∧ mMd D_X3_init := ⟨w_1_24, w_1_25, rfl, md_X3_init⟩
theorem lk_X7_16 : Cond.methodLink RX7 16 yX3_begin ∈ TB ∧ Cond.instanceMethod yX3_begin ∈ TB ∧ Cond.selects yX3_begin.cls yX3_begin yX3_begin ∈ TB ∧ mMd D_X3_begin := ⟨w_1_43, w_1_44, w_1_45, md_X3_begin⟩
theorem lk_X7_21 : Cond.methodLink RX7 21 yX2_init ∈ TB ∧ Cond.instanceMethod yX2_init ∈ TB ∧ yX2_init.name = "<init>" ∧ mMd D_X2_init := ⟨w_1_49, w_1_50, rfl, md_X2_init⟩
theorem lk_X7_38 : Cond.methodLink RX7 38 yX6_init ∈ TB ∧ Cond.instanceMethod yX6_init ∈ TB ∧ yX6_init.name = "<init>" ∧ mMd D_X6_init := ⟨w_1_69, w_1_70, rfl, md_X6_init⟩
theorem lk_X7_45 : Cond.methodLink RX7 45 yX4_init ∈ TB ∧ Cond.instanceMethod yX4_init ∈ TB ∧ yX4_init.name = "<init>" ∧ mMd D_X4_init := ⟨w_1_101, w_1_102, rfl, md_X4_init⟩
theorem lk_X7_52 : Cond.methodLink RX7 52 yX1_init ∈ TB ∧ Cond.instanceMethod yX1_init ∈ TB ∧ yX1_init.name = "<init>" ∧ mMd D_X1_init := ⟨w_1_123, w_1_124, rfl, md_X1_init⟩
theorem lk_X7_59 : Cond.methodLink RX7 59 yX5_init ∈ TB ∧ Cond.instanceMethod yX5_init ∈ TB ∧ yX5_init.name = "<init>" ∧ mMd D_X5_init := ⟨w_1_171, w_1_172, rfl, md_X5_init⟩
theorem lk_X7_73 : Cond.methodLink RX7 73 yX7_isChoice ∈ TB ∧ Cond.static yX7_isChoice ∈ TB ∧ mMd D_X7_isChoice := ⟨w_2_4, w_2_5, md_X7_isChoice⟩
theorem lk_X7_77 : Cond.methodLink RX7 77 yX7_isPart ∈ TB ∧ Cond.static yX7_isPart ∈ TB ∧ mMd D_X7_isPart := ⟨w_2_7, w_2_8, md_X7_isPart⟩
theorem lk_X7_85 : Cond.methodLink RX7 85 yX2_keep ∈ TB ∧ Cond.instanceMethod yX2_keep ∈ TB ∧ Cond.selects yX2_keep.cls yX2_keep yX2_keep ∈ TB ∧ mMd D_X2_keep := ⟨w_2_12, w_2_13, w_2_14, md_X2_keep⟩
theorem lk_X7_89 : Cond.methodLink RX7 89 yX7_isGain ∈ TB ∧ Cond.static yX7_isGain ∈ TB ∧ mMd D_X7_isGain := ⟨w_2_27, w_2_28, md_X7_isGain⟩
theorem lk_X7_97 : Cond.methodLink RX7 97 yX3_degreeTold ∈ TB ∧ Cond.instanceMethod yX3_degreeTold ∈ TB ∧ Cond.selects yX3_degreeTold.cls yX3_degreeTold yX3_degreeTold ∈ TB ∧ mMd D_X3_degreeTold := ⟨w_2_38, w_2_39, w_2_40, md_X3_degreeTold⟩
theorem lk_X7_101 : Cond.methodLink RX7 101 yX7_orNone ∈ TB ∧ Cond.static yX7_orNone ∈ TB ∧ mMd D_X7_orNone := ⟨w_2_42, w_2_43, md_X7_orNone⟩
theorem lk_X7_104 : Cond.methodLink RX7 104 yX3_fillLoop ∈ TB ∧ Cond.instanceMethod yX3_fillLoop ∈ TB ∧ Cond.selects yX3_fillLoop.cls yX3_fillLoop yX3_fillLoop ∈ TB ∧ mMd D_X3_fillLoop := ⟨w_2_45, w_2_46, w_2_47, md_X3_fillLoop⟩
theorem lk_X7_108 : Cond.methodLink RX7 108 yX7_degreeOf ∈ TB ∧ Cond.static yX7_degreeOf ∈ TB ∧ mMd D_X7_degreeOf := ⟨w_2_49, w_2_50, md_X7_degreeOf⟩
theorem lk_X7_115 : Cond.methodLink RX7 115 yX7_countRoots ∈ TB ∧ Cond.instanceMethod yX7_countRoots ∈ TB ∧ Cond.selects yX7_countRoots.cls yX7_countRoots yX7_countRoots ∈ TB ∧ mMd D_X7_countRoots := ⟨w_2_56, w_2_58, ws_X7_countRoots, md_X7_countRoots⟩
theorem lk_X7_125 : Cond.methodLink RX7 125 yX0_fill ∈ TB ∧ Cond.instanceMethod yX0_fill ∈ TB ∧ Cond.selects yX0_fill.cls yX0_fill yX0_fill ∈ TB ∧ mMd D_X0_fill := ⟨w_2_129, w_2_65, w_2_66, md_X0_fill⟩
theorem lk_X7_140 : Cond.methodLink RX7 140 yJ9_abs_067f4 ∈ TB ∧ Cond.static yJ9_abs_067f4 ∈ TB ∧ mMd D_J9_abs_067f4 := ⟨w_2_131, w_2_86, md_J9_abs_067f4⟩
theorem lk_X7_148 : Cond.methodLink RX7 148 yX7_bookOf ∈ TB ∧ Cond.instanceMethod yX7_bookOf ∈ TB ∧ Cond.selects yX7_bookOf.cls yX7_bookOf yX7_bookOf ∈ TB ∧ mMd D_X7_bookOf := ⟨w_2_141, w_2_143, ws_X7_bookOf, md_X7_bookOf⟩
theorem lk_X7_153 : Cond.methodLink RX7 153 yX5_endOf ∈ TB ∧ Cond.instanceMethod yX5_endOf ∈ TB ∧ Cond.selects yX5_endOf.cls yX5_endOf yX5_endOf ∈ TB ∧ mMd D_X5_endOf := ⟨w_2_178, w_2_179, w_2_180, md_X5_endOf⟩
theorem lk_X7_166 : Cond.methodLink RX7 166 yX1_isSteady ∈ TB ∧ Cond.instanceMethod yX1_isSteady ∈ TB ∧ Cond.selects yX1_isSteady.cls yX1_isSteady yX1_isSteady ∈ TB ∧ mMd D_X1_isSteady := ⟨w_2_196, w_2_160, w_2_161, md_X1_isSteady⟩
theorem lk_X7_170 : Cond.methodLink RX7 170 yJ6_bitCount_0f7a4 ∈ TB ∧ Cond.static yJ6_bitCount_0f7a4 ∈ TB ∧ mMd D_J6_bitCount_0f7a4 := ⟨w_2_205, w_2_206, md_J6_bitCount_0f7a4⟩
theorem lk_X7_175 : Cond.methodLink RX7 175 yX7_oddsOf ∈ TB ∧ Cond.static yX7_oddsOf ∈ TB ∧ mMd D_X7_oddsOf := ⟨w_2_211, w_2_212, md_X7_oddsOf⟩
theorem lk_X7_180 : Cond.methodLink RX7 180 yX7_commonDivisor ∈ TB ∧ Cond.static yX7_commonDivisor ∈ TB ∧ mMd D_X7_commonDivisor := ⟨w_2_215, w_2_92, md_X7_commonDivisor⟩
theorem lk_X7_185 : Cond.methodLink RX7 185 yX6_append ∈ TB ∧ Cond.instanceMethod yX6_append ∈ TB ∧ Cond.selects yX6_append.cls yX6_append yX6_append ∈ TB ∧ mMd D_X6_append := ⟨w_2_221, w_2_222, w_2_223, md_X6_append⟩
theorem lk_X7_189 : Cond.methodLink RX7 189 yX6_readText ∈ TB ∧ Cond.instanceMethod yX6_readText ∈ TB ∧ Cond.selects yX6_readText.cls yX6_readText yX6_readText ∈ TB ∧ mMd D_X6_readText := ⟨w_2_229, w_2_230, w_2_231, md_X6_readText⟩
theorem lk_X7_197 : Cond.methodLink RX7 197 arraycopyName ∈ TB ∧ Cond.native arraycopyName ∈ TB ∧ Cond.static arraycopyName ∈ TB ∧ Cond.initialized "java/lang/System" ∈ TB := ⟨w_3_12, w_2_22, w_2_21, w_1_10⟩
theorem lk_X7_203 : Cond.methodLink RX7 203 yX3_drawOnce ∈ TB ∧ Cond.instanceMethod yX3_drawOnce ∈ TB ∧ Cond.selects yX3_drawOnce.cls yX3_drawOnce yX3_drawOnce ∈ TB ∧ mMd D_X3_drawOnce := ⟨w_3_17, w_3_18, w_3_19, md_X3_drawOnce⟩
theorem lk_X7_206 : Cond.methodLink RX7 206 yX2_giveBack ∈ TB ∧ Cond.instanceMethod yX2_giveBack ∈ TB ∧ Cond.selects yX2_giveBack.cls yX2_giveBack yX2_giveBack ∈ TB ∧ mMd D_X2_giveBack := ⟨w_3_28, w_3_29, w_3_30, md_X2_giveBack⟩
theorem lk_X7_212 : Cond.methodLink RX7 212 yX3_become ∈ TB ∧ Cond.instanceMethod yX3_become ∈ TB ∧ Cond.selects yX3_become.cls yX3_become yX3_become ∈ TB ∧ mMd D_X3_become := ⟨w_3_40, w_2_17, w_2_18, md_X3_become⟩
theorem lk_X7_215 : Cond.methodLink RX7 215 yX2_become ∈ TB ∧ Cond.instanceMethod yX2_become ∈ TB ∧ Cond.selects yX2_become.cls yX2_become yX2_become ∈ TB ∧ mMd D_X2_become := ⟨w_3_41, w_3_42, w_3_43, md_X2_become⟩
theorem lk_X7_218 : Cond.methodLink RX7 218 yX4_refusal ∈ TB ∧ Cond.instanceMethod yX4_refusal ∈ TB ∧ Cond.selects yX4_refusal.cls yX4_refusal yX4_refusal ∈ TB ∧ mMd D_X4_refusal := ⟨w_3_53, w_3_54, w_3_55, md_X4_refusal⟩
theorem lk_X7_222 : Cond.methodLink RX7 222 yX4_holdsParts ∈ TB ∧ Cond.instanceMethod yX4_holdsParts ∈ TB ∧ Cond.selects yX4_holdsParts.cls yX4_holdsParts yX4_holdsParts ∈ TB ∧ mMd D_X4_holdsParts := ⟨w_3_65, w_3_66, w_3_67, md_X4_holdsParts⟩
theorem lk_X7_229 : Cond.methodLink RX7 229 yX4_renew ∈ TB ∧ Cond.instanceMethod yX4_renew ∈ TB ∧ Cond.selects yX4_renew.cls yX4_renew yX4_renew ∈ TB ∧ mMd D_X4_renew := ⟨w_3_78, w_3_79, w_3_80, md_X4_renew⟩
theorem lk_X7_233 : Cond.methodLink RX7 233 yX4_isMissing ∈ TB ∧ Cond.instanceMethod yX4_isMissing ∈ TB ∧ Cond.selects yX4_isMissing.cls yX4_isMissing yX4_isMissing ∈ TB ∧ mMd D_X4_isMissing := ⟨w_3_89, w_3_58, w_3_59, md_X4_isMissing⟩
theorem lk_X7_239 : Cond.methodLink RX7 239 yX4_remove ∈ TB ∧ Cond.instanceMethod yX4_remove ∈ TB ∧ Cond.selects yX4_remove.cls yX4_remove yX4_remove ∈ TB ∧ mMd D_X4_remove := ⟨w_3_90, w_3_91, w_3_92, md_X4_remove⟩
theorem lk_X7_242 : Cond.methodLink RX7 242 yX7_cutTo ∈ TB ∧ Cond.static yX7_cutTo ∈ TB ∧ mMd D_X7_cutTo := ⟨w_3_98, w_3_99, md_X7_cutTo⟩
theorem lk_X7_249 : Cond.methodLink RX7 249 yX4_hasItems ∈ TB ∧ Cond.instanceMethod yX4_hasItems ∈ TB ∧ Cond.selects yX4_hasItems.cls yX4_hasItems yX4_hasItems ∈ TB ∧ mMd D_X4_hasItems := ⟨w_3_105, w_3_62, w_3_63, md_X4_hasItems⟩
theorem lk_X7_252 : Cond.methodLink RX7 252 yX1_countRootsOf ∈ TB ∧ Cond.instanceMethod yX1_countRootsOf ∈ TB ∧ Cond.selects yX1_countRootsOf.cls yX1_countRootsOf yX1_countRootsOf ∈ TB ∧ mMd D_X1_countRootsOf := ⟨w_2_60, w_2_61, w_2_62, md_X1_countRootsOf⟩
theorem lk_X7_265 : Cond.methodLink RX7 265 yX5_refresh ∈ TB ∧ Cond.instanceMethod yX5_refresh ∈ TB ∧ Cond.selects yX5_refresh.cls yX5_refresh yX5_refresh ∈ TB ∧ mMd D_X5_refresh := ⟨w_2_145, w_2_146, w_2_147, md_X5_refresh⟩
theorem lk_X0_3 : Cond.methodLink RX0 3 Lib.objectInit ∈ TB ∧ Cond.instanceMethod Lib.objectInit ∈ TB ∧ Cond.code Lib.objectInit ⟨#[0xb1]⟩ 1 none ∈ TB := ⟨w_1_132, w_1_20, w_1_21⟩
theorem lk_X0_28 : Cond.methodLink RX0 28 yX0_addHalf ∈ TB ∧ Cond.instanceMethod yX0_addHalf ∈ TB ∧ Cond.selects yX0_addHalf.cls yX0_addHalf yX0_addHalf ∈ TB ∧ mMd D_X0_addHalf := ⟨w_2_69, w_2_71, ws_X0_addHalf, md_X0_addHalf⟩
theorem lk_X0_32 : Cond.methodLink RX0 32 yX0_addRemainder ∈ TB ∧ Cond.instanceMethod yX0_addRemainder ∈ TB ∧ Cond.selects yX0_addRemainder.cls yX0_addRemainder yX0_addRemainder ∈ TB ∧ mMd D_X0_addRemainder := ⟨w_2_77, w_2_79, ws_X0_addRemainder, md_X0_addRemainder⟩
theorem lk_X0_36 : Cond.methodLink RX0 36 yX0_addUnlessZero ∈ TB ∧ Cond.instanceMethod yX0_addUnlessZero ∈ TB ∧ Cond.selects yX0_addUnlessZero.cls yX0_addUnlessZero yX0_addUnlessZero ∈ TB ∧ mMd D_X0_addUnlessZero := ⟨w_2_73, w_2_75, ws_X0_addUnlessZero, md_X0_addUnlessZero⟩
theorem lk_X0_39 : Cond.methodLink RX0 39 arraycopyName ∈ TB ∧ Cond.native arraycopyName ∈ TB ∧ Cond.static arraycopyName ∈ TB ∧ Cond.initialized "java/lang/System" ∈ TB := ⟨w_2_81, w_2_22, w_2_21, w_1_10⟩
theorem lk_X0_45 : Cond.methodLink RX0 45 yX0_strike ∈ TB ∧ Cond.static yX0_strike ∈ TB ∧ mMd D_X0_strike := ⟨w_2_82, w_2_83, md_X0_strike⟩
theorem lk_X0_49 : Cond.methodLink RX0 49 yX0_takeLowestTerms ∈ TB ∧ Cond.static yX0_takeLowestTerms ∈ TB ∧ mMd D_X0_takeLowestTerms := ⟨w_2_88, w_2_89, md_X0_takeLowestTerms⟩
theorem lk_X0_53 : Cond.methodLink RX0 53 yJ9_abs_067f4 ∈ TB ∧ Cond.static yJ9_abs_067f4 ∈ TB ∧ mMd D_J9_abs_067f4 := ⟨w_2_85, w_2_86, md_J9_abs_067f4⟩
theorem lk_X1_3 : Cond.methodLink RX1 3 Lib.objectInit ∈ TB ∧ Cond.instanceMethod Lib.objectInit ∈ TB ∧ Cond.code Lib.objectInit ⟨#[0xb1]⟩ 1 none ∈ TB := ⟨w_1_126, w_1_20, w_1_21⟩
theorem lk_X1_11 : Cond.methodLink RX1 11 yX0_init ∈ TB ∧ Cond.instanceMethod yX0_init ∈ TB ∧ yX0_init.name = "<init>" ∧ mMd D_X0_init := ⟨w_1_129, w_1_130, rfl, md_X0_init⟩
theorem lk_X1_32 : Cond.methodLink RX1 32 yX0_fill ∈ TB ∧ Cond.instanceMethod yX0_fill ∈ TB ∧ Cond.selects yX0_fill.cls yX0_fill yX0_fill ∈ TB ∧ mMd D_X0_fill := ⟨w_2_64, w_2_65, w_2_66, md_X0_fill⟩
theorem lk_X1_36 : Cond.methodLink RX1 36 yX1_countByChain ∈ TB ∧ Cond.instanceMethod yX1_countByChain ∈ TB ∧ Cond.selects yX1_countByChain.cls yX1_countByChain yX1_countByChain ∈ TB ∧ mMd D_X1_countByChain := ⟨w_2_95, w_2_97, ws_X1_countByChain, md_X1_countByChain⟩
theorem lk_X1_39 : Cond.methodLink RX1 39 yX1_turn ∈ TB ∧ Cond.instanceMethod yX1_turn ∈ TB ∧ Cond.selects yX1_turn.cls yX1_turn yX1_turn ∈ TB ∧ mMd D_X1_turn := ⟨w_2_110, w_2_112, ws_X1_turn, md_X1_turn⟩
theorem lk_X1_46 : Cond.methodLink RX1 46 yX1_isSteadyByAxis ∈ TB ∧ Cond.static yX1_isSteadyByAxis ∈ TB ∧ mMd D_X1_isSteadyByAxis := ⟨w_2_163, w_2_164, md_X1_isSteadyByAxis⟩
theorem lk_X1_50 : Cond.methodLink RX1 50 yX1_partBelow ∈ TB ∧ Cond.static yX1_partBelow ∈ TB ∧ mMd D_X1_partBelow := ⟨w_2_115, w_2_116, md_X1_partBelow⟩
theorem lk_X1_67 : Cond.methodLink RX1 67 yX1_signTurns ∈ TB ∧ Cond.instanceMethod yX1_signTurns ∈ TB ∧ Cond.selects yX1_signTurns.cls yX1_signTurns yX1_signTurns ∈ TB ∧ mMd D_X1_signTurns := ⟨w_2_99, w_2_101, ws_X1_signTurns, md_X1_signTurns⟩
theorem lk_X1_75 : Cond.methodLink RX1 75 yX1_rootsOnAxis ∈ TB ∧ Cond.static yX1_rootsOnAxis ∈ TB ∧ mMd D_X1_rootsOnAxis := ⟨w_2_103, w_2_104, md_X1_rootsOnAxis⟩
theorem lk_X1_79 : Cond.methodLink RX1 79 yX1_rootsOnAxisOfFour ∈ TB ∧ Cond.static yX1_rootsOnAxisOfFour ∈ TB ∧ mMd D_X1_rootsOnAxisOfFour := ⟨w_2_106, w_2_107, md_X1_rootsOnAxisOfFour⟩
theorem lk_X2_1 : Cond.methodLink RX2 1 Lib.objectInit ∈ TB ∧ Cond.instanceMethod Lib.objectInit ∈ TB ∧ Cond.code Lib.objectInit ⟨#[0xb1]⟩ 1 none ∈ TB := ⟨w_1_52, w_1_20, w_1_21⟩
theorem lk_X2_15 : Cond.methodLink RX2 15 yX3_init ∈ TB ∧ Cond.instanceMethod yX3_init ∈ TB ∧ yX3_init.name = "<init>" ∧ mMd D_X3_init := ⟨w_1_55, w_1_25, rfl, md_X3_init⟩
theorem lk_X2_23 : Cond.methodLink RX2 23 yX3_become ∈ TB ∧ Cond.instanceMethod yX3_become ∈ TB ∧ Cond.selects yX3_become.cls yX3_become yX3_become ∈ TB ∧ mMd D_X3_become := ⟨w_2_16, w_2_17, w_2_18, md_X3_become⟩
theorem lk_X3_3 : Cond.methodLink RX3 3 Lib.objectInit ∈ TB ∧ Cond.instanceMethod Lib.objectInit ∈ TB ∧ Cond.code Lib.objectInit ⟨#[0xb1]⟩ 1 none ∈ TB := ⟨w_1_27, w_1_20, w_1_21⟩
theorem lk_X3_22 : Cond.methodLink RX3 22 arraycopyName ∈ TB ∧ Cond.native arraycopyName ∈ TB ∧ Cond.static arraycopyName ∈ TB ∧ Cond.initialized "java/lang/System" ∈ TB := ⟨w_2_20, w_2_22, w_2_21, w_1_10⟩
theorem lk_X4_3 : Cond.methodLink RX4 3 Lib.objectInit ∈ TB ∧ Cond.instanceMethod Lib.objectInit ∈ TB ∧ Cond.code Lib.objectInit ⟨#[0xb1]⟩ 1 none ∈ TB := ⟨w_1_104, w_1_20, w_1_21⟩
theorem lk_X4_23 : Cond.methodLink RX4 23 yJ7_fill_d0a16 ∈ TB ∧ Cond.static yJ7_fill_d0a16 ∈ TB ∧ mMd D_J7_fill_d0a16 := ⟨w_3_82, w_3_83, md_J7_fill_d0a16⟩
theorem lk_X4_29 : Cond.methodLink RX4 29 yX4_isMissing ∈ TB ∧ Cond.instanceMethod yX4_isMissing ∈ TB ∧ Cond.selects yX4_isMissing.cls yX4_isMissing yX4_isMissing ∈ TB ∧ mMd D_X4_isMissing := ⟨w_3_57, w_3_58, w_3_59, md_X4_isMissing⟩
theorem lk_X4_33 : Cond.methodLink RX4 33 yX4_hasItems ∈ TB ∧ Cond.instanceMethod yX4_hasItems ∈ TB ∧ Cond.selects yX4_hasItems.cls yX4_hasItems yX4_hasItems ∈ TB ∧ mMd D_X4_hasItems := ⟨w_3_61, w_3_62, w_3_63, md_X4_hasItems⟩
theorem lk_X5_3 : Cond.methodLink RX5 3 Lib.objectInit ∈ TB ∧ Cond.instanceMethod Lib.objectInit ∈ TB ∧ Cond.code Lib.objectInit ⟨#[0xb1]⟩ 1 none ∈ TB := ⟨w_1_174, w_1_20, w_1_21⟩
theorem lk_X5_42 : Cond.methodLink RX5 42 yX5_isOf ∈ TB ∧ Cond.instanceMethod yX5_isOf ∈ TB ∧ Cond.selects yX5_isOf.cls yX5_isOf yX5_isOf ∈ TB ∧ mMd D_X5_isOf := ⟨w_2_149, w_2_151, ws_X5_isOf, md_X5_isOf⟩
theorem lk_X5_49 : Cond.methodLink RX5 49 arraycopyName ∈ TB ∧ Cond.native arraycopyName ∈ TB ∧ Cond.static arraycopyName ∈ TB ∧ Cond.initialized "java/lang/System" ∈ TB := ⟨w_2_153, w_2_22, w_2_21, w_1_10⟩
theorem lk_X5_55 : Cond.methodLink RX5 55 yX5_collect ∈ TB ∧ Cond.instanceMethod yX5_collect ∈ TB ∧ Cond.selects yX5_collect.cls yX5_collect yX5_collect ∈ TB ∧ mMd D_X5_collect := ⟨w_2_154, w_2_156, ws_X5_collect, md_X5_collect⟩
theorem lk_X5_59 : Cond.methodLink RX5 59 yX5_orderByWidth ∈ TB ∧ Cond.instanceMethod yX5_orderByWidth ∈ TB ∧ Cond.selects yX5_orderByWidth.cls yX5_orderByWidth yX5_orderByWidth ∈ TB ∧ mMd D_X5_orderByWidth := ⟨w_2_170, w_2_172, ws_X5_orderByWidth, md_X5_orderByWidth⟩
theorem lk_X5_62 : Cond.methodLink RX5 62 yX3_fillLoop ∈ TB ∧ Cond.instanceMethod yX3_fillLoop ∈ TB ∧ Cond.selects yX3_fillLoop.cls yX3_fillLoop yX3_fillLoop ∈ TB ∧ mMd D_X3_fillLoop := ⟨w_2_158, w_2_46, w_2_47, md_X3_fillLoop⟩
theorem lk_X5_66 : Cond.methodLink RX5 66 yX1_isSteady ∈ TB ∧ Cond.instanceMethod yX1_isSteady ∈ TB ∧ Cond.selects yX1_isSteady.cls yX1_isSteady yX1_isSteady ∈ TB ∧ mMd D_X1_isSteady := ⟨w_2_159, w_2_160, w_2_161, md_X1_isSteady⟩
theorem lk_X5_72 : Cond.methodLink RX5 72 yX5_addGain ∈ TB ∧ Cond.instanceMethod yX5_addGain ∈ TB ∧ Cond.selects yX5_addGain.cls yX5_addGain yX5_addGain ∈ TB ∧ mMd D_X5_addGain := ⟨w_2_166, w_2_168, ws_X5_addGain, md_X5_addGain⟩
theorem lk_X5_76 : Cond.methodLink RX5 76 yX5_widthOf ∈ TB ∧ Cond.instanceMethod yX5_widthOf ∈ TB ∧ Cond.selects yX5_widthOf.cls yX5_widthOf yX5_widthOf ∈ TB ∧ mMd D_X5_widthOf := ⟨w_2_174, w_2_176, ws_X5_widthOf, md_X5_widthOf⟩
theorem lk_X6_3 : Cond.methodLink RX6 3 Lib.objectInit ∈ TB ∧ Cond.instanceMethod Lib.objectInit ∈ TB ∧ Cond.code Lib.objectInit ⟨#[0xb1]⟩ 1 none ∈ TB := ⟨w_1_72, w_1_20, w_1_21⟩
theorem lk_X6_36 : Cond.methodLink RX6 36 yJ7_fill_53178 ∈ TB ∧ Cond.static yJ7_fill_53178 ∈ TB ∧ mMd D_J7_fill_53178 := ⟨w_2_233, w_2_234, md_J7_fill_53178⟩
theorem lk_X6_42 : Cond.methodLink RX6 42 yX6_readTerms ∈ TB ∧ Cond.instanceMethod yX6_readTerms ∈ TB ∧ Cond.selects yX6_readTerms.cls yX6_readTerms yX6_readTerms ∈ TB ∧ mMd D_X6_readTerms := ⟨w_2_236, w_2_238, ws_X6_readTerms, md_X6_readTerms⟩
theorem lk_X6_46 : Cond.methodLink RX6 46 yX6_nextLetter ∈ TB ∧ Cond.instanceMethod yX6_nextLetter ∈ TB ∧ Cond.selects yX6_nextLetter.cls yX6_nextLetter yX6_nextLetter ∈ TB ∧ mMd D_X6_nextLetter := ⟨w_3_0, w_3_2, ws_X6_nextLetter, md_X6_nextLetter⟩
theorem lk_X6_50 : Cond.methodLink RX6 50 yX6_readTerm ∈ TB ∧ Cond.instanceMethod yX6_readTerm ∈ TB ∧ Cond.selects yX6_readTerm.cls yX6_readTerm yX6_readTerm ∈ TB ∧ mMd D_X6_readTerm := ⟨w_3_4, w_3_6, ws_X6_readTerm, md_X6_readTerm⟩
theorem lk_X6_54 : Cond.methodLink RX6 54 yX6_readPower ∈ TB ∧ Cond.instanceMethod yX6_readPower ∈ TB ∧ Cond.selects yX6_readPower.cls yX6_readPower yX6_readPower ∈ TB ∧ mMd D_X6_readPower := ⟨w_3_8, w_3_10, ws_X6_readPower, md_X6_readPower⟩
theorem lk_L_9 : Cond.methodLink RL 9 yX7_init ∈ TB ∧ Cond.instanceMethod yX7_init ∈ TB ∧ yX7_init.name = "<init>" ∧ mMd D_X7_init := ⟨w_1_16, w_1_17, rfl, md_X7_init⟩
theorem lk_L_12 : Cond.methodLink RL 12 yX8_init ∈ TB ∧ Cond.instanceMethod yX8_init ∈ TB ∧ yX8_init.name = "<init>" ∧ mMd D_X8_init := ⟨w_3_108, w_3_109, rfl, md_X8_init⟩
theorem lk_L_13 : Cond.methodLink RL 13 yX7_part ∈ TB ∧ Cond.instanceMethod yX7_part ∈ TB ∧ Cond.selects yX7_part.cls yX7_part yX7_part ∈ TB ∧ mMd D_X7_part := ⟨w_2_0, w_2_1, w_2_2, md_X7_part⟩
theorem lk_L_17 : Cond.methodLink RL 17 yX8_part ∈ TB ∧ Cond.instanceMethod yX8_part ∈ TB ∧ Cond.selects yX8_part.cls yX8_part yX8_part ∈ TB ∧ mMd D_X8_part := ⟨w_3_200, w_3_201, w_3_202, md_X8_part⟩
theorem lk_L_18 : Cond.methodLink RL 18 yX7_gain ∈ TB ∧ Cond.instanceMethod yX7_gain ∈ TB ∧ Cond.selects yX7_gain.cls yX7_gain yX7_gain ∈ TB ∧ mMd D_X7_gain := ⟨w_2_23, w_2_24, w_2_25, md_X7_gain⟩
theorem lk_L_22 : Cond.methodLink RL 22 yX8_gain ∈ TB ∧ Cond.instanceMethod yX8_gain ∈ TB ∧ Cond.selects yX8_gain.cls yX8_gain yX8_gain ∈ TB ∧ mMd D_X8_gain := ⟨w_3_220, w_3_221, w_3_222, md_X8_gain⟩
theorem lk_L_23 : Cond.methodLink RL 23 yX7_told ∈ TB ∧ Cond.instanceMethod yX7_told ∈ TB ∧ Cond.selects yX7_told.cls yX7_told yX7_told ∈ TB ∧ mMd D_X7_told := ⟨w_2_30, w_2_31, w_2_32, md_X7_told⟩
theorem lk_L_27 : Cond.methodLink RL 27 yX8_told ∈ TB ∧ Cond.instanceMethod yX8_told ∈ TB ∧ Cond.selects yX8_told.cls yX8_told yX8_told ∈ TB ∧ mMd D_X8_told := ⟨w_3_229, w_3_230, w_3_231, md_X8_told⟩
theorem lk_L_28 : Cond.methodLink RL 28 yX7_count ∈ TB ∧ Cond.instanceMethod yX7_count ∈ TB ∧ Cond.selects yX7_count.cls yX7_count yX7_count ∈ TB ∧ mMd D_X7_count := ⟨w_2_34, w_2_35, w_2_36, md_X7_count⟩
theorem lk_L_31 : Cond.methodLink RL 31 yX8_count ∈ TB ∧ Cond.instanceMethod yX8_count ∈ TB ∧ Cond.selects yX8_count.cls yX8_count yX8_count ∈ TB ∧ mMd D_X8_count := ⟨w_3_233, w_3_234, w_3_235, md_X8_count⟩
theorem lk_L_32 : Cond.methodLink RL 32 yX7_roots ∈ TB ∧ Cond.instanceMethod yX7_roots ∈ TB ∧ Cond.selects yX7_roots.cls yX7_roots yX7_roots ∈ TB ∧ mMd D_X7_roots := ⟨w_2_52, w_2_53, w_2_54, md_X7_roots⟩
theorem lk_L_35 : Cond.methodLink RL 35 yX8_roots ∈ TB ∧ Cond.instanceMethod yX8_roots ∈ TB ∧ Cond.selects yX8_roots.cls yX8_roots yX8_roots ∈ TB ∧ mMd D_X8_roots := ⟨w_4_9, w_4_10, w_4_11, md_X8_roots⟩
theorem lk_L_36 : Cond.methodLink RL 36 yX7_at ∈ TB ∧ Cond.instanceMethod yX7_at ∈ TB ∧ Cond.selects yX7_at.cls yX7_at yX7_at ∈ TB ∧ mMd D_X7_at := ⟨w_2_120, w_2_121, w_2_122, md_X7_at⟩
theorem lk_L_39 : Cond.methodLink RL 39 yX8_at ∈ TB ∧ Cond.instanceMethod yX8_at ∈ TB ∧ Cond.selects yX8_at.cls yX8_at yX8_at ∈ TB ∧ mMd D_X8_at := ⟨w_4_69, w_4_14, w_4_15, md_X8_at⟩
theorem lk_L_40 : Cond.methodLink RL 40 yX7_row ∈ TB ∧ Cond.instanceMethod yX7_row ∈ TB ∧ Cond.selects yX7_row.cls yX7_row yX7_row ∈ TB ∧ mMd D_X7_row := ⟨w_2_124, w_2_125, w_2_126, md_X7_row⟩
theorem lk_L_44 : Cond.methodLink RL 44 yX8_row ∈ TB ∧ Cond.instanceMethod yX8_row ∈ TB ∧ Cond.selects yX8_row.cls yX8_row yX8_row ∈ TB ∧ mMd D_X8_row := ⟨w_4_70, w_4_71, w_4_72, md_X8_row⟩
theorem lk_L_45 : Cond.methodLink RL 45 yX7_rows ∈ TB ∧ Cond.instanceMethod yX7_rows ∈ TB ∧ Cond.selects yX7_rows.cls yX7_rows yX7_rows ∈ TB ∧ mMd D_X7_rows := ⟨w_2_133, w_2_134, w_2_135, md_X7_rows⟩
theorem lk_L_49 : Cond.methodLink RL 49 yX8_rows ∈ TB ∧ Cond.instanceMethod yX8_rows ∈ TB ∧ Cond.selects yX8_rows.cls yX8_rows yX8_rows ∈ TB ∧ mMd D_X8_rows := ⟨w_4_96, w_4_97, w_4_98, md_X8_rows⟩
theorem lk_L_50 : Cond.methodLink RL 50 yX7_span ∈ TB ∧ Cond.instanceMethod yX7_span ∈ TB ∧ Cond.selects yX7_span.cls yX7_span yX7_span ∈ TB ∧ mMd D_X7_span := ⟨w_2_137, w_2_138, w_2_139, md_X7_span⟩
theorem lk_L_53 : Cond.methodLink RL 53 yX8_span ∈ TB ∧ Cond.instanceMethod yX8_span ∈ TB ∧ Cond.selects yX8_span.cls yX8_span yX8_span ∈ TB ∧ mMd D_X8_span := ⟨w_4_100, w_4_101, w_4_102, md_X8_span⟩
theorem lk_L_54 : Cond.methodLink RL 54 yX7_widest ∈ TB ∧ Cond.instanceMethod yX7_widest ∈ TB ∧ Cond.selects yX7_widest.cls yX7_widest yX7_widest ∈ TB ∧ mMd D_X7_widest := ⟨w_2_182, w_2_183, w_2_184, md_X7_widest⟩
theorem lk_L_57 : Cond.methodLink RL 57 yX8_widest ∈ TB ∧ Cond.instanceMethod yX8_widest ∈ TB ∧ Cond.selects yX8_widest.cls yX8_widest yX8_widest ∈ TB ∧ mMd D_X8_widest := ⟨w_4_115, w_4_116, w_4_117, md_X8_widest⟩
theorem lk_L_58 : Cond.methodLink RL 58 yX7_spans ∈ TB ∧ Cond.instanceMethod yX7_spans ∈ TB ∧ Cond.selects yX7_spans.cls yX7_spans yX7_spans ∈ TB ∧ mMd D_X7_spans := ⟨w_2_186, w_2_187, w_2_188, md_X7_spans⟩
theorem lk_L_61 : Cond.methodLink RL 61 yX8_spans ∈ TB ∧ Cond.instanceMethod yX8_spans ∈ TB ∧ Cond.selects yX8_spans.cls yX8_spans yX8_spans ∈ TB ∧ mMd D_X8_spans := ⟨w_4_119, w_4_120, w_4_121, md_X8_spans⟩
theorem lk_L_62 : Cond.methodLink RL 62 yX7_corners ∈ TB ∧ Cond.instanceMethod yX7_corners ∈ TB ∧ Cond.selects yX7_corners.cls yX7_corners yX7_corners ∈ TB ∧ mMd D_X7_corners := ⟨w_2_190, w_2_191, w_2_192, md_X7_corners⟩
theorem lk_L_65 : Cond.methodLink RL 65 yX8_corners ∈ TB ∧ Cond.instanceMethod yX8_corners ∈ TB ∧ Cond.selects yX8_corners.cls yX8_corners yX8_corners ∈ TB ∧ mMd D_X8_corners := ⟨w_4_123, w_4_124, w_4_125, md_X8_corners⟩
theorem lk_L_66 : Cond.methodLink RL 66 yX7_neighbours ∈ TB ∧ Cond.instanceMethod yX7_neighbours ∈ TB ∧ Cond.selects yX7_neighbours.cls yX7_neighbours yX7_neighbours ∈ TB ∧ mMd D_X7_neighbours := ⟨w_2_197, w_2_198, w_2_199, md_X7_neighbours⟩
theorem lk_L_69 : Cond.methodLink RL 69 yX8_neighbours ∈ TB ∧ Cond.instanceMethod yX8_neighbours ∈ TB ∧ Cond.selects yX8_neighbours.cls yX8_neighbours yX8_neighbours ∈ TB ∧ mMd D_X8_neighbours := ⟨w_4_127, w_4_128, w_4_129, md_X8_neighbours⟩
theorem lk_L_70 : Cond.methodLink RL 70 yX7_off ∈ TB ∧ Cond.instanceMethod yX7_off ∈ TB ∧ Cond.selects yX7_off.cls yX7_off yX7_off ∈ TB ∧ mMd D_X7_off := ⟨w_2_201, w_2_202, w_2_203, md_X7_off⟩
theorem lk_L_73 : Cond.methodLink RL 73 yX8_off ∈ TB ∧ Cond.instanceMethod yX8_off ∈ TB ∧ Cond.selects yX8_off.cls yX8_off yX8_off ∈ TB ∧ mMd D_X8_off := ⟨w_4_131, w_4_132, w_4_133, md_X8_off⟩
theorem lk_L_74 : Cond.methodLink RL 74 yX7_type ∈ TB ∧ Cond.instanceMethod yX7_type ∈ TB ∧ Cond.selects yX7_type.cls yX7_type yX7_type ∈ TB ∧ mMd D_X7_type := ⟨w_2_217, w_2_218, w_2_219, md_X7_type⟩
theorem lk_L_77 : Cond.methodLink RL 77 yX8_type ∈ TB ∧ Cond.instanceMethod yX8_type ∈ TB ∧ Cond.selects yX8_type.cls yX8_type yX8_type ∈ TB ∧ mMd D_X8_type := ⟨w_4_138, w_4_139, w_4_140, md_X8_type⟩
theorem lk_L_78 : Cond.methodLink RL 78 yX7_read ∈ TB ∧ Cond.instanceMethod yX7_read ∈ TB ∧ Cond.selects yX7_read.cls yX7_read yX7_read ∈ TB ∧ mMd D_X7_read := ⟨w_2_225, w_2_226, w_2_227, md_X7_read⟩
theorem lk_L_81 : Cond.methodLink RL 81 yX8_read ∈ TB ∧ Cond.instanceMethod yX8_read ∈ TB ∧ Cond.selects yX8_read.cls yX8_read yX8_read ∈ TB ∧ mMd D_X8_read := ⟨w_4_144, w_4_145, w_4_146, md_X8_read⟩
theorem lk_L_82 : Cond.methodLink RL 82 yX7_drift ∈ TB ∧ Cond.instanceMethod yX7_drift ∈ TB ∧ Cond.selects yX7_drift.cls yX7_drift yX7_drift ∈ TB ∧ mMd D_X7_drift := ⟨w_3_13, w_3_14, w_3_15, md_X7_drift⟩
theorem lk_L_85 : Cond.methodLink RL 85 yX8_drift ∈ TB ∧ Cond.instanceMethod yX8_drift ∈ TB ∧ Cond.selects yX8_drift.cls yX8_drift yX8_drift ∈ TB ∧ mMd D_X8_drift := ⟨w_4_168, w_4_169, w_4_170, md_X8_drift⟩
theorem lk_L_86 : Cond.methodLink RL 86 yX7_undo ∈ TB ∧ Cond.instanceMethod yX7_undo ∈ TB ∧ Cond.selects yX7_undo.cls yX7_undo yX7_undo ∈ TB ∧ mMd D_X7_undo := ⟨w_3_24, w_3_25, w_3_26, md_X7_undo⟩
theorem lk_L_89 : Cond.methodLink RL 89 yX8_undo ∈ TB ∧ Cond.instanceMethod yX8_undo ∈ TB ∧ Cond.selects yX8_undo.cls yX8_undo yX8_undo ∈ TB ∧ mMd D_X8_undo := ⟨w_4_177, w_4_178, w_4_179, md_X8_undo⟩
theorem lk_L_90 : Cond.methodLink RL 90 yX7_seed ∈ TB ∧ Cond.instanceMethod yX7_seed ∈ TB ∧ Cond.selects yX7_seed.cls yX7_seed yX7_seed ∈ TB ∧ mMd D_X7_seed := ⟨w_3_32, w_3_33, w_3_34, md_X7_seed⟩
theorem lk_L_93 : Cond.methodLink RL 93 yX8_seed ∈ TB ∧ Cond.instanceMethod yX8_seed ∈ TB ∧ Cond.selects yX8_seed.cls yX8_seed yX8_seed ∈ TB ∧ mMd D_X8_seed := ⟨w_4_181, w_4_182, w_4_183, md_X8_seed⟩
theorem lk_L_94 : Cond.methodLink RL 94 yX7_image ∈ TB ∧ Cond.instanceMethod yX7_image ∈ TB ∧ Cond.selects yX7_image.cls yX7_image yX7_image ∈ TB ∧ mMd D_X7_image := ⟨w_3_36, w_3_37, w_3_38, md_X7_image⟩
theorem lk_L_97 : Cond.methodLink RL 97 yX8_image ∈ TB ∧ Cond.instanceMethod yX8_image ∈ TB ∧ Cond.selects yX8_image.cls yX8_image yX8_image ∈ TB ∧ mMd D_X8_image := ⟨w_4_185, w_4_186, w_4_187, md_X8_image⟩
theorem lk_L_98 : Cond.methodLink RL 98 yX7_restore ∈ TB ∧ Cond.instanceMethod yX7_restore ∈ TB ∧ Cond.selects yX7_restore.cls yX7_restore yX7_restore ∈ TB ∧ mMd D_X7_restore := ⟨w_3_45, w_3_46, w_3_47, md_X7_restore⟩
theorem lk_L_101 : Cond.methodLink RL 101 yX8_restore ∈ TB ∧ Cond.instanceMethod yX8_restore ∈ TB ∧ Cond.selects yX8_restore.cls yX8_restore yX8_restore ∈ TB ∧ mMd D_X8_restore := ⟨w_4_189, w_4_190, w_4_191, md_X8_restore⟩
theorem lk_L_102 : Cond.methodLink RL 102 yX7_judged ∈ TB ∧ Cond.instanceMethod yX7_judged ∈ TB ∧ Cond.selects yX7_judged.cls yX7_judged yX7_judged ∈ TB ∧ mMd D_X7_judged := ⟨w_3_49, w_3_50, w_3_51, md_X7_judged⟩
theorem lk_L_106 : Cond.methodLink RL 106 yX8_judged ∈ TB ∧ Cond.instanceMethod yX8_judged ∈ TB ∧ Cond.selects yX8_judged.cls yX8_judged yX8_judged ∈ TB ∧ mMd D_X8_judged := ⟨w_4_193, w_4_194, w_4_195, md_X8_judged⟩
theorem lk_L_107 : Cond.methodLink RL 107 yX7_film ∈ TB ∧ Cond.instanceMethod yX7_film ∈ TB ∧ Cond.selects yX7_film.cls yX7_film yX7_film ∈ TB ∧ mMd D_X7_film := ⟨w_3_70, w_3_71, w_3_72, md_X7_film⟩
theorem lk_L_110 : Cond.methodLink RL 110 yX8_film ∈ TB ∧ Cond.instanceMethod yX8_film ∈ TB ∧ Cond.selects yX8_film.cls yX8_film yX8_film ∈ TB ∧ mMd D_X8_film := ⟨w_4_204, w_4_205, w_4_206, md_X8_film⟩
theorem lk_L_111 : Cond.methodLink RL 111 yX7_sheet ∈ TB ∧ Cond.instanceMethod yX7_sheet ∈ TB ∧ Cond.selects yX7_sheet.cls yX7_sheet yX7_sheet ∈ TB ∧ mMd D_X7_sheet := ⟨w_3_74, w_3_75, w_3_76, md_X7_sheet⟩
theorem lk_L_114 : Cond.methodLink RL 114 yX8_sheet ∈ TB ∧ Cond.instanceMethod yX8_sheet ∈ TB ∧ Cond.selects yX8_sheet.cls yX8_sheet yX8_sheet ∈ TB ∧ mMd D_X8_sheet := ⟨w_4_208, w_4_209, w_4_210, md_X8_sheet⟩
theorem lk_L_115 : Cond.methodLink RL 115 yX7_drop ∈ TB ∧ Cond.instanceMethod yX7_drop ∈ TB ∧ Cond.selects yX7_drop.cls yX7_drop yX7_drop ∈ TB ∧ mMd D_X7_drop := ⟨w_3_85, w_3_86, w_3_87, md_X7_drop⟩
theorem lk_L_118 : Cond.methodLink RL 118 yX8_drop ∈ TB ∧ Cond.instanceMethod yX8_drop ∈ TB ∧ Cond.selects yX8_drop.cls yX8_drop yX8_drop ∈ TB ∧ mMd D_X8_drop := ⟨w_4_212, w_4_213, w_4_214, md_X8_drop⟩
theorem lk_L_121 : Cond.methodLink RL 121 yX7_item ∈ TB ∧ Cond.instanceMethod yX7_item ∈ TB ∧ Cond.selects yX7_item.cls yX7_item yX7_item ∈ TB ∧ mMd D_X7_item := ⟨w_3_94, w_3_95, w_3_96, md_X7_item⟩
theorem lk_L_125 : Cond.methodLink RL 125 yX8_item ∈ TB ∧ Cond.instanceMethod yX8_item ∈ TB ∧ Cond.selects yX8_item.cls yX8_item yX8_item ∈ TB ∧ mMd D_X8_item := ⟨w_4_216, w_4_217, w_4_218, md_X8_item⟩
theorem lk_L_126 : Cond.methodLink RL 126 yX7_copy ∈ TB ∧ Cond.instanceMethod yX7_copy ∈ TB ∧ Cond.selects yX7_copy.cls yX7_copy yX7_copy ∈ TB ∧ mMd D_X7_copy := ⟨w_3_101, w_3_102, w_3_103, md_X7_copy⟩
theorem lk_L_130 : Cond.methodLink RL 130 yX8_copy ∈ TB ∧ Cond.instanceMethod yX8_copy ∈ TB ∧ Cond.selects yX8_copy.cls yX8_copy yX8_copy ∈ TB ∧ mMd D_X8_copy := ⟨w_4_223, w_4_224, w_4_225, md_X8_copy⟩
theorem lk_X8_1 : Cond.methodLink RX8 1 Lib.objectInit ∈ TB ∧ Cond.instanceMethod Lib.objectInit ∈ TB ∧ Cond.code Lib.objectInit ⟨#[0xb1]⟩ 1 none ∈ TB := ⟨w_3_111, w_1_20, w_1_21⟩
theorem lk_X8_69 : Cond.methodLink RX8 69 yX8_bring ∈ TB ∧ Cond.static yX8_bring ∈ TB ∧ mMd D_X8_bring := ⟨w_3_217, w_3_218, md_X8_bring⟩
theorem lk_X8_84 : Cond.methodLink RX8 84 yX8_more ∈ TB ∧ Cond.instanceMethod yX8_more ∈ TB ∧ Cond.selects yX8_more.cls yX8_more yX8_more ∈ TB ∧ mMd D_X8_more := ⟨w_4_45, w_4_47, ws_X8_more, md_X8_more⟩
theorem lk_X8_88 : Cond.methodLink RX8 88 yX8_sign ∈ TB ∧ Cond.static yX8_sign ∈ TB ∧ mMd D_X8_sign := ⟨w_4_38, w_4_39, md_X8_sign⟩
theorem lk_X8_92 : Cond.methodLink RX8 92 yX8_square ∈ TB ∧ Cond.instanceMethod yX8_square ∈ TB ∧ Cond.selects yX8_square.cls yX8_square yX8_square ∈ TB ∧ mMd D_X8_square := ⟨w_4_41, w_4_43, ws_X8_square, md_X8_square⟩
theorem lk_X8_104 : Cond.methodLink RX8 104 yX8_passes ∈ TB ∧ Cond.instanceMethod yX8_passes ∈ TB ∧ Cond.selects yX8_passes.cls yX8_passes yX8_passes ∈ TB ∧ mMd D_X8_passes := ⟨w_4_61, w_4_63, ws_X8_passes, md_X8_passes⟩
theorem lk_X8_107 : Cond.methodLink RX8 107 yX8_two ∈ TB ∧ Cond.instanceMethod yX8_two ∈ TB ∧ Cond.selects yX8_two.cls yX8_two yX8_two ∈ TB ∧ mMd D_X8_two := ⟨w_4_49, w_4_51, ws_X8_two, md_X8_two⟩
theorem lk_X8_111 : Cond.methodLink RX8 111 yX8_three ∈ TB ∧ Cond.instanceMethod yX8_three ∈ TB ∧ Cond.selects yX8_three.cls yX8_three yX8_three ∈ TB ∧ mMd D_X8_three := ⟨w_4_57, w_4_59, ws_X8_three, md_X8_three⟩
theorem lk_X8_115 : Cond.methodLink RX8 115 yX8_four ∈ TB ∧ Cond.instanceMethod yX8_four ∈ TB ∧ Cond.selects yX8_four.cls yX8_four yX8_four ∈ TB ∧ mMd D_X8_four := ⟨w_4_65, w_4_67, ws_X8_four, md_X8_four⟩
theorem lk_X8_118 : Cond.methodLink RX8 118 yX8_degree ∈ TB ∧ Cond.static yX8_degree ∈ TB ∧ mMd D_X8_degree := ⟨w_4_6, w_4_7, md_X8_degree⟩
theorem lk_X8_122 : Cond.methodLink RX8 122 yX8_squares ∈ TB ∧ Cond.instanceMethod yX8_squares ∈ TB ∧ Cond.selects yX8_squares.cls yX8_squares yX8_squares ∈ TB ∧ mMd D_X8_squares := ⟨w_4_34, w_4_36, ws_X8_squares, md_X8_squares⟩
theorem lk_X8_125 : Cond.methodLink RX8 125 yX8_apart ∈ TB ∧ Cond.instanceMethod yX8_apart ∈ TB ∧ Cond.selects yX8_apart.cls yX8_apart yX8_apart ∈ TB ∧ mMd D_X8_apart := ⟨w_4_53, w_4_55, ws_X8_apart, md_X8_apart⟩
theorem lk_X8_128 : Cond.methodLink RX8 128 yX8_multiplies ∈ TB ∧ Cond.instanceMethod yX8_multiplies ∈ TB ∧ Cond.selects yX8_multiplies.cls yX8_multiplies yX8_multiplies ∈ TB ∧ mMd D_X8_multiplies := ⟨w_4_26, w_4_28, ws_X8_multiplies, md_X8_multiplies⟩
theorem lk_X8_131 : Cond.methodLink RX8 131 yX8_turns ∈ TB ∧ Cond.instanceMethod yX8_turns ∈ TB ∧ Cond.selects yX8_turns.cls yX8_turns yX8_turns ∈ TB ∧ mMd D_X8_turns := ⟨w_4_22, w_4_24, ws_X8_turns, md_X8_turns⟩
theorem lk_X8_134 : Cond.methodLink RX8 134 yX8_counts ∈ TB ∧ Cond.instanceMethod yX8_counts ∈ TB ∧ Cond.selects yX8_counts.cls yX8_counts yX8_counts ∈ TB ∧ mMd D_X8_counts := ⟨w_4_30, w_4_32, ws_X8_counts, md_X8_counts⟩
theorem lk_X8_137 : Cond.methodLink RX8 137 yX8_countsBy ∈ TB ∧ Cond.instanceMethod yX8_countsBy ∈ TB ∧ Cond.selects yX8_countsBy.cls yX8_countsBy yX8_countsBy ∈ TB ∧ mMd D_X8_countsBy := ⟨w_4_18, w_4_20, ws_X8_countsBy, md_X8_countsBy⟩
theorem lk_X8_141 : Cond.methodLink RX8 141 yX8_in ∈ TB ∧ Cond.static yX8_in ∈ TB ∧ mMd D_X8_in := ⟨w_3_207, w_3_208, md_X8_in⟩
theorem lk_X8_145 : Cond.methodLink RX8 145 yX8_isPart ∈ TB ∧ Cond.static yX8_isPart ∈ TB ∧ mMd D_X8_isPart := ⟨w_3_204, w_3_205, md_X8_isPart⟩
theorem lk_X8_153 : Cond.methodLink RX8 153 yX8_notes ∈ TB ∧ Cond.instanceMethod yX8_notes ∈ TB ∧ Cond.selects yX8_notes.cls yX8_notes yX8_notes ∈ TB ∧ mMd D_X8_notes := ⟨w_3_213, w_3_215, ws_X8_notes, md_X8_notes⟩
theorem lk_X8_160 : Cond.methodLink RX8 160 yX8_isGain ∈ TB ∧ Cond.static yX8_isGain ∈ TB ∧ mMd D_X8_isGain := ⟨w_3_224, w_3_225, md_X8_isGain⟩
theorem lk_X8_164 : Cond.methodLink RX8 164 yX8_degreeOf ∈ TB ∧ Cond.instanceMethod yX8_degreeOf ∈ TB ∧ Cond.selects yX8_degreeOf.cls yX8_degreeOf yX8_degreeOf ∈ TB ∧ mMd D_X8_degreeOf := ⟨w_3_237, w_3_239, ws_X8_degreeOf, md_X8_degreeOf⟩
theorem lk_X8_167 : Cond.methodLink RX8 167 yX8_loops ∈ TB ∧ Cond.instanceMethod yX8_loops ∈ TB ∧ Cond.selects yX8_loops.cls yX8_loops yX8_loops ∈ TB ∧ mMd D_X8_loops := ⟨w_4_1, w_4_3, ws_X8_loops, md_X8_loops⟩
theorem lk_X8_170 : Cond.methodLink RX8 170 yX8_at ∈ TB ∧ Cond.instanceMethod yX8_at ∈ TB ∧ Cond.selects yX8_at.cls yX8_at yX8_at ∈ TB ∧ mMd D_X8_at := ⟨w_4_13, w_4_14, w_4_15, md_X8_at⟩
theorem lk_X8_176 : Cond.methodLink RX8 176 yX8_divisor ∈ TB ∧ Cond.static yX8_divisor ∈ TB ∧ mMd D_X8_divisor := ⟨w_4_91, w_4_92, md_X8_divisor⟩
theorem lk_X8_180 : Cond.methodLink RX8 180 yX8_shortens ∈ TB ∧ Cond.instanceMethod yX8_shortens ∈ TB ∧ Cond.selects yX8_shortens.cls yX8_shortens yX8_shortens ∈ TB ∧ mMd D_X8_shortens := ⟨w_4_87, w_4_89, ws_X8_shortens, md_X8_shortens⟩
theorem lk_X8_186 : Cond.methodLink RX8 186 yX8_addsRow ∈ TB ∧ Cond.instanceMethod yX8_addsRow ∈ TB ∧ Cond.selects yX8_addsRow.cls yX8_addsRow yX8_addsRow ∈ TB ∧ mMd D_X8_addsRow := ⟨w_4_79, w_4_81, ws_X8_addsRow, md_X8_addsRow⟩
theorem lk_X8_189 : Cond.methodLink RX8 189 yX8_divides ∈ TB ∧ Cond.instanceMethod yX8_divides ∈ TB ∧ Cond.selects yX8_divides.cls yX8_divides yX8_divides ∈ TB ∧ mMd D_X8_divides := ⟨w_4_83, w_4_85, ws_X8_divides, md_X8_divides⟩
theorem lk_X8_194 : Cond.methodLink RX8 194 yX8_laysRows ∈ TB ∧ Cond.instanceMethod yX8_laysRows ∈ TB ∧ Cond.selects yX8_laysRows.cls yX8_laysRows yX8_laysRows ∈ TB ∧ mMd D_X8_laysRows := ⟨w_4_75, w_4_77, ws_X8_laysRows, md_X8_laysRows⟩
theorem lk_X8_204 : Cond.methodLink RX8 204 yX8_isSteady ∈ TB ∧ Cond.instanceMethod yX8_isSteady ∈ TB ∧ Cond.selects yX8_isSteady.cls yX8_isSteady yX8_isSteady ∈ TB ∧ mMd D_X8_isSteady := ⟨w_4_111, w_4_113, ws_X8_isSteady, md_X8_isSteady⟩
theorem lk_X8_207 : Cond.methodLink RX8 207 yX8_isAsk ∈ TB ∧ Cond.static yX8_isAsk ∈ TB ∧ mMd D_X8_isAsk := ⟨w_4_104, w_4_105, md_X8_isAsk⟩
theorem lk_X8_211 : Cond.methodLink RX8 211 yX8_laysSpans ∈ TB ∧ Cond.instanceMethod yX8_laysSpans ∈ TB ∧ Cond.selects yX8_laysSpans.cls yX8_laysSpans yX8_laysSpans ∈ TB ∧ mMd D_X8_laysSpans := ⟨w_4_107, w_4_109, ws_X8_laysSpans, md_X8_laysSpans⟩
theorem lk_X8_229 : Cond.methodLink RX8 229 yX8_looks ∈ TB ∧ Cond.instanceMethod yX8_looks ∈ TB ∧ Cond.selects yX8_looks.cls yX8_looks yX8_looks ∈ TB ∧ mMd D_X8_looks := ⟨w_4_152, w_4_154, ws_X8_looks, md_X8_looks⟩
theorem lk_X8_237 : Cond.methodLink RX8 237 yX8_goesBy ∈ TB ∧ Cond.instanceMethod yX8_goesBy ∈ TB ∧ Cond.selects yX8_goesBy.cls yX8_goesBy yX8_goesBy ∈ TB ∧ mMd D_X8_goesBy := ⟨w_4_156, w_4_158, ws_X8_goesBy, md_X8_goesBy⟩
theorem lk_X8_249 : Cond.methodLink RX8 249 yX8_term ∈ TB ∧ Cond.instanceMethod yX8_term ∈ TB ∧ Cond.selects yX8_term.cls yX8_term yX8_term ∈ TB ∧ mMd D_X8_term := ⟨w_4_160, w_4_162, ws_X8_term, md_X8_term⟩
theorem lk_X8_252 : Cond.methodLink RX8 252 yX8_terms ∈ TB ∧ Cond.instanceMethod yX8_terms ∈ TB ∧ Cond.selects yX8_terms.cls yX8_terms yX8_terms ∈ TB ∧ mMd D_X8_terms := ⟨w_4_148, w_4_150, ws_X8_terms, md_X8_terms⟩
theorem lk_X8_264 : Cond.methodLink RX8 264 yX8_isSheet ∈ TB ∧ Cond.static yX8_isSheet ∈ TB ∧ mMd D_X8_isSheet := ⟨w_4_197, w_4_198, md_X8_isSheet⟩
theorem lk_X8_267 : Cond.methodLink RX8 267 yX8_found ∈ TB ∧ Cond.instanceMethod yX8_found ∈ TB ∧ Cond.selects yX8_found.cls yX8_found yX8_found ∈ TB ∧ mMd D_X8_found := ⟨w_4_200, w_4_202, ws_X8_found, md_X8_found⟩
theorem lk_X8_271 : Cond.methodLink RX8 271 yX8_lowest ∈ TB ∧ Cond.static yX8_lowest ∈ TB ∧ mMd D_X8_lowest := ⟨w_4_220, w_4_221, md_X8_lowest⟩
theorem lk_X0_24 : (∀ ad base U H, mEnv ad base U H → va_Nw (.methodLinkNest RX0 24 yX7_degreeOf RX7) U) ∧ Cond.static yX7_degreeOf ∈ TB ∧ mMd D_X7_degreeOf := ⟨fun _ _ _ _ h => h.1.1, w_2_50, md_X7_degreeOf⟩
theorem lk_X0_59 : (∀ ad base U H, mEnv ad base U H → va_Nw (.methodLinkNest RX0 59 yX7_commonDivisor RX7) U) ∧ Cond.static yX7_commonDivisor ∈ TB ∧ mMd D_X7_commonDivisor := ⟨fun _ _ _ _ h => h.1.2.1, w_2_92, md_X7_commonDivisor⟩
theorem lk_X1_42 : (∀ ad base U H, mEnv ad base U H → va_Nw (.methodLinkNest RX1 42 yX7_degreeOf RX7) U) ∧ Cond.static yX7_degreeOf ∈ TB ∧ mMd D_X7_degreeOf := ⟨fun _ _ _ _ h => h.1.2.2.1, w_2_50, md_X7_degreeOf⟩
theorem lk_X4_37 : (∀ ad base U H, mEnv ad base U H → va_Nw (.methodLinkNest RX4 37 yX7_isPart RX7) U) ∧ Cond.static yX7_isPart ∈ TB ∧ mMd D_X7_isPart := ⟨fun _ _ _ _ h => h.1.2.2.2, w_2_8, md_X7_isPart⟩
theorem ct_X7_184 : Cond.constant RX7 184 (100000) ∈ TB := w_2_216
theorem ct_X3_28 : Cond.constant RX3 28 (1103515245) ∈ TB := w_3_21
theorem ct_X3_29 : Cond.constant RX3 29 (2147483647) ∈ TB := w_3_22
theorem ct_X3_30 : Cond.constant RX3 30 (65536) ∈ TB := w_3_23
theorem ct_X8_218 : Cond.constant RX8 218 (100000) ∈ TB := w_4_137
theorem ct_X8_263 : Cond.constant RX8 263 (65536) ∈ TB := w_4_176
theorem ct_J6_265 : Cond.constant RJ6 265 (1431655765) ∈ TB := w_2_208
theorem ct_J6_266 : Cond.constant RJ6 266 (858993459) ∈ TB := w_2_209
theorem ct_J6_267 : Cond.constant RJ6 267 (252645135) ∈ TB := w_2_210
theorem cl_X7_119 : Cond.constantLong RX7 119 (-1) ∈ TB := w_2_128
theorem cl_X7_134 : Cond.constantLong RX7 134 (-4) ∈ TB := w_2_130
theorem cl_X7_146 : Cond.constantLong RX7 146 (2) ∈ TB := w_2_132
theorem cl_X7_178 : Cond.constantLong RX7 178 (100000) ∈ TB := w_2_214
theorem cl_X7_269 : Cond.constantLong RX7 269 (-9) ∈ TB := w_2_10
theorem cl_X7_271 : Cond.constantLong RX7 271 (9) ∈ TB := w_2_11
theorem cl_X0_63 : Cond.constantLong RX0 63 (2) ∈ TB := w_2_94
theorem cl_X1_54 : Cond.constantLong RX1 54 (4) ∈ TB := w_2_109
theorem cl_X1_56 : Cond.constantLong RX1 56 (2) ∈ TB := w_2_118
theorem cl_X1_58 : Cond.constantLong RX1 58 (6) ∈ TB := w_2_119
theorem cl_L_119 : Cond.constantLong RL 119 (4294967295) ∈ TB := w_4_227
theorem cl_X8_73 : Cond.constantLong RX8 73 (8) ∈ TB := w_4_5
theorem cl_X8_96 : Cond.constantLong RX8 96 (4) ∈ TB := w_3_210
theorem cl_X8_149 : Cond.constantLong RX8 149 (-9) ∈ TB := w_3_211
theorem cl_X8_151 : Cond.constantLong RX8 151 (9) ∈ TB := w_3_212
theorem cl_X8_156 : Cond.constantLong RX8 156 (-800) ∈ TB := w_3_227
theorem cl_X8_158 : Cond.constantLong RX8 158 (800) ∈ TB := w_3_228
theorem cl_X8_174 : Cond.constantLong RX8 174 (3) ∈ TB := w_4_17
theorem cl_X8_192 : Cond.constantLong RX8 192 (-1) ∈ TB := w_4_74
theorem cl_X8_197 : Cond.constantLong RX8 197 (-4) ∈ TB := w_4_94
theorem cl_X8_199 : Cond.constantLong RX8 199 (2) ∈ TB := w_4_95
theorem cl_X8_214 : Cond.constantLong RX8 214 (10) ∈ TB := w_4_135
theorem cl_X8_216 : Cond.constantLong RX8 216 (100000) ∈ TB := w_4_136
theorem cl_X8_219 : Cond.constantLong RX8 219 (32) ∈ TB := w_4_142
theorem cl_X8_221 : Cond.constantLong RX8 221 (126) ∈ TB := w_4_143
theorem cl_X8_233 : Cond.constantLong RX8 233 (49) ∈ TB := w_4_164
theorem cl_X8_235 : Cond.constantLong RX8 235 (57) ∈ TB := w_4_165
theorem cl_X8_245 : Cond.constantLong RX8 245 (50) ∈ TB := w_4_166
theorem cl_X8_247 : Cond.constantLong RX8 247 (52) ∈ TB := w_4_167
theorem cl_X8_255 : Cond.constantLong RX8 255 (40) ∈ TB := w_4_172
theorem cl_X8_257 : Cond.constantLong RX8 257 (1103515245) ∈ TB := w_4_173
theorem cl_X8_259 : Cond.constantLong RX8 259 (12345) ∈ TB := w_4_174
theorem cl_X8_261 : Cond.constantLong RX8 261 (2147483648) ∈ TB := w_4_175

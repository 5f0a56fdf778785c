theorem dX1_rootsOnAxisOfFour_34 : decode cX1_rootsOnAxisOfFour 34 = .ok (.lload_n 0, 1) := by decide +kernel
theorem dX1_rootsOnAxisOfFour_35 : decode cX1_rootsOnAxisOfFour 35 = .ok (.lmul, 1) := by decide +kernel
theorem dX1_rootsOnAxisOfFour_36 : decode cX1_rootsOnAxisOfFour 36 = .ok (.lload 4, 2) := by decide +kernel
theorem dX1_rootsOnAxisOfFour_38 : decode cX1_rootsOnAxisOfFour 38 = .ok (.lmul, 1) := by decide +kernel
theorem dX1_rootsOnAxisOfFour_39 : decode cX1_rootsOnAxisOfFour 39 = .ok (.lcmp, 1) := by decide +kernel
theorem dX1_rootsOnAxisOfFour_40 : decode cX1_rootsOnAxisOfFour 40 = .ok (.ifCond .lt 7, 3) := by decide +kernel
theorem dX1_rootsOnAxisOfFour_43 : decode cX1_rootsOnAxisOfFour 43 = .ok (.iconst 1, 1) := by decide +kernel
theorem dX1_rootsOnAxisOfFour_44 : decode cX1_rootsOnAxisOfFour 44 = .ok (.goto 4, 3) := by decide +kernel
theorem dX1_rootsOnAxisOfFour_47 : decode cX1_rootsOnAxisOfFour 47 = .ok (.iconst 0, 1) := by decide +kernel
theorem dX1_rootsOnAxisOfFour_48 : decode cX1_rootsOnAxisOfFour 48 = .ok (.istore 6, 2) := by decide +kernel
theorem dX1_rootsOnAxisOfFour_50 : decode cX1_rootsOnAxisOfFour 50 = .ok (.iload 6, 2) := by decide +kernel
theorem dX1_rootsOnAxisOfFour_52 : decode cX1_rootsOnAxisOfFour 52 = .ok (.ifCond .eq 38, 3) := by decide +kernel
theorem dX1_rootsOnAxisOfFour_55 : decode cX1_rootsOnAxisOfFour 55 = .ok (.lload_n 2, 1) := by decide +kernel
theorem dX1_rootsOnAxisOfFour_56 : decode cX1_rootsOnAxisOfFour 56 = .ok (.lconst 0, 1) := by decide +kernel
theorem dX1_rootsOnAxisOfFour_57 : decode cX1_rootsOnAxisOfFour 57 = .ok (.lcmp, 1) := by decide +kernel
theorem dX1_rootsOnAxisOfFour_58 : decode cX1_rootsOnAxisOfFour 58 = .ok (.ifCond .eq 32, 3) := by decide +kernel
theorem dX1_rootsOnAxisOfFour_61 : decode cX1_rootsOnAxisOfFour 61 = .ok (.lload_n 0, 1) := by decide +kernel
theorem dX1_rootsOnAxisOfFour_62 : decode cX1_rootsOnAxisOfFour 62 = .ok (.lconst 0, 1) := by decide +kernel
theorem dX1_rootsOnAxisOfFour_63 : decode cX1_rootsOnAxisOfFour 63 = .ok (.lcmp, 1) := by decide +kernel
theorem dX1_rootsOnAxisOfFour_64 : decode cX1_rootsOnAxisOfFour 64 = .ok (.ifCond .ge 7, 3) := by decide +kernel
theorem dX1_rootsOnAxisOfFour_67 : decode cX1_rootsOnAxisOfFour 67 = .ok (.iconst 1, 1) := by decide +kernel
theorem dX1_rootsOnAxisOfFour_68 : decode cX1_rootsOnAxisOfFour 68 = .ok (.goto 4, 3) := by decide +kernel
theorem dX1_rootsOnAxisOfFour_71 : decode cX1_rootsOnAxisOfFour 71 = .ok (.iconst 0, 1) := by decide +kernel
theorem dX1_rootsOnAxisOfFour_72 : decode cX1_rootsOnAxisOfFour 72 = .ok (.lload_n 2, 1) := by decide +kernel
theorem dX1_rootsOnAxisOfFour_73 : decode cX1_rootsOnAxisOfFour 73 = .ok (.lconst 0, 1) := by decide +kernel
theorem dX1_rootsOnAxisOfFour_74 : decode cX1_rootsOnAxisOfFour 74 = .ok (.lcmp, 1) := by decide +kernel
theorem dX1_rootsOnAxisOfFour_75 : decode cX1_rootsOnAxisOfFour 75 = .ok (.ifCond .ge 7, 3) := by decide +kernel
theorem dX1_rootsOnAxisOfFour_78 : decode cX1_rootsOnAxisOfFour 78 = .ok (.iconst 1, 1) := by decide +kernel
theorem dX1_rootsOnAxisOfFour_79 : decode cX1_rootsOnAxisOfFour 79 = .ok (.goto 4, 3) := by decide +kernel
theorem dX1_rootsOnAxisOfFour_82 : decode cX1_rootsOnAxisOfFour 82 = .ok (.iconst 0, 1) := by decide +kernel
theorem dX1_rootsOnAxisOfFour_83 : decode cX1_rootsOnAxisOfFour 83 = .ok (.if_icmp .ne 7, 3) := by decide +kernel
theorem dX1_rootsOnAxisOfFour_86 : decode cX1_rootsOnAxisOfFour 86 = .ok (.iconst 4, 1) := by decide +kernel
theorem dX1_rootsOnAxisOfFour_87 : decode cX1_rootsOnAxisOfFour 87 = .ok (.goto 4, 3) := by decide +kernel
theorem dX1_rootsOnAxisOfFour_90 : decode cX1_rootsOnAxisOfFour 90 = .ok (.iconst 0, 1) := by decide +kernel
theorem dX1_rootsOnAxisOfFour_91 : decode cX1_rootsOnAxisOfFour 91 = .ok (.ireturn, 1) := by decide +kernel
theorem dX1_isSteadyByAxis_0 : decode cX1_isSteadyByAxis 0 = .ok (.aload_n 0, 1) := by decide +kernel
theorem dX1_isSteadyByAxis_1 : decode cX1_isSteadyByAxis 1 = .ok (.invokestatic 42, 3) := by decide +kernel
theorem dX1_isSteadyByAxis_4 : decode cX1_isSteadyByAxis 4 = .ok (.istore_n 1, 1) := by decide +kernel
theorem dX1_isSteadyByAxis_5 : decode cX1_isSteadyByAxis 5 = .ok (.iload_n 1, 1) := by decide +kernel
theorem dX1_isSteadyByAxis_6 : decode cX1_isSteadyByAxis 6 = .ok (.iconst (-1), 1) := by decide +kernel
theorem dX1_isSteadyByAxis_7 : decode cX1_isSteadyByAxis 7 = .ok (.if_icmp .ne 5, 3) := by decide +kernel
theorem dX1_isSteadyByAxis_10 : decode cX1_isSteadyByAxis 10 = .ok (.iconst 0, 1) := by decide +kernel
theorem dX1_isSteadyByAxis_11 : decode cX1_isSteadyByAxis 11 = .ok (.ireturn, 1) := by decide +kernel
theorem dX1_isSteadyByAxis_12 : decode cX1_isSteadyByAxis 12 = .ok (.aload_n 0, 1) := by decide +kernel
theorem dX1_isSteadyByAxis_13 : decode cX1_isSteadyByAxis 13 = .ok (.iload_n 1, 1) := by decide +kernel
theorem dX1_isSteadyByAxis_14 : decode cX1_isSteadyByAxis 14 = .ok (.laload, 1) := by decide +kernel
theorem dX1_isSteadyByAxis_15 : decode cX1_isSteadyByAxis 15 = .ok (.lconst 0, 1) := by decide +kernel
theorem dX1_isSteadyByAxis_16 : decode cX1_isSteadyByAxis 16 = .ok (.lcmp, 1) := by decide +kernel
theorem dX1_isSteadyByAxis_17 : decode cX1_isSteadyByAxis 17 = .ok (.ifCond .ge 7, 3) := by decide +kernel
theorem dX1_isSteadyByAxis_20 : decode cX1_isSteadyByAxis 20 = .ok (.iconst 1, 1) := by decide +kernel
theorem dX1_isSteadyByAxis_21 : decode cX1_isSteadyByAxis 21 = .ok (.goto 4, 3) := by decide +kernel
theorem dX1_isSteadyByAxis_24 : decode cX1_isSteadyByAxis 24 = .ok (.iconst 0, 1) := by decide +kernel
theorem dX1_isSteadyByAxis_25 : decode cX1_isSteadyByAxis 25 = .ok (.istore_n 2, 1) := by decide +kernel
theorem dX1_isSteadyByAxis_26 : decode cX1_isSteadyByAxis 26 = .ok (.iconst 0, 1) := by decide +kernel
theorem dX1_isSteadyByAxis_27 : decode cX1_isSteadyByAxis 27 = .ok (.istore_n 3, 1) := by decide +kernel
theorem dX1_isSteadyByAxis_28 : decode cX1_isSteadyByAxis 28 = .ok (.iload_n 3, 1) := by decide +kernel
theorem dX1_isSteadyByAxis_29 : decode cX1_isSteadyByAxis 29 = .ok (.iload_n 1, 1) := by decide +kernel
theorem dX1_isSteadyByAxis_30 : decode cX1_isSteadyByAxis 30 = .ok (.if_icmp .ge 36, 3) := by decide +kernel
theorem dX1_isSteadyByAxis_33 : decode cX1_isSteadyByAxis 33 = .ok (.aload_n 0, 1) := by decide +kernel
theorem dX1_isSteadyByAxis_34 : decode cX1_isSteadyByAxis 34 = .ok (.iload_n 3, 1) := by decide +kernel
theorem dX1_isSteadyByAxis_35 : decode cX1_isSteadyByAxis 35 = .ok (.laload, 1) := by decide +kernel
theorem dX1_isSteadyByAxis_36 : decode cX1_isSteadyByAxis 36 = .ok (.lconst 0, 1) := by decide +kernel
theorem dX1_isSteadyByAxis_37 : decode cX1_isSteadyByAxis 37 = .ok (.lcmp, 1) := by decide +kernel
theorem dX1_isSteadyByAxis_38 : decode cX1_isSteadyByAxis 38 = .ok (.ifCond .eq 20, 3) := by decide +kernel
theorem dX1_isSteadyByAxis_41 : decode cX1_isSteadyByAxis 41 = .ok (.aload_n 0, 1) := by decide +kernel
theorem dX1_isSteadyByAxis_42 : decode cX1_isSteadyByAxis 42 = .ok (.iload_n 3, 1) := by decide +kernel
theorem dX1_isSteadyByAxis_43 : decode cX1_isSteadyByAxis 43 = .ok (.laload, 1) := by decide +kernel
theorem dX1_isSteadyByAxis_44 : decode cX1_isSteadyByAxis 44 = .ok (.lconst 0, 1) := by decide +kernel
theorem dX1_isSteadyByAxis_45 : decode cX1_isSteadyByAxis 45 = .ok (.lcmp, 1) := by decide +kernel
theorem dX1_isSteadyByAxis_46 : decode cX1_isSteadyByAxis 46 = .ok (.ifCond .ge 7, 3) := by decide +kernel
theorem dX1_isSteadyByAxis_49 : decode cX1_isSteadyByAxis 49 = .ok (.iconst 1, 1) := by decide +kernel
theorem dX1_isSteadyByAxis_50 : decode cX1_isSteadyByAxis 50 = .ok (.goto 4, 3) := by decide +kernel
theorem dX1_isSteadyByAxis_53 : decode cX1_isSteadyByAxis 53 = .ok (.iconst 0, 1) := by decide +kernel
theorem dX1_isSteadyByAxis_54 : decode cX1_isSteadyByAxis 54 = .ok (.iload_n 2, 1) := by decide +kernel
theorem dX1_isSteadyByAxis_55 : decode cX1_isSteadyByAxis 55 = .ok (.if_icmp .eq 5, 3) := by decide +kernel
theorem dX1_isSteadyByAxis_58 : decode cX1_isSteadyByAxis 58 = .ok (.iconst 0, 1) := by decide +kernel
theorem dX1_isSteadyByAxis_59 : decode cX1_isSteadyByAxis 59 = .ok (.ireturn, 1) := by decide +kernel
theorem dX1_isSteadyByAxis_60 : decode cX1_isSteadyByAxis 60 = .ok (.iinc 3 1, 3) := by decide +kernel
theorem dX1_isSteadyByAxis_63 : decode cX1_isSteadyByAxis 63 = .ok (.goto (-35), 3) := by decide +kernel
theorem dX1_isSteadyByAxis_66 : decode cX1_isSteadyByAxis 66 = .ok (.iload_n 1, 1) := by decide +kernel
theorem dX1_isSteadyByAxis_67 : decode cX1_isSteadyByAxis 67 = .ok (.iconst 3, 1) := by decide +kernel
theorem dX1_isSteadyByAxis_68 : decode cX1_isSteadyByAxis 68 = .ok (.if_icmp .ge 5, 3) := by decide +kernel
theorem dX1_isSteadyByAxis_71 : decode cX1_isSteadyByAxis 71 = .ok (.iconst 1, 1) := by decide +kernel
theorem dX1_isSteadyByAxis_72 : decode cX1_isSteadyByAxis 72 = .ok (.ireturn, 1) := by decide +kernel
theorem dX1_isSteadyByAxis_73 : decode cX1_isSteadyByAxis 73 = .ok (.aload_n 0, 1) := by decide +kernel
theorem dX1_isSteadyByAxis_74 : decode cX1_isSteadyByAxis 74 = .ok (.iconst 3, 1) := by decide +kernel
theorem dX1_isSteadyByAxis_75 : decode cX1_isSteadyByAxis 75 = .ok (.laload, 1) := by decide +kernel
theorem dX1_isSteadyByAxis_76 : decode cX1_isSteadyByAxis 76 = .ok (.aload_n 0, 1) := by decide +kernel
theorem dX1_isSteadyByAxis_77 : decode cX1_isSteadyByAxis 77 = .ok (.iconst 2, 1) := by decide +kernel
theorem dX1_isSteadyByAxis_78 : decode cX1_isSteadyByAxis 78 = .ok (.laload, 1) := by decide +kernel
theorem dX1_isSteadyByAxis_79 : decode cX1_isSteadyByAxis 79 = .ok (.aload_n 0, 1) := by decide +kernel
theorem dX1_isSteadyByAxis_80 : decode cX1_isSteadyByAxis 80 = .ok (.iconst 1, 1) := by decide +kernel
theorem dX1_isSteadyByAxis_81 : decode cX1_isSteadyByAxis 81 = .ok (.laload, 1) := by decide +kernel
theorem dX1_isSteadyByAxis_82 : decode cX1_isSteadyByAxis 82 = .ok (.lmul, 1) := by decide +kernel
theorem dX1_isSteadyByAxis_83 : decode cX1_isSteadyByAxis 83 = .ok (.aload_n 0, 1) := by decide +kernel
theorem dX1_isSteadyByAxis_84 : decode cX1_isSteadyByAxis 84 = .ok (.iconst 3, 1) := by decide +kernel
theorem dX1_isSteadyByAxis_85 : decode cX1_isSteadyByAxis 85 = .ok (.laload, 1) := by decide +kernel
theorem dX1_isSteadyByAxis_86 : decode cX1_isSteadyByAxis 86 = .ok (.aload_n 0, 1) := by decide +kernel
theorem dX1_isSteadyByAxis_87 : decode cX1_isSteadyByAxis 87 = .ok (.iconst 0, 1) := by decide +kernel
theorem dX1_isSteadyByAxis_88 : decode cX1_isSteadyByAxis 88 = .ok (.laload, 1) := by decide +kernel
theorem dX1_isSteadyByAxis_89 : decode cX1_isSteadyByAxis 89 = .ok (.lmul, 1) := by decide +kernel
theorem dX1_isSteadyByAxis_90 : decode cX1_isSteadyByAxis 90 = .ok (.lsub, 1) := by decide +kernel
theorem dX1_isSteadyByAxis_91 : decode cX1_isSteadyByAxis 91 = .ok (.lmul, 1) := by decide +kernel
theorem dX1_isSteadyByAxis_92 : decode cX1_isSteadyByAxis 92 = .ok (.aload_n 0, 1) := by decide +kernel
theorem dX1_isSteadyByAxis_93 : decode cX1_isSteadyByAxis 93 = .ok (.iconst 4, 1) := by decide +kernel
theorem dX1_isSteadyByAxis_94 : decode cX1_isSteadyByAxis 94 = .ok (.laload, 1) := by decide +kernel
theorem dX1_isSteadyByAxis_95 : decode cX1_isSteadyByAxis 95 = .ok (.aload_n 0, 1) := by decide +kernel
theorem dX1_isSteadyByAxis_96 : decode cX1_isSteadyByAxis 96 = .ok (.iconst 1, 1) := by decide +kernel
theorem dX1_isSteadyByAxis_97 : decode cX1_isSteadyByAxis 97 = .ok (.laload, 1) := by decide +kernel
theorem dX1_isSteadyByAxis_98 : decode cX1_isSteadyByAxis 98 = .ok (.lmul, 1) := by decide +kernel
theorem dX1_isSteadyByAxis_99 : decode cX1_isSteadyByAxis 99 = .ok (.aload_n 0, 1) := by decide +kernel
theorem dX1_isSteadyByAxis_100 : decode cX1_isSteadyByAxis 100 = .ok (.iconst 1, 1) := by decide +kernel
theorem dX1_isSteadyByAxis_101 : decode cX1_isSteadyByAxis 101 = .ok (.laload, 1) := by decide +kernel
theorem dX1_isSteadyByAxis_102 : decode cX1_isSteadyByAxis 102 = .ok (.lmul, 1) := by decide +kernel
theorem dX1_isSteadyByAxis_103 : decode cX1_isSteadyByAxis 103 = .ok (.lsub, 1) := by decide +kernel
theorem dX1_isSteadyByAxis_104 : decode cX1_isSteadyByAxis 104 = .ok (.lstore_n 3, 1) := by decide +kernel
theorem dX1_isSteadyByAxis_105 : decode cX1_isSteadyByAxis 105 = .ok (.iload_n 2, 1) := by decide +kernel
theorem dX1_isSteadyByAxis_106 : decode cX1_isSteadyByAxis 106 = .ok (.ifCond .eq 17, 3) := by decide +kernel
theorem dX1_isSteadyByAxis_109 : decode cX1_isSteadyByAxis 109 = .ok (.lload_n 3, 1) := by decide +kernel
theorem dX1_isSteadyByAxis_110 : decode cX1_isSteadyByAxis 110 = .ok (.lconst 0, 1) := by decide +kernel
theorem dX1_isSteadyByAxis_111 : decode cX1_isSteadyByAxis 111 = .ok (.lcmp, 1) := by decide +kernel
theorem dX1_isSteadyByAxis_112 : decode cX1_isSteadyByAxis 112 = .ok (.ifCond .ge 7, 3) := by decide +kernel
theorem dX1_isSteadyByAxis_115 : decode cX1_isSteadyByAxis 115 = .ok (.iconst 1, 1) := by decide +kernel
theorem dX1_isSteadyByAxis_116 : decode cX1_isSteadyByAxis 116 = .ok (.goto 18, 3) := by decide +kernel
theorem dX1_isSteadyByAxis_119 : decode cX1_isSteadyByAxis 119 = .ok (.iconst 0, 1) := by decide +kernel
theorem dX1_isSteadyByAxis_120 : decode cX1_isSteadyByAxis 120 = .ok (.goto 14, 3) := by decide +kernel
theorem dX1_isSteadyByAxis_123 : decode cX1_isSteadyByAxis 123 = .ok (.lload_n 3, 1) := by decide +kernel
theorem dX1_isSteadyByAxis_124 : decode cX1_isSteadyByAxis 124 = .ok (.lconst 0, 1) := by decide +kernel
theorem dX1_isSteadyByAxis_125 : decode cX1_isSteadyByAxis 125 = .ok (.lcmp, 1) := by decide +kernel
theorem dX1_isSteadyByAxis_126 : decode cX1_isSteadyByAxis 126 = .ok (.ifCond .le 7, 3) := by decide +kernel
theorem dX1_isSteadyByAxis_129 : decode cX1_isSteadyByAxis 129 = .ok (.iconst 1, 1) := by decide +kernel
theorem dX1_isSteadyByAxis_130 : decode cX1_isSteadyByAxis 130 = .ok (.goto 4, 3) := by decide +kernel
theorem dX1_isSteadyByAxis_133 : decode cX1_isSteadyByAxis 133 = .ok (.iconst 0, 1) := by decide +kernel
theorem dX1_isSteadyByAxis_134 : decode cX1_isSteadyByAxis 134 = .ok (.ireturn, 1) := by decide +kernel
theorem dX2_init_0 : decode cX2_init 0 = .ok (.aload_n 0, 1) := by decide +kernel
theorem dX2_init_1 : decode cX2_init 1 = .ok (.invokespecial 1, 3) := by decide +kernel
theorem dX2_init_4 : decode cX2_init 4 = .ok (.aload_n 0, 1) := by decide +kernel
theorem dX2_init_5 : decode cX2_init 5 = .ok (.bipush 6, 2) := by decide +kernel
theorem dX2_init_7 : decode cX2_init 7 = .ok (.anewarray 9, 3) := by decide +kernel
theorem dX2_init_10 : decode cX2_init 10 = .ok (.putfield 11, 3) := by decide +kernel
theorem dX2_init_13 : decode cX2_init 13 = .ok (.iconst 0, 1) := by decide +kernel
theorem dX2_init_14 : decode cX2_init 14 = .ok (.istore_n 1, 1) := by decide +kernel
theorem dX2_init_15 : decode cX2_init 15 = .ok (.iload_n 1, 1) := by decide +kernel
theorem dX2_init_16 : decode cX2_init 16 = .ok (.bipush 6, 2) := by decide +kernel
theorem dX2_init_18 : decode cX2_init 18 = .ok (.if_icmp .ge 22, 3) := by decide +kernel
theorem dX2_init_21 : decode cX2_init 21 = .ok (.aload_n 0, 1) := by decide +kernel
theorem dX2_init_22 : decode cX2_init 22 = .ok (.getfield 11, 3) := by decide +kernel
theorem dX2_init_25 : decode cX2_init 25 = .ok (.iload_n 1, 1) := by decide +kernel
theorem dX2_init_26 : decode cX2_init 26 = .ok (.new 9, 3) := by decide +kernel
theorem dX2_init_29 : decode cX2_init 29 = .ok (.dup, 1) := by decide +kernel
theorem dX2_init_30 : decode cX2_init 30 = .ok (.invokespecial 15, 3) := by decide +kernel
theorem dX2_init_33 : decode cX2_init 33 = .ok (.aastore, 1) := by decide +kernel
theorem dX2_init_34 : decode cX2_init 34 = .ok (.iinc 1 1, 3) := by decide +kernel
theorem dX2_init_37 : decode cX2_init 37 = .ok (.goto (-22), 3) := by decide +kernel
theorem dX2_init_40 : decode cX2_init 40 = .ok (.aload_n 0, 1) := by decide +kernel
theorem dX2_init_41 : decode cX2_init 41 = .ok (.iconst 0, 1) := by decide +kernel
theorem dX2_init_42 : decode cX2_init 42 = .ok (.putfield 16, 3) := by decide +kernel
theorem dX2_init_45 : decode cX2_init 45 = .ok (.aload_n 0, 1) := by decide +kernel
theorem dX2_init_46 : decode cX2_init 46 = .ok (.iconst 0, 1) := by decide +kernel
theorem dX2_init_47 : decode cX2_init 47 = .ok (.putfield 20, 3) := by decide +kernel
theorem dX2_init_50 : decode cX2_init 50 = .ok (.return_, 1) := by decide +kernel
theorem dX2_keep_0 : decode cX2_keep 0 = .ok (.aload_n 0, 1) := by decide +kernel
theorem dX2_keep_1 : decode cX2_keep 1 = .ok (.aload_n 0, 1) := by decide +kernel
theorem dX2_keep_2 : decode cX2_keep 2 = .ok (.getfield 16, 3) := by decide +kernel
theorem dX2_keep_5 : decode cX2_keep 5 = .ok (.iconst 1, 1) := by decide +kernel
theorem dX2_keep_6 : decode cX2_keep 6 = .ok (.iadd, 1) := by decide +kernel
theorem dX2_keep_7 : decode cX2_keep 7 = .ok (.bipush 6, 2) := by decide +kernel
theorem dX2_keep_9 : decode cX2_keep 9 = .ok (.irem, 1) := by decide +kernel
theorem dX2_keep_10 : decode cX2_keep 10 = .ok (.putfield 16, 3) := by decide +kernel
theorem dX2_keep_13 : decode cX2_keep 13 = .ok (.aload_n 0, 1) := by decide +kernel
theorem dX2_keep_14 : decode cX2_keep 14 = .ok (.getfield 11, 3) := by decide +kernel
theorem dX2_keep_17 : decode cX2_keep 17 = .ok (.aload_n 0, 1) := by decide +kernel
theorem dX2_keep_18 : decode cX2_keep 18 = .ok (.getfield 16, 3) := by decide +kernel
theorem dX2_keep_21 : decode cX2_keep 21 = .ok (.aaload, 1) := by decide +kernel
theorem dX2_keep_22 : decode cX2_keep 22 = .ok (.aload_n 1, 1) := by decide +kernel
theorem dX2_keep_23 : decode cX2_keep 23 = .ok (.invokevirtual 23, 3) := by decide +kernel
theorem dX2_keep_26 : decode cX2_keep 26 = .ok (.aload_n 0, 1) := by decide +kernel
theorem dX2_keep_27 : decode cX2_keep 27 = .ok (.getfield 20, 3) := by decide +kernel
theorem dX2_keep_30 : decode cX2_keep 30 = .ok (.bipush 6, 2) := by decide +kernel
theorem dX2_keep_32 : decode cX2_keep 32 = .ok (.if_icmp .ge 13, 3) := by decide +kernel
theorem dX2_keep_35 : decode cX2_keep 35 = .ok (.aload_n 0, 1) := by decide +kernel
theorem dX2_keep_36 : decode cX2_keep 36 = .ok (.dup, 1) := by decide +kernel
theorem dX2_keep_37 : decode cX2_keep 37 = .ok (.getfield 20, 3) := by decide +kernel
theorem dX2_keep_40 : decode cX2_keep 40 = .ok (.iconst 1, 1) := by decide +kernel
theorem dX2_keep_41 : decode cX2_keep 41 = .ok (.iadd, 1) := by decide +kernel
theorem dX2_keep_42 : decode cX2_keep 42 = .ok (.putfield 20, 3) := by decide +kernel
theorem dX2_keep_45 : decode cX2_keep 45 = .ok (.return_, 1) := by decide +kernel
theorem dX2_giveBack_0 : decode cX2_giveBack 0 = .ok (.aload_n 1, 1) := by decide +kernel
theorem dX2_giveBack_1 : decode cX2_giveBack 1 = .ok (.aload_n 0, 1) := by decide +kernel
theorem dX2_giveBack_2 : decode cX2_giveBack 2 = .ok (.getfield 11, 3) := by decide +kernel
theorem dX2_giveBack_5 : decode cX2_giveBack 5 = .ok (.aload_n 0, 1) := by decide +kernel
theorem dX2_giveBack_6 : decode cX2_giveBack 6 = .ok (.getfield 16, 3) := by decide +kernel
theorem dX2_giveBack_9 : decode cX2_giveBack 9 = .ok (.aaload, 1) := by decide +kernel
theorem dX2_giveBack_10 : decode cX2_giveBack 10 = .ok (.invokevirtual 23, 3) := by decide +kernel
theorem dX2_giveBack_13 : decode cX2_giveBack 13 = .ok (.aload_n 0, 1) := by decide +kernel
theorem dX2_giveBack_14 : decode cX2_giveBack 14 = .ok (.aload_n 0, 1) := by decide +kernel
theorem dX2_giveBack_15 : decode cX2_giveBack 15 = .ok (.getfield 16, 3) := by decide +kernel
theorem dX2_giveBack_18 : decode cX2_giveBack 18 = .ok (.bipush 6, 2) := by decide +kernel
theorem dX2_giveBack_20 : decode cX2_giveBack 20 = .ok (.iadd, 1) := by decide +kernel
theorem dX2_giveBack_21 : decode cX2_giveBack 21 = .ok (.iconst 1, 1) := by decide +kernel
theorem dX2_giveBack_22 : decode cX2_giveBack 22 = .ok (.isub, 1) := by decide +kernel
theorem dX2_giveBack_23 : decode cX2_giveBack 23 = .ok (.bipush 6, 2) := by decide +kernel
theorem dX2_giveBack_25 : decode cX2_giveBack 25 = .ok (.irem, 1) := by decide +kernel
theorem dX2_giveBack_26 : decode cX2_giveBack 26 = .ok (.putfield 16, 3) := by decide +kernel
theorem dX2_giveBack_29 : decode cX2_giveBack 29 = .ok (.aload_n 0, 1) := by decide +kernel
theorem dX2_giveBack_30 : decode cX2_giveBack 30 = .ok (.dup, 1) := by decide +kernel
theorem dX2_giveBack_31 : decode cX2_giveBack 31 = .ok (.getfield 20, 3) := by decide +kernel
theorem dX2_giveBack_34 : decode cX2_giveBack 34 = .ok (.iconst 1, 1) := by decide +kernel
theorem dX2_giveBack_35 : decode cX2_giveBack 35 = .ok (.isub, 1) := by decide +kernel
theorem dX2_giveBack_36 : decode cX2_giveBack 36 = .ok (.putfield 20, 3) := by decide +kernel
theorem dX2_giveBack_39 : decode cX2_giveBack 39 = .ok (.return_, 1) := by decide +kernel
theorem dX2_become_0 : decode cX2_become 0 = .ok (.iconst 0, 1) := by decide +kernel
theorem dX2_become_1 : decode cX2_become 1 = .ok (.istore_n 2, 1) := by decide +kernel
theorem dX2_become_2 : decode cX2_become 2 = .ok (.iload_n 2, 1) := by decide +kernel
theorem dX2_become_3 : decode cX2_become 3 = .ok (.bipush 6, 2) := by decide +kernel
theorem dX2_become_5 : decode cX2_become 5 = .ok (.if_icmp .ge 24, 3) := by decide +kernel
theorem dX2_become_8 : decode cX2_become 8 = .ok (.aload_n 0, 1) := by decide +kernel
theorem dX2_become_9 : decode cX2_become 9 = .ok (.getfield 11, 3) := by decide +kernel
theorem dX2_become_12 : decode cX2_become 12 = .ok (.iload_n 2, 1) := by decide +kernel
theorem dX2_become_13 : decode cX2_become 13 = .ok (.aaload, 1) := by decide +kernel
theorem dX2_become_14 : decode cX2_become 14 = .ok (.aload_n 1, 1) := by decide +kernel
theorem dX2_become_15 : decode cX2_become 15 = .ok (.getfield 11, 3) := by decide +kernel
theorem dX2_become_18 : decode cX2_become 18 = .ok (.iload_n 2, 1) := by decide +kernel
theorem dX2_become_19 : decode cX2_become 19 = .ok (.aaload, 1) := by decide +kernel
theorem dX2_become_20 : decode cX2_become 20 = .ok (.invokevirtual 23, 3) := by decide +kernel
theorem dX2_become_23 : decode cX2_become 23 = .ok (.iinc 2 1, 3) := by decide +kernel
theorem dX2_become_26 : decode cX2_become 26 = .ok (.goto (-24), 3) := by decide +kernel
theorem dX2_become_29 : decode cX2_become 29 = .ok (.aload_n 0, 1) := by decide +kernel
theorem dX2_become_30 : decode cX2_become 30 = .ok (.aload_n 1, 1) := by decide +kernel
theorem dX2_become_31 : decode cX2_become 31 = .ok (.getfield 16, 3) := by decide +kernel
theorem dX2_become_34 : decode cX2_become 34 = .ok (.putfield 16, 3) := by decide +kernel
theorem dX2_become_37 : decode cX2_become 37 = .ok (.aload_n 0, 1) := by decide +kernel
theorem dX2_become_38 : decode cX2_become 38 = .ok (.aload_n 1, 1) := by decide +kernel
theorem dX2_become_39 : decode cX2_become 39 = .ok (.getfield 20, 3) := by decide +kernel
theorem dX2_become_42 : decode cX2_become 42 = .ok (.putfield 20, 3) := by decide +kernel
theorem dX2_become_45 : decode cX2_become 45 = .ok (.return_, 1) := by decide +kernel
theorem dX3_init_0 : decode cX3_init 0 = .ok (.aload_n 0, 1) := by decide +kernel
theorem dX3_init_1 : decode cX3_init 1 = .ok (.invokespecial 3, 3) := by decide +kernel
theorem dX3_init_4 : decode cX3_init 4 = .ok (.aload_n 0, 1) := by decide +kernel
theorem dX3_init_5 : decode cX3_init 5 = .ok (.bipush 10, 2) := by decide +kernel
theorem dX3_init_7 : decode cX3_init 7 = .ok (.newarray .int, 2) := by decide +kernel
theorem dX3_init_9 : decode cX3_init 9 = .ok (.putfield 9, 3) := by decide +kernel
theorem dX3_init_12 : decode cX3_init 12 = .ok (.aload_n 0, 1) := by decide +kernel
theorem dX3_init_13 : decode cX3_init 13 = .ok (.iconst 0, 1) := by decide +kernel
theorem dX3_init_14 : decode cX3_init 14 = .ok (.putfield 15, 3) := by decide +kernel
theorem dX3_init_17 : decode cX3_init 17 = .ok (.aload_n 0, 1) := by decide +kernel
theorem dX3_init_18 : decode cX3_init 18 = .ok (.iconst 1, 1) := by decide +kernel
theorem dX3_init_19 : decode cX3_init 19 = .ok (.putfield 19, 3) := by decide +kernel
theorem dX3_init_22 : decode cX3_init 22 = .ok (.return_, 1) := by decide +kernel
theorem dX3_begin_0 : decode cX3_begin 0 = .ok (.aload_n 0, 1) := by decide +kernel
theorem dX3_begin_1 : decode cX3_begin 1 = .ok (.getfield 9, 3) := by decide +kernel
theorem dX3_begin_4 : decode cX3_begin 4 = .ok (.iconst 0, 1) := by decide +kernel
theorem dX3_begin_5 : decode cX3_begin 5 = .ok (.iconst 1, 1) := by decide +kernel
theorem dX3_begin_6 : decode cX3_begin 6 = .ok (.iastore, 1) := by decide +kernel
theorem dX3_begin_7 : decode cX3_begin 7 = .ok (.aload_n 0, 1) := by decide +kernel
theorem dX3_begin_8 : decode cX3_begin 8 = .ok (.getfield 9, 3) := by decide +kernel
theorem dX3_begin_11 : decode cX3_begin 11 = .ok (.iconst 1, 1) := by decide +kernel
theorem dX3_begin_12 : decode cX3_begin 12 = .ok (.iconst 1, 1) := by decide +kernel
theorem dX3_begin_13 : decode cX3_begin 13 = .ok (.iastore, 1) := by decide +kernel
theorem dX3_begin_14 : decode cX3_begin 14 = .ok (.aload_n 0, 1) := by decide +kernel
theorem dX3_begin_15 : decode cX3_begin 15 = .ok (.getfield 9, 3) := by decide +kernel
theorem dX3_begin_18 : decode cX3_begin 18 = .ok (.iconst 5, 1) := by decide +kernel
theorem dX3_begin_19 : decode cX3_begin 19 = .ok (.iconst 1, 1) := by decide +kernel
theorem dX3_begin_20 : decode cX3_begin 20 = .ok (.iastore, 1) := by decide +kernel
theorem dX3_begin_21 : decode cX3_begin 21 = .ok (.return_, 1) := by decide +kernel
theorem dX3_become_0 : decode cX3_become 0 = .ok (.aload_n 1, 1) := by decide +kernel
theorem dX3_become_1 : decode cX3_become 1 = .ok (.getfield 9, 3) := by decide +kernel
theorem dX3_become_4 : decode cX3_become 4 = .ok (.iconst 0, 1) := by decide +kernel
theorem dX3_become_5 : decode cX3_become 5 = .ok (.aload_n 0, 1) := by decide +kernel
theorem dX3_become_6 : decode cX3_become 6 = .ok (.getfield 9, 3) := by decide +kernel
theorem dX3_become_9 : decode cX3_become 9 = .ok (.iconst 0, 1) := by decide +kernel
theorem dX3_become_10 : decode cX3_become 10 = .ok (.bipush 10, 2) := by decide +kernel
theorem dX3_become_12 : decode cX3_become 12 = .ok (.invokestatic 22, 3) := by decide +kernel
theorem dX3_become_15 : decode cX3_become 15 = .ok (.aload_n 0, 1) := by decide +kernel
theorem dX3_become_16 : decode cX3_become 16 = .ok (.aload_n 1, 1) := by decide +kernel
theorem dX3_become_17 : decode cX3_become 17 = .ok (.getfield 15, 3) := by decide +kernel
theorem dX3_become_20 : decode cX3_become 20 = .ok (.putfield 15, 3) := by decide +kernel
theorem dX3_become_23 : decode cX3_become 23 = .ok (.aload_n 0, 1) := by decide +kernel
theorem dX3_become_24 : decode cX3_become 24 = .ok (.aload_n 1, 1) := by decide +kernel
theorem dX3_become_25 : decode cX3_become 25 = .ok (.getfield 19, 3) := by decide +kernel
theorem dX3_become_28 : decode cX3_become 28 = .ok (.putfield 19, 3) := by decide +kernel
theorem dX3_become_31 : decode cX3_become 31 = .ok (.return_, 1) := by decide +kernel
theorem dX3_degreeTold_0 : decode cX3_degreeTold 0 = .ok (.iconst 4, 1) := by decide +kernel
theorem dX3_degreeTold_1 : decode cX3_degreeTold 1 = .ok (.istore_n 2, 1) := by decide +kernel
theorem dX3_degreeTold_2 : decode cX3_degreeTold 2 = .ok (.iload_n 2, 1) := by decide +kernel
theorem dX3_degreeTold_3 : decode cX3_degreeTold 3 = .ok (.ifCond .lt 24, 3) := by decide +kernel
theorem dX3_degreeTold_6 : decode cX3_degreeTold 6 = .ok (.aload_n 0, 1) := by decide +kernel
theorem dX3_degreeTold_7 : decode cX3_degreeTold 7 = .ok (.getfield 9, 3) := by decide +kernel
theorem dX3_degreeTold_10 : decode cX3_degreeTold 10 = .ok (.iload_n 1, 1) := by decide +kernel
theorem dX3_degreeTold_11 : decode cX3_degreeTold 11 = .ok (.iconst 5, 1) := by decide +kernel
theorem dX3_degreeTold_12 : decode cX3_degreeTold 12 = .ok (.imul, 1) := by decide +kernel
theorem dX3_degreeTold_13 : decode cX3_degreeTold 13 = .ok (.iload_n 2, 1) := by decide +kernel
theorem dX3_degreeTold_14 : decode cX3_degreeTold 14 = .ok (.iadd, 1) := by decide +kernel
theorem dX3_degreeTold_15 : decode cX3_degreeTold 15 = .ok (.iaload, 1) := by decide +kernel
theorem dX3_degreeTold_16 : decode cX3_degreeTold 16 = .ok (.ifCond .eq 5, 3) := by decide +kernel
theorem dX3_degreeTold_19 : decode cX3_degreeTold 19 = .ok (.iload_n 2, 1) := by decide +kernel
theorem dX3_degreeTold_20 : decode cX3_degreeTold 20 = .ok (.ireturn, 1) := by decide +kernel
theorem dX3_degreeTold_21 : decode cX3_degreeTold 21 = .ok (.iinc 2 (-1), 3) := by decide +kernel
theorem dX3_degreeTold_24 : decode cX3_degreeTold 24 = .ok (.goto (-22), 3) := by decide +kernel
theorem dX3_degreeTold_27 : decode cX3_degreeTold 27 = .ok (.iconst (-1), 1) := by decide +kernel
theorem dX3_degreeTold_28 : decode cX3_degreeTold 28 = .ok (.ireturn, 1) := by decide +kernel
theorem dX3_fillLoop_0 : decode cX3_fillLoop 0 = .ok (.iconst 0, 1) := by decide +kernel
theorem dX3_fillLoop_1 : decode cX3_fillLoop 1 = .ok (.istore_n 3, 1) := by decide +kernel
theorem dX3_fillLoop_2 : decode cX3_fillLoop 2 = .ok (.iload_n 3, 1) := by decide +kernel
theorem dX3_fillLoop_3 : decode cX3_fillLoop 3 = .ok (.iconst 5, 1) := by decide +kernel
theorem dX3_fillLoop_4 : decode cX3_fillLoop 4 = .ok (.if_icmp .ge 33, 3) := by decide +kernel
theorem dX3_fillLoop_7 : decode cX3_fillLoop 7 = .ok (.aload_n 1, 1) := by decide +kernel
theorem dX3_fillLoop_8 : decode cX3_fillLoop 8 = .ok (.iload_n 3, 1) := by decide +kernel
theorem dX3_fillLoop_9 : decode cX3_fillLoop 9 = .ok (.bipush 8, 2) := by decide +kernel
theorem dX3_fillLoop_11 : decode cX3_fillLoop 11 = .ok (.aload_n 0, 1) := by decide +kernel
theorem dX3_fillLoop_12 : decode cX3_fillLoop 12 = .ok (.getfield 9, 3) := by decide +kernel
theorem dX3_fillLoop_15 : decode cX3_fillLoop 15 = .ok (.iload_n 3, 1) := by decide +kernel
theorem dX3_fillLoop_16 : decode cX3_fillLoop 16 = .ok (.iaload, 1) := by decide +kernel
theorem dX3_fillLoop_17 : decode cX3_fillLoop 17 = .ok (.imul, 1) := by decide +kernel
theorem dX3_fillLoop_18 : decode cX3_fillLoop 18 = .ok (.iload_n 2, 1) := by decide +kernel
theorem dX3_fillLoop_19 : decode cX3_fillLoop 19 = .ok (.aload_n 0, 1) := by decide +kernel
theorem dX3_fillLoop_20 : decode cX3_fillLoop 20 = .ok (.getfield 9, 3) := by decide +kernel
theorem dX3_fillLoop_23 : decode cX3_fillLoop 23 = .ok (.iconst 5, 1) := by decide +kernel
theorem dX3_fillLoop_24 : decode cX3_fillLoop 24 = .ok (.iload_n 3, 1) := by decide +kernel
theorem dX3_fillLoop_25 : decode cX3_fillLoop 25 = .ok (.iadd, 1) := by decide +kernel
theorem dX3_fillLoop_26 : decode cX3_fillLoop 26 = .ok (.iaload, 1) := by decide +kernel
theorem dX3_fillLoop_27 : decode cX3_fillLoop 27 = .ok (.imul, 1) := by decide +kernel
theorem dX3_fillLoop_28 : decode cX3_fillLoop 28 = .ok (.iadd, 1) := by decide +kernel
theorem dX3_fillLoop_29 : decode cX3_fillLoop 29 = .ok (.i2l, 1) := by decide +kernel
theorem dX3_fillLoop_30 : decode cX3_fillLoop 30 = .ok (.lastore, 1) := by decide +kernel
theorem dX3_fillLoop_31 : decode cX3_fillLoop 31 = .ok (.iinc 3 1, 3) := by decide +kernel
theorem dX3_fillLoop_34 : decode cX3_fillLoop 34 = .ok (.goto (-32), 3) := by decide +kernel
theorem dX3_fillLoop_37 : decode cX3_fillLoop 37 = .ok (.return_, 1) := by decide +kernel
theorem dX3_drawOnce_0 : decode cX3_drawOnce 0 = .ok (.aload_n 0, 1) := by decide +kernel
theorem dX3_drawOnce_1 : decode cX3_drawOnce 1 = .ok (.aload_n 0, 1) := by decide +kernel
theorem dX3_drawOnce_2 : decode cX3_drawOnce 2 = .ok (.getfield 19, 3) := by decide +kernel
theorem dX3_drawOnce_5 : decode cX3_drawOnce 5 = .ok (.ldc 28, 2) := by decide +kernel
theorem dX3_drawOnce_7 : decode cX3_drawOnce 7 = .ok (.imul, 1) := by decide +kernel
theorem dX3_drawOnce_8 : decode cX3_drawOnce 8 = .ok (.sipush 12345, 3) := by decide +kernel
theorem dX3_drawOnce_11 : decode cX3_drawOnce 11 = .ok (.iadd, 1) := by decide +kernel
theorem dX3_drawOnce_12 : decode cX3_drawOnce 12 = .ok (.ldc 29, 2) := by decide +kernel
theorem dX3_drawOnce_14 : decode cX3_drawOnce 14 = .ok (.iand, 1) := by decide +kernel
theorem dX3_drawOnce_15 : decode cX3_drawOnce 15 = .ok (.putfield 19, 3) := by decide +kernel
theorem dX3_drawOnce_18 : decode cX3_drawOnce 18 = .ok (.aload_n 0, 1) := by decide +kernel
theorem dX3_drawOnce_19 : decode cX3_drawOnce 19 = .ok (.getfield 19, 3) := by decide +kernel
theorem dX3_drawOnce_22 : decode cX3_drawOnce 22 = .ok (.ldc 30, 2) := by decide +kernel
theorem dX3_drawOnce_24 : decode cX3_drawOnce 24 = .ok (.idiv, 1) := by decide +kernel
theorem dX3_drawOnce_25 : decode cX3_drawOnce 25 = .ok (.istore_n 1, 1) := by decide +kernel
theorem dX3_drawOnce_26 : decode cX3_drawOnce 26 = .ok (.aload_n 0, 1) := by decide +kernel
theorem dX3_drawOnce_27 : decode cX3_drawOnce 27 = .ok (.getfield 9, 3) := by decide +kernel
theorem dX3_drawOnce_30 : decode cX3_drawOnce 30 = .ok (.iload_n 1, 1) := by decide +kernel
theorem dX3_drawOnce_31 : decode cX3_drawOnce 31 = .ok (.iconst 2, 1) := by decide +kernel
theorem dX3_drawOnce_32 : decode cX3_drawOnce 32 = .ok (.irem, 1) := by decide +kernel
theorem dX3_drawOnce_33 : decode cX3_drawOnce 33 = .ok (.iconst 5, 1) := by decide +kernel
theorem dX3_drawOnce_34 : decode cX3_drawOnce 34 = .ok (.imul, 1) := by decide +kernel
theorem dX3_drawOnce_35 : decode cX3_drawOnce 35 = .ok (.iload_n 1, 1) := by decide +kernel
theorem dX3_drawOnce_36 : decode cX3_drawOnce 36 = .ok (.iconst 2, 1) := by decide +kernel
theorem dX3_drawOnce_37 : decode cX3_drawOnce 37 = .ok (.idiv, 1) := by decide +kernel
theorem dX3_drawOnce_38 : decode cX3_drawOnce 38 = .ok (.iconst 5, 1) := by decide +kernel
theorem dX3_drawOnce_39 : decode cX3_drawOnce 39 = .ok (.irem, 1) := by decide +kernel
theorem dX3_drawOnce_40 : decode cX3_drawOnce 40 = .ok (.iadd, 1) := by decide +kernel
theorem dX3_drawOnce_41 : decode cX3_drawOnce 41 = .ok (.iload_n 1, 1) := by decide +kernel
theorem dX3_drawOnce_42 : decode cX3_drawOnce 42 = .ok (.bipush 16, 2) := by decide +kernel
theorem dX3_drawOnce_44 : decode cX3_drawOnce 44 = .ok (.idiv, 1) := by decide +kernel
theorem dX3_drawOnce_45 : decode cX3_drawOnce 45 = .ok (.bipush 19, 2) := by decide +kernel
theorem dX3_drawOnce_47 : decode cX3_drawOnce 47 = .ok (.irem, 1) := by decide +kernel
theorem dX3_drawOnce_48 : decode cX3_drawOnce 48 = .ok (.bipush 9, 2) := by decide +kernel
theorem dX3_drawOnce_50 : decode cX3_drawOnce 50 = .ok (.isub, 1) := by decide +kernel
theorem dX3_drawOnce_51 : decode cX3_drawOnce 51 = .ok (.iastore, 1) := by decide +kernel
theorem dX3_drawOnce_52 : decode cX3_drawOnce 52 = .ok (.return_, 1) := by decide +kernel
theorem dX4_init_0 : decode cX4_init 0 = .ok (.aload_n 0, 1) := by decide +kernel
theorem dX4_init_1 : decode cX4_init 1 = .ok (.invokespecial 3, 3) := by decide +kernel
theorem dX4_init_4 : decode cX4_init 4 = .ok (.aload_n 0, 1) := by decide +kernel
theorem dX4_init_5 : decode cX4_init 5 = .ok (.iconst 4, 1) := by decide +kernel
theorem dX4_init_6 : decode cX4_init 6 = .ok (.newarray .int, 2) := by decide +kernel
theorem dX4_init_8 : decode cX4_init 8 = .ok (.putfield 9, 3) := by decide +kernel
theorem dX4_init_11 : decode cX4_init 11 = .ok (.aload_n 0, 1) := by decide +kernel
theorem dX4_init_12 : decode cX4_init 12 = .ok (.iconst 4, 1) := by decide +kernel
theorem dX4_init_13 : decode cX4_init 13 = .ok (.newarray .int, 2) := by decide +kernel
theorem dX4_init_15 : decode cX4_init 15 = .ok (.putfield 15, 3) := by decide +kernel
theorem dX4_init_18 : decode cX4_init 18 = .ok (.aload_n 0, 1) := by decide +kernel
theorem dX4_init_19 : decode cX4_init 19 = .ok (.iconst 4, 1) := by decide +kernel
theorem dX4_init_20 : decode cX4_init 20 = .ok (.bipush 24, 2) := by decide +kernel
theorem dX4_init_22 : decode cX4_init 22 = .ok (.multianewarray 18 2, 4) := by decide +kernel
theorem dX4_init_26 : decode cX4_init 26 = .ok (.putfield 20, 3) := by decide +kernel
theorem dX4_init_29 : decode cX4_init 29 = .ok (.iconst 0, 1) := by decide +kernel
theorem dX4_init_30 : decode cX4_init 30 = .ok (.istore_n 1, 1) := by decide +kernel
theorem dX4_init_31 : decode cX4_init 31 = .ok (.iload_n 1, 1) := by decide +kernel
theorem dX4_init_32 : decode cX4_init 32 = .ok (.iconst 4, 1) := by decide +kernel
theorem dX4_init_33 : decode cX4_init 33 = .ok (.if_icmp .ge 16, 3) := by decide +kernel
theorem dX4_init_36 : decode cX4_init 36 = .ok (.aload_n 0, 1) := by decide +kernel
theorem dX4_init_37 : decode cX4_init 37 = .ok (.getfield 9, 3) := by decide +kernel
theorem dX4_init_40 : decode cX4_init 40 = .ok (.iload_n 1, 1) := by decide +kernel
theorem dX4_init_41 : decode cX4_init 41 = .ok (.iconst (-1), 1) := by decide +kernel
theorem dX4_init_42 : decode cX4_init 42 = .ok (.iastore, 1) := by decide +kernel
theorem dX4_init_43 : decode cX4_init 43 = .ok (.iinc 1 1, 3) := by decide +kernel
theorem dX4_init_46 : decode cX4_init 46 = .ok (.goto (-15), 3) := by decide +kernel
theorem dX4_init_49 : decode cX4_init 49 = .ok (.return_, 1) := by decide +kernel
theorem dX4_isMissing_0 : decode cX4_isMissing 0 = .ok (.aload_n 0, 1) := by decide +kernel
theorem dX4_isMissing_1 : decode cX4_isMissing 1 = .ok (.getfield 9, 3) := by decide +kernel
theorem dX4_isMissing_4 : decode cX4_isMissing 4 = .ok (.iload_n 1, 1) := by decide +kernel
theorem dX4_isMissing_5 : decode cX4_isMissing 5 = .ok (.iaload, 1) := by decide +kernel
theorem dX4_isMissing_6 : decode cX4_isMissing 6 = .ok (.iconst (-1), 1) := by decide +kernel
theorem dX4_isMissing_7 : decode cX4_isMissing 7 = .ok (.if_icmp .ne 7, 3) := by decide +kernel
theorem dX4_isMissing_10 : decode cX4_isMissing 10 = .ok (.iconst 1, 1) := by decide +kernel
theorem dX4_isMissing_11 : decode cX4_isMissing 11 = .ok (.goto 4, 3) := by decide +kernel
theorem dX4_isMissing_14 : decode cX4_isMissing 14 = .ok (.iconst 0, 1) := by decide +kernel
theorem dX4_isMissing_15 : decode cX4_isMissing 15 = .ok (.ireturn, 1) := by decide +kernel
theorem dX4_renew_0 : decode cX4_renew 0 = .ok (.aload_n 0, 1) := by decide +kernel
theorem dX4_renew_1 : decode cX4_renew 1 = .ok (.getfield 9, 3) := by decide +kernel
theorem dX4_renew_4 : decode cX4_renew 4 = .ok (.iload_n 1, 1) := by decide +kernel
theorem dX4_renew_5 : decode cX4_renew 5 = .ok (.iload_n 2, 1) := by decide +kernel
theorem dX4_renew_6 : decode cX4_renew 6 = .ok (.iastore, 1) := by decide +kernel
theorem dX4_renew_7 : decode cX4_renew 7 = .ok (.aload_n 0, 1) := by decide +kernel
theorem dX4_renew_8 : decode cX4_renew 8 = .ok (.getfield 15, 3) := by decide +kernel
theorem dX4_renew_11 : decode cX4_renew 11 = .ok (.iload_n 1, 1) := by decide +kernel
theorem dX4_renew_12 : decode cX4_renew 12 = .ok (.iload_n 3, 1) := by decide +kernel
theorem dX4_renew_13 : decode cX4_renew 13 = .ok (.iastore, 1) := by decide +kernel
theorem dX4_renew_14 : decode cX4_renew 14 = .ok (.aload_n 0, 1) := by decide +kernel
theorem dX4_renew_15 : decode cX4_renew 15 = .ok (.getfield 20, 3) := by decide +kernel
theorem dX4_renew_18 : decode cX4_renew 18 = .ok (.iload_n 1, 1) := by decide +kernel
theorem dX4_renew_19 : decode cX4_renew 19 = .ok (.aaload, 1) := by decide +kernel
theorem dX4_renew_20 : decode cX4_renew 20 = .ok (.lconst 0, 1) := by decide +kernel
theorem dX4_renew_21 : decode cX4_renew 21 = .ok (.invokestatic 23, 3) := by decide +kernel
theorem dX4_renew_24 : decode cX4_renew 24 = .ok (.return_, 1) := by decide +kernel
theorem dX4_remove_0 : decode cX4_remove 0 = .ok (.aload_n 0, 1) := by decide +kernel
theorem dX4_remove_1 : decode cX4_remove 1 = .ok (.getfield 9, 3) := by decide +kernel
theorem dX4_remove_4 : decode cX4_remove 4 = .ok (.iload_n 1, 1) := by decide +kernel
theorem dX4_remove_5 : decode cX4_remove 5 = .ok (.iconst (-1), 1) := by decide +kernel
theorem dX4_remove_6 : decode cX4_remove 6 = .ok (.iastore, 1) := by decide +kernel
theorem dX4_remove_7 : decode cX4_remove 7 = .ok (.aload_n 0, 1) := by decide +kernel
theorem dX4_remove_8 : decode cX4_remove 8 = .ok (.getfield 15, 3) := by decide +kernel
theorem dX4_remove_11 : decode cX4_remove 11 = .ok (.iload_n 1, 1) := by decide +kernel
theorem dX4_remove_12 : decode cX4_remove 12 = .ok (.iconst 0, 1) := by decide +kernel
theorem dX4_remove_13 : decode cX4_remove 13 = .ok (.iastore, 1) := by decide +kernel
theorem dX4_remove_14 : decode cX4_remove 14 = .ok (.return_, 1) := by decide +kernel
theorem dX4_refusal_0 : decode cX4_refusal 0 = .ok (.aload_n 0, 1) := by decide +kernel
theorem dX4_refusal_1 : decode cX4_refusal 1 = .ok (.iload_n 1, 1) := by decide +kernel
theorem dX4_refusal_2 : decode cX4_refusal 2 = .ok (.invokevirtual 29, 3) := by decide +kernel
theorem dX4_refusal_5 : decode cX4_refusal 5 = .ok (.ifCond .eq 6, 3) := by decide +kernel
theorem dX4_refusal_8 : decode cX4_refusal 8 = .ok (.bipush (-11), 2) := by decide +kernel
theorem dX4_refusal_10 : decode cX4_refusal 10 = .ok (.ireturn, 1) := by decide +kernel
theorem dX4_refusal_11 : decode cX4_refusal 11 = .ok (.aload_n 0, 1) := by decide +kernel
theorem dX4_refusal_12 : decode cX4_refusal 12 = .ok (.getfield 9, 3) := by decide +kernel
theorem dX4_refusal_15 : decode cX4_refusal 15 = .ok (.iload_n 1, 1) := by decide +kernel
theorem dX4_refusal_16 : decode cX4_refusal 16 = .ok (.iaload, 1) := by decide +kernel
theorem dX4_refusal_17 : decode cX4_refusal 17 = .ok (.iload_n 2, 1) := by decide +kernel
theorem dX4_refusal_18 : decode cX4_refusal 18 = .ok (.if_icmp .eq 6, 3) := by decide +kernel
theorem dX4_refusal_21 : decode cX4_refusal 21 = .ok (.bipush (-12), 2) := by decide +kernel
theorem dX4_refusal_23 : decode cX4_refusal 23 = .ok (.ireturn, 1) := by decide +kernel
theorem dX4_refusal_24 : decode cX4_refusal 24 = .ok (.aload_n 0, 1) := by decide +kernel
theorem dX4_refusal_25 : decode cX4_refusal 25 = .ok (.iload_n 1, 1) := by decide +kernel
theorem dX4_refusal_26 : decode cX4_refusal 26 = .ok (.iload_n 3, 1) := by decide +kernel
theorem dX4_refusal_27 : decode cX4_refusal 27 = .ok (.iload 4, 2) := by decide +kernel
theorem dX4_refusal_29 : decode cX4_refusal 29 = .ok (.invokevirtual 33, 3) := by decide +kernel
theorem dX4_refusal_32 : decode cX4_refusal 32 = .ok (.ifCond .eq 7, 3) := by decide +kernel
theorem dX4_refusal_35 : decode cX4_refusal 35 = .ok (.iconst 0, 1) := by decide +kernel
theorem dX4_refusal_36 : decode cX4_refusal 36 = .ok (.goto 5, 3) := by decide +kernel
theorem dX4_refusal_39 : decode cX4_refusal 39 = .ok (.bipush (-13), 2) := by decide +kernel
theorem dX4_refusal_41 : decode cX4_refusal 41 = .ok (.ireturn, 1) := by decide +kernel
theorem dX4_hasItems_0 : decode cX4_hasItems 0 = .ok (.iload_n 2, 1) := by decide +kernel
theorem dX4_hasItems_1 : decode cX4_hasItems 1 = .ok (.ifCond .lt 23, 3) := by decide +kernel
theorem dX4_hasItems_4 : decode cX4_hasItems 4 = .ok (.iload_n 3, 1) := by decide +kernel
theorem dX4_hasItems_5 : decode cX4_hasItems 5 = .ok (.ifCond .lt 19, 3) := by decide +kernel
theorem dX4_hasItems_8 : decode cX4_hasItems 8 = .ok (.iload_n 2, 1) := by decide +kernel
theorem dX4_hasItems_9 : decode cX4_hasItems 9 = .ok (.aload_n 0, 1) := by decide +kernel
theorem dX4_hasItems_10 : decode cX4_hasItems 10 = .ok (.getfield 15, 3) := by decide +kernel
theorem dX4_hasItems_13 : decode cX4_hasItems 13 = .ok (.iload_n 1, 1) := by decide +kernel
theorem dX4_hasItems_14 : decode cX4_hasItems 14 = .ok (.iaload, 1) := by decide +kernel
theorem dX4_hasItems_15 : decode cX4_hasItems 15 = .ok (.iload_n 3, 1) := by decide +kernel
theorem dX4_hasItems_16 : decode cX4_hasItems 16 = .ok (.isub, 1) := by decide +kernel
theorem dX4_hasItems_17 : decode cX4_hasItems 17 = .ok (.if_icmp .gt 7, 3) := by decide +kernel
theorem dX4_hasItems_20 : decode cX4_hasItems 20 = .ok (.iconst 1, 1) := by decide +kernel
theorem dX4_hasItems_21 : decode cX4_hasItems 21 = .ok (.goto 4, 3) := by decide +kernel
theorem dX4_hasItems_24 : decode cX4_hasItems 24 = .ok (.iconst 0, 1) := by decide +kernel
theorem dX4_hasItems_25 : decode cX4_hasItems 25 = .ok (.ireturn, 1) := by decide +kernel
theorem dX4_holdsParts_0 : decode cX4_holdsParts 0 = .ok (.iload_n 2, 1) := by decide +kernel
theorem dX4_holdsParts_1 : decode cX4_holdsParts 1 = .ok (.istore 4, 2) := by decide +kernel
theorem dX4_holdsParts_3 : decode cX4_holdsParts 3 = .ok (.iload 4, 2) := by decide +kernel
theorem dX4_holdsParts_5 : decode cX4_holdsParts 5 = .ok (.iload_n 2, 1) := by decide +kernel
theorem dX4_holdsParts_6 : decode cX4_holdsParts 6 = .ok (.iload_n 3, 1) := by decide +kernel
theorem dX4_holdsParts_7 : decode cX4_holdsParts 7 = .ok (.iadd, 1) := by decide +kernel
theorem dX4_holdsParts_8 : decode cX4_holdsParts 8 = .ok (.if_icmp .ge 26, 3) := by decide +kernel
theorem dX4_holdsParts_11 : decode cX4_holdsParts 11 = .ok (.aload_n 0, 1) := by decide +kernel
theorem dX4_holdsParts_12 : decode cX4_holdsParts 12 = .ok (.getfield 20, 3) := by decide +kernel
theorem dX4_holdsParts_15 : decode cX4_holdsParts 15 = .ok (.iload_n 1, 1) := by decide +kernel
theorem dX4_holdsParts_16 : decode cX4_holdsParts 16 = .ok (.aaload, 1) := by decide +kernel
theorem dX4_holdsParts_17 : decode cX4_holdsParts 17 = .ok (.iload 4, 2) := by decide +kernel
theorem dX4_holdsParts_19 : decode cX4_holdsParts 19 = .ok (.laload, 1) := by decide +kernel
theorem dX4_holdsParts_20 : decode cX4_holdsParts 20 = .ok (.invokestatic 37, 3) := by decide +kernel
theorem dX4_holdsParts_23 : decode cX4_holdsParts 23 = .ok (.ifCond .ne 5, 3) := by decide +kernel
theorem dX4_holdsParts_26 : decode cX4_holdsParts 26 = .ok (.iconst 0, 1) := by decide +kernel
theorem dX4_holdsParts_27 : decode cX4_holdsParts 27 = .ok (.ireturn, 1) := by decide +kernel
theorem dX4_holdsParts_28 : decode cX4_holdsParts 28 = .ok (.iinc 4 1, 3) := by decide +kernel
theorem dX4_holdsParts_31 : decode cX4_holdsParts 31 = .ok (.goto (-28), 3) := by decide +kernel
theorem dX4_holdsParts_34 : decode cX4_holdsParts 34 = .ok (.iconst 1, 1) := by decide +kernel
theorem dX4_holdsParts_35 : decode cX4_holdsParts 35 = .ok (.ireturn, 1) := by decide +kernel
theorem dX5_init_0 : decode cX5_init 0 = .ok (.aload_n 0, 1) := by decide +kernel
theorem dX5_init_1 : decode cX5_init 1 = .ok (.invokespecial 3, 3) := by decide +kernel
theorem dX5_init_4 : decode cX5_init 4 = .ok (.aload_n 0, 1) := by decide +kernel
theorem dX5_init_5 : decode cX5_init 5 = .ok (.iload_n 1, 1) := by decide +kernel
theorem dX5_init_6 : decode cX5_init 6 = .ok (.putfield 9, 3) := by decide +kernel
theorem dX5_init_9 : decode cX5_init 9 = .ok (.aload_n 0, 1) := by decide +kernel
theorem dX5_init_10 : decode cX5_init 10 = .ok (.bipush 10, 2) := by decide +kernel
theorem dX5_init_12 : decode cX5_init 12 = .ok (.newarray .int, 2) := by decide +kernel
theorem dX5_init_14 : decode cX5_init 14 = .ok (.putfield 15, 3) := by decide +kernel
theorem dX5_init_17 : decode cX5_init 17 = .ok (.aload_n 0, 1) := by decide +kernel
theorem dX5_init_18 : decode cX5_init 18 = .ok (.iconst 5, 1) := by decide +kernel
theorem dX5_init_19 : decode cX5_init 19 = .ok (.newarray .long, 2) := by decide +kernel
theorem dX5_init_21 : decode cX5_init 21 = .ok (.putfield 19, 3) := by decide +kernel
theorem dX5_init_24 : decode cX5_init 24 = .ok (.aload_n 0, 1) := by decide +kernel
theorem dX5_init_25 : decode cX5_init 25 = .ok (.bipush 32, 2) := by decide +kernel
theorem dX5_init_27 : decode cX5_init 27 = .ok (.newarray .int, 2) := by decide +kernel
theorem dX5_init_29 : decode cX5_init 29 = .ok (.putfield 23, 3) := by decide +kernel
theorem dX5_init_32 : decode cX5_init 32 = .ok (.aload_n 0, 1) := by decide +kernel
theorem dX5_init_33 : decode cX5_init 33 = .ok (.bipush 32, 2) := by decide +kernel
theorem dX5_init_35 : decode cX5_init 35 = .ok (.newarray .int, 2) := by decide +kernel
theorem dX5_init_37 : decode cX5_init 37 = .ok (.putfield 26, 3) := by decide +kernel
theorem dX5_init_40 : decode cX5_init 40 = .ok (.aload_n 0, 1) := by decide +kernel
theorem dX5_init_41 : decode cX5_init 41 = .ok (.bipush 32, 2) := by decide +kernel
theorem dX5_init_43 : decode cX5_init 43 = .ok (.newarray .int, 2) := by decide +kernel
theorem dX5_init_45 : decode cX5_init 45 = .ok (.putfield 29, 3) := by decide +kernel
theorem dX5_init_48 : decode cX5_init 48 = .ok (.aload_n 0, 1) := by decide +kernel
theorem dX5_init_49 : decode cX5_init 49 = .ok (.iconst 0, 1) := by decide +kernel
theorem dX5_init_50 : decode cX5_init 50 = .ok (.putfield 32, 3) := by decide +kernel
theorem dX5_init_53 : decode cX5_init 53 = .ok (.aload_n 0, 1) := by decide +kernel
theorem dX5_init_54 : decode cX5_init 54 = .ok (.iconst 0, 1) := by decide +kernel
theorem dX5_init_55 : decode cX5_init 55 = .ok (.putfield 36, 3) := by decide +kernel
theorem dX5_init_58 : decode cX5_init 58 = .ok (.aload_n 0, 1) := by decide +kernel
theorem dX5_init_59 : decode cX5_init 59 = .ok (.iconst 0, 1) := by decide +kernel
theorem dX5_init_60 : decode cX5_init 60 = .ok (.putfield 39, 3) := by decide +kernel
theorem dX5_init_63 : decode cX5_init 63 = .ok (.return_, 1) := by decide +kernel
theorem dX5_refresh_0 : decode cX5_refresh 0 = .ok (.aload_n 0, 1) := by decide +kernel
theorem dX5_refresh_1 : decode cX5_refresh 1 = .ok (.getfield 32, 3) := by decide +kernel
theorem dX5_refresh_4 : decode cX5_refresh 4 = .ok (.ifCond .eq 12, 3) := by decide +kernel
theorem dX5_refresh_7 : decode cX5_refresh 7 = .ok (.aload_n 0, 1) := by decide +kernel
theorem dX5_refresh_8 : decode cX5_refresh 8 = .ok (.aload_n 1, 1) := by decide +kernel
theorem dX5_refresh_9 : decode cX5_refresh 9 = .ok (.invokevirtual 42, 3) := by decide +kernel
theorem dX5_refresh_12 : decode cX5_refresh 12 = .ok (.ifCond .eq 4, 3) := by decide +kernel
theorem dX5_refresh_15 : decode cX5_refresh 15 = .ok (.return_, 1) := by decide +kernel
theorem dX5_refresh_16 : decode cX5_refresh 16 = .ok (.aload_n 1, 1) := by decide +kernel
theorem dX5_refresh_17 : decode cX5_refresh 17 = .ok (.getfield 46, 3) := by decide +kernel
theorem dX5_refresh_20 : decode cX5_refresh 20 = .ok (.iconst 0, 1) := by decide +kernel
theorem dX5_refresh_21 : decode cX5_refresh 21 = .ok (.aload_n 0, 1) := by decide +kernel
theorem dX5_refresh_22 : decode cX5_refresh 22 = .ok (.getfield 15, 3) := by decide +kernel
theorem dX5_refresh_25 : decode cX5_refresh 25 = .ok (.iconst 0, 1) := by decide +kernel
theorem dX5_refresh_26 : decode cX5_refresh 26 = .ok (.bipush 10, 2) := by decide +kernel
theorem dX5_refresh_28 : decode cX5_refresh 28 = .ok (.invokestatic 49, 3) := by decide +kernel
theorem dX5_refresh_31 : decode cX5_refresh 31 = .ok (.aload_n 0, 1) := by decide +kernel
theorem dX5_refresh_32 : decode cX5_refresh 32 = .ok (.iconst 1, 1) := by decide +kernel
theorem dX5_refresh_33 : decode cX5_refresh 33 = .ok (.putfield 32, 3) := by decide +kernel
theorem dX5_refresh_36 : decode cX5_refresh 36 = .ok (.aload_n 0, 1) := by decide +kernel
theorem dX5_refresh_37 : decode cX5_refresh 37 = .ok (.aload_n 1, 1) := by decide +kernel
theorem dX5_refresh_38 : decode cX5_refresh 38 = .ok (.aload_n 2, 1) := by decide +kernel
theorem dX5_refresh_39 : decode cX5_refresh 39 = .ok (.invokevirtual 55, 3) := by decide +kernel
theorem dX5_refresh_42 : decode cX5_refresh 42 = .ok (.aload_n 0, 1) := by decide +kernel
theorem dX5_refresh_43 : decode cX5_refresh 43 = .ok (.invokevirtual 59, 3) := by decide +kernel
theorem dX5_refresh_46 : decode cX5_refresh 46 = .ok (.return_, 1) := by decide +kernel
theorem dX5_endOf_0 : decode cX5_endOf 0 = .ok (.iload_n 2, 1) := by decide +kernel
theorem dX5_endOf_1 : decode cX5_endOf 1 = .ok (.ifCond .ne 12, 3) := by decide +kernel
theorem dX5_endOf_4 : decode cX5_endOf 4 = .ok (.aload_n 0, 1) := by decide +kernel
theorem dX5_endOf_5 : decode cX5_endOf 5 = .ok (.getfield 23, 3) := by decide +kernel
theorem dX5_endOf_8 : decode cX5_endOf 8 = .ok (.iload_n 1, 1) := by decide +kernel
theorem dX5_endOf_9 : decode cX5_endOf 9 = .ok (.iaload, 1) := by decide +kernel
theorem dX5_endOf_10 : decode cX5_endOf 10 = .ok (.goto 9, 3) := by decide +kernel
theorem dX5_endOf_13 : decode cX5_endOf 13 = .ok (.aload_n 0, 1) := by decide +kernel
theorem dX5_endOf_14 : decode cX5_endOf 14 = .ok (.getfield 26, 3) := by decide +kernel
theorem dX5_endOf_17 : decode cX5_endOf 17 = .ok (.iload_n 1, 1) := by decide +kernel
theorem dX5_endOf_18 : decode cX5_endOf 18 = .ok (.iaload, 1) := by decide +kernel
theorem dX5_endOf_19 : decode cX5_endOf 19 = .ok (.sipush 800, 3) := by decide +kernel
theorem dX5_endOf_22 : decode cX5_endOf 22 = .ok (.iadd, 1) := by decide +kernel
theorem dX5_endOf_23 : decode cX5_endOf 23 = .ok (.ireturn, 1) := by decide +kernel
theorem dX5_isOf_0 : decode cX5_isOf 0 = .ok (.iconst 0, 1) := by decide +kernel
theorem dX5_isOf_1 : decode cX5_isOf 1 = .ok (.istore_n 2, 1) := by decide +kernel
theorem dX5_isOf_2 : decode cX5_isOf 2 = .ok (.iload_n 2, 1) := by decide +kernel
theorem dX5_isOf_3 : decode cX5_isOf 3 = .ok (.bipush 10, 2) := by decide +kernel
theorem dX5_isOf_5 : decode cX5_isOf 5 = .ok (.if_icmp .ge 26, 3) := by decide +kernel
theorem dX5_isOf_8 : decode cX5_isOf 8 = .ok (.aload_n 0, 1) := by decide +kernel
theorem dX5_isOf_9 : decode cX5_isOf 9 = .ok (.getfield 15, 3) := by decide +kernel
theorem dX5_isOf_12 : decode cX5_isOf 12 = .ok (.iload_n 2, 1) := by decide +kernel
theorem dX5_isOf_13 : decode cX5_isOf 13 = .ok (.iaload, 1) := by decide +kernel
theorem dX5_isOf_14 : decode cX5_isOf 14 = .ok (.aload_n 1, 1) := by decide +kernel
theorem dX5_isOf_15 : decode cX5_isOf 15 = .ok (.getfield 46, 3) := by decide +kernel
theorem dX5_isOf_18 : decode cX5_isOf 18 = .ok (.iload_n 2, 1) := by decide +kernel
theorem dX5_isOf_19 : decode cX5_isOf 19 = .ok (.iaload, 1) := by decide +kernel
theorem dX5_isOf_20 : decode cX5_isOf 20 = .ok (.if_icmp .eq 5, 3) := by decide +kernel
theorem dX5_isOf_23 : decode cX5_isOf 23 = .ok (.iconst 0, 1) := by decide +kernel
theorem dX5_isOf_24 : decode cX5_isOf 24 = .ok (.ireturn, 1) := by decide +kernel
theorem dX5_isOf_25 : decode cX5_isOf 25 = .ok (.iinc 2 1, 3) := by decide +kernel
theorem dX5_isOf_28 : decode cX5_isOf 28 = .ok (.goto (-26), 3) := by decide +kernel
theorem dX5_isOf_31 : decode cX5_isOf 31 = .ok (.iconst 1, 1) := by decide +kernel
theorem dX5_isOf_32 : decode cX5_isOf 32 = .ok (.ireturn, 1) := by decide +kernel
theorem dX5_collect_0 : decode cX5_collect 0 = .ok (.aload_n 0, 1) := by decide +kernel
theorem dX5_collect_1 : decode cX5_collect 1 = .ok (.iconst 0, 1) := by decide +kernel
theorem dX5_collect_2 : decode cX5_collect 2 = .ok (.putfield 36, 3) := by decide +kernel
theorem dX5_collect_5 : decode cX5_collect 5 = .ok (.aload_n 0, 1) := by decide +kernel
theorem dX5_collect_6 : decode cX5_collect 6 = .ok (.iconst 0, 1) := by decide +kernel
theorem dX5_collect_7 : decode cX5_collect 7 = .ok (.putfield 39, 3) := by decide +kernel
theorem dX5_collect_10 : decode cX5_collect 10 = .ok (.sipush (-800), 3) := by decide +kernel
theorem dX5_collect_13 : decode cX5_collect 13 = .ok (.istore_n 3, 1) := by decide +kernel
theorem dX5_collect_14 : decode cX5_collect 14 = .ok (.iload_n 3, 1) := by decide +kernel
theorem dX5_collect_15 : decode cX5_collect 15 = .ok (.sipush 800, 3) := by decide +kernel
theorem dX5_collect_18 : decode cX5_collect 18 = .ok (.if_icmp .gt 48, 3) := by decide +kernel
theorem dX5_collect_21 : decode cX5_collect 21 = .ok (.aload_n 1, 1) := by decide +kernel
theorem dX5_collect_22 : decode cX5_collect 22 = .ok (.aload_n 0, 1) := by decide +kernel
theorem dX5_collect_23 : decode cX5_collect 23 = .ok (.getfield 19, 3) := by decide +kernel
theorem dX5_collect_26 : decode cX5_collect 26 = .ok (.iload_n 3, 1) := by decide +kernel
theorem dX5_collect_27 : decode cX5_collect 27 = .ok (.invokevirtual 62, 3) := by decide +kernel
theorem dX5_collect_30 : decode cX5_collect 30 = .ok (.aload_n 2, 1) := by decide +kernel
theorem dX5_collect_31 : decode cX5_collect 31 = .ok (.aload_n 0, 1) := by decide +kernel
theorem dX5_collect_32 : decode cX5_collect 32 = .ok (.getfield 9, 3) := by decide +kernel
theorem dX5_collect_35 : decode cX5_collect 35 = .ok (.aload_n 0, 1) := by decide +kernel
theorem dX5_collect_36 : decode cX5_collect 36 = .ok (.getfield 19, 3) := by decide +kernel
theorem dX5_collect_39 : decode cX5_collect 39 = .ok (.invokevirtual 66, 3) := by decide +kernel
theorem dX5_collect_42 : decode cX5_collect 42 = .ok (.ifCond .eq 18, 3) := by decide +kernel
theorem dX5_collect_45 : decode cX5_collect 45 = .ok (.aload_n 0, 1) := by decide +kernel
theorem dX5_collect_46 : decode cX5_collect 46 = .ok (.dup, 1) := by decide +kernel
theorem dX5_collect_47 : decode cX5_collect 47 = .ok (.getfield 39, 3) := by decide +kernel
theorem dX5_collect_50 : decode cX5_collect 50 = .ok (.iconst 1, 1) := by decide +kernel
theorem dX5_collect_51 : decode cX5_collect 51 = .ok (.iadd, 1) := by decide +kernel
theorem dX5_collect_52 : decode cX5_collect 52 = .ok (.putfield 39, 3) := by decide +kernel
theorem dX5_collect_55 : decode cX5_collect 55 = .ok (.aload_n 0, 1) := by decide +kernel
theorem dX5_collect_56 : decode cX5_collect 56 = .ok (.iload_n 3, 1) := by decide +kernel
theorem dX5_collect_57 : decode cX5_collect 57 = .ok (.invokevirtual 72, 3) := by decide +kernel
theorem dX5_collect_60 : decode cX5_collect 60 = .ok (.iinc 3 1, 3) := by decide +kernel
theorem dX5_collect_63 : decode cX5_collect 63 = .ok (.goto (-49), 3) := by decide +kernel
theorem dX5_collect_66 : decode cX5_collect 66 = .ok (.return_, 1) := by decide +kernel
theorem dX5_addGain_0 : decode cX5_addGain 0 = .ok (.aload_n 0, 1) := by decide +kernel
theorem dX5_addGain_1 : decode cX5_addGain 1 = .ok (.getfield 36, 3) := by decide +kernel
theorem dX5_addGain_4 : decode cX5_addGain 4 = .ok (.ifCond .le 35, 3) := by decide +kernel
theorem dX5_addGain_7 : decode cX5_addGain 7 = .ok (.aload_n 0, 1) := by decide +kernel
theorem dX5_addGain_8 : decode cX5_addGain 8 = .ok (.getfield 26, 3) := by decide +kernel
theorem dX5_addGain_11 : decode cX5_addGain 11 = .ok (.aload_n 0, 1) := by decide +kernel
theorem dX5_addGain_12 : decode cX5_addGain 12 = .ok (.getfield 36, 3) := by decide +kernel
theorem dX5_addGain_15 : decode cX5_addGain 15 = .ok (.iconst 1, 1) := by decide +kernel
theorem dX5_addGain_16 : decode cX5_addGain 16 = .ok (.isub, 1) := by decide +kernel
theorem dX5_addGain_17 : decode cX5_addGain 17 = .ok (.iaload, 1) := by decide +kernel
theorem dX5_addGain_18 : decode cX5_addGain 18 = .ok (.iload_n 1, 1) := by decide +kernel
theorem dX5_addGain_19 : decode cX5_addGain 19 = .ok (.iconst 1, 1) := by decide +kernel
theorem dX5_addGain_20 : decode cX5_addGain 20 = .ok (.isub, 1) := by decide +kernel
theorem dX5_addGain_21 : decode cX5_addGain 21 = .ok (.if_icmp .ne 18, 3) := by decide +kernel
theorem dX5_addGain_24 : decode cX5_addGain 24 = .ok (.aload_n 0, 1) := by decide +kernel
theorem dX5_addGain_25 : decode cX5_addGain 25 = .ok (.getfield 26, 3) := by decide +kernel
theorem dX5_addGain_28 : decode cX5_addGain 28 = .ok (.aload_n 0, 1) := by decide +kernel
theorem dX5_addGain_29 : decode cX5_addGain 29 = .ok (.getfield 36, 3) := by decide +kernel
theorem dX5_addGain_32 : decode cX5_addGain 32 = .ok (.iconst 1, 1) := by decide +kernel
theorem dX5_addGain_33 : decode cX5_addGain 33 = .ok (.isub, 1) := by decide +kernel
theorem dX5_addGain_34 : decode cX5_addGain 34 = .ok (.iload_n 1, 1) := by decide +kernel
theorem dX5_addGain_35 : decode cX5_addGain 35 = .ok (.iastore, 1) := by decide +kernel
theorem dX5_addGain_36 : decode cX5_addGain 36 = .ok (.goto 42, 3) := by decide +kernel
theorem dX5_addGain_39 : decode cX5_addGain 39 = .ok (.aload_n 0, 1) := by decide +kernel
theorem dX5_addGain_40 : decode cX5_addGain 40 = .ok (.getfield 36, 3) := by decide +kernel
theorem dX5_addGain_43 : decode cX5_addGain 43 = .ok (.bipush 32, 2) := by decide +kernel
theorem dX5_addGain_45 : decode cX5_addGain 45 = .ok (.if_icmp .ge 33, 3) := by decide +kernel
theorem dX5_addGain_48 : decode cX5_addGain 48 = .ok (.aload_n 0, 1) := by decide +kernel
theorem dX5_addGain_49 : decode cX5_addGain 49 = .ok (.getfield 23, 3) := by decide +kernel
theorem dX5_addGain_52 : decode cX5_addGain 52 = .ok (.aload_n 0, 1) := by decide +kernel
theorem dX5_addGain_53 : decode cX5_addGain 53 = .ok (.getfield 36, 3) := by decide +kernel
theorem dX5_addGain_56 : decode cX5_addGain 56 = .ok (.iload_n 1, 1) := by decide +kernel
theorem dX5_addGain_57 : decode cX5_addGain 57 = .ok (.iastore, 1) := by decide +kernel
theorem dX5_addGain_58 : decode cX5_addGain 58 = .ok (.aload_n 0, 1) := by decide +kernel
theorem dX5_addGain_59 : decode cX5_addGain 59 = .ok (.getfield 26, 3) := by decide +kernel
theorem dX5_addGain_62 : decode cX5_addGain 62 = .ok (.aload_n 0, 1) := by decide +kernel
theorem dX5_addGain_63 : decode cX5_addGain 63 = .ok (.getfield 36, 3) := by decide +kernel
theorem dX5_addGain_66 : decode cX5_addGain 66 = .ok (.iload_n 1, 1) := by decide +kernel
theorem dX5_addGain_67 : decode cX5_addGain 67 = .ok (.iastore, 1) := by decide +kernel
theorem dX5_addGain_68 : decode cX5_addGain 68 = .ok (.aload_n 0, 1) := by decide +kernel
theorem dX5_addGain_69 : decode cX5_addGain 69 = .ok (.dup, 1) := by decide +kernel
theorem dX5_addGain_70 : decode cX5_addGain 70 = .ok (.getfield 36, 3) := by decide +kernel
theorem dX5_addGain_73 : decode cX5_addGain 73 = .ok (.iconst 1, 1) := by decide +kernel
theorem dX5_addGain_74 : decode cX5_addGain 74 = .ok (.iadd, 1) := by decide +kernel
theorem dX5_addGain_75 : decode cX5_addGain 75 = .ok (.putfield 36, 3) := by decide +kernel
theorem dX5_addGain_78 : decode cX5_addGain 78 = .ok (.return_, 1) := by decide +kernel
theorem dX5_orderByWidth_0 : decode cX5_orderByWidth 0 = .ok (.iconst 0, 1) := by decide +kernel
theorem dX5_orderByWidth_1 : decode cX5_orderByWidth 1 = .ok (.istore_n 1, 1) := by decide +kernel
theorem dX5_orderByWidth_2 : decode cX5_orderByWidth 2 = .ok (.iload_n 1, 1) := by decide +kernel
theorem dX5_orderByWidth_3 : decode cX5_orderByWidth 3 = .ok (.aload_n 0, 1) := by decide +kernel
theorem dX5_orderByWidth_4 : decode cX5_orderByWidth 4 = .ok (.getfield 36, 3) := by decide +kernel
theorem dX5_orderByWidth_7 : decode cX5_orderByWidth 7 = .ok (.if_icmp .ge 62, 3) := by decide +kernel
theorem dX5_orderByWidth_10 : decode cX5_orderByWidth 10 = .ok (.iload_n 1, 1) := by decide +kernel
theorem dX5_orderByWidth_11 : decode cX5_orderByWidth 11 = .ok (.istore_n 2, 1) := by decide +kernel
theorem dX5_orderByWidth_12 : decode cX5_orderByWidth 12 = .ok (.iload_n 2, 1) := by decide +kernel
theorem dX5_orderByWidth_13 : decode cX5_orderByWidth 13 = .ok (.ifCond .le 43, 3) := by decide +kernel
theorem dX5_orderByWidth_16 : decode cX5_orderByWidth 16 = .ok (.aload_n 0, 1) := by decide +kernel
theorem dX5_orderByWidth_17 : decode cX5_orderByWidth 17 = .ok (.aload_n 0, 1) := by decide +kernel
theorem dX5_orderByWidth_18 : decode cX5_orderByWidth 18 = .ok (.getfield 29, 3) := by decide +kernel
theorem dX5_orderByWidth_21 : decode cX5_orderByWidth 21 = .ok (.iload_n 2, 1) := by decide +kernel
theorem dX5_orderByWidth_22 : decode cX5_orderByWidth 22 = .ok (.iconst 1, 1) := by decide +kernel
theorem dX5_orderByWidth_23 : decode cX5_orderByWidth 23 = .ok (.isub, 1) := by decide +kernel
theorem dX5_orderByWidth_24 : decode cX5_orderByWidth 24 = .ok (.iaload, 1) := by decide +kernel
theorem dX5_orderByWidth_25 : decode cX5_orderByWidth 25 = .ok (.invokevirtual 76, 3) := by decide +kernel
theorem dX5_orderByWidth_28 : decode cX5_orderByWidth 28 = .ok (.aload_n 0, 1) := by decide +kernel
theorem dX5_orderByWidth_29 : decode cX5_orderByWidth 29 = .ok (.iload_n 1, 1) := by decide +kernel
theorem dX5_orderByWidth_30 : decode cX5_orderByWidth 30 = .ok (.invokevirtual 76, 3) := by decide +kernel
theorem dX5_orderByWidth_33 : decode cX5_orderByWidth 33 = .ok (.if_icmp .ge 23, 3) := by decide +kernel
theorem dX5_orderByWidth_36 : decode cX5_orderByWidth 36 = .ok (.aload_n 0, 1) := by decide +kernel
theorem dX5_orderByWidth_37 : decode cX5_orderByWidth 37 = .ok (.getfield 29, 3) := by decide +kernel
theorem dX5_orderByWidth_40 : decode cX5_orderByWidth 40 = .ok (.iload_n 2, 1) := by decide +kernel
theorem dX5_orderByWidth_41 : decode cX5_orderByWidth 41 = .ok (.aload_n 0, 1) := by decide +kernel
theorem dX5_orderByWidth_42 : decode cX5_orderByWidth 42 = .ok (.getfield 29, 3) := by decide +kernel
theorem dX5_orderByWidth_45 : decode cX5_orderByWidth 45 = .ok (.iload_n 2, 1) := by decide +kernel
theorem dX5_orderByWidth_46 : decode cX5_orderByWidth 46 = .ok (.iconst 1, 1) := by decide +kernel
theorem dX5_orderByWidth_47 : decode cX5_orderByWidth 47 = .ok (.isub, 1) := by decide +kernel
theorem dX5_orderByWidth_48 : decode cX5_orderByWidth 48 = .ok (.iaload, 1) := by decide +kernel
theorem dX5_orderByWidth_49 : decode cX5_orderByWidth 49 = .ok (.iastore, 1) := by decide +kernel

theorem dX8_shortens_52 : decode cX8_shortens 52 = .ok (.goto (-24), 3) := by decide +kernel
theorem dX8_shortens_55 : decode cX8_shortens 55 = .ok (.return_, 1) := by decide +kernel
theorem dX8_divides_0 : decode cX8_divides 0 = .ok (.aload_n 0, 1) := by decide +kernel
theorem dX8_divides_1 : decode cX8_divides 1 = .ok (.getfield 51, 3) := by decide +kernel
theorem dX8_divides_4 : decode cX8_divides 4 = .ok (.iload_n 1, 1) := by decide +kernel
theorem dX8_divides_5 : decode cX8_divides 5 = .ok (.invokestatic 118, 3) := by decide +kernel
theorem dX8_divides_8 : decode cX8_divides 8 = .ok (.istore_n 2, 1) := by decide +kernel
theorem dX8_divides_9 : decode cX8_divides 9 = .ok (.aload_n 0, 1) := by decide +kernel
theorem dX8_divides_10 : decode cX8_divides 10 = .ok (.getfield 54, 3) := by decide +kernel
theorem dX8_divides_13 : decode cX8_divides 13 = .ok (.iconst 0, 1) := by decide +kernel
theorem dX8_divides_14 : decode cX8_divides 14 = .ok (.invokestatic 118, 3) := by decide +kernel
theorem dX8_divides_17 : decode cX8_divides 17 = .ok (.istore_n 3, 1) := by decide +kernel
theorem dX8_divides_18 : decode cX8_divides 18 = .ok (.iload_n 3, 1) := by decide +kernel
theorem dX8_divides_19 : decode cX8_divides 19 = .ok (.iload_n 2, 1) := by decide +kernel
theorem dX8_divides_20 : decode cX8_divides 20 = .ok (.if_icmp .lt 131, 3) := by decide +kernel
theorem dX8_divides_23 : decode cX8_divides 23 = .ok (.aload_n 0, 1) := by decide +kernel
theorem dX8_divides_24 : decode cX8_divides 24 = .ok (.getfield 54, 3) := by decide +kernel
theorem dX8_divides_27 : decode cX8_divides 27 = .ok (.iload_n 3, 1) := by decide +kernel
theorem dX8_divides_28 : decode cX8_divides 28 = .ok (.laload, 1) := by decide +kernel
theorem dX8_divides_29 : decode cX8_divides 29 = .ok (.lstore 4, 2) := by decide +kernel
theorem dX8_divides_31 : decode cX8_divides 31 = .ok (.aload_n 0, 1) := by decide +kernel
theorem dX8_divides_32 : decode cX8_divides 32 = .ok (.getfield 51, 3) := by decide +kernel
theorem dX8_divides_35 : decode cX8_divides 35 = .ok (.iload_n 1, 1) := by decide +kernel
theorem dX8_divides_36 : decode cX8_divides 36 = .ok (.iload_n 2, 1) := by decide +kernel
theorem dX8_divides_37 : decode cX8_divides 37 = .ok (.iadd, 1) := by decide +kernel
theorem dX8_divides_38 : decode cX8_divides 38 = .ok (.laload, 1) := by decide +kernel
theorem dX8_divides_39 : decode cX8_divides 39 = .ok (.lstore 6, 2) := by decide +kernel
theorem dX8_divides_41 : decode cX8_divides 41 = .ok (.iconst 0, 1) := by decide +kernel
theorem dX8_divides_42 : decode cX8_divides 42 = .ok (.istore 8, 2) := by decide +kernel
theorem dX8_divides_44 : decode cX8_divides 44 = .ok (.iload 8, 2) := by decide +kernel
theorem dX8_divides_46 : decode cX8_divides 46 = .ok (.iconst 5, 1) := by decide +kernel
theorem dX8_divides_47 : decode cX8_divides 47 = .ok (.if_icmp .ge 34, 3) := by decide +kernel
theorem dX8_divides_50 : decode cX8_divides 50 = .ok (.aload_n 0, 1) := by decide +kernel
theorem dX8_divides_51 : decode cX8_divides 51 = .ok (.getfield 54, 3) := by decide +kernel
theorem dX8_divides_54 : decode cX8_divides 54 = .ok (.iload 8, 2) := by decide +kernel
theorem dX8_divides_56 : decode cX8_divides 56 = .ok (.dup2, 1) := by decide +kernel
theorem dX8_divides_57 : decode cX8_divides 57 = .ok (.laload, 1) := by decide +kernel
theorem dX8_divides_58 : decode cX8_divides 58 = .ok (.lload 6, 2) := by decide +kernel
theorem dX8_divides_60 : decode cX8_divides 60 = .ok (.lconst 0, 1) := by decide +kernel
theorem dX8_divides_61 : decode cX8_divides 61 = .ok (.lcmp, 1) := by decide +kernel
theorem dX8_divides_62 : decode cX8_divides 62 = .ok (.ifCond .le 8, 3) := by decide +kernel
theorem dX8_divides_65 : decode cX8_divides 65 = .ok (.lload 6, 2) := by decide +kernel
theorem dX8_divides_67 : decode cX8_divides 67 = .ok (.goto 6, 3) := by decide +kernel
theorem dX8_divides_70 : decode cX8_divides 70 = .ok (.lload 6, 2) := by decide +kernel
theorem dX8_divides_72 : decode cX8_divides 72 = .ok (.lneg, 1) := by decide +kernel
theorem dX8_divides_73 : decode cX8_divides 73 = .ok (.lmul, 1) := by decide +kernel
theorem dX8_divides_74 : decode cX8_divides 74 = .ok (.lastore, 1) := by decide +kernel
theorem dX8_divides_75 : decode cX8_divides 75 = .ok (.iinc 8 1, 3) := by decide +kernel
theorem dX8_divides_78 : decode cX8_divides 78 = .ok (.goto (-34), 3) := by decide +kernel
theorem dX8_divides_81 : decode cX8_divides 81 = .ok (.iconst 0, 1) := by decide +kernel
theorem dX8_divides_82 : decode cX8_divides 82 = .ok (.istore 8, 2) := by decide +kernel
theorem dX8_divides_84 : decode cX8_divides 84 = .ok (.iload 8, 2) := by decide +kernel
theorem dX8_divides_86 : decode cX8_divides 86 = .ok (.iload_n 2, 1) := by decide +kernel
theorem dX8_divides_87 : decode cX8_divides 87 = .ok (.if_icmp .gt 48, 3) := by decide +kernel
theorem dX8_divides_90 : decode cX8_divides 90 = .ok (.aload_n 0, 1) := by decide +kernel
theorem dX8_divides_91 : decode cX8_divides 91 = .ok (.getfield 54, 3) := by decide +kernel
theorem dX8_divides_94 : decode cX8_divides 94 = .ok (.iload 8, 2) := by decide +kernel
theorem dX8_divides_96 : decode cX8_divides 96 = .ok (.iload_n 3, 1) := by decide +kernel
theorem dX8_divides_97 : decode cX8_divides 97 = .ok (.iadd, 1) := by decide +kernel
theorem dX8_divides_98 : decode cX8_divides 98 = .ok (.iload_n 2, 1) := by decide +kernel
theorem dX8_divides_99 : decode cX8_divides 99 = .ok (.isub, 1) := by decide +kernel
theorem dX8_divides_100 : decode cX8_divides 100 = .ok (.dup2, 1) := by decide +kernel
theorem dX8_divides_101 : decode cX8_divides 101 = .ok (.laload, 1) := by decide +kernel
theorem dX8_divides_102 : decode cX8_divides 102 = .ok (.lload 6, 2) := by decide +kernel
theorem dX8_divides_104 : decode cX8_divides 104 = .ok (.lconst 0, 1) := by decide +kernel
theorem dX8_divides_105 : decode cX8_divides 105 = .ok (.lcmp, 1) := by decide +kernel
theorem dX8_divides_106 : decode cX8_divides 106 = .ok (.ifCond .le 8, 3) := by decide +kernel
theorem dX8_divides_109 : decode cX8_divides 109 = .ok (.lload 4, 2) := by decide +kernel
theorem dX8_divides_111 : decode cX8_divides 111 = .ok (.goto 6, 3) := by decide +kernel
theorem dX8_divides_114 : decode cX8_divides 114 = .ok (.lload 4, 2) := by decide +kernel
theorem dX8_divides_116 : decode cX8_divides 116 = .ok (.lneg, 1) := by decide +kernel
theorem dX8_divides_117 : decode cX8_divides 117 = .ok (.aload_n 0, 1) := by decide +kernel
theorem dX8_divides_118 : decode cX8_divides 118 = .ok (.getfield 51, 3) := by decide +kernel
theorem dX8_divides_121 : decode cX8_divides 121 = .ok (.iload_n 1, 1) := by decide +kernel
theorem dX8_divides_122 : decode cX8_divides 122 = .ok (.iload 8, 2) := by decide +kernel
theorem dX8_divides_124 : decode cX8_divides 124 = .ok (.iadd, 1) := by decide +kernel
theorem dX8_divides_125 : decode cX8_divides 125 = .ok (.laload, 1) := by decide +kernel
theorem dX8_divides_126 : decode cX8_divides 126 = .ok (.lmul, 1) := by decide +kernel
theorem dX8_divides_127 : decode cX8_divides 127 = .ok (.lsub, 1) := by decide +kernel
theorem dX8_divides_128 : decode cX8_divides 128 = .ok (.lastore, 1) := by decide +kernel
theorem dX8_divides_129 : decode cX8_divides 129 = .ok (.iinc 8 1, 3) := by decide +kernel
theorem dX8_divides_132 : decode cX8_divides 132 = .ok (.goto (-48), 3) := by decide +kernel
theorem dX8_divides_135 : decode cX8_divides 135 = .ok (.aload_n 0, 1) := by decide +kernel
theorem dX8_divides_136 : decode cX8_divides 136 = .ok (.invokevirtual 180, 3) := by decide +kernel
theorem dX8_divides_139 : decode cX8_divides 139 = .ok (.aload_n 0, 1) := by decide +kernel
theorem dX8_divides_140 : decode cX8_divides 140 = .ok (.getfield 54, 3) := by decide +kernel
theorem dX8_divides_143 : decode cX8_divides 143 = .ok (.iconst 0, 1) := by decide +kernel
theorem dX8_divides_144 : decode cX8_divides 144 = .ok (.invokestatic 118, 3) := by decide +kernel
theorem dX8_divides_147 : decode cX8_divides 147 = .ok (.istore_n 3, 1) := by decide +kernel
theorem dX8_divides_148 : decode cX8_divides 148 = .ok (.goto (-130), 3) := by decide +kernel
theorem dX8_divides_151 : decode cX8_divides 151 = .ok (.return_, 1) := by decide +kernel
theorem dX8_addsRow_0 : decode cX8_addsRow 0 = .ok (.iconst 0, 1) := by decide +kernel
theorem dX8_addsRow_1 : decode cX8_addsRow 1 = .ok (.istore_n 1, 1) := by decide +kernel
theorem dX8_addsRow_2 : decode cX8_addsRow 2 = .ok (.iload_n 1, 1) := by decide +kernel
theorem dX8_addsRow_3 : decode cX8_addsRow 3 = .ok (.iconst 5, 1) := by decide +kernel
theorem dX8_addsRow_4 : decode cX8_addsRow 4 = .ok (.if_icmp .ge 28, 3) := by decide +kernel
theorem dX8_addsRow_7 : decode cX8_addsRow 7 = .ok (.aload_n 0, 1) := by decide +kernel
theorem dX8_addsRow_8 : decode cX8_addsRow 8 = .ok (.getfield 51, 3) := by decide +kernel
theorem dX8_addsRow_11 : decode cX8_addsRow 11 = .ok (.iconst 5, 1) := by decide +kernel
theorem dX8_addsRow_12 : decode cX8_addsRow 12 = .ok (.aload_n 0, 1) := by decide +kernel
theorem dX8_addsRow_13 : decode cX8_addsRow 13 = .ok (.getfield 183, 3) := by decide +kernel
theorem dX8_addsRow_16 : decode cX8_addsRow 16 = .ok (.imul, 1) := by decide +kernel
theorem dX8_addsRow_17 : decode cX8_addsRow 17 = .ok (.iload_n 1, 1) := by decide +kernel
theorem dX8_addsRow_18 : decode cX8_addsRow 18 = .ok (.iadd, 1) := by decide +kernel
theorem dX8_addsRow_19 : decode cX8_addsRow 19 = .ok (.aload_n 0, 1) := by decide +kernel
theorem dX8_addsRow_20 : decode cX8_addsRow 20 = .ok (.getfield 54, 3) := by decide +kernel
theorem dX8_addsRow_23 : decode cX8_addsRow 23 = .ok (.iload_n 1, 1) := by decide +kernel
theorem dX8_addsRow_24 : decode cX8_addsRow 24 = .ok (.laload, 1) := by decide +kernel
theorem dX8_addsRow_25 : decode cX8_addsRow 25 = .ok (.lastore, 1) := by decide +kernel
theorem dX8_addsRow_26 : decode cX8_addsRow 26 = .ok (.iinc 1 1, 3) := by decide +kernel
theorem dX8_addsRow_29 : decode cX8_addsRow 29 = .ok (.goto (-27), 3) := by decide +kernel
theorem dX8_addsRow_32 : decode cX8_addsRow 32 = .ok (.aload_n 0, 1) := by decide +kernel
theorem dX8_addsRow_33 : decode cX8_addsRow 33 = .ok (.dup, 1) := by decide +kernel
theorem dX8_addsRow_34 : decode cX8_addsRow 34 = .ok (.getfield 183, 3) := by decide +kernel
theorem dX8_addsRow_37 : decode cX8_addsRow 37 = .ok (.iconst 1, 1) := by decide +kernel
theorem dX8_addsRow_38 : decode cX8_addsRow 38 = .ok (.iadd, 1) := by decide +kernel
theorem dX8_addsRow_39 : decode cX8_addsRow 39 = .ok (.putfield 183, 3) := by decide +kernel
theorem dX8_addsRow_42 : decode cX8_addsRow 42 = .ok (.return_, 1) := by decide +kernel
theorem dX8_laysRows_0 : decode cX8_laysRows 0 = .ok (.aload_n 0, 1) := by decide +kernel
theorem dX8_laysRows_1 : decode cX8_laysRows 1 = .ok (.aload_n 0, 1) := by decide +kernel
theorem dX8_laysRows_2 : decode cX8_laysRows 2 = .ok (.getfield 7, 3) := by decide +kernel
theorem dX8_laysRows_5 : decode cX8_laysRows 5 = .ok (.bipush 10, 2) := by decide +kernel
theorem dX8_laysRows_7 : decode cX8_laysRows 7 = .ok (.iaload, 1) := by decide +kernel
theorem dX8_laysRows_8 : decode cX8_laysRows 8 = .ok (.invokevirtual 167, 3) := by decide +kernel
theorem dX8_laysRows_11 : decode cX8_laysRows 11 = .ok (.aload_n 0, 1) := by decide +kernel
theorem dX8_laysRows_12 : decode cX8_laysRows 12 = .ok (.iconst 0, 1) := by decide +kernel
theorem dX8_laysRows_13 : decode cX8_laysRows 13 = .ok (.putfield 183, 3) := by decide +kernel
theorem dX8_laysRows_16 : decode cX8_laysRows 16 = .ok (.aload_n 0, 1) := by decide +kernel
theorem dX8_laysRows_17 : decode cX8_laysRows 17 = .ok (.getfield 39, 3) := by decide +kernel
theorem dX8_laysRows_20 : decode cX8_laysRows 20 = .ok (.iconst 0, 1) := by decide +kernel
theorem dX8_laysRows_21 : decode cX8_laysRows 21 = .ok (.invokestatic 118, 3) := by decide +kernel
theorem dX8_laysRows_24 : decode cX8_laysRows 24 = .ok (.istore_n 1, 1) := by decide +kernel
theorem dX8_laysRows_25 : decode cX8_laysRows 25 = .ok (.iconst 0, 1) := by decide +kernel
theorem dX8_laysRows_26 : decode cX8_laysRows 26 = .ok (.istore_n 2, 1) := by decide +kernel
theorem dX8_laysRows_27 : decode cX8_laysRows 27 = .ok (.iload_n 2, 1) := by decide +kernel
theorem dX8_laysRows_28 : decode cX8_laysRows 28 = .ok (.iconst 2, 1) := by decide +kernel
theorem dX8_laysRows_29 : decode cX8_laysRows 29 = .ok (.if_icmp .ge 71, 3) := by decide +kernel
theorem dX8_laysRows_32 : decode cX8_laysRows 32 = .ok (.iload_n 1, 1) := by decide +kernel
theorem dX8_laysRows_33 : decode cX8_laysRows 33 = .ok (.bipush (-4), 2) := by decide +kernel
theorem dX8_laysRows_35 : decode cX8_laysRows 35 = .ok (.if_icmp .eq 65, 3) := by decide +kernel
theorem dX8_laysRows_38 : decode cX8_laysRows 38 = .ok (.iconst 0, 1) := by decide +kernel
theorem dX8_laysRows_39 : decode cX8_laysRows 39 = .ok (.istore_n 3, 1) := by decide +kernel
theorem dX8_laysRows_40 : decode cX8_laysRows 40 = .ok (.iload_n 3, 1) := by decide +kernel
theorem dX8_laysRows_41 : decode cX8_laysRows 41 = .ok (.iconst 5, 1) := by decide +kernel
theorem dX8_laysRows_42 : decode cX8_laysRows 42 = .ok (.if_icmp .ge 35, 3) := by decide +kernel
theorem dX8_laysRows_45 : decode cX8_laysRows 45 = .ok (.aload_n 0, 1) := by decide +kernel
theorem dX8_laysRows_46 : decode cX8_laysRows 46 = .ok (.getfield 54, 3) := by decide +kernel
theorem dX8_laysRows_49 : decode cX8_laysRows 49 = .ok (.iload_n 3, 1) := by decide +kernel
theorem dX8_laysRows_50 : decode cX8_laysRows 50 = .ok (.iload_n 3, 1) := by decide +kernel
theorem dX8_laysRows_51 : decode cX8_laysRows 51 = .ok (.iload_n 1, 1) := by decide +kernel
theorem dX8_laysRows_52 : decode cX8_laysRows 52 = .ok (.iadd, 1) := by decide +kernel
theorem dX8_laysRows_53 : decode cX8_laysRows 53 = .ok (.iload_n 2, 1) := by decide +kernel
theorem dX8_laysRows_54 : decode cX8_laysRows 54 = .ok (.iadd, 1) := by decide +kernel
theorem dX8_laysRows_55 : decode cX8_laysRows 55 = .ok (.iconst 2, 1) := by decide +kernel
theorem dX8_laysRows_56 : decode cX8_laysRows 56 = .ok (.irem, 1) := by decide +kernel
theorem dX8_laysRows_57 : decode cX8_laysRows 57 = .ok (.ifCond .ne 12, 3) := by decide +kernel
theorem dX8_laysRows_60 : decode cX8_laysRows 60 = .ok (.aload_n 0, 1) := by decide +kernel
theorem dX8_laysRows_61 : decode cX8_laysRows 61 = .ok (.getfield 39, 3) := by decide +kernel
theorem dX8_laysRows_64 : decode cX8_laysRows 64 = .ok (.iload_n 3, 1) := by decide +kernel
theorem dX8_laysRows_65 : decode cX8_laysRows 65 = .ok (.laload, 1) := by decide +kernel
theorem dX8_laysRows_66 : decode cX8_laysRows 66 = .ok (.goto 4, 3) := by decide +kernel
theorem dX8_laysRows_69 : decode cX8_laysRows 69 = .ok (.lconst 0, 1) := by decide +kernel
theorem dX8_laysRows_70 : decode cX8_laysRows 70 = .ok (.lastore, 1) := by decide +kernel
theorem dX8_laysRows_71 : decode cX8_laysRows 71 = .ok (.iinc 3 1, 3) := by decide +kernel
theorem dX8_laysRows_74 : decode cX8_laysRows 74 = .ok (.goto (-34), 3) := by decide +kernel
theorem dX8_laysRows_77 : decode cX8_laysRows 77 = .ok (.aload_n 0, 1) := by decide +kernel
theorem dX8_laysRows_78 : decode cX8_laysRows 78 = .ok (.getfield 54, 3) := by decide +kernel
theorem dX8_laysRows_81 : decode cX8_laysRows 81 = .ok (.iconst 0, 1) := by decide +kernel
theorem dX8_laysRows_82 : decode cX8_laysRows 82 = .ok (.invokestatic 118, 3) := by decide +kernel
theorem dX8_laysRows_85 : decode cX8_laysRows 85 = .ok (.bipush (-4), 2) := by decide +kernel
theorem dX8_laysRows_87 : decode cX8_laysRows 87 = .ok (.if_icmp .eq 7, 3) := by decide +kernel
theorem dX8_laysRows_90 : decode cX8_laysRows 90 = .ok (.aload_n 0, 1) := by decide +kernel
theorem dX8_laysRows_91 : decode cX8_laysRows 91 = .ok (.invokevirtual 186, 3) := by decide +kernel
theorem dX8_laysRows_94 : decode cX8_laysRows 94 = .ok (.iinc 2 1, 3) := by decide +kernel
theorem dX8_laysRows_97 : decode cX8_laysRows 97 = .ok (.goto (-70), 3) := by decide +kernel
theorem dX8_laysRows_100 : decode cX8_laysRows 100 = .ok (.aload_n 0, 1) := by decide +kernel
theorem dX8_laysRows_101 : decode cX8_laysRows 101 = .ok (.getfield 183, 3) := by decide +kernel
theorem dX8_laysRows_104 : decode cX8_laysRows 104 = .ok (.iconst 2, 1) := by decide +kernel
theorem dX8_laysRows_105 : decode cX8_laysRows 105 = .ok (.if_icmp .ne 7, 3) := by decide +kernel
theorem dX8_laysRows_108 : decode cX8_laysRows 108 = .ok (.iconst 1, 1) := by decide +kernel
theorem dX8_laysRows_109 : decode cX8_laysRows 109 = .ok (.goto 4, 3) := by decide +kernel
theorem dX8_laysRows_112 : decode cX8_laysRows 112 = .ok (.iconst 0, 1) := by decide +kernel
theorem dX8_laysRows_113 : decode cX8_laysRows 113 = .ok (.istore_n 2, 1) := by decide +kernel
theorem dX8_laysRows_114 : decode cX8_laysRows 114 = .ok (.iload_n 2, 1) := by decide +kernel
theorem dX8_laysRows_115 : decode cX8_laysRows 115 = .ok (.ifCond .eq 84, 3) := by decide +kernel
theorem dX8_laysRows_118 : decode cX8_laysRows 118 = .ok (.iconst 0, 1) := by decide +kernel
theorem dX8_laysRows_119 : decode cX8_laysRows 119 = .ok (.istore_n 3, 1) := by decide +kernel
theorem dX8_laysRows_120 : decode cX8_laysRows 120 = .ok (.iload_n 3, 1) := by decide +kernel
theorem dX8_laysRows_121 : decode cX8_laysRows 121 = .ok (.iconst 5, 1) := by decide +kernel
theorem dX8_laysRows_122 : decode cX8_laysRows 122 = .ok (.if_icmp .ge 31, 3) := by decide +kernel
theorem dX8_laysRows_125 : decode cX8_laysRows 125 = .ok (.aload_n 0, 1) := by decide +kernel
theorem dX8_laysRows_126 : decode cX8_laysRows 126 = .ok (.getfield 54, 3) := by decide +kernel
theorem dX8_laysRows_129 : decode cX8_laysRows 129 = .ok (.iload_n 3, 1) := by decide +kernel
theorem dX8_laysRows_130 : decode cX8_laysRows 130 = .ok (.aload_n 0, 1) := by decide +kernel
theorem dX8_laysRows_131 : decode cX8_laysRows 131 = .ok (.getfield 51, 3) := by decide +kernel
theorem dX8_laysRows_134 : decode cX8_laysRows 134 = .ok (.iconst 5, 1) := by decide +kernel
theorem dX8_laysRows_135 : decode cX8_laysRows 135 = .ok (.aload_n 0, 1) := by decide +kernel
theorem dX8_laysRows_136 : decode cX8_laysRows 136 = .ok (.getfield 183, 3) := by decide +kernel
theorem dX8_laysRows_139 : decode cX8_laysRows 139 = .ok (.imul, 1) := by decide +kernel
theorem dX8_laysRows_140 : decode cX8_laysRows 140 = .ok (.bipush 10, 2) := by decide +kernel
theorem dX8_laysRows_142 : decode cX8_laysRows 142 = .ok (.isub, 1) := by decide +kernel
theorem dX8_laysRows_143 : decode cX8_laysRows 143 = .ok (.iload_n 3, 1) := by decide +kernel
theorem dX8_laysRows_144 : decode cX8_laysRows 144 = .ok (.iadd, 1) := by decide +kernel
theorem dX8_laysRows_145 : decode cX8_laysRows 145 = .ok (.laload, 1) := by decide +kernel
theorem dX8_laysRows_146 : decode cX8_laysRows 146 = .ok (.lastore, 1) := by decide +kernel
theorem dX8_laysRows_147 : decode cX8_laysRows 147 = .ok (.iinc 3 1, 3) := by decide +kernel
theorem dX8_laysRows_150 : decode cX8_laysRows 150 = .ok (.goto (-30), 3) := by decide +kernel
theorem dX8_laysRows_153 : decode cX8_laysRows 153 = .ok (.aload_n 0, 1) := by decide +kernel
theorem dX8_laysRows_154 : decode cX8_laysRows 154 = .ok (.iconst 5, 1) := by decide +kernel
theorem dX8_laysRows_155 : decode cX8_laysRows 155 = .ok (.aload_n 0, 1) := by decide +kernel
theorem dX8_laysRows_156 : decode cX8_laysRows 156 = .ok (.getfield 183, 3) := by decide +kernel
theorem dX8_laysRows_159 : decode cX8_laysRows 159 = .ok (.imul, 1) := by decide +kernel
theorem dX8_laysRows_160 : decode cX8_laysRows 160 = .ok (.iconst 5, 1) := by decide +kernel
theorem dX8_laysRows_161 : decode cX8_laysRows 161 = .ok (.isub, 1) := by decide +kernel
theorem dX8_laysRows_162 : decode cX8_laysRows 162 = .ok (.invokevirtual 189, 3) := by decide +kernel
theorem dX8_laysRows_165 : decode cX8_laysRows 165 = .ok (.aload_n 0, 1) := by decide +kernel
theorem dX8_laysRows_166 : decode cX8_laysRows 166 = .ok (.getfield 54, 3) := by decide +kernel
theorem dX8_laysRows_169 : decode cX8_laysRows 169 = .ok (.iconst 0, 1) := by decide +kernel
theorem dX8_laysRows_170 : decode cX8_laysRows 170 = .ok (.invokestatic 118, 3) := by decide +kernel
theorem dX8_laysRows_173 : decode cX8_laysRows 173 = .ok (.bipush (-4), 2) := by decide +kernel
theorem dX8_laysRows_175 : decode cX8_laysRows 175 = .ok (.if_icmp .eq 7, 3) := by decide +kernel
theorem dX8_laysRows_178 : decode cX8_laysRows 178 = .ok (.iconst 1, 1) := by decide +kernel
theorem dX8_laysRows_179 : decode cX8_laysRows 179 = .ok (.goto 4, 3) := by decide +kernel
theorem dX8_laysRows_182 : decode cX8_laysRows 182 = .ok (.iconst 0, 1) := by decide +kernel
theorem dX8_laysRows_183 : decode cX8_laysRows 183 = .ok (.istore_n 2, 1) := by decide +kernel
theorem dX8_laysRows_184 : decode cX8_laysRows 184 = .ok (.iload_n 2, 1) := by decide +kernel
theorem dX8_laysRows_185 : decode cX8_laysRows 185 = .ok (.ifCond .eq (-71), 3) := by decide +kernel
theorem dX8_laysRows_188 : decode cX8_laysRows 188 = .ok (.aload_n 0, 1) := by decide +kernel
theorem dX8_laysRows_189 : decode cX8_laysRows 189 = .ok (.invokevirtual 180, 3) := by decide +kernel
theorem dX8_laysRows_192 : decode cX8_laysRows 192 = .ok (.aload_n 0, 1) := by decide +kernel
theorem dX8_laysRows_193 : decode cX8_laysRows 193 = .ok (.invokevirtual 186, 3) := by decide +kernel
theorem dX8_laysRows_196 : decode cX8_laysRows 196 = .ok (.goto (-82), 3) := by decide +kernel
theorem dX8_laysRows_199 : decode cX8_laysRows 199 = .ok (.return_, 1) := by decide +kernel
theorem dX8_row_0 : decode cX8_row 0 = .ok (.iload_n 1, 1) := by decide +kernel
theorem dX8_row_1 : decode cX8_row 1 = .ok (.ifCond .lt 25, 3) := by decide +kernel
theorem dX8_row_4 : decode cX8_row 4 = .ok (.iload_n 2, 1) := by decide +kernel
theorem dX8_row_5 : decode cX8_row 5 = .ok (.i2l, 1) := by decide +kernel
theorem dX8_row_6 : decode cX8_row 6 = .ok (.lconst 0, 1) := by decide +kernel
theorem dX8_row_7 : decode cX8_row 7 = .ok (.ldc2_w 96, 3) := by decide +kernel
theorem dX8_row_10 : decode cX8_row 10 = .ok (.invokestatic 141, 3) := by decide +kernel
theorem dX8_row_13 : decode cX8_row 13 = .ok (.ifCond .eq 13, 3) := by decide +kernel
theorem dX8_row_16 : decode cX8_row 16 = .ok (.iload_n 3, 1) := by decide +kernel
theorem dX8_row_17 : decode cX8_row 17 = .ok (.i2l, 1) := by decide +kernel
theorem dX8_row_18 : decode cX8_row 18 = .ok (.lconst 0, 1) := by decide +kernel
theorem dX8_row_19 : decode cX8_row 19 = .ok (.lconst 1, 1) := by decide +kernel
theorem dX8_row_20 : decode cX8_row 20 = .ok (.invokestatic 141, 3) := by decide +kernel
theorem dX8_row_23 : decode cX8_row 23 = .ok (.ifCond .ne 7, 3) := by decide +kernel
theorem dX8_row_26 : decode cX8_row 26 = .ok (.ldc2_w 192, 3) := by decide +kernel
theorem dX8_row_29 : decode cX8_row 29 = .ok (.lreturn, 1) := by decide +kernel
theorem dX8_row_30 : decode cX8_row 30 = .ok (.aload_n 0, 1) := by decide +kernel
theorem dX8_row_31 : decode cX8_row 31 = .ok (.invokevirtual 194, 3) := by decide +kernel
theorem dX8_row_34 : decode cX8_row 34 = .ok (.iload_n 1, 1) := by decide +kernel
theorem dX8_row_35 : decode cX8_row 35 = .ok (.aload_n 0, 1) := by decide +kernel
theorem dX8_row_36 : decode cX8_row 36 = .ok (.getfield 183, 3) := by decide +kernel
theorem dX8_row_39 : decode cX8_row 39 = .ok (.if_icmp .lt 7, 3) := by decide +kernel
theorem dX8_row_42 : decode cX8_row 42 = .ok (.ldc2_w 197, 3) := by decide +kernel
theorem dX8_row_45 : decode cX8_row 45 = .ok (.lreturn, 1) := by decide +kernel
theorem dX8_row_46 : decode cX8_row 46 = .ok (.aload_n 0, 1) := by decide +kernel
theorem dX8_row_47 : decode cX8_row 47 = .ok (.getfield 51, 3) := by decide +kernel
theorem dX8_row_50 : decode cX8_row 50 = .ok (.iconst 5, 1) := by decide +kernel
theorem dX8_row_51 : decode cX8_row 51 = .ok (.iload_n 1, 1) := by decide +kernel
theorem dX8_row_52 : decode cX8_row 52 = .ok (.imul, 1) := by decide +kernel
theorem dX8_row_53 : decode cX8_row 53 = .ok (.iload_n 2, 1) := by decide +kernel
theorem dX8_row_54 : decode cX8_row 54 = .ok (.iadd, 1) := by decide +kernel
theorem dX8_row_55 : decode cX8_row 55 = .ok (.laload, 1) := by decide +kernel
theorem dX8_row_56 : decode cX8_row 56 = .ok (.lstore 4, 2) := by decide +kernel
theorem dX8_row_58 : decode cX8_row 58 = .ok (.iload_n 3, 1) := by decide +kernel
theorem dX8_row_59 : decode cX8_row 59 = .ok (.ifCond .ne 21, 3) := by decide +kernel
theorem dX8_row_62 : decode cX8_row 62 = .ok (.lload 4, 2) := by decide +kernel
theorem dX8_row_64 : decode cX8_row 64 = .ok (.lconst 0, 1) := by decide +kernel
theorem dX8_row_65 : decode cX8_row 65 = .ok (.lcmp, 1) := by decide +kernel
theorem dX8_row_66 : decode cX8_row 66 = .ok (.ifCond .ge 9, 3) := by decide +kernel
theorem dX8_row_69 : decode cX8_row 69 = .ok (.lload 4, 2) := by decide +kernel
theorem dX8_row_71 : decode cX8_row 71 = .ok (.lneg, 1) := by decide +kernel
theorem dX8_row_72 : decode cX8_row 72 = .ok (.goto 33, 3) := by decide +kernel
theorem dX8_row_75 : decode cX8_row 75 = .ok (.lload 4, 2) := by decide +kernel
theorem dX8_row_77 : decode cX8_row 77 = .ok (.goto 28, 3) := by decide +kernel
theorem dX8_row_80 : decode cX8_row 80 = .ok (.lload 4, 2) := by decide +kernel
theorem dX8_row_82 : decode cX8_row 82 = .ok (.lconst 0, 1) := by decide +kernel
theorem dX8_row_83 : decode cX8_row 83 = .ok (.lcmp, 1) := by decide +kernel
theorem dX8_row_84 : decode cX8_row 84 = .ok (.ifCond .le 7, 3) := by decide +kernel
theorem dX8_row_87 : decode cX8_row 87 = .ok (.lconst 1, 1) := by decide +kernel
theorem dX8_row_88 : decode cX8_row 88 = .ok (.goto 17, 3) := by decide +kernel
theorem dX8_row_91 : decode cX8_row 91 = .ok (.lload 4, 2) := by decide +kernel
theorem dX8_row_93 : decode cX8_row 93 = .ok (.lconst 0, 1) := by decide +kernel
theorem dX8_row_94 : decode cX8_row 94 = .ok (.lcmp, 1) := by decide +kernel
theorem dX8_row_95 : decode cX8_row 95 = .ok (.ifCond .ge 9, 3) := by decide +kernel
theorem dX8_row_98 : decode cX8_row 98 = .ok (.ldc2_w 199, 3) := by decide +kernel
theorem dX8_row_101 : decode cX8_row 101 = .ok (.goto 4, 3) := by decide +kernel
theorem dX8_row_104 : decode cX8_row 104 = .ok (.lconst 0, 1) := by decide +kernel
theorem dX8_row_105 : decode cX8_row 105 = .ok (.lreturn, 1) := by decide +kernel
theorem dX8_rows_0 : decode cX8_rows 0 = .ok (.aload_n 0, 1) := by decide +kernel
theorem dX8_rows_1 : decode cX8_rows 1 = .ok (.invokevirtual 194, 3) := by decide +kernel
theorem dX8_rows_4 : decode cX8_rows 4 = .ok (.aload_n 0, 1) := by decide +kernel
theorem dX8_rows_5 : decode cX8_rows 5 = .ok (.getfield 183, 3) := by decide +kernel
theorem dX8_rows_8 : decode cX8_rows 8 = .ok (.ireturn, 1) := by decide +kernel
theorem dX8_laysSpans_0 : decode cX8_laysSpans 0 = .ok (.aload_n 0, 1) := by decide +kernel
theorem dX8_laysSpans_1 : decode cX8_laysSpans 1 = .ok (.iconst 0, 1) := by decide +kernel
theorem dX8_laysSpans_2 : decode cX8_laysSpans 2 = .ok (.putfield 201, 3) := by decide +kernel
theorem dX8_laysSpans_5 : decode cX8_laysSpans 5 = .ok (.iconst 0, 1) := by decide +kernel
theorem dX8_laysSpans_6 : decode cX8_laysSpans 6 = .ok (.istore_n 2, 1) := by decide +kernel
theorem dX8_laysSpans_7 : decode cX8_laysSpans 7 = .ok (.iconst 0, 1) := by decide +kernel
theorem dX8_laysSpans_8 : decode cX8_laysSpans 8 = .ok (.istore_n 3, 1) := by decide +kernel
theorem dX8_laysSpans_9 : decode cX8_laysSpans 9 = .ok (.sipush (-800), 3) := by decide +kernel
theorem dX8_laysSpans_12 : decode cX8_laysSpans 12 = .ok (.istore 4, 2) := by decide +kernel
theorem dX8_laysSpans_14 : decode cX8_laysSpans 14 = .ok (.iload 4, 2) := by decide +kernel
theorem dX8_laysSpans_16 : decode cX8_laysSpans 16 = .ok (.sipush 800, 3) := by decide +kernel
theorem dX8_laysSpans_19 : decode cX8_laysSpans 19 = .ok (.if_icmp .gt 76, 3) := by decide +kernel
theorem dX8_laysSpans_22 : decode cX8_laysSpans 22 = .ok (.aload_n 0, 1) := by decide +kernel
theorem dX8_laysSpans_23 : decode cX8_laysSpans 23 = .ok (.iload 4, 2) := by decide +kernel
theorem dX8_laysSpans_25 : decode cX8_laysSpans 25 = .ok (.invokevirtual 167, 3) := by decide +kernel
theorem dX8_laysSpans_28 : decode cX8_laysSpans 28 = .ok (.aload_n 0, 1) := by decide +kernel
theorem dX8_laysSpans_29 : decode cX8_laysSpans 29 = .ok (.iload_n 1, 1) := by decide +kernel
theorem dX8_laysSpans_30 : decode cX8_laysSpans 30 = .ok (.invokevirtual 204, 3) := by decide +kernel
theorem dX8_laysSpans_33 : decode cX8_laysSpans 33 = .ok (.istore 5, 2) := by decide +kernel
theorem dX8_laysSpans_35 : decode cX8_laysSpans 35 = .ok (.iload 5, 2) := by decide +kernel
theorem dX8_laysSpans_37 : decode cX8_laysSpans 37 = .ok (.ifCond .eq 28, 3) := by decide +kernel
theorem dX8_laysSpans_40 : decode cX8_laysSpans 40 = .ok (.iload_n 3, 1) := by decide +kernel
theorem dX8_laysSpans_41 : decode cX8_laysSpans 41 = .ok (.ifCond .ne 24, 3) := by decide +kernel
theorem dX8_laysSpans_44 : decode cX8_laysSpans 44 = .ok (.aload_n 0, 1) := by decide +kernel
theorem dX8_laysSpans_45 : decode cX8_laysSpans 45 = .ok (.getfield 57, 3) := by decide +kernel
theorem dX8_laysSpans_48 : decode cX8_laysSpans 48 = .ok (.aload_n 0, 1) := by decide +kernel
theorem dX8_laysSpans_49 : decode cX8_laysSpans 49 = .ok (.getfield 201, 3) := by decide +kernel
theorem dX8_laysSpans_52 : decode cX8_laysSpans 52 = .ok (.iload 4, 2) := by decide +kernel
theorem dX8_laysSpans_54 : decode cX8_laysSpans 54 = .ok (.iastore, 1) := by decide +kernel
theorem dX8_laysSpans_55 : decode cX8_laysSpans 55 = .ok (.aload_n 0, 1) := by decide +kernel
theorem dX8_laysSpans_56 : decode cX8_laysSpans 56 = .ok (.dup, 1) := by decide +kernel
theorem dX8_laysSpans_57 : decode cX8_laysSpans 57 = .ok (.getfield 201, 3) := by decide +kernel
theorem dX8_laysSpans_60 : decode cX8_laysSpans 60 = .ok (.iconst 1, 1) := by decide +kernel
theorem dX8_laysSpans_61 : decode cX8_laysSpans 61 = .ok (.iadd, 1) := by decide +kernel
theorem dX8_laysSpans_62 : decode cX8_laysSpans 62 = .ok (.putfield 201, 3) := by decide +kernel
theorem dX8_laysSpans_65 : decode cX8_laysSpans 65 = .ok (.iload 5, 2) := by decide +kernel
theorem dX8_laysSpans_67 : decode cX8_laysSpans 67 = .ok (.ifCond .eq 19, 3) := by decide +kernel
theorem dX8_laysSpans_70 : decode cX8_laysSpans 70 = .ok (.aload_n 0, 1) := by decide +kernel
theorem dX8_laysSpans_71 : decode cX8_laysSpans 71 = .ok (.getfield 60, 3) := by decide +kernel
theorem dX8_laysSpans_74 : decode cX8_laysSpans 74 = .ok (.aload_n 0, 1) := by decide +kernel
theorem dX8_laysSpans_75 : decode cX8_laysSpans 75 = .ok (.getfield 201, 3) := by decide +kernel
theorem dX8_laysSpans_78 : decode cX8_laysSpans 78 = .ok (.iconst 1, 1) := by decide +kernel
theorem dX8_laysSpans_79 : decode cX8_laysSpans 79 = .ok (.isub, 1) := by decide +kernel
theorem dX8_laysSpans_80 : decode cX8_laysSpans 80 = .ok (.iload 4, 2) := by decide +kernel
theorem dX8_laysSpans_82 : decode cX8_laysSpans 82 = .ok (.iastore, 1) := by decide +kernel
theorem dX8_laysSpans_83 : decode cX8_laysSpans 83 = .ok (.iinc 2 1, 3) := by decide +kernel
theorem dX8_laysSpans_86 : decode cX8_laysSpans 86 = .ok (.iload 5, 2) := by decide +kernel
theorem dX8_laysSpans_88 : decode cX8_laysSpans 88 = .ok (.istore_n 3, 1) := by decide +kernel
theorem dX8_laysSpans_89 : decode cX8_laysSpans 89 = .ok (.iinc 4 1, 3) := by decide +kernel
theorem dX8_laysSpans_92 : decode cX8_laysSpans 92 = .ok (.goto (-78), 3) := by decide +kernel
theorem dX8_laysSpans_95 : decode cX8_laysSpans 95 = .ok (.iload_n 2, 1) := by decide +kernel
theorem dX8_laysSpans_96 : decode cX8_laysSpans 96 = .ok (.ireturn, 1) := by decide +kernel
theorem dX8_isAsk_0 : decode cX8_isAsk 0 = .ok (.iload_n 0, 1) := by decide +kernel
theorem dX8_isAsk_1 : decode cX8_isAsk 1 = .ok (.i2l, 1) := by decide +kernel
theorem dX8_isAsk_2 : decode cX8_isAsk 2 = .ok (.lconst 0, 1) := by decide +kernel
theorem dX8_isAsk_3 : decode cX8_isAsk 3 = .ok (.lconst 1, 1) := by decide +kernel
theorem dX8_isAsk_4 : decode cX8_isAsk 4 = .ok (.invokestatic 141, 3) := by decide +kernel
theorem dX8_isAsk_7 : decode cX8_isAsk 7 = .ok (.ifCond .eq 21, 3) := by decide +kernel
theorem dX8_isAsk_10 : decode cX8_isAsk 10 = .ok (.iload_n 1, 1) := by decide +kernel
theorem dX8_isAsk_11 : decode cX8_isAsk 11 = .ok (.ifCond .lt 17, 3) := by decide +kernel
theorem dX8_isAsk_14 : decode cX8_isAsk 14 = .ok (.iload_n 2, 1) := by decide +kernel
theorem dX8_isAsk_15 : decode cX8_isAsk 15 = .ok (.i2l, 1) := by decide +kernel
theorem dX8_isAsk_16 : decode cX8_isAsk 16 = .ok (.lconst 0, 1) := by decide +kernel
theorem dX8_isAsk_17 : decode cX8_isAsk 17 = .ok (.lconst 1, 1) := by decide +kernel
theorem dX8_isAsk_18 : decode cX8_isAsk 18 = .ok (.invokestatic 141, 3) := by decide +kernel
theorem dX8_isAsk_21 : decode cX8_isAsk 21 = .ok (.ifCond .eq 7, 3) := by decide +kernel
theorem dX8_isAsk_24 : decode cX8_isAsk 24 = .ok (.iconst 1, 1) := by decide +kernel
theorem dX8_isAsk_25 : decode cX8_isAsk 25 = .ok (.goto 4, 3) := by decide +kernel
theorem dX8_isAsk_28 : decode cX8_isAsk 28 = .ok (.iconst 0, 1) := by decide +kernel
theorem dX8_isAsk_29 : decode cX8_isAsk 29 = .ok (.ireturn, 1) := by decide +kernel
theorem dX8_span_0 : decode cX8_span 0 = .ok (.iload_n 1, 1) := by decide +kernel
theorem dX8_span_1 : decode cX8_span 1 = .ok (.iload_n 2, 1) := by decide +kernel
theorem dX8_span_2 : decode cX8_span 2 = .ok (.iload_n 3, 1) := by decide +kernel
theorem dX8_span_3 : decode cX8_span 3 = .ok (.invokestatic 207, 3) := by decide +kernel
theorem dX8_span_6 : decode cX8_span 6 = .ok (.ifCond .ne 5, 3) := by decide +kernel
theorem dX8_span_9 : decode cX8_span 9 = .ok (.iconst (-1), 1) := by decide +kernel
theorem dX8_span_10 : decode cX8_span 10 = .ok (.ireturn, 1) := by decide +kernel
theorem dX8_span_11 : decode cX8_span 11 = .ok (.aload_n 0, 1) := by decide +kernel
theorem dX8_span_12 : decode cX8_span 12 = .ok (.iload_n 1, 1) := by decide +kernel
theorem dX8_span_13 : decode cX8_span 13 = .ok (.invokevirtual 211, 3) := by decide +kernel
theorem dX8_span_16 : decode cX8_span 16 = .ok (.pop, 1) := by decide +kernel
theorem dX8_span_17 : decode cX8_span 17 = .ok (.iload_n 2, 1) := by decide +kernel
theorem dX8_span_18 : decode cX8_span 18 = .ok (.aload_n 0, 1) := by decide +kernel
theorem dX8_span_19 : decode cX8_span 19 = .ok (.getfield 201, 3) := by decide +kernel
theorem dX8_span_22 : decode cX8_span 22 = .ok (.if_icmp .lt 8, 3) := by decide +kernel
theorem dX8_span_25 : decode cX8_span 25 = .ok (.bipush (-4), 2) := by decide +kernel
theorem dX8_span_27 : decode cX8_span 27 = .ok (.goto 26, 3) := by decide +kernel
theorem dX8_span_30 : decode cX8_span 30 = .ok (.iload_n 3, 1) := by decide +kernel
theorem dX8_span_31 : decode cX8_span 31 = .ok (.ifCond .ne 12, 3) := by decide +kernel
theorem dX8_span_34 : decode cX8_span 34 = .ok (.aload_n 0, 1) := by decide +kernel
theorem dX8_span_35 : decode cX8_span 35 = .ok (.getfield 57, 3) := by decide +kernel
theorem dX8_span_38 : decode cX8_span 38 = .ok (.iload_n 2, 1) := by decide +kernel
theorem dX8_span_39 : decode cX8_span 39 = .ok (.iaload, 1) := by decide +kernel
theorem dX8_span_40 : decode cX8_span 40 = .ok (.goto 9, 3) := by decide +kernel
theorem dX8_span_43 : decode cX8_span 43 = .ok (.aload_n 0, 1) := by decide +kernel
theorem dX8_span_44 : decode cX8_span 44 = .ok (.getfield 60, 3) := by decide +kernel
theorem dX8_span_47 : decode cX8_span 47 = .ok (.iload_n 2, 1) := by decide +kernel
theorem dX8_span_48 : decode cX8_span 48 = .ok (.iaload, 1) := by decide +kernel
theorem dX8_span_49 : decode cX8_span 49 = .ok (.sipush 800, 3) := by decide +kernel
theorem dX8_span_52 : decode cX8_span 52 = .ok (.iadd, 1) := by decide +kernel
theorem dX8_span_53 : decode cX8_span 53 = .ok (.ireturn, 1) := by decide +kernel
theorem dX8_widest_0 : decode cX8_widest 0 = .ok (.iload_n 1, 1) := by decide +kernel
theorem dX8_widest_1 : decode cX8_widest 1 = .ok (.iload_n 2, 1) := by decide +kernel
theorem dX8_widest_2 : decode cX8_widest 2 = .ok (.iload_n 3, 1) := by decide +kernel
theorem dX8_widest_3 : decode cX8_widest 3 = .ok (.invokestatic 207, 3) := by decide +kernel
theorem dX8_widest_6 : decode cX8_widest 6 = .ok (.ifCond .ne 5, 3) := by decide +kernel
theorem dX8_widest_9 : decode cX8_widest 9 = .ok (.iconst (-1), 1) := by decide +kernel
theorem dX8_widest_10 : decode cX8_widest 10 = .ok (.ireturn, 1) := by decide +kernel
theorem dX8_widest_11 : decode cX8_widest 11 = .ok (.aload_n 0, 1) := by decide +kernel
theorem dX8_widest_12 : decode cX8_widest 12 = .ok (.iload_n 1, 1) := by decide +kernel
theorem dX8_widest_13 : decode cX8_widest 13 = .ok (.invokevirtual 211, 3) := by decide +kernel
theorem dX8_widest_16 : decode cX8_widest 16 = .ok (.pop, 1) := by decide +kernel
theorem dX8_widest_17 : decode cX8_widest 17 = .ok (.iconst 0, 1) := by decide +kernel
theorem dX8_widest_18 : decode cX8_widest 18 = .ok (.istore 4, 2) := by decide +kernel
theorem dX8_widest_20 : decode cX8_widest 20 = .ok (.iload 4, 2) := by decide +kernel
theorem dX8_widest_22 : decode cX8_widest 22 = .ok (.aload_n 0, 1) := by decide +kernel
theorem dX8_widest_23 : decode cX8_widest 23 = .ok (.getfield 201, 3) := by decide +kernel
theorem dX8_widest_26 : decode cX8_widest 26 = .ok (.if_icmp .ge 122, 3) := by decide +kernel
theorem dX8_widest_29 : decode cX8_widest 29 = .ok (.iconst 0, 1) := by decide +kernel
theorem dX8_widest_30 : decode cX8_widest 30 = .ok (.istore 5, 2) := by decide +kernel
theorem dX8_widest_32 : decode cX8_widest 32 = .ok (.iconst 0, 1) := by decide +kernel
theorem dX8_widest_33 : decode cX8_widest 33 = .ok (.istore 6, 2) := by decide +kernel
theorem dX8_widest_35 : decode cX8_widest 35 = .ok (.iload 6, 2) := by decide +kernel
theorem dX8_widest_37 : decode cX8_widest 37 = .ok (.aload_n 0, 1) := by decide +kernel
theorem dX8_widest_38 : decode cX8_widest 38 = .ok (.getfield 201, 3) := by decide +kernel
theorem dX8_widest_41 : decode cX8_widest 41 = .ok (.if_icmp .ge 69, 3) := by decide +kernel
theorem dX8_widest_44 : decode cX8_widest 44 = .ok (.aload_n 0, 1) := by decide +kernel
theorem dX8_widest_45 : decode cX8_widest 45 = .ok (.getfield 60, 3) := by decide +kernel
theorem dX8_widest_48 : decode cX8_widest 48 = .ok (.iload 6, 2) := by decide +kernel
theorem dX8_widest_50 : decode cX8_widest 50 = .ok (.iaload, 1) := by decide +kernel
theorem dX8_widest_51 : decode cX8_widest 51 = .ok (.aload_n 0, 1) := by decide +kernel
theorem dX8_widest_52 : decode cX8_widest 52 = .ok (.getfield 57, 3) := by decide +kernel
theorem dX8_widest_55 : decode cX8_widest 55 = .ok (.iload 6, 2) := by decide +kernel
theorem dX8_widest_57 : decode cX8_widest 57 = .ok (.iaload, 1) := by decide +kernel
theorem dX8_widest_58 : decode cX8_widest 58 = .ok (.isub, 1) := by decide +kernel
theorem dX8_widest_59 : decode cX8_widest 59 = .ok (.aload_n 0, 1) := by decide +kernel
theorem dX8_widest_60 : decode cX8_widest 60 = .ok (.getfield 60, 3) := by decide +kernel
theorem dX8_widest_63 : decode cX8_widest 63 = .ok (.iload 4, 2) := by decide +kernel
theorem dX8_widest_65 : decode cX8_widest 65 = .ok (.iaload, 1) := by decide +kernel
theorem dX8_widest_66 : decode cX8_widest 66 = .ok (.isub, 1) := by decide +kernel
theorem dX8_widest_67 : decode cX8_widest 67 = .ok (.aload_n 0, 1) := by decide +kernel
theorem dX8_widest_68 : decode cX8_widest 68 = .ok (.getfield 57, 3) := by decide +kernel
theorem dX8_widest_71 : decode cX8_widest 71 = .ok (.iload 4, 2) := by decide +kernel
theorem dX8_widest_73 : decode cX8_widest 73 = .ok (.iaload, 1) := by decide +kernel
theorem dX8_widest_74 : decode cX8_widest 74 = .ok (.iadd, 1) := by decide +kernel
theorem dX8_widest_75 : decode cX8_widest 75 = .ok (.istore 7, 2) := by decide +kernel
theorem dX8_widest_77 : decode cX8_widest 77 = .ok (.iload 5, 2) := by decide +kernel
theorem dX8_widest_79 : decode cX8_widest 79 = .ok (.iload 7, 2) := by decide +kernel
theorem dX8_widest_81 : decode cX8_widest 81 = .ok (.ifCond .gt 15, 3) := by decide +kernel
theorem dX8_widest_84 : decode cX8_widest 84 = .ok (.iload 7, 2) := by decide +kernel
theorem dX8_widest_86 : decode cX8_widest 86 = .ok (.ifCond .ne 14, 3) := by decide +kernel
theorem dX8_widest_89 : decode cX8_widest 89 = .ok (.iload 6, 2) := by decide +kernel
theorem dX8_widest_91 : decode cX8_widest 91 = .ok (.iload 4, 2) := by decide +kernel
theorem dX8_widest_93 : decode cX8_widest 93 = .ok (.if_icmp .ge 7, 3) := by decide +kernel
theorem dX8_widest_96 : decode cX8_widest 96 = .ok (.iconst 1, 1) := by decide +kernel
theorem dX8_widest_97 : decode cX8_widest 97 = .ok (.goto 4, 3) := by decide +kernel
theorem dX8_widest_100 : decode cX8_widest 100 = .ok (.iconst 0, 1) := by decide +kernel
theorem dX8_widest_101 : decode cX8_widest 101 = .ok (.iadd, 1) := by decide +kernel
theorem dX8_widest_102 : decode cX8_widest 102 = .ok (.istore 5, 2) := by decide +kernel
theorem dX8_widest_104 : decode cX8_widest 104 = .ok (.iinc 6 1, 3) := by decide +kernel
theorem dX8_widest_107 : decode cX8_widest 107 = .ok (.goto (-72), 3) := by decide +kernel
theorem dX8_widest_110 : decode cX8_widest 110 = .ok (.iload 5, 2) := by decide +kernel
theorem dX8_widest_112 : decode cX8_widest 112 = .ok (.iload_n 2, 1) := by decide +kernel
theorem dX8_widest_113 : decode cX8_widest 113 = .ok (.if_icmp .ne 29, 3) := by decide +kernel
theorem dX8_widest_116 : decode cX8_widest 116 = .ok (.iload_n 3, 1) := by decide +kernel
theorem dX8_widest_117 : decode cX8_widest 117 = .ok (.ifCond .ne 13, 3) := by decide +kernel
theorem dX8_widest_120 : decode cX8_widest 120 = .ok (.aload_n 0, 1) := by decide +kernel
theorem dX8_widest_121 : decode cX8_widest 121 = .ok (.getfield 57, 3) := by decide +kernel
theorem dX8_widest_124 : decode cX8_widest 124 = .ok (.iload 4, 2) := by decide +kernel
theorem dX8_widest_126 : decode cX8_widest 126 = .ok (.iaload, 1) := by decide +kernel
theorem dX8_widest_127 : decode cX8_widest 127 = .ok (.goto 10, 3) := by decide +kernel
theorem dX8_widest_130 : decode cX8_widest 130 = .ok (.aload_n 0, 1) := by decide +kernel
theorem dX8_widest_131 : decode cX8_widest 131 = .ok (.getfield 60, 3) := by decide +kernel
theorem dX8_widest_134 : decode cX8_widest 134 = .ok (.iload 4, 2) := by decide +kernel
theorem dX8_widest_136 : decode cX8_widest 136 = .ok (.iaload, 1) := by decide +kernel
theorem dX8_widest_137 : decode cX8_widest 137 = .ok (.sipush 800, 3) := by decide +kernel
theorem dX8_widest_140 : decode cX8_widest 140 = .ok (.iadd, 1) := by decide +kernel
theorem dX8_widest_141 : decode cX8_widest 141 = .ok (.ireturn, 1) := by decide +kernel
theorem dX8_widest_142 : decode cX8_widest 142 = .ok (.iinc 4 1, 3) := by decide +kernel
theorem dX8_widest_145 : decode cX8_widest 145 = .ok (.goto (-125), 3) := by decide +kernel
theorem dX8_widest_148 : decode cX8_widest 148 = .ok (.bipush (-4), 2) := by decide +kernel
theorem dX8_widest_150 : decode cX8_widest 150 = .ok (.ireturn, 1) := by decide +kernel
theorem dX8_spans_0 : decode cX8_spans 0 = .ok (.iload_n 1, 1) := by decide +kernel
theorem dX8_spans_1 : decode cX8_spans 1 = .ok (.i2l, 1) := by decide +kernel
theorem dX8_spans_2 : decode cX8_spans 2 = .ok (.lconst 0, 1) := by decide +kernel
theorem dX8_spans_3 : decode cX8_spans 3 = .ok (.lconst 1, 1) := by decide +kernel
theorem dX8_spans_4 : decode cX8_spans 4 = .ok (.invokestatic 141, 3) := by decide +kernel
theorem dX8_spans_7 : decode cX8_spans 7 = .ok (.ifCond .eq 13, 3) := by decide +kernel
theorem dX8_spans_10 : decode cX8_spans 10 = .ok (.iload_n 2, 1) := by decide +kernel
theorem dX8_spans_11 : decode cX8_spans 11 = .ok (.i2l, 1) := by decide +kernel
theorem dX8_spans_12 : decode cX8_spans 12 = .ok (.lconst 0, 1) := by decide +kernel
theorem dX8_spans_13 : decode cX8_spans 13 = .ok (.lconst 1, 1) := by decide +kernel
theorem dX8_spans_14 : decode cX8_spans 14 = .ok (.invokestatic 141, 3) := by decide +kernel
theorem dX8_spans_17 : decode cX8_spans 17 = .ok (.ifCond .ne 5, 3) := by decide +kernel
theorem dX8_spans_20 : decode cX8_spans 20 = .ok (.iconst (-1), 1) := by decide +kernel
theorem dX8_spans_21 : decode cX8_spans 21 = .ok (.ireturn, 1) := by decide +kernel
theorem dX8_spans_22 : decode cX8_spans 22 = .ok (.aload_n 0, 1) := by decide +kernel
theorem dX8_spans_23 : decode cX8_spans 23 = .ok (.iload_n 1, 1) := by decide +kernel
theorem dX8_spans_24 : decode cX8_spans 24 = .ok (.invokevirtual 211, 3) := by decide +kernel
theorem dX8_spans_27 : decode cX8_spans 27 = .ok (.istore_n 3, 1) := by decide +kernel
theorem dX8_spans_28 : decode cX8_spans 28 = .ok (.iload_n 2, 1) := by decide +kernel
theorem dX8_spans_29 : decode cX8_spans 29 = .ok (.ifCond .ne 10, 3) := by decide +kernel
theorem dX8_spans_32 : decode cX8_spans 32 = .ok (.aload_n 0, 1) := by decide +kernel
theorem dX8_spans_33 : decode cX8_spans 33 = .ok (.getfield 201, 3) := by decide +kernel
theorem dX8_spans_36 : decode cX8_spans 36 = .ok (.goto 4, 3) := by decide +kernel
theorem dX8_spans_39 : decode cX8_spans 39 = .ok (.iload_n 3, 1) := by decide +kernel
theorem dX8_spans_40 : decode cX8_spans 40 = .ok (.ireturn, 1) := by decide +kernel
theorem dX8_corners_0 : decode cX8_corners 0 = .ok (.iload_n 1, 1) := by decide +kernel
theorem dX8_corners_1 : decode cX8_corners 1 = .ok (.i2l, 1) := by decide +kernel
theorem dX8_corners_2 : decode cX8_corners 2 = .ok (.lconst 0, 1) := by decide +kernel
theorem dX8_corners_3 : decode cX8_corners 3 = .ok (.ldc2_w 151, 3) := by decide +kernel
theorem dX8_corners_6 : decode cX8_corners 6 = .ok (.invokestatic 141, 3) := by decide +kernel
theorem dX8_corners_9 : decode cX8_corners 9 = .ok (.ifCond .ne 5, 3) := by decide +kernel
theorem dX8_corners_12 : decode cX8_corners 12 = .ok (.iconst (-1), 1) := by decide +kernel
theorem dX8_corners_13 : decode cX8_corners 13 = .ok (.ireturn, 1) := by decide +kernel
theorem dX8_corners_14 : decode cX8_corners 14 = .ok (.iconst 0, 1) := by decide +kernel
theorem dX8_corners_15 : decode cX8_corners 15 = .ok (.istore_n 2, 1) := by decide +kernel
theorem dX8_corners_16 : decode cX8_corners 16 = .ok (.iconst 0, 1) := by decide +kernel
theorem dX8_corners_17 : decode cX8_corners 17 = .ok (.istore_n 3, 1) := by decide +kernel
theorem dX8_corners_18 : decode cX8_corners 18 = .ok (.iload_n 3, 1) := by decide +kernel
theorem dX8_corners_19 : decode cX8_corners 19 = .ok (.iconst 4, 1) := by decide +kernel
theorem dX8_corners_20 : decode cX8_corners 20 = .ok (.if_icmp .ge 106, 3) := by decide +kernel
theorem dX8_corners_23 : decode cX8_corners 23 = .ok (.iload_n 3, 1) := by decide +kernel
theorem dX8_corners_24 : decode cX8_corners 24 = .ok (.ifCond .ne 8, 3) := by decide +kernel
theorem dX8_corners_27 : decode cX8_corners 27 = .ok (.bipush 12, 2) := by decide +kernel
theorem dX8_corners_29 : decode cX8_corners 29 = .ok (.goto 25, 3) := by decide +kernel
theorem dX8_corners_32 : decode cX8_corners 32 = .ok (.iload_n 3, 1) := by decide +kernel
theorem dX8_corners_33 : decode cX8_corners 33 = .ok (.iconst 1, 1) := by decide +kernel
theorem dX8_corners_34 : decode cX8_corners 34 = .ok (.if_icmp .ne 8, 3) := by decide +kernel
theorem dX8_corners_37 : decode cX8_corners 37 = .ok (.bipush 19, 2) := by decide +kernel
theorem dX8_corners_39 : decode cX8_corners 39 = .ok (.goto 15, 3) := by decide +kernel
theorem dX8_corners_42 : decode cX8_corners 42 = .ok (.iload_n 3, 1) := by decide +kernel
theorem dX8_corners_43 : decode cX8_corners 43 = .ok (.iconst 2, 1) := by decide +kernel
theorem dX8_corners_44 : decode cX8_corners 44 = .ok (.if_icmp .ne 8, 3) := by decide +kernel
theorem dX8_corners_47 : decode cX8_corners 47 = .ok (.bipush 6, 2) := by decide +kernel
theorem dX8_corners_49 : decode cX8_corners 49 = .ok (.goto 5, 3) := by decide +kernel
theorem dX8_corners_52 : decode cX8_corners 52 = .ok (.bipush 25, 2) := by decide +kernel
theorem dX8_corners_54 : decode cX8_corners 54 = .ok (.istore 4, 2) := by decide +kernel
theorem dX8_corners_56 : decode cX8_corners 56 = .ok (.iconst 0, 1) := by decide +kernel
theorem dX8_corners_57 : decode cX8_corners 57 = .ok (.istore 5, 2) := by decide +kernel
theorem dX8_corners_59 : decode cX8_corners 59 = .ok (.iload 5, 2) := by decide +kernel
theorem dX8_corners_61 : decode cX8_corners 61 = .ok (.iconst 5, 1) := by decide +kernel
theorem dX8_corners_62 : decode cX8_corners 62 = .ok (.if_icmp .ge 42, 3) := by decide +kernel
theorem dX8_corners_65 : decode cX8_corners 65 = .ok (.aload_n 0, 1) := by decide +kernel
theorem dX8_corners_66 : decode cX8_corners 66 = .ok (.getfield 39, 3) := by decide +kernel
theorem dX8_corners_69 : decode cX8_corners 69 = .ok (.iload 5, 2) := by decide +kernel
theorem dX8_corners_71 : decode cX8_corners 71 = .ok (.aload_n 0, 1) := by decide +kernel
theorem dX8_corners_72 : decode cX8_corners 72 = .ok (.getfield 7, 3) := by decide +kernel
theorem dX8_corners_75 : decode cX8_corners 75 = .ok (.iload 5, 2) := by decide +kernel
theorem dX8_corners_77 : decode cX8_corners 77 = .ok (.iaload, 1) := by decide +kernel
theorem dX8_corners_78 : decode cX8_corners 78 = .ok (.iload 4, 2) := by decide +kernel
theorem dX8_corners_80 : decode cX8_corners 80 = .ok (.iload 5, 2) := by decide +kernel
theorem dX8_corners_82 : decode cX8_corners 82 = .ok (.ishr, 1) := by decide +kernel
theorem dX8_corners_83 : decode cX8_corners 83 = .ok (.iconst 1, 1) := by decide +kernel
theorem dX8_corners_84 : decode cX8_corners 84 = .ok (.iand, 1) := by decide +kernel
theorem dX8_corners_85 : decode cX8_corners 85 = .ok (.iconst 1, 1) := by decide +kernel
theorem dX8_corners_86 : decode cX8_corners 86 = .ok (.if_icmp .ne 7, 3) := by decide +kernel
theorem dX8_corners_89 : decode cX8_corners 89 = .ok (.iload_n 1, 1) := by decide +kernel
theorem dX8_corners_90 : decode cX8_corners 90 = .ok (.goto 5, 3) := by decide +kernel
theorem dX8_corners_93 : decode cX8_corners 93 = .ok (.iload_n 1, 1) := by decide +kernel
theorem dX8_corners_94 : decode cX8_corners 94 = .ok (.ineg, 1) := by decide +kernel
theorem dX8_corners_95 : decode cX8_corners 95 = .ok (.iadd, 1) := by decide +kernel
theorem dX8_corners_96 : decode cX8_corners 96 = .ok (.i2l, 1) := by decide +kernel
theorem dX8_corners_97 : decode cX8_corners 97 = .ok (.lastore, 1) := by decide +kernel
theorem dX8_corners_98 : decode cX8_corners 98 = .ok (.iinc 5 1, 3) := by decide +kernel
theorem dX8_corners_101 : decode cX8_corners 101 = .ok (.goto (-42), 3) := by decide +kernel
theorem dX8_corners_104 : decode cX8_corners 104 = .ok (.iload_n 2, 1) := by decide +kernel
theorem dX8_corners_105 : decode cX8_corners 105 = .ok (.aload_n 0, 1) := by decide +kernel
theorem dX8_corners_106 : decode cX8_corners 106 = .ok (.iconst 0, 1) := by decide +kernel
theorem dX8_corners_107 : decode cX8_corners 107 = .ok (.invokevirtual 204, 3) := by decide +kernel
theorem dX8_corners_110 : decode cX8_corners 110 = .ok (.ifCond .eq 7, 3) := by decide +kernel
theorem dX8_corners_113 : decode cX8_corners 113 = .ok (.iconst 1, 1) := by decide +kernel
theorem dX8_corners_114 : decode cX8_corners 114 = .ok (.goto 4, 3) := by decide +kernel
theorem dX8_corners_117 : decode cX8_corners 117 = .ok (.iconst 0, 1) := by decide +kernel
theorem dX8_corners_118 : decode cX8_corners 118 = .ok (.iadd, 1) := by decide +kernel
theorem dX8_corners_119 : decode cX8_corners 119 = .ok (.istore_n 2, 1) := by decide +kernel
theorem dX8_corners_120 : decode cX8_corners 120 = .ok (.iinc 3 1, 3) := by decide +kernel
theorem dX8_corners_123 : decode cX8_corners 123 = .ok (.goto (-105), 3) := by decide +kernel
theorem dX8_corners_126 : decode cX8_corners 126 = .ok (.iload_n 2, 1) := by decide +kernel
theorem dX8_corners_127 : decode cX8_corners 127 = .ok (.ireturn, 1) := by decide +kernel
theorem dX8_neighbours_0 : decode cX8_neighbours 0 = .ok (.iload_n 1, 1) := by decide +kernel
theorem dX8_neighbours_1 : decode cX8_neighbours 1 = .ok (.i2l, 1) := by decide +kernel
theorem dX8_neighbours_2 : decode cX8_neighbours 2 = .ok (.lconst 0, 1) := by decide +kernel
theorem dX8_neighbours_3 : decode cX8_neighbours 3 = .ok (.lconst 1, 1) := by decide +kernel
theorem dX8_neighbours_4 : decode cX8_neighbours 4 = .ok (.invokestatic 141, 3) := by decide +kernel
theorem dX8_neighbours_7 : decode cX8_neighbours 7 = .ok (.ifCond .ne 5, 3) := by decide +kernel
theorem dX8_neighbours_10 : decode cX8_neighbours 10 = .ok (.iconst (-1), 1) := by decide +kernel
theorem dX8_neighbours_11 : decode cX8_neighbours 11 = .ok (.ireturn, 1) := by decide +kernel
theorem dX8_neighbours_12 : decode cX8_neighbours 12 = .ok (.iconst 0, 1) := by decide +kernel
theorem dX8_neighbours_13 : decode cX8_neighbours 13 = .ok (.istore_n 2, 1) := by decide +kernel
theorem dX8_neighbours_14 : decode cX8_neighbours 14 = .ok (.iconst 0, 1) := by decide +kernel
theorem dX8_neighbours_15 : decode cX8_neighbours 15 = .ok (.istore_n 3, 1) := by decide +kernel
theorem dX8_neighbours_16 : decode cX8_neighbours 16 = .ok (.iload_n 3, 1) := by decide +kernel
theorem dX8_neighbours_17 : decode cX8_neighbours 17 = .ok (.sipush 243, 3) := by decide +kernel
theorem dX8_neighbours_20 : decode cX8_neighbours 20 = .ok (.if_icmp .ge 71, 3) := by decide +kernel
theorem dX8_neighbours_23 : decode cX8_neighbours 23 = .ok (.iload_n 3, 1) := by decide +kernel
theorem dX8_neighbours_24 : decode cX8_neighbours 24 = .ok (.istore 4, 2) := by decide +kernel
theorem dX8_neighbours_26 : decode cX8_neighbours 26 = .ok (.iconst 0, 1) := by decide +kernel
theorem dX8_neighbours_27 : decode cX8_neighbours 27 = .ok (.istore 5, 2) := by decide +kernel
theorem dX8_neighbours_29 : decode cX8_neighbours 29 = .ok (.iload 5, 2) := by decide +kernel
theorem dX8_neighbours_31 : decode cX8_neighbours 31 = .ok (.iconst 5, 1) := by decide +kernel
theorem dX8_neighbours_32 : decode cX8_neighbours 32 = .ok (.if_icmp .ge 37, 3) := by decide +kernel
theorem dX8_neighbours_35 : decode cX8_neighbours 35 = .ok (.aload_n 0, 1) := by decide +kernel
theorem dX8_neighbours_36 : decode cX8_neighbours 36 = .ok (.getfield 39, 3) := by decide +kernel
theorem dX8_neighbours_39 : decode cX8_neighbours 39 = .ok (.iload 5, 2) := by decide +kernel
theorem dX8_neighbours_41 : decode cX8_neighbours 41 = .ok (.aload_n 0, 1) := by decide +kernel
theorem dX8_neighbours_42 : decode cX8_neighbours 42 = .ok (.getfield 7, 3) := by decide +kernel
theorem dX8_neighbours_45 : decode cX8_neighbours 45 = .ok (.iload 5, 2) := by decide +kernel
theorem dX8_neighbours_47 : decode cX8_neighbours 47 = .ok (.iaload, 1) := by decide +kernel
theorem dX8_neighbours_48 : decode cX8_neighbours 48 = .ok (.iload 4, 2) := by decide +kernel
theorem dX8_neighbours_50 : decode cX8_neighbours 50 = .ok (.iconst 3, 1) := by decide +kernel
theorem dX8_neighbours_51 : decode cX8_neighbours 51 = .ok (.irem, 1) := by decide +kernel
theorem dX8_neighbours_52 : decode cX8_neighbours 52 = .ok (.iadd, 1) := by decide +kernel
theorem dX8_neighbours_53 : decode cX8_neighbours 53 = .ok (.iconst 1, 1) := by decide +kernel
theorem dX8_neighbours_54 : decode cX8_neighbours 54 = .ok (.isub, 1) := by decide +kernel
theorem dX8_neighbours_55 : decode cX8_neighbours 55 = .ok (.i2l, 1) := by decide +kernel
theorem dX8_neighbours_56 : decode cX8_neighbours 56 = .ok (.lastore, 1) := by decide +kernel
theorem dX8_neighbours_57 : decode cX8_neighbours 57 = .ok (.iload 4, 2) := by decide +kernel
theorem dX8_neighbours_59 : decode cX8_neighbours 59 = .ok (.iconst 3, 1) := by decide +kernel
theorem dX8_neighbours_60 : decode cX8_neighbours 60 = .ok (.idiv, 1) := by decide +kernel
theorem dX8_neighbours_61 : decode cX8_neighbours 61 = .ok (.istore 4, 2) := by decide +kernel
theorem dX8_neighbours_63 : decode cX8_neighbours 63 = .ok (.iinc 5 1, 3) := by decide +kernel
theorem dX8_neighbours_66 : decode cX8_neighbours 66 = .ok (.goto (-37), 3) := by decide +kernel
theorem dX8_neighbours_69 : decode cX8_neighbours 69 = .ok (.iload_n 2, 1) := by decide +kernel
theorem dX8_neighbours_70 : decode cX8_neighbours 70 = .ok (.aload_n 0, 1) := by decide +kernel
theorem dX8_neighbours_71 : decode cX8_neighbours 71 = .ok (.iload_n 1, 1) := by decide +kernel
theorem dX8_neighbours_72 : decode cX8_neighbours 72 = .ok (.invokevirtual 204, 3) := by decide +kernel
theorem dX8_neighbours_75 : decode cX8_neighbours 75 = .ok (.ifCond .eq 7, 3) := by decide +kernel
theorem dX8_neighbours_78 : decode cX8_neighbours 78 = .ok (.iconst 1, 1) := by decide +kernel
theorem dX8_neighbours_79 : decode cX8_neighbours 79 = .ok (.goto 4, 3) := by decide +kernel
theorem dX8_neighbours_82 : decode cX8_neighbours 82 = .ok (.iconst 0, 1) := by decide +kernel
theorem dX8_neighbours_83 : decode cX8_neighbours 83 = .ok (.iadd, 1) := by decide +kernel
theorem dX8_neighbours_84 : decode cX8_neighbours 84 = .ok (.istore_n 2, 1) := by decide +kernel
theorem dX8_neighbours_85 : decode cX8_neighbours 85 = .ok (.iinc 3 1, 3) := by decide +kernel
theorem dX8_neighbours_88 : decode cX8_neighbours 88 = .ok (.goto (-72), 3) := by decide +kernel
theorem dX8_neighbours_91 : decode cX8_neighbours 91 = .ok (.iload_n 2, 1) := by decide +kernel
theorem dX8_neighbours_92 : decode cX8_neighbours 92 = .ok (.ireturn, 1) := by decide +kernel
theorem dX8_off_0 : decode cX8_off 0 = .ok (.iload_n 1, 1) := by decide +kernel
theorem dX8_off_1 : decode cX8_off 1 = .ok (.i2l, 1) := by decide +kernel
theorem dX8_off_2 : decode cX8_off 2 = .ok (.lconst 0, 1) := by decide +kernel
theorem dX8_off_3 : decode cX8_off 3 = .ok (.ldc2_w 214, 3) := by decide +kernel
theorem dX8_off_6 : decode cX8_off 6 = .ok (.invokestatic 141, 3) := by decide +kernel
theorem dX8_off_9 : decode cX8_off 9 = .ok (.ifCond .eq 13, 3) := by decide +kernel
theorem dX8_off_12 : decode cX8_off 12 = .ok (.iload_n 2, 1) := by decide +kernel
theorem dX8_off_13 : decode cX8_off 13 = .ok (.i2l, 1) := by decide +kernel
theorem dX8_off_14 : decode cX8_off 14 = .ok (.lconst 0, 1) := by decide +kernel
theorem dX8_off_15 : decode cX8_off 15 = .ok (.lconst 1, 1) := by decide +kernel
theorem dX8_off_16 : decode cX8_off 16 = .ok (.invokestatic 141, 3) := by decide +kernel
theorem dX8_off_19 : decode cX8_off 19 = .ok (.ifCond .ne 5, 3) := by decide +kernel
theorem dX8_off_22 : decode cX8_off 22 = .ok (.iconst (-1), 1) := by decide +kernel
theorem dX8_off_23 : decode cX8_off 23 = .ok (.ireturn, 1) := by decide +kernel
theorem dX8_off_24 : decode cX8_off 24 = .ok (.iconst 0, 1) := by decide +kernel
theorem dX8_off_25 : decode cX8_off 25 = .ok (.istore_n 3, 1) := by decide +kernel
theorem dX8_off_26 : decode cX8_off 26 = .ok (.iconst 0, 1) := by decide +kernel
theorem dX8_off_27 : decode cX8_off 27 = .ok (.istore 4, 2) := by decide +kernel
theorem dX8_off_29 : decode cX8_off 29 = .ok (.iload 4, 2) := by decide +kernel
theorem dX8_off_31 : decode cX8_off 31 = .ok (.bipush 32, 2) := by decide +kernel
theorem dX8_off_33 : decode cX8_off 33 = .ok (.if_icmp .ge 91, 3) := by decide +kernel
theorem dX8_off_36 : decode cX8_off 36 = .ok (.iconst 1, 1) := by decide +kernel
theorem dX8_off_37 : decode cX8_off 37 = .ok (.istore 5, 2) := by decide +kernel
theorem dX8_off_39 : decode cX8_off 39 = .ok (.iconst 0, 1) := by decide +kernel
theorem dX8_off_40 : decode cX8_off 40 = .ok (.istore 6, 2) := by decide +kernel
theorem dX8_off_42 : decode cX8_off 42 = .ok (.iload 6, 2) := by decide +kernel
theorem dX8_off_44 : decode cX8_off 44 = .ok (.iconst 5, 1) := by decide +kernel
theorem dX8_off_45 : decode cX8_off 45 = .ok (.if_icmp .ge 56, 3) := by decide +kernel
theorem dX8_off_48 : decode cX8_off 48 = .ok (.aload_n 0, 1) := by decide +kernel
theorem dX8_off_49 : decode cX8_off 49 = .ok (.getfield 39, 3) := by decide +kernel
theorem dX8_off_52 : decode cX8_off 52 = .ok (.iload 6, 2) := by decide +kernel
theorem dX8_off_54 : decode cX8_off 54 = .ok (.aload_n 0, 1) := by decide +kernel
theorem dX8_off_55 : decode cX8_off 55 = .ok (.getfield 7, 3) := by decide +kernel
theorem dX8_off_58 : decode cX8_off 58 = .ok (.iload 6, 2) := by decide +kernel
theorem dX8_off_60 : decode cX8_off 60 = .ok (.iaload, 1) := by decide +kernel
theorem dX8_off_61 : decode cX8_off 61 = .ok (.iload 4, 2) := by decide +kernel
theorem dX8_off_63 : decode cX8_off 63 = .ok (.iload 6, 2) := by decide +kernel
theorem dX8_off_65 : decode cX8_off 65 = .ok (.ishr, 1) := by decide +kernel
theorem dX8_off_66 : decode cX8_off 66 = .ok (.iconst 1, 1) := by decide +kernel
theorem dX8_off_67 : decode cX8_off 67 = .ok (.iand, 1) := by decide +kernel
theorem dX8_off_68 : decode cX8_off 68 = .ok (.iadd, 1) := by decide +kernel
theorem dX8_off_69 : decode cX8_off 69 = .ok (.i2l, 1) := by decide +kernel
theorem dX8_off_70 : decode cX8_off 70 = .ok (.lastore, 1) := by decide +kernel
theorem dX8_off_71 : decode cX8_off 71 = .ok (.iload 5, 2) := by decide +kernel
theorem dX8_off_73 : decode cX8_off 73 = .ok (.iload 4, 2) := by decide +kernel
theorem dX8_off_75 : decode cX8_off 75 = .ok (.iload 6, 2) := by decide +kernel
theorem dX8_off_77 : decode cX8_off 77 = .ok (.ishr, 1) := by decide +kernel
theorem dX8_off_78 : decode cX8_off 78 = .ok (.iconst 1, 1) := by decide +kernel
theorem dX8_off_79 : decode cX8_off 79 = .ok (.iand, 1) := by decide +kernel
theorem dX8_off_80 : decode cX8_off 80 = .ok (.iconst 1, 1) := by decide +kernel
theorem dX8_off_81 : decode cX8_off 81 = .ok (.if_icmp .ne 7, 3) := by decide +kernel
theorem dX8_off_84 : decode cX8_off 84 = .ok (.iload_n 1, 1) := by decide +kernel
theorem dX8_off_85 : decode cX8_off 85 = .ok (.goto 7, 3) := by decide +kernel
theorem dX8_off_88 : decode cX8_off 88 = .ok (.bipush 10, 2) := by decide +kernel
theorem dX8_off_90 : decode cX8_off 90 = .ok (.iload_n 1, 1) := by decide +kernel
theorem dX8_off_91 : decode cX8_off 91 = .ok (.isub, 1) := by decide +kernel
theorem dX8_off_92 : decode cX8_off 92 = .ok (.imul, 1) := by decide +kernel
theorem dX8_off_93 : decode cX8_off 93 = .ok (.istore 5, 2) := by decide +kernel
theorem dX8_off_95 : decode cX8_off 95 = .ok (.iinc 6 1, 3) := by decide +kernel
theorem dX8_off_98 : decode cX8_off 98 = .ok (.goto (-56), 3) := by decide +kernel
theorem dX8_off_101 : decode cX8_off 101 = .ok (.iload_n 3, 1) := by decide +kernel
theorem dX8_off_102 : decode cX8_off 102 = .ok (.aload_n 0, 1) := by decide +kernel
theorem dX8_off_103 : decode cX8_off 103 = .ok (.iconst 0, 1) := by decide +kernel
theorem dX8_off_104 : decode cX8_off 104 = .ok (.invokevirtual 204, 3) := by decide +kernel
theorem dX8_off_107 : decode cX8_off 107 = .ok (.ifCond .eq 8, 3) := by decide +kernel
theorem dX8_off_110 : decode cX8_off 110 = .ok (.iload 5, 2) := by decide +kernel
theorem dX8_off_112 : decode cX8_off 112 = .ok (.goto 4, 3) := by decide +kernel

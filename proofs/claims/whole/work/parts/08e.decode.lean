theorem dX7_isGain_4 : decode cX7_isGain 4 = .ok (.if_icmp .lt 14, 3) := by decide +kernel
theorem dX7_isGain_7 : decode cX7_isGain 7 = .ok (.iload_n 0, 1) := by decide +kernel
theorem dX7_isGain_8 : decode cX7_isGain 8 = .ok (.sipush 800, 3) := by decide +kernel
theorem dX7_isGain_11 : decode cX7_isGain 11 = .ok (.if_icmp .gt 7, 3) := by decide +kernel
theorem dX7_isGain_14 : decode cX7_isGain 14 = .ok (.iconst 1, 1) := by decide +kernel
theorem dX7_isGain_15 : decode cX7_isGain 15 = .ok (.goto 4, 3) := by decide +kernel
theorem dX7_isGain_18 : decode cX7_isGain 18 = .ok (.iconst 0, 1) := by decide +kernel
theorem dX7_isGain_19 : decode cX7_isGain 19 = .ok (.ireturn, 1) := by decide +kernel
theorem dX7_orNone_0 : decode cX7_orNone 0 = .ok (.iload_n 0, 1) := by decide +kernel
theorem dX7_orNone_1 : decode cX7_orNone 1 = .ok (.iconst (-1), 1) := by decide +kernel
theorem dX7_orNone_2 : decode cX7_orNone 2 = .ok (.if_icmp .ne 8, 3) := by decide +kernel
theorem dX7_orNone_5 : decode cX7_orNone 5 = .ok (.bipush (-4), 2) := by decide +kernel
theorem dX7_orNone_7 : decode cX7_orNone 7 = .ok (.goto 4, 3) := by decide +kernel
theorem dX7_orNone_10 : decode cX7_orNone 10 = .ok (.iload_n 0, 1) := by decide +kernel
theorem dX7_orNone_11 : decode cX7_orNone 11 = .ok (.ireturn, 1) := by decide +kernel
theorem dX7_degreeOf_0 : decode cX7_degreeOf 0 = .ok (.iconst 4, 1) := by decide +kernel
theorem dX7_degreeOf_1 : decode cX7_degreeOf 1 = .ok (.istore_n 1, 1) := by decide +kernel
theorem dX7_degreeOf_2 : decode cX7_degreeOf 2 = .ok (.iload_n 1, 1) := by decide +kernel
theorem dX7_degreeOf_3 : decode cX7_degreeOf 3 = .ok (.ifCond .lt 19, 3) := by decide +kernel
theorem dX7_degreeOf_6 : decode cX7_degreeOf 6 = .ok (.aload_n 0, 1) := by decide +kernel
theorem dX7_degreeOf_7 : decode cX7_degreeOf 7 = .ok (.iload_n 1, 1) := by decide +kernel
theorem dX7_degreeOf_8 : decode cX7_degreeOf 8 = .ok (.laload, 1) := by decide +kernel
theorem dX7_degreeOf_9 : decode cX7_degreeOf 9 = .ok (.lconst 0, 1) := by decide +kernel
theorem dX7_degreeOf_10 : decode cX7_degreeOf 10 = .ok (.lcmp, 1) := by decide +kernel
theorem dX7_degreeOf_11 : decode cX7_degreeOf 11 = .ok (.ifCond .eq 5, 3) := by decide +kernel
theorem dX7_degreeOf_14 : decode cX7_degreeOf 14 = .ok (.iload_n 1, 1) := by decide +kernel
theorem dX7_degreeOf_15 : decode cX7_degreeOf 15 = .ok (.ireturn, 1) := by decide +kernel
theorem dX7_degreeOf_16 : decode cX7_degreeOf 16 = .ok (.iinc 1 (-1), 3) := by decide +kernel
theorem dX7_degreeOf_19 : decode cX7_degreeOf 19 = .ok (.goto (-17), 3) := by decide +kernel
theorem dX7_degreeOf_22 : decode cX7_degreeOf 22 = .ok (.iconst (-1), 1) := by decide +kernel
theorem dX7_degreeOf_23 : decode cX7_degreeOf 23 = .ok (.ireturn, 1) := by decide +kernel
theorem dX7_oddsOf_0 : decode cX7_oddsOf 0 = .ok (.iconst 1, 1) := by decide +kernel
theorem dX7_oddsOf_1 : decode cX7_oddsOf 1 = .ok (.istore_n 2, 1) := by decide +kernel
theorem dX7_oddsOf_2 : decode cX7_oddsOf 2 = .ok (.iconst 0, 1) := by decide +kernel
theorem dX7_oddsOf_3 : decode cX7_oddsOf 3 = .ok (.istore_n 3, 1) := by decide +kernel
theorem dX7_oddsOf_4 : decode cX7_oddsOf 4 = .ok (.iload_n 3, 1) := by decide +kernel
theorem dX7_oddsOf_5 : decode cX7_oddsOf 5 = .ok (.iconst 5, 1) := by decide +kernel
theorem dX7_oddsOf_6 : decode cX7_oddsOf 6 = .ok (.if_icmp .ge 25, 3) := by decide +kernel
theorem dX7_oddsOf_9 : decode cX7_oddsOf 9 = .ok (.iload_n 2, 1) := by decide +kernel
theorem dX7_oddsOf_10 : decode cX7_oddsOf 10 = .ok (.iload_n 3, 1) := by decide +kernel
theorem dX7_oddsOf_11 : decode cX7_oddsOf 11 = .ok (.iload_n 1, 1) := by decide +kernel
theorem dX7_oddsOf_12 : decode cX7_oddsOf 12 = .ok (.if_icmp .ge 7, 3) := by decide +kernel
theorem dX7_oddsOf_15 : decode cX7_oddsOf 15 = .ok (.iload_n 0, 1) := by decide +kernel
theorem dX7_oddsOf_16 : decode cX7_oddsOf 16 = .ok (.goto 7, 3) := by decide +kernel
theorem dX7_oddsOf_19 : decode cX7_oddsOf 19 = .ok (.bipush 10, 2) := by decide +kernel
theorem dX7_oddsOf_21 : decode cX7_oddsOf 21 = .ok (.iload_n 0, 1) := by decide +kernel
theorem dX7_oddsOf_22 : decode cX7_oddsOf 22 = .ok (.isub, 1) := by decide +kernel
theorem dX7_oddsOf_23 : decode cX7_oddsOf 23 = .ok (.imul, 1) := by decide +kernel
theorem dX7_oddsOf_24 : decode cX7_oddsOf 24 = .ok (.istore_n 2, 1) := by decide +kernel
theorem dX7_oddsOf_25 : decode cX7_oddsOf 25 = .ok (.iinc 3 1, 3) := by decide +kernel
theorem dX7_oddsOf_28 : decode cX7_oddsOf 28 = .ok (.goto (-24), 3) := by decide +kernel
theorem dX7_oddsOf_31 : decode cX7_oddsOf 31 = .ok (.iload_n 2, 1) := by decide +kernel
theorem dX7_oddsOf_32 : decode cX7_oddsOf 32 = .ok (.ireturn, 1) := by decide +kernel
theorem dX7_commonDivisor_0 : decode cX7_commonDivisor 0 = .ok (.lload_n 0, 1) := by decide +kernel
theorem dX7_commonDivisor_1 : decode cX7_commonDivisor 1 = .ok (.lconst 0, 1) := by decide +kernel
theorem dX7_commonDivisor_2 : decode cX7_commonDivisor 2 = .ok (.lcmp, 1) := by decide +kernel
theorem dX7_commonDivisor_3 : decode cX7_commonDivisor 3 = .ok (.ifCond .ge 8, 3) := by decide +kernel
theorem dX7_commonDivisor_6 : decode cX7_commonDivisor 6 = .ok (.lload_n 0, 1) := by decide +kernel
theorem dX7_commonDivisor_7 : decode cX7_commonDivisor 7 = .ok (.lneg, 1) := by decide +kernel
theorem dX7_commonDivisor_8 : decode cX7_commonDivisor 8 = .ok (.goto 4, 3) := by decide +kernel
theorem dX7_commonDivisor_11 : decode cX7_commonDivisor 11 = .ok (.lload_n 0, 1) := by decide +kernel
theorem dX7_commonDivisor_12 : decode cX7_commonDivisor 12 = .ok (.lstore 4, 2) := by decide +kernel
theorem dX7_commonDivisor_14 : decode cX7_commonDivisor 14 = .ok (.lload_n 2, 1) := by decide +kernel
theorem dX7_commonDivisor_15 : decode cX7_commonDivisor 15 = .ok (.lconst 0, 1) := by decide +kernel
theorem dX7_commonDivisor_16 : decode cX7_commonDivisor 16 = .ok (.lcmp, 1) := by decide +kernel
theorem dX7_commonDivisor_17 : decode cX7_commonDivisor 17 = .ok (.ifCond .ge 8, 3) := by decide +kernel
theorem dX7_commonDivisor_20 : decode cX7_commonDivisor 20 = .ok (.lload_n 2, 1) := by decide +kernel
theorem dX7_commonDivisor_21 : decode cX7_commonDivisor 21 = .ok (.lneg, 1) := by decide +kernel
theorem dX7_commonDivisor_22 : decode cX7_commonDivisor 22 = .ok (.goto 4, 3) := by decide +kernel
theorem dX7_commonDivisor_25 : decode cX7_commonDivisor 25 = .ok (.lload_n 2, 1) := by decide +kernel
theorem dX7_commonDivisor_26 : decode cX7_commonDivisor 26 = .ok (.lstore 6, 2) := by decide +kernel
theorem dX7_commonDivisor_28 : decode cX7_commonDivisor 28 = .ok (.iconst 0, 1) := by decide +kernel
theorem dX7_commonDivisor_29 : decode cX7_commonDivisor 29 = .ok (.istore 8, 2) := by decide +kernel
theorem dX7_commonDivisor_31 : decode cX7_commonDivisor 31 = .ok (.iload 8, 2) := by decide +kernel
theorem dX7_commonDivisor_33 : decode cX7_commonDivisor 33 = .ok (.sipush 200, 3) := by decide +kernel
theorem dX7_commonDivisor_36 : decode cX7_commonDivisor 36 = .ok (.if_icmp .ge 31, 3) := by decide +kernel
theorem dX7_commonDivisor_39 : decode cX7_commonDivisor 39 = .ok (.lload 6, 2) := by decide +kernel
theorem dX7_commonDivisor_41 : decode cX7_commonDivisor 41 = .ok (.lconst 0, 1) := by decide +kernel
theorem dX7_commonDivisor_42 : decode cX7_commonDivisor 42 = .ok (.lcmp, 1) := by decide +kernel
theorem dX7_commonDivisor_43 : decode cX7_commonDivisor 43 = .ok (.ifCond .eq 24, 3) := by decide +kernel
theorem dX7_commonDivisor_46 : decode cX7_commonDivisor 46 = .ok (.lload 4, 2) := by decide +kernel
theorem dX7_commonDivisor_48 : decode cX7_commonDivisor 48 = .ok (.lload 6, 2) := by decide +kernel
theorem dX7_commonDivisor_50 : decode cX7_commonDivisor 50 = .ok (.lrem, 1) := by decide +kernel
theorem dX7_commonDivisor_51 : decode cX7_commonDivisor 51 = .ok (.lstore 9, 2) := by decide +kernel
theorem dX7_commonDivisor_53 : decode cX7_commonDivisor 53 = .ok (.lload 6, 2) := by decide +kernel
theorem dX7_commonDivisor_55 : decode cX7_commonDivisor 55 = .ok (.lstore 4, 2) := by decide +kernel
theorem dX7_commonDivisor_57 : decode cX7_commonDivisor 57 = .ok (.lload 9, 2) := by decide +kernel
theorem dX7_commonDivisor_59 : decode cX7_commonDivisor 59 = .ok (.lstore 6, 2) := by decide +kernel
theorem dX7_commonDivisor_61 : decode cX7_commonDivisor 61 = .ok (.iinc 8 1, 3) := by decide +kernel
theorem dX7_commonDivisor_64 : decode cX7_commonDivisor 64 = .ok (.goto (-33), 3) := by decide +kernel
theorem dX7_commonDivisor_67 : decode cX7_commonDivisor 67 = .ok (.lload 4, 2) := by decide +kernel
theorem dX7_commonDivisor_69 : decode cX7_commonDivisor 69 = .ok (.lreturn, 1) := by decide +kernel
theorem dX7_cutTo_0 : decode cX7_cutTo 0 = .ok (.iload_n 0, 1) := by decide +kernel
theorem dX7_cutTo_1 : decode cX7_cutTo 1 = .ok (.tableswitch 41 0 2 #[27, 32, 37], 27) := by decide +kernel
theorem dX7_cutTo_28 : decode cX7_cutTo 28 = .ok (.lload_n 1, 1) := by decide +kernel
theorem dX7_cutTo_29 : decode cX7_cutTo 29 = .ok (.l2i, 1) := by decide +kernel
theorem dX7_cutTo_30 : decode cX7_cutTo 30 = .ok (.i2b, 1) := by decide +kernel
theorem dX7_cutTo_31 : decode cX7_cutTo 31 = .ok (.i2l, 1) := by decide +kernel
theorem dX7_cutTo_32 : decode cX7_cutTo 32 = .ok (.lreturn, 1) := by decide +kernel
theorem dX7_cutTo_33 : decode cX7_cutTo 33 = .ok (.lload_n 1, 1) := by decide +kernel
theorem dX7_cutTo_34 : decode cX7_cutTo 34 = .ok (.l2i, 1) := by decide +kernel
theorem dX7_cutTo_35 : decode cX7_cutTo 35 = .ok (.i2s, 1) := by decide +kernel
theorem dX7_cutTo_36 : decode cX7_cutTo 36 = .ok (.i2l, 1) := by decide +kernel
theorem dX7_cutTo_37 : decode cX7_cutTo 37 = .ok (.lreturn, 1) := by decide +kernel
theorem dX7_cutTo_38 : decode cX7_cutTo 38 = .ok (.lload_n 1, 1) := by decide +kernel
theorem dX7_cutTo_39 : decode cX7_cutTo 39 = .ok (.l2i, 1) := by decide +kernel
theorem dX7_cutTo_40 : decode cX7_cutTo 40 = .ok (.i2l, 1) := by decide +kernel
theorem dX7_cutTo_41 : decode cX7_cutTo 41 = .ok (.lreturn, 1) := by decide +kernel
theorem dX7_cutTo_42 : decode cX7_cutTo 42 = .ok (.lload_n 1, 1) := by decide +kernel
theorem dX7_cutTo_43 : decode cX7_cutTo 43 = .ok (.lreturn, 1) := by decide +kernel
theorem dX8_init_0 : decode cX8_init 0 = .ok (.aload_n 0, 1) := by decide +kernel
theorem dX8_init_1 : decode cX8_init 1 = .ok (.invokespecial 1, 3) := by decide +kernel
theorem dX8_init_4 : decode cX8_init 4 = .ok (.aload_n 0, 1) := by decide +kernel
theorem dX8_init_5 : decode cX8_init 5 = .ok (.bipush 12, 2) := by decide +kernel
theorem dX8_init_7 : decode cX8_init 7 = .ok (.newarray .int, 2) := by decide +kernel
theorem dX8_init_9 : decode cX8_init 9 = .ok (.putfield 7, 3) := by decide +kernel
theorem dX8_init_12 : decode cX8_init 12 = .ok (.aload_n 0, 1) := by decide +kernel
theorem dX8_init_13 : decode cX8_init 13 = .ok (.bipush 72, 2) := by decide +kernel
theorem dX8_init_15 : decode cX8_init 15 = .ok (.newarray .int, 2) := by decide +kernel
theorem dX8_init_17 : decode cX8_init 17 = .ok (.putfield 13, 3) := by decide +kernel
theorem dX8_init_20 : decode cX8_init 20 = .ok (.aload_n 0, 1) := by decide +kernel
theorem dX8_init_21 : decode cX8_init 21 = .ok (.bipush 12, 2) := by decide +kernel
theorem dX8_init_23 : decode cX8_init 23 = .ok (.newarray .int, 2) := by decide +kernel
theorem dX8_init_25 : decode cX8_init 25 = .ok (.putfield 16, 3) := by decide +kernel
theorem dX8_init_28 : decode cX8_init 28 = .ok (.aload_n 0, 1) := by decide +kernel
theorem dX8_init_29 : decode cX8_init 29 = .ok (.bipush 72, 2) := by decide +kernel
theorem dX8_init_31 : decode cX8_init 31 = .ok (.newarray .int, 2) := by decide +kernel
theorem dX8_init_33 : decode cX8_init 33 = .ok (.putfield 19, 3) := by decide +kernel
theorem dX8_init_36 : decode cX8_init 36 = .ok (.aload_n 0, 1) := by decide +kernel
theorem dX8_init_37 : decode cX8_init 37 = .ok (.iconst (-1), 1) := by decide +kernel
theorem dX8_init_38 : decode cX8_init 38 = .ok (.putfield 22, 3) := by decide +kernel
theorem dX8_init_41 : decode cX8_init 41 = .ok (.aload_n 0, 1) := by decide +kernel
theorem dX8_init_42 : decode cX8_init 42 = .ok (.bipush 60, 2) := by decide +kernel
theorem dX8_init_44 : decode cX8_init 44 = .ok (.newarray .int, 2) := by decide +kernel
theorem dX8_init_46 : decode cX8_init 46 = .ok (.putfield 26, 3) := by decide +kernel
theorem dX8_init_49 : decode cX8_init 49 = .ok (.aload_n 0, 1) := by decide +kernel
theorem dX8_init_50 : decode cX8_init 50 = .ok (.iconst 4, 1) := by decide +kernel
theorem dX8_init_51 : decode cX8_init 51 = .ok (.newarray .int, 2) := by decide +kernel
theorem dX8_init_53 : decode cX8_init 53 = .ok (.putfield 29, 3) := by decide +kernel
theorem dX8_init_56 : decode cX8_init 56 = .ok (.aload_n 0, 1) := by decide +kernel
theorem dX8_init_57 : decode cX8_init 57 = .ok (.iconst 4, 1) := by decide +kernel
theorem dX8_init_58 : decode cX8_init 58 = .ok (.newarray .int, 2) := by decide +kernel
theorem dX8_init_60 : decode cX8_init 60 = .ok (.putfield 32, 3) := by decide +kernel
theorem dX8_init_63 : decode cX8_init 63 = .ok (.aload_n 0, 1) := by decide +kernel
theorem dX8_init_64 : decode cX8_init 64 = .ok (.bipush 96, 2) := by decide +kernel
theorem dX8_init_66 : decode cX8_init 66 = .ok (.newarray .long, 2) := by decide +kernel
theorem dX8_init_68 : decode cX8_init 68 = .ok (.putfield 35, 3) := by decide +kernel
theorem dX8_init_71 : decode cX8_init 71 = .ok (.aload_n 0, 1) := by decide +kernel
theorem dX8_init_72 : decode cX8_init 72 = .ok (.iconst 5, 1) := by decide +kernel
theorem dX8_init_73 : decode cX8_init 73 = .ok (.newarray .long, 2) := by decide +kernel
theorem dX8_init_75 : decode cX8_init 75 = .ok (.putfield 39, 3) := by decide +kernel
theorem dX8_init_78 : decode cX8_init 78 = .ok (.aload_n 0, 1) := by decide +kernel
theorem dX8_init_79 : decode cX8_init 79 = .ok (.iconst 5, 1) := by decide +kernel
theorem dX8_init_80 : decode cX8_init 80 = .ok (.newarray .long, 2) := by decide +kernel
theorem dX8_init_82 : decode cX8_init 82 = .ok (.putfield 42, 3) := by decide +kernel
theorem dX8_init_85 : decode cX8_init 85 = .ok (.aload_n 0, 1) := by decide +kernel
theorem dX8_init_86 : decode cX8_init 86 = .ok (.iconst 5, 1) := by decide +kernel
theorem dX8_init_87 : decode cX8_init 87 = .ok (.newarray .long, 2) := by decide +kernel
theorem dX8_init_89 : decode cX8_init 89 = .ok (.putfield 45, 3) := by decide +kernel
theorem dX8_init_92 : decode cX8_init 92 = .ok (.aload_n 0, 1) := by decide +kernel
theorem dX8_init_93 : decode cX8_init 93 = .ok (.iconst 5, 1) := by decide +kernel
theorem dX8_init_94 : decode cX8_init 94 = .ok (.newarray .long, 2) := by decide +kernel
theorem dX8_init_96 : decode cX8_init 96 = .ok (.putfield 48, 3) := by decide +kernel
theorem dX8_init_99 : decode cX8_init 99 = .ok (.aload_n 0, 1) := by decide +kernel
theorem dX8_init_100 : decode cX8_init 100 = .ok (.bipush 40, 2) := by decide +kernel
theorem dX8_init_102 : decode cX8_init 102 = .ok (.newarray .long, 2) := by decide +kernel
theorem dX8_init_104 : decode cX8_init 104 = .ok (.putfield 51, 3) := by decide +kernel
theorem dX8_init_107 : decode cX8_init 107 = .ok (.aload_n 0, 1) := by decide +kernel
theorem dX8_init_108 : decode cX8_init 108 = .ok (.iconst 5, 1) := by decide +kernel
theorem dX8_init_109 : decode cX8_init 109 = .ok (.newarray .long, 2) := by decide +kernel
theorem dX8_init_111 : decode cX8_init 111 = .ok (.putfield 54, 3) := by decide +kernel
theorem dX8_init_114 : decode cX8_init 114 = .ok (.aload_n 0, 1) := by decide +kernel
theorem dX8_init_115 : decode cX8_init 115 = .ok (.sipush 801, 3) := by decide +kernel
theorem dX8_init_118 : decode cX8_init 118 = .ok (.newarray .int, 2) := by decide +kernel
theorem dX8_init_120 : decode cX8_init 120 = .ok (.putfield 57, 3) := by decide +kernel
theorem dX8_init_123 : decode cX8_init 123 = .ok (.aload_n 0, 1) := by decide +kernel
theorem dX8_init_124 : decode cX8_init 124 = .ok (.sipush 801, 3) := by decide +kernel
theorem dX8_init_127 : decode cX8_init 127 = .ok (.newarray .int, 2) := by decide +kernel
theorem dX8_init_129 : decode cX8_init 129 = .ok (.putfield 60, 3) := by decide +kernel
theorem dX8_init_132 : decode cX8_init 132 = .ok (.aload_n 0, 1) := by decide +kernel
theorem dX8_init_133 : decode cX8_init 133 = .ok (.bipush 10, 2) := by decide +kernel
theorem dX8_init_135 : decode cX8_init 135 = .ok (.newarray .int, 2) := by decide +kernel
theorem dX8_init_137 : decode cX8_init 137 = .ok (.putfield 63, 3) := by decide +kernel
theorem dX8_init_140 : decode cX8_init 140 = .ok (.aload_n 0, 1) := by decide +kernel
theorem dX8_init_141 : decode cX8_init 141 = .ok (.getfield 7, 3) := by decide +kernel
theorem dX8_init_144 : decode cX8_init 144 = .ok (.iconst 0, 1) := by decide +kernel
theorem dX8_init_145 : decode cX8_init 145 = .ok (.iconst 1, 1) := by decide +kernel
theorem dX8_init_146 : decode cX8_init 146 = .ok (.iastore, 1) := by decide +kernel
theorem dX8_init_147 : decode cX8_init 147 = .ok (.aload_n 0, 1) := by decide +kernel
theorem dX8_init_148 : decode cX8_init 148 = .ok (.getfield 7, 3) := by decide +kernel
theorem dX8_init_151 : decode cX8_init 151 = .ok (.iconst 1, 1) := by decide +kernel
theorem dX8_init_152 : decode cX8_init 152 = .ok (.iconst 1, 1) := by decide +kernel
theorem dX8_init_153 : decode cX8_init 153 = .ok (.iastore, 1) := by decide +kernel
theorem dX8_init_154 : decode cX8_init 154 = .ok (.aload_n 0, 1) := by decide +kernel
theorem dX8_init_155 : decode cX8_init 155 = .ok (.getfield 7, 3) := by decide +kernel
theorem dX8_init_158 : decode cX8_init 158 = .ok (.iconst 5, 1) := by decide +kernel
theorem dX8_init_159 : decode cX8_init 159 = .ok (.iconst 1, 1) := by decide +kernel
theorem dX8_init_160 : decode cX8_init 160 = .ok (.iastore, 1) := by decide +kernel
theorem dX8_init_161 : decode cX8_init 161 = .ok (.aload_n 0, 1) := by decide +kernel
theorem dX8_init_162 : decode cX8_init 162 = .ok (.getfield 7, 3) := by decide +kernel
theorem dX8_init_165 : decode cX8_init 165 = .ok (.bipush 11, 2) := by decide +kernel
theorem dX8_init_167 : decode cX8_init 167 = .ok (.iconst 1, 1) := by decide +kernel
theorem dX8_init_168 : decode cX8_init 168 = .ok (.iastore, 1) := by decide +kernel
theorem dX8_init_169 : decode cX8_init 169 = .ok (.iconst 0, 1) := by decide +kernel
theorem dX8_init_170 : decode cX8_init 170 = .ok (.istore_n 1, 1) := by decide +kernel
theorem dX8_init_171 : decode cX8_init 171 = .ok (.iload_n 1, 1) := by decide +kernel
theorem dX8_init_172 : decode cX8_init 172 = .ok (.iconst 4, 1) := by decide +kernel
theorem dX8_init_173 : decode cX8_init 173 = .ok (.if_icmp .ge 17, 3) := by decide +kernel
theorem dX8_init_176 : decode cX8_init 176 = .ok (.aload_n 0, 1) := by decide +kernel
theorem dX8_init_177 : decode cX8_init 177 = .ok (.getfield 29, 3) := by decide +kernel
theorem dX8_init_180 : decode cX8_init 180 = .ok (.iload_n 1, 1) := by decide +kernel
theorem dX8_init_181 : decode cX8_init 181 = .ok (.bipush (-4), 2) := by decide +kernel
theorem dX8_init_183 : decode cX8_init 183 = .ok (.iastore, 1) := by decide +kernel
theorem dX8_init_184 : decode cX8_init 184 = .ok (.iinc 1 1, 3) := by decide +kernel
theorem dX8_init_187 : decode cX8_init 187 = .ok (.goto (-16), 3) := by decide +kernel
theorem dX8_init_190 : decode cX8_init 190 = .ok (.return_, 1) := by decide +kernel
theorem dX8_in_0 : decode cX8_in 0 = .ok (.lload_n 0, 1) := by decide +kernel
theorem dX8_in_1 : decode cX8_in 1 = .ok (.lload_n 2, 1) := by decide +kernel
theorem dX8_in_2 : decode cX8_in 2 = .ok (.lcmp, 1) := by decide +kernel
theorem dX8_in_3 : decode cX8_in 3 = .ok (.ifCond .lt 14, 3) := by decide +kernel
theorem dX8_in_6 : decode cX8_in 6 = .ok (.lload_n 0, 1) := by decide +kernel
theorem dX8_in_7 : decode cX8_in 7 = .ok (.lload 4, 2) := by decide +kernel
theorem dX8_in_9 : decode cX8_in 9 = .ok (.lcmp, 1) := by decide +kernel
theorem dX8_in_10 : decode cX8_in 10 = .ok (.ifCond .gt 7, 3) := by decide +kernel
theorem dX8_in_13 : decode cX8_in 13 = .ok (.iconst 1, 1) := by decide +kernel
theorem dX8_in_14 : decode cX8_in 14 = .ok (.goto 4, 3) := by decide +kernel
theorem dX8_in_17 : decode cX8_in 17 = .ok (.iconst 0, 1) := by decide +kernel
theorem dX8_in_18 : decode cX8_in 18 = .ok (.ireturn, 1) := by decide +kernel
theorem dX8_bring_0 : decode cX8_bring 0 = .ok (.iconst 0, 1) := by decide +kernel
theorem dX8_bring_1 : decode cX8_bring 1 = .ok (.istore 5, 2) := by decide +kernel
theorem dX8_bring_3 : decode cX8_bring 3 = .ok (.iload 5, 2) := by decide +kernel
theorem dX8_bring_5 : decode cX8_bring 5 = .ok (.iload 4, 2) := by decide +kernel
theorem dX8_bring_7 : decode cX8_bring 7 = .ok (.if_icmp .ge 21, 3) := by decide +kernel
theorem dX8_bring_10 : decode cX8_bring 10 = .ok (.aload_n 2, 1) := by decide +kernel
theorem dX8_bring_11 : decode cX8_bring 11 = .ok (.iload_n 3, 1) := by decide +kernel
theorem dX8_bring_12 : decode cX8_bring 12 = .ok (.iload 5, 2) := by decide +kernel
theorem dX8_bring_14 : decode cX8_bring 14 = .ok (.iadd, 1) := by decide +kernel
theorem dX8_bring_15 : decode cX8_bring 15 = .ok (.aload_n 0, 1) := by decide +kernel
theorem dX8_bring_16 : decode cX8_bring 16 = .ok (.iload_n 1, 1) := by decide +kernel
theorem dX8_bring_17 : decode cX8_bring 17 = .ok (.iload 5, 2) := by decide +kernel
theorem dX8_bring_19 : decode cX8_bring 19 = .ok (.iadd, 1) := by decide +kernel
theorem dX8_bring_20 : decode cX8_bring 20 = .ok (.iaload, 1) := by decide +kernel
theorem dX8_bring_21 : decode cX8_bring 21 = .ok (.iastore, 1) := by decide +kernel
theorem dX8_bring_22 : decode cX8_bring 22 = .ok (.iinc 5 1, 3) := by decide +kernel
theorem dX8_bring_25 : decode cX8_bring 25 = .ok (.goto (-22), 3) := by decide +kernel
theorem dX8_bring_28 : decode cX8_bring 28 = .ok (.return_, 1) := by decide +kernel
theorem dX8_notes_0 : decode cX8_notes 0 = .ok (.aload_n 0, 1) := by decide +kernel
theorem dX8_notes_1 : decode cX8_notes 1 = .ok (.getfield 66, 3) := by decide +kernel
theorem dX8_notes_4 : decode cX8_notes 4 = .ok (.bipush 6, 2) := by decide +kernel
theorem dX8_notes_6 : decode cX8_notes 6 = .ok (.if_icmp .ne 29, 3) := by decide +kernel
theorem dX8_notes_9 : decode cX8_notes 9 = .ok (.aload_n 0, 1) := by decide +kernel
theorem dX8_notes_10 : decode cX8_notes 10 = .ok (.getfield 13, 3) := by decide +kernel
theorem dX8_notes_13 : decode cX8_notes 13 = .ok (.bipush 12, 2) := by decide +kernel
theorem dX8_notes_15 : decode cX8_notes 15 = .ok (.aload_n 0, 1) := by decide +kernel
theorem dX8_notes_16 : decode cX8_notes 16 = .ok (.getfield 13, 3) := by decide +kernel
theorem dX8_notes_19 : decode cX8_notes 19 = .ok (.iconst 0, 1) := by decide +kernel
theorem dX8_notes_20 : decode cX8_notes 20 = .ok (.bipush 60, 2) := by decide +kernel
theorem dX8_notes_22 : decode cX8_notes 22 = .ok (.invokestatic 69, 3) := by decide +kernel
theorem dX8_notes_25 : decode cX8_notes 25 = .ok (.aload_n 0, 1) := by decide +kernel
theorem dX8_notes_26 : decode cX8_notes 26 = .ok (.dup, 1) := by decide +kernel
theorem dX8_notes_27 : decode cX8_notes 27 = .ok (.getfield 66, 3) := by decide +kernel
theorem dX8_notes_30 : decode cX8_notes 30 = .ok (.iconst 1, 1) := by decide +kernel
theorem dX8_notes_31 : decode cX8_notes 31 = .ok (.isub, 1) := by decide +kernel
theorem dX8_notes_32 : decode cX8_notes 32 = .ok (.putfield 66, 3) := by decide +kernel
theorem dX8_notes_35 : decode cX8_notes 35 = .ok (.aload_n 0, 1) := by decide +kernel
theorem dX8_notes_36 : decode cX8_notes 36 = .ok (.getfield 7, 3) := by decide +kernel
theorem dX8_notes_39 : decode cX8_notes 39 = .ok (.iconst 0, 1) := by decide +kernel
theorem dX8_notes_40 : decode cX8_notes 40 = .ok (.aload_n 0, 1) := by decide +kernel
theorem dX8_notes_41 : decode cX8_notes 41 = .ok (.getfield 13, 3) := by decide +kernel
theorem dX8_notes_44 : decode cX8_notes 44 = .ok (.bipush 12, 2) := by decide +kernel
theorem dX8_notes_46 : decode cX8_notes 46 = .ok (.aload_n 0, 1) := by decide +kernel
theorem dX8_notes_47 : decode cX8_notes 47 = .ok (.getfield 66, 3) := by decide +kernel
theorem dX8_notes_50 : decode cX8_notes 50 = .ok (.imul, 1) := by decide +kernel
theorem dX8_notes_51 : decode cX8_notes 51 = .ok (.bipush 12, 2) := by decide +kernel
theorem dX8_notes_53 : decode cX8_notes 53 = .ok (.invokestatic 69, 3) := by decide +kernel
theorem dX8_notes_56 : decode cX8_notes 56 = .ok (.aload_n 0, 1) := by decide +kernel
theorem dX8_notes_57 : decode cX8_notes 57 = .ok (.dup, 1) := by decide +kernel
theorem dX8_notes_58 : decode cX8_notes 58 = .ok (.getfield 66, 3) := by decide +kernel
theorem dX8_notes_61 : decode cX8_notes 61 = .ok (.iconst 1, 1) := by decide +kernel
theorem dX8_notes_62 : decode cX8_notes 62 = .ok (.iadd, 1) := by decide +kernel
theorem dX8_notes_63 : decode cX8_notes 63 = .ok (.putfield 66, 3) := by decide +kernel
theorem dX8_notes_66 : decode cX8_notes 66 = .ok (.return_, 1) := by decide +kernel
theorem dX8_degree_0 : decode cX8_degree 0 = .ok (.iconst 4, 1) := by decide +kernel
theorem dX8_degree_1 : decode cX8_degree 1 = .ok (.istore_n 2, 1) := by decide +kernel
theorem dX8_degree_2 : decode cX8_degree 2 = .ok (.iload_n 2, 1) := by decide +kernel
theorem dX8_degree_3 : decode cX8_degree 3 = .ok (.ifCond .lt 19, 3) := by decide +kernel
theorem dX8_degree_6 : decode cX8_degree 6 = .ok (.aload_n 0, 1) := by decide +kernel
theorem dX8_degree_7 : decode cX8_degree 7 = .ok (.iload_n 1, 1) := by decide +kernel
theorem dX8_degree_8 : decode cX8_degree 8 = .ok (.iload_n 2, 1) := by decide +kernel
theorem dX8_degree_9 : decode cX8_degree 9 = .ok (.iadd, 1) := by decide +kernel
theorem dX8_degree_10 : decode cX8_degree 10 = .ok (.laload, 1) := by decide +kernel
theorem dX8_degree_11 : decode cX8_degree 11 = .ok (.lconst 0, 1) := by decide +kernel
theorem dX8_degree_12 : decode cX8_degree 12 = .ok (.lcmp, 1) := by decide +kernel
theorem dX8_degree_13 : decode cX8_degree 13 = .ok (.ifCond .ne 9, 3) := by decide +kernel
theorem dX8_degree_16 : decode cX8_degree 16 = .ok (.iinc 2 (-1), 3) := by decide +kernel
theorem dX8_degree_19 : decode cX8_degree 19 = .ok (.goto (-17), 3) := by decide +kernel
theorem dX8_degree_22 : decode cX8_degree 22 = .ok (.iload_n 2, 1) := by decide +kernel
theorem dX8_degree_23 : decode cX8_degree 23 = .ok (.ifCond .ge 8, 3) := by decide +kernel
theorem dX8_degree_26 : decode cX8_degree 26 = .ok (.bipush (-4), 2) := by decide +kernel
theorem dX8_degree_28 : decode cX8_degree 28 = .ok (.goto 4, 3) := by decide +kernel
theorem dX8_degree_31 : decode cX8_degree 31 = .ok (.iload_n 2, 1) := by decide +kernel
theorem dX8_degree_32 : decode cX8_degree 32 = .ok (.ireturn, 1) := by decide +kernel
theorem dX8_loops_0 : decode cX8_loops 0 = .ok (.iconst 0, 1) := by decide +kernel
theorem dX8_loops_1 : decode cX8_loops 1 = .ok (.istore_n 2, 1) := by decide +kernel
theorem dX8_loops_2 : decode cX8_loops 2 = .ok (.iload_n 2, 1) := by decide +kernel
theorem dX8_loops_3 : decode cX8_loops 3 = .ok (.iconst 5, 1) := by decide +kernel
theorem dX8_loops_4 : decode cX8_loops 4 = .ok (.if_icmp .ge 39, 3) := by decide +kernel
theorem dX8_loops_7 : decode cX8_loops 7 = .ok (.aload_n 0, 1) := by decide +kernel
theorem dX8_loops_8 : decode cX8_loops 8 = .ok (.getfield 39, 3) := by decide +kernel
theorem dX8_loops_11 : decode cX8_loops 11 = .ok (.iload_n 2, 1) := by decide +kernel
theorem dX8_loops_12 : decode cX8_loops 12 = .ok (.ldc2_w 73, 3) := by decide +kernel
theorem dX8_loops_15 : decode cX8_loops 15 = .ok (.aload_n 0, 1) := by decide +kernel
theorem dX8_loops_16 : decode cX8_loops 16 = .ok (.getfield 7, 3) := by decide +kernel
theorem dX8_loops_19 : decode cX8_loops 19 = .ok (.iload_n 2, 1) := by decide +kernel
theorem dX8_loops_20 : decode cX8_loops 20 = .ok (.iaload, 1) := by decide +kernel
theorem dX8_loops_21 : decode cX8_loops 21 = .ok (.i2l, 1) := by decide +kernel
theorem dX8_loops_22 : decode cX8_loops 22 = .ok (.lmul, 1) := by decide +kernel
theorem dX8_loops_23 : decode cX8_loops 23 = .ok (.iload_n 1, 1) := by decide +kernel
theorem dX8_loops_24 : decode cX8_loops 24 = .ok (.i2l, 1) := by decide +kernel
theorem dX8_loops_25 : decode cX8_loops 25 = .ok (.aload_n 0, 1) := by decide +kernel
theorem dX8_loops_26 : decode cX8_loops 26 = .ok (.getfield 7, 3) := by decide +kernel
theorem dX8_loops_29 : decode cX8_loops 29 = .ok (.iconst 5, 1) := by decide +kernel
theorem dX8_loops_30 : decode cX8_loops 30 = .ok (.iload_n 2, 1) := by decide +kernel
theorem dX8_loops_31 : decode cX8_loops 31 = .ok (.iadd, 1) := by decide +kernel
theorem dX8_loops_32 : decode cX8_loops 32 = .ok (.iaload, 1) := by decide +kernel
theorem dX8_loops_33 : decode cX8_loops 33 = .ok (.i2l, 1) := by decide +kernel
theorem dX8_loops_34 : decode cX8_loops 34 = .ok (.lmul, 1) := by decide +kernel
theorem dX8_loops_35 : decode cX8_loops 35 = .ok (.ladd, 1) := by decide +kernel
theorem dX8_loops_36 : decode cX8_loops 36 = .ok (.lastore, 1) := by decide +kernel
theorem dX8_loops_37 : decode cX8_loops 37 = .ok (.iinc 2 1, 3) := by decide +kernel
theorem dX8_loops_40 : decode cX8_loops 40 = .ok (.goto (-38), 3) := by decide +kernel
theorem dX8_loops_43 : decode cX8_loops 43 = .ok (.return_, 1) := by decide +kernel
theorem dX8_sign_0 : decode cX8_sign 0 = .ok (.lload_n 0, 1) := by decide +kernel
theorem dX8_sign_1 : decode cX8_sign 1 = .ok (.lconst 0, 1) := by decide +kernel
theorem dX8_sign_2 : decode cX8_sign 2 = .ok (.lcmp, 1) := by decide +kernel
theorem dX8_sign_3 : decode cX8_sign 3 = .ok (.ifCond .le 7, 3) := by decide +kernel
theorem dX8_sign_6 : decode cX8_sign 6 = .ok (.iconst 1, 1) := by decide +kernel
theorem dX8_sign_7 : decode cX8_sign 7 = .ok (.goto 14, 3) := by decide +kernel
theorem dX8_sign_10 : decode cX8_sign 10 = .ok (.lload_n 0, 1) := by decide +kernel
theorem dX8_sign_11 : decode cX8_sign 11 = .ok (.lconst 0, 1) := by decide +kernel
theorem dX8_sign_12 : decode cX8_sign 12 = .ok (.lcmp, 1) := by decide +kernel
theorem dX8_sign_13 : decode cX8_sign 13 = .ok (.ifCond .ge 7, 3) := by decide +kernel
theorem dX8_sign_16 : decode cX8_sign 16 = .ok (.iconst (-1), 1) := by decide +kernel
theorem dX8_sign_17 : decode cX8_sign 17 = .ok (.goto 4, 3) := by decide +kernel
theorem dX8_sign_20 : decode cX8_sign 20 = .ok (.iconst 0, 1) := by decide +kernel
theorem dX8_sign_21 : decode cX8_sign 21 = .ok (.ireturn, 1) := by decide +kernel
theorem dX8_more_0 : decode cX8_more 0 = .ok (.aload_n 0, 1) := by decide +kernel
theorem dX8_more_1 : decode cX8_more 1 = .ok (.dup, 1) := by decide +kernel
theorem dX8_more_2 : decode cX8_more 2 = .ok (.getfield 75, 3) := by decide +kernel
theorem dX8_more_5 : decode cX8_more 5 = .ok (.iload_n 1, 1) := by decide +kernel
theorem dX8_more_6 : decode cX8_more 6 = .ok (.iadd, 1) := by decide +kernel
theorem dX8_more_7 : decode cX8_more 7 = .ok (.putfield 75, 3) := by decide +kernel
theorem dX8_more_10 : decode cX8_more 10 = .ok (.aload_n 0, 1) := by decide +kernel
theorem dX8_more_11 : decode cX8_more 11 = .ok (.dup, 1) := by decide +kernel
theorem dX8_more_12 : decode cX8_more 12 = .ok (.getfield 78, 3) := by decide +kernel
theorem dX8_more_15 : decode cX8_more 15 = .ok (.iload_n 2, 1) := by decide +kernel
theorem dX8_more_16 : decode cX8_more 16 = .ok (.iadd, 1) := by decide +kernel
theorem dX8_more_17 : decode cX8_more 17 = .ok (.putfield 78, 3) := by decide +kernel
theorem dX8_more_20 : decode cX8_more 20 = .ok (.aload_n 0, 1) := by decide +kernel
theorem dX8_more_21 : decode cX8_more 21 = .ok (.dup, 1) := by decide +kernel
theorem dX8_more_22 : decode cX8_more 22 = .ok (.getfield 81, 3) := by decide +kernel
theorem dX8_more_25 : decode cX8_more 25 = .ok (.iload_n 3, 1) := by decide +kernel
theorem dX8_more_26 : decode cX8_more 26 = .ok (.iadd, 1) := by decide +kernel
theorem dX8_more_27 : decode cX8_more 27 = .ok (.putfield 81, 3) := by decide +kernel
theorem dX8_more_30 : decode cX8_more 30 = .ok (.return_, 1) := by decide +kernel
theorem dX8_square_0 : decode cX8_square 0 = .ok (.iload_n 1, 1) := by decide +kernel
theorem dX8_square_1 : decode cX8_square 1 = .ok (.ifCond .ge 13, 3) := by decide +kernel
theorem dX8_square_4 : decode cX8_square 4 = .ok (.aload_n 0, 1) := by decide +kernel
theorem dX8_square_5 : decode cX8_square 5 = .ok (.iconst 0, 1) := by decide +kernel
theorem dX8_square_6 : decode cX8_square 6 = .ok (.iconst 2, 1) := by decide +kernel
theorem dX8_square_7 : decode cX8_square 7 = .ok (.iconst 0, 1) := by decide +kernel
theorem dX8_square_8 : decode cX8_square 8 = .ok (.invokevirtual 84, 3) := by decide +kernel
theorem dX8_square_11 : decode cX8_square 11 = .ok (.goto 10, 3) := by decide +kernel
theorem dX8_square_14 : decode cX8_square 14 = .ok (.aload_n 0, 1) := by decide +kernel
theorem dX8_square_15 : decode cX8_square 15 = .ok (.iconst 1, 1) := by decide +kernel
theorem dX8_square_16 : decode cX8_square 16 = .ok (.iconst 0, 1) := by decide +kernel
theorem dX8_square_17 : decode cX8_square 17 = .ok (.iconst 1, 1) := by decide +kernel
theorem dX8_square_18 : decode cX8_square 18 = .ok (.invokevirtual 84, 3) := by decide +kernel
theorem dX8_square_21 : decode cX8_square 21 = .ok (.return_, 1) := by decide +kernel
theorem dX8_squares_0 : decode cX8_squares 0 = .ok (.lload_n 1, 1) := by decide +kernel
theorem dX8_squares_1 : decode cX8_squares 1 = .ok (.lconst 0, 1) := by decide +kernel
theorem dX8_squares_2 : decode cX8_squares 2 = .ok (.lcmp, 1) := by decide +kernel
theorem dX8_squares_3 : decode cX8_squares 3 = .ok (.ifCond .ne 25, 3) := by decide +kernel
theorem dX8_squares_6 : decode cX8_squares 6 = .ok (.lload_n 3, 1) := by decide +kernel
theorem dX8_squares_7 : decode cX8_squares 7 = .ok (.lconst 0, 1) := by decide +kernel
theorem dX8_squares_8 : decode cX8_squares 8 = .ok (.lcmp, 1) := by decide +kernel
theorem dX8_squares_9 : decode cX8_squares 9 = .ok (.ifCond .eq 18, 3) := by decide +kernel
theorem dX8_squares_12 : decode cX8_squares 12 = .ok (.aload_n 0, 1) := by decide +kernel
theorem dX8_squares_13 : decode cX8_squares 13 = .ok (.lload_n 3, 1) := by decide +kernel
theorem dX8_squares_14 : decode cX8_squares 14 = .ok (.invokestatic 88, 3) := by decide +kernel
theorem dX8_squares_17 : decode cX8_squares 17 = .ok (.ineg, 1) := by decide +kernel
theorem dX8_squares_18 : decode cX8_squares 18 = .ok (.lload 5, 2) := by decide +kernel
theorem dX8_squares_20 : decode cX8_squares 20 = .ok (.invokestatic 88, 3) := by decide +kernel
theorem dX8_squares_23 : decode cX8_squares 23 = .ok (.imul, 1) := by decide +kernel
theorem dX8_squares_24 : decode cX8_squares 24 = .ok (.invokevirtual 92, 3) := by decide +kernel
theorem dX8_squares_27 : decode cX8_squares 27 = .ok (.return_, 1) := by decide +kernel
theorem dX8_squares_28 : decode cX8_squares 28 = .ok (.lload_n 3, 1) := by decide +kernel
theorem dX8_squares_29 : decode cX8_squares 29 = .ok (.lload_n 3, 1) := by decide +kernel
theorem dX8_squares_30 : decode cX8_squares 30 = .ok (.lmul, 1) := by decide +kernel
theorem dX8_squares_31 : decode cX8_squares 31 = .ok (.ldc2_w 96, 3) := by decide +kernel
theorem dX8_squares_34 : decode cX8_squares 34 = .ok (.lload_n 1, 1) := by decide +kernel
theorem dX8_squares_35 : decode cX8_squares 35 = .ok (.lmul, 1) := by decide +kernel
theorem dX8_squares_36 : decode cX8_squares 36 = .ok (.lload 5, 2) := by decide +kernel
theorem dX8_squares_38 : decode cX8_squares 38 = .ok (.lmul, 1) := by decide +kernel
theorem dX8_squares_39 : decode cX8_squares 39 = .ok (.lsub, 1) := by decide +kernel
theorem dX8_squares_40 : decode cX8_squares 40 = .ok (.lstore 7, 2) := by decide +kernel
theorem dX8_squares_42 : decode cX8_squares 42 = .ok (.lload 7, 2) := by decide +kernel
theorem dX8_squares_44 : decode cX8_squares 44 = .ok (.lconst 0, 1) := by decide +kernel
theorem dX8_squares_45 : decode cX8_squares 45 = .ok (.lcmp, 1) := by decide +kernel
theorem dX8_squares_46 : decode cX8_squares 46 = .ok (.ifCond .ge 13, 3) := by decide +kernel
theorem dX8_squares_49 : decode cX8_squares 49 = .ok (.aload_n 0, 1) := by decide +kernel
theorem dX8_squares_50 : decode cX8_squares 50 = .ok (.iconst 2, 1) := by decide +kernel
theorem dX8_squares_51 : decode cX8_squares 51 = .ok (.iconst 0, 1) := by decide +kernel
theorem dX8_squares_52 : decode cX8_squares 52 = .ok (.iconst 2, 1) := by decide +kernel
theorem dX8_squares_53 : decode cX8_squares 53 = .ok (.invokevirtual 84, 3) := by decide +kernel
theorem dX8_squares_56 : decode cX8_squares 56 = .ok (.goto 57, 3) := by decide +kernel
theorem dX8_squares_59 : decode cX8_squares 59 = .ok (.lload_n 1, 1) := by decide +kernel
theorem dX8_squares_60 : decode cX8_squares 60 = .ok (.invokestatic 88, 3) := by decide +kernel
theorem dX8_squares_63 : decode cX8_squares 63 = .ok (.lload 5, 2) := by decide +kernel
theorem dX8_squares_65 : decode cX8_squares 65 = .ok (.invokestatic 88, 3) := by decide +kernel
theorem dX8_squares_68 : decode cX8_squares 68 = .ok (.imul, 1) := by decide +kernel
theorem dX8_squares_69 : decode cX8_squares 69 = .ok (.ifCond .ge 16, 3) := by decide +kernel
theorem dX8_squares_72 : decode cX8_squares 72 = .ok (.aload_n 0, 1) := by decide +kernel
theorem dX8_squares_73 : decode cX8_squares 73 = .ok (.iconst (-1), 1) := by decide +kernel
theorem dX8_squares_74 : decode cX8_squares 74 = .ok (.invokevirtual 92, 3) := by decide +kernel
theorem dX8_squares_77 : decode cX8_squares 77 = .ok (.aload_n 0, 1) := by decide +kernel
theorem dX8_squares_78 : decode cX8_squares 78 = .ok (.iconst 1, 1) := by decide +kernel
theorem dX8_squares_79 : decode cX8_squares 79 = .ok (.invokevirtual 92, 3) := by decide +kernel
theorem dX8_squares_82 : decode cX8_squares 82 = .ok (.goto 31, 3) := by decide +kernel
theorem dX8_squares_85 : decode cX8_squares 85 = .ok (.aload_n 0, 1) := by decide +kernel
theorem dX8_squares_86 : decode cX8_squares 86 = .ok (.lload_n 3, 1) := by decide +kernel
theorem dX8_squares_87 : decode cX8_squares 87 = .ok (.invokestatic 88, 3) := by decide +kernel
theorem dX8_squares_90 : decode cX8_squares 90 = .ok (.ineg, 1) := by decide +kernel
theorem dX8_squares_91 : decode cX8_squares 91 = .ok (.lload_n 1, 1) := by decide +kernel
theorem dX8_squares_92 : decode cX8_squares 92 = .ok (.invokestatic 88, 3) := by decide +kernel
theorem dX8_squares_95 : decode cX8_squares 95 = .ok (.imul, 1) := by decide +kernel
theorem dX8_squares_96 : decode cX8_squares 96 = .ok (.invokevirtual 92, 3) := by decide +kernel
theorem dX8_squares_99 : decode cX8_squares 99 = .ok (.aload_n 0, 1) := by decide +kernel
theorem dX8_squares_100 : decode cX8_squares 100 = .ok (.lload_n 3, 1) := by decide +kernel
theorem dX8_squares_101 : decode cX8_squares 101 = .ok (.invokestatic 88, 3) := by decide +kernel
theorem dX8_squares_104 : decode cX8_squares 104 = .ok (.ineg, 1) := by decide +kernel
theorem dX8_squares_105 : decode cX8_squares 105 = .ok (.lload_n 1, 1) := by decide +kernel
theorem dX8_squares_106 : decode cX8_squares 106 = .ok (.invokestatic 88, 3) := by decide +kernel
theorem dX8_squares_109 : decode cX8_squares 109 = .ok (.imul, 1) := by decide +kernel
theorem dX8_squares_110 : decode cX8_squares 110 = .ok (.invokevirtual 92, 3) := by decide +kernel
theorem dX8_squares_113 : decode cX8_squares 113 = .ok (.return_, 1) := by decide +kernel
theorem dX8_two_0 : decode cX8_two 0 = .ok (.lload_n 1, 1) := by decide +kernel
theorem dX8_two_1 : decode cX8_two 1 = .ok (.lconst 0, 1) := by decide +kernel
theorem dX8_two_2 : decode cX8_two 2 = .ok (.lcmp, 1) := by decide +kernel
theorem dX8_two_3 : decode cX8_two 3 = .ok (.ifCond .ne 43, 3) := by decide +kernel
theorem dX8_two_6 : decode cX8_two 6 = .ok (.lload_n 3, 1) := by decide +kernel
theorem dX8_two_7 : decode cX8_two 7 = .ok (.invokestatic 88, 3) := by decide +kernel
theorem dX8_two_10 : decode cX8_two 10 = .ok (.lload 5, 2) := by decide +kernel
theorem dX8_two_12 : decode cX8_two 12 = .ok (.invokestatic 88, 3) := by decide +kernel
theorem dX8_two_15 : decode cX8_two 15 = .ok (.imul, 1) := by decide +kernel
theorem dX8_two_16 : decode cX8_two 16 = .ok (.istore 7, 2) := by decide +kernel
theorem dX8_two_18 : decode cX8_two 18 = .ok (.aload_n 0, 1) := by decide +kernel
theorem dX8_two_19 : decode cX8_two 19 = .ok (.iload 7, 2) := by decide +kernel
theorem dX8_two_21 : decode cX8_two 21 = .ok (.ifCond .ge 7, 3) := by decide +kernel
theorem dX8_two_24 : decode cX8_two 24 = .ok (.iconst 1, 1) := by decide +kernel
theorem dX8_two_25 : decode cX8_two 25 = .ok (.goto 4, 3) := by decide +kernel
theorem dX8_two_28 : decode cX8_two 28 = .ok (.iconst 0, 1) := by decide +kernel
theorem dX8_two_29 : decode cX8_two 29 = .ok (.iconst 0, 1) := by decide +kernel
theorem dX8_two_30 : decode cX8_two 30 = .ok (.iload 7, 2) := by decide +kernel
theorem dX8_two_32 : decode cX8_two 32 = .ok (.ifCond .le 7, 3) := by decide +kernel
theorem dX8_two_35 : decode cX8_two 35 = .ok (.iconst 1, 1) := by decide +kernel
theorem dX8_two_36 : decode cX8_two 36 = .ok (.goto 4, 3) := by decide +kernel
theorem dX8_two_39 : decode cX8_two 39 = .ok (.iconst 0, 1) := by decide +kernel
theorem dX8_two_40 : decode cX8_two 40 = .ok (.invokevirtual 84, 3) := by decide +kernel
theorem dX8_two_43 : decode cX8_two 43 = .ok (.goto 62, 3) := by decide +kernel
theorem dX8_two_46 : decode cX8_two 46 = .ok (.lload_n 1, 1) := by decide +kernel
theorem dX8_two_47 : decode cX8_two 47 = .ok (.invokestatic 88, 3) := by decide +kernel
theorem dX8_two_50 : decode cX8_two 50 = .ok (.lload 5, 2) := by decide +kernel
theorem dX8_two_52 : decode cX8_two 52 = .ok (.invokestatic 88, 3) := by decide +kernel
theorem dX8_two_55 : decode cX8_two 55 = .ok (.imul, 1) := by decide +kernel
theorem dX8_two_56 : decode cX8_two 56 = .ok (.ifCond .ge 13, 3) := by decide +kernel
theorem dX8_two_59 : decode cX8_two 59 = .ok (.aload_n 0, 1) := by decide +kernel
theorem dX8_two_60 : decode cX8_two 60 = .ok (.iconst 1, 1) := by decide +kernel
theorem dX8_two_61 : decode cX8_two 61 = .ok (.iconst 0, 1) := by decide +kernel
theorem dX8_two_62 : decode cX8_two 62 = .ok (.iconst 1, 1) := by decide +kernel
theorem dX8_two_63 : decode cX8_two 63 = .ok (.invokevirtual 84, 3) := by decide +kernel
theorem dX8_two_66 : decode cX8_two 66 = .ok (.goto 39, 3) := by decide +kernel
theorem dX8_two_69 : decode cX8_two 69 = .ok (.lload_n 1, 1) := by decide +kernel
theorem dX8_two_70 : decode cX8_two 70 = .ok (.invokestatic 88, 3) := by decide +kernel
theorem dX8_two_73 : decode cX8_two 73 = .ok (.lload_n 3, 1) := by decide +kernel
theorem dX8_two_74 : decode cX8_two 74 = .ok (.invokestatic 88, 3) := by decide +kernel
theorem dX8_two_77 : decode cX8_two 77 = .ok (.imul, 1) := by decide +kernel
theorem dX8_two_78 : decode cX8_two 78 = .ok (.istore 7, 2) := by decide +kernel
theorem dX8_two_80 : decode cX8_two 80 = .ok (.aload_n 0, 1) := by decide +kernel
theorem dX8_two_81 : decode cX8_two 81 = .ok (.iload 7, 2) := by decide +kernel
theorem dX8_two_83 : decode cX8_two 83 = .ok (.ifCond .ge 7, 3) := by decide +kernel
theorem dX8_two_86 : decode cX8_two 86 = .ok (.iconst 2, 1) := by decide +kernel
theorem dX8_two_87 : decode cX8_two 87 = .ok (.goto 4, 3) := by decide +kernel
theorem dX8_two_90 : decode cX8_two 90 = .ok (.iconst 0, 1) := by decide +kernel
theorem dX8_two_91 : decode cX8_two 91 = .ok (.iconst 0, 1) := by decide +kernel
theorem dX8_two_92 : decode cX8_two 92 = .ok (.iload 7, 2) := by decide +kernel
theorem dX8_two_94 : decode cX8_two 94 = .ok (.ifCond .le 7, 3) := by decide +kernel
theorem dX8_two_97 : decode cX8_two 97 = .ok (.iconst 2, 1) := by decide +kernel
theorem dX8_two_98 : decode cX8_two 98 = .ok (.goto 4, 3) := by decide +kernel
theorem dX8_two_101 : decode cX8_two 101 = .ok (.iconst 0, 1) := by decide +kernel
theorem dX8_two_102 : decode cX8_two 102 = .ok (.invokevirtual 84, 3) := by decide +kernel
theorem dX8_two_105 : decode cX8_two 105 = .ok (.return_, 1) := by decide +kernel
theorem dX8_passes_0 : decode cX8_passes 0 = .ok (.aload_n 0, 1) := by decide +kernel
theorem dX8_passes_1 : decode cX8_passes 1 = .ok (.dup, 1) := by decide +kernel
theorem dX8_passes_2 : decode cX8_passes 2 = .ok (.getfield 98, 3) := by decide +kernel
theorem dX8_passes_5 : decode cX8_passes 5 = .ok (.iload_n 1, 1) := by decide +kernel
theorem dX8_passes_6 : decode cX8_passes 6 = .ok (.aload_n 0, 1) := by decide +kernel
theorem dX8_passes_7 : decode cX8_passes 7 = .ok (.getfield 101, 3) := by decide +kernel
theorem dX8_passes_10 : decode cX8_passes 10 = .ok (.if_icmp .eq 7, 3) := by decide +kernel
theorem dX8_passes_13 : decode cX8_passes 13 = .ok (.iconst 1, 1) := by decide +kernel
theorem dX8_passes_14 : decode cX8_passes 14 = .ok (.goto 4, 3) := by decide +kernel
theorem dX8_passes_17 : decode cX8_passes 17 = .ok (.iconst 0, 1) := by decide +kernel
theorem dX8_passes_18 : decode cX8_passes 18 = .ok (.iadd, 1) := by decide +kernel
theorem dX8_passes_19 : decode cX8_passes 19 = .ok (.putfield 98, 3) := by decide +kernel
theorem dX8_passes_22 : decode cX8_passes 22 = .ok (.aload_n 0, 1) := by decide +kernel
theorem dX8_passes_23 : decode cX8_passes 23 = .ok (.iload_n 1, 1) := by decide +kernel
theorem dX8_passes_24 : decode cX8_passes 24 = .ok (.putfield 101, 3) := by decide +kernel
theorem dX8_passes_27 : decode cX8_passes 27 = .ok (.return_, 1) := by decide +kernel
theorem dX8_three_0 : decode cX8_three 0 = .ok (.aload_n 0, 1) := by decide +kernel
theorem dX8_three_1 : decode cX8_three 1 = .ok (.iconst 1, 1) := by decide +kernel
theorem dX8_three_2 : decode cX8_three 2 = .ok (.putfield 101, 3) := by decide +kernel
theorem dX8_three_5 : decode cX8_three 5 = .ok (.aload_n 0, 1) := by decide +kernel
theorem dX8_three_6 : decode cX8_three 6 = .ok (.iconst 0, 1) := by decide +kernel
theorem dX8_three_7 : decode cX8_three 7 = .ok (.putfield 98, 3) := by decide +kernel
theorem dX8_three_10 : decode cX8_three 10 = .ok (.lload_n 3, 1) := by decide +kernel
theorem dX8_three_11 : decode cX8_three 11 = .ok (.lload 5, 2) := by decide +kernel
theorem dX8_three_13 : decode cX8_three 13 = .ok (.lmul, 1) := by decide +kernel
theorem dX8_three_14 : decode cX8_three 14 = .ok (.lload_n 1, 1) := by decide +kernel
theorem dX8_three_15 : decode cX8_three 15 = .ok (.lload 7, 2) := by decide +kernel
theorem dX8_three_17 : decode cX8_three 17 = .ok (.lmul, 1) := by decide +kernel
theorem dX8_three_18 : decode cX8_three 18 = .ok (.lsub, 1) := by decide +kernel
theorem dX8_three_19 : decode cX8_three 19 = .ok (.lstore 9, 2) := by decide +kernel
theorem dX8_three_21 : decode cX8_three 21 = .ok (.aload_n 0, 1) := by decide +kernel
theorem dX8_three_22 : decode cX8_three 22 = .ok (.lload_n 3, 1) := by decide +kernel
theorem dX8_three_23 : decode cX8_three 23 = .ok (.lconst 0, 1) := by decide +kernel
theorem dX8_three_24 : decode cX8_three 24 = .ok (.lcmp, 1) := by decide +kernel
theorem dX8_three_25 : decode cX8_three 25 = .ok (.ifCond .ne 7, 3) := by decide +kernel
theorem dX8_three_28 : decode cX8_three 28 = .ok (.iconst 1, 1) := by decide +kernel
theorem dX8_three_29 : decode cX8_three 29 = .ok (.goto 7, 3) := by decide +kernel
theorem dX8_three_32 : decode cX8_three 32 = .ok (.lload_n 3, 1) := by decide +kernel
theorem dX8_three_33 : decode cX8_three 33 = .ok (.invokestatic 88, 3) := by decide +kernel
theorem dX8_three_36 : decode cX8_three 36 = .ok (.invokevirtual 104, 3) := by decide +kernel
theorem dX8_three_39 : decode cX8_three 39 = .ok (.aload_n 0, 1) := by decide +kernel
theorem dX8_three_40 : decode cX8_three 40 = .ok (.lload_n 3, 1) := by decide +kernel
theorem dX8_three_41 : decode cX8_three 41 = .ok (.lconst 0, 1) := by decide +kernel
theorem dX8_three_42 : decode cX8_three 42 = .ok (.lcmp, 1) := by decide +kernel
theorem dX8_three_43 : decode cX8_three 43 = .ok (.ifCond .ne 12, 3) := by decide +kernel
theorem dX8_three_46 : decode cX8_three 46 = .ok (.lload 7, 2) := by decide +kernel
theorem dX8_three_48 : decode cX8_three 48 = .ok (.invokestatic 88, 3) := by decide +kernel
theorem dX8_three_51 : decode cX8_three 51 = .ok (.ineg, 1) := by decide +kernel
theorem dX8_three_52 : decode cX8_three 52 = .ok (.goto 13, 3) := by decide +kernel
theorem dX8_three_55 : decode cX8_three 55 = .ok (.lload 9, 2) := by decide +kernel
theorem dX8_three_57 : decode cX8_three 57 = .ok (.invokestatic 88, 3) := by decide +kernel
theorem dX8_three_60 : decode cX8_three 60 = .ok (.lload_n 3, 1) := by decide +kernel
theorem dX8_three_61 : decode cX8_three 61 = .ok (.invokestatic 88, 3) := by decide +kernel
theorem dX8_three_64 : decode cX8_three 64 = .ok (.imul, 1) := by decide +kernel
theorem dX8_three_65 : decode cX8_three 65 = .ok (.invokevirtual 104, 3) := by decide +kernel
theorem dX8_three_68 : decode cX8_three 68 = .ok (.aload_n 0, 1) := by decide +kernel
theorem dX8_three_69 : decode cX8_three 69 = .ok (.lload 7, 2) := by decide +kernel
theorem dX8_three_71 : decode cX8_three 71 = .ok (.invokestatic 88, 3) := by decide +kernel
theorem dX8_three_74 : decode cX8_three 74 = .ok (.invokevirtual 104, 3) := by decide +kernel
theorem dX8_three_77 : decode cX8_three 77 = .ok (.return_, 1) := by decide +kernel
theorem dX8_four_0 : decode cX8_four 0 = .ok (.aload_n 0, 1) := by decide +kernel
theorem dX8_four_1 : decode cX8_four 1 = .ok (.iconst 1, 1) := by decide +kernel
theorem dX8_four_2 : decode cX8_four 2 = .ok (.putfield 101, 3) := by decide +kernel
theorem dX8_four_5 : decode cX8_four 5 = .ok (.aload_n 0, 1) := by decide +kernel
theorem dX8_four_6 : decode cX8_four 6 = .ok (.iconst 0, 1) := by decide +kernel
theorem dX8_four_7 : decode cX8_four 7 = .ok (.putfield 98, 3) := by decide +kernel
theorem dX8_four_10 : decode cX8_four 10 = .ok (.aload_n 0, 1) := by decide +kernel
theorem dX8_four_11 : decode cX8_four 11 = .ok (.getfield 42, 3) := by decide +kernel
theorem dX8_four_14 : decode cX8_four 14 = .ok (.iconst 3, 1) := by decide +kernel
theorem dX8_four_15 : decode cX8_four 15 = .ok (.laload, 1) := by decide +kernel
theorem dX8_four_16 : decode cX8_four 16 = .ok (.lconst 0, 1) := by decide +kernel
theorem dX8_four_17 : decode cX8_four 17 = .ok (.lcmp, 1) := by decide +kernel
theorem dX8_four_18 : decode cX8_four 18 = .ok (.ifCond .ne 38, 3) := by decide +kernel
theorem dX8_four_21 : decode cX8_four 21 = .ok (.aload_n 0, 1) := by decide +kernel
theorem dX8_four_22 : decode cX8_four 22 = .ok (.iconst 1, 1) := by decide +kernel
theorem dX8_four_23 : decode cX8_four 23 = .ok (.invokevirtual 104, 3) := by decide +kernel
theorem dX8_four_26 : decode cX8_four 26 = .ok (.aload_n 0, 1) := by decide +kernel
theorem dX8_four_27 : decode cX8_four 27 = .ok (.aload_n 0, 1) := by decide +kernel
theorem dX8_four_28 : decode cX8_four 28 = .ok (.getfield 42, 3) := by decide +kernel
theorem dX8_four_31 : decode cX8_four 31 = .ok (.iconst 1, 1) := by decide +kernel
theorem dX8_four_32 : decode cX8_four 32 = .ok (.laload, 1) := by decide +kernel
theorem dX8_four_33 : decode cX8_four 33 = .ok (.invokestatic 88, 3) := by decide +kernel
theorem dX8_four_36 : decode cX8_four 36 = .ok (.ineg, 1) := by decide +kernel
theorem dX8_four_37 : decode cX8_four 37 = .ok (.invokevirtual 104, 3) := by decide +kernel
theorem dX8_four_40 : decode cX8_four 40 = .ok (.aload_n 0, 1) := by decide +kernel
theorem dX8_four_41 : decode cX8_four 41 = .ok (.aload_n 0, 1) := by decide +kernel
theorem dX8_four_42 : decode cX8_four 42 = .ok (.getfield 42, 3) := by decide +kernel
theorem dX8_four_45 : decode cX8_four 45 = .ok (.iconst 1, 1) := by decide +kernel
theorem dX8_four_46 : decode cX8_four 46 = .ok (.laload, 1) := by decide +kernel
theorem dX8_four_47 : decode cX8_four 47 = .ok (.invokestatic 88, 3) := by decide +kernel
theorem dX8_four_50 : decode cX8_four 50 = .ok (.invokevirtual 104, 3) := by decide +kernel
theorem dX8_four_53 : decode cX8_four 53 = .ok (.goto 144, 3) := by decide +kernel
theorem dX8_four_56 : decode cX8_four 56 = .ok (.aload_n 0, 1) := by decide +kernel
theorem dX8_four_57 : decode cX8_four 57 = .ok (.getfield 42, 3) := by decide +kernel
theorem dX8_four_60 : decode cX8_four 60 = .ok (.iconst 3, 1) := by decide +kernel
theorem dX8_four_61 : decode cX8_four 61 = .ok (.laload, 1) := by decide +kernel
theorem dX8_four_62 : decode cX8_four 62 = .ok (.aload_n 0, 1) := by decide +kernel
theorem dX8_four_63 : decode cX8_four 63 = .ok (.getfield 42, 3) := by decide +kernel
theorem dX8_four_66 : decode cX8_four 66 = .ok (.iconst 2, 1) := by decide +kernel
theorem dX8_four_67 : decode cX8_four 67 = .ok (.laload, 1) := by decide +kernel
theorem dX8_four_68 : decode cX8_four 68 = .ok (.lmul, 1) := by decide +kernel
theorem dX8_four_69 : decode cX8_four 69 = .ok (.aload_n 0, 1) := by decide +kernel
theorem dX8_four_70 : decode cX8_four 70 = .ok (.getfield 42, 3) := by decide +kernel
theorem dX8_four_73 : decode cX8_four 73 = .ok (.iconst 4, 1) := by decide +kernel
theorem dX8_four_74 : decode cX8_four 74 = .ok (.laload, 1) := by decide +kernel
theorem dX8_four_75 : decode cX8_four 75 = .ok (.aload_n 0, 1) := by decide +kernel
theorem dX8_four_76 : decode cX8_four 76 = .ok (.getfield 42, 3) := by decide +kernel
theorem dX8_four_79 : decode cX8_four 79 = .ok (.iconst 1, 1) := by decide +kernel
theorem dX8_four_80 : decode cX8_four 80 = .ok (.laload, 1) := by decide +kernel
theorem dX8_four_81 : decode cX8_four 81 = .ok (.lmul, 1) := by decide +kernel
theorem dX8_four_82 : decode cX8_four 82 = .ok (.lsub, 1) := by decide +kernel
theorem dX8_four_83 : decode cX8_four 83 = .ok (.lstore_n 1, 1) := by decide +kernel
theorem dX8_four_84 : decode cX8_four 84 = .ok (.lload_n 1, 1) := by decide +kernel
theorem dX8_four_85 : decode cX8_four 85 = .ok (.aload_n 0, 1) := by decide +kernel
theorem dX8_four_86 : decode cX8_four 86 = .ok (.getfield 42, 3) := by decide +kernel
theorem dX8_four_89 : decode cX8_four 89 = .ok (.iconst 1, 1) := by decide +kernel
theorem dX8_four_90 : decode cX8_four 90 = .ok (.laload, 1) := by decide +kernel
theorem dX8_four_91 : decode cX8_four 91 = .ok (.lmul, 1) := by decide +kernel
theorem dX8_four_92 : decode cX8_four 92 = .ok (.aload_n 0, 1) := by decide +kernel
theorem dX8_four_93 : decode cX8_four 93 = .ok (.getfield 42, 3) := by decide +kernel
theorem dX8_four_96 : decode cX8_four 96 = .ok (.iconst 3, 1) := by decide +kernel
theorem dX8_four_97 : decode cX8_four 97 = .ok (.laload, 1) := by decide +kernel
theorem dX8_four_98 : decode cX8_four 98 = .ok (.aload_n 0, 1) := by decide +kernel
theorem dX8_four_99 : decode cX8_four 99 = .ok (.getfield 42, 3) := by decide +kernel
theorem dX8_four_102 : decode cX8_four 102 = .ok (.iconst 3, 1) := by decide +kernel
theorem dX8_four_103 : decode cX8_four 103 = .ok (.laload, 1) := by decide +kernel
theorem dX8_four_104 : decode cX8_four 104 = .ok (.lmul, 1) := by decide +kernel
theorem dX8_four_105 : decode cX8_four 105 = .ok (.aload_n 0, 1) := by decide +kernel
theorem dX8_four_106 : decode cX8_four 106 = .ok (.getfield 42, 3) := by decide +kernel
theorem dX8_four_109 : decode cX8_four 109 = .ok (.iconst 0, 1) := by decide +kernel
theorem dX8_four_110 : decode cX8_four 110 = .ok (.laload, 1) := by decide +kernel
theorem dX8_four_111 : decode cX8_four 111 = .ok (.lmul, 1) := by decide +kernel
theorem dX8_four_112 : decode cX8_four 112 = .ok (.lsub, 1) := by decide +kernel
theorem dX8_four_113 : decode cX8_four 113 = .ok (.lstore_n 3, 1) := by decide +kernel
theorem dX8_four_114 : decode cX8_four 114 = .ok (.aload_n 0, 1) := by decide +kernel
theorem dX8_four_115 : decode cX8_four 115 = .ok (.aload_n 0, 1) := by decide +kernel
theorem dX8_four_116 : decode cX8_four 116 = .ok (.getfield 42, 3) := by decide +kernel
theorem dX8_four_119 : decode cX8_four 119 = .ok (.iconst 3, 1) := by decide +kernel
theorem dX8_four_120 : decode cX8_four 120 = .ok (.laload, 1) := by decide +kernel
theorem dX8_four_121 : decode cX8_four 121 = .ok (.invokestatic 88, 3) := by decide +kernel
theorem dX8_four_124 : decode cX8_four 124 = .ok (.invokevirtual 104, 3) := by decide +kernel
theorem dX8_four_127 : decode cX8_four 127 = .ok (.aload_n 0, 1) := by decide +kernel
theorem dX8_four_128 : decode cX8_four 128 = .ok (.lload_n 1, 1) := by decide +kernel
theorem dX8_four_129 : decode cX8_four 129 = .ok (.lconst 0, 1) := by decide +kernel
theorem dX8_four_130 : decode cX8_four 130 = .ok (.lcmp, 1) := by decide +kernel
theorem dX8_four_131 : decode cX8_four 131 = .ok (.ifCond .ne 7, 3) := by decide +kernel
theorem dX8_four_134 : decode cX8_four 134 = .ok (.iconst 1, 1) := by decide +kernel
theorem dX8_four_135 : decode cX8_four 135 = .ok (.goto 17, 3) := by decide +kernel
theorem dX8_four_138 : decode cX8_four 138 = .ok (.lload_n 1, 1) := by decide +kernel
theorem dX8_four_139 : decode cX8_four 139 = .ok (.invokestatic 88, 3) := by decide +kernel
theorem dX8_four_142 : decode cX8_four 142 = .ok (.aload_n 0, 1) := by decide +kernel
theorem dX8_four_143 : decode cX8_four 143 = .ok (.getfield 42, 3) := by decide +kernel
theorem dX8_four_146 : decode cX8_four 146 = .ok (.iconst 3, 1) := by decide +kernel
theorem dX8_four_147 : decode cX8_four 147 = .ok (.laload, 1) := by decide +kernel
theorem dX8_four_148 : decode cX8_four 148 = .ok (.invokestatic 88, 3) := by decide +kernel
theorem dX8_four_151 : decode cX8_four 151 = .ok (.imul, 1) := by decide +kernel
theorem dX8_four_152 : decode cX8_four 152 = .ok (.invokevirtual 104, 3) := by decide +kernel
theorem dX8_four_155 : decode cX8_four 155 = .ok (.aload_n 0, 1) := by decide +kernel
theorem dX8_four_156 : decode cX8_four 156 = .ok (.lload_n 1, 1) := by decide +kernel
theorem dX8_four_157 : decode cX8_four 157 = .ok (.lconst 0, 1) := by decide +kernel
theorem dX8_four_158 : decode cX8_four 158 = .ok (.lcmp, 1) := by decide +kernel
theorem dX8_four_159 : decode cX8_four 159 = .ok (.ifCond .ne 26, 3) := by decide +kernel
theorem dX8_four_162 : decode cX8_four 162 = .ok (.aload_n 0, 1) := by decide +kernel
theorem dX8_four_163 : decode cX8_four 163 = .ok (.getfield 42, 3) := by decide +kernel
theorem dX8_four_166 : decode cX8_four 166 = .ok (.iconst 3, 1) := by decide +kernel
theorem dX8_four_167 : decode cX8_four 167 = .ok (.laload, 1) := by decide +kernel
theorem dX8_four_168 : decode cX8_four 168 = .ok (.invokestatic 88, 3) := by decide +kernel
theorem dX8_four_171 : decode cX8_four 171 = .ok (.ineg, 1) := by decide +kernel
theorem dX8_four_172 : decode cX8_four 172 = .ok (.aload_n 0, 1) := by decide +kernel
theorem dX8_four_173 : decode cX8_four 173 = .ok (.getfield 42, 3) := by decide +kernel
theorem dX8_four_176 : decode cX8_four 176 = .ok (.iconst 0, 1) := by decide +kernel
theorem dX8_four_177 : decode cX8_four 177 = .ok (.laload, 1) := by decide +kernel
theorem dX8_four_178 : decode cX8_four 178 = .ok (.invokestatic 88, 3) := by decide +kernel
theorem dX8_four_181 : decode cX8_four 181 = .ok (.imul, 1) := by decide +kernel
theorem dX8_four_182 : decode cX8_four 182 = .ok (.goto 12, 3) := by decide +kernel
theorem dX8_four_185 : decode cX8_four 185 = .ok (.lload_n 3, 1) := by decide +kernel
theorem dX8_four_186 : decode cX8_four 186 = .ok (.invokestatic 88, 3) := by decide +kernel
theorem dX8_four_189 : decode cX8_four 189 = .ok (.lload_n 1, 1) := by decide +kernel
theorem dX8_four_190 : decode cX8_four 190 = .ok (.invokestatic 88, 3) := by decide +kernel
theorem dX8_four_193 : decode cX8_four 193 = .ok (.imul, 1) := by decide +kernel
theorem dX8_four_194 : decode cX8_four 194 = .ok (.invokevirtual 104, 3) := by decide +kernel
theorem dX8_four_197 : decode cX8_four 197 = .ok (.aload_n 0, 1) := by decide +kernel
theorem dX8_four_198 : decode cX8_four 198 = .ok (.aload_n 0, 1) := by decide +kernel
theorem dX8_four_199 : decode cX8_four 199 = .ok (.getfield 42, 3) := by decide +kernel
theorem dX8_four_202 : decode cX8_four 202 = .ok (.iconst 0, 1) := by decide +kernel
theorem dX8_four_203 : decode cX8_four 203 = .ok (.laload, 1) := by decide +kernel
theorem dX8_four_204 : decode cX8_four 204 = .ok (.invokestatic 88, 3) := by decide +kernel
theorem dX8_four_207 : decode cX8_four 207 = .ok (.invokevirtual 104, 3) := by decide +kernel
theorem dX8_four_210 : decode cX8_four 210 = .ok (.return_, 1) := by decide +kernel
theorem dX8_apart_0 : decode cX8_apart 0 = .ok (.iload_n 1, 1) := by decide +kernel
theorem dX8_apart_1 : decode cX8_apart 1 = .ok (.iconst 3, 1) := by decide +kernel
theorem dX8_apart_2 : decode cX8_apart 2 = .ok (.if_icmp .ge 26, 3) := by decide +kernel
theorem dX8_apart_5 : decode cX8_apart 5 = .ok (.aload_n 0, 1) := by decide +kernel
theorem dX8_apart_6 : decode cX8_apart 6 = .ok (.aload_n 0, 1) := by decide +kernel
theorem dX8_apart_7 : decode cX8_apart 7 = .ok (.getfield 42, 3) := by decide +kernel
theorem dX8_apart_10 : decode cX8_apart 10 = .ok (.iconst 2, 1) := by decide +kernel
theorem dX8_apart_11 : decode cX8_apart 11 = .ok (.laload, 1) := by decide +kernel
theorem dX8_apart_12 : decode cX8_apart 12 = .ok (.aload_n 0, 1) := by decide +kernel

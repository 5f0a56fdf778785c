theorem dX8_off_115 : decode cX8_off 115 = .ok (.iconst 0, 1) := by decide +kernel
theorem dX8_off_116 : decode cX8_off 116 = .ok (.iadd, 1) := by decide +kernel
theorem dX8_off_117 : decode cX8_off 117 = .ok (.istore_n 3, 1) := by decide +kernel
theorem dX8_off_118 : decode cX8_off 118 = .ok (.iinc 4 1, 3) := by decide +kernel
theorem dX8_off_121 : decode cX8_off 121 = .ok (.goto (-92), 3) := by decide +kernel
theorem dX8_off_124 : decode cX8_off 124 = .ok (.iload_n 3, 1) := by decide +kernel
theorem dX8_off_125 : decode cX8_off 125 = .ok (.i2l, 1) := by decide +kernel
theorem dX8_off_126 : decode cX8_off 126 = .ok (.ldc2_w 216, 3) := by decide +kernel
theorem dX8_off_129 : decode cX8_off 129 = .ok (.invokestatic 176, 3) := by decide +kernel
theorem dX8_off_132 : decode cX8_off 132 = .ok (.l2i, 1) := by decide +kernel
theorem dX8_off_133 : decode cX8_off 133 = .ok (.istore 4, 2) := by decide +kernel
theorem dX8_off_135 : decode cX8_off 135 = .ok (.iload_n 2, 1) := by decide +kernel
theorem dX8_off_136 : decode cX8_off 136 = .ok (.ifCond .ne 10, 3) := by decide +kernel
theorem dX8_off_139 : decode cX8_off 139 = .ok (.iload_n 3, 1) := by decide +kernel
theorem dX8_off_140 : decode cX8_off 140 = .ok (.iload 4, 2) := by decide +kernel
theorem dX8_off_142 : decode cX8_off 142 = .ok (.idiv, 1) := by decide +kernel
theorem dX8_off_143 : decode cX8_off 143 = .ok (.goto 8, 3) := by decide +kernel
theorem dX8_off_146 : decode cX8_off 146 = .ok (.ldc 218, 2) := by decide +kernel
theorem dX8_off_148 : decode cX8_off 148 = .ok (.iload 4, 2) := by decide +kernel
theorem dX8_off_150 : decode cX8_off 150 = .ok (.idiv, 1) := by decide +kernel
theorem dX8_off_151 : decode cX8_off 151 = .ok (.ireturn, 1) := by decide +kernel
theorem dX8_type_0 : decode cX8_type 0 = .ok (.iload_n 1, 1) := by decide +kernel
theorem dX8_type_1 : decode cX8_type 1 = .ok (.i2l, 1) := by decide +kernel
theorem dX8_type_2 : decode cX8_type 2 = .ok (.ldc2_w 219, 3) := by decide +kernel
theorem dX8_type_5 : decode cX8_type 5 = .ok (.ldc2_w 221, 3) := by decide +kernel
theorem dX8_type_8 : decode cX8_type 8 = .ok (.invokestatic 141, 3) := by decide +kernel
theorem dX8_type_11 : decode cX8_type 11 = .ok (.ifCond .ne 5, 3) := by decide +kernel
theorem dX8_type_14 : decode cX8_type 14 = .ok (.iconst (-1), 1) := by decide +kernel
theorem dX8_type_15 : decode cX8_type 15 = .ok (.ireturn, 1) := by decide +kernel
theorem dX8_type_16 : decode cX8_type 16 = .ok (.aload_n 0, 1) := by decide +kernel
theorem dX8_type_17 : decode cX8_type 17 = .ok (.getfield 223, 3) := by decide +kernel
theorem dX8_type_20 : decode cX8_type 20 = .ok (.bipush 60, 2) := by decide +kernel
theorem dX8_type_22 : decode cX8_type 22 = .ok (.if_icmp .ne 6, 3) := by decide +kernel
theorem dX8_type_25 : decode cX8_type 25 = .ok (.bipush (-3), 2) := by decide +kernel
theorem dX8_type_27 : decode cX8_type 27 = .ok (.ireturn, 1) := by decide +kernel
theorem dX8_type_28 : decode cX8_type 28 = .ok (.aload_n 0, 1) := by decide +kernel
theorem dX8_type_29 : decode cX8_type 29 = .ok (.getfield 26, 3) := by decide +kernel
theorem dX8_type_32 : decode cX8_type 32 = .ok (.aload_n 0, 1) := by decide +kernel
theorem dX8_type_33 : decode cX8_type 33 = .ok (.getfield 223, 3) := by decide +kernel
theorem dX8_type_36 : decode cX8_type 36 = .ok (.iload_n 1, 1) := by decide +kernel
theorem dX8_type_37 : decode cX8_type 37 = .ok (.iastore, 1) := by decide +kernel
theorem dX8_type_38 : decode cX8_type 38 = .ok (.aload_n 0, 1) := by decide +kernel
theorem dX8_type_39 : decode cX8_type 39 = .ok (.dup, 1) := by decide +kernel
theorem dX8_type_40 : decode cX8_type 40 = .ok (.getfield 223, 3) := by decide +kernel
theorem dX8_type_43 : decode cX8_type 43 = .ok (.iconst 1, 1) := by decide +kernel
theorem dX8_type_44 : decode cX8_type 44 = .ok (.iadd, 1) := by decide +kernel
theorem dX8_type_45 : decode cX8_type 45 = .ok (.putfield 223, 3) := by decide +kernel
theorem dX8_type_48 : decode cX8_type 48 = .ok (.aload_n 0, 1) := by decide +kernel
theorem dX8_type_49 : decode cX8_type 49 = .ok (.getfield 223, 3) := by decide +kernel
theorem dX8_type_52 : decode cX8_type 52 = .ok (.ireturn, 1) := by decide +kernel
theorem dX8_looks_0 : decode cX8_looks 0 = .ok (.aload_n 0, 1) := by decide +kernel
theorem dX8_looks_1 : decode cX8_looks 1 = .ok (.getfield 226, 3) := by decide +kernel
theorem dX8_looks_4 : decode cX8_looks 4 = .ok (.aload_n 0, 1) := by decide +kernel
theorem dX8_looks_5 : decode cX8_looks 5 = .ok (.getfield 223, 3) := by decide +kernel
theorem dX8_looks_8 : decode cX8_looks 8 = .ok (.if_icmp .ge 30, 3) := by decide +kernel
theorem dX8_looks_11 : decode cX8_looks 11 = .ok (.aload_n 0, 1) := by decide +kernel
theorem dX8_looks_12 : decode cX8_looks 12 = .ok (.getfield 26, 3) := by decide +kernel
theorem dX8_looks_15 : decode cX8_looks 15 = .ok (.aload_n 0, 1) := by decide +kernel
theorem dX8_looks_16 : decode cX8_looks 16 = .ok (.getfield 226, 3) := by decide +kernel
theorem dX8_looks_19 : decode cX8_looks 19 = .ok (.iaload, 1) := by decide +kernel
theorem dX8_looks_20 : decode cX8_looks 20 = .ok (.bipush 32, 2) := by decide +kernel
theorem dX8_looks_22 : decode cX8_looks 22 = .ok (.if_icmp .ne 16, 3) := by decide +kernel
theorem dX8_looks_25 : decode cX8_looks 25 = .ok (.aload_n 0, 1) := by decide +kernel
theorem dX8_looks_26 : decode cX8_looks 26 = .ok (.dup, 1) := by decide +kernel
theorem dX8_looks_27 : decode cX8_looks 27 = .ok (.getfield 226, 3) := by decide +kernel
theorem dX8_looks_30 : decode cX8_looks 30 = .ok (.iconst 1, 1) := by decide +kernel
theorem dX8_looks_31 : decode cX8_looks 31 = .ok (.iadd, 1) := by decide +kernel
theorem dX8_looks_32 : decode cX8_looks 32 = .ok (.putfield 226, 3) := by decide +kernel
theorem dX8_looks_35 : decode cX8_looks 35 = .ok (.goto (-35), 3) := by decide +kernel
theorem dX8_looks_38 : decode cX8_looks 38 = .ok (.aload_n 0, 1) := by decide +kernel
theorem dX8_looks_39 : decode cX8_looks 39 = .ok (.getfield 226, 3) := by decide +kernel
theorem dX8_looks_42 : decode cX8_looks 42 = .ok (.aload_n 0, 1) := by decide +kernel
theorem dX8_looks_43 : decode cX8_looks 43 = .ok (.getfield 223, 3) := by decide +kernel
theorem dX8_looks_46 : decode cX8_looks 46 = .ok (.if_icmp .ge 15, 3) := by decide +kernel
theorem dX8_looks_49 : decode cX8_looks 49 = .ok (.aload_n 0, 1) := by decide +kernel
theorem dX8_looks_50 : decode cX8_looks 50 = .ok (.getfield 26, 3) := by decide +kernel
theorem dX8_looks_53 : decode cX8_looks 53 = .ok (.aload_n 0, 1) := by decide +kernel
theorem dX8_looks_54 : decode cX8_looks 54 = .ok (.getfield 226, 3) := by decide +kernel
theorem dX8_looks_57 : decode cX8_looks 57 = .ok (.iaload, 1) := by decide +kernel
theorem dX8_looks_58 : decode cX8_looks 58 = .ok (.goto 4, 3) := by decide +kernel
theorem dX8_looks_61 : decode cX8_looks 61 = .ok (.iconst 0, 1) := by decide +kernel
theorem dX8_looks_62 : decode cX8_looks 62 = .ok (.ireturn, 1) := by decide +kernel
theorem dX8_goesBy_0 : decode cX8_goesBy 0 = .ok (.aload_n 0, 1) := by decide +kernel
theorem dX8_goesBy_1 : decode cX8_goesBy 1 = .ok (.dup, 1) := by decide +kernel
theorem dX8_goesBy_2 : decode cX8_goesBy 2 = .ok (.getfield 226, 3) := by decide +kernel
theorem dX8_goesBy_5 : decode cX8_goesBy 5 = .ok (.iload_n 1, 1) := by decide +kernel
theorem dX8_goesBy_6 : decode cX8_goesBy 6 = .ok (.ifCond .eq 7, 3) := by decide +kernel
theorem dX8_goesBy_9 : decode cX8_goesBy 9 = .ok (.iconst 1, 1) := by decide +kernel
theorem dX8_goesBy_10 : decode cX8_goesBy 10 = .ok (.goto 4, 3) := by decide +kernel
theorem dX8_goesBy_13 : decode cX8_goesBy 13 = .ok (.iconst 0, 1) := by decide +kernel
theorem dX8_goesBy_14 : decode cX8_goesBy 14 = .ok (.iadd, 1) := by decide +kernel
theorem dX8_goesBy_15 : decode cX8_goesBy 15 = .ok (.putfield 226, 3) := by decide +kernel
theorem dX8_goesBy_18 : decode cX8_goesBy 18 = .ok (.iload_n 1, 1) := by decide +kernel
theorem dX8_goesBy_19 : decode cX8_goesBy 19 = .ok (.ireturn, 1) := by decide +kernel
theorem dX8_term_0 : decode cX8_term 0 = .ok (.aload_n 0, 1) := by decide +kernel
theorem dX8_term_1 : decode cX8_term 1 = .ok (.invokevirtual 229, 3) := by decide +kernel
theorem dX8_term_4 : decode cX8_term 4 = .ok (.istore 4, 2) := by decide +kernel
theorem dX8_term_6 : decode cX8_term 6 = .ok (.aload_n 0, 1) := by decide +kernel
theorem dX8_term_7 : decode cX8_term 7 = .ok (.getfield 226, 3) := by decide +kernel
theorem dX8_term_10 : decode cX8_term 10 = .ok (.istore 5, 2) := by decide +kernel
theorem dX8_term_12 : decode cX8_term 12 = .ok (.iload 4, 2) := by decide +kernel
theorem dX8_term_14 : decode cX8_term 14 = .ok (.i2l, 1) := by decide +kernel
theorem dX8_term_15 : decode cX8_term 15 = .ok (.ldc2_w 233, 3) := by decide +kernel
theorem dX8_term_18 : decode cX8_term 18 = .ok (.ldc2_w 235, 3) := by decide +kernel
theorem dX8_term_21 : decode cX8_term 21 = .ok (.invokestatic 141, 3) := by decide +kernel
theorem dX8_term_24 : decode cX8_term 24 = .ok (.ifCond .eq 11, 3) := by decide +kernel
theorem dX8_term_27 : decode cX8_term 27 = .ok (.iload 4, 2) := by decide +kernel
theorem dX8_term_29 : decode cX8_term 29 = .ok (.bipush 48, 2) := by decide +kernel
theorem dX8_term_31 : decode cX8_term 31 = .ok (.isub, 1) := by decide +kernel
theorem dX8_term_32 : decode cX8_term 32 = .ok (.goto 4, 3) := by decide +kernel
theorem dX8_term_35 : decode cX8_term 35 = .ok (.iconst 1, 1) := by decide +kernel
theorem dX8_term_36 : decode cX8_term 36 = .ok (.istore 6, 2) := by decide +kernel
theorem dX8_term_38 : decode cX8_term 38 = .ok (.aload_n 0, 1) := by decide +kernel
theorem dX8_term_39 : decode cX8_term 39 = .ok (.iload 4, 2) := by decide +kernel
theorem dX8_term_41 : decode cX8_term 41 = .ok (.i2l, 1) := by decide +kernel
theorem dX8_term_42 : decode cX8_term 42 = .ok (.ldc2_w 233, 3) := by decide +kernel
theorem dX8_term_45 : decode cX8_term 45 = .ok (.ldc2_w 235, 3) := by decide +kernel
theorem dX8_term_48 : decode cX8_term 48 = .ok (.invokestatic 141, 3) := by decide +kernel
theorem dX8_term_51 : decode cX8_term 51 = .ok (.invokevirtual 237, 3) := by decide +kernel
theorem dX8_term_54 : decode cX8_term 54 = .ok (.istore 7, 2) := by decide +kernel
theorem dX8_term_56 : decode cX8_term 56 = .ok (.aload_n 0, 1) := by decide +kernel
theorem dX8_term_57 : decode cX8_term 57 = .ok (.aload_n 0, 1) := by decide +kernel
theorem dX8_term_58 : decode cX8_term 58 = .ok (.invokevirtual 229, 3) := by decide +kernel
theorem dX8_term_61 : decode cX8_term 61 = .ok (.bipush 115, 2) := by decide +kernel
theorem dX8_term_63 : decode cX8_term 63 = .ok (.if_icmp .ne 7, 3) := by decide +kernel
theorem dX8_term_66 : decode cX8_term 66 = .ok (.iconst 1, 1) := by decide +kernel
theorem dX8_term_67 : decode cX8_term 67 = .ok (.goto 4, 3) := by decide +kernel
theorem dX8_term_70 : decode cX8_term 70 = .ok (.iconst 0, 1) := by decide +kernel
theorem dX8_term_71 : decode cX8_term 71 = .ok (.invokevirtual 237, 3) := by decide +kernel
theorem dX8_term_74 : decode cX8_term 74 = .ok (.istore 8, 2) := by decide +kernel
theorem dX8_term_76 : decode cX8_term 76 = .ok (.iload 7, 2) := by decide +kernel
theorem dX8_term_78 : decode cX8_term 78 = .ok (.ifCond .ne 15, 3) := by decide +kernel
theorem dX8_term_81 : decode cX8_term 81 = .ok (.iload 8, 2) := by decide +kernel
theorem dX8_term_83 : decode cX8_term 83 = .ok (.ifCond .ne 10, 3) := by decide +kernel
theorem dX8_term_86 : decode cX8_term 86 = .ok (.aload_n 0, 1) := by decide +kernel
theorem dX8_term_87 : decode cX8_term 87 = .ok (.iconst 1, 1) := by decide +kernel
theorem dX8_term_88 : decode cX8_term 88 = .ok (.putfield 241, 3) := by decide +kernel
theorem dX8_term_91 : decode cX8_term 91 = .ok (.iconst 0, 1) := by decide +kernel
theorem dX8_term_92 : decode cX8_term 92 = .ok (.ireturn, 1) := by decide +kernel
theorem dX8_term_93 : decode cX8_term 93 = .ok (.iload 8, 2) := by decide +kernel
theorem dX8_term_95 : decode cX8_term 95 = .ok (.ifCond .eq 7, 3) := by decide +kernel
theorem dX8_term_98 : decode cX8_term 98 = .ok (.iconst 1, 1) := by decide +kernel
theorem dX8_term_99 : decode cX8_term 99 = .ok (.goto 4, 3) := by decide +kernel
theorem dX8_term_102 : decode cX8_term 102 = .ok (.iconst 0, 1) := by decide +kernel
theorem dX8_term_103 : decode cX8_term 103 = .ok (.istore 9, 2) := by decide +kernel
theorem dX8_term_105 : decode cX8_term 105 = .ok (.iload 8, 2) := by decide +kernel
theorem dX8_term_107 : decode cX8_term 107 = .ok (.ifCond .eq 39, 3) := by decide +kernel
theorem dX8_term_110 : decode cX8_term 110 = .ok (.aload_n 0, 1) := by decide +kernel
theorem dX8_term_111 : decode cX8_term 111 = .ok (.invokevirtual 229, 3) := by decide +kernel
theorem dX8_term_114 : decode cX8_term 114 = .ok (.i2l, 1) := by decide +kernel
theorem dX8_term_115 : decode cX8_term 115 = .ok (.ldc2_w 245, 3) := by decide +kernel
theorem dX8_term_118 : decode cX8_term 118 = .ok (.ldc2_w 247, 3) := by decide +kernel
theorem dX8_term_121 : decode cX8_term 121 = .ok (.invokestatic 141, 3) := by decide +kernel
theorem dX8_term_124 : decode cX8_term 124 = .ok (.ifCond .eq 22, 3) := by decide +kernel
theorem dX8_term_127 : decode cX8_term 127 = .ok (.aload_n 0, 1) := by decide +kernel
theorem dX8_term_128 : decode cX8_term 128 = .ok (.invokevirtual 229, 3) := by decide +kernel
theorem dX8_term_131 : decode cX8_term 131 = .ok (.bipush 48, 2) := by decide +kernel
theorem dX8_term_133 : decode cX8_term 133 = .ok (.isub, 1) := by decide +kernel
theorem dX8_term_134 : decode cX8_term 134 = .ok (.istore 9, 2) := by decide +kernel
theorem dX8_term_136 : decode cX8_term 136 = .ok (.aload_n 0, 1) := by decide +kernel
theorem dX8_term_137 : decode cX8_term 137 = .ok (.dup, 1) := by decide +kernel
theorem dX8_term_138 : decode cX8_term 138 = .ok (.getfield 226, 3) := by decide +kernel
theorem dX8_term_141 : decode cX8_term 141 = .ok (.iconst 1, 1) := by decide +kernel
theorem dX8_term_142 : decode cX8_term 142 = .ok (.iadd, 1) := by decide +kernel
theorem dX8_term_143 : decode cX8_term 143 = .ok (.putfield 226, 3) := by decide +kernel
theorem dX8_term_146 : decode cX8_term 146 = .ok (.iload 9, 2) := by decide +kernel
theorem dX8_term_148 : decode cX8_term 148 = .ok (.iload_n 3, 1) := by decide +kernel
theorem dX8_term_149 : decode cX8_term 149 = .ok (.if_icmp .lt 16, 3) := by decide +kernel
theorem dX8_term_152 : decode cX8_term 152 = .ok (.aload_n 0, 1) := by decide +kernel
theorem dX8_term_153 : decode cX8_term 153 = .ok (.iload 5, 2) := by decide +kernel
theorem dX8_term_155 : decode cX8_term 155 = .ok (.putfield 226, 3) := by decide +kernel
theorem dX8_term_158 : decode cX8_term 158 = .ok (.aload_n 0, 1) := by decide +kernel
theorem dX8_term_159 : decode cX8_term 159 = .ok (.iconst 1, 1) := by decide +kernel
theorem dX8_term_160 : decode cX8_term 160 = .ok (.putfield 241, 3) := by decide +kernel
theorem dX8_term_163 : decode cX8_term 163 = .ok (.iconst 0, 1) := by decide +kernel
theorem dX8_term_164 : decode cX8_term 164 = .ok (.ireturn, 1) := by decide +kernel
theorem dX8_term_165 : decode cX8_term 165 = .ok (.aload_n 0, 1) := by decide +kernel
theorem dX8_term_166 : decode cX8_term 166 = .ok (.getfield 63, 3) := by decide +kernel
theorem dX8_term_169 : decode cX8_term 169 = .ok (.iconst 5, 1) := by decide +kernel
theorem dX8_term_170 : decode cX8_term 170 = .ok (.iload_n 1, 1) := by decide +kernel
theorem dX8_term_171 : decode cX8_term 171 = .ok (.imul, 1) := by decide +kernel
theorem dX8_term_172 : decode cX8_term 172 = .ok (.iload 9, 2) := by decide +kernel
theorem dX8_term_174 : decode cX8_term 174 = .ok (.iadd, 1) := by decide +kernel
theorem dX8_term_175 : decode cX8_term 175 = .ok (.iload_n 2, 1) := by decide +kernel
theorem dX8_term_176 : decode cX8_term 176 = .ok (.iload 6, 2) := by decide +kernel
theorem dX8_term_178 : decode cX8_term 178 = .ok (.imul, 1) := by decide +kernel
theorem dX8_term_179 : decode cX8_term 179 = .ok (.iastore, 1) := by decide +kernel
theorem dX8_term_180 : decode cX8_term 180 = .ok (.iload 9, 2) := by decide +kernel
theorem dX8_term_182 : decode cX8_term 182 = .ok (.ireturn, 1) := by decide +kernel
theorem dX8_terms_0 : decode cX8_terms 0 = .ok (.iconst 0, 1) := by decide +kernel
theorem dX8_terms_1 : decode cX8_terms 1 = .ok (.istore_n 2, 1) := by decide +kernel
theorem dX8_terms_2 : decode cX8_terms 2 = .ok (.iload_n 2, 1) := by decide +kernel
theorem dX8_terms_3 : decode cX8_terms 3 = .ok (.iconst 5, 1) := by decide +kernel
theorem dX8_terms_4 : decode cX8_terms 4 = .ok (.if_icmp .ge 20, 3) := by decide +kernel
theorem dX8_terms_7 : decode cX8_terms 7 = .ok (.aload_n 0, 1) := by decide +kernel
theorem dX8_terms_8 : decode cX8_terms 8 = .ok (.getfield 63, 3) := by decide +kernel
theorem dX8_terms_11 : decode cX8_terms 11 = .ok (.iconst 5, 1) := by decide +kernel
theorem dX8_terms_12 : decode cX8_terms 12 = .ok (.iload_n 1, 1) := by decide +kernel
theorem dX8_terms_13 : decode cX8_terms 13 = .ok (.imul, 1) := by decide +kernel
theorem dX8_terms_14 : decode cX8_terms 14 = .ok (.iload_n 2, 1) := by decide +kernel
theorem dX8_terms_15 : decode cX8_terms 15 = .ok (.iadd, 1) := by decide +kernel
theorem dX8_terms_16 : decode cX8_terms 16 = .ok (.iconst 0, 1) := by decide +kernel
theorem dX8_terms_17 : decode cX8_terms 17 = .ok (.iastore, 1) := by decide +kernel
theorem dX8_terms_18 : decode cX8_terms 18 = .ok (.iinc 2 1, 3) := by decide +kernel
theorem dX8_terms_21 : decode cX8_terms 21 = .ok (.goto (-19), 3) := by decide +kernel
theorem dX8_terms_24 : decode cX8_terms 24 = .ok (.aload_n 0, 1) := by decide +kernel
theorem dX8_terms_25 : decode cX8_terms 25 = .ok (.iload_n 1, 1) := by decide +kernel
theorem dX8_terms_26 : decode cX8_terms 26 = .ok (.aload_n 0, 1) := by decide +kernel
theorem dX8_terms_27 : decode cX8_terms 27 = .ok (.aload_n 0, 1) := by decide +kernel
theorem dX8_terms_28 : decode cX8_terms 28 = .ok (.invokevirtual 229, 3) := by decide +kernel
theorem dX8_terms_31 : decode cX8_terms 31 = .ok (.bipush 45, 2) := by decide +kernel
theorem dX8_terms_33 : decode cX8_terms 33 = .ok (.if_icmp .ne 7, 3) := by decide +kernel
theorem dX8_terms_36 : decode cX8_terms 36 = .ok (.iconst 1, 1) := by decide +kernel
theorem dX8_terms_37 : decode cX8_terms 37 = .ok (.goto 4, 3) := by decide +kernel
theorem dX8_terms_40 : decode cX8_terms 40 = .ok (.iconst 0, 1) := by decide +kernel
theorem dX8_terms_41 : decode cX8_terms 41 = .ok (.invokevirtual 237, 3) := by decide +kernel
theorem dX8_terms_44 : decode cX8_terms 44 = .ok (.ifCond .eq 7, 3) := by decide +kernel
theorem dX8_terms_47 : decode cX8_terms 47 = .ok (.iconst (-1), 1) := by decide +kernel
theorem dX8_terms_48 : decode cX8_terms 48 = .ok (.goto 4, 3) := by decide +kernel
theorem dX8_terms_51 : decode cX8_terms 51 = .ok (.iconst 1, 1) := by decide +kernel
theorem dX8_terms_52 : decode cX8_terms 52 = .ok (.iconst 5, 1) := by decide +kernel
theorem dX8_terms_53 : decode cX8_terms 53 = .ok (.invokevirtual 249, 3) := by decide +kernel
theorem dX8_terms_56 : decode cX8_terms 56 = .ok (.istore_n 2, 1) := by decide +kernel
theorem dX8_terms_57 : decode cX8_terms 57 = .ok (.aload_n 0, 1) := by decide +kernel
theorem dX8_terms_58 : decode cX8_terms 58 = .ok (.getfield 241, 3) := by decide +kernel
theorem dX8_terms_61 : decode cX8_terms 61 = .ok (.ifCond .ne 57, 3) := by decide +kernel
theorem dX8_terms_64 : decode cX8_terms 64 = .ok (.aload_n 0, 1) := by decide +kernel
theorem dX8_terms_65 : decode cX8_terms 65 = .ok (.invokevirtual 229, 3) := by decide +kernel
theorem dX8_terms_68 : decode cX8_terms 68 = .ok (.bipush 43, 2) := by decide +kernel
theorem dX8_terms_70 : decode cX8_terms 70 = .ok (.if_icmp .eq 12, 3) := by decide +kernel
theorem dX8_terms_73 : decode cX8_terms 73 = .ok (.aload_n 0, 1) := by decide +kernel
theorem dX8_terms_74 : decode cX8_terms 74 = .ok (.invokevirtual 229, 3) := by decide +kernel
theorem dX8_terms_77 : decode cX8_terms 77 = .ok (.bipush 45, 2) := by decide +kernel
theorem dX8_terms_79 : decode cX8_terms 79 = .ok (.if_icmp .ne 39, 3) := by decide +kernel
theorem dX8_terms_82 : decode cX8_terms 82 = .ok (.aload_n 0, 1) := by decide +kernel
theorem dX8_terms_83 : decode cX8_terms 83 = .ok (.invokevirtual 229, 3) := by decide +kernel
theorem dX8_terms_86 : decode cX8_terms 86 = .ok (.bipush 43, 2) := by decide +kernel
theorem dX8_terms_88 : decode cX8_terms 88 = .ok (.if_icmp .ne 7, 3) := by decide +kernel
theorem dX8_terms_91 : decode cX8_terms 91 = .ok (.iconst 1, 1) := by decide +kernel
theorem dX8_terms_92 : decode cX8_terms 92 = .ok (.goto 4, 3) := by decide +kernel
theorem dX8_terms_95 : decode cX8_terms 95 = .ok (.iconst (-1), 1) := by decide +kernel
theorem dX8_terms_96 : decode cX8_terms 96 = .ok (.istore_n 3, 1) := by decide +kernel
theorem dX8_terms_97 : decode cX8_terms 97 = .ok (.aload_n 0, 1) := by decide +kernel
theorem dX8_terms_98 : decode cX8_terms 98 = .ok (.dup, 1) := by decide +kernel
theorem dX8_terms_99 : decode cX8_terms 99 = .ok (.getfield 226, 3) := by decide +kernel
theorem dX8_terms_102 : decode cX8_terms 102 = .ok (.iconst 1, 1) := by decide +kernel
theorem dX8_terms_103 : decode cX8_terms 103 = .ok (.iadd, 1) := by decide +kernel
theorem dX8_terms_104 : decode cX8_terms 104 = .ok (.putfield 226, 3) := by decide +kernel
theorem dX8_terms_107 : decode cX8_terms 107 = .ok (.aload_n 0, 1) := by decide +kernel
theorem dX8_terms_108 : decode cX8_terms 108 = .ok (.iload_n 1, 1) := by decide +kernel
theorem dX8_terms_109 : decode cX8_terms 109 = .ok (.iload_n 3, 1) := by decide +kernel
theorem dX8_terms_110 : decode cX8_terms 110 = .ok (.iload_n 2, 1) := by decide +kernel
theorem dX8_terms_111 : decode cX8_terms 111 = .ok (.invokevirtual 249, 3) := by decide +kernel
theorem dX8_terms_114 : decode cX8_terms 114 = .ok (.istore_n 2, 1) := by decide +kernel
theorem dX8_terms_115 : decode cX8_terms 115 = .ok (.goto (-58), 3) := by decide +kernel
theorem dX8_terms_118 : decode cX8_terms 118 = .ok (.return_, 1) := by decide +kernel
theorem dX8_read_0 : decode cX8_read 0 = .ok (.aload_n 0, 1) := by decide +kernel
theorem dX8_read_1 : decode cX8_read 1 = .ok (.iconst 0, 1) := by decide +kernel
theorem dX8_read_2 : decode cX8_read 2 = .ok (.putfield 226, 3) := by decide +kernel
theorem dX8_read_5 : decode cX8_read 5 = .ok (.aload_n 0, 1) := by decide +kernel
theorem dX8_read_6 : decode cX8_read 6 = .ok (.iconst 0, 1) := by decide +kernel
theorem dX8_read_7 : decode cX8_read 7 = .ok (.putfield 241, 3) := by decide +kernel
theorem dX8_read_10 : decode cX8_read 10 = .ok (.aload_n 0, 1) := by decide +kernel
theorem dX8_read_11 : decode cX8_read 11 = .ok (.getfield 7, 3) := by decide +kernel
theorem dX8_read_14 : decode cX8_read 14 = .ok (.iconst 0, 1) := by decide +kernel
theorem dX8_read_15 : decode cX8_read 15 = .ok (.aload_n 0, 1) := by decide +kernel
theorem dX8_read_16 : decode cX8_read 16 = .ok (.getfield 63, 3) := by decide +kernel
theorem dX8_read_19 : decode cX8_read 19 = .ok (.iconst 0, 1) := by decide +kernel
theorem dX8_read_20 : decode cX8_read 20 = .ok (.bipush 10, 2) := by decide +kernel
theorem dX8_read_22 : decode cX8_read 22 = .ok (.invokestatic 69, 3) := by decide +kernel
theorem dX8_read_25 : decode cX8_read 25 = .ok (.aload_n 0, 1) := by decide +kernel
theorem dX8_read_26 : decode cX8_read 26 = .ok (.iconst 0, 1) := by decide +kernel
theorem dX8_read_27 : decode cX8_read 27 = .ok (.invokevirtual 252, 3) := by decide +kernel
theorem dX8_read_30 : decode cX8_read 30 = .ok (.aload_n 0, 1) := by decide +kernel
theorem dX8_read_31 : decode cX8_read 31 = .ok (.getfield 241, 3) := by decide +kernel
theorem dX8_read_34 : decode cX8_read 34 = .ok (.ifCond .ne 29, 3) := by decide +kernel
theorem dX8_read_37 : decode cX8_read 37 = .ok (.aload_n 0, 1) := by decide +kernel
theorem dX8_read_38 : decode cX8_read 38 = .ok (.aload_n 0, 1) := by decide +kernel
theorem dX8_read_39 : decode cX8_read 39 = .ok (.invokevirtual 229, 3) := by decide +kernel
theorem dX8_read_42 : decode cX8_read 42 = .ok (.bipush 59, 2) := by decide +kernel
theorem dX8_read_44 : decode cX8_read 44 = .ok (.if_icmp .ne 7, 3) := by decide +kernel
theorem dX8_read_47 : decode cX8_read 47 = .ok (.iconst 1, 1) := by decide +kernel
theorem dX8_read_48 : decode cX8_read 48 = .ok (.goto 4, 3) := by decide +kernel
theorem dX8_read_51 : decode cX8_read 51 = .ok (.iconst 0, 1) := by decide +kernel
theorem dX8_read_52 : decode cX8_read 52 = .ok (.invokevirtual 237, 3) := by decide +kernel
theorem dX8_read_55 : decode cX8_read 55 = .ok (.ifCond .eq 8, 3) := by decide +kernel
theorem dX8_read_58 : decode cX8_read 58 = .ok (.aload_n 0, 1) := by decide +kernel
theorem dX8_read_59 : decode cX8_read 59 = .ok (.iconst 1, 1) := by decide +kernel
theorem dX8_read_60 : decode cX8_read 60 = .ok (.invokevirtual 252, 3) := by decide +kernel
theorem dX8_read_63 : decode cX8_read 63 = .ok (.aload_n 0, 1) := by decide +kernel
theorem dX8_read_64 : decode cX8_read 64 = .ok (.aload_n 0, 1) := by decide +kernel
theorem dX8_read_65 : decode cX8_read 65 = .ok (.getfield 241, 3) := by decide +kernel
theorem dX8_read_68 : decode cX8_read 68 = .ok (.ifCond .ne 10, 3) := by decide +kernel
theorem dX8_read_71 : decode cX8_read 71 = .ok (.aload_n 0, 1) := by decide +kernel
theorem dX8_read_72 : decode cX8_read 72 = .ok (.invokevirtual 229, 3) := by decide +kernel
theorem dX8_read_75 : decode cX8_read 75 = .ok (.ifCond .eq 7, 3) := by decide +kernel
theorem dX8_read_78 : decode cX8_read 78 = .ok (.iconst 1, 1) := by decide +kernel
theorem dX8_read_79 : decode cX8_read 79 = .ok (.goto 4, 3) := by decide +kernel
theorem dX8_read_82 : decode cX8_read 82 = .ok (.iconst 0, 1) := by decide +kernel
theorem dX8_read_83 : decode cX8_read 83 = .ok (.putfield 241, 3) := by decide +kernel
theorem dX8_read_86 : decode cX8_read 86 = .ok (.aload_n 0, 1) := by decide +kernel
theorem dX8_read_87 : decode cX8_read 87 = .ok (.invokevirtual 229, 3) := by decide +kernel
theorem dX8_read_90 : decode cX8_read 90 = .ok (.pop, 1) := by decide +kernel
theorem dX8_read_91 : decode cX8_read 91 = .ok (.aload_n 0, 1) := by decide +kernel
theorem dX8_read_92 : decode cX8_read 92 = .ok (.getfield 226, 3) := by decide +kernel
theorem dX8_read_95 : decode cX8_read 95 = .ok (.istore_n 1, 1) := by decide +kernel
theorem dX8_read_96 : decode cX8_read 96 = .ok (.aload_n 0, 1) := by decide +kernel
theorem dX8_read_97 : decode cX8_read 97 = .ok (.iconst 0, 1) := by decide +kernel
theorem dX8_read_98 : decode cX8_read 98 = .ok (.putfield 223, 3) := by decide +kernel
theorem dX8_read_101 : decode cX8_read 101 = .ok (.aload_n 0, 1) := by decide +kernel
theorem dX8_read_102 : decode cX8_read 102 = .ok (.getfield 241, 3) := by decide +kernel
theorem dX8_read_105 : decode cX8_read 105 = .ok (.ifCond .eq 8, 3) := by decide +kernel
theorem dX8_read_108 : decode cX8_read 108 = .ok (.bipush (-20), 2) := by decide +kernel
theorem dX8_read_110 : decode cX8_read 110 = .ok (.iload_n 1, 1) := by decide +kernel
theorem dX8_read_111 : decode cX8_read 111 = .ok (.isub, 1) := by decide +kernel
theorem dX8_read_112 : decode cX8_read 112 = .ok (.ireturn, 1) := by decide +kernel
theorem dX8_read_113 : decode cX8_read 113 = .ok (.aload_n 0, 1) := by decide +kernel
theorem dX8_read_114 : decode cX8_read 114 = .ok (.invokevirtual 153, 3) := by decide +kernel
theorem dX8_read_117 : decode cX8_read 117 = .ok (.aload_n 0, 1) := by decide +kernel
theorem dX8_read_118 : decode cX8_read 118 = .ok (.getfield 63, 3) := by decide +kernel
theorem dX8_read_121 : decode cX8_read 121 = .ok (.iconst 0, 1) := by decide +kernel
theorem dX8_read_122 : decode cX8_read 122 = .ok (.aload_n 0, 1) := by decide +kernel
theorem dX8_read_123 : decode cX8_read 123 = .ok (.getfield 7, 3) := by decide +kernel
theorem dX8_read_126 : decode cX8_read 126 = .ok (.iconst 0, 1) := by decide +kernel
theorem dX8_read_127 : decode cX8_read 127 = .ok (.bipush 10, 2) := by decide +kernel
theorem dX8_read_129 : decode cX8_read 129 = .ok (.invokestatic 69, 3) := by decide +kernel
theorem dX8_read_132 : decode cX8_read 132 = .ok (.aload_n 0, 1) := by decide +kernel
theorem dX8_read_133 : decode cX8_read 133 = .ok (.iconst 0, 1) := by decide +kernel
theorem dX8_read_134 : decode cX8_read 134 = .ok (.invokevirtual 164, 3) := by decide +kernel
theorem dX8_read_137 : decode cX8_read 137 = .ok (.ireturn, 1) := by decide +kernel
theorem dX8_drift_0 : decode cX8_drift 0 = .ok (.iload_n 1, 1) := by decide +kernel
theorem dX8_drift_1 : decode cX8_drift 1 = .ok (.i2l, 1) := by decide +kernel
theorem dX8_drift_2 : decode cX8_drift 2 = .ok (.lconst 1, 1) := by decide +kernel
theorem dX8_drift_3 : decode cX8_drift 3 = .ok (.ldc2_w 255, 3) := by decide +kernel
theorem dX8_drift_6 : decode cX8_drift 6 = .ok (.invokestatic 141, 3) := by decide +kernel
theorem dX8_drift_9 : decode cX8_drift 9 = .ok (.ifCond .ne 5, 3) := by decide +kernel
theorem dX8_drift_12 : decode cX8_drift 12 = .ok (.iconst (-1), 1) := by decide +kernel
theorem dX8_drift_13 : decode cX8_drift 13 = .ok (.ireturn, 1) := by decide +kernel
theorem dX8_drift_14 : decode cX8_drift 14 = .ok (.iconst 0, 1) := by decide +kernel
theorem dX8_drift_15 : decode cX8_drift 15 = .ok (.istore_n 2, 1) := by decide +kernel
theorem dX8_drift_16 : decode cX8_drift 16 = .ok (.iload_n 2, 1) := by decide +kernel
theorem dX8_drift_17 : decode cX8_drift 17 = .ok (.iload_n 1, 1) := by decide +kernel
theorem dX8_drift_18 : decode cX8_drift 18 = .ok (.if_icmp .ge 85, 3) := by decide +kernel
theorem dX8_drift_21 : decode cX8_drift 21 = .ok (.aload_n 0, 1) := by decide +kernel
theorem dX8_drift_22 : decode cX8_drift 22 = .ok (.invokevirtual 153, 3) := by decide +kernel
theorem dX8_drift_25 : decode cX8_drift 25 = .ok (.aload_n 0, 1) := by decide +kernel
theorem dX8_drift_26 : decode cX8_drift 26 = .ok (.getfield 7, 3) := by decide +kernel
theorem dX8_drift_29 : decode cX8_drift 29 = .ok (.bipush 11, 2) := by decide +kernel
theorem dX8_drift_31 : decode cX8_drift 31 = .ok (.iaload, 1) := by decide +kernel
theorem dX8_drift_32 : decode cX8_drift 32 = .ok (.i2l, 1) := by decide +kernel
theorem dX8_drift_33 : decode cX8_drift 33 = .ok (.ldc2_w 257, 3) := by decide +kernel
theorem dX8_drift_36 : decode cX8_drift 36 = .ok (.lmul, 1) := by decide +kernel
theorem dX8_drift_37 : decode cX8_drift 37 = .ok (.ldc2_w 259, 3) := by decide +kernel
theorem dX8_drift_40 : decode cX8_drift 40 = .ok (.ladd, 1) := by decide +kernel
theorem dX8_drift_41 : decode cX8_drift 41 = .ok (.lstore_n 3, 1) := by decide +kernel
theorem dX8_drift_42 : decode cX8_drift 42 = .ok (.aload_n 0, 1) := by decide +kernel
theorem dX8_drift_43 : decode cX8_drift 43 = .ok (.getfield 7, 3) := by decide +kernel
theorem dX8_drift_46 : decode cX8_drift 46 = .ok (.bipush 11, 2) := by decide +kernel
theorem dX8_drift_48 : decode cX8_drift 48 = .ok (.lload_n 3, 1) := by decide +kernel
theorem dX8_drift_49 : decode cX8_drift 49 = .ok (.ldc2_w 261, 3) := by decide +kernel
theorem dX8_drift_52 : decode cX8_drift 52 = .ok (.lrem, 1) := by decide +kernel
theorem dX8_drift_53 : decode cX8_drift 53 = .ok (.l2i, 1) := by decide +kernel
theorem dX8_drift_54 : decode cX8_drift 54 = .ok (.iastore, 1) := by decide +kernel
theorem dX8_drift_55 : decode cX8_drift 55 = .ok (.aload_n 0, 1) := by decide +kernel
theorem dX8_drift_56 : decode cX8_drift 56 = .ok (.getfield 7, 3) := by decide +kernel
theorem dX8_drift_59 : decode cX8_drift 59 = .ok (.bipush 11, 2) := by decide +kernel
theorem dX8_drift_61 : decode cX8_drift 61 = .ok (.iaload, 1) := by decide +kernel
theorem dX8_drift_62 : decode cX8_drift 62 = .ok (.ldc_w 263, 3) := by decide +kernel
theorem dX8_drift_65 : decode cX8_drift 65 = .ok (.idiv, 1) := by decide +kernel
theorem dX8_drift_66 : decode cX8_drift 66 = .ok (.istore 5, 2) := by decide +kernel
theorem dX8_drift_68 : decode cX8_drift 68 = .ok (.aload_n 0, 1) := by decide +kernel
theorem dX8_drift_69 : decode cX8_drift 69 = .ok (.getfield 7, 3) := by decide +kernel
theorem dX8_drift_72 : decode cX8_drift 72 = .ok (.iconst 5, 1) := by decide +kernel
theorem dX8_drift_73 : decode cX8_drift 73 = .ok (.iload 5, 2) := by decide +kernel
theorem dX8_drift_75 : decode cX8_drift 75 = .ok (.iconst 2, 1) := by decide +kernel
theorem dX8_drift_76 : decode cX8_drift 76 = .ok (.irem, 1) := by decide +kernel
theorem dX8_drift_77 : decode cX8_drift 77 = .ok (.imul, 1) := by decide +kernel
theorem dX8_drift_78 : decode cX8_drift 78 = .ok (.iload 5, 2) := by decide +kernel
theorem dX8_drift_80 : decode cX8_drift 80 = .ok (.iconst 2, 1) := by decide +kernel
theorem dX8_drift_81 : decode cX8_drift 81 = .ok (.idiv, 1) := by decide +kernel
theorem dX8_drift_82 : decode cX8_drift 82 = .ok (.iconst 5, 1) := by decide +kernel
theorem dX8_drift_83 : decode cX8_drift 83 = .ok (.irem, 1) := by decide +kernel
theorem dX8_drift_84 : decode cX8_drift 84 = .ok (.iadd, 1) := by decide +kernel
theorem dX8_drift_85 : decode cX8_drift 85 = .ok (.iload 5, 2) := by decide +kernel
theorem dX8_drift_87 : decode cX8_drift 87 = .ok (.bipush 16, 2) := by decide +kernel
theorem dX8_drift_89 : decode cX8_drift 89 = .ok (.idiv, 1) := by decide +kernel
theorem dX8_drift_90 : decode cX8_drift 90 = .ok (.bipush 19, 2) := by decide +kernel
theorem dX8_drift_92 : decode cX8_drift 92 = .ok (.irem, 1) := by decide +kernel
theorem dX8_drift_93 : decode cX8_drift 93 = .ok (.bipush 9, 2) := by decide +kernel
theorem dX8_drift_95 : decode cX8_drift 95 = .ok (.isub, 1) := by decide +kernel
theorem dX8_drift_96 : decode cX8_drift 96 = .ok (.iastore, 1) := by decide +kernel
theorem dX8_drift_97 : decode cX8_drift 97 = .ok (.iinc 2 1, 3) := by decide +kernel
theorem dX8_drift_100 : decode cX8_drift 100 = .ok (.goto (-84), 3) := by decide +kernel
theorem dX8_drift_103 : decode cX8_drift 103 = .ok (.aload_n 0, 1) := by decide +kernel
theorem dX8_drift_104 : decode cX8_drift 104 = .ok (.iconst 0, 1) := by decide +kernel
theorem dX8_drift_105 : decode cX8_drift 105 = .ok (.invokevirtual 164, 3) := by decide +kernel
theorem dX8_drift_108 : decode cX8_drift 108 = .ok (.ireturn, 1) := by decide +kernel
theorem dX8_undo_0 : decode cX8_undo 0 = .ok (.aload_n 0, 1) := by decide +kernel
theorem dX8_undo_1 : decode cX8_undo 1 = .ok (.getfield 66, 3) := by decide +kernel
theorem dX8_undo_4 : decode cX8_undo 4 = .ok (.ifCond .ne 6, 3) := by decide +kernel
theorem dX8_undo_7 : decode cX8_undo 7 = .ok (.bipush (-4), 2) := by decide +kernel
theorem dX8_undo_9 : decode cX8_undo 9 = .ok (.ireturn, 1) := by decide +kernel
theorem dX8_undo_10 : decode cX8_undo 10 = .ok (.aload_n 0, 1) := by decide +kernel
theorem dX8_undo_11 : decode cX8_undo 11 = .ok (.dup, 1) := by decide +kernel
theorem dX8_undo_12 : decode cX8_undo 12 = .ok (.getfield 66, 3) := by decide +kernel
theorem dX8_undo_15 : decode cX8_undo 15 = .ok (.iconst 1, 1) := by decide +kernel
theorem dX8_undo_16 : decode cX8_undo 16 = .ok (.isub, 1) := by decide +kernel
theorem dX8_undo_17 : decode cX8_undo 17 = .ok (.putfield 66, 3) := by decide +kernel
theorem dX8_undo_20 : decode cX8_undo 20 = .ok (.aload_n 0, 1) := by decide +kernel
theorem dX8_undo_21 : decode cX8_undo 21 = .ok (.getfield 13, 3) := by decide +kernel
theorem dX8_undo_24 : decode cX8_undo 24 = .ok (.bipush 12, 2) := by decide +kernel
theorem dX8_undo_26 : decode cX8_undo 26 = .ok (.aload_n 0, 1) := by decide +kernel
theorem dX8_undo_27 : decode cX8_undo 27 = .ok (.getfield 66, 3) := by decide +kernel
theorem dX8_undo_30 : decode cX8_undo 30 = .ok (.imul, 1) := by decide +kernel
theorem dX8_undo_31 : decode cX8_undo 31 = .ok (.aload_n 0, 1) := by decide +kernel
theorem dX8_undo_32 : decode cX8_undo 32 = .ok (.getfield 7, 3) := by decide +kernel
theorem dX8_undo_35 : decode cX8_undo 35 = .ok (.iconst 0, 1) := by decide +kernel
theorem dX8_undo_36 : decode cX8_undo 36 = .ok (.bipush 12, 2) := by decide +kernel
theorem dX8_undo_38 : decode cX8_undo 38 = .ok (.invokestatic 69, 3) := by decide +kernel
theorem dX8_undo_41 : decode cX8_undo 41 = .ok (.aload_n 0, 1) := by decide +kernel
theorem dX8_undo_42 : decode cX8_undo 42 = .ok (.getfield 66, 3) := by decide +kernel
theorem dX8_undo_45 : decode cX8_undo 45 = .ok (.ireturn, 1) := by decide +kernel
theorem dX8_seed_0 : decode cX8_seed 0 = .ok (.iload_n 1, 1) := by decide +kernel
theorem dX8_seed_1 : decode cX8_seed 1 = .ok (.ifCond .ge 5, 3) := by decide +kernel
theorem dX8_seed_4 : decode cX8_seed 4 = .ok (.iconst (-1), 1) := by decide +kernel
theorem dX8_seed_5 : decode cX8_seed 5 = .ok (.ireturn, 1) := by decide +kernel
theorem dX8_seed_6 : decode cX8_seed 6 = .ok (.aload_n 0, 1) := by decide +kernel
theorem dX8_seed_7 : decode cX8_seed 7 = .ok (.getfield 7, 3) := by decide +kernel
theorem dX8_seed_10 : decode cX8_seed 10 = .ok (.bipush 11, 2) := by decide +kernel
theorem dX8_seed_12 : decode cX8_seed 12 = .ok (.iaload, 1) := by decide +kernel
theorem dX8_seed_13 : decode cX8_seed 13 = .ok (.istore_n 2, 1) := by decide +kernel
theorem dX8_seed_14 : decode cX8_seed 14 = .ok (.aload_n 0, 1) := by decide +kernel
theorem dX8_seed_15 : decode cX8_seed 15 = .ok (.getfield 7, 3) := by decide +kernel
theorem dX8_seed_18 : decode cX8_seed 18 = .ok (.bipush 11, 2) := by decide +kernel
theorem dX8_seed_20 : decode cX8_seed 20 = .ok (.iload_n 1, 1) := by decide +kernel
theorem dX8_seed_21 : decode cX8_seed 21 = .ok (.iastore, 1) := by decide +kernel
theorem dX8_seed_22 : decode cX8_seed 22 = .ok (.iload_n 2, 1) := by decide +kernel
theorem dX8_seed_23 : decode cX8_seed 23 = .ok (.ireturn, 1) := by decide +kernel
theorem dX8_image_0 : decode cX8_image 0 = .ok (.aload_n 0, 1) := by decide +kernel
theorem dX8_image_1 : decode cX8_image 1 = .ok (.getfield 7, 3) := by decide +kernel
theorem dX8_image_4 : decode cX8_image 4 = .ok (.iconst 0, 1) := by decide +kernel
theorem dX8_image_5 : decode cX8_image 5 = .ok (.aload_n 0, 1) := by decide +kernel
theorem dX8_image_6 : decode cX8_image 6 = .ok (.getfield 16, 3) := by decide +kernel
theorem dX8_image_9 : decode cX8_image 9 = .ok (.iconst 0, 1) := by decide +kernel
theorem dX8_image_10 : decode cX8_image 10 = .ok (.bipush 12, 2) := by decide +kernel
theorem dX8_image_12 : decode cX8_image 12 = .ok (.invokestatic 69, 3) := by decide +kernel
theorem dX8_image_15 : decode cX8_image 15 = .ok (.aload_n 0, 1) := by decide +kernel
theorem dX8_image_16 : decode cX8_image 16 = .ok (.getfield 13, 3) := by decide +kernel
theorem dX8_image_19 : decode cX8_image 19 = .ok (.iconst 0, 1) := by decide +kernel
theorem dX8_image_20 : decode cX8_image 20 = .ok (.aload_n 0, 1) := by decide +kernel
theorem dX8_image_21 : decode cX8_image 21 = .ok (.getfield 19, 3) := by decide +kernel
theorem dX8_image_24 : decode cX8_image 24 = .ok (.iconst 0, 1) := by decide +kernel
theorem dX8_image_25 : decode cX8_image 25 = .ok (.bipush 72, 2) := by decide +kernel
theorem dX8_image_27 : decode cX8_image 27 = .ok (.invokestatic 69, 3) := by decide +kernel
theorem dX8_image_30 : decode cX8_image 30 = .ok (.aload_n 0, 1) := by decide +kernel
theorem dX8_image_31 : decode cX8_image 31 = .ok (.aload_n 0, 1) := by decide +kernel
theorem dX8_image_32 : decode cX8_image 32 = .ok (.getfield 66, 3) := by decide +kernel
theorem dX8_image_35 : decode cX8_image 35 = .ok (.putfield 22, 3) := by decide +kernel
theorem dX8_image_38 : decode cX8_image 38 = .ok (.iconst 1, 1) := by decide +kernel
theorem dX8_image_39 : decode cX8_image 39 = .ok (.ireturn, 1) := by decide +kernel
theorem dX8_restore_0 : decode cX8_restore 0 = .ok (.aload_n 0, 1) := by decide +kernel
theorem dX8_restore_1 : decode cX8_restore 1 = .ok (.getfield 22, 3) := by decide +kernel
theorem dX8_restore_4 : decode cX8_restore 4 = .ok (.ifCond .ge 6, 3) := by decide +kernel
theorem dX8_restore_7 : decode cX8_restore 7 = .ok (.bipush (-4), 2) := by decide +kernel
theorem dX8_restore_9 : decode cX8_restore 9 = .ok (.ireturn, 1) := by decide +kernel
theorem dX8_restore_10 : decode cX8_restore 10 = .ok (.aload_n 0, 1) := by decide +kernel
theorem dX8_restore_11 : decode cX8_restore 11 = .ok (.getfield 16, 3) := by decide +kernel
theorem dX8_restore_14 : decode cX8_restore 14 = .ok (.iconst 0, 1) := by decide +kernel
theorem dX8_restore_15 : decode cX8_restore 15 = .ok (.aload_n 0, 1) := by decide +kernel
theorem dX8_restore_16 : decode cX8_restore 16 = .ok (.getfield 7, 3) := by decide +kernel
theorem dX8_restore_19 : decode cX8_restore 19 = .ok (.iconst 0, 1) := by decide +kernel
theorem dX8_restore_20 : decode cX8_restore 20 = .ok (.bipush 12, 2) := by decide +kernel
theorem dX8_restore_22 : decode cX8_restore 22 = .ok (.invokestatic 69, 3) := by decide +kernel
theorem dX8_restore_25 : decode cX8_restore 25 = .ok (.aload_n 0, 1) := by decide +kernel
theorem dX8_restore_26 : decode cX8_restore 26 = .ok (.getfield 19, 3) := by decide +kernel
theorem dX8_restore_29 : decode cX8_restore 29 = .ok (.iconst 0, 1) := by decide +kernel
theorem dX8_restore_30 : decode cX8_restore 30 = .ok (.aload_n 0, 1) := by decide +kernel
theorem dX8_restore_31 : decode cX8_restore 31 = .ok (.getfield 13, 3) := by decide +kernel
theorem dX8_restore_34 : decode cX8_restore 34 = .ok (.iconst 0, 1) := by decide +kernel
theorem dX8_restore_35 : decode cX8_restore 35 = .ok (.bipush 72, 2) := by decide +kernel
theorem dX8_restore_37 : decode cX8_restore 37 = .ok (.invokestatic 69, 3) := by decide +kernel
theorem dX8_restore_40 : decode cX8_restore 40 = .ok (.aload_n 0, 1) := by decide +kernel
theorem dX8_restore_41 : decode cX8_restore 41 = .ok (.aload_n 0, 1) := by decide +kernel
theorem dX8_restore_42 : decode cX8_restore 42 = .ok (.getfield 22, 3) := by decide +kernel
theorem dX8_restore_45 : decode cX8_restore 45 = .ok (.putfield 66, 3) := by decide +kernel
theorem dX8_restore_48 : decode cX8_restore 48 = .ok (.iconst 1, 1) := by decide +kernel
theorem dX8_restore_49 : decode cX8_restore 49 = .ok (.ireturn, 1) := by decide +kernel
theorem dX8_isSheet_0 : decode cX8_isSheet 0 = .ok (.iload_n 0, 1) := by decide +kernel
theorem dX8_isSheet_1 : decode cX8_isSheet 1 = .ok (.i2l, 1) := by decide +kernel
theorem dX8_isSheet_2 : decode cX8_isSheet 2 = .ok (.lconst 0, 1) := by decide +kernel
theorem dX8_isSheet_3 : decode cX8_isSheet 3 = .ok (.ldc2_w 174, 3) := by decide +kernel
theorem dX8_isSheet_6 : decode cX8_isSheet 6 = .ok (.invokestatic 141, 3) := by decide +kernel
theorem dX8_isSheet_9 : decode cX8_isSheet 9 = .ok (.ifCond .eq 19, 3) := by decide +kernel
theorem dX8_isSheet_12 : decode cX8_isSheet 12 = .ok (.iload_n 1, 1) := by decide +kernel
theorem dX8_isSheet_13 : decode cX8_isSheet 13 = .ok (.i2l, 1) := by decide +kernel
theorem dX8_isSheet_14 : decode cX8_isSheet 14 = .ok (.lconst 0, 1) := by decide +kernel
theorem dX8_isSheet_15 : decode cX8_isSheet 15 = .ok (.ldc2_w 174, 3) := by decide +kernel
theorem dX8_isSheet_18 : decode cX8_isSheet 18 = .ok (.invokestatic 141, 3) := by decide +kernel
theorem dX8_isSheet_21 : decode cX8_isSheet 21 = .ok (.ifCond .eq 7, 3) := by decide +kernel
theorem dX8_isSheet_24 : decode cX8_isSheet 24 = .ok (.iconst 1, 1) := by decide +kernel
theorem dX8_isSheet_25 : decode cX8_isSheet 25 = .ok (.goto 4, 3) := by decide +kernel
theorem dX8_isSheet_28 : decode cX8_isSheet 28 = .ok (.iconst 0, 1) := by decide +kernel
theorem dX8_isSheet_29 : decode cX8_isSheet 29 = .ok (.ireturn, 1) := by decide +kernel
theorem dX8_found_0 : decode cX8_found 0 = .ok (.aload_n 0, 1) := by decide +kernel
theorem dX8_found_1 : decode cX8_found 1 = .ok (.getfield 29, 3) := by decide +kernel
theorem dX8_found_4 : decode cX8_found 4 = .ok (.iload_n 1, 1) := by decide +kernel
theorem dX8_found_5 : decode cX8_found 5 = .ok (.iaload, 1) := by decide +kernel
theorem dX8_found_6 : decode cX8_found 6 = .ok (.ifCond .ge 6, 3) := by decide +kernel
theorem dX8_found_9 : decode cX8_found 9 = .ok (.bipush (-11), 2) := by decide +kernel
theorem dX8_found_11 : decode cX8_found 11 = .ok (.ireturn, 1) := by decide +kernel
theorem dX8_found_12 : decode cX8_found 12 = .ok (.aload_n 0, 1) := by decide +kernel
theorem dX8_found_13 : decode cX8_found 13 = .ok (.getfield 29, 3) := by decide +kernel
theorem dX8_found_16 : decode cX8_found 16 = .ok (.iload_n 1, 1) := by decide +kernel
theorem dX8_found_17 : decode cX8_found 17 = .ok (.iaload, 1) := by decide +kernel
theorem dX8_found_18 : decode cX8_found 18 = .ok (.iload_n 2, 1) := by decide +kernel
theorem dX8_found_19 : decode cX8_found 19 = .ok (.if_icmp .eq 6, 3) := by decide +kernel
theorem dX8_found_22 : decode cX8_found 22 = .ok (.bipush (-12), 2) := by decide +kernel
theorem dX8_found_24 : decode cX8_found 24 = .ok (.ireturn, 1) := by decide +kernel
theorem dX8_found_25 : decode cX8_found 25 = .ok (.iload_n 3, 1) := by decide +kernel
theorem dX8_found_26 : decode cX8_found 26 = .ok (.ifCond .lt 16, 3) := by decide +kernel
theorem dX8_found_29 : decode cX8_found 29 = .ok (.iload_n 3, 1) := by decide +kernel
theorem dX8_found_30 : decode cX8_found 30 = .ok (.aload_n 0, 1) := by decide +kernel
theorem dX8_found_31 : decode cX8_found 31 = .ok (.getfield 32, 3) := by decide +kernel
theorem dX8_found_34 : decode cX8_found 34 = .ok (.iload_n 1, 1) := by decide +kernel
theorem dX8_found_35 : decode cX8_found 35 = .ok (.iaload, 1) := by decide +kernel
theorem dX8_found_36 : decode cX8_found 36 = .ok (.iload 4, 2) := by decide +kernel
theorem dX8_found_38 : decode cX8_found 38 = .ok (.isub, 1) := by decide +kernel
theorem dX8_found_39 : decode cX8_found 39 = .ok (.if_icmp .le 8, 3) := by decide +kernel
theorem dX8_found_42 : decode cX8_found 42 = .ok (.bipush (-13), 2) := by decide +kernel
theorem dX8_found_44 : decode cX8_found 44 = .ok (.goto 4, 3) := by decide +kernel
theorem dX8_found_47 : decode cX8_found 47 = .ok (.iconst 0, 1) := by decide +kernel
theorem dX8_found_48 : decode cX8_found 48 = .ok (.ireturn, 1) := by decide +kernel
theorem dX8_judged_0 : decode cX8_judged 0 = .ok (.iload_n 1, 1) := by decide +kernel
theorem dX8_judged_1 : decode cX8_judged 1 = .ok (.iload_n 2, 1) := by decide +kernel
theorem dX8_judged_2 : decode cX8_judged 2 = .ok (.invokestatic 264, 3) := by decide +kernel
theorem dX8_judged_5 : decode cX8_judged 5 = .ok (.ifCond .eq 16, 3) := by decide +kernel
theorem dX8_judged_8 : decode cX8_judged 8 = .ok (.iload 4, 2) := by decide +kernel
theorem dX8_judged_10 : decode cX8_judged 10 = .ok (.i2l, 1) := by decide +kernel
theorem dX8_judged_11 : decode cX8_judged 11 = .ok (.lconst 1, 1) := by decide +kernel
theorem dX8_judged_12 : decode cX8_judged 12 = .ok (.ldc2_w 96, 3) := by decide +kernel
theorem dX8_judged_15 : decode cX8_judged 15 = .ok (.invokestatic 141, 3) := by decide +kernel
theorem dX8_judged_18 : decode cX8_judged 18 = .ok (.ifCond .ne 5, 3) := by decide +kernel
theorem dX8_judged_21 : decode cX8_judged 21 = .ok (.iconst (-1), 1) := by decide +kernel
theorem dX8_judged_22 : decode cX8_judged 22 = .ok (.ireturn, 1) := by decide +kernel
theorem dX8_judged_23 : decode cX8_judged 23 = .ok (.aload_n 0, 1) := by decide +kernel
theorem dX8_judged_24 : decode cX8_judged 24 = .ok (.iload_n 1, 1) := by decide +kernel
theorem dX8_judged_25 : decode cX8_judged 25 = .ok (.iload_n 2, 1) := by decide +kernel
theorem dX8_judged_26 : decode cX8_judged 26 = .ok (.iload_n 3, 1) := by decide +kernel
theorem dX8_judged_27 : decode cX8_judged 27 = .ok (.iconst 5, 1) := by decide +kernel
theorem dX8_judged_28 : decode cX8_judged 28 = .ok (.iload 4, 2) := by decide +kernel
theorem dX8_judged_30 : decode cX8_judged 30 = .ok (.imul, 1) := by decide +kernel
theorem dX8_judged_31 : decode cX8_judged 31 = .ok (.invokevirtual 267, 3) := by decide +kernel
theorem dX8_judged_34 : decode cX8_judged 34 = .ok (.istore 5, 2) := by decide +kernel
theorem dX8_judged_36 : decode cX8_judged 36 = .ok (.iload 5, 2) := by decide +kernel
theorem dX8_judged_38 : decode cX8_judged 38 = .ok (.ifCond .eq 6, 3) := by decide +kernel
theorem dX8_judged_41 : decode cX8_judged 41 = .ok (.iload 5, 2) := by decide +kernel
theorem dX8_judged_43 : decode cX8_judged 43 = .ok (.ireturn, 1) := by decide +kernel
theorem dX8_judged_44 : decode cX8_judged 44 = .ok (.bipush 24, 2) := by decide +kernel
theorem dX8_judged_46 : decode cX8_judged 46 = .ok (.iload_n 1, 1) := by decide +kernel
theorem dX8_judged_47 : decode cX8_judged 47 = .ok (.imul, 1) := by decide +kernel
theorem dX8_judged_48 : decode cX8_judged 48 = .ok (.iload_n 3, 1) := by decide +kernel
theorem dX8_judged_49 : decode cX8_judged 49 = .ok (.iadd, 1) := by decide +kernel
theorem dX8_judged_50 : decode cX8_judged 50 = .ok (.istore 6, 2) := by decide +kernel
theorem dX8_judged_52 : decode cX8_judged 52 = .ok (.iconst 0, 1) := by decide +kernel
theorem dX8_judged_53 : decode cX8_judged 53 = .ok (.istore 7, 2) := by decide +kernel
theorem dX8_judged_55 : decode cX8_judged 55 = .ok (.iload 7, 2) := by decide +kernel
theorem dX8_judged_57 : decode cX8_judged 57 = .ok (.iconst 5, 1) := by decide +kernel
theorem dX8_judged_58 : decode cX8_judged 58 = .ok (.iload 4, 2) := by decide +kernel
theorem dX8_judged_60 : decode cX8_judged 60 = .ok (.imul, 1) := by decide +kernel
theorem dX8_judged_61 : decode cX8_judged 61 = .ok (.if_icmp .ge 34, 3) := by decide +kernel
theorem dX8_judged_64 : decode cX8_judged 64 = .ok (.aload_n 0, 1) := by decide +kernel
theorem dX8_judged_65 : decode cX8_judged 65 = .ok (.getfield 35, 3) := by decide +kernel
theorem dX8_judged_68 : decode cX8_judged 68 = .ok (.iload 6, 2) := by decide +kernel
theorem dX8_judged_70 : decode cX8_judged 70 = .ok (.iload 7, 2) := by decide +kernel
theorem dX8_judged_72 : decode cX8_judged 72 = .ok (.iadd, 1) := by decide +kernel
theorem dX8_judged_73 : decode cX8_judged 73 = .ok (.laload, 1) := by decide +kernel
theorem dX8_judged_74 : decode cX8_judged 74 = .ok (.ldc2_w 149, 3) := by decide +kernel
theorem dX8_judged_77 : decode cX8_judged 77 = .ok (.ldc2_w 151, 3) := by decide +kernel
theorem dX8_judged_80 : decode cX8_judged 80 = .ok (.invokestatic 141, 3) := by decide +kernel
theorem dX8_judged_83 : decode cX8_judged 83 = .ok (.ifCond .ne 6, 3) := by decide +kernel
theorem dX8_judged_86 : decode cX8_judged 86 = .ok (.bipush (-2), 2) := by decide +kernel
theorem dX8_judged_88 : decode cX8_judged 88 = .ok (.ireturn, 1) := by decide +kernel
theorem dX8_judged_89 : decode cX8_judged 89 = .ok (.iinc 7 1, 3) := by decide +kernel
theorem dX8_judged_92 : decode cX8_judged 92 = .ok (.goto (-37), 3) := by decide +kernel
theorem dX8_judged_95 : decode cX8_judged 95 = .ok (.iconst 0, 1) := by decide +kernel
theorem dX8_judged_96 : decode cX8_judged 96 = .ok (.istore 7, 2) := by decide +kernel
theorem dX8_judged_98 : decode cX8_judged 98 = .ok (.iconst 0, 1) := by decide +kernel
theorem dX8_judged_99 : decode cX8_judged 99 = .ok (.istore 8, 2) := by decide +kernel
theorem dX8_judged_101 : decode cX8_judged 101 = .ok (.iload 8, 2) := by decide +kernel
theorem dX8_judged_103 : decode cX8_judged 103 = .ok (.iload 4, 2) := by decide +kernel
theorem dX8_judged_105 : decode cX8_judged 105 = .ok (.if_icmp .ge 89, 3) := by decide +kernel
theorem dX8_judged_108 : decode cX8_judged 108 = .ok (.iconst 0, 1) := by decide +kernel
theorem dX8_judged_109 : decode cX8_judged 109 = .ok (.istore 9, 2) := by decide +kernel
theorem dX8_judged_111 : decode cX8_judged 111 = .ok (.iload 9, 2) := by decide +kernel
theorem dX8_judged_113 : decode cX8_judged 113 = .ok (.iconst 2, 1) := by decide +kernel
theorem dX8_judged_114 : decode cX8_judged 114 = .ok (.if_icmp .ge 74, 3) := by decide +kernel
theorem dX8_judged_117 : decode cX8_judged 117 = .ok (.iconst 0, 1) := by decide +kernel
theorem dX8_judged_118 : decode cX8_judged 118 = .ok (.istore 10, 2) := by decide +kernel
theorem dX8_judged_120 : decode cX8_judged 120 = .ok (.iload 10, 2) := by decide +kernel
theorem dX8_judged_122 : decode cX8_judged 122 = .ok (.iconst 5, 1) := by decide +kernel
theorem dX8_judged_123 : decode cX8_judged 123 = .ok (.if_icmp .ge 31, 3) := by decide +kernel
theorem dX8_judged_126 : decode cX8_judged 126 = .ok (.aload_n 0, 1) := by decide +kernel
theorem dX8_judged_127 : decode cX8_judged 127 = .ok (.getfield 39, 3) := by decide +kernel
theorem dX8_judged_130 : decode cX8_judged 130 = .ok (.iload 10, 2) := by decide +kernel
theorem dX8_judged_132 : decode cX8_judged 132 = .ok (.aload_n 0, 1) := by decide +kernel
theorem dX8_judged_133 : decode cX8_judged 133 = .ok (.getfield 35, 3) := by decide +kernel
theorem dX8_judged_136 : decode cX8_judged 136 = .ok (.iload 6, 2) := by decide +kernel
theorem dX8_judged_138 : decode cX8_judged 138 = .ok (.iconst 5, 1) := by decide +kernel
theorem dX8_judged_139 : decode cX8_judged 139 = .ok (.iload 8, 2) := by decide +kernel
theorem dX8_judged_141 : decode cX8_judged 141 = .ok (.imul, 1) := by decide +kernel
theorem dX8_judged_142 : decode cX8_judged 142 = .ok (.iadd, 1) := by decide +kernel
theorem dX8_judged_143 : decode cX8_judged 143 = .ok (.iload 10, 2) := by decide +kernel
theorem dX8_judged_145 : decode cX8_judged 145 = .ok (.iadd, 1) := by decide +kernel
theorem dX8_judged_146 : decode cX8_judged 146 = .ok (.laload, 1) := by decide +kernel
theorem dX8_judged_147 : decode cX8_judged 147 = .ok (.lastore, 1) := by decide +kernel
theorem dX8_judged_148 : decode cX8_judged 148 = .ok (.iinc 10 1, 3) := by decide +kernel
theorem dX8_judged_151 : decode cX8_judged 151 = .ok (.goto (-31), 3) := by decide +kernel
theorem dX8_judged_154 : decode cX8_judged 154 = .ok (.iload 7, 2) := by decide +kernel
theorem dX8_judged_156 : decode cX8_judged 156 = .ok (.aload_n 0, 1) := by decide +kernel
theorem dX8_judged_157 : decode cX8_judged 157 = .ok (.iload 9, 2) := by decide +kernel
theorem dX8_judged_159 : decode cX8_judged 159 = .ok (.invokevirtual 204, 3) := by decide +kernel
theorem dX8_judged_162 : decode cX8_judged 162 = .ok (.ifCond .eq 16, 3) := by decide +kernel
theorem dX8_judged_165 : decode cX8_judged 165 = .ok (.iconst 1, 1) := by decide +kernel
theorem dX8_judged_166 : decode cX8_judged 166 = .ok (.bipush 8, 2) := by decide +kernel
theorem dX8_judged_168 : decode cX8_judged 168 = .ok (.iload 9, 2) := by decide +kernel
theorem dX8_judged_170 : decode cX8_judged 170 = .ok (.imul, 1) := by decide +kernel
theorem dX8_judged_171 : decode cX8_judged 171 = .ok (.iload 8, 2) := by decide +kernel
theorem dX8_judged_173 : decode cX8_judged 173 = .ok (.iadd, 1) := by decide +kernel
theorem dX8_judged_174 : decode cX8_judged 174 = .ok (.ishl, 1) := by decide +kernel
theorem dX8_judged_175 : decode cX8_judged 175 = .ok (.goto 4, 3) := by decide +kernel
theorem dX8_judged_178 : decode cX8_judged 178 = .ok (.iconst 0, 1) := by decide +kernel
theorem dX8_judged_179 : decode cX8_judged 179 = .ok (.ior, 1) := by decide +kernel
theorem dX8_judged_180 : decode cX8_judged 180 = .ok (.istore 7, 2) := by decide +kernel
theorem dX8_judged_182 : decode cX8_judged 182 = .ok (.iinc 9 1, 3) := by decide +kernel
theorem dX8_judged_185 : decode cX8_judged 185 = .ok (.goto (-74), 3) := by decide +kernel
theorem dX8_judged_188 : decode cX8_judged 188 = .ok (.iinc 8 1, 3) := by decide +kernel
theorem dX8_judged_191 : decode cX8_judged 191 = .ok (.goto (-90), 3) := by decide +kernel
theorem dX8_judged_194 : decode cX8_judged 194 = .ok (.iload 7, 2) := by decide +kernel
theorem dX8_judged_196 : decode cX8_judged 196 = .ok (.ireturn, 1) := by decide +kernel
theorem dX8_film_0 : decode cX8_film 0 = .ok (.iload_n 1, 1) := by decide +kernel
theorem dX8_film_1 : decode cX8_film 1 = .ok (.i2l, 1) := by decide +kernel
theorem dX8_film_2 : decode cX8_film 2 = .ok (.lconst 0, 1) := by decide +kernel
theorem dX8_film_3 : decode cX8_film 3 = .ok (.lconst 1, 1) := by decide +kernel
theorem dX8_film_4 : decode cX8_film 4 = .ok (.invokestatic 141, 3) := by decide +kernel
theorem dX8_film_7 : decode cX8_film 7 = .ok (.ifCond .eq 11, 3) := by decide +kernel
theorem dX8_film_10 : decode cX8_film 10 = .ok (.iload_n 2, 1) := by decide +kernel
theorem dX8_film_11 : decode cX8_film 11 = .ok (.iload_n 3, 1) := by decide +kernel
theorem dX8_film_12 : decode cX8_film 12 = .ok (.invokestatic 264, 3) := by decide +kernel
theorem dX8_film_15 : decode cX8_film 15 = .ok (.ifCond .ne 5, 3) := by decide +kernel
theorem dX8_film_18 : decode cX8_film 18 = .ok (.iconst (-1), 1) := by decide +kernel
theorem dX8_film_19 : decode cX8_film 19 = .ok (.ireturn, 1) := by decide +kernel
theorem dX8_film_20 : decode cX8_film 20 = .ok (.aload_n 0, 1) := by decide +kernel
theorem dX8_film_21 : decode cX8_film 21 = .ok (.iload_n 2, 1) := by decide +kernel
theorem dX8_film_22 : decode cX8_film 22 = .ok (.iload_n 3, 1) := by decide +kernel
theorem dX8_film_23 : decode cX8_film 23 = .ok (.iload 4, 2) := by decide +kernel
theorem dX8_film_25 : decode cX8_film 25 = .ok (.iconst 5, 1) := by decide +kernel
theorem dX8_film_26 : decode cX8_film 26 = .ok (.invokevirtual 267, 3) := by decide +kernel
theorem dX8_film_29 : decode cX8_film 29 = .ok (.istore 5, 2) := by decide +kernel
theorem dX8_film_31 : decode cX8_film 31 = .ok (.iload 5, 2) := by decide +kernel
theorem dX8_film_33 : decode cX8_film 33 = .ok (.ifCond .eq 6, 3) := by decide +kernel
theorem dX8_film_36 : decode cX8_film 36 = .ok (.iload 5, 2) := by decide +kernel
theorem dX8_film_38 : decode cX8_film 38 = .ok (.ireturn, 1) := by decide +kernel
theorem dX8_film_39 : decode cX8_film 39 = .ok (.iconst 0, 1) := by decide +kernel
theorem dX8_film_40 : decode cX8_film 40 = .ok (.istore 6, 2) := by decide +kernel
theorem dX8_film_42 : decode cX8_film 42 = .ok (.iload 6, 2) := by decide +kernel
theorem dX8_film_44 : decode cX8_film 44 = .ok (.iconst 5, 1) := by decide +kernel
theorem dX8_film_45 : decode cX8_film 45 = .ok (.if_icmp .ge 36, 3) := by decide +kernel
theorem dX8_film_48 : decode cX8_film 48 = .ok (.aload_n 0, 1) := by decide +kernel
theorem dX8_film_49 : decode cX8_film 49 = .ok (.getfield 35, 3) := by decide +kernel
theorem dX8_film_52 : decode cX8_film 52 = .ok (.bipush 24, 2) := by decide +kernel
theorem dX8_film_54 : decode cX8_film 54 = .ok (.iload_n 2, 1) := by decide +kernel
theorem dX8_film_55 : decode cX8_film 55 = .ok (.imul, 1) := by decide +kernel
theorem dX8_film_56 : decode cX8_film 56 = .ok (.iload 4, 2) := by decide +kernel
theorem dX8_film_58 : decode cX8_film 58 = .ok (.iadd, 1) := by decide +kernel
theorem dX8_film_59 : decode cX8_film 59 = .ok (.iload 6, 2) := by decide +kernel
theorem dX8_film_61 : decode cX8_film 61 = .ok (.iadd, 1) := by decide +kernel
theorem dX8_film_62 : decode cX8_film 62 = .ok (.aload_n 0, 1) := by decide +kernel
theorem dX8_film_63 : decode cX8_film 63 = .ok (.getfield 7, 3) := by decide +kernel
theorem dX8_film_66 : decode cX8_film 66 = .ok (.iconst 5, 1) := by decide +kernel
theorem dX8_film_67 : decode cX8_film 67 = .ok (.iload_n 1, 1) := by decide +kernel
theorem dX8_film_68 : decode cX8_film 68 = .ok (.imul, 1) := by decide +kernel
theorem dX8_film_69 : decode cX8_film 69 = .ok (.iload 6, 2) := by decide +kernel
theorem dX8_film_71 : decode cX8_film 71 = .ok (.iadd, 1) := by decide +kernel
theorem dX8_film_72 : decode cX8_film 72 = .ok (.iaload, 1) := by decide +kernel
theorem dX8_film_73 : decode cX8_film 73 = .ok (.i2l, 1) := by decide +kernel
theorem dX8_film_74 : decode cX8_film 74 = .ok (.lastore, 1) := by decide +kernel
theorem dX8_film_75 : decode cX8_film 75 = .ok (.iinc 6 1, 3) := by decide +kernel
theorem dX8_film_78 : decode cX8_film 78 = .ok (.goto (-36), 3) := by decide +kernel
theorem dX8_film_81 : decode cX8_film 81 = .ok (.iconst 5, 1) := by decide +kernel
theorem dX8_film_82 : decode cX8_film 82 = .ok (.ireturn, 1) := by decide +kernel
theorem dX8_lowest_0 : decode cX8_lowest 0 = .ok (.iload_n 2, 1) := by decide +kernel
theorem dX8_lowest_1 : decode cX8_lowest 1 = .ok (.ifCond .ne 13, 3) := by decide +kernel
theorem dX8_lowest_4 : decode cX8_lowest 4 = .ok (.lload_n 0, 1) := by decide +kernel
theorem dX8_lowest_5 : decode cX8_lowest 5 = .ok (.bipush 56, 2) := by decide +kernel
theorem dX8_lowest_7 : decode cX8_lowest 7 = .ok (.lshl, 1) := by decide +kernel
theorem dX8_lowest_8 : decode cX8_lowest 8 = .ok (.bipush 56, 2) := by decide +kernel
theorem dX8_lowest_10 : decode cX8_lowest 10 = .ok (.lshr, 1) := by decide +kernel
theorem dX8_lowest_11 : decode cX8_lowest 11 = .ok (.goto 34, 3) := by decide +kernel
theorem dX8_lowest_14 : decode cX8_lowest 14 = .ok (.iload_n 2, 1) := by decide +kernel
theorem dX8_lowest_15 : decode cX8_lowest 15 = .ok (.iconst 1, 1) := by decide +kernel

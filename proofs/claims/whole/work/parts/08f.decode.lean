theorem dX8_apart_13 : decode cX8_apart 13 = .ok (.getfield 42, 3) := by decide +kernel
theorem dX8_apart_16 : decode cX8_apart 16 = .ok (.iconst 1, 1) := by decide +kernel
theorem dX8_apart_17 : decode cX8_apart 17 = .ok (.laload, 1) := by decide +kernel
theorem dX8_apart_18 : decode cX8_apart 18 = .ok (.aload_n 0, 1) := by decide +kernel
theorem dX8_apart_19 : decode cX8_apart 19 = .ok (.getfield 42, 3) := by decide +kernel
theorem dX8_apart_22 : decode cX8_apart 22 = .ok (.iconst 0, 1) := by decide +kernel
theorem dX8_apart_23 : decode cX8_apart 23 = .ok (.laload, 1) := by decide +kernel
theorem dX8_apart_24 : decode cX8_apart 24 = .ok (.invokevirtual 107, 3) := by decide +kernel
theorem dX8_apart_27 : decode cX8_apart 27 = .ok (.return_, 1) := by decide +kernel
theorem dX8_apart_28 : decode cX8_apart 28 = .ok (.aload_n 0, 1) := by decide +kernel
theorem dX8_apart_29 : decode cX8_apart 29 = .ok (.getfield 42, 3) := by decide +kernel
theorem dX8_apart_32 : decode cX8_apart 32 = .ok (.iload_n 1, 1) := by decide +kernel
theorem dX8_apart_33 : decode cX8_apart 33 = .ok (.laload, 1) := by decide +kernel
theorem dX8_apart_34 : decode cX8_apart 34 = .ok (.invokestatic 88, 3) := by decide +kernel
theorem dX8_apart_37 : decode cX8_apart 37 = .ok (.istore_n 2, 1) := by decide +kernel
theorem dX8_apart_38 : decode cX8_apart 38 = .ok (.iconst 0, 1) := by decide +kernel
theorem dX8_apart_39 : decode cX8_apart 39 = .ok (.istore_n 3, 1) := by decide +kernel
theorem dX8_apart_40 : decode cX8_apart 40 = .ok (.iload_n 3, 1) := by decide +kernel
theorem dX8_apart_41 : decode cX8_apart 41 = .ok (.iconst 5, 1) := by decide +kernel
theorem dX8_apart_42 : decode cX8_apart 42 = .ok (.if_icmp .ge 20, 3) := by decide +kernel
theorem dX8_apart_45 : decode cX8_apart 45 = .ok (.aload_n 0, 1) := by decide +kernel
theorem dX8_apart_46 : decode cX8_apart 46 = .ok (.getfield 42, 3) := by decide +kernel
theorem dX8_apart_49 : decode cX8_apart 49 = .ok (.iload_n 3, 1) := by decide +kernel
theorem dX8_apart_50 : decode cX8_apart 50 = .ok (.dup2, 1) := by decide +kernel
theorem dX8_apart_51 : decode cX8_apart 51 = .ok (.laload, 1) := by decide +kernel
theorem dX8_apart_52 : decode cX8_apart 52 = .ok (.iload_n 2, 1) := by decide +kernel
theorem dX8_apart_53 : decode cX8_apart 53 = .ok (.i2l, 1) := by decide +kernel
theorem dX8_apart_54 : decode cX8_apart 54 = .ok (.lmul, 1) := by decide +kernel
theorem dX8_apart_55 : decode cX8_apart 55 = .ok (.lastore, 1) := by decide +kernel
theorem dX8_apart_56 : decode cX8_apart 56 = .ok (.iinc 3 1, 3) := by decide +kernel
theorem dX8_apart_59 : decode cX8_apart 59 = .ok (.goto (-19), 3) := by decide +kernel
theorem dX8_apart_62 : decode cX8_apart 62 = .ok (.iload_n 1, 1) := by decide +kernel
theorem dX8_apart_63 : decode cX8_apart 63 = .ok (.iconst 3, 1) := by decide +kernel
theorem dX8_apart_64 : decode cX8_apart 64 = .ok (.if_icmp .ne 34, 3) := by decide +kernel
theorem dX8_apart_67 : decode cX8_apart 67 = .ok (.aload_n 0, 1) := by decide +kernel
theorem dX8_apart_68 : decode cX8_apart 68 = .ok (.aload_n 0, 1) := by decide +kernel
theorem dX8_apart_69 : decode cX8_apart 69 = .ok (.getfield 42, 3) := by decide +kernel
theorem dX8_apart_72 : decode cX8_apart 72 = .ok (.iconst 3, 1) := by decide +kernel
theorem dX8_apart_73 : decode cX8_apart 73 = .ok (.laload, 1) := by decide +kernel
theorem dX8_apart_74 : decode cX8_apart 74 = .ok (.aload_n 0, 1) := by decide +kernel
theorem dX8_apart_75 : decode cX8_apart 75 = .ok (.getfield 42, 3) := by decide +kernel
theorem dX8_apart_78 : decode cX8_apart 78 = .ok (.iconst 2, 1) := by decide +kernel
theorem dX8_apart_79 : decode cX8_apart 79 = .ok (.laload, 1) := by decide +kernel
theorem dX8_apart_80 : decode cX8_apart 80 = .ok (.aload_n 0, 1) := by decide +kernel
theorem dX8_apart_81 : decode cX8_apart 81 = .ok (.getfield 42, 3) := by decide +kernel
theorem dX8_apart_84 : decode cX8_apart 84 = .ok (.iconst 1, 1) := by decide +kernel
theorem dX8_apart_85 : decode cX8_apart 85 = .ok (.laload, 1) := by decide +kernel
theorem dX8_apart_86 : decode cX8_apart 86 = .ok (.aload_n 0, 1) := by decide +kernel
theorem dX8_apart_87 : decode cX8_apart 87 = .ok (.getfield 42, 3) := by decide +kernel
theorem dX8_apart_90 : decode cX8_apart 90 = .ok (.iconst 0, 1) := by decide +kernel
theorem dX8_apart_91 : decode cX8_apart 91 = .ok (.laload, 1) := by decide +kernel
theorem dX8_apart_92 : decode cX8_apart 92 = .ok (.invokevirtual 111, 3) := by decide +kernel
theorem dX8_apart_95 : decode cX8_apart 95 = .ok (.goto 7, 3) := by decide +kernel
theorem dX8_apart_98 : decode cX8_apart 98 = .ok (.aload_n 0, 1) := by decide +kernel
theorem dX8_apart_99 : decode cX8_apart 99 = .ok (.invokevirtual 115, 3) := by decide +kernel
theorem dX8_apart_102 : decode cX8_apart 102 = .ok (.aload_n 0, 1) := by decide +kernel
theorem dX8_apart_103 : decode cX8_apart 103 = .ok (.aload_n 0, 1) := by decide +kernel
theorem dX8_apart_104 : decode cX8_apart 104 = .ok (.getfield 98, 3) := by decide +kernel
theorem dX8_apart_107 : decode cX8_apart 107 = .ok (.iconst 0, 1) := by decide +kernel
theorem dX8_apart_108 : decode cX8_apart 108 = .ok (.iload_n 1, 1) := by decide +kernel
theorem dX8_apart_109 : decode cX8_apart 109 = .ok (.aload_n 0, 1) := by decide +kernel
theorem dX8_apart_110 : decode cX8_apart 110 = .ok (.getfield 98, 3) := by decide +kernel
theorem dX8_apart_113 : decode cX8_apart 113 = .ok (.isub, 1) := by decide +kernel
theorem dX8_apart_114 : decode cX8_apart 114 = .ok (.invokevirtual 84, 3) := by decide +kernel
theorem dX8_apart_117 : decode cX8_apart 117 = .ok (.return_, 1) := by decide +kernel
theorem dX8_counts_0 : decode cX8_counts 0 = .ok (.iconst 0, 1) := by decide +kernel
theorem dX8_counts_1 : decode cX8_counts 1 = .ok (.istore_n 1, 1) := by decide +kernel
theorem dX8_counts_2 : decode cX8_counts 2 = .ok (.aload_n 0, 1) := by decide +kernel
theorem dX8_counts_3 : decode cX8_counts 3 = .ok (.getfield 39, 3) := by decide +kernel
theorem dX8_counts_6 : decode cX8_counts 6 = .ok (.iload_n 1, 1) := by decide +kernel
theorem dX8_counts_7 : decode cX8_counts 7 = .ok (.laload, 1) := by decide +kernel
theorem dX8_counts_8 : decode cX8_counts 8 = .ok (.lconst 0, 1) := by decide +kernel
theorem dX8_counts_9 : decode cX8_counts 9 = .ok (.lcmp, 1) := by decide +kernel
theorem dX8_counts_10 : decode cX8_counts 10 = .ok (.ifCond .ne 9, 3) := by decide +kernel
theorem dX8_counts_13 : decode cX8_counts 13 = .ok (.iinc 1 1, 3) := by decide +kernel
theorem dX8_counts_16 : decode cX8_counts 16 = .ok (.goto (-14), 3) := by decide +kernel
theorem dX8_counts_19 : decode cX8_counts 19 = .ok (.aload_n 0, 1) := by decide +kernel
theorem dX8_counts_20 : decode cX8_counts 20 = .ok (.iconst 0, 1) := by decide +kernel
theorem dX8_counts_21 : decode cX8_counts 21 = .ok (.putfield 75, 3) := by decide +kernel
theorem dX8_counts_24 : decode cX8_counts 24 = .ok (.aload_n 0, 1) := by decide +kernel
theorem dX8_counts_25 : decode cX8_counts 25 = .ok (.iload_n 1, 1) := by decide +kernel
theorem dX8_counts_26 : decode cX8_counts 26 = .ok (.putfield 78, 3) := by decide +kernel
theorem dX8_counts_29 : decode cX8_counts 29 = .ok (.aload_n 0, 1) := by decide +kernel
theorem dX8_counts_30 : decode cX8_counts 30 = .ok (.iconst 0, 1) := by decide +kernel
theorem dX8_counts_31 : decode cX8_counts 31 = .ok (.putfield 81, 3) := by decide +kernel
theorem dX8_counts_34 : decode cX8_counts 34 = .ok (.iconst 0, 1) := by decide +kernel
theorem dX8_counts_35 : decode cX8_counts 35 = .ok (.istore_n 2, 1) := by decide +kernel
theorem dX8_counts_36 : decode cX8_counts 36 = .ok (.iload_n 2, 1) := by decide +kernel
theorem dX8_counts_37 : decode cX8_counts 37 = .ok (.iconst 5, 1) := by decide +kernel
theorem dX8_counts_38 : decode cX8_counts 38 = .ok (.if_icmp .ge 34, 3) := by decide +kernel
theorem dX8_counts_41 : decode cX8_counts 41 = .ok (.aload_n 0, 1) := by decide +kernel
theorem dX8_counts_42 : decode cX8_counts 42 = .ok (.getfield 42, 3) := by decide +kernel
theorem dX8_counts_45 : decode cX8_counts 45 = .ok (.iload_n 2, 1) := by decide +kernel
theorem dX8_counts_46 : decode cX8_counts 46 = .ok (.iload_n 2, 1) := by decide +kernel
theorem dX8_counts_47 : decode cX8_counts 47 = .ok (.iload_n 1, 1) := by decide +kernel
theorem dX8_counts_48 : decode cX8_counts 48 = .ok (.iadd, 1) := by decide +kernel
theorem dX8_counts_49 : decode cX8_counts 49 = .ok (.iconst 5, 1) := by decide +kernel
theorem dX8_counts_50 : decode cX8_counts 50 = .ok (.if_icmp .ge 14, 3) := by decide +kernel
theorem dX8_counts_53 : decode cX8_counts 53 = .ok (.aload_n 0, 1) := by decide +kernel
theorem dX8_counts_54 : decode cX8_counts 54 = .ok (.getfield 39, 3) := by decide +kernel
theorem dX8_counts_57 : decode cX8_counts 57 = .ok (.iload_n 2, 1) := by decide +kernel
theorem dX8_counts_58 : decode cX8_counts 58 = .ok (.iload_n 1, 1) := by decide +kernel
theorem dX8_counts_59 : decode cX8_counts 59 = .ok (.iadd, 1) := by decide +kernel
theorem dX8_counts_60 : decode cX8_counts 60 = .ok (.laload, 1) := by decide +kernel
theorem dX8_counts_61 : decode cX8_counts 61 = .ok (.goto 4, 3) := by decide +kernel
theorem dX8_counts_64 : decode cX8_counts 64 = .ok (.lconst 0, 1) := by decide +kernel
theorem dX8_counts_65 : decode cX8_counts 65 = .ok (.lastore, 1) := by decide +kernel
theorem dX8_counts_66 : decode cX8_counts 66 = .ok (.iinc 2 1, 3) := by decide +kernel
theorem dX8_counts_69 : decode cX8_counts 69 = .ok (.goto (-33), 3) := by decide +kernel
theorem dX8_counts_72 : decode cX8_counts 72 = .ok (.aload_n 0, 1) := by decide +kernel
theorem dX8_counts_73 : decode cX8_counts 73 = .ok (.getfield 42, 3) := by decide +kernel
theorem dX8_counts_76 : decode cX8_counts 76 = .ok (.iconst 0, 1) := by decide +kernel
theorem dX8_counts_77 : decode cX8_counts 77 = .ok (.invokestatic 118, 3) := by decide +kernel
theorem dX8_counts_80 : decode cX8_counts 80 = .ok (.istore_n 2, 1) := by decide +kernel
theorem dX8_counts_81 : decode cX8_counts 81 = .ok (.iload_n 2, 1) := by decide +kernel
theorem dX8_counts_82 : decode cX8_counts 82 = .ok (.ifCond .ne 4, 3) := by decide +kernel
theorem dX8_counts_85 : decode cX8_counts 85 = .ok (.return_, 1) := by decide +kernel
theorem dX8_counts_86 : decode cX8_counts 86 = .ok (.aload_n 0, 1) := by decide +kernel
theorem dX8_counts_87 : decode cX8_counts 87 = .ok (.getfield 42, 3) := by decide +kernel
theorem dX8_counts_90 : decode cX8_counts 90 = .ok (.iconst 1, 1) := by decide +kernel
theorem dX8_counts_91 : decode cX8_counts 91 = .ok (.laload, 1) := by decide +kernel
theorem dX8_counts_92 : decode cX8_counts 92 = .ok (.lconst 0, 1) := by decide +kernel
theorem dX8_counts_93 : decode cX8_counts 93 = .ok (.lcmp, 1) := by decide +kernel
theorem dX8_counts_94 : decode cX8_counts 94 = .ok (.ifCond .ne 37, 3) := by decide +kernel
theorem dX8_counts_97 : decode cX8_counts 97 = .ok (.aload_n 0, 1) := by decide +kernel
theorem dX8_counts_98 : decode cX8_counts 98 = .ok (.getfield 42, 3) := by decide +kernel
theorem dX8_counts_101 : decode cX8_counts 101 = .ok (.iconst 3, 1) := by decide +kernel
theorem dX8_counts_102 : decode cX8_counts 102 = .ok (.laload, 1) := by decide +kernel
theorem dX8_counts_103 : decode cX8_counts 103 = .ok (.lconst 0, 1) := by decide +kernel
theorem dX8_counts_104 : decode cX8_counts 104 = .ok (.lcmp, 1) := by decide +kernel
theorem dX8_counts_105 : decode cX8_counts 105 = .ok (.ifCond .ne 26, 3) := by decide +kernel
theorem dX8_counts_108 : decode cX8_counts 108 = .ok (.aload_n 0, 1) := by decide +kernel
theorem dX8_counts_109 : decode cX8_counts 109 = .ok (.aload_n 0, 1) := by decide +kernel
theorem dX8_counts_110 : decode cX8_counts 110 = .ok (.getfield 42, 3) := by decide +kernel
theorem dX8_counts_113 : decode cX8_counts 113 = .ok (.iconst 4, 1) := by decide +kernel
theorem dX8_counts_114 : decode cX8_counts 114 = .ok (.laload, 1) := by decide +kernel
theorem dX8_counts_115 : decode cX8_counts 115 = .ok (.aload_n 0, 1) := by decide +kernel
theorem dX8_counts_116 : decode cX8_counts 116 = .ok (.getfield 42, 3) := by decide +kernel
theorem dX8_counts_119 : decode cX8_counts 119 = .ok (.iconst 2, 1) := by decide +kernel
theorem dX8_counts_120 : decode cX8_counts 120 = .ok (.laload, 1) := by decide +kernel
theorem dX8_counts_121 : decode cX8_counts 121 = .ok (.aload_n 0, 1) := by decide +kernel
theorem dX8_counts_122 : decode cX8_counts 122 = .ok (.getfield 42, 3) := by decide +kernel
theorem dX8_counts_125 : decode cX8_counts 125 = .ok (.iconst 0, 1) := by decide +kernel
theorem dX8_counts_126 : decode cX8_counts 126 = .ok (.laload, 1) := by decide +kernel
theorem dX8_counts_127 : decode cX8_counts 127 = .ok (.invokevirtual 122, 3) := by decide +kernel
theorem dX8_counts_130 : decode cX8_counts 130 = .ok (.return_, 1) := by decide +kernel
theorem dX8_counts_131 : decode cX8_counts 131 = .ok (.aload_n 0, 1) := by decide +kernel
theorem dX8_counts_132 : decode cX8_counts 132 = .ok (.getfield 42, 3) := by decide +kernel
theorem dX8_counts_135 : decode cX8_counts 135 = .ok (.iconst 4, 1) := by decide +kernel
theorem dX8_counts_136 : decode cX8_counts 136 = .ok (.laload, 1) := by decide +kernel
theorem dX8_counts_137 : decode cX8_counts 137 = .ok (.aload_n 0, 1) := by decide +kernel
theorem dX8_counts_138 : decode cX8_counts 138 = .ok (.getfield 42, 3) := by decide +kernel
theorem dX8_counts_141 : decode cX8_counts 141 = .ok (.iconst 1, 1) := by decide +kernel
theorem dX8_counts_142 : decode cX8_counts 142 = .ok (.laload, 1) := by decide +kernel
theorem dX8_counts_143 : decode cX8_counts 143 = .ok (.lmul, 1) := by decide +kernel
theorem dX8_counts_144 : decode cX8_counts 144 = .ok (.aload_n 0, 1) := by decide +kernel
theorem dX8_counts_145 : decode cX8_counts 145 = .ok (.getfield 42, 3) := by decide +kernel
theorem dX8_counts_148 : decode cX8_counts 148 = .ok (.iconst 1, 1) := by decide +kernel
theorem dX8_counts_149 : decode cX8_counts 149 = .ok (.laload, 1) := by decide +kernel
theorem dX8_counts_150 : decode cX8_counts 150 = .ok (.lmul, 1) := by decide +kernel
theorem dX8_counts_151 : decode cX8_counts 151 = .ok (.aload_n 0, 1) := by decide +kernel
theorem dX8_counts_152 : decode cX8_counts 152 = .ok (.getfield 42, 3) := by decide +kernel
theorem dX8_counts_155 : decode cX8_counts 155 = .ok (.iconst 2, 1) := by decide +kernel
theorem dX8_counts_156 : decode cX8_counts 156 = .ok (.laload, 1) := by decide +kernel
theorem dX8_counts_157 : decode cX8_counts 157 = .ok (.aload_n 0, 1) := by decide +kernel
theorem dX8_counts_158 : decode cX8_counts 158 = .ok (.getfield 42, 3) := by decide +kernel
theorem dX8_counts_161 : decode cX8_counts 161 = .ok (.iconst 1, 1) := by decide +kernel
theorem dX8_counts_162 : decode cX8_counts 162 = .ok (.laload, 1) := by decide +kernel
theorem dX8_counts_163 : decode cX8_counts 163 = .ok (.lmul, 1) := by decide +kernel
theorem dX8_counts_164 : decode cX8_counts 164 = .ok (.aload_n 0, 1) := by decide +kernel
theorem dX8_counts_165 : decode cX8_counts 165 = .ok (.getfield 42, 3) := by decide +kernel
theorem dX8_counts_168 : decode cX8_counts 168 = .ok (.iconst 3, 1) := by decide +kernel
theorem dX8_counts_169 : decode cX8_counts 169 = .ok (.laload, 1) := by decide +kernel
theorem dX8_counts_170 : decode cX8_counts 170 = .ok (.lmul, 1) := by decide +kernel
theorem dX8_counts_171 : decode cX8_counts 171 = .ok (.lsub, 1) := by decide +kernel
theorem dX8_counts_172 : decode cX8_counts 172 = .ok (.aload_n 0, 1) := by decide +kernel
theorem dX8_counts_173 : decode cX8_counts 173 = .ok (.getfield 42, 3) := by decide +kernel
theorem dX8_counts_176 : decode cX8_counts 176 = .ok (.iconst 0, 1) := by decide +kernel
theorem dX8_counts_177 : decode cX8_counts 177 = .ok (.laload, 1) := by decide +kernel
theorem dX8_counts_178 : decode cX8_counts 178 = .ok (.aload_n 0, 1) := by decide +kernel
theorem dX8_counts_179 : decode cX8_counts 179 = .ok (.getfield 42, 3) := by decide +kernel
theorem dX8_counts_182 : decode cX8_counts 182 = .ok (.iconst 3, 1) := by decide +kernel
theorem dX8_counts_183 : decode cX8_counts 183 = .ok (.laload, 1) := by decide +kernel
theorem dX8_counts_184 : decode cX8_counts 184 = .ok (.lmul, 1) := by decide +kernel
theorem dX8_counts_185 : decode cX8_counts 185 = .ok (.aload_n 0, 1) := by decide +kernel
theorem dX8_counts_186 : decode cX8_counts 186 = .ok (.getfield 42, 3) := by decide +kernel
theorem dX8_counts_189 : decode cX8_counts 189 = .ok (.iconst 3, 1) := by decide +kernel
theorem dX8_counts_190 : decode cX8_counts 190 = .ok (.laload, 1) := by decide +kernel
theorem dX8_counts_191 : decode cX8_counts 191 = .ok (.lmul, 1) := by decide +kernel
theorem dX8_counts_192 : decode cX8_counts 192 = .ok (.ladd, 1) := by decide +kernel
theorem dX8_counts_193 : decode cX8_counts 193 = .ok (.lstore_n 3, 1) := by decide +kernel
theorem dX8_counts_194 : decode cX8_counts 194 = .ok (.aload_n 0, 1) := by decide +kernel
theorem dX8_counts_195 : decode cX8_counts 195 = .ok (.getfield 42, 3) := by decide +kernel
theorem dX8_counts_198 : decode cX8_counts 198 = .ok (.iconst 3, 1) := by decide +kernel
theorem dX8_counts_199 : decode cX8_counts 199 = .ok (.laload, 1) := by decide +kernel
theorem dX8_counts_200 : decode cX8_counts 200 = .ok (.lconst 0, 1) := by decide +kernel
theorem dX8_counts_201 : decode cX8_counts 201 = .ok (.lcmp, 1) := by decide +kernel
theorem dX8_counts_202 : decode cX8_counts 202 = .ok (.ifCond .eq 79, 3) := by decide +kernel
theorem dX8_counts_205 : decode cX8_counts 205 = .ok (.lload_n 3, 1) := by decide +kernel
theorem dX8_counts_206 : decode cX8_counts 206 = .ok (.lconst 0, 1) := by decide +kernel
theorem dX8_counts_207 : decode cX8_counts 207 = .ok (.lcmp, 1) := by decide +kernel
theorem dX8_counts_208 : decode cX8_counts 208 = .ok (.ifCond .ne 73, 3) := by decide +kernel
theorem dX8_counts_211 : decode cX8_counts 211 = .ok (.aload_n 0, 1) := by decide +kernel
theorem dX8_counts_212 : decode cX8_counts 212 = .ok (.aload_n 0, 1) := by decide +kernel
theorem dX8_counts_213 : decode cX8_counts 213 = .ok (.getfield 42, 3) := by decide +kernel
theorem dX8_counts_216 : decode cX8_counts 216 = .ok (.iconst 1, 1) := by decide +kernel
theorem dX8_counts_217 : decode cX8_counts 217 = .ok (.laload, 1) := by decide +kernel
theorem dX8_counts_218 : decode cX8_counts 218 = .ok (.invokestatic 88, 3) := by decide +kernel
theorem dX8_counts_221 : decode cX8_counts 221 = .ok (.ineg, 1) := by decide +kernel
theorem dX8_counts_222 : decode cX8_counts 222 = .ok (.aload_n 0, 1) := by decide +kernel
theorem dX8_counts_223 : decode cX8_counts 223 = .ok (.getfield 42, 3) := by decide +kernel
theorem dX8_counts_226 : decode cX8_counts 226 = .ok (.iconst 3, 1) := by decide +kernel
theorem dX8_counts_227 : decode cX8_counts 227 = .ok (.laload, 1) := by decide +kernel
theorem dX8_counts_228 : decode cX8_counts 228 = .ok (.invokestatic 88, 3) := by decide +kernel
theorem dX8_counts_231 : decode cX8_counts 231 = .ok (.imul, 1) := by decide +kernel
theorem dX8_counts_232 : decode cX8_counts 232 = .ok (.invokevirtual 92, 3) := by decide +kernel
theorem dX8_counts_235 : decode cX8_counts 235 = .ok (.aload_n 0, 1) := by decide +kernel
theorem dX8_counts_236 : decode cX8_counts 236 = .ok (.aload_n 0, 1) := by decide +kernel
theorem dX8_counts_237 : decode cX8_counts 237 = .ok (.getfield 42, 3) := by decide +kernel
theorem dX8_counts_240 : decode cX8_counts 240 = .ok (.iconst 4, 1) := by decide +kernel
theorem dX8_counts_241 : decode cX8_counts 241 = .ok (.laload, 1) := by decide +kernel
theorem dX8_counts_242 : decode cX8_counts 242 = .ok (.aload_n 0, 1) := by decide +kernel
theorem dX8_counts_243 : decode cX8_counts 243 = .ok (.getfield 42, 3) := by decide +kernel
theorem dX8_counts_246 : decode cX8_counts 246 = .ok (.iconst 1, 1) := by decide +kernel
theorem dX8_counts_247 : decode cX8_counts 247 = .ok (.laload, 1) := by decide +kernel
theorem dX8_counts_248 : decode cX8_counts 248 = .ok (.lmul, 1) := by decide +kernel
theorem dX8_counts_249 : decode cX8_counts 249 = .ok (.aload_n 0, 1) := by decide +kernel
theorem dX8_counts_250 : decode cX8_counts 250 = .ok (.getfield 42, 3) := by decide +kernel
theorem dX8_counts_253 : decode cX8_counts 253 = .ok (.iconst 3, 1) := by decide +kernel
theorem dX8_counts_254 : decode cX8_counts 254 = .ok (.laload, 1) := by decide +kernel
theorem dX8_counts_255 : decode cX8_counts 255 = .ok (.aload_n 0, 1) := by decide +kernel
theorem dX8_counts_256 : decode cX8_counts 256 = .ok (.getfield 42, 3) := by decide +kernel
theorem dX8_counts_259 : decode cX8_counts 259 = .ok (.iconst 1, 1) := by decide +kernel
theorem dX8_counts_260 : decode cX8_counts 260 = .ok (.laload, 1) := by decide +kernel
theorem dX8_counts_261 : decode cX8_counts 261 = .ok (.lmul, 1) := by decide +kernel
theorem dX8_counts_262 : decode cX8_counts 262 = .ok (.aload_n 0, 1) := by decide +kernel
theorem dX8_counts_263 : decode cX8_counts 263 = .ok (.getfield 42, 3) := by decide +kernel
theorem dX8_counts_266 : decode cX8_counts 266 = .ok (.iconst 0, 1) := by decide +kernel
theorem dX8_counts_267 : decode cX8_counts 267 = .ok (.laload, 1) := by decide +kernel
theorem dX8_counts_268 : decode cX8_counts 268 = .ok (.aload_n 0, 1) := by decide +kernel
theorem dX8_counts_269 : decode cX8_counts 269 = .ok (.getfield 42, 3) := by decide +kernel
theorem dX8_counts_272 : decode cX8_counts 272 = .ok (.iconst 3, 1) := by decide +kernel
theorem dX8_counts_273 : decode cX8_counts 273 = .ok (.laload, 1) := by decide +kernel
theorem dX8_counts_274 : decode cX8_counts 274 = .ok (.lmul, 1) := by decide +kernel
theorem dX8_counts_275 : decode cX8_counts 275 = .ok (.invokevirtual 107, 3) := by decide +kernel
theorem dX8_counts_278 : decode cX8_counts 278 = .ok (.goto 8, 3) := by decide +kernel
theorem dX8_counts_281 : decode cX8_counts 281 = .ok (.aload_n 0, 1) := by decide +kernel
theorem dX8_counts_282 : decode cX8_counts 282 = .ok (.iload_n 2, 1) := by decide +kernel
theorem dX8_counts_283 : decode cX8_counts 283 = .ok (.invokevirtual 125, 3) := by decide +kernel
theorem dX8_counts_286 : decode cX8_counts 286 = .ok (.return_, 1) := by decide +kernel
theorem dX8_multiplies_0 : decode cX8_multiplies 0 = .ok (.iconst 4, 1) := by decide +kernel
theorem dX8_multiplies_1 : decode cX8_multiplies 1 = .ok (.istore_n 2, 1) := by decide +kernel
theorem dX8_multiplies_2 : decode cX8_multiplies 2 = .ok (.iload_n 2, 1) := by decide +kernel
theorem dX8_multiplies_3 : decode cX8_multiplies 3 = .ok (.ifCond .lt 37, 3) := by decide +kernel
theorem dX8_multiplies_6 : decode cX8_multiplies 6 = .ok (.aload_n 0, 1) := by decide +kernel
theorem dX8_multiplies_7 : decode cX8_multiplies 7 = .ok (.getfield 48, 3) := by decide +kernel
theorem dX8_multiplies_10 : decode cX8_multiplies 10 = .ok (.iload_n 2, 1) := by decide +kernel
theorem dX8_multiplies_11 : decode cX8_multiplies 11 = .ok (.dup2, 1) := by decide +kernel
theorem dX8_multiplies_12 : decode cX8_multiplies 12 = .ok (.laload, 1) := by decide +kernel
theorem dX8_multiplies_13 : decode cX8_multiplies 13 = .ok (.iload_n 2, 1) := by decide +kernel
theorem dX8_multiplies_14 : decode cX8_multiplies 14 = .ok (.ifCond .le 17, 3) := by decide +kernel
theorem dX8_multiplies_17 : decode cX8_multiplies 17 = .ok (.iload_n 1, 1) := by decide +kernel
theorem dX8_multiplies_18 : decode cX8_multiplies 18 = .ok (.i2l, 1) := by decide +kernel
theorem dX8_multiplies_19 : decode cX8_multiplies 19 = .ok (.aload_n 0, 1) := by decide +kernel
theorem dX8_multiplies_20 : decode cX8_multiplies 20 = .ok (.getfield 48, 3) := by decide +kernel
theorem dX8_multiplies_23 : decode cX8_multiplies 23 = .ok (.iload_n 2, 1) := by decide +kernel
theorem dX8_multiplies_24 : decode cX8_multiplies 24 = .ok (.iconst 1, 1) := by decide +kernel
theorem dX8_multiplies_25 : decode cX8_multiplies 25 = .ok (.isub, 1) := by decide +kernel
theorem dX8_multiplies_26 : decode cX8_multiplies 26 = .ok (.laload, 1) := by decide +kernel
theorem dX8_multiplies_27 : decode cX8_multiplies 27 = .ok (.lmul, 1) := by decide +kernel
theorem dX8_multiplies_28 : decode cX8_multiplies 28 = .ok (.goto 4, 3) := by decide +kernel
theorem dX8_multiplies_31 : decode cX8_multiplies 31 = .ok (.lconst 0, 1) := by decide +kernel
theorem dX8_multiplies_32 : decode cX8_multiplies 32 = .ok (.ladd, 1) := by decide +kernel
theorem dX8_multiplies_33 : decode cX8_multiplies 33 = .ok (.lastore, 1) := by decide +kernel
theorem dX8_multiplies_34 : decode cX8_multiplies 34 = .ok (.iinc 2 (-1), 3) := by decide +kernel
theorem dX8_multiplies_37 : decode cX8_multiplies 37 = .ok (.goto (-35), 3) := by decide +kernel
theorem dX8_multiplies_40 : decode cX8_multiplies 40 = .ok (.return_, 1) := by decide +kernel
theorem dX8_turns_0 : decode cX8_turns 0 = .ok (.iconst 0, 1) := by decide +kernel
theorem dX8_turns_1 : decode cX8_turns 1 = .ok (.istore_n 2, 1) := by decide +kernel
theorem dX8_turns_2 : decode cX8_turns 2 = .ok (.iload_n 2, 1) := by decide +kernel
theorem dX8_turns_3 : decode cX8_turns 3 = .ok (.iconst 5, 1) := by decide +kernel
theorem dX8_turns_4 : decode cX8_turns 4 = .ok (.if_icmp .ge 16, 3) := by decide +kernel
theorem dX8_turns_7 : decode cX8_turns 7 = .ok (.aload_n 0, 1) := by decide +kernel
theorem dX8_turns_8 : decode cX8_turns 8 = .ok (.getfield 45, 3) := by decide +kernel
theorem dX8_turns_11 : decode cX8_turns 11 = .ok (.iload_n 2, 1) := by decide +kernel
theorem dX8_turns_12 : decode cX8_turns 12 = .ok (.lconst 0, 1) := by decide +kernel
theorem dX8_turns_13 : decode cX8_turns 13 = .ok (.lastore, 1) := by decide +kernel
theorem dX8_turns_14 : decode cX8_turns 14 = .ok (.iinc 2 1, 3) := by decide +kernel
theorem dX8_turns_17 : decode cX8_turns 17 = .ok (.goto (-15), 3) := by decide +kernel
theorem dX8_turns_20 : decode cX8_turns 20 = .ok (.iconst 0, 1) := by decide +kernel
theorem dX8_turns_21 : decode cX8_turns 21 = .ok (.istore_n 2, 1) := by decide +kernel
theorem dX8_turns_22 : decode cX8_turns 22 = .ok (.iload_n 2, 1) := by decide +kernel
theorem dX8_turns_23 : decode cX8_turns 23 = .ok (.iload_n 1, 1) := by decide +kernel
theorem dX8_turns_24 : decode cX8_turns 24 = .ok (.if_icmp .gt 97, 3) := by decide +kernel
theorem dX8_turns_27 : decode cX8_turns 27 = .ok (.iconst 0, 1) := by decide +kernel
theorem dX8_turns_28 : decode cX8_turns 28 = .ok (.istore_n 3, 1) := by decide +kernel
theorem dX8_turns_29 : decode cX8_turns 29 = .ok (.iload_n 3, 1) := by decide +kernel
theorem dX8_turns_30 : decode cX8_turns 30 = .ok (.iconst 5, 1) := by decide +kernel
theorem dX8_turns_31 : decode cX8_turns 31 = .ok (.if_icmp .ge 29, 3) := by decide +kernel
theorem dX8_turns_34 : decode cX8_turns 34 = .ok (.aload_n 0, 1) := by decide +kernel
theorem dX8_turns_35 : decode cX8_turns 35 = .ok (.getfield 48, 3) := by decide +kernel
theorem dX8_turns_38 : decode cX8_turns 38 = .ok (.iload_n 3, 1) := by decide +kernel
theorem dX8_turns_39 : decode cX8_turns 39 = .ok (.iload_n 3, 1) := by decide +kernel
theorem dX8_turns_40 : decode cX8_turns 40 = .ok (.ifCond .ne 12, 3) := by decide +kernel
theorem dX8_turns_43 : decode cX8_turns 43 = .ok (.aload_n 0, 1) := by decide +kernel
theorem dX8_turns_44 : decode cX8_turns 44 = .ok (.getfield 39, 3) := by decide +kernel
theorem dX8_turns_47 : decode cX8_turns 47 = .ok (.iload_n 2, 1) := by decide +kernel
theorem dX8_turns_48 : decode cX8_turns 48 = .ok (.laload, 1) := by decide +kernel
theorem dX8_turns_49 : decode cX8_turns 49 = .ok (.goto 4, 3) := by decide +kernel
theorem dX8_turns_52 : decode cX8_turns 52 = .ok (.lconst 0, 1) := by decide +kernel
theorem dX8_turns_53 : decode cX8_turns 53 = .ok (.lastore, 1) := by decide +kernel
theorem dX8_turns_54 : decode cX8_turns 54 = .ok (.iinc 3 1, 3) := by decide +kernel
theorem dX8_turns_57 : decode cX8_turns 57 = .ok (.goto (-28), 3) := by decide +kernel
theorem dX8_turns_60 : decode cX8_turns 60 = .ok (.iconst 0, 1) := by decide +kernel
theorem dX8_turns_61 : decode cX8_turns 61 = .ok (.istore_n 3, 1) := by decide +kernel
theorem dX8_turns_62 : decode cX8_turns 62 = .ok (.iload_n 3, 1) := by decide +kernel
theorem dX8_turns_63 : decode cX8_turns 63 = .ok (.iload_n 1, 1) := by decide +kernel
theorem dX8_turns_64 : decode cX8_turns 64 = .ok (.if_icmp .ge 23, 3) := by decide +kernel
theorem dX8_turns_67 : decode cX8_turns 67 = .ok (.aload_n 0, 1) := by decide +kernel
theorem dX8_turns_68 : decode cX8_turns 68 = .ok (.iload_n 3, 1) := by decide +kernel
theorem dX8_turns_69 : decode cX8_turns 69 = .ok (.iload_n 2, 1) := by decide +kernel
theorem dX8_turns_70 : decode cX8_turns 70 = .ok (.if_icmp .ge 7, 3) := by decide +kernel
theorem dX8_turns_73 : decode cX8_turns 73 = .ok (.iconst 1, 1) := by decide +kernel
theorem dX8_turns_74 : decode cX8_turns 74 = .ok (.goto 4, 3) := by decide +kernel
theorem dX8_turns_77 : decode cX8_turns 77 = .ok (.iconst (-1), 1) := by decide +kernel
theorem dX8_turns_78 : decode cX8_turns 78 = .ok (.invokevirtual 128, 3) := by decide +kernel
theorem dX8_turns_81 : decode cX8_turns 81 = .ok (.iinc 3 1, 3) := by decide +kernel
theorem dX8_turns_84 : decode cX8_turns 84 = .ok (.goto (-22), 3) := by decide +kernel
theorem dX8_turns_87 : decode cX8_turns 87 = .ok (.iconst 0, 1) := by decide +kernel
theorem dX8_turns_88 : decode cX8_turns 88 = .ok (.istore_n 3, 1) := by decide +kernel
theorem dX8_turns_89 : decode cX8_turns 89 = .ok (.iload_n 3, 1) := by decide +kernel
theorem dX8_turns_90 : decode cX8_turns 90 = .ok (.iconst 5, 1) := by decide +kernel
theorem dX8_turns_91 : decode cX8_turns 91 = .ok (.if_icmp .ge 24, 3) := by decide +kernel
theorem dX8_turns_94 : decode cX8_turns 94 = .ok (.aload_n 0, 1) := by decide +kernel
theorem dX8_turns_95 : decode cX8_turns 95 = .ok (.getfield 45, 3) := by decide +kernel
theorem dX8_turns_98 : decode cX8_turns 98 = .ok (.iload_n 3, 1) := by decide +kernel
theorem dX8_turns_99 : decode cX8_turns 99 = .ok (.dup2, 1) := by decide +kernel
theorem dX8_turns_100 : decode cX8_turns 100 = .ok (.laload, 1) := by decide +kernel
theorem dX8_turns_101 : decode cX8_turns 101 = .ok (.aload_n 0, 1) := by decide +kernel
theorem dX8_turns_102 : decode cX8_turns 102 = .ok (.getfield 48, 3) := by decide +kernel
theorem dX8_turns_105 : decode cX8_turns 105 = .ok (.iload_n 3, 1) := by decide +kernel
theorem dX8_turns_106 : decode cX8_turns 106 = .ok (.laload, 1) := by decide +kernel
theorem dX8_turns_107 : decode cX8_turns 107 = .ok (.ladd, 1) := by decide +kernel
theorem dX8_turns_108 : decode cX8_turns 108 = .ok (.lastore, 1) := by decide +kernel
theorem dX8_turns_109 : decode cX8_turns 109 = .ok (.iinc 3 1, 3) := by decide +kernel
theorem dX8_turns_112 : decode cX8_turns 112 = .ok (.goto (-23), 3) := by decide +kernel
theorem dX8_turns_115 : decode cX8_turns 115 = .ok (.iinc 2 1, 3) := by decide +kernel
theorem dX8_turns_118 : decode cX8_turns 118 = .ok (.goto (-96), 3) := by decide +kernel
theorem dX8_turns_121 : decode cX8_turns 121 = .ok (.iconst 0, 1) := by decide +kernel
theorem dX8_turns_122 : decode cX8_turns 122 = .ok (.istore_n 2, 1) := by decide +kernel
theorem dX8_turns_123 : decode cX8_turns 123 = .ok (.iload_n 2, 1) := by decide +kernel
theorem dX8_turns_124 : decode cX8_turns 124 = .ok (.iconst 5, 1) := by decide +kernel
theorem dX8_turns_125 : decode cX8_turns 125 = .ok (.if_icmp .ge 21, 3) := by decide +kernel
theorem dX8_turns_128 : decode cX8_turns 128 = .ok (.aload_n 0, 1) := by decide +kernel
theorem dX8_turns_129 : decode cX8_turns 129 = .ok (.getfield 39, 3) := by decide +kernel
theorem dX8_turns_132 : decode cX8_turns 132 = .ok (.iload_n 2, 1) := by decide +kernel
theorem dX8_turns_133 : decode cX8_turns 133 = .ok (.aload_n 0, 1) := by decide +kernel
theorem dX8_turns_134 : decode cX8_turns 134 = .ok (.getfield 45, 3) := by decide +kernel
theorem dX8_turns_137 : decode cX8_turns 137 = .ok (.iload_n 2, 1) := by decide +kernel
theorem dX8_turns_138 : decode cX8_turns 138 = .ok (.laload, 1) := by decide +kernel
theorem dX8_turns_139 : decode cX8_turns 139 = .ok (.lastore, 1) := by decide +kernel
theorem dX8_turns_140 : decode cX8_turns 140 = .ok (.iinc 2 1, 3) := by decide +kernel
theorem dX8_turns_143 : decode cX8_turns 143 = .ok (.goto (-20), 3) := by decide +kernel
theorem dX8_turns_146 : decode cX8_turns 146 = .ok (.return_, 1) := by decide +kernel
theorem dX8_countsBy_0 : decode cX8_countsBy 0 = .ok (.aload_n 0, 1) := by decide +kernel
theorem dX8_countsBy_1 : decode cX8_countsBy 1 = .ok (.getfield 39, 3) := by decide +kernel
theorem dX8_countsBy_4 : decode cX8_countsBy 4 = .ok (.iconst 0, 1) := by decide +kernel
theorem dX8_countsBy_5 : decode cX8_countsBy 5 = .ok (.invokestatic 118, 3) := by decide +kernel
theorem dX8_countsBy_8 : decode cX8_countsBy 8 = .ok (.istore_n 2, 1) := by decide +kernel
theorem dX8_countsBy_9 : decode cX8_countsBy 9 = .ok (.iload_n 2, 1) := by decide +kernel
theorem dX8_countsBy_10 : decode cX8_countsBy 10 = .ok (.bipush (-4), 2) := by decide +kernel
theorem dX8_countsBy_12 : decode cX8_countsBy 12 = .ok (.if_icmp .ne 6, 3) := by decide +kernel
theorem dX8_countsBy_15 : decode cX8_countsBy 15 = .ok (.bipush (-4), 2) := by decide +kernel
theorem dX8_countsBy_17 : decode cX8_countsBy 17 = .ok (.ireturn, 1) := by decide +kernel
theorem dX8_countsBy_18 : decode cX8_countsBy 18 = .ok (.iload_n 1, 1) := by decide +kernel
theorem dX8_countsBy_19 : decode cX8_countsBy 19 = .ok (.iconst 1, 1) := by decide +kernel
theorem dX8_countsBy_20 : decode cX8_countsBy 20 = .ok (.if_icmp .ne 8, 3) := by decide +kernel
theorem dX8_countsBy_23 : decode cX8_countsBy 23 = .ok (.aload_n 0, 1) := by decide +kernel
theorem dX8_countsBy_24 : decode cX8_countsBy 24 = .ok (.iload_n 2, 1) := by decide +kernel
theorem dX8_countsBy_25 : decode cX8_countsBy 25 = .ok (.invokevirtual 131, 3) := by decide +kernel
theorem dX8_countsBy_28 : decode cX8_countsBy 28 = .ok (.aload_n 0, 1) := by decide +kernel
theorem dX8_countsBy_29 : decode cX8_countsBy 29 = .ok (.getfield 39, 3) := by decide +kernel
theorem dX8_countsBy_32 : decode cX8_countsBy 32 = .ok (.iconst 0, 1) := by decide +kernel
theorem dX8_countsBy_33 : decode cX8_countsBy 33 = .ok (.invokestatic 118, 3) := by decide +kernel
theorem dX8_countsBy_36 : decode cX8_countsBy 36 = .ok (.istore_n 3, 1) := by decide +kernel
theorem dX8_countsBy_37 : decode cX8_countsBy 37 = .ok (.aload_n 0, 1) := by decide +kernel
theorem dX8_countsBy_38 : decode cX8_countsBy 38 = .ok (.invokevirtual 134, 3) := by decide +kernel
theorem dX8_countsBy_41 : decode cX8_countsBy 41 = .ok (.aload_n 0, 1) := by decide +kernel
theorem dX8_countsBy_42 : decode cX8_countsBy 42 = .ok (.dup, 1) := by decide +kernel
theorem dX8_countsBy_43 : decode cX8_countsBy 43 = .ok (.getfield 78, 3) := by decide +kernel
theorem dX8_countsBy_46 : decode cX8_countsBy 46 = .ok (.iload_n 2, 1) := by decide +kernel
theorem dX8_countsBy_47 : decode cX8_countsBy 47 = .ok (.iload_n 3, 1) := by decide +kernel
theorem dX8_countsBy_48 : decode cX8_countsBy 48 = .ok (.isub, 1) := by decide +kernel
theorem dX8_countsBy_49 : decode cX8_countsBy 49 = .ok (.iadd, 1) := by decide +kernel
theorem dX8_countsBy_50 : decode cX8_countsBy 50 = .ok (.putfield 78, 3) := by decide +kernel
theorem dX8_countsBy_53 : decode cX8_countsBy 53 = .ok (.iload_n 2, 1) := by decide +kernel
theorem dX8_countsBy_54 : decode cX8_countsBy 54 = .ok (.ireturn, 1) := by decide +kernel
theorem dX8_isSteady_0 : decode cX8_isSteady 0 = .ok (.aload_n 0, 1) := by decide +kernel
theorem dX8_isSteady_1 : decode cX8_isSteady 1 = .ok (.iload_n 1, 1) := by decide +kernel
theorem dX8_isSteady_2 : decode cX8_isSteady 2 = .ok (.invokevirtual 137, 3) := by decide +kernel
theorem dX8_isSteady_5 : decode cX8_isSteady 5 = .ok (.istore_n 2, 1) := by decide +kernel
theorem dX8_isSteady_6 : decode cX8_isSteady 6 = .ok (.iload_n 2, 1) := by decide +kernel
theorem dX8_isSteady_7 : decode cX8_isSteady 7 = .ok (.bipush (-4), 2) := by decide +kernel
theorem dX8_isSteady_9 : decode cX8_isSteady 9 = .ok (.if_icmp .eq 15, 3) := by decide +kernel
theorem dX8_isSteady_12 : decode cX8_isSteady 12 = .ok (.aload_n 0, 1) := by decide +kernel
theorem dX8_isSteady_13 : decode cX8_isSteady 13 = .ok (.getfield 81, 3) := by decide +kernel
theorem dX8_isSteady_16 : decode cX8_isSteady 16 = .ok (.iload_n 2, 1) := by decide +kernel
theorem dX8_isSteady_17 : decode cX8_isSteady 17 = .ok (.if_icmp .ne 7, 3) := by decide +kernel
theorem dX8_isSteady_20 : decode cX8_isSteady 20 = .ok (.iconst 1, 1) := by decide +kernel
theorem dX8_isSteady_21 : decode cX8_isSteady 21 = .ok (.goto 4, 3) := by decide +kernel
theorem dX8_isSteady_24 : decode cX8_isSteady 24 = .ok (.iconst 0, 1) := by decide +kernel
theorem dX8_isSteady_25 : decode cX8_isSteady 25 = .ok (.ireturn, 1) := by decide +kernel
theorem dX8_isPart_0 : decode cX8_isPart 0 = .ok (.iload_n 0, 1) := by decide +kernel
theorem dX8_isPart_1 : decode cX8_isPart 1 = .ok (.i2l, 1) := by decide +kernel
theorem dX8_isPart_2 : decode cX8_isPart 2 = .ok (.lconst 0, 1) := by decide +kernel
theorem dX8_isPart_3 : decode cX8_isPart 3 = .ok (.lconst 1, 1) := by decide +kernel
theorem dX8_isPart_4 : decode cX8_isPart 4 = .ok (.invokestatic 141, 3) := by decide +kernel
theorem dX8_isPart_7 : decode cX8_isPart 7 = .ok (.ifCond .eq 19, 3) := by decide +kernel
theorem dX8_isPart_10 : decode cX8_isPart 10 = .ok (.iload_n 1, 1) := by decide +kernel
theorem dX8_isPart_11 : decode cX8_isPart 11 = .ok (.i2l, 1) := by decide +kernel
theorem dX8_isPart_12 : decode cX8_isPart 12 = .ok (.lconst 0, 1) := by decide +kernel
theorem dX8_isPart_13 : decode cX8_isPart 13 = .ok (.ldc2_w 96, 3) := by decide +kernel
theorem dX8_isPart_16 : decode cX8_isPart 16 = .ok (.invokestatic 141, 3) := by decide +kernel
theorem dX8_isPart_19 : decode cX8_isPart 19 = .ok (.ifCond .eq 7, 3) := by decide +kernel
theorem dX8_isPart_22 : decode cX8_isPart 22 = .ok (.iconst 1, 1) := by decide +kernel
theorem dX8_isPart_23 : decode cX8_isPart 23 = .ok (.goto 4, 3) := by decide +kernel
theorem dX8_isPart_26 : decode cX8_isPart 26 = .ok (.iconst 0, 1) := by decide +kernel
theorem dX8_isPart_27 : decode cX8_isPart 27 = .ok (.ireturn, 1) := by decide +kernel
theorem dX8_part_0 : decode cX8_part 0 = .ok (.iload_n 1, 1) := by decide +kernel
theorem dX8_part_1 : decode cX8_part 1 = .ok (.iload_n 2, 1) := by decide +kernel
theorem dX8_part_2 : decode cX8_part 2 = .ok (.invokestatic 145, 3) := by decide +kernel
theorem dX8_part_5 : decode cX8_part 5 = .ok (.ifCond .eq 17, 3) := by decide +kernel
theorem dX8_part_8 : decode cX8_part 8 = .ok (.iload_n 3, 1) := by decide +kernel
theorem dX8_part_9 : decode cX8_part 9 = .ok (.i2l, 1) := by decide +kernel
theorem dX8_part_10 : decode cX8_part 10 = .ok (.ldc2_w 149, 3) := by decide +kernel
theorem dX8_part_13 : decode cX8_part 13 = .ok (.ldc2_w 151, 3) := by decide +kernel
theorem dX8_part_16 : decode cX8_part 16 = .ok (.invokestatic 141, 3) := by decide +kernel
theorem dX8_part_19 : decode cX8_part 19 = .ok (.ifCond .ne 5, 3) := by decide +kernel
theorem dX8_part_22 : decode cX8_part 22 = .ok (.iconst (-1), 1) := by decide +kernel
theorem dX8_part_23 : decode cX8_part 23 = .ok (.ireturn, 1) := by decide +kernel
theorem dX8_part_24 : decode cX8_part 24 = .ok (.aload_n 0, 1) := by decide +kernel
theorem dX8_part_25 : decode cX8_part 25 = .ok (.getfield 7, 3) := by decide +kernel
theorem dX8_part_28 : decode cX8_part 28 = .ok (.iconst 5, 1) := by decide +kernel
theorem dX8_part_29 : decode cX8_part 29 = .ok (.iload_n 1, 1) := by decide +kernel
theorem dX8_part_30 : decode cX8_part 30 = .ok (.imul, 1) := by decide +kernel
theorem dX8_part_31 : decode cX8_part 31 = .ok (.iload_n 2, 1) := by decide +kernel
theorem dX8_part_32 : decode cX8_part 32 = .ok (.iadd, 1) := by decide +kernel
theorem dX8_part_33 : decode cX8_part 33 = .ok (.iaload, 1) := by decide +kernel
theorem dX8_part_34 : decode cX8_part 34 = .ok (.istore 4, 2) := by decide +kernel
theorem dX8_part_36 : decode cX8_part 36 = .ok (.iload 4, 2) := by decide +kernel
theorem dX8_part_38 : decode cX8_part 38 = .ok (.iload_n 3, 1) := by decide +kernel
theorem dX8_part_39 : decode cX8_part 39 = .ok (.if_icmp .ne 6, 3) := by decide +kernel
theorem dX8_part_42 : decode cX8_part 42 = .ok (.bipush (-2), 2) := by decide +kernel
theorem dX8_part_44 : decode cX8_part 44 = .ok (.ireturn, 1) := by decide +kernel
theorem dX8_part_45 : decode cX8_part 45 = .ok (.aload_n 0, 1) := by decide +kernel
theorem dX8_part_46 : decode cX8_part 46 = .ok (.invokevirtual 153, 3) := by decide +kernel
theorem dX8_part_49 : decode cX8_part 49 = .ok (.aload_n 0, 1) := by decide +kernel
theorem dX8_part_50 : decode cX8_part 50 = .ok (.getfield 7, 3) := by decide +kernel
theorem dX8_part_53 : decode cX8_part 53 = .ok (.iconst 5, 1) := by decide +kernel
theorem dX8_part_54 : decode cX8_part 54 = .ok (.iload_n 1, 1) := by decide +kernel
theorem dX8_part_55 : decode cX8_part 55 = .ok (.imul, 1) := by decide +kernel
theorem dX8_part_56 : decode cX8_part 56 = .ok (.iload_n 2, 1) := by decide +kernel
theorem dX8_part_57 : decode cX8_part 57 = .ok (.iadd, 1) := by decide +kernel
theorem dX8_part_58 : decode cX8_part 58 = .ok (.iload_n 3, 1) := by decide +kernel
theorem dX8_part_59 : decode cX8_part 59 = .ok (.iastore, 1) := by decide +kernel
theorem dX8_part_60 : decode cX8_part 60 = .ok (.iload 4, 2) := by decide +kernel
theorem dX8_part_62 : decode cX8_part 62 = .ok (.bipush 9, 2) := by decide +kernel
theorem dX8_part_64 : decode cX8_part 64 = .ok (.iadd, 1) := by decide +kernel
theorem dX8_part_65 : decode cX8_part 65 = .ok (.ireturn, 1) := by decide +kernel
theorem dX8_isGain_0 : decode cX8_isGain 0 = .ok (.iload_n 0, 1) := by decide +kernel
theorem dX8_isGain_1 : decode cX8_isGain 1 = .ok (.i2l, 1) := by decide +kernel
theorem dX8_isGain_2 : decode cX8_isGain 2 = .ok (.ldc2_w 156, 3) := by decide +kernel
theorem dX8_isGain_5 : decode cX8_isGain 5 = .ok (.ldc2_w 158, 3) := by decide +kernel
theorem dX8_isGain_8 : decode cX8_isGain 8 = .ok (.invokestatic 141, 3) := by decide +kernel
theorem dX8_isGain_11 : decode cX8_isGain 11 = .ok (.ireturn, 1) := by decide +kernel
theorem dX8_gain_0 : decode cX8_gain 0 = .ok (.iload_n 1, 1) := by decide +kernel
theorem dX8_gain_1 : decode cX8_gain 1 = .ok (.invokestatic 160, 3) := by decide +kernel
theorem dX8_gain_4 : decode cX8_gain 4 = .ok (.ifCond .ne 5, 3) := by decide +kernel
theorem dX8_gain_7 : decode cX8_gain 7 = .ok (.iconst (-1), 1) := by decide +kernel
theorem dX8_gain_8 : decode cX8_gain 8 = .ok (.ireturn, 1) := by decide +kernel
theorem dX8_gain_9 : decode cX8_gain 9 = .ok (.aload_n 0, 1) := by decide +kernel
theorem dX8_gain_10 : decode cX8_gain 10 = .ok (.getfield 7, 3) := by decide +kernel
theorem dX8_gain_13 : decode cX8_gain 13 = .ok (.bipush 10, 2) := by decide +kernel
theorem dX8_gain_15 : decode cX8_gain 15 = .ok (.iaload, 1) := by decide +kernel
theorem dX8_gain_16 : decode cX8_gain 16 = .ok (.istore_n 2, 1) := by decide +kernel
theorem dX8_gain_17 : decode cX8_gain 17 = .ok (.iload_n 2, 1) := by decide +kernel
theorem dX8_gain_18 : decode cX8_gain 18 = .ok (.iload_n 1, 1) := by decide +kernel
theorem dX8_gain_19 : decode cX8_gain 19 = .ok (.if_icmp .ne 6, 3) := by decide +kernel
theorem dX8_gain_22 : decode cX8_gain 22 = .ok (.bipush (-2), 2) := by decide +kernel
theorem dX8_gain_24 : decode cX8_gain 24 = .ok (.ireturn, 1) := by decide +kernel
theorem dX8_gain_25 : decode cX8_gain 25 = .ok (.aload_n 0, 1) := by decide +kernel
theorem dX8_gain_26 : decode cX8_gain 26 = .ok (.invokevirtual 153, 3) := by decide +kernel
theorem dX8_gain_29 : decode cX8_gain 29 = .ok (.aload_n 0, 1) := by decide +kernel
theorem dX8_gain_30 : decode cX8_gain 30 = .ok (.getfield 7, 3) := by decide +kernel
theorem dX8_gain_33 : decode cX8_gain 33 = .ok (.bipush 10, 2) := by decide +kernel
theorem dX8_gain_35 : decode cX8_gain 35 = .ok (.iload_n 1, 1) := by decide +kernel
theorem dX8_gain_36 : decode cX8_gain 36 = .ok (.iastore, 1) := by decide +kernel
theorem dX8_gain_37 : decode cX8_gain 37 = .ok (.iload_n 2, 1) := by decide +kernel
theorem dX8_gain_38 : decode cX8_gain 38 = .ok (.sipush 800, 3) := by decide +kernel
theorem dX8_gain_41 : decode cX8_gain 41 = .ok (.iadd, 1) := by decide +kernel
theorem dX8_gain_42 : decode cX8_gain 42 = .ok (.ireturn, 1) := by decide +kernel
theorem dX8_told_0 : decode cX8_told 0 = .ok (.iload_n 1, 1) := by decide +kernel
theorem dX8_told_1 : decode cX8_told 1 = .ok (.iload_n 2, 1) := by decide +kernel
theorem dX8_told_2 : decode cX8_told 2 = .ok (.invokestatic 145, 3) := by decide +kernel
theorem dX8_told_5 : decode cX8_told 5 = .ok (.ifCond .eq 19, 3) := by decide +kernel
theorem dX8_told_8 : decode cX8_told 8 = .ok (.aload_n 0, 1) := by decide +kernel
theorem dX8_told_9 : decode cX8_told 9 = .ok (.getfield 7, 3) := by decide +kernel
theorem dX8_told_12 : decode cX8_told 12 = .ok (.iconst 5, 1) := by decide +kernel
theorem dX8_told_13 : decode cX8_told 13 = .ok (.iload_n 1, 1) := by decide +kernel
theorem dX8_told_14 : decode cX8_told 14 = .ok (.imul, 1) := by decide +kernel
theorem dX8_told_15 : decode cX8_told 15 = .ok (.iload_n 2, 1) := by decide +kernel
theorem dX8_told_16 : decode cX8_told 16 = .ok (.iadd, 1) := by decide +kernel
theorem dX8_told_17 : decode cX8_told 17 = .ok (.iaload, 1) := by decide +kernel
theorem dX8_told_18 : decode cX8_told 18 = .ok (.bipush 9, 2) := by decide +kernel
theorem dX8_told_20 : decode cX8_told 20 = .ok (.iadd, 1) := by decide +kernel
theorem dX8_told_21 : decode cX8_told 21 = .ok (.goto 4, 3) := by decide +kernel
theorem dX8_told_24 : decode cX8_told 24 = .ok (.iconst (-1), 1) := by decide +kernel
theorem dX8_told_25 : decode cX8_told 25 = .ok (.ireturn, 1) := by decide +kernel
theorem dX8_degreeOf_0 : decode cX8_degreeOf 0 = .ok (.iconst 4, 1) := by decide +kernel
theorem dX8_degreeOf_1 : decode cX8_degreeOf 1 = .ok (.istore_n 2, 1) := by decide +kernel
theorem dX8_degreeOf_2 : decode cX8_degreeOf 2 = .ok (.iload_n 2, 1) := by decide +kernel
theorem dX8_degreeOf_3 : decode cX8_degreeOf 3 = .ok (.ifCond .lt 22, 3) := by decide +kernel
theorem dX8_degreeOf_6 : decode cX8_degreeOf 6 = .ok (.aload_n 0, 1) := by decide +kernel
theorem dX8_degreeOf_7 : decode cX8_degreeOf 7 = .ok (.getfield 7, 3) := by decide +kernel
theorem dX8_degreeOf_10 : decode cX8_degreeOf 10 = .ok (.iconst 5, 1) := by decide +kernel
theorem dX8_degreeOf_11 : decode cX8_degreeOf 11 = .ok (.iload_n 1, 1) := by decide +kernel
theorem dX8_degreeOf_12 : decode cX8_degreeOf 12 = .ok (.imul, 1) := by decide +kernel
theorem dX8_degreeOf_13 : decode cX8_degreeOf 13 = .ok (.iload_n 2, 1) := by decide +kernel
theorem dX8_degreeOf_14 : decode cX8_degreeOf 14 = .ok (.iadd, 1) := by decide +kernel
theorem dX8_degreeOf_15 : decode cX8_degreeOf 15 = .ok (.iaload, 1) := by decide +kernel
theorem dX8_degreeOf_16 : decode cX8_degreeOf 16 = .ok (.ifCond .ne 9, 3) := by decide +kernel
theorem dX8_degreeOf_19 : decode cX8_degreeOf 19 = .ok (.iinc 2 (-1), 3) := by decide +kernel
theorem dX8_degreeOf_22 : decode cX8_degreeOf 22 = .ok (.goto (-20), 3) := by decide +kernel
theorem dX8_degreeOf_25 : decode cX8_degreeOf 25 = .ok (.iload_n 2, 1) := by decide +kernel
theorem dX8_degreeOf_26 : decode cX8_degreeOf 26 = .ok (.ifCond .ge 8, 3) := by decide +kernel
theorem dX8_degreeOf_29 : decode cX8_degreeOf 29 = .ok (.bipush (-4), 2) := by decide +kernel
theorem dX8_degreeOf_31 : decode cX8_degreeOf 31 = .ok (.goto 4, 3) := by decide +kernel
theorem dX8_degreeOf_34 : decode cX8_degreeOf 34 = .ok (.iload_n 2, 1) := by decide +kernel
theorem dX8_degreeOf_35 : decode cX8_degreeOf 35 = .ok (.ireturn, 1) := by decide +kernel
theorem dX8_count_0 : decode cX8_count 0 = .ok (.iload_n 1, 1) := by decide +kernel
theorem dX8_count_1 : decode cX8_count 1 = .ok (.tableswitch 80 0 4 #[35, 47, 47, 55, 75], 35) := by decide +kernel
theorem dX8_count_36 : decode cX8_count 36 = .ok (.aload_n 0, 1) := by decide +kernel
theorem dX8_count_37 : decode cX8_count 37 = .ok (.getfield 7, 3) := by decide +kernel
theorem dX8_count_40 : decode cX8_count 40 = .ok (.bipush 10, 2) := by decide +kernel
theorem dX8_count_42 : decode cX8_count 42 = .ok (.iaload, 1) := by decide +kernel
theorem dX8_count_43 : decode cX8_count 43 = .ok (.sipush 800, 3) := by decide +kernel
theorem dX8_count_46 : decode cX8_count 46 = .ok (.iadd, 1) := by decide +kernel
theorem dX8_count_47 : decode cX8_count 47 = .ok (.ireturn, 1) := by decide +kernel
theorem dX8_count_48 : decode cX8_count 48 = .ok (.aload_n 0, 1) := by decide +kernel
theorem dX8_count_49 : decode cX8_count 49 = .ok (.iload_n 1, 1) := by decide +kernel
theorem dX8_count_50 : decode cX8_count 50 = .ok (.iconst 1, 1) := by decide +kernel
theorem dX8_count_51 : decode cX8_count 51 = .ok (.isub, 1) := by decide +kernel
theorem dX8_count_52 : decode cX8_count 52 = .ok (.invokevirtual 164, 3) := by decide +kernel
theorem dX8_count_55 : decode cX8_count 55 = .ok (.ireturn, 1) := by decide +kernel
theorem dX8_count_56 : decode cX8_count 56 = .ok (.aload_n 0, 1) := by decide +kernel
theorem dX8_count_57 : decode cX8_count 57 = .ok (.aload_n 0, 1) := by decide +kernel
theorem dX8_count_58 : decode cX8_count 58 = .ok (.getfield 7, 3) := by decide +kernel
theorem dX8_count_61 : decode cX8_count 61 = .ok (.bipush 10, 2) := by decide +kernel
theorem dX8_count_63 : decode cX8_count 63 = .ok (.iaload, 1) := by decide +kernel
theorem dX8_count_64 : decode cX8_count 64 = .ok (.invokevirtual 167, 3) := by decide +kernel
theorem dX8_count_67 : decode cX8_count 67 = .ok (.aload_n 0, 1) := by decide +kernel
theorem dX8_count_68 : decode cX8_count 68 = .ok (.getfield 39, 3) := by decide +kernel
theorem dX8_count_71 : decode cX8_count 71 = .ok (.iconst 0, 1) := by decide +kernel
theorem dX8_count_72 : decode cX8_count 72 = .ok (.invokestatic 118, 3) := by decide +kernel
theorem dX8_count_75 : decode cX8_count 75 = .ok (.ireturn, 1) := by decide +kernel
theorem dX8_count_76 : decode cX8_count 76 = .ok (.aload_n 0, 1) := by decide +kernel
theorem dX8_count_77 : decode cX8_count 77 = .ok (.getfield 66, 3) := by decide +kernel
theorem dX8_count_80 : decode cX8_count 80 = .ok (.ireturn, 1) := by decide +kernel
theorem dX8_count_81 : decode cX8_count 81 = .ok (.iconst (-1), 1) := by decide +kernel
theorem dX8_count_82 : decode cX8_count 82 = .ok (.ireturn, 1) := by decide +kernel
theorem dX8_roots_0 : decode cX8_roots 0 = .ok (.aload_n 0, 1) := by decide +kernel
theorem dX8_roots_1 : decode cX8_roots 1 = .ok (.iload_n 1, 1) := by decide +kernel
theorem dX8_roots_2 : decode cX8_roots 2 = .ok (.aload_n 0, 1) := by decide +kernel
theorem dX8_roots_3 : decode cX8_roots 3 = .ok (.getfield 7, 3) := by decide +kernel
theorem dX8_roots_6 : decode cX8_roots 6 = .ok (.bipush 10, 2) := by decide +kernel
theorem dX8_roots_8 : decode cX8_roots 8 = .ok (.iaload, 1) := by decide +kernel
theorem dX8_roots_9 : decode cX8_roots 9 = .ok (.iload_n 2, 1) := by decide +kernel
theorem dX8_roots_10 : decode cX8_roots 10 = .ok (.invokevirtual 170, 3) := by decide +kernel
theorem dX8_roots_13 : decode cX8_roots 13 = .ok (.ireturn, 1) := by decide +kernel
theorem dX8_at_0 : decode cX8_at 0 = .ok (.iload_n 1, 1) := by decide +kernel
theorem dX8_at_1 : decode cX8_at 1 = .ok (.i2l, 1) := by decide +kernel
theorem dX8_at_2 : decode cX8_at 2 = .ok (.lconst 0, 1) := by decide +kernel
theorem dX8_at_3 : decode cX8_at 3 = .ok (.lconst 1, 1) := by decide +kernel
theorem dX8_at_4 : decode cX8_at 4 = .ok (.invokestatic 141, 3) := by decide +kernel
theorem dX8_at_7 : decode cX8_at 7 = .ok (.ifCond .eq 22, 3) := by decide +kernel
theorem dX8_at_10 : decode cX8_at 10 = .ok (.iload_n 2, 1) := by decide +kernel
theorem dX8_at_11 : decode cX8_at 11 = .ok (.invokestatic 160, 3) := by decide +kernel
theorem dX8_at_14 : decode cX8_at 14 = .ok (.ifCond .eq 15, 3) := by decide +kernel
theorem dX8_at_17 : decode cX8_at 17 = .ok (.iload_n 3, 1) := by decide +kernel
theorem dX8_at_18 : decode cX8_at 18 = .ok (.i2l, 1) := by decide +kernel
theorem dX8_at_19 : decode cX8_at 19 = .ok (.lconst 0, 1) := by decide +kernel
theorem dX8_at_20 : decode cX8_at 20 = .ok (.ldc2_w 174, 3) := by decide +kernel
theorem dX8_at_23 : decode cX8_at 23 = .ok (.invokestatic 141, 3) := by decide +kernel
theorem dX8_at_26 : decode cX8_at 26 = .ok (.ifCond .ne 5, 3) := by decide +kernel
theorem dX8_at_29 : decode cX8_at 29 = .ok (.iconst (-1), 1) := by decide +kernel
theorem dX8_at_30 : decode cX8_at 30 = .ok (.ireturn, 1) := by decide +kernel
theorem dX8_at_31 : decode cX8_at 31 = .ok (.aload_n 0, 1) := by decide +kernel
theorem dX8_at_32 : decode cX8_at 32 = .ok (.iload_n 2, 1) := by decide +kernel
theorem dX8_at_33 : decode cX8_at 33 = .ok (.invokevirtual 167, 3) := by decide +kernel
theorem dX8_at_36 : decode cX8_at 36 = .ok (.aload_n 0, 1) := by decide +kernel
theorem dX8_at_37 : decode cX8_at 37 = .ok (.iload_n 1, 1) := by decide +kernel
theorem dX8_at_38 : decode cX8_at 38 = .ok (.invokevirtual 137, 3) := by decide +kernel
theorem dX8_at_41 : decode cX8_at 41 = .ok (.istore 4, 2) := by decide +kernel
theorem dX8_at_43 : decode cX8_at 43 = .ok (.iload 4, 2) := by decide +kernel
theorem dX8_at_45 : decode cX8_at 45 = .ok (.bipush (-4), 2) := by decide +kernel
theorem dX8_at_47 : decode cX8_at 47 = .ok (.if_icmp .ne 6, 3) := by decide +kernel
theorem dX8_at_50 : decode cX8_at 50 = .ok (.bipush (-4), 2) := by decide +kernel
theorem dX8_at_52 : decode cX8_at 52 = .ok (.ireturn, 1) := by decide +kernel
theorem dX8_at_53 : decode cX8_at 53 = .ok (.iload_n 3, 1) := by decide +kernel
theorem dX8_at_54 : decode cX8_at 54 = .ok (.ifCond .ne 10, 3) := by decide +kernel
theorem dX8_at_57 : decode cX8_at 57 = .ok (.aload_n 0, 1) := by decide +kernel
theorem dX8_at_58 : decode cX8_at 58 = .ok (.getfield 75, 3) := by decide +kernel
theorem dX8_at_61 : decode cX8_at 61 = .ok (.goto 41, 3) := by decide +kernel
theorem dX8_at_64 : decode cX8_at 64 = .ok (.iload_n 3, 1) := by decide +kernel
theorem dX8_at_65 : decode cX8_at 65 = .ok (.iconst 1, 1) := by decide +kernel
theorem dX8_at_66 : decode cX8_at 66 = .ok (.if_icmp .ne 10, 3) := by decide +kernel
theorem dX8_at_69 : decode cX8_at 69 = .ok (.aload_n 0, 1) := by decide +kernel
theorem dX8_at_70 : decode cX8_at 70 = .ok (.getfield 78, 3) := by decide +kernel
theorem dX8_at_73 : decode cX8_at 73 = .ok (.goto 29, 3) := by decide +kernel
theorem dX8_at_76 : decode cX8_at 76 = .ok (.iload_n 3, 1) := by decide +kernel
theorem dX8_at_77 : decode cX8_at 77 = .ok (.iconst 2, 1) := by decide +kernel
theorem dX8_at_78 : decode cX8_at 78 = .ok (.if_icmp .ne 10, 3) := by decide +kernel
theorem dX8_at_81 : decode cX8_at 81 = .ok (.aload_n 0, 1) := by decide +kernel
theorem dX8_at_82 : decode cX8_at 82 = .ok (.getfield 81, 3) := by decide +kernel
theorem dX8_at_85 : decode cX8_at 85 = .ok (.goto 17, 3) := by decide +kernel
theorem dX8_at_88 : decode cX8_at 88 = .ok (.aload_n 0, 1) := by decide +kernel
theorem dX8_at_89 : decode cX8_at 89 = .ok (.getfield 81, 3) := by decide +kernel
theorem dX8_at_92 : decode cX8_at 92 = .ok (.iload 4, 2) := by decide +kernel
theorem dX8_at_94 : decode cX8_at 94 = .ok (.if_icmp .ne 7, 3) := by decide +kernel
theorem dX8_at_97 : decode cX8_at 97 = .ok (.iconst 1, 1) := by decide +kernel
theorem dX8_at_98 : decode cX8_at 98 = .ok (.goto 4, 3) := by decide +kernel
theorem dX8_at_101 : decode cX8_at 101 = .ok (.iconst 0, 1) := by decide +kernel
theorem dX8_at_102 : decode cX8_at 102 = .ok (.ireturn, 1) := by decide +kernel
theorem dX8_divisor_0 : decode cX8_divisor 0 = .ok (.lload_n 0, 1) := by decide +kernel
theorem dX8_divisor_1 : decode cX8_divisor 1 = .ok (.lconst 0, 1) := by decide +kernel
theorem dX8_divisor_2 : decode cX8_divisor 2 = .ok (.lcmp, 1) := by decide +kernel
theorem dX8_divisor_3 : decode cX8_divisor 3 = .ok (.ifCond .ge 8, 3) := by decide +kernel
theorem dX8_divisor_6 : decode cX8_divisor 6 = .ok (.lload_n 0, 1) := by decide +kernel
theorem dX8_divisor_7 : decode cX8_divisor 7 = .ok (.lneg, 1) := by decide +kernel
theorem dX8_divisor_8 : decode cX8_divisor 8 = .ok (.goto 4, 3) := by decide +kernel
theorem dX8_divisor_11 : decode cX8_divisor 11 = .ok (.lload_n 0, 1) := by decide +kernel
theorem dX8_divisor_12 : decode cX8_divisor 12 = .ok (.lstore 4, 2) := by decide +kernel
theorem dX8_divisor_14 : decode cX8_divisor 14 = .ok (.lload_n 2, 1) := by decide +kernel
theorem dX8_divisor_15 : decode cX8_divisor 15 = .ok (.lconst 0, 1) := by decide +kernel
theorem dX8_divisor_16 : decode cX8_divisor 16 = .ok (.lcmp, 1) := by decide +kernel
theorem dX8_divisor_17 : decode cX8_divisor 17 = .ok (.ifCond .ge 8, 3) := by decide +kernel
theorem dX8_divisor_20 : decode cX8_divisor 20 = .ok (.lload_n 2, 1) := by decide +kernel
theorem dX8_divisor_21 : decode cX8_divisor 21 = .ok (.lneg, 1) := by decide +kernel
theorem dX8_divisor_22 : decode cX8_divisor 22 = .ok (.goto 4, 3) := by decide +kernel
theorem dX8_divisor_25 : decode cX8_divisor 25 = .ok (.lload_n 2, 1) := by decide +kernel
theorem dX8_divisor_26 : decode cX8_divisor 26 = .ok (.lstore 6, 2) := by decide +kernel
theorem dX8_divisor_28 : decode cX8_divisor 28 = .ok (.lload 6, 2) := by decide +kernel
theorem dX8_divisor_30 : decode cX8_divisor 30 = .ok (.lconst 0, 1) := by decide +kernel
theorem dX8_divisor_31 : decode cX8_divisor 31 = .ok (.lcmp, 1) := by decide +kernel
theorem dX8_divisor_32 : decode cX8_divisor 32 = .ok (.ifCond .eq 21, 3) := by decide +kernel
theorem dX8_divisor_35 : decode cX8_divisor 35 = .ok (.lload 4, 2) := by decide +kernel
theorem dX8_divisor_37 : decode cX8_divisor 37 = .ok (.lload 6, 2) := by decide +kernel
theorem dX8_divisor_39 : decode cX8_divisor 39 = .ok (.lrem, 1) := by decide +kernel
theorem dX8_divisor_40 : decode cX8_divisor 40 = .ok (.lstore 8, 2) := by decide +kernel
theorem dX8_divisor_42 : decode cX8_divisor 42 = .ok (.lload 6, 2) := by decide +kernel
theorem dX8_divisor_44 : decode cX8_divisor 44 = .ok (.lstore 4, 2) := by decide +kernel
theorem dX8_divisor_46 : decode cX8_divisor 46 = .ok (.lload 8, 2) := by decide +kernel
theorem dX8_divisor_48 : decode cX8_divisor 48 = .ok (.lstore 6, 2) := by decide +kernel
theorem dX8_divisor_50 : decode cX8_divisor 50 = .ok (.goto (-22), 3) := by decide +kernel
theorem dX8_divisor_53 : decode cX8_divisor 53 = .ok (.lload 4, 2) := by decide +kernel
theorem dX8_divisor_55 : decode cX8_divisor 55 = .ok (.lreturn, 1) := by decide +kernel
theorem dX8_shortens_0 : decode cX8_shortens 0 = .ok (.lconst 0, 1) := by decide +kernel
theorem dX8_shortens_1 : decode cX8_shortens 1 = .ok (.lstore_n 1, 1) := by decide +kernel
theorem dX8_shortens_2 : decode cX8_shortens 2 = .ok (.iconst 0, 1) := by decide +kernel
theorem dX8_shortens_3 : decode cX8_shortens 3 = .ok (.istore_n 3, 1) := by decide +kernel
theorem dX8_shortens_4 : decode cX8_shortens 4 = .ok (.iload_n 3, 1) := by decide +kernel
theorem dX8_shortens_5 : decode cX8_shortens 5 = .ok (.iconst 5, 1) := by decide +kernel
theorem dX8_shortens_6 : decode cX8_shortens 6 = .ok (.if_icmp .ge 20, 3) := by decide +kernel
theorem dX8_shortens_9 : decode cX8_shortens 9 = .ok (.lload_n 1, 1) := by decide +kernel
theorem dX8_shortens_10 : decode cX8_shortens 10 = .ok (.aload_n 0, 1) := by decide +kernel
theorem dX8_shortens_11 : decode cX8_shortens 11 = .ok (.getfield 54, 3) := by decide +kernel
theorem dX8_shortens_14 : decode cX8_shortens 14 = .ok (.iload_n 3, 1) := by decide +kernel
theorem dX8_shortens_15 : decode cX8_shortens 15 = .ok (.laload, 1) := by decide +kernel
theorem dX8_shortens_16 : decode cX8_shortens 16 = .ok (.invokestatic 176, 3) := by decide +kernel
theorem dX8_shortens_19 : decode cX8_shortens 19 = .ok (.lstore_n 1, 1) := by decide +kernel
theorem dX8_shortens_20 : decode cX8_shortens 20 = .ok (.iinc 3 1, 3) := by decide +kernel
theorem dX8_shortens_23 : decode cX8_shortens 23 = .ok (.goto (-19), 3) := by decide +kernel
theorem dX8_shortens_26 : decode cX8_shortens 26 = .ok (.iconst 0, 1) := by decide +kernel
theorem dX8_shortens_27 : decode cX8_shortens 27 = .ok (.istore_n 3, 1) := by decide +kernel
theorem dX8_shortens_28 : decode cX8_shortens 28 = .ok (.iload_n 3, 1) := by decide +kernel
theorem dX8_shortens_29 : decode cX8_shortens 29 = .ok (.iconst 5, 1) := by decide +kernel
theorem dX8_shortens_30 : decode cX8_shortens 30 = .ok (.if_icmp .ge 25, 3) := by decide +kernel
theorem dX8_shortens_33 : decode cX8_shortens 33 = .ok (.lload_n 1, 1) := by decide +kernel
theorem dX8_shortens_34 : decode cX8_shortens 34 = .ok (.lconst 1, 1) := by decide +kernel
theorem dX8_shortens_35 : decode cX8_shortens 35 = .ok (.lcmp, 1) := by decide +kernel
theorem dX8_shortens_36 : decode cX8_shortens 36 = .ok (.ifCond .le 19, 3) := by decide +kernel
theorem dX8_shortens_39 : decode cX8_shortens 39 = .ok (.aload_n 0, 1) := by decide +kernel
theorem dX8_shortens_40 : decode cX8_shortens 40 = .ok (.getfield 54, 3) := by decide +kernel
theorem dX8_shortens_43 : decode cX8_shortens 43 = .ok (.iload_n 3, 1) := by decide +kernel
theorem dX8_shortens_44 : decode cX8_shortens 44 = .ok (.dup2, 1) := by decide +kernel
theorem dX8_shortens_45 : decode cX8_shortens 45 = .ok (.laload, 1) := by decide +kernel
theorem dX8_shortens_46 : decode cX8_shortens 46 = .ok (.lload_n 1, 1) := by decide +kernel
theorem dX8_shortens_47 : decode cX8_shortens 47 = .ok (.ldiv, 1) := by decide +kernel
theorem dX8_shortens_48 : decode cX8_shortens 48 = .ok (.lastore, 1) := by decide +kernel
theorem dX8_shortens_49 : decode cX8_shortens 49 = .ok (.iinc 3 1, 3) := by decide +kernel

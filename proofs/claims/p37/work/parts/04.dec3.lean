theorem dL_restore_0 : decode cL_restore 0 = .ok (.aload_n 0, 1) := by decide +kernel
theorem dL_restore_1 : decode cL_restore 1 = .ok (.invokevirtual 124, 3) := by decide +kernel
theorem dL_restore_4 : decode cL_restore 4 = .ok (.ireturn, 1) := by decide +kernel
theorem dL_restore_5 : decode cL_restore 5 = .ok (.astore_n 1, 1) := by decide +kernel
theorem dL_restore_6 : decode cL_restore 6 = .ok (.sipush (-1001), 3) := by decide +kernel
theorem dL_restore_9 : decode cL_restore 9 = .ok (.ireturn, 1) := by decide +kernel
theorem dL_reads_0 : decode cL_reads 0 = .ok (.iconst 0, 1) := by decide +kernel
theorem dL_reads_1 : decode cL_reads 1 = .ok (.istore_n 2, 1) := by decide +kernel
theorem dL_reads_2 : decode cL_reads 2 = .ok (.iload_n 2, 1) := by decide +kernel
theorem dL_reads_3 : decode cL_reads 3 = .ok (.aload_n 1, 1) := by decide +kernel
theorem dL_reads_4 : decode cL_reads 4 = .ok (.invokevirtual 127, 3) := by decide +kernel
theorem dL_reads_7 : decode cL_reads 7 = .ok (.if_icmp .ge 27, 3) := by decide +kernel
theorem dL_reads_10 : decode cL_reads 10 = .ok (.aload_n 0, 1) := by decide +kernel
theorem dL_reads_11 : decode cL_reads 11 = .ok (.aload_n 1, 1) := by decide +kernel
theorem dL_reads_12 : decode cL_reads 12 = .ok (.iload_n 2, 1) := by decide +kernel
theorem dL_reads_13 : decode cL_reads 13 = .ok (.invokevirtual 132, 3) := by decide +kernel
theorem dL_reads_16 : decode cL_reads 16 = .ok (.invokestatic 135, 3) := by decide +kernel
theorem dL_reads_19 : decode cL_reads 19 = .ok (.iload_n 2, 1) := by decide +kernel
theorem dL_reads_20 : decode cL_reads 20 = .ok (.iconst 1, 1) := by decide +kernel
theorem dL_reads_21 : decode cL_reads 21 = .ok (.iadd, 1) := by decide +kernel
theorem dL_reads_22 : decode cL_reads 22 = .ok (.if_icmp .eq 6, 3) := by decide +kernel
theorem dL_reads_25 : decode cL_reads 25 = .ok (.bipush (-99), 2) := by decide +kernel
theorem dL_reads_27 : decode cL_reads 27 = .ok (.ireturn, 1) := by decide +kernel
theorem dL_reads_28 : decode cL_reads 28 = .ok (.iinc 2 1, 3) := by decide +kernel
theorem dL_reads_31 : decode cL_reads 31 = .ok (.goto (-29), 3) := by decide +kernel
theorem dL_reads_34 : decode cL_reads 34 = .ok (.aload_n 0, 1) := by decide +kernel
theorem dL_reads_35 : decode cL_reads 35 = .ok (.invokestatic 140, 3) := by decide +kernel
theorem dL_reads_38 : decode cL_reads 38 = .ok (.ireturn, 1) := by decide +kernel
theorem dL_is_0 : decode cL_is 0 = .ok (.aload_n 0, 1) := by decide +kernel
theorem dL_is_1 : decode cL_is 1 = .ok (.iconst 0, 1) := by decide +kernel
theorem dL_is_2 : decode cL_is 2 = .ok (.invokestatic 143, 3) := by decide +kernel
theorem dL_is_5 : decode cL_is 5 = .ok (.iload_n 1, 1) := by decide +kernel
theorem dL_is_6 : decode cL_is 6 = .ok (.if_icmp .ne 16, 3) := by decide +kernel
theorem dL_is_9 : decode cL_is 9 = .ok (.aload_n 0, 1) := by decide +kernel
theorem dL_is_10 : decode cL_is 10 = .ok (.iconst 1, 1) := by decide +kernel
theorem dL_is_11 : decode cL_is 11 = .ok (.invokestatic 143, 3) := by decide +kernel
theorem dL_is_14 : decode cL_is 14 = .ok (.iload_n 2, 1) := by decide +kernel
theorem dL_is_15 : decode cL_is 15 = .ok (.if_icmp .ne 7, 3) := by decide +kernel
theorem dL_is_18 : decode cL_is 18 = .ok (.iconst 1, 1) := by decide +kernel
theorem dL_is_19 : decode cL_is 19 = .ok (.goto 4, 3) := by decide +kernel
theorem dL_is_22 : decode cL_is 22 = .ok (.iconst 0, 1) := by decide +kernel
theorem dL_is_23 : decode cL_is 23 = .ok (.ireturn, 1) := by decide +kernel
theorem dL_makes_0 : decode cL_makes 0 = .ok (.aload_n 0, 1) := by decide +kernel
theorem dL_makes_1 : decode cL_makes 1 = .ok (.sipush 600, 3) := by decide +kernel
theorem dL_makes_4 : decode cL_makes 4 = .ok (.invokestatic 146, 3) := by decide +kernel
theorem dL_makes_7 : decode cL_makes 7 = .ok (.sipush 700, 3) := by decide +kernel
theorem dL_makes_10 : decode cL_makes 10 = .ok (.if_icmp .ne 23, 3) := by decide +kernel
theorem dL_makes_13 : decode cL_makes 13 = .ok (.aload_n 0, 1) := by decide +kernel
theorem dL_makes_14 : decode cL_makes 14 = .ok (.iconst 1, 1) := by decide +kernel
theorem dL_makes_15 : decode cL_makes 15 = .ok (.aload_n 1, 1) := by decide +kernel
theorem dL_makes_16 : decode cL_makes 16 = .ok (.iconst 0, 1) := by decide +kernel
theorem dL_makes_17 : decode cL_makes 17 = .ok (.invokestatic 149, 3) := by decide +kernel
theorem dL_makes_20 : decode cL_makes 20 = .ok (.bipush 9, 2) := by decide +kernel
theorem dL_makes_22 : decode cL_makes 22 = .ok (.invokestatic 153, 3) := by decide +kernel
theorem dL_makes_25 : decode cL_makes 25 = .ok (.iadd, 1) := by decide +kernel
theorem dL_makes_26 : decode cL_makes 26 = .ok (.invokestatic 156, 3) := by decide +kernel
theorem dL_makes_29 : decode cL_makes 29 = .ok (.iconst 5, 1) := by decide +kernel
theorem dL_makes_30 : decode cL_makes 30 = .ok (.if_icmp .eq 5, 3) := by decide +kernel
theorem dL_makes_33 : decode cL_makes 33 = .ok (.iconst 0, 1) := by decide +kernel
theorem dL_makes_34 : decode cL_makes 34 = .ok (.ireturn, 1) := by decide +kernel
theorem dL_makes_35 : decode cL_makes 35 = .ok (.iconst 0, 1) := by decide +kernel
theorem dL_makes_36 : decode cL_makes 36 = .ok (.istore_n 2, 1) := by decide +kernel
theorem dL_makes_37 : decode cL_makes 37 = .ok (.iload_n 2, 1) := by decide +kernel
theorem dL_makes_38 : decode cL_makes 38 = .ok (.bipush 6, 2) := by decide +kernel
theorem dL_makes_40 : decode cL_makes 40 = .ok (.if_icmp .ge 45, 3) := by decide +kernel
theorem dL_makes_43 : decode cL_makes 43 = .ok (.aload_n 0, 1) := by decide +kernel
theorem dL_makes_44 : decode cL_makes 44 = .ok (.iload_n 2, 1) := by decide +kernel
theorem dL_makes_45 : decode cL_makes 45 = .ok (.aload_n 1, 1) := by decide +kernel
theorem dL_makes_46 : decode cL_makes 46 = .ok (.iload_n 2, 1) := by decide +kernel
theorem dL_makes_47 : decode cL_makes 47 = .ok (.invokestatic 149, 3) := by decide +kernel
theorem dL_makes_50 : decode cL_makes 50 = .ok (.bipush 7, 2) := by decide +kernel
theorem dL_makes_52 : decode cL_makes 52 = .ok (.invokestatic 153, 3) := by decide +kernel
theorem dL_makes_55 : decode cL_makes 55 = .ok (.iconst 3, 1) := by decide +kernel
theorem dL_makes_56 : decode cL_makes 56 = .ok (.isub, 1) := by decide +kernel
theorem dL_makes_57 : decode cL_makes 57 = .ok (.aload_n 1, 1) := by decide +kernel
theorem dL_makes_58 : decode cL_makes 58 = .ok (.iload_n 2, 1) := by decide +kernel
theorem dL_makes_59 : decode cL_makes 59 = .ok (.invokestatic 149, 3) := by decide +kernel
theorem dL_makes_62 : decode cL_makes 62 = .ok (.iconst 4, 1) := by decide +kernel
theorem dL_makes_63 : decode cL_makes 63 = .ok (.ishr, 1) := by decide +kernel
theorem dL_makes_64 : decode cL_makes 64 = .ok (.bipush 7, 2) := by decide +kernel
theorem dL_makes_66 : decode cL_makes 66 = .ok (.invokestatic 153, 3) := by decide +kernel
theorem dL_makes_69 : decode cL_makes 69 = .ok (.iconst 3, 1) := by decide +kernel
theorem dL_makes_70 : decode cL_makes 70 = .ok (.isub, 1) := by decide +kernel
theorem dL_makes_71 : decode cL_makes 71 = .ok (.invokestatic 158, 3) := by decide +kernel
theorem dL_makes_74 : decode cL_makes 74 = .ok (.ifCond .eq 5, 3) := by decide +kernel
theorem dL_makes_77 : decode cL_makes 77 = .ok (.iconst 0, 1) := by decide +kernel
theorem dL_makes_78 : decode cL_makes 78 = .ok (.ireturn, 1) := by decide +kernel
theorem dL_makes_79 : decode cL_makes 79 = .ok (.iinc 2 1, 3) := by decide +kernel
theorem dL_makes_82 : decode cL_makes 82 = .ok (.goto (-45), 3) := by decide +kernel
theorem dL_makes_85 : decode cL_makes 85 = .ok (.iconst 0, 1) := by decide +kernel
theorem dL_makes_86 : decode cL_makes 86 = .ok (.istore_n 2, 1) := by decide +kernel
theorem dL_makes_87 : decode cL_makes 87 = .ok (.iload_n 2, 1) := by decide +kernel
theorem dL_makes_88 : decode cL_makes 88 = .ok (.iconst 4, 1) := by decide +kernel
theorem dL_makes_89 : decode cL_makes 89 = .ok (.if_icmp .ge 129, 3) := by decide +kernel
theorem dL_makes_92 : decode cL_makes 92 = .ok (.bipush 40, 2) := by decide +kernel
theorem dL_makes_94 : decode cL_makes 94 = .ok (.aload_n 1, 1) := by decide +kernel
theorem dL_makes_95 : decode cL_makes 95 = .ok (.bipush 6, 2) := by decide +kernel
theorem dL_makes_97 : decode cL_makes 97 = .ok (.iload_n 2, 1) := by decide +kernel
theorem dL_makes_98 : decode cL_makes 98 = .ok (.iadd, 1) := by decide +kernel
theorem dL_makes_99 : decode cL_makes 99 = .ok (.invokestatic 149, 3) := by decide +kernel
theorem dL_makes_102 : decode cL_makes 102 = .ok (.bipush 60, 2) := by decide +kernel
theorem dL_makes_104 : decode cL_makes 104 = .ok (.invokestatic 153, 3) := by decide +kernel
theorem dL_makes_107 : decode cL_makes 107 = .ok (.iadd, 1) := by decide +kernel
theorem dL_makes_108 : decode cL_makes 108 = .ok (.istore_n 3, 1) := by decide +kernel
theorem dL_makes_109 : decode cL_makes 109 = .ok (.aload_n 0, 1) := by decide +kernel
theorem dL_makes_110 : decode cL_makes 110 = .ok (.iload_n 3, 1) := by decide +kernel
theorem dL_makes_111 : decode cL_makes 111 = .ok (.invokestatic 161, 3) := by decide +kernel
theorem dL_makes_114 : decode cL_makes 114 = .ok (.iload_n 2, 1) := by decide +kernel
theorem dL_makes_115 : decode cL_makes 115 = .ok (.if_icmp .ne 54, 3) := by decide +kernel
theorem dL_makes_118 : decode cL_makes 118 = .ok (.aload_n 0, 1) := by decide +kernel
theorem dL_makes_119 : decode cL_makes 119 = .ok (.iload_n 2, 1) := by decide +kernel
theorem dL_makes_120 : decode cL_makes 120 = .ok (.iload_n 3, 1) := by decide +kernel
theorem dL_makes_121 : decode cL_makes 121 = .ok (.aload_n 1, 1) := by decide +kernel
theorem dL_makes_122 : decode cL_makes 122 = .ok (.bipush 6, 2) := by decide +kernel
theorem dL_makes_124 : decode cL_makes 124 = .ok (.iload_n 2, 1) := by decide +kernel
theorem dL_makes_125 : decode cL_makes 125 = .ok (.iadd, 1) := by decide +kernel
theorem dL_makes_126 : decode cL_makes 126 = .ok (.invokestatic 149, 3) := by decide +kernel
theorem dL_makes_129 : decode cL_makes 129 = .ok (.bipush 6, 2) := by decide +kernel
theorem dL_makes_131 : decode cL_makes 131 = .ok (.ishr, 1) := by decide +kernel
theorem dL_makes_132 : decode cL_makes 132 = .ok (.bipush 12, 2) := by decide +kernel
theorem dL_makes_134 : decode cL_makes 134 = .ok (.invokestatic 153, 3) := by decide +kernel
theorem dL_makes_137 : decode cL_makes 137 = .ok (.isub, 1) := by decide +kernel
theorem dL_makes_138 : decode cL_makes 138 = .ok (.invokestatic 163, 3) := by decide +kernel
theorem dL_makes_141 : decode cL_makes 141 = .ok (.iconst 1, 1) := by decide +kernel
theorem dL_makes_142 : decode cL_makes 142 = .ok (.if_icmp .lt 27, 3) := by decide +kernel
theorem dL_makes_145 : decode cL_makes 145 = .ok (.aload_n 0, 1) := by decide +kernel
theorem dL_makes_146 : decode cL_makes 146 = .ok (.iload_n 2, 1) := by decide +kernel
theorem dL_makes_147 : decode cL_makes 147 = .ok (.iconst 1, 1) := by decide +kernel
theorem dL_makes_148 : decode cL_makes 148 = .ok (.aload_n 1, 1) := by decide +kernel
theorem dL_makes_149 : decode cL_makes 149 = .ok (.bipush 10, 2) := by decide +kernel
theorem dL_makes_151 : decode cL_makes 151 = .ok (.iload_n 2, 1) := by decide +kernel
theorem dL_makes_152 : decode cL_makes 152 = .ok (.iadd, 1) := by decide +kernel
theorem dL_makes_153 : decode cL_makes 153 = .ok (.invokestatic 149, 3) := by decide +kernel
theorem dL_makes_156 : decode cL_makes 156 = .ok (.bipush 12, 2) := by decide +kernel
theorem dL_makes_158 : decode cL_makes 158 = .ok (.invokestatic 153, 3) := by decide +kernel
theorem dL_makes_161 : decode cL_makes 161 = .ok (.iadd, 1) := by decide +kernel
theorem dL_makes_162 : decode cL_makes 162 = .ok (.invokestatic 166, 3) := by decide +kernel
theorem dL_makes_165 : decode cL_makes 165 = .ok (.iconst 1, 1) := by decide +kernel
theorem dL_makes_166 : decode cL_makes 166 = .ok (.if_icmp .ge 5, 3) := by decide +kernel
theorem dL_makes_169 : decode cL_makes 169 = .ok (.iconst 0, 1) := by decide +kernel
theorem dL_makes_170 : decode cL_makes 170 = .ok (.ireturn, 1) := by decide +kernel
theorem dL_makes_171 : decode cL_makes 171 = .ok (.aload_n 1, 1) := by decide +kernel
theorem dL_makes_172 : decode cL_makes 172 = .ok (.bipush 10, 2) := by decide +kernel
theorem dL_makes_174 : decode cL_makes 174 = .ok (.iload_n 2, 1) := by decide +kernel
theorem dL_makes_175 : decode cL_makes 175 = .ok (.iadd, 1) := by decide +kernel
theorem dL_makes_176 : decode cL_makes 176 = .ok (.invokestatic 149, 3) := by decide +kernel
theorem dL_makes_179 : decode cL_makes 179 = .ok (.iconst 5, 1) := by decide +kernel
theorem dL_makes_180 : decode cL_makes 180 = .ok (.ishr, 1) := by decide +kernel
theorem dL_makes_181 : decode cL_makes 181 = .ok (.iconst 1, 1) := by decide +kernel
theorem dL_makes_182 : decode cL_makes 182 = .ok (.iand, 1) := by decide +kernel
theorem dL_makes_183 : decode cL_makes 183 = .ok (.ifCond .ne 29, 3) := by decide +kernel
theorem dL_makes_186 : decode cL_makes 186 = .ok (.aload_n 0, 1) := by decide +kernel
theorem dL_makes_187 : decode cL_makes 187 = .ok (.iload_n 2, 1) := by decide +kernel
theorem dL_makes_188 : decode cL_makes 188 = .ok (.iconst 5, 1) := by decide +kernel
theorem dL_makes_189 : decode cL_makes 189 = .ok (.aload_n 1, 1) := by decide +kernel
theorem dL_makes_190 : decode cL_makes 190 = .ok (.bipush 14, 2) := by decide +kernel
theorem dL_makes_192 : decode cL_makes 192 = .ok (.iload_n 2, 1) := by decide +kernel
theorem dL_makes_193 : decode cL_makes 193 = .ok (.iadd, 1) := by decide +kernel
theorem dL_makes_194 : decode cL_makes 194 = .ok (.invokestatic 149, 3) := by decide +kernel
theorem dL_makes_197 : decode cL_makes 197 = .ok (.bipush 8, 2) := by decide +kernel
theorem dL_makes_199 : decode cL_makes 199 = .ok (.invokestatic 153, 3) := by decide +kernel
theorem dL_makes_202 : decode cL_makes 202 = .ok (.iadd, 1) := by decide +kernel
theorem dL_makes_203 : decode cL_makes 203 = .ok (.invokestatic 168, 3) := by decide +kernel
theorem dL_makes_206 : decode cL_makes 206 = .ok (.iconst 1, 1) := by decide +kernel
theorem dL_makes_207 : decode cL_makes 207 = .ok (.if_icmp .eq 5, 3) := by decide +kernel
theorem dL_makes_210 : decode cL_makes 210 = .ok (.iconst 0, 1) := by decide +kernel
theorem dL_makes_211 : decode cL_makes 211 = .ok (.ireturn, 1) := by decide +kernel
theorem dL_makes_212 : decode cL_makes 212 = .ok (.iinc 2 1, 3) := by decide +kernel
theorem dL_makes_215 : decode cL_makes 215 = .ok (.goto (-128), 3) := by decide +kernel
theorem dL_makes_218 : decode cL_makes 218 = .ok (.iconst 0, 1) := by decide +kernel
theorem dL_makes_219 : decode cL_makes 219 = .ok (.istore_n 2, 1) := by decide +kernel
theorem dL_makes_220 : decode cL_makes 220 = .ok (.iload_n 2, 1) := by decide +kernel
theorem dL_makes_221 : decode cL_makes 221 = .ok (.bipush 14, 2) := by decide +kernel
theorem dL_makes_223 : decode cL_makes 223 = .ok (.if_icmp .ge 48, 3) := by decide +kernel
theorem dL_makes_226 : decode cL_makes 226 = .ok (.aload_n 0, 1) := by decide +kernel
theorem dL_makes_227 : decode cL_makes 227 = .ok (.iconst 1, 1) := by decide +kernel
theorem dL_makes_228 : decode cL_makes 228 = .ok (.aload_n 1, 1) := by decide +kernel
theorem dL_makes_229 : decode cL_makes 229 = .ok (.bipush 18, 2) := by decide +kernel
theorem dL_makes_231 : decode cL_makes 231 = .ok (.iload_n 2, 1) := by decide +kernel
theorem dL_makes_232 : decode cL_makes 232 = .ok (.iadd, 1) := by decide +kernel
theorem dL_makes_233 : decode cL_makes 233 = .ok (.invokestatic 149, 3) := by decide +kernel
theorem dL_makes_236 : decode cL_makes 236 = .ok (.bipush 9, 2) := by decide +kernel
theorem dL_makes_238 : decode cL_makes 238 = .ok (.invokestatic 153, 3) := by decide +kernel
theorem dL_makes_241 : decode cL_makes 241 = .ok (.iadd, 1) := by decide +kernel
theorem dL_makes_242 : decode cL_makes 242 = .ok (.aload_n 1, 1) := by decide +kernel
theorem dL_makes_243 : decode cL_makes 243 = .ok (.bipush 18, 2) := by decide +kernel
theorem dL_makes_245 : decode cL_makes 245 = .ok (.iload_n 2, 1) := by decide +kernel
theorem dL_makes_246 : decode cL_makes 246 = .ok (.iadd, 1) := by decide +kernel
theorem dL_makes_247 : decode cL_makes 247 = .ok (.invokestatic 149, 3) := by decide +kernel
theorem dL_makes_250 : decode cL_makes 250 = .ok (.iconst 4, 1) := by decide +kernel
theorem dL_makes_251 : decode cL_makes 251 = .ok (.ishr, 1) := by decide +kernel
theorem dL_makes_252 : decode cL_makes 252 = .ok (.iconst 3, 1) := by decide +kernel
theorem dL_makes_253 : decode cL_makes 253 = .ok (.invokestatic 153, 3) := by decide +kernel
theorem dL_makes_256 : decode cL_makes 256 = .ok (.invokestatic 170, 3) := by decide +kernel
theorem dL_makes_259 : decode cL_makes 259 = .ok (.iload_n 2, 1) := by decide +kernel
theorem dL_makes_260 : decode cL_makes 260 = .ok (.if_icmp .eq 5, 3) := by decide +kernel
theorem dL_makes_263 : decode cL_makes 263 = .ok (.iconst 0, 1) := by decide +kernel
theorem dL_makes_264 : decode cL_makes 264 = .ok (.ireturn, 1) := by decide +kernel
theorem dL_makes_265 : decode cL_makes 265 = .ok (.iinc 2 1, 3) := by decide +kernel
theorem dL_makes_268 : decode cL_makes 268 = .ok (.goto (-48), 3) := by decide +kernel
theorem dL_makes_271 : decode cL_makes 271 = .ok (.iconst 1, 1) := by decide +kernel
theorem dL_makes_272 : decode cL_makes 272 = .ok (.ireturn, 1) := by decide +kernel
theorem dL_asks_0 : decode cL_asks 0 = .ok (.ldc2_w 172, 3) := by decide +kernel
theorem dL_asks_3 : decode cL_asks 3 = .ok (.aload_n 0, 1) := by decide +kernel
theorem dL_asks_4 : decode cL_asks 4 = .ok (.invokestatic 174, 3) := by decide +kernel
theorem dL_asks_7 : decode cL_asks 7 = .ok (.invokestatic 177, 3) := by decide +kernel
theorem dL_asks_10 : decode cL_asks 10 = .ok (.lmul, 1) := by decide +kernel
theorem dL_asks_11 : decode cL_asks 11 = .ok (.aload_n 0, 1) := by decide +kernel
theorem dL_asks_12 : decode cL_asks 12 = .ok (.invokestatic 183, 3) := by decide +kernel
theorem dL_asks_15 : decode cL_asks 15 = .ok (.invokestatic 186, 3) := by decide +kernel
theorem dL_asks_18 : decode cL_asks 18 = .ok (.i2l, 1) := by decide +kernel
theorem dL_asks_19 : decode cL_asks 19 = .ok (.ladd, 1) := by decide +kernel
theorem dL_asks_20 : decode cL_asks 20 = .ok (.lstore_n 1, 1) := by decide +kernel
theorem dL_asks_21 : decode cL_asks 21 = .ok (.iconst 0, 1) := by decide +kernel
theorem dL_asks_22 : decode cL_asks 22 = .ok (.istore_n 3, 1) := by decide +kernel
theorem dL_asks_23 : decode cL_asks 23 = .ok (.iload_n 3, 1) := by decide +kernel
theorem dL_asks_24 : decode cL_asks 24 = .ok (.bipush 19, 2) := by decide +kernel
theorem dL_asks_26 : decode cL_asks 26 = .ok (.if_icmp .ge 22, 3) := by decide +kernel
theorem dL_asks_29 : decode cL_asks 29 = .ok (.ldc2_w 172, 3) := by decide +kernel
theorem dL_asks_32 : decode cL_asks 32 = .ok (.lload_n 1, 1) := by decide +kernel
theorem dL_asks_33 : decode cL_asks 33 = .ok (.lmul, 1) := by decide +kernel
theorem dL_asks_34 : decode cL_asks 34 = .ok (.aload_n 0, 1) := by decide +kernel
theorem dL_asks_35 : decode cL_asks 35 = .ok (.iload_n 3, 1) := by decide +kernel
theorem dL_asks_36 : decode cL_asks 36 = .ok (.invokestatic 192, 3) := by decide +kernel
theorem dL_asks_39 : decode cL_asks 39 = .ok (.i2l, 1) := by decide +kernel
theorem dL_asks_40 : decode cL_asks 40 = .ok (.ladd, 1) := by decide +kernel
theorem dL_asks_41 : decode cL_asks 41 = .ok (.lstore_n 1, 1) := by decide +kernel
theorem dL_asks_42 : decode cL_asks 42 = .ok (.iinc 3 1, 3) := by decide +kernel
theorem dL_asks_45 : decode cL_asks 45 = .ok (.goto (-22), 3) := by decide +kernel
theorem dL_asks_48 : decode cL_asks 48 = .ok (.iconst 0, 1) := by decide +kernel
theorem dL_asks_49 : decode cL_asks 49 = .ok (.istore_n 3, 1) := by decide +kernel
theorem dL_asks_50 : decode cL_asks 50 = .ok (.iload_n 3, 1) := by decide +kernel
theorem dL_asks_51 : decode cL_asks 51 = .ok (.aload_n 0, 1) := by decide +kernel
theorem dL_asks_52 : decode cL_asks 52 = .ok (.iconst 3, 1) := by decide +kernel
theorem dL_asks_53 : decode cL_asks 53 = .ok (.invokestatic 192, 3) := by decide +kernel
theorem dL_asks_56 : decode cL_asks 56 = .ok (.if_icmp .ge 137, 3) := by decide +kernel
theorem dL_asks_59 : decode cL_asks 59 = .ok (.iconst 0, 1) := by decide +kernel
theorem dL_asks_60 : decode cL_asks 60 = .ok (.istore 4, 2) := by decide +kernel
theorem dL_asks_62 : decode cL_asks 62 = .ok (.iload 4, 2) := by decide +kernel
theorem dL_asks_64 : decode cL_asks 64 = .ok (.bipush 12, 2) := by decide +kernel
theorem dL_asks_66 : decode cL_asks 66 = .ok (.if_icmp .ge 24, 3) := by decide +kernel
theorem dL_asks_69 : decode cL_asks 69 = .ok (.ldc2_w 172, 3) := by decide +kernel
theorem dL_asks_72 : decode cL_asks 72 = .ok (.lload_n 1, 1) := by decide +kernel
theorem dL_asks_73 : decode cL_asks 73 = .ok (.lmul, 1) := by decide +kernel
theorem dL_asks_74 : decode cL_asks 74 = .ok (.aload_n 0, 1) := by decide +kernel
theorem dL_asks_75 : decode cL_asks 75 = .ok (.iload_n 3, 1) := by decide +kernel
theorem dL_asks_76 : decode cL_asks 76 = .ok (.iload 4, 2) := by decide +kernel
theorem dL_asks_78 : decode cL_asks 78 = .ok (.invokestatic 194, 3) := by decide +kernel
theorem dL_asks_81 : decode cL_asks 81 = .ok (.i2l, 1) := by decide +kernel
theorem dL_asks_82 : decode cL_asks 82 = .ok (.ladd, 1) := by decide +kernel
theorem dL_asks_83 : decode cL_asks 83 = .ok (.lstore_n 1, 1) := by decide +kernel
theorem dL_asks_84 : decode cL_asks 84 = .ok (.iinc 4 1, 3) := by decide +kernel
theorem dL_asks_87 : decode cL_asks 87 = .ok (.goto (-25), 3) := by decide +kernel
theorem dL_asks_90 : decode cL_asks 90 = .ok (.ldc2_w 172, 3) := by decide +kernel
theorem dL_asks_93 : decode cL_asks 93 = .ok (.ldc2_w 172, 3) := by decide +kernel
theorem dL_asks_96 : decode cL_asks 96 = .ok (.ldc2_w 172, 3) := by decide +kernel
theorem dL_asks_99 : decode cL_asks 99 = .ok (.lload_n 1, 1) := by decide +kernel
theorem dL_asks_100 : decode cL_asks 100 = .ok (.lmul, 1) := by decide +kernel
theorem dL_asks_101 : decode cL_asks 101 = .ok (.aload_n 0, 1) := by decide +kernel
theorem dL_asks_102 : decode cL_asks 102 = .ok (.iload_n 3, 1) := by decide +kernel
theorem dL_asks_103 : decode cL_asks 103 = .ok (.invokestatic 196, 3) := by decide +kernel
theorem dL_asks_106 : decode cL_asks 106 = .ok (.i2l, 1) := by decide +kernel
theorem dL_asks_107 : decode cL_asks 107 = .ok (.ladd, 1) := by decide +kernel
theorem dL_asks_108 : decode cL_asks 108 = .ok (.lmul, 1) := by decide +kernel
theorem dL_asks_109 : decode cL_asks 109 = .ok (.aload_n 0, 1) := by decide +kernel
theorem dL_asks_110 : decode cL_asks 110 = .ok (.iload_n 3, 1) := by decide +kernel
theorem dL_asks_111 : decode cL_asks 111 = .ok (.invokestatic 198, 3) := by decide +kernel
theorem dL_asks_114 : decode cL_asks 114 = .ok (.i2l, 1) := by decide +kernel
theorem dL_asks_115 : decode cL_asks 115 = .ok (.ladd, 1) := by decide +kernel
theorem dL_asks_116 : decode cL_asks 116 = .ok (.lmul, 1) := by decide +kernel
theorem dL_asks_117 : decode cL_asks 117 = .ok (.aload_n 0, 1) := by decide +kernel
theorem dL_asks_118 : decode cL_asks 118 = .ok (.iload_n 3, 1) := by decide +kernel
theorem dL_asks_119 : decode cL_asks 119 = .ok (.invokestatic 200, 3) := by decide +kernel
theorem dL_asks_122 : decode cL_asks 122 = .ok (.i2l, 1) := by decide +kernel
theorem dL_asks_123 : decode cL_asks 123 = .ok (.ladd, 1) := by decide +kernel
theorem dL_asks_124 : decode cL_asks 124 = .ok (.lstore_n 1, 1) := by decide +kernel
theorem dL_asks_125 : decode cL_asks 125 = .ok (.ldc2_w 172, 3) := by decide +kernel
theorem dL_asks_128 : decode cL_asks 128 = .ok (.ldc2_w 172, 3) := by decide +kernel
theorem dL_asks_131 : decode cL_asks 131 = .ok (.ldc2_w 172, 3) := by decide +kernel
theorem dL_asks_134 : decode cL_asks 134 = .ok (.lload_n 1, 1) := by decide +kernel
theorem dL_asks_135 : decode cL_asks 135 = .ok (.lmul, 1) := by decide +kernel
theorem dL_asks_136 : decode cL_asks 136 = .ok (.aload_n 0, 1) := by decide +kernel
theorem dL_asks_137 : decode cL_asks 137 = .ok (.iload_n 3, 1) := by decide +kernel
theorem dL_asks_138 : decode cL_asks 138 = .ok (.invokestatic 202, 3) := by decide +kernel
theorem dL_asks_141 : decode cL_asks 141 = .ok (.i2l, 1) := by decide +kernel
theorem dL_asks_142 : decode cL_asks 142 = .ok (.ladd, 1) := by decide +kernel
theorem dL_asks_143 : decode cL_asks 143 = .ok (.lmul, 1) := by decide +kernel
theorem dL_asks_144 : decode cL_asks 144 = .ok (.aload_n 0, 1) := by decide +kernel
theorem dL_asks_145 : decode cL_asks 145 = .ok (.iload_n 3, 1) := by decide +kernel
theorem dL_asks_146 : decode cL_asks 146 = .ok (.iconst 0, 1) := by decide +kernel
theorem dL_asks_147 : decode cL_asks 147 = .ok (.invokestatic 204, 3) := by decide +kernel
theorem dL_asks_150 : decode cL_asks 150 = .ok (.i2l, 1) := by decide +kernel
theorem dL_asks_151 : decode cL_asks 151 = .ok (.ladd, 1) := by decide +kernel
theorem dL_asks_152 : decode cL_asks 152 = .ok (.lmul, 1) := by decide +kernel
theorem dL_asks_153 : decode cL_asks 153 = .ok (.aload_n 0, 1) := by decide +kernel
theorem dL_asks_154 : decode cL_asks 154 = .ok (.iload_n 3, 1) := by decide +kernel
theorem dL_asks_155 : decode cL_asks 155 = .ok (.iconst 1, 1) := by decide +kernel
theorem dL_asks_156 : decode cL_asks 156 = .ok (.invokestatic 204, 3) := by decide +kernel
theorem dL_asks_159 : decode cL_asks 159 = .ok (.i2l, 1) := by decide +kernel
theorem dL_asks_160 : decode cL_asks 160 = .ok (.ladd, 1) := by decide +kernel
theorem dL_asks_161 : decode cL_asks 161 = .ok (.lstore_n 1, 1) := by decide +kernel
theorem dL_asks_162 : decode cL_asks 162 = .ok (.ldc2_w 172, 3) := by decide +kernel
theorem dL_asks_165 : decode cL_asks 165 = .ok (.ldc2_w 172, 3) := by decide +kernel
theorem dL_asks_168 : decode cL_asks 168 = .ok (.lload_n 1, 1) := by decide +kernel
theorem dL_asks_169 : decode cL_asks 169 = .ok (.lmul, 1) := by decide +kernel
theorem dL_asks_170 : decode cL_asks 170 = .ok (.aload_n 0, 1) := by decide +kernel
theorem dL_asks_171 : decode cL_asks 171 = .ok (.iload_n 3, 1) := by decide +kernel
theorem dL_asks_172 : decode cL_asks 172 = .ok (.iconst 2, 1) := by decide +kernel
theorem dL_asks_173 : decode cL_asks 173 = .ok (.invokestatic 204, 3) := by decide +kernel
theorem dL_asks_176 : decode cL_asks 176 = .ok (.i2l, 1) := by decide +kernel
theorem dL_asks_177 : decode cL_asks 177 = .ok (.ladd, 1) := by decide +kernel
theorem dL_asks_178 : decode cL_asks 178 = .ok (.lmul, 1) := by decide +kernel
theorem dL_asks_179 : decode cL_asks 179 = .ok (.aload_n 0, 1) := by decide +kernel
theorem dL_asks_180 : decode cL_asks 180 = .ok (.iload_n 3, 1) := by decide +kernel
theorem dL_asks_181 : decode cL_asks 181 = .ok (.invokestatic 206, 3) := by decide +kernel
theorem dL_asks_184 : decode cL_asks 184 = .ok (.i2l, 1) := by decide +kernel
theorem dL_asks_185 : decode cL_asks 185 = .ok (.ladd, 1) := by decide +kernel
theorem dL_asks_186 : decode cL_asks 186 = .ok (.lstore_n 1, 1) := by decide +kernel
theorem dL_asks_187 : decode cL_asks 187 = .ok (.iinc 3 1, 3) := by decide +kernel
theorem dL_asks_190 : decode cL_asks 190 = .ok (.goto (-140), 3) := by decide +kernel
theorem dL_asks_193 : decode cL_asks 193 = .ok (.iconst 0, 1) := by decide +kernel
theorem dL_asks_194 : decode cL_asks 194 = .ok (.istore_n 3, 1) := by decide +kernel
theorem dL_asks_195 : decode cL_asks 195 = .ok (.iload_n 3, 1) := by decide +kernel
theorem dL_asks_196 : decode cL_asks 196 = .ok (.aload_n 0, 1) := by decide +kernel
theorem dL_asks_197 : decode cL_asks 197 = .ok (.bipush 8, 2) := by decide +kernel
theorem dL_asks_199 : decode cL_asks 199 = .ok (.invokestatic 192, 3) := by decide +kernel
theorem dL_asks_202 : decode cL_asks 202 = .ok (.if_icmp .ge 39, 3) := by decide +kernel
theorem dL_asks_205 : decode cL_asks 205 = .ok (.iconst 0, 1) := by decide +kernel
theorem dL_asks_206 : decode cL_asks 206 = .ok (.istore 4, 2) := by decide +kernel
theorem dL_asks_208 : decode cL_asks 208 = .ok (.iload 4, 2) := by decide +kernel
theorem dL_asks_210 : decode cL_asks 210 = .ok (.iconst 4, 1) := by decide +kernel
theorem dL_asks_211 : decode cL_asks 211 = .ok (.if_icmp .ge 24, 3) := by decide +kernel
theorem dL_asks_214 : decode cL_asks 214 = .ok (.ldc2_w 172, 3) := by decide +kernel
theorem dL_asks_217 : decode cL_asks 217 = .ok (.lload_n 1, 1) := by decide +kernel
theorem dL_asks_218 : decode cL_asks 218 = .ok (.lmul, 1) := by decide +kernel
theorem dL_asks_219 : decode cL_asks 219 = .ok (.aload_n 0, 1) := by decide +kernel
theorem dL_asks_220 : decode cL_asks 220 = .ok (.iload_n 3, 1) := by decide +kernel
theorem dL_asks_221 : decode cL_asks 221 = .ok (.iload 4, 2) := by decide +kernel
theorem dL_asks_223 : decode cL_asks 223 = .ok (.invokestatic 208, 3) := by decide +kernel
theorem dL_asks_226 : decode cL_asks 226 = .ok (.i2l, 1) := by decide +kernel
theorem dL_asks_227 : decode cL_asks 227 = .ok (.ladd, 1) := by decide +kernel
theorem dL_asks_228 : decode cL_asks 228 = .ok (.lstore_n 1, 1) := by decide +kernel
theorem dL_asks_229 : decode cL_asks 229 = .ok (.iinc 4 1, 3) := by decide +kernel
theorem dL_asks_232 : decode cL_asks 232 = .ok (.goto (-24), 3) := by decide +kernel
theorem dL_asks_235 : decode cL_asks 235 = .ok (.iinc 3 1, 3) := by decide +kernel
theorem dL_asks_238 : decode cL_asks 238 = .ok (.goto (-43), 3) := by decide +kernel
theorem dL_asks_241 : decode cL_asks 241 = .ok (.ldc2_w 172, 3) := by decide +kernel
theorem dL_asks_244 : decode cL_asks 244 = .ok (.ldc2_w 172, 3) := by decide +kernel
theorem dL_asks_247 : decode cL_asks 247 = .ok (.lload_n 1, 1) := by decide +kernel
theorem dL_asks_248 : decode cL_asks 248 = .ok (.lmul, 1) := by decide +kernel
theorem dL_asks_249 : decode cL_asks 249 = .ok (.aload_n 0, 1) := by decide +kernel
theorem dL_asks_250 : decode cL_asks 250 = .ok (.iconst 0, 1) := by decide +kernel
theorem dL_asks_251 : decode cL_asks 251 = .ok (.invokestatic 210, 3) := by decide +kernel
theorem dL_asks_254 : decode cL_asks 254 = .ok (.i2l, 1) := by decide +kernel
theorem dL_asks_255 : decode cL_asks 255 = .ok (.ladd, 1) := by decide +kernel
theorem dL_asks_256 : decode cL_asks 256 = .ok (.lmul, 1) := by decide +kernel
theorem dL_asks_257 : decode cL_asks 257 = .ok (.aload_n 0, 1) := by decide +kernel
theorem dL_asks_258 : decode cL_asks 258 = .ok (.iconst 3, 1) := by decide +kernel
theorem dL_asks_259 : decode cL_asks 259 = .ok (.invokestatic 210, 3) := by decide +kernel
theorem dL_asks_262 : decode cL_asks 262 = .ok (.i2l, 1) := by decide +kernel
theorem dL_asks_263 : decode cL_asks 263 = .ok (.ladd, 1) := by decide +kernel
theorem dL_asks_264 : decode cL_asks 264 = .ok (.lstore_n 1, 1) := by decide +kernel
theorem dL_asks_265 : decode cL_asks 265 = .ok (.ldc2_w 172, 3) := by decide +kernel
theorem dL_asks_268 : decode cL_asks 268 = .ok (.ldc2_w 172, 3) := by decide +kernel
theorem dL_asks_271 : decode cL_asks 271 = .ok (.lload_n 1, 1) := by decide +kernel
theorem dL_asks_272 : decode cL_asks 272 = .ok (.lmul, 1) := by decide +kernel
theorem dL_asks_273 : decode cL_asks 273 = .ok (.aload_n 0, 1) := by decide +kernel
theorem dL_asks_274 : decode cL_asks 274 = .ok (.bipush 26, 2) := by decide +kernel
theorem dL_asks_276 : decode cL_asks 276 = .ok (.bipush 20, 2) := by decide +kernel
theorem dL_asks_278 : decode cL_asks 278 = .ok (.invokestatic 212, 3) := by decide +kernel
theorem dL_asks_281 : decode cL_asks 281 = .ok (.i2l, 1) := by decide +kernel
theorem dL_asks_282 : decode cL_asks 282 = .ok (.ladd, 1) := by decide +kernel
theorem dL_asks_283 : decode cL_asks 283 = .ok (.lmul, 1) := by decide +kernel
theorem dL_asks_284 : decode cL_asks 284 = .ok (.aload_n 0, 1) := by decide +kernel
theorem dL_asks_285 : decode cL_asks 285 = .ok (.invokevirtual 214, 3) := by decide +kernel
theorem dL_asks_288 : decode cL_asks 288 = .ok (.ifCond .eq 7, 3) := by decide +kernel
theorem dL_asks_291 : decode cL_asks 291 = .ok (.iconst 1, 1) := by decide +kernel
theorem dL_asks_292 : decode cL_asks 292 = .ok (.goto 4, 3) := by decide +kernel
theorem dL_asks_295 : decode cL_asks 295 = .ok (.iconst 0, 1) := by decide +kernel
theorem dL_asks_296 : decode cL_asks 296 = .ok (.i2l, 1) := by decide +kernel
theorem dL_asks_297 : decode cL_asks 297 = .ok (.ladd, 1) := by decide +kernel
theorem dL_asks_298 : decode cL_asks 298 = .ok (.lreturn, 1) := by decide +kernel
theorem dL_changes_0 : decode cL_changes 0 = .ok (.iload_n 1, 1) := by decide +kernel
theorem dL_changes_1 : decode cL_changes 1 = .ok (.iconst 4, 1) := by decide +kernel
theorem dL_changes_2 : decode cL_changes 2 = .ok (.ishr, 1) := by decide +kernel
theorem dL_changes_3 : decode cL_changes 3 = .ok (.aload_n 0, 1) := by decide +kernel
theorem dL_changes_4 : decode cL_changes 4 = .ok (.iconst 3, 1) := by decide +kernel
theorem dL_changes_5 : decode cL_changes 5 = .ok (.invokestatic 192, 3) := by decide +kernel
theorem dL_changes_8 : decode cL_changes 8 = .ok (.iconst 1, 1) := by decide +kernel
theorem dL_changes_9 : decode cL_changes 9 = .ok (.iadd, 1) := by decide +kernel
theorem dL_changes_10 : decode cL_changes 10 = .ok (.invokestatic 153, 3) := by decide +kernel
theorem dL_changes_13 : decode cL_changes 13 = .ok (.istore_n 2, 1) := by decide +kernel
theorem dL_changes_14 : decode cL_changes 14 = .ok (.iload_n 1, 1) := by decide +kernel
theorem dL_changes_15 : decode cL_changes 15 = .ok (.bipush 16, 2) := by decide +kernel
theorem dL_changes_17 : decode cL_changes 17 = .ok (.invokestatic 153, 3) := by decide +kernel
theorem dL_changes_20 : decode cL_changes 20 = .ok (.tableswitch 381 0 14 #[76, 97, 141, 163, 184, 184, 207, 230, 253, 281, 309, 323, 323, 337, 360], 76) := by decide +kernel
theorem dL_changes_96 : decode cL_changes 96 = .ok (.aload_n 0, 1) := by decide +kernel
theorem dL_changes_97 : decode cL_changes 97 = .ok (.iload_n 1, 1) := by decide +kernel
theorem dL_changes_98 : decode cL_changes 98 = .ok (.iconst 4, 1) := by decide +kernel
theorem dL_changes_99 : decode cL_changes 99 = .ok (.ishr, 1) := by decide +kernel
theorem dL_changes_100 : decode cL_changes 100 = .ok (.bipush 17, 2) := by decide +kernel
theorem dL_changes_102 : decode cL_changes 102 = .ok (.invokestatic 153, 3) := by decide +kernel
theorem dL_changes_105 : decode cL_changes 105 = .ok (.invokestatic 156, 3) := by decide +kernel
theorem dL_changes_108 : decode cL_changes 108 = .ok (.ifCond .lt 7, 3) := by decide +kernel
theorem dL_changes_111 : decode cL_changes 111 = .ok (.iconst 1, 1) := by decide +kernel
theorem dL_changes_112 : decode cL_changes 112 = .ok (.goto 4, 3) := by decide +kernel
theorem dL_changes_115 : decode cL_changes 115 = .ok (.iconst 0, 1) := by decide +kernel
theorem dL_changes_116 : decode cL_changes 116 = .ok (.ireturn, 1) := by decide +kernel
theorem dL_changes_117 : decode cL_changes 117 = .ok (.aload_n 0, 1) := by decide +kernel
theorem dL_changes_118 : decode cL_changes 118 = .ok (.iload_n 1, 1) := by decide +kernel
theorem dL_changes_119 : decode cL_changes 119 = .ok (.iconst 4, 1) := by decide +kernel
theorem dL_changes_120 : decode cL_changes 120 = .ok (.ishr, 1) := by decide +kernel
theorem dL_changes_121 : decode cL_changes 121 = .ok (.bipush 7, 2) := by decide +kernel
theorem dL_changes_123 : decode cL_changes 123 = .ok (.invokestatic 153, 3) := by decide +kernel
theorem dL_changes_126 : decode cL_changes 126 = .ok (.iload_n 1, 1) := by decide +kernel
theorem dL_changes_127 : decode cL_changes 127 = .ok (.iconst 5, 1) := by decide +kernel
theorem dL_changes_128 : decode cL_changes 128 = .ok (.ishr, 1) := by decide +kernel
theorem dL_changes_129 : decode cL_changes 129 = .ok (.bipush 9, 2) := by decide +kernel
theorem dL_changes_131 : decode cL_changes 131 = .ok (.invokestatic 153, 3) := by decide +kernel
theorem dL_changes_134 : decode cL_changes 134 = .ok (.iconst 4, 1) := by decide +kernel
theorem dL_changes_135 : decode cL_changes 135 = .ok (.isub, 1) := by decide +kernel
theorem dL_changes_136 : decode cL_changes 136 = .ok (.iload_n 1, 1) := by decide +kernel
theorem dL_changes_137 : decode cL_changes 137 = .ok (.bipush 6, 2) := by decide +kernel
theorem dL_changes_139 : decode cL_changes 139 = .ok (.ishr, 1) := by decide +kernel
theorem dL_changes_140 : decode cL_changes 140 = .ok (.bipush 9, 2) := by decide +kernel
theorem dL_changes_142 : decode cL_changes 142 = .ok (.invokestatic 153, 3) := by decide +kernel
theorem dL_changes_145 : decode cL_changes 145 = .ok (.iconst 4, 1) := by decide +kernel
theorem dL_changes_146 : decode cL_changes 146 = .ok (.isub, 1) := by decide +kernel
theorem dL_changes_147 : decode cL_changes 147 = .ok (.invokestatic 158, 3) := by decide +kernel
theorem dL_changes_150 : decode cL_changes 150 = .ok (.bipush (-33), 2) := by decide +kernel
theorem dL_changes_152 : decode cL_changes 152 = .ok (.if_icmp .lt 7, 3) := by decide +kernel
theorem dL_changes_155 : decode cL_changes 155 = .ok (.iconst 1, 1) := by decide +kernel
theorem dL_changes_156 : decode cL_changes 156 = .ok (.goto 4, 3) := by decide +kernel
theorem dL_changes_159 : decode cL_changes 159 = .ok (.iconst 0, 1) := by decide +kernel
theorem dL_changes_160 : decode cL_changes 160 = .ok (.ireturn, 1) := by decide +kernel
theorem dL_changes_161 : decode cL_changes 161 = .ok (.aload_n 0, 1) := by decide +kernel
theorem dL_changes_162 : decode cL_changes 162 = .ok (.iload_n 1, 1) := by decide +kernel
theorem dL_changes_163 : decode cL_changes 163 = .ok (.iconst 4, 1) := by decide +kernel
theorem dL_changes_164 : decode cL_changes 164 = .ok (.ishr, 1) := by decide +kernel
theorem dL_changes_165 : decode cL_changes 165 = .ok (.sipush 1001, 3) := by decide +kernel
theorem dL_changes_168 : decode cL_changes 168 = .ok (.invokestatic 153, 3) := by decide +kernel
theorem dL_changes_171 : decode cL_changes 171 = .ok (.invokestatic 146, 3) := by decide +kernel
theorem dL_changes_174 : decode cL_changes 174 = .ok (.ifCond .lt 7, 3) := by decide +kernel
theorem dL_changes_177 : decode cL_changes 177 = .ok (.iconst 1, 1) := by decide +kernel
theorem dL_changes_178 : decode cL_changes 178 = .ok (.goto 4, 3) := by decide +kernel
theorem dL_changes_181 : decode cL_changes 181 = .ok (.iconst 0, 1) := by decide +kernel
theorem dL_changes_182 : decode cL_changes 182 = .ok (.ireturn, 1) := by decide +kernel
theorem dL_changes_183 : decode cL_changes 183 = .ok (.aload_n 0, 1) := by decide +kernel
theorem dL_changes_184 : decode cL_changes 184 = .ok (.iload_n 1, 1) := by decide +kernel
theorem dL_changes_185 : decode cL_changes 185 = .ok (.iconst 4, 1) := by decide +kernel
theorem dL_changes_186 : decode cL_changes 186 = .ok (.ishr, 1) := by decide +kernel
theorem dL_changes_187 : decode cL_changes 187 = .ok (.bipush 110, 2) := by decide +kernel
theorem dL_changes_189 : decode cL_changes 189 = .ok (.invokestatic 153, 3) := by decide +kernel
theorem dL_changes_192 : decode cL_changes 192 = .ok (.invokestatic 161, 3) := by decide +kernel
theorem dL_changes_195 : decode cL_changes 195 = .ok (.ifCond .lt 7, 3) := by decide +kernel
theorem dL_changes_198 : decode cL_changes 198 = .ok (.iconst 1, 1) := by decide +kernel
theorem dL_changes_199 : decode cL_changes 199 = .ok (.goto 4, 3) := by decide +kernel
theorem dL_changes_202 : decode cL_changes 202 = .ok (.iconst 0, 1) := by decide +kernel
theorem dL_changes_203 : decode cL_changes 203 = .ok (.ireturn, 1) := by decide +kernel
theorem dL_changes_204 : decode cL_changes 204 = .ok (.aload_n 0, 1) := by decide +kernel
theorem dL_changes_205 : decode cL_changes 205 = .ok (.iload_n 2, 1) := by decide +kernel
theorem dL_changes_206 : decode cL_changes 206 = .ok (.iload_n 1, 1) := by decide +kernel
theorem dL_changes_207 : decode cL_changes 207 = .ok (.bipush 6, 2) := by decide +kernel
theorem dL_changes_209 : decode cL_changes 209 = .ok (.ishr, 1) := by decide +kernel
theorem dL_changes_210 : decode cL_changes 210 = .ok (.bipush 60, 2) := by decide +kernel
theorem dL_changes_212 : decode cL_changes 212 = .ok (.invokestatic 153, 3) := by decide +kernel
theorem dL_changes_215 : decode cL_changes 215 = .ok (.invokestatic 163, 3) := by decide +kernel
theorem dL_changes_218 : decode cL_changes 218 = .ok (.ifCond .lt 7, 3) := by decide +kernel
theorem dL_changes_221 : decode cL_changes 221 = .ok (.iconst 1, 1) := by decide +kernel
theorem dL_changes_222 : decode cL_changes 222 = .ok (.goto 4, 3) := by decide +kernel
theorem dL_changes_225 : decode cL_changes 225 = .ok (.iconst 0, 1) := by decide +kernel
theorem dL_changes_226 : decode cL_changes 226 = .ok (.ireturn, 1) := by decide +kernel
theorem dL_changes_227 : decode cL_changes 227 = .ok (.aload_n 0, 1) := by decide +kernel
theorem dL_changes_228 : decode cL_changes 228 = .ok (.iload_n 2, 1) := by decide +kernel
theorem dL_changes_229 : decode cL_changes 229 = .ok (.iload_n 1, 1) := by decide +kernel
theorem dL_changes_230 : decode cL_changes 230 = .ok (.bipush 6, 2) := by decide +kernel
theorem dL_changes_232 : decode cL_changes 232 = .ok (.ishr, 1) := by decide +kernel
theorem dL_changes_233 : decode cL_changes 233 = .ok (.bipush 30, 2) := by decide +kernel
theorem dL_changes_235 : decode cL_changes 235 = .ok (.invokestatic 153, 3) := by decide +kernel
theorem dL_changes_238 : decode cL_changes 238 = .ok (.invokestatic 166, 3) := by decide +kernel
theorem dL_changes_241 : decode cL_changes 241 = .ok (.ifCond .lt 7, 3) := by decide +kernel
theorem dL_changes_244 : decode cL_changes 244 = .ok (.iconst 1, 1) := by decide +kernel
theorem dL_changes_245 : decode cL_changes 245 = .ok (.goto 4, 3) := by decide +kernel
theorem dL_changes_248 : decode cL_changes 248 = .ok (.iconst 0, 1) := by decide +kernel
theorem dL_changes_249 : decode cL_changes 249 = .ok (.ireturn, 1) := by decide +kernel
theorem dL_changes_250 : decode cL_changes 250 = .ok (.aload_n 0, 1) := by decide +kernel
theorem dL_changes_251 : decode cL_changes 251 = .ok (.iload_n 2, 1) := by decide +kernel
theorem dL_changes_252 : decode cL_changes 252 = .ok (.iload_n 1, 1) := by decide +kernel
theorem dL_changes_253 : decode cL_changes 253 = .ok (.bipush 6, 2) := by decide +kernel
theorem dL_changes_255 : decode cL_changes 255 = .ok (.ishr, 1) := by decide +kernel
theorem dL_changes_256 : decode cL_changes 256 = .ok (.bipush 15, 2) := by decide +kernel
theorem dL_changes_258 : decode cL_changes 258 = .ok (.invokestatic 153, 3) := by decide +kernel
theorem dL_changes_261 : decode cL_changes 261 = .ok (.invokestatic 168, 3) := by decide +kernel
theorem dL_changes_264 : decode cL_changes 264 = .ok (.ifCond .lt 7, 3) := by decide +kernel
theorem dL_changes_267 : decode cL_changes 267 = .ok (.iconst 1, 1) := by decide +kernel
theorem dL_changes_268 : decode cL_changes 268 = .ok (.goto 4, 3) := by decide +kernel
theorem dL_changes_271 : decode cL_changes 271 = .ok (.iconst 0, 1) := by decide +kernel
theorem dL_changes_272 : decode cL_changes 272 = .ok (.ireturn, 1) := by decide +kernel
theorem dL_changes_273 : decode cL_changes 273 = .ok (.aload_n 0, 1) := by decide +kernel
theorem dL_changes_274 : decode cL_changes 274 = .ok (.iload_n 1, 1) := by decide +kernel
theorem dL_changes_275 : decode cL_changes 275 = .ok (.iconst 4, 1) := by decide +kernel
theorem dL_changes_276 : decode cL_changes 276 = .ok (.ishr, 1) := by decide +kernel
theorem dL_changes_277 : decode cL_changes 277 = .ok (.bipush 11, 2) := by decide +kernel
theorem dL_changes_279 : decode cL_changes 279 = .ok (.invokestatic 153, 3) := by decide +kernel
theorem dL_changes_282 : decode cL_changes 282 = .ok (.iload_n 1, 1) := by decide +kernel
theorem dL_changes_283 : decode cL_changes 283 = .ok (.iconst 5, 1) := by decide +kernel
theorem dL_changes_284 : decode cL_changes 284 = .ok (.ishr, 1) := by decide +kernel
theorem dL_changes_285 : decode cL_changes 285 = .ok (.iconst 4, 1) := by decide +kernel
theorem dL_changes_286 : decode cL_changes 286 = .ok (.invokestatic 153, 3) := by decide +kernel
theorem dL_changes_289 : decode cL_changes 289 = .ok (.invokestatic 170, 3) := by decide +kernel
theorem dL_changes_292 : decode cL_changes 292 = .ok (.ifCond .lt 7, 3) := by decide +kernel
theorem dL_changes_295 : decode cL_changes 295 = .ok (.iconst 1, 1) := by decide +kernel
theorem dL_changes_296 : decode cL_changes 296 = .ok (.goto 4, 3) := by decide +kernel
theorem dL_changes_299 : decode cL_changes 299 = .ok (.iconst 0, 1) := by decide +kernel
theorem dL_changes_300 : decode cL_changes 300 = .ok (.ireturn, 1) := by decide +kernel
theorem dL_changes_301 : decode cL_changes 301 = .ok (.aload_n 0, 1) := by decide +kernel
theorem dL_changes_302 : decode cL_changes 302 = .ok (.iload_n 1, 1) := by decide +kernel
theorem dL_changes_303 : decode cL_changes 303 = .ok (.iconst 5, 1) := by decide +kernel
theorem dL_changes_304 : decode cL_changes 304 = .ok (.ishr, 1) := by decide +kernel
theorem dL_changes_305 : decode cL_changes 305 = .ok (.aload_n 0, 1) := by decide +kernel
theorem dL_changes_306 : decode cL_changes 306 = .ok (.bipush 8, 2) := by decide +kernel
theorem dL_changes_308 : decode cL_changes 308 = .ok (.invokestatic 192, 3) := by decide +kernel
theorem dL_changes_311 : decode cL_changes 311 = .ok (.iconst 1, 1) := by decide +kernel
theorem dL_changes_312 : decode cL_changes 312 = .ok (.iadd, 1) := by decide +kernel
theorem dL_changes_313 : decode cL_changes 313 = .ok (.invokestatic 153, 3) := by decide +kernel
theorem dL_changes_316 : decode cL_changes 316 = .ok (.iload_n 2, 1) := by decide +kernel
theorem dL_changes_317 : decode cL_changes 317 = .ok (.invokestatic 218, 3) := by decide +kernel
theorem dL_changes_320 : decode cL_changes 320 = .ok (.ifCond .lt 7, 3) := by decide +kernel
theorem dL_changes_323 : decode cL_changes 323 = .ok (.iconst 1, 1) := by decide +kernel
theorem dL_changes_324 : decode cL_changes 324 = .ok (.goto 4, 3) := by decide +kernel
theorem dL_changes_327 : decode cL_changes 327 = .ok (.iconst 0, 1) := by decide +kernel
theorem dL_changes_328 : decode cL_changes 328 = .ok (.ireturn, 1) := by decide +kernel
theorem dL_changes_329 : decode cL_changes 329 = .ok (.aload_n 0, 1) := by decide +kernel
theorem dL_changes_330 : decode cL_changes 330 = .ok (.iload_n 2, 1) := by decide +kernel
theorem dL_changes_331 : decode cL_changes 331 = .ok (.invokestatic 220, 3) := by decide +kernel
theorem dL_changes_334 : decode cL_changes 334 = .ok (.ifCond .lt 7, 3) := by decide +kernel
theorem dL_changes_337 : decode cL_changes 337 = .ok (.iconst 1, 1) := by decide +kernel
theorem dL_changes_338 : decode cL_changes 338 = .ok (.goto 4, 3) := by decide +kernel
theorem dL_changes_341 : decode cL_changes 341 = .ok (.iconst 0, 1) := by decide +kernel
theorem dL_changes_342 : decode cL_changes 342 = .ok (.ireturn, 1) := by decide +kernel
theorem dL_changes_343 : decode cL_changes 343 = .ok (.aload_n 0, 1) := by decide +kernel
theorem dL_changes_344 : decode cL_changes 344 = .ok (.iload_n 2, 1) := by decide +kernel
theorem dL_changes_345 : decode cL_changes 345 = .ok (.invokestatic 222, 3) := by decide +kernel
theorem dL_changes_348 : decode cL_changes 348 = .ok (.ifCond .lt 7, 3) := by decide +kernel
theorem dL_changes_351 : decode cL_changes 351 = .ok (.iconst 1, 1) := by decide +kernel
theorem dL_changes_352 : decode cL_changes 352 = .ok (.goto 4, 3) := by decide +kernel
theorem dL_changes_355 : decode cL_changes 355 = .ok (.iconst 0, 1) := by decide +kernel
theorem dL_changes_356 : decode cL_changes 356 = .ok (.ireturn, 1) := by decide +kernel
theorem dL_changes_357 : decode cL_changes 357 = .ok (.aload_n 0, 1) := by decide +kernel
theorem dL_changes_358 : decode cL_changes 358 = .ok (.iload_n 2, 1) := by decide +kernel
theorem dL_changes_359 : decode cL_changes 359 = .ok (.iload_n 1, 1) := by decide +kernel
theorem dL_changes_360 : decode cL_changes 360 = .ok (.bipush 6, 2) := by decide +kernel
theorem dL_changes_362 : decode cL_changes 362 = .ok (.ishr, 1) := by decide +kernel
theorem dL_changes_363 : decode cL_changes 363 = .ok (.bipush 8, 2) := by decide +kernel
theorem dL_changes_365 : decode cL_changes 365 = .ok (.invokestatic 153, 3) := by decide +kernel
theorem dL_changes_368 : decode cL_changes 368 = .ok (.invokestatic 224, 3) := by decide +kernel
theorem dL_changes_371 : decode cL_changes 371 = .ok (.ifCond .lt 7, 3) := by decide +kernel
theorem dL_changes_374 : decode cL_changes 374 = .ok (.iconst 1, 1) := by decide +kernel
theorem dL_changes_375 : decode cL_changes 375 = .ok (.goto 4, 3) := by decide +kernel
theorem dL_changes_378 : decode cL_changes 378 = .ok (.iconst 0, 1) := by decide +kernel
theorem dL_changes_379 : decode cL_changes 379 = .ok (.ireturn, 1) := by decide +kernel
theorem dL_changes_380 : decode cL_changes 380 = .ok (.aload_n 0, 1) := by decide +kernel
theorem dL_changes_381 : decode cL_changes 381 = .ok (.iload_n 1, 1) := by decide +kernel
theorem dL_changes_382 : decode cL_changes 382 = .ok (.iconst 4, 1) := by decide +kernel
theorem dL_changes_383 : decode cL_changes 383 = .ok (.ishr, 1) := by decide +kernel
theorem dL_changes_384 : decode cL_changes 384 = .ok (.bipush 10, 2) := by decide +kernel
theorem dL_changes_386 : decode cL_changes 386 = .ok (.invokestatic 153, 3) := by decide +kernel
theorem dL_changes_389 : decode cL_changes 389 = .ok (.invokestatic 226, 3) := by decide +kernel
theorem dL_changes_392 : decode cL_changes 392 = .ok (.ifCond .lt 7, 3) := by decide +kernel
theorem dL_changes_395 : decode cL_changes 395 = .ok (.iconst 1, 1) := by decide +kernel
theorem dL_changes_396 : decode cL_changes 396 = .ok (.goto 4, 3) := by decide +kernel
theorem dL_changes_399 : decode cL_changes 399 = .ok (.iconst 0, 1) := by decide +kernel
theorem dL_changes_400 : decode cL_changes 400 = .ok (.ireturn, 1) := by decide +kernel
theorem dL_changes_401 : decode cL_changes 401 = .ok (.aload_n 0, 1) := by decide +kernel
theorem dL_changes_402 : decode cL_changes 402 = .ok (.iload_n 1, 1) := by decide +kernel
theorem dL_changes_403 : decode cL_changes 403 = .ok (.bipush 6, 2) := by decide +kernel
theorem dL_changes_405 : decode cL_changes 405 = .ok (.ishr, 1) := by decide +kernel
theorem dL_changes_406 : decode cL_changes 406 = .ok (.iconst 1, 1) := by decide +kernel
theorem dL_changes_407 : decode cL_changes 407 = .ok (.iand, 1) := by decide +kernel
theorem dL_changes_408 : decode cL_changes 408 = .ok (.ifCond .ne 52, 3) := by decide +kernel
theorem dL_changes_411 : decode cL_changes 411 = .ok (.new 228, 3) := by decide +kernel
theorem dL_changes_414 : decode cL_changes 414 = .ok (.dup, 1) := by decide +kernel
theorem dL_changes_415 : decode cL_changes 415 = .ok (.invokespecial 230, 3) := by decide +kernel
theorem dL_changes_418 : decode cL_changes 418 = .ok (.ldc 231, 2) := by decide +kernel
theorem dL_changes_420 : decode cL_changes 420 = .ok (.invokevirtual 233, 3) := by decide +kernel
theorem dL_changes_423 : decode cL_changes 423 = .ok (.iload_n 1, 1) := by decide +kernel
theorem dL_changes_424 : decode cL_changes 424 = .ok (.iconst 3, 1) := by decide +kernel
theorem dL_changes_425 : decode cL_changes 425 = .ok (.ishr, 1) := by decide +kernel
theorem dL_changes_426 : decode cL_changes 426 = .ok (.bipush 9, 2) := by decide +kernel
theorem dL_changes_428 : decode cL_changes 428 = .ok (.invokestatic 153, 3) := by decide +kernel
theorem dL_changes_431 : decode cL_changes 431 = .ok (.invokevirtual 236, 3) := by decide +kernel
theorem dL_changes_434 : decode cL_changes 434 = .ok (.ldc 239, 2) := by decide +kernel
theorem dL_changes_436 : decode cL_changes 436 = .ok (.invokevirtual 233, 3) := by decide +kernel
theorem dL_changes_439 : decode cL_changes 439 = .ok (.iload_n 1, 1) := by decide +kernel
theorem dL_changes_440 : decode cL_changes 440 = .ok (.iconst 4, 1) := by decide +kernel
theorem dL_changes_441 : decode cL_changes 441 = .ok (.ishr, 1) := by decide +kernel
theorem dL_changes_442 : decode cL_changes 442 = .ok (.iconst 5, 1) := by decide +kernel
theorem dL_changes_443 : decode cL_changes 443 = .ok (.invokestatic 153, 3) := by decide +kernel
theorem dL_changes_446 : decode cL_changes 446 = .ok (.invokevirtual 236, 3) := by decide +kernel
theorem dL_changes_449 : decode cL_changes 449 = .ok (.ldc 241, 2) := by decide +kernel
theorem dL_changes_451 : decode cL_changes 451 = .ok (.invokevirtual 233, 3) := by decide +kernel
theorem dL_changes_454 : decode cL_changes 454 = .ok (.invokevirtual 243, 3) := by decide +kernel
theorem dL_changes_457 : decode cL_changes 457 = .ok (.goto 48, 3) := by decide +kernel
theorem dL_changes_460 : decode cL_changes 460 = .ok (.new 228, 3) := by decide +kernel
theorem dL_changes_463 : decode cL_changes 463 = .ok (.dup, 1) := by decide +kernel
theorem dL_changes_464 : decode cL_changes 464 = .ok (.invokespecial 230, 3) := by decide +kernel
theorem dL_changes_467 : decode cL_changes 467 = .ok (.ldc 247, 2) := by decide +kernel
theorem dL_changes_469 : decode cL_changes 469 = .ok (.invokevirtual 233, 3) := by decide +kernel
theorem dL_changes_472 : decode cL_changes 472 = .ok (.iload_n 1, 1) := by decide +kernel
theorem dL_changes_473 : decode cL_changes 473 = .ok (.iconst 3, 1) := by decide +kernel
theorem dL_changes_474 : decode cL_changes 474 = .ok (.ishr, 1) := by decide +kernel
theorem dL_changes_475 : decode cL_changes 475 = .ok (.iconst 5, 1) := by decide +kernel
theorem dL_changes_476 : decode cL_changes 476 = .ok (.invokestatic 153, 3) := by decide +kernel
theorem dL_changes_479 : decode cL_changes 479 = .ok (.invokevirtual 236, 3) := by decide +kernel
theorem dL_changes_482 : decode cL_changes 482 = .ok (.ldc 249, 2) := by decide +kernel
theorem dL_changes_484 : decode cL_changes 484 = .ok (.invokevirtual 233, 3) := by decide +kernel
theorem dL_changes_487 : decode cL_changes 487 = .ok (.iload_n 1, 1) := by decide +kernel
theorem dL_changes_488 : decode cL_changes 488 = .ok (.iconst 4, 1) := by decide +kernel
theorem dL_changes_489 : decode cL_changes 489 = .ok (.ishr, 1) := by decide +kernel
theorem dL_changes_490 : decode cL_changes 490 = .ok (.iconst 5, 1) := by decide +kernel
theorem dL_changes_491 : decode cL_changes 491 = .ok (.invokestatic 153, 3) := by decide +kernel
theorem dL_changes_494 : decode cL_changes 494 = .ok (.invokevirtual 236, 3) := by decide +kernel
theorem dL_changes_497 : decode cL_changes 497 = .ok (.ldc 251, 2) := by decide +kernel
theorem dL_changes_499 : decode cL_changes 499 = .ok (.invokevirtual 233, 3) := by decide +kernel
theorem dL_changes_502 : decode cL_changes 502 = .ok (.invokevirtual 243, 3) := by decide +kernel
theorem dL_changes_505 : decode cL_changes 505 = .ok (.invokestatic 253, 3) := by decide +kernel
theorem dL_changes_508 : decode cL_changes 508 = .ok (.ifCond .lt 7, 3) := by decide +kernel
theorem dL_changes_511 : decode cL_changes 511 = .ok (.iconst 1, 1) := by decide +kernel
theorem dL_changes_512 : decode cL_changes 512 = .ok (.goto 4, 3) := by decide +kernel
theorem dL_changes_515 : decode cL_changes 515 = .ok (.iconst 0, 1) := by decide +kernel
theorem dL_changes_516 : decode cL_changes 516 = .ok (.ireturn, 1) := by decide +kernel
theorem dL_refused_0 : decode cL_refused 0 = .ok (.aload_n 0, 1) := by decide +kernel
theorem dL_refused_1 : decode cL_refused 1 = .ok (.invokestatic 257, 3) := by decide +kernel
theorem dL_refused_4 : decode cL_refused 4 = .ok (.lstore_n 1, 1) := by decide +kernel
theorem dL_refused_5 : decode cL_refused 5 = .ok (.aload_n 0, 1) := by decide +kernel
theorem dL_refused_6 : decode cL_refused 6 = .ok (.iconst 3, 1) := by decide +kernel
theorem dL_refused_7 : decode cL_refused 7 = .ok (.invokestatic 192, 3) := by decide +kernel
theorem dL_refused_10 : decode cL_refused 10 = .ok (.istore_n 3, 1) := by decide +kernel
theorem dL_refused_11 : decode cL_refused 11 = .ok (.aload_n 0, 1) := by decide +kernel
theorem dL_refused_12 : decode cL_refused 12 = .ok (.bipush 8, 2) := by decide +kernel
theorem dL_refused_14 : decode cL_refused 14 = .ok (.invokestatic 192, 3) := by decide +kernel
theorem dL_refused_17 : decode cL_refused 17 = .ok (.istore 4, 2) := by decide +kernel
theorem dL_refused_19 : decode cL_refused 19 = .ok (.aload_n 0, 1) := by decide +kernel
theorem dL_refused_20 : decode cL_refused 20 = .ok (.iconst 0, 1) := by decide +kernel
theorem dL_refused_21 : decode cL_refused 21 = .ok (.invokestatic 156, 3) := by decide +kernel
theorem dL_refused_24 : decode cL_refused 24 = .ok (.sipush (-1001), 3) := by decide +kernel
theorem dL_refused_27 : decode cL_refused 27 = .ok (.if_icmp .ne 272, 3) := by decide +kernel
theorem dL_refused_30 : decode cL_refused 30 = .ok (.aload_n 0, 1) := by decide +kernel
theorem dL_refused_31 : decode cL_refused 31 = .ok (.bipush 16, 2) := by decide +kernel
theorem dL_refused_33 : decode cL_refused 33 = .ok (.invokestatic 156, 3) := by decide +kernel
theorem dL_refused_36 : decode cL_refused 36 = .ok (.sipush (-1001), 3) := by decide +kernel
theorem dL_refused_39 : decode cL_refused 39 = .ok (.if_icmp .ne 260, 3) := by decide +kernel
theorem dL_refused_42 : decode cL_refused 42 = .ok (.aload_n 0, 1) := by decide +kernel
theorem dL_refused_43 : decode cL_refused 43 = .ok (.bipush 6, 2) := by decide +kernel
theorem dL_refused_45 : decode cL_refused 45 = .ok (.bipush 9, 2) := by decide +kernel
theorem dL_refused_47 : decode cL_refused 47 = .ok (.iconst 0, 1) := by decide +kernel
theorem dL_refused_48 : decode cL_refused 48 = .ok (.invokestatic 158, 3) := by decide +kernel
theorem dL_refused_51 : decode cL_refused 51 = .ok (.sipush (-1001), 3) := by decide +kernel
theorem dL_refused_54 : decode cL_refused 54 = .ok (.if_icmp .ne 245, 3) := by decide +kernel
theorem dL_refused_57 : decode cL_refused 57 = .ok (.aload_n 0, 1) := by decide +kernel
theorem dL_refused_58 : decode cL_refused 58 = .ok (.iconst (-1), 1) := by decide +kernel
theorem dL_refused_59 : decode cL_refused 59 = .ok (.iconst 0, 1) := by decide +kernel
theorem dL_refused_60 : decode cL_refused 60 = .ok (.iconst 0, 1) := by decide +kernel
theorem dL_refused_61 : decode cL_refused 61 = .ok (.invokestatic 158, 3) := by decide +kernel
theorem dL_refused_64 : decode cL_refused 64 = .ok (.sipush (-1001), 3) := by decide +kernel
theorem dL_refused_67 : decode cL_refused 67 = .ok (.if_icmp .ne 232, 3) := by decide +kernel
theorem dL_refused_70 : decode cL_refused 70 = .ok (.aload_n 0, 1) := by decide +kernel
theorem dL_refused_71 : decode cL_refused 71 = .ok (.iconst 0, 1) := by decide +kernel
theorem dL_refused_72 : decode cL_refused 72 = .ok (.iconst 4, 1) := by decide +kernel
theorem dL_refused_73 : decode cL_refused 73 = .ok (.iconst 0, 1) := by decide +kernel
theorem dL_refused_74 : decode cL_refused 74 = .ok (.invokestatic 158, 3) := by decide +kernel
theorem dL_refused_77 : decode cL_refused 77 = .ok (.sipush (-1002), 3) := by decide +kernel
theorem dL_refused_80 : decode cL_refused 80 = .ok (.if_icmp .ne 219, 3) := by decide +kernel
theorem dL_refused_83 : decode cL_refused 83 = .ok (.aload_n 0, 1) := by decide +kernel
theorem dL_refused_84 : decode cL_refused 84 = .ok (.iconst 0, 1) := by decide +kernel
theorem dL_refused_85 : decode cL_refused 85 = .ok (.bipush (-4), 2) := by decide +kernel
theorem dL_refused_87 : decode cL_refused 87 = .ok (.iconst 0, 1) := by decide +kernel
theorem dL_refused_88 : decode cL_refused 88 = .ok (.invokestatic 158, 3) := by decide +kernel
theorem dL_refused_91 : decode cL_refused 91 = .ok (.sipush (-1002), 3) := by decide +kernel
theorem dL_refused_94 : decode cL_refused 94 = .ok (.if_icmp .ne 205, 3) := by decide +kernel
theorem dL_refused_97 : decode cL_refused 97 = .ok (.aload_n 0, 1) := by decide +kernel
theorem dL_refused_98 : decode cL_refused 98 = .ok (.iconst 0, 1) := by decide +kernel
theorem dL_refused_99 : decode cL_refused 99 = .ok (.iconst 0, 1) := by decide +kernel
theorem dL_refused_100 : decode cL_refused 100 = .ok (.iconst 4, 1) := by decide +kernel
theorem dL_refused_101 : decode cL_refused 101 = .ok (.invokestatic 158, 3) := by decide +kernel
theorem dL_refused_104 : decode cL_refused 104 = .ok (.sipush (-1002), 3) := by decide +kernel
theorem dL_refused_107 : decode cL_refused 107 = .ok (.if_icmp .ne 192, 3) := by decide +kernel
theorem dL_refused_110 : decode cL_refused 110 = .ok (.aload_n 0, 1) := by decide +kernel
theorem dL_refused_111 : decode cL_refused 111 = .ok (.iconst 0, 1) := by decide +kernel
theorem dL_refused_112 : decode cL_refused 112 = .ok (.iconst 0, 1) := by decide +kernel
theorem dL_refused_113 : decode cL_refused 113 = .ok (.bipush (-4), 2) := by decide +kernel
theorem dL_refused_115 : decode cL_refused 115 = .ok (.invokestatic 158, 3) := by decide +kernel
theorem dL_refused_118 : decode cL_refused 118 = .ok (.sipush (-1002), 3) := by decide +kernel
theorem dL_refused_121 : decode cL_refused 121 = .ok (.if_icmp .ne 178, 3) := by decide +kernel
theorem dL_refused_124 : decode cL_refused 124 = .ok (.aload_n 0, 1) := by decide +kernel
theorem dL_refused_125 : decode cL_refused 125 = .ok (.iconst 0, 1) := by decide +kernel
theorem dL_refused_126 : decode cL_refused 126 = .ok (.invokestatic 146, 3) := by decide +kernel
theorem dL_refused_129 : decode cL_refused 129 = .ok (.sipush (-1001), 3) := by decide +kernel
theorem dL_refused_132 : decode cL_refused 132 = .ok (.if_icmp .ne 167, 3) := by decide +kernel
theorem dL_refused_135 : decode cL_refused 135 = .ok (.aload_n 0, 1) := by decide +kernel
theorem dL_refused_136 : decode cL_refused 136 = .ok (.sipush 1000, 3) := by decide +kernel
theorem dL_refused_139 : decode cL_refused 139 = .ok (.invokestatic 146, 3) := by decide +kernel
theorem dL_refused_142 : decode cL_refused 142 = .ok (.sipush (-1001), 3) := by decide +kernel
theorem dL_refused_145 : decode cL_refused 145 = .ok (.if_icmp .ne 154, 3) := by decide +kernel
theorem dL_refused_148 : decode cL_refused 148 = .ok (.aload_n 0, 1) := by decide +kernel
theorem dL_refused_149 : decode cL_refused 149 = .ok (.bipush 9, 2) := by decide +kernel
theorem dL_refused_151 : decode cL_refused 151 = .ok (.invokestatic 161, 3) := by decide +kernel
theorem dL_refused_154 : decode cL_refused 154 = .ok (.sipush (-1001), 3) := by decide +kernel
theorem dL_refused_157 : decode cL_refused 157 = .ok (.if_icmp .ne 142, 3) := by decide +kernel
theorem dL_refused_160 : decode cL_refused 160 = .ok (.aload_n 0, 1) := by decide +kernel
theorem dL_refused_161 : decode cL_refused 161 = .ok (.bipush 100, 2) := by decide +kernel
theorem dL_refused_163 : decode cL_refused 163 = .ok (.invokestatic 161, 3) := by decide +kernel
theorem dL_refused_166 : decode cL_refused 166 = .ok (.sipush (-1001), 3) := by decide +kernel
theorem dL_refused_169 : decode cL_refused 169 = .ok (.if_icmp .ne 130, 3) := by decide +kernel
theorem dL_refused_172 : decode cL_refused 172 = .ok (.aload_n 0, 1) := by decide +kernel
theorem dL_refused_173 : decode cL_refused 173 = .ok (.iload_n 3, 1) := by decide +kernel
theorem dL_refused_174 : decode cL_refused 174 = .ok (.iconst 0, 1) := by decide +kernel
theorem dL_refused_175 : decode cL_refused 175 = .ok (.invokestatic 163, 3) := by decide +kernel
theorem dL_refused_178 : decode cL_refused 178 = .ok (.sipush (-1001), 3) := by decide +kernel
theorem dL_refused_181 : decode cL_refused 181 = .ok (.if_icmp .ne 118, 3) := by decide +kernel
theorem dL_refused_184 : decode cL_refused 184 = .ok (.aload_n 0, 1) := by decide +kernel
theorem dL_refused_185 : decode cL_refused 185 = .ok (.iconst (-1), 1) := by decide +kernel
theorem dL_refused_186 : decode cL_refused 186 = .ok (.iconst 1, 1) := by decide +kernel
theorem dL_refused_187 : decode cL_refused 187 = .ok (.invokestatic 163, 3) := by decide +kernel
theorem dL_refused_190 : decode cL_refused 190 = .ok (.sipush (-1001), 3) := by decide +kernel
theorem dL_refused_193 : decode cL_refused 193 = .ok (.if_icmp .ne 106, 3) := by decide +kernel
theorem dL_refused_196 : decode cL_refused 196 = .ok (.aload_n 0, 1) := by decide +kernel
theorem dL_refused_197 : decode cL_refused 197 = .ok (.iconst 0, 1) := by decide +kernel
theorem dL_refused_198 : decode cL_refused 198 = .ok (.iconst 0, 1) := by decide +kernel
theorem dL_refused_199 : decode cL_refused 199 = .ok (.invokestatic 163, 3) := by decide +kernel
theorem dL_refused_202 : decode cL_refused 202 = .ok (.sipush (-1002), 3) := by decide +kernel
theorem dL_refused_205 : decode cL_refused 205 = .ok (.if_icmp .ne 94, 3) := by decide +kernel
theorem dL_refused_208 : decode cL_refused 208 = .ok (.aload_n 0, 1) := by decide +kernel
theorem dL_refused_209 : decode cL_refused 209 = .ok (.iconst 0, 1) := by decide +kernel
theorem dL_refused_210 : decode cL_refused 210 = .ok (.bipush 100, 2) := by decide +kernel
theorem dL_refused_212 : decode cL_refused 212 = .ok (.invokestatic 163, 3) := by decide +kernel
theorem dL_refused_215 : decode cL_refused 215 = .ok (.sipush (-1002), 3) := by decide +kernel
theorem dL_refused_218 : decode cL_refused 218 = .ok (.if_icmp .ne 81, 3) := by decide +kernel
theorem dL_refused_221 : decode cL_refused 221 = .ok (.aload_n 0, 1) := by decide +kernel
theorem dL_refused_222 : decode cL_refused 222 = .ok (.iload_n 3, 1) := by decide +kernel
theorem dL_refused_223 : decode cL_refused 223 = .ok (.iconst 0, 1) := by decide +kernel
theorem dL_refused_224 : decode cL_refused 224 = .ok (.invokestatic 166, 3) := by decide +kernel
theorem dL_refused_227 : decode cL_refused 227 = .ok (.sipush (-1001), 3) := by decide +kernel
theorem dL_refused_230 : decode cL_refused 230 = .ok (.if_icmp .ne 69, 3) := by decide +kernel
theorem dL_refused_233 : decode cL_refused 233 = .ok (.aload_n 0, 1) := by decide +kernel
theorem dL_refused_234 : decode cL_refused 234 = .ok (.iconst 0, 1) := by decide +kernel
theorem dL_refused_235 : decode cL_refused 235 = .ok (.iconst 0, 1) := by decide +kernel
theorem dL_refused_236 : decode cL_refused 236 = .ok (.invokestatic 166, 3) := by decide +kernel
theorem dL_refused_239 : decode cL_refused 239 = .ok (.sipush (-1002), 3) := by decide +kernel
theorem dL_refused_242 : decode cL_refused 242 = .ok (.if_icmp .ne 57, 3) := by decide +kernel
theorem dL_refused_245 : decode cL_refused 245 = .ok (.aload_n 0, 1) := by decide +kernel
theorem dL_refused_246 : decode cL_refused 246 = .ok (.iconst 0, 1) := by decide +kernel
theorem dL_refused_247 : decode cL_refused 247 = .ok (.bipush 51, 2) := by decide +kernel
theorem dL_refused_249 : decode cL_refused 249 = .ok (.invokestatic 166, 3) := by decide +kernel
theorem dL_refused_252 : decode cL_refused 252 = .ok (.sipush (-1002), 3) := by decide +kernel
theorem dL_refused_255 : decode cL_refused 255 = .ok (.if_icmp .ne 44, 3) := by decide +kernel
theorem dL_refused_258 : decode cL_refused 258 = .ok (.aload_n 0, 1) := by decide +kernel
theorem dL_refused_259 : decode cL_refused 259 = .ok (.iload_n 3, 1) := by decide +kernel
theorem dL_refused_260 : decode cL_refused 260 = .ok (.iconst 0, 1) := by decide +kernel
theorem dL_refused_261 : decode cL_refused 261 = .ok (.invokestatic 168, 3) := by decide +kernel
theorem dL_refused_264 : decode cL_refused 264 = .ok (.sipush (-1001), 3) := by decide +kernel
theorem dL_refused_267 : decode cL_refused 267 = .ok (.if_icmp .ne 32, 3) := by decide +kernel
theorem dL_refused_270 : decode cL_refused 270 = .ok (.aload_n 0, 1) := by decide +kernel
theorem dL_refused_271 : decode cL_refused 271 = .ok (.iconst 0, 1) := by decide +kernel
theorem dL_refused_272 : decode cL_refused 272 = .ok (.iconst 4, 1) := by decide +kernel
theorem dL_refused_273 : decode cL_refused 273 = .ok (.invokestatic 168, 3) := by decide +kernel
theorem dL_refused_276 : decode cL_refused 276 = .ok (.sipush (-1002), 3) := by decide +kernel
theorem dL_refused_279 : decode cL_refused 279 = .ok (.if_icmp .ne 20, 3) := by decide +kernel
theorem dL_refused_282 : decode cL_refused 282 = .ok (.aload_n 0, 1) := by decide +kernel
theorem dL_refused_283 : decode cL_refused 283 = .ok (.iconst 0, 1) := by decide +kernel
theorem dL_refused_284 : decode cL_refused 284 = .ok (.bipush 13, 2) := by decide +kernel
theorem dL_refused_286 : decode cL_refused 286 = .ok (.invokestatic 168, 3) := by decide +kernel
theorem dL_refused_289 : decode cL_refused 289 = .ok (.sipush (-1002), 3) := by decide +kernel
theorem dL_refused_292 : decode cL_refused 292 = .ok (.if_icmp .ne 7, 3) := by decide +kernel
theorem dL_refused_295 : decode cL_refused 295 = .ok (.iconst 1, 1) := by decide +kernel
theorem dL_refused_296 : decode cL_refused 296 = .ok (.goto 4, 3) := by decide +kernel
theorem dL_refused_299 : decode cL_refused 299 = .ok (.iconst 0, 1) := by decide +kernel
theorem dL_refused_300 : decode cL_refused 300 = .ok (.istore 5, 2) := by decide +kernel
theorem dL_refused_302 : decode cL_refused 302 = .ok (.iload 5, 2) := by decide +kernel
theorem dL_refused_304 : decode cL_refused 304 = .ok (.ifCond .eq 296, 3) := by decide +kernel
theorem dL_refused_307 : decode cL_refused 307 = .ok (.aload_n 0, 1) := by decide +kernel
theorem dL_refused_308 : decode cL_refused 308 = .ok (.iconst 0, 1) := by decide +kernel
theorem dL_refused_309 : decode cL_refused 309 = .ok (.iconst 0, 1) := by decide +kernel
theorem dL_refused_310 : decode cL_refused 310 = .ok (.invokestatic 170, 3) := by decide +kernel
theorem dL_refused_313 : decode cL_refused 313 = .ok (.sipush (-1001), 3) := by decide +kernel
theorem dL_refused_316 : decode cL_refused 316 = .ok (.if_icmp .ne 284, 3) := by decide +kernel
theorem dL_refused_319 : decode cL_refused 319 = .ok (.aload_n 0, 1) := by decide +kernel
theorem dL_refused_320 : decode cL_refused 320 = .ok (.bipush 10, 2) := by decide +kernel
theorem dL_refused_322 : decode cL_refused 322 = .ok (.iconst 0, 1) := by decide +kernel
theorem dL_refused_323 : decode cL_refused 323 = .ok (.invokestatic 170, 3) := by decide +kernel
theorem dL_refused_326 : decode cL_refused 326 = .ok (.sipush (-1001), 3) := by decide +kernel
theorem dL_refused_329 : decode cL_refused 329 = .ok (.if_icmp .ne 271, 3) := by decide +kernel
theorem dL_refused_332 : decode cL_refused 332 = .ok (.aload_n 0, 1) := by decide +kernel
theorem dL_refused_333 : decode cL_refused 333 = .ok (.iconst 1, 1) := by decide +kernel
theorem dL_refused_334 : decode cL_refused 334 = .ok (.iconst 3, 1) := by decide +kernel
theorem dL_refused_335 : decode cL_refused 335 = .ok (.invokestatic 170, 3) := by decide +kernel
theorem dL_refused_338 : decode cL_refused 338 = .ok (.sipush (-1001), 3) := by decide +kernel
theorem dL_refused_341 : decode cL_refused 341 = .ok (.if_icmp .ne 259, 3) := by decide +kernel
theorem dL_refused_344 : decode cL_refused 344 = .ok (.aload_n 0, 1) := by decide +kernel
theorem dL_refused_345 : decode cL_refused 345 = .ok (.iconst 1, 1) := by decide +kernel
theorem dL_refused_346 : decode cL_refused 346 = .ok (.iconst (-1), 1) := by decide +kernel
theorem dL_refused_347 : decode cL_refused 347 = .ok (.invokestatic 170, 3) := by decide +kernel
theorem dL_refused_350 : decode cL_refused 350 = .ok (.sipush (-1001), 3) := by decide +kernel
theorem dL_refused_353 : decode cL_refused 353 = .ok (.if_icmp .ne 247, 3) := by decide +kernel
theorem dL_refused_356 : decode cL_refused 356 = .ok (.aload_n 0, 1) := by decide +kernel
theorem dL_refused_357 : decode cL_refused 357 = .ok (.iload 4, 2) := by decide +kernel
theorem dL_refused_359 : decode cL_refused 359 = .ok (.iconst 0, 1) := by decide +kernel
theorem dL_refused_360 : decode cL_refused 360 = .ok (.invokestatic 218, 3) := by decide +kernel
theorem dL_refused_363 : decode cL_refused 363 = .ok (.sipush (-1001), 3) := by decide +kernel
theorem dL_refused_366 : decode cL_refused 366 = .ok (.if_icmp .ne 234, 3) := by decide +kernel
theorem dL_refused_369 : decode cL_refused 369 = .ok (.aload_n 0, 1) := by decide +kernel
theorem dL_refused_370 : decode cL_refused 370 = .ok (.iconst 0, 1) := by decide +kernel
theorem dL_refused_371 : decode cL_refused 371 = .ok (.iload_n 3, 1) := by decide +kernel
theorem dL_refused_372 : decode cL_refused 372 = .ok (.invokestatic 218, 3) := by decide +kernel
theorem dL_refused_375 : decode cL_refused 375 = .ok (.sipush (-1001), 3) := by decide +kernel
theorem dL_refused_378 : decode cL_refused 378 = .ok (.if_icmp .ne 222, 3) := by decide +kernel
theorem dL_refused_381 : decode cL_refused 381 = .ok (.aload_n 0, 1) := by decide +kernel
theorem dL_refused_382 : decode cL_refused 382 = .ok (.iconst (-1), 1) := by decide +kernel
theorem dL_refused_383 : decode cL_refused 383 = .ok (.iconst (-1), 1) := by decide +kernel
theorem dL_refused_384 : decode cL_refused 384 = .ok (.invokestatic 218, 3) := by decide +kernel
theorem dL_refused_387 : decode cL_refused 387 = .ok (.sipush (-1001), 3) := by decide +kernel
theorem dL_refused_390 : decode cL_refused 390 = .ok (.if_icmp .ne 210, 3) := by decide +kernel
theorem dL_refused_393 : decode cL_refused 393 = .ok (.aload_n 0, 1) := by decide +kernel
theorem dL_refused_394 : decode cL_refused 394 = .ok (.iload_n 3, 1) := by decide +kernel
theorem dL_refused_395 : decode cL_refused 395 = .ok (.invokestatic 220, 3) := by decide +kernel
theorem dL_refused_398 : decode cL_refused 398 = .ok (.sipush (-1001), 3) := by decide +kernel
theorem dL_refused_401 : decode cL_refused 401 = .ok (.if_icmp .ne 199, 3) := by decide +kernel
theorem dL_refused_404 : decode cL_refused 404 = .ok (.aload_n 0, 1) := by decide +kernel
theorem dL_refused_405 : decode cL_refused 405 = .ok (.iload_n 3, 1) := by decide +kernel
theorem dL_refused_406 : decode cL_refused 406 = .ok (.invokestatic 222, 3) := by decide +kernel
theorem dL_refused_409 : decode cL_refused 409 = .ok (.sipush (-1001), 3) := by decide +kernel
theorem dL_refused_412 : decode cL_refused 412 = .ok (.if_icmp .ne 188, 3) := by decide +kernel
theorem dL_refused_415 : decode cL_refused 415 = .ok (.aload_n 0, 1) := by decide +kernel
theorem dL_refused_416 : decode cL_refused 416 = .ok (.iconst (-1), 1) := by decide +kernel
theorem dL_refused_417 : decode cL_refused 417 = .ok (.invokestatic 222, 3) := by decide +kernel
theorem dL_refused_420 : decode cL_refused 420 = .ok (.sipush (-1001), 3) := by decide +kernel
theorem dL_refused_423 : decode cL_refused 423 = .ok (.if_icmp .ne 177, 3) := by decide +kernel
theorem dL_refused_426 : decode cL_refused 426 = .ok (.aload_n 0, 1) := by decide +kernel
theorem dL_refused_427 : decode cL_refused 427 = .ok (.iload_n 3, 1) := by decide +kernel
theorem dL_refused_428 : decode cL_refused 428 = .ok (.iconst 0, 1) := by decide +kernel
theorem dL_refused_429 : decode cL_refused 429 = .ok (.invokestatic 224, 3) := by decide +kernel
theorem dL_refused_432 : decode cL_refused 432 = .ok (.sipush (-1001), 3) := by decide +kernel
theorem dL_refused_435 : decode cL_refused 435 = .ok (.if_icmp .ne 165, 3) := by decide +kernel
theorem dL_refused_438 : decode cL_refused 438 = .ok (.aload_n 0, 1) := by decide +kernel
theorem dL_refused_439 : decode cL_refused 439 = .ok (.iconst 0, 1) := by decide +kernel
theorem dL_refused_440 : decode cL_refused 440 = .ok (.iconst 0, 1) := by decide +kernel
theorem dL_refused_441 : decode cL_refused 441 = .ok (.invokestatic 224, 3) := by decide +kernel
theorem dL_refused_444 : decode cL_refused 444 = .ok (.sipush (-1002), 3) := by decide +kernel
theorem dL_refused_447 : decode cL_refused 447 = .ok (.if_icmp .ne 153, 3) := by decide +kernel
theorem dL_refused_450 : decode cL_refused 450 = .ok (.aload_n 0, 1) := by decide +kernel
theorem dL_refused_451 : decode cL_refused 451 = .ok (.iconst 0, 1) := by decide +kernel
theorem dL_refused_452 : decode cL_refused 452 = .ok (.bipush 51, 2) := by decide +kernel
theorem dL_refused_454 : decode cL_refused 454 = .ok (.invokestatic 224, 3) := by decide +kernel
theorem dL_refused_457 : decode cL_refused 457 = .ok (.sipush (-1002), 3) := by decide +kernel
theorem dL_refused_460 : decode cL_refused 460 = .ok (.if_icmp .ne 140, 3) := by decide +kernel
theorem dL_refused_463 : decode cL_refused 463 = .ok (.aload_n 0, 1) := by decide +kernel
theorem dL_refused_464 : decode cL_refused 464 = .ok (.iconst 0, 1) := by decide +kernel
theorem dL_refused_465 : decode cL_refused 465 = .ok (.invokestatic 226, 3) := by decide +kernel
theorem dL_refused_468 : decode cL_refused 468 = .ok (.sipush (-1001), 3) := by decide +kernel
theorem dL_refused_471 : decode cL_refused 471 = .ok (.if_icmp .ne 129, 3) := by decide +kernel
theorem dL_refused_474 : decode cL_refused 474 = .ok (.aload_n 0, 1) := by decide +kernel
theorem dL_refused_475 : decode cL_refused 475 = .ok (.bipush 49, 2) := by decide +kernel
theorem dL_refused_477 : decode cL_refused 477 = .ok (.invokestatic 226, 3) := by decide +kernel
theorem dL_refused_480 : decode cL_refused 480 = .ok (.sipush (-1001), 3) := by decide +kernel
theorem dL_refused_483 : decode cL_refused 483 = .ok (.if_icmp .ne 117, 3) := by decide +kernel
theorem dL_refused_486 : decode cL_refused 486 = .ok (.aload_n 0, 1) := by decide +kernel
theorem dL_refused_487 : decode cL_refused 487 = .ok (.iload_n 3, 1) := by decide +kernel
theorem dL_refused_488 : decode cL_refused 488 = .ok (.bipush 99, 2) := by decide +kernel
theorem dL_refused_490 : decode cL_refused 490 = .ok (.invokestatic 194, 3) := by decide +kernel
theorem dL_refused_493 : decode cL_refused 493 = .ok (.sipush (-1001), 3) := by decide +kernel
theorem dL_refused_496 : decode cL_refused 496 = .ok (.if_icmp .ne 104, 3) := by decide +kernel
theorem dL_refused_499 : decode cL_refused 499 = .ok (.aload_n 0, 1) := by decide +kernel
theorem dL_refused_500 : decode cL_refused 500 = .ok (.iconst 0, 1) := by decide +kernel
theorem dL_refused_501 : decode cL_refused 501 = .ok (.bipush 12, 2) := by decide +kernel
theorem dL_refused_503 : decode cL_refused 503 = .ok (.invokestatic 194, 3) := by decide +kernel
theorem dL_refused_506 : decode cL_refused 506 = .ok (.sipush (-1002), 3) := by decide +kernel
theorem dL_refused_509 : decode cL_refused 509 = .ok (.if_icmp .ne 91, 3) := by decide +kernel
theorem dL_refused_512 : decode cL_refused 512 = .ok (.aload_n 0, 1) := by decide +kernel
theorem dL_refused_513 : decode cL_refused 513 = .ok (.iconst 0, 1) := by decide +kernel
theorem dL_refused_514 : decode cL_refused 514 = .ok (.iconst (-1), 1) := by decide +kernel
theorem dL_refused_515 : decode cL_refused 515 = .ok (.invokestatic 194, 3) := by decide +kernel
theorem dL_refused_518 : decode cL_refused 518 = .ok (.sipush (-1002), 3) := by decide +kernel
theorem dL_refused_521 : decode cL_refused 521 = .ok (.if_icmp .ne 79, 3) := by decide +kernel
theorem dL_refused_524 : decode cL_refused 524 = .ok (.aload_n 0, 1) := by decide +kernel
theorem dL_refused_525 : decode cL_refused 525 = .ok (.iload 4, 2) := by decide +kernel
theorem dL_refused_527 : decode cL_refused 527 = .ok (.bipush 9, 2) := by decide +kernel
theorem dL_refused_529 : decode cL_refused 529 = .ok (.invokestatic 208, 3) := by decide +kernel
theorem dL_refused_532 : decode cL_refused 532 = .ok (.sipush (-1001), 3) := by decide +kernel
theorem dL_refused_535 : decode cL_refused 535 = .ok (.if_icmp .ne 65, 3) := by decide +kernel
theorem dL_refused_538 : decode cL_refused 538 = .ok (.aload_n 0, 1) := by decide +kernel
theorem dL_refused_539 : decode cL_refused 539 = .ok (.iconst 0, 1) := by decide +kernel
theorem dL_refused_540 : decode cL_refused 540 = .ok (.iconst 4, 1) := by decide +kernel
theorem dL_refused_541 : decode cL_refused 541 = .ok (.invokestatic 208, 3) := by decide +kernel
theorem dL_refused_544 : decode cL_refused 544 = .ok (.sipush (-1002), 3) := by decide +kernel
theorem dL_refused_547 : decode cL_refused 547 = .ok (.if_icmp .ne 53, 3) := by decide +kernel
theorem dL_refused_550 : decode cL_refused 550 = .ok (.aload_n 0, 1) := by decide +kernel
theorem dL_refused_551 : decode cL_refused 551 = .ok (.iconst 0, 1) := by decide +kernel
theorem dL_refused_552 : decode cL_refused 552 = .ok (.iconst (-1), 1) := by decide +kernel
theorem dL_refused_553 : decode cL_refused 553 = .ok (.invokestatic 208, 3) := by decide +kernel
theorem dL_refused_556 : decode cL_refused 556 = .ok (.sipush (-1002), 3) := by decide +kernel
theorem dL_refused_559 : decode cL_refused 559 = .ok (.if_icmp .ne 41, 3) := by decide +kernel
theorem dL_refused_562 : decode cL_refused 562 = .ok (.aload_n 0, 1) := by decide +kernel
theorem dL_refused_563 : decode cL_refused 563 = .ok (.iload_n 3, 1) := by decide +kernel
theorem dL_refused_564 : decode cL_refused 564 = .ok (.invokestatic 196, 3) := by decide +kernel
theorem dL_refused_567 : decode cL_refused 567 = .ok (.sipush (-1001), 3) := by decide +kernel
theorem dL_refused_570 : decode cL_refused 570 = .ok (.if_icmp .ne 30, 3) := by decide +kernel
theorem dL_refused_573 : decode cL_refused 573 = .ok (.aload_n 0, 1) := by decide +kernel
theorem dL_refused_574 : decode cL_refused 574 = .ok (.iconst (-1), 1) := by decide +kernel
theorem dL_refused_575 : decode cL_refused 575 = .ok (.invokestatic 210, 3) := by decide +kernel
theorem dL_refused_578 : decode cL_refused 578 = .ok (.sipush (-1001), 3) := by decide +kernel
theorem dL_refused_581 : decode cL_refused 581 = .ok (.if_icmp .ne 19, 3) := by decide +kernel
theorem dL_refused_584 : decode cL_refused 584 = .ok (.aload_n 0, 1) := by decide +kernel
theorem dL_refused_585 : decode cL_refused 585 = .ok (.bipush 24, 2) := by decide +kernel
theorem dL_refused_587 : decode cL_refused 587 = .ok (.invokestatic 210, 3) := by decide +kernel
theorem dL_refused_590 : decode cL_refused 590 = .ok (.sipush (-1001), 3) := by decide +kernel
theorem dL_refused_593 : decode cL_refused 593 = .ok (.if_icmp .ne 7, 3) := by decide +kernel
theorem dL_refused_596 : decode cL_refused 596 = .ok (.iconst 1, 1) := by decide +kernel
theorem dL_refused_597 : decode cL_refused 597 = .ok (.goto 4, 3) := by decide +kernel
theorem dL_refused_600 : decode cL_refused 600 = .ok (.iconst 0, 1) := by decide +kernel
theorem dL_refused_601 : decode cL_refused 601 = .ok (.istore 5, 2) := by decide +kernel
theorem dL_refused_603 : decode cL_refused 603 = .ok (.iload 5, 2) := by decide +kernel
theorem dL_refused_605 : decode cL_refused 605 = .ok (.ifCond .eq 136, 3) := by decide +kernel
theorem dL_refused_608 : decode cL_refused 608 = .ok (.aload_n 0, 1) := by decide +kernel
theorem dL_refused_609 : decode cL_refused 609 = .ok (.iload_n 3, 1) := by decide +kernel
theorem dL_refused_610 : decode cL_refused 610 = .ok (.invokestatic 198, 3) := by decide +kernel
theorem dL_refused_613 : decode cL_refused 613 = .ok (.sipush (-1001), 3) := by decide +kernel
theorem dL_refused_616 : decode cL_refused 616 = .ok (.if_icmp .ne 125, 3) := by decide +kernel
theorem dL_refused_619 : decode cL_refused 619 = .ok (.aload_n 0, 1) := by decide +kernel
theorem dL_refused_620 : decode cL_refused 620 = .ok (.iload_n 3, 1) := by decide +kernel
theorem dL_refused_621 : decode cL_refused 621 = .ok (.invokestatic 200, 3) := by decide +kernel
theorem dL_refused_624 : decode cL_refused 624 = .ok (.sipush (-1001), 3) := by decide +kernel
theorem dL_refused_627 : decode cL_refused 627 = .ok (.if_icmp .ne 114, 3) := by decide +kernel
theorem dL_refused_630 : decode cL_refused 630 = .ok (.aload_n 0, 1) := by decide +kernel
theorem dL_refused_631 : decode cL_refused 631 = .ok (.iconst (-1), 1) := by decide +kernel
theorem dL_refused_632 : decode cL_refused 632 = .ok (.iconst 0, 1) := by decide +kernel
theorem dL_refused_633 : decode cL_refused 633 = .ok (.invokestatic 212, 3) := by decide +kernel
theorem dL_refused_636 : decode cL_refused 636 = .ok (.sipush (-1001), 3) := by decide +kernel
theorem dL_refused_639 : decode cL_refused 639 = .ok (.if_icmp .ne 102, 3) := by decide +kernel
theorem dL_refused_642 : decode cL_refused 642 = .ok (.aload_n 0, 1) := by decide +kernel
theorem dL_refused_643 : decode cL_refused 643 = .ok (.iconst 0, 1) := by decide +kernel
theorem dL_refused_644 : decode cL_refused 644 = .ok (.bipush 40, 2) := by decide +kernel
theorem dL_refused_646 : decode cL_refused 646 = .ok (.invokestatic 212, 3) := by decide +kernel
theorem dL_refused_649 : decode cL_refused 649 = .ok (.sipush (-1001), 3) := by decide +kernel
theorem dL_refused_652 : decode cL_refused 652 = .ok (.if_icmp .ne 89, 3) := by decide +kernel
theorem dL_refused_655 : decode cL_refused 655 = .ok (.aload_n 0, 1) := by decide +kernel
theorem dL_refused_656 : decode cL_refused 656 = .ok (.iload_n 3, 1) := by decide +kernel
theorem dL_refused_657 : decode cL_refused 657 = .ok (.invokestatic 202, 3) := by decide +kernel
theorem dL_refused_660 : decode cL_refused 660 = .ok (.sipush (-1001), 3) := by decide +kernel
theorem dL_refused_663 : decode cL_refused 663 = .ok (.if_icmp .ne 78, 3) := by decide +kernel
theorem dL_refused_666 : decode cL_refused 666 = .ok (.aload_n 0, 1) := by decide +kernel
theorem dL_refused_667 : decode cL_refused 667 = .ok (.iload_n 3, 1) := by decide +kernel
theorem dL_refused_668 : decode cL_refused 668 = .ok (.bipush 9, 2) := by decide +kernel
theorem dL_refused_670 : decode cL_refused 670 = .ok (.invokestatic 204, 3) := by decide +kernel
theorem dL_refused_673 : decode cL_refused 673 = .ok (.sipush (-1001), 3) := by decide +kernel
theorem dL_refused_676 : decode cL_refused 676 = .ok (.if_icmp .ne 65, 3) := by decide +kernel
theorem dL_refused_679 : decode cL_refused 679 = .ok (.aload_n 0, 1) := by decide +kernel
theorem dL_refused_680 : decode cL_refused 680 = .ok (.iconst 0, 1) := by decide +kernel
theorem dL_refused_681 : decode cL_refused 681 = .ok (.iconst 3, 1) := by decide +kernel
theorem dL_refused_682 : decode cL_refused 682 = .ok (.invokestatic 204, 3) := by decide +kernel
theorem dL_refused_685 : decode cL_refused 685 = .ok (.sipush (-1002), 3) := by decide +kernel
theorem dL_refused_688 : decode cL_refused 688 = .ok (.if_icmp .ne 53, 3) := by decide +kernel
theorem dL_refused_691 : decode cL_refused 691 = .ok (.aload_n 0, 1) := by decide +kernel
theorem dL_refused_692 : decode cL_refused 692 = .ok (.iconst 0, 1) := by decide +kernel
theorem dL_refused_693 : decode cL_refused 693 = .ok (.iconst (-1), 1) := by decide +kernel
theorem dL_refused_694 : decode cL_refused 694 = .ok (.invokestatic 204, 3) := by decide +kernel
theorem dL_refused_697 : decode cL_refused 697 = .ok (.sipush (-1002), 3) := by decide +kernel
theorem dL_refused_700 : decode cL_refused 700 = .ok (.if_icmp .ne 41, 3) := by decide +kernel
theorem dL_refused_703 : decode cL_refused 703 = .ok (.aload_n 0, 1) := by decide +kernel
theorem dL_refused_704 : decode cL_refused 704 = .ok (.iconst (-1), 1) := by decide +kernel
theorem dL_refused_705 : decode cL_refused 705 = .ok (.invokestatic 206, 3) := by decide +kernel
theorem dL_refused_708 : decode cL_refused 708 = .ok (.sipush (-1001), 3) := by decide +kernel
theorem dL_refused_711 : decode cL_refused 711 = .ok (.if_icmp .ne 30, 3) := by decide +kernel
theorem dL_refused_714 : decode cL_refused 714 = .ok (.aload_n 0, 1) := by decide +kernel
theorem dL_refused_715 : decode cL_refused 715 = .ok (.bipush 21, 2) := by decide +kernel
theorem dL_refused_717 : decode cL_refused 717 = .ok (.invokestatic 192, 3) := by decide +kernel
theorem dL_refused_720 : decode cL_refused 720 = .ok (.sipush (-1001), 3) := by decide +kernel
theorem dL_refused_723 : decode cL_refused 723 = .ok (.if_icmp .ne 18, 3) := by decide +kernel
theorem dL_refused_726 : decode cL_refused 726 = .ok (.aload_n 0, 1) := by decide +kernel
theorem dL_refused_727 : decode cL_refused 727 = .ok (.iconst (-1), 1) := by decide +kernel
theorem dL_refused_728 : decode cL_refused 728 = .ok (.invokestatic 192, 3) := by decide +kernel
theorem dL_refused_731 : decode cL_refused 731 = .ok (.sipush (-1001), 3) := by decide +kernel
theorem dL_refused_734 : decode cL_refused 734 = .ok (.if_icmp .ne 7, 3) := by decide +kernel
theorem dL_refused_737 : decode cL_refused 737 = .ok (.iconst 1, 1) := by decide +kernel
theorem dL_refused_738 : decode cL_refused 738 = .ok (.goto 4, 3) := by decide +kernel
theorem dL_refused_741 : decode cL_refused 741 = .ok (.iconst 0, 1) := by decide +kernel
theorem dL_refused_742 : decode cL_refused 742 = .ok (.istore 5, 2) := by decide +kernel
theorem dL_refused_744 : decode cL_refused 744 = .ok (.iload 5, 2) := by decide +kernel
theorem dL_refused_746 : decode cL_refused 746 = .ok (.ifCond .eq 57, 3) := by decide +kernel
theorem dL_refused_749 : decode cL_refused 749 = .ok (.aload_n 0, 1) := by decide +kernel
theorem dL_refused_750 : decode cL_refused 750 = .ok (.ldc_w 261, 3) := by decide +kernel
theorem dL_refused_753 : decode cL_refused 753 = .ok (.invokestatic 253, 3) := by decide +kernel
theorem dL_refused_756 : decode cL_refused 756 = .ok (.sipush (-1001), 3) := by decide +kernel
theorem dL_refused_759 : decode cL_refused 759 = .ok (.if_icmp .ne 44, 3) := by decide +kernel
theorem dL_refused_762 : decode cL_refused 762 = .ok (.aload_n 0, 1) := by decide +kernel
theorem dL_refused_763 : decode cL_refused 763 = .ok (.invokevirtual 263, 3) := by decide +kernel
theorem dL_refused_766 : decode cL_refused 766 = .ok (.ifCond .ne 37, 3) := by decide +kernel
theorem dL_refused_769 : decode cL_refused 769 = .ok (.aload_n 0, 1) := by decide +kernel
theorem dL_refused_770 : decode cL_refused 770 = .ok (.ldc_w 266, 3) := by decide +kernel
theorem dL_refused_773 : decode cL_refused 773 = .ok (.invokestatic 253, 3) := by decide +kernel
theorem dL_refused_776 : decode cL_refused 776 = .ok (.sipush (-1001), 3) := by decide +kernel
theorem dL_refused_779 : decode cL_refused 779 = .ok (.if_icmp .ne 24, 3) := by decide +kernel
theorem dL_refused_782 : decode cL_refused 782 = .ok (.aload_n 0, 1) := by decide +kernel
theorem dL_refused_783 : decode cL_refused 783 = .ok (.invokevirtual 263, 3) := by decide +kernel
theorem dL_refused_786 : decode cL_refused 786 = .ok (.iconst (-1), 1) := by decide +kernel
theorem dL_refused_787 : decode cL_refused 787 = .ok (.if_icmp .ne 16, 3) := by decide +kernel
theorem dL_refused_790 : decode cL_refused 790 = .ok (.aload_n 0, 1) := by decide +kernel
theorem dL_refused_791 : decode cL_refused 791 = .ok (.invokestatic 257, 3) := by decide +kernel
theorem dL_refused_794 : decode cL_refused 794 = .ok (.lload_n 1, 1) := by decide +kernel
theorem dL_refused_795 : decode cL_refused 795 = .ok (.lcmp, 1) := by decide +kernel
theorem dL_refused_796 : decode cL_refused 796 = .ok (.ifCond .ne 7, 3) := by decide +kernel
theorem dL_refused_799 : decode cL_refused 799 = .ok (.iconst 1, 1) := by decide +kernel
theorem dL_refused_800 : decode cL_refused 800 = .ok (.goto 4, 3) := by decide +kernel
theorem dL_refused_803 : decode cL_refused 803 = .ok (.iconst 0, 1) := by decide +kernel
theorem dL_refused_804 : decode cL_refused 804 = .ok (.ireturn, 1) := by decide +kernel
theorem dL_law_0 : decode cL_law 0 = .ok (.new 8, 3) := by decide +kernel
theorem dL_law_3 : decode cL_law 3 = .ok (.dup, 1) := by decide +kernel
theorem dL_law_4 : decode cL_law 4 = .ok (.invokespecial 268, 3) := by decide +kernel
theorem dL_law_7 : decode cL_law 7 = .ok (.astore_n 1, 1) := by decide +kernel
theorem dL_law_8 : decode cL_law 8 = .ok (.aload_n 1, 1) := by decide +kernel
theorem dL_law_9 : decode cL_law 9 = .ok (.invokestatic 269, 3) := by decide +kernel
theorem dL_law_12 : decode cL_law 12 = .ok (.sipush (-1001), 3) := by decide +kernel
theorem dL_law_15 : decode cL_law 15 = .ok (.if_icmp .ne 52, 3) := by decide +kernel
theorem dL_law_18 : decode cL_law 18 = .ok (.aload_n 1, 1) := by decide +kernel
theorem dL_law_19 : decode cL_law 19 = .ok (.invokestatic 271, 3) := by decide +kernel
theorem dL_law_22 : decode cL_law 22 = .ok (.sipush (-1001), 3) := by decide +kernel
theorem dL_law_25 : decode cL_law 25 = .ok (.if_icmp .ne 42, 3) := by decide +kernel
theorem dL_law_28 : decode cL_law 28 = .ok (.aload_n 1, 1) := by decide +kernel
theorem dL_law_29 : decode cL_law 29 = .ok (.invokevirtual 273, 3) := by decide +kernel
theorem dL_law_32 : decode cL_law 32 = .ok (.ifCond .ne 35, 3) := by decide +kernel
theorem dL_law_35 : decode cL_law 35 = .ok (.aload_n 1, 1) := by decide +kernel
theorem dL_law_36 : decode cL_law 36 = .ok (.bipush 48, 2) := by decide +kernel
theorem dL_law_38 : decode cL_law 38 = .ok (.invokestatic 226, 3) := by decide +kernel
theorem dL_law_41 : decode cL_law 41 = .ok (.ifCond .ne 26, 3) := by decide +kernel
theorem dL_law_44 : decode cL_law 44 = .ok (.aload_n 1, 1) := by decide +kernel
theorem dL_law_45 : decode cL_law 45 = .ok (.iconst 0, 1) := by decide +kernel
theorem dL_law_46 : decode cL_law 46 = .ok (.invokestatic 192, 3) := by decide +kernel
theorem dL_law_49 : decode cL_law 49 = .ok (.bipush 48, 2) := by decide +kernel
theorem dL_law_51 : decode cL_law 51 = .ok (.if_icmp .ne 16, 3) := by decide +kernel
theorem dL_law_54 : decode cL_law 54 = .ok (.aload_n 1, 1) := by decide +kernel
theorem dL_law_55 : decode cL_law 55 = .ok (.sipush 999, 3) := by decide +kernel
theorem dL_law_58 : decode cL_law 58 = .ok (.invokestatic 146, 3) := by decide +kernel
theorem dL_law_61 : decode cL_law 61 = .ok (.sipush 1099, 3) := by decide +kernel
theorem dL_law_64 : decode cL_law 64 = .ok (.if_icmp .eq 5, 3) := by decide +kernel
theorem dL_law_67 : decode cL_law 67 = .ok (.iconst 0, 1) := by decide +kernel
theorem dL_law_68 : decode cL_law 68 = .ok (.ireturn, 1) := by decide +kernel
theorem dL_law_69 : decode cL_law 69 = .ok (.iconst 0, 1) := by decide +kernel
theorem dL_law_70 : decode cL_law 70 = .ok (.istore_n 2, 1) := by decide +kernel
theorem dL_law_71 : decode cL_law 71 = .ok (.iload_n 2, 1) := by decide +kernel
theorem dL_law_72 : decode cL_law 72 = .ok (.bipush 60, 2) := by decide +kernel
theorem dL_law_74 : decode cL_law 74 = .ok (.if_icmp .ge 27, 3) := by decide +kernel
theorem dL_law_77 : decode cL_law 77 = .ok (.aload_n 1, 1) := by decide +kernel
theorem dL_law_78 : decode cL_law 78 = .ok (.sipush 300, 3) := by decide +kernel
theorem dL_law_81 : decode cL_law 81 = .ok (.iload_n 2, 1) := by decide +kernel
theorem dL_law_82 : decode cL_law 82 = .ok (.iadd, 1) := by decide +kernel
theorem dL_law_83 : decode cL_law 83 = .ok (.i2c, 1) := by decide +kernel
theorem dL_law_84 : decode cL_law 84 = .ok (.invokestatic 135, 3) := by decide +kernel
theorem dL_law_87 : decode cL_law 87 = .ok (.iload_n 2, 1) := by decide +kernel
theorem dL_law_88 : decode cL_law 88 = .ok (.iconst 1, 1) := by decide +kernel
theorem dL_law_89 : decode cL_law 89 = .ok (.iadd, 1) := by decide +kernel
theorem dL_law_90 : decode cL_law 90 = .ok (.if_icmp .eq 5, 3) := by decide +kernel
theorem dL_law_93 : decode cL_law 93 = .ok (.iconst 0, 1) := by decide +kernel
theorem dL_law_94 : decode cL_law 94 = .ok (.ireturn, 1) := by decide +kernel
theorem dL_law_95 : decode cL_law 95 = .ok (.iinc 2 1, 3) := by decide +kernel
theorem dL_law_98 : decode cL_law 98 = .ok (.goto (-27), 3) := by decide +kernel
theorem dL_law_101 : decode cL_law 101 = .ok (.aload_n 1, 1) := by decide +kernel
theorem dL_law_102 : decode cL_law 102 = .ok (.bipush 104, 2) := by decide +kernel
theorem dL_law_104 : decode cL_law 104 = .ok (.invokestatic 135, 3) := by decide +kernel
theorem dL_law_107 : decode cL_law 107 = .ok (.sipush (-1001), 3) := by decide +kernel
theorem dL_law_110 : decode cL_law 110 = .ok (.if_icmp .ne 29, 3) := by decide +kernel
theorem dL_law_113 : decode cL_law 113 = .ok (.aload_n 1, 1) := by decide +kernel
theorem dL_law_114 : decode cL_law 114 = .ok (.invokestatic 140, 3) := by decide +kernel
theorem dL_law_117 : decode cL_law 117 = .ok (.sipush (-1001), 3) := by decide +kernel
theorem dL_law_120 : decode cL_law 120 = .ok (.if_icmp .ne 19, 3) := by decide +kernel
theorem dL_law_123 : decode cL_law 123 = .ok (.aload_n 1, 1) := by decide +kernel
theorem dL_law_124 : decode cL_law 124 = .ok (.invokevirtual 263, 3) := by decide +kernel
theorem dL_law_127 : decode cL_law 127 = .ok (.ifCond .ne 12, 3) := by decide +kernel
theorem dL_law_130 : decode cL_law 130 = .ok (.aload_n 1, 1) := by decide +kernel
theorem dL_law_131 : decode cL_law 131 = .ok (.bipush 19, 2) := by decide +kernel
theorem dL_law_133 : decode cL_law 133 = .ok (.invokestatic 192, 3) := by decide +kernel
theorem dL_law_136 : decode cL_law 136 = .ok (.ifCond .eq 5, 3) := by decide +kernel
theorem dL_law_139 : decode cL_law 139 = .ok (.iconst 0, 1) := by decide +kernel
theorem dL_law_140 : decode cL_law 140 = .ok (.ireturn, 1) := by decide +kernel
theorem dL_law_141 : decode cL_law 141 = .ok (.iconst 0, 1) := by decide +kernel
theorem dL_law_142 : decode cL_law 142 = .ok (.istore_n 2, 1) := by decide +kernel
theorem dL_law_143 : decode cL_law 143 = .ok (.iload_n 2, 1) := by decide +kernel
theorem dL_law_144 : decode cL_law 144 = .ok (.bipush 10, 2) := by decide +kernel
theorem dL_law_146 : decode cL_law 146 = .ok (.if_icmp .ge 36, 3) := by decide +kernel
theorem dL_law_149 : decode cL_law 149 = .ok (.aload_n 1, 1) := by decide +kernel
theorem dL_law_150 : decode cL_law 150 = .ok (.sipush 999, 3) := by decide +kernel
theorem dL_law_153 : decode cL_law 153 = .ok (.invokestatic 146, 3) := by decide +kernel
theorem dL_law_156 : decode cL_law 156 = .ok (.sipush 9999, 3) := by decide +kernel
theorem dL_law_159 : decode cL_law 159 = .ok (.sipush 2098, 3) := by decide +kernel
theorem dL_law_162 : decode cL_law 162 = .ok (.sipush 999, 3) := by decide +kernel
theorem dL_law_165 : decode cL_law 165 = .ok (.iload_n 2, 1) := by decide +kernel
theorem dL_law_166 : decode cL_law 166 = .ok (.imul, 1) := by decide +kernel
theorem dL_law_167 : decode cL_law 167 = .ok (.iadd, 1) := by decide +kernel
theorem dL_law_168 : decode cL_law 168 = .ok (.invokestatic 276, 3) := by decide +kernel
theorem dL_law_171 : decode cL_law 171 = .ok (.if_icmp .eq 5, 3) := by decide +kernel
theorem dL_law_174 : decode cL_law 174 = .ok (.iconst 0, 1) := by decide +kernel
theorem dL_law_175 : decode cL_law 175 = .ok (.ireturn, 1) := by decide +kernel
theorem dL_law_176 : decode cL_law 176 = .ok (.iinc 2 1, 3) := by decide +kernel
theorem dL_law_179 : decode cL_law 179 = .ok (.goto (-36), 3) := by decide +kernel
theorem dL_law_182 : decode cL_law 182 = .ok (.iconst 0, 1) := by decide +kernel
theorem dL_law_183 : decode cL_law 183 = .ok (.istore_n 2, 1) := by decide +kernel
theorem dL_law_184 : decode cL_law 184 = .ok (.iload_n 2, 1) := by decide +kernel
theorem dL_law_185 : decode cL_law 185 = .ok (.bipush 6, 2) := by decide +kernel
theorem dL_law_187 : decode cL_law 187 = .ok (.if_icmp .ge 54, 3) := by decide +kernel
theorem dL_law_190 : decode cL_law 190 = .ok (.aload_n 1, 1) := by decide +kernel
theorem dL_law_191 : decode cL_law 191 = .ok (.bipush 99, 2) := by decide +kernel
theorem dL_law_193 : decode cL_law 193 = .ok (.invokestatic 161, 3) := by decide +kernel
theorem dL_law_196 : decode cL_law 196 = .ok (.iload_n 2, 1) := by decide +kernel
theorem dL_law_197 : decode cL_law 197 = .ok (.if_icmp .ne 36, 3) := by decide +kernel
theorem dL_law_200 : decode cL_law 200 = .ok (.aload_n 1, 1) := by decide +kernel
theorem dL_law_201 : decode cL_law 201 = .ok (.iload_n 2, 1) := by decide +kernel
theorem dL_law_202 : decode cL_law 202 = .ok (.bipush 99, 2) := by decide +kernel
theorem dL_law_204 : decode cL_law 204 = .ok (.invokestatic 163, 3) := by decide +kernel
theorem dL_law_207 : decode cL_law 207 = .ok (.bipush 99, 2) := by decide +kernel
theorem dL_law_209 : decode cL_law 209 = .ok (.if_icmp .ne 24, 3) := by decide +kernel
theorem dL_law_212 : decode cL_law 212 = .ok (.aload_n 1, 1) := by decide +kernel
theorem dL_law_213 : decode cL_law 213 = .ok (.iload_n 2, 1) := by decide +kernel
theorem dL_law_214 : decode cL_law 214 = .ok (.bipush 12, 2) := by decide +kernel
theorem dL_law_216 : decode cL_law 216 = .ok (.invokestatic 168, 3) := by decide +kernel
theorem dL_law_219 : decode cL_law 219 = .ok (.iconst 1, 1) := by decide +kernel
theorem dL_law_220 : decode cL_law 220 = .ok (.if_icmp .ne 13, 3) := by decide +kernel
theorem dL_law_223 : decode cL_law 223 = .ok (.aload_n 1, 1) := by decide +kernel
theorem dL_law_224 : decode cL_law 224 = .ok (.iload_n 2, 1) := by decide +kernel
theorem dL_law_225 : decode cL_law 225 = .ok (.iconst 5, 1) := by decide +kernel
theorem dL_law_226 : decode cL_law 226 = .ok (.invokestatic 168, 3) := by decide +kernel
theorem dL_law_229 : decode cL_law 229 = .ok (.iconst 2, 1) := by decide +kernel
theorem dL_law_230 : decode cL_law 230 = .ok (.if_icmp .eq 5, 3) := by decide +kernel
theorem dL_law_233 : decode cL_law 233 = .ok (.iconst 0, 1) := by decide +kernel
theorem dL_law_234 : decode cL_law 234 = .ok (.ireturn, 1) := by decide +kernel
theorem dL_law_235 : decode cL_law 235 = .ok (.iinc 2 1, 3) := by decide +kernel
theorem dL_law_238 : decode cL_law 238 = .ok (.goto (-54), 3) := by decide +kernel
theorem dL_law_241 : decode cL_law 241 = .ok (.iconst 0, 1) := by decide +kernel
theorem dL_law_242 : decode cL_law 242 = .ok (.istore_n 2, 1) := by decide +kernel
theorem dL_law_243 : decode cL_law 243 = .ok (.iload_n 2, 1) := by decide +kernel
theorem dL_law_244 : decode cL_law 244 = .ok (.bipush 24, 2) := by decide +kernel
theorem dL_law_246 : decode cL_law 246 = .ok (.if_icmp .ge 24, 3) := by decide +kernel
theorem dL_law_249 : decode cL_law 249 = .ok (.aload_n 1, 1) := by decide +kernel
theorem dL_law_250 : decode cL_law 250 = .ok (.bipush 9, 2) := by decide +kernel
theorem dL_law_252 : decode cL_law 252 = .ok (.iload_n 2, 1) := by decide +kernel
theorem dL_law_253 : decode cL_law 253 = .ok (.iconst 3, 1) := by decide +kernel
theorem dL_law_254 : decode cL_law 254 = .ok (.irem, 1) := by decide +kernel
theorem dL_law_255 : decode cL_law 255 = .ok (.invokestatic 170, 3) := by decide +kernel
theorem dL_law_258 : decode cL_law 258 = .ok (.iload_n 2, 1) := by decide +kernel
theorem dL_law_259 : decode cL_law 259 = .ok (.if_icmp .eq 5, 3) := by decide +kernel
theorem dL_law_262 : decode cL_law 262 = .ok (.iconst 0, 1) := by decide +kernel
theorem dL_law_263 : decode cL_law 263 = .ok (.ireturn, 1) := by decide +kernel
theorem dL_law_264 : decode cL_law 264 = .ok (.iinc 2 1, 3) := by decide +kernel
theorem dL_law_267 : decode cL_law 267 = .ok (.goto (-24), 3) := by decide +kernel
theorem dL_law_270 : decode cL_law 270 = .ok (.aload_n 1, 1) := by decide +kernel
theorem dL_law_271 : decode cL_law 271 = .ok (.iconst 2, 1) := by decide +kernel
theorem dL_law_272 : decode cL_law 272 = .ok (.invokestatic 192, 3) := by decide +kernel
theorem dL_law_275 : decode cL_law 275 = .ok (.sipush 9405, 3) := by decide +kernel
theorem dL_law_278 : decode cL_law 278 = .ok (.if_icmp .ne 145, 3) := by decide +kernel
theorem dL_law_281 : decode cL_law 281 = .ok (.aload_n 1, 1) := by decide +kernel
theorem dL_law_282 : decode cL_law 282 = .ok (.bipush 10, 2) := by decide +kernel
theorem dL_law_284 : decode cL_law 284 = .ok (.invokestatic 161, 3) := by decide +kernel
theorem dL_law_287 : decode cL_law 287 = .ok (.sipush (-1002), 3) := by decide +kernel
theorem dL_law_290 : decode cL_law 290 = .ok (.if_icmp .ne 133, 3) := by decide +kernel
theorem dL_law_293 : decode cL_law 293 = .ok (.aload_n 1, 1) := by decide +kernel
theorem dL_law_294 : decode cL_law 294 = .ok (.iconst 1, 1) := by decide +kernel
theorem dL_law_295 : decode cL_law 295 = .ok (.bipush 6, 2) := by decide +kernel
theorem dL_law_297 : decode cL_law 297 = .ok (.invokestatic 281, 3) := by decide +kernel
theorem dL_law_300 : decode cL_law 300 = .ok (.ifCond .eq 123, 3) := by decide +kernel
theorem dL_law_303 : decode cL_law 303 = .ok (.aload_n 1, 1) := by decide +kernel
theorem dL_law_304 : decode cL_law 304 = .ok (.iconst 1, 1) := by decide +kernel
theorem dL_law_305 : decode cL_law 305 = .ok (.iconst 0, 1) := by decide +kernel
theorem dL_law_306 : decode cL_law 306 = .ok (.invokestatic 170, 3) := by decide +kernel
theorem dL_law_309 : decode cL_law 309 = .ok (.sipush (-1002), 3) := by decide +kernel
theorem dL_law_312 : decode cL_law 312 = .ok (.if_icmp .ne 111, 3) := by decide +kernel
theorem dL_law_315 : decode cL_law 315 = .ok (.aload_n 1, 1) := by decide +kernel
theorem dL_law_316 : decode cL_law 316 = .ok (.iconst 1, 1) := by decide +kernel
theorem dL_law_317 : decode cL_law 317 = .ok (.bipush 24, 2) := by decide +kernel
theorem dL_law_319 : decode cL_law 319 = .ok (.invokestatic 281, 3) := by decide +kernel
theorem dL_law_322 : decode cL_law 322 = .ok (.ifCond .eq 101, 3) := by decide +kernel
theorem dL_law_325 : decode cL_law 325 = .ok (.aload_n 1, 1) := by decide +kernel
theorem dL_law_326 : decode cL_law 326 = .ok (.iconst 0, 1) := by decide +kernel
theorem dL_law_327 : decode cL_law 327 = .ok (.iconst 5, 1) := by decide +kernel
theorem dL_law_328 : decode cL_law 328 = .ok (.invokestatic 168, 3) := by decide +kernel
theorem dL_law_331 : decode cL_law 331 = .ok (.sipush (-1003), 3) := by decide +kernel
theorem dL_law_334 : decode cL_law 334 = .ok (.if_icmp .ne 89, 3) := by decide +kernel
theorem dL_law_337 : decode cL_law 337 = .ok (.aload_n 1, 1) := by decide +kernel
theorem dL_law_338 : decode cL_law 338 = .ok (.iconst 1, 1) := by decide +kernel
theorem dL_law_339 : decode cL_law 339 = .ok (.iconst 2, 1) := by decide +kernel
theorem dL_law_340 : decode cL_law 340 = .ok (.invokestatic 281, 3) := by decide +kernel
theorem dL_law_343 : decode cL_law 343 = .ok (.ifCond .eq 80, 3) := by decide +kernel
theorem dL_law_346 : decode cL_law 346 = .ok (.aload_n 1, 1) := by decide +kernel
theorem dL_law_347 : decode cL_law 347 = .ok (.iconst 0, 1) := by decide +kernel
theorem dL_law_348 : decode cL_law 348 = .ok (.iconst 1, 1) := by decide +kernel
theorem dL_law_349 : decode cL_law 349 = .ok (.invokestatic 163, 3) := by decide +kernel
theorem dL_law_352 : decode cL_law 352 = .ok (.sipush (-1003), 3) := by decide +kernel
theorem dL_law_355 : decode cL_law 355 = .ok (.if_icmp .ne 68, 3) := by decide +kernel
theorem dL_law_358 : decode cL_law 358 = .ok (.aload_n 1, 1) := by decide +kernel
theorem dL_law_359 : decode cL_law 359 = .ok (.iconst 5, 1) := by decide +kernel
theorem dL_law_360 : decode cL_law 360 = .ok (.iconst 0, 1) := by decide +kernel
theorem dL_law_361 : decode cL_law 361 = .ok (.invokestatic 281, 3) := by decide +kernel
theorem dL_law_364 : decode cL_law 364 = .ok (.ifCond .eq 59, 3) := by decide +kernel
theorem dL_law_367 : decode cL_law 367 = .ok (.aload_n 1, 1) := by decide +kernel
theorem dL_law_368 : decode cL_law 368 = .ok (.iconst 0, 1) := by decide +kernel
theorem dL_law_369 : decode cL_law 369 = .ok (.bipush 50, 2) := by decide +kernel
theorem dL_law_371 : decode cL_law 371 = .ok (.invokestatic 166, 3) := by decide +kernel
theorem dL_law_374 : decode cL_law 374 = .ok (.bipush 50, 2) := by decide +kernel
theorem dL_law_376 : decode cL_law 376 = .ok (.if_icmp .ne 47, 3) := by decide +kernel
theorem dL_law_379 : decode cL_law 379 = .ok (.aload_n 1, 1) := by decide +kernel
theorem dL_law_380 : decode cL_law 380 = .ok (.iconst 0, 1) := by decide +kernel
theorem dL_law_381 : decode cL_law 381 = .ok (.iconst 1, 1) := by decide +kernel
theorem dL_law_382 : decode cL_law 382 = .ok (.invokestatic 166, 3) := by decide +kernel
theorem dL_law_385 : decode cL_law 385 = .ok (.sipush (-1003), 3) := by decide +kernel
theorem dL_law_388 : decode cL_law 388 = .ok (.if_icmp .ne 35, 3) := by decide +kernel
theorem dL_law_391 : decode cL_law 391 = .ok (.aload_n 1, 1) := by decide +kernel
theorem dL_law_392 : decode cL_law 392 = .ok (.bipush 6, 2) := by decide +kernel
theorem dL_law_394 : decode cL_law 394 = .ok (.iconst 0, 1) := by decide +kernel
theorem dL_law_395 : decode cL_law 395 = .ok (.invokestatic 281, 3) := by decide +kernel
theorem dL_law_398 : decode cL_law 398 = .ok (.ifCond .eq 25, 3) := by decide +kernel
theorem dL_law_401 : decode cL_law 401 = .ok (.aload_n 1, 1) := by decide +kernel
theorem dL_law_402 : decode cL_law 402 = .ok (.iconst 0, 1) := by decide +kernel
theorem dL_law_403 : decode cL_law 403 = .ok (.iconst 5, 1) := by decide +kernel
theorem dL_law_404 : decode cL_law 404 = .ok (.invokestatic 194, 3) := by decide +kernel
theorem dL_law_407 : decode cL_law 407 = .ok (.bipush 77, 2) := by decide +kernel
theorem dL_law_409 : decode cL_law 409 = .ok (.if_icmp .ne 14, 3) := by decide +kernel
theorem dL_law_412 : decode cL_law 412 = .ok (.aload_n 1, 1) := by decide +kernel
theorem dL_law_413 : decode cL_law 413 = .ok (.bipush 20, 2) := by decide +kernel
theorem dL_law_415 : decode cL_law 415 = .ok (.invokestatic 192, 3) := by decide +kernel
theorem dL_law_418 : decode cL_law 418 = .ok (.bipush 8, 2) := by decide +kernel
theorem dL_law_420 : decode cL_law 420 = .ok (.if_icmp .eq 5, 3) := by decide +kernel
theorem dL_law_423 : decode cL_law 423 = .ok (.iconst 0, 1) := by decide +kernel
theorem dL_law_424 : decode cL_law 424 = .ok (.ireturn, 1) := by decide +kernel
theorem dL_law_425 : decode cL_law 425 = .ok (.aload_n 1, 1) := by decide +kernel
theorem dL_law_426 : decode cL_law 426 = .ok (.iconst 0, 1) := by decide +kernel
theorem dL_law_427 : decode cL_law 427 = .ok (.invokestatic 210, 3) := by decide +kernel
theorem dL_law_430 : decode cL_law 430 = .ok (.iconst 2, 1) := by decide +kernel
theorem dL_law_431 : decode cL_law 431 = .ok (.if_icmp .ne 153, 3) := by decide +kernel
theorem dL_law_434 : decode cL_law 434 = .ok (.aload_n 1, 1) := by decide +kernel
theorem dL_law_435 : decode cL_law 435 = .ok (.bipush 8, 2) := by decide +kernel
theorem dL_law_437 : decode cL_law 437 = .ok (.invokestatic 210, 3) := by decide +kernel
theorem dL_law_440 : decode cL_law 440 = .ok (.iconst 1, 1) := by decide +kernel
theorem dL_law_441 : decode cL_law 441 = .ok (.if_icmp .ne 143, 3) := by decide +kernel
theorem dL_law_444 : decode cL_law 444 = .ok (.aload_n 1, 1) := by decide +kernel
theorem dL_law_445 : decode cL_law 445 = .ok (.iconst 0, 1) := by decide +kernel
theorem dL_law_446 : decode cL_law 446 = .ok (.invokestatic 220, 3) := by decide +kernel
theorem dL_law_449 : decode cL_law 449 = .ok (.bipush 7, 2) := by decide +kernel
theorem dL_law_451 : decode cL_law 451 = .ok (.if_icmp .ne 133, 3) := by decide +kernel
theorem dL_law_454 : decode cL_law 454 = .ok (.aload_n 1, 1) := by decide +kernel
theorem dL_law_455 : decode cL_law 455 = .ok (.iconst 0, 1) := by decide +kernel
theorem dL_law_456 : decode cL_law 456 = .ok (.bipush 6, 2) := by decide +kernel
theorem dL_law_458 : decode cL_law 458 = .ok (.invokestatic 194, 3) := by decide +kernel
theorem dL_law_461 : decode cL_law 461 = .ok (.iconst 1, 1) := by decide +kernel
theorem dL_law_462 : decode cL_law 462 = .ok (.if_icmp .ne 122, 3) := by decide +kernel
theorem dL_law_465 : decode cL_law 465 = .ok (.aload_n 1, 1) := by decide +kernel
theorem dL_law_466 : decode cL_law 466 = .ok (.iconst 0, 1) := by decide +kernel
theorem dL_law_467 : decode cL_law 467 = .ok (.invokestatic 210, 3) := by decide +kernel
theorem dL_law_470 : decode cL_law 470 = .ok (.bipush 23, 2) := by decide +kernel
theorem dL_law_472 : decode cL_law 472 = .ok (.if_icmp .ne 112, 3) := by decide +kernel
theorem dL_law_475 : decode cL_law 475 = .ok (.aload_n 1, 1) := by decide +kernel
theorem dL_law_476 : decode cL_law 476 = .ok (.iconst 0, 1) := by decide +kernel
theorem dL_law_477 : decode cL_law 477 = .ok (.invokestatic 222, 3) := by decide +kernel
theorem dL_law_480 : decode cL_law 480 = .ok (.iconst 1, 1) := by decide +kernel
theorem dL_law_481 : decode cL_law 481 = .ok (.if_icmp .ne 103, 3) := by decide +kernel
theorem dL_law_484 : decode cL_law 484 = .ok (.aload_n 1, 1) := by decide +kernel
theorem dL_law_485 : decode cL_law 485 = .ok (.iconst 0, 1) := by decide +kernel
theorem dL_law_486 : decode cL_law 486 = .ok (.invokestatic 222, 3) := by decide +kernel
theorem dL_law_489 : decode cL_law 489 = .ok (.sipush (-1002), 3) := by decide +kernel
theorem dL_law_492 : decode cL_law 492 = .ok (.if_icmp .ne 92, 3) := by decide +kernel
theorem dL_law_495 : decode cL_law 495 = .ok (.aload_n 1, 1) := by decide +kernel
theorem dL_law_496 : decode cL_law 496 = .ok (.iconst 2, 1) := by decide +kernel
theorem dL_law_497 : decode cL_law 497 = .ok (.iconst 0, 1) := by decide +kernel
theorem dL_law_498 : decode cL_law 498 = .ok (.invokestatic 281, 3) := by decide +kernel
theorem dL_law_501 : decode cL_law 501 = .ok (.ifCond .eq 83, 3) := by decide +kernel
theorem dL_law_504 : decode cL_law 504 = .ok (.aload_n 1, 1) := by decide +kernel
theorem dL_law_505 : decode cL_law 505 = .ok (.iconst 0, 1) := by decide +kernel
theorem dL_law_506 : decode cL_law 506 = .ok (.invokestatic 220, 3) := by decide +kernel
theorem dL_law_509 : decode cL_law 509 = .ok (.sipush (-1002), 3) := by decide +kernel
theorem dL_law_512 : decode cL_law 512 = .ok (.if_icmp .ne 72, 3) := by decide +kernel
theorem dL_law_515 : decode cL_law 515 = .ok (.aload_n 1, 1) := by decide +kernel
theorem dL_law_516 : decode cL_law 516 = .ok (.iconst 2, 1) := by decide +kernel
theorem dL_law_517 : decode cL_law 517 = .ok (.iconst 0, 1) := by decide +kernel
theorem dL_law_518 : decode cL_law 518 = .ok (.invokestatic 281, 3) := by decide +kernel
theorem dL_law_521 : decode cL_law 521 = .ok (.ifCond .eq 63, 3) := by decide +kernel
theorem dL_law_524 : decode cL_law 524 = .ok (.aload_n 1, 1) := by decide +kernel
theorem dL_law_525 : decode cL_law 525 = .ok (.iconst 2, 1) := by decide +kernel
theorem dL_law_526 : decode cL_law 526 = .ok (.iconst 1, 1) := by decide +kernel
theorem dL_law_527 : decode cL_law 527 = .ok (.invokestatic 218, 3) := by decide +kernel
theorem dL_law_530 : decode cL_law 530 = .ok (.sipush (-1002), 3) := by decide +kernel
theorem dL_law_533 : decode cL_law 533 = .ok (.if_icmp .ne 51, 3) := by decide +kernel
theorem dL_law_536 : decode cL_law 536 = .ok (.aload_n 1, 1) := by decide +kernel
theorem dL_law_537 : decode cL_law 537 = .ok (.bipush 8, 2) := by decide +kernel
theorem dL_law_539 : decode cL_law 539 = .ok (.iconst 2, 1) := by decide +kernel
theorem dL_law_540 : decode cL_law 540 = .ok (.invokestatic 281, 3) := by decide +kernel
theorem dL_law_543 : decode cL_law 543 = .ok (.ifCond .eq 41, 3) := by decide +kernel
theorem dL_law_546 : decode cL_law 546 = .ok (.aload_n 1, 1) := by decide +kernel
theorem dL_law_547 : decode cL_law 547 = .ok (.iconst 0, 1) := by decide +kernel
theorem dL_law_548 : decode cL_law 548 = .ok (.invokestatic 202, 3) := by decide +kernel
theorem dL_law_551 : decode cL_law 551 = .ok (.iconst 1, 1) := by decide +kernel
theorem dL_law_552 : decode cL_law 552 = .ok (.if_icmp .ne 32, 3) := by decide +kernel
theorem dL_law_555 : decode cL_law 555 = .ok (.aload_n 1, 1) := by decide +kernel
theorem dL_law_556 : decode cL_law 556 = .ok (.iconst 0, 1) := by decide +kernel
theorem dL_law_557 : decode cL_law 557 = .ok (.iconst 2, 1) := by decide +kernel
theorem dL_law_558 : decode cL_law 558 = .ok (.invokestatic 204, 3) := by decide +kernel
theorem dL_law_561 : decode cL_law 561 = .ok (.iconst 3, 1) := by decide +kernel
theorem dL_law_562 : decode cL_law 562 = .ok (.if_icmp .ne 22, 3) := by decide +kernel
theorem dL_law_565 : decode cL_law 565 = .ok (.aload_n 1, 1) := by decide +kernel
theorem dL_law_566 : decode cL_law 566 = .ok (.iconst 0, 1) := by decide +kernel
theorem dL_law_567 : decode cL_law 567 = .ok (.invokestatic 206, 3) := by decide +kernel
theorem dL_law_570 : decode cL_law 570 = .ok (.sipush (-1002), 3) := by decide +kernel
theorem dL_law_573 : decode cL_law 573 = .ok (.if_icmp .ne 11, 3) := by decide +kernel
theorem dL_law_576 : decode cL_law 576 = .ok (.aload_n 1, 1) := by decide +kernel
theorem dL_law_577 : decode cL_law 577 = .ok (.iconst 1, 1) := by decide +kernel
theorem dL_law_578 : decode cL_law 578 = .ok (.invokestatic 226, 3) := by decide +kernel
theorem dL_law_581 : decode cL_law 581 = .ok (.ifCond .eq 5, 3) := by decide +kernel
theorem dL_law_584 : decode cL_law 584 = .ok (.iconst 0, 1) := by decide +kernel
theorem dL_law_585 : decode cL_law 585 = .ok (.ireturn, 1) := by decide +kernel
theorem dL_law_586 : decode cL_law 586 = .ok (.aload_n 1, 1) := by decide +kernel
theorem dL_law_587 : decode cL_law 587 = .ok (.bipush 7, 2) := by decide +kernel
theorem dL_law_589 : decode cL_law 589 = .ok (.invokestatic 192, 3) := by decide +kernel
theorem dL_law_592 : decode cL_law 592 = .ok (.iconst 1, 1) := by decide +kernel
theorem dL_law_593 : decode cL_law 593 = .ok (.if_icmp .ne 87, 3) := by decide +kernel
theorem dL_law_596 : decode cL_law 596 = .ok (.aload_n 1, 1) := by decide +kernel
theorem dL_law_597 : decode cL_law 597 = .ok (.bipush 12, 2) := by decide +kernel
theorem dL_law_599 : decode cL_law 599 = .ok (.invokestatic 192, 3) := by decide +kernel
theorem dL_law_602 : decode cL_law 602 = .ok (.bipush 7, 2) := by decide +kernel
theorem dL_law_604 : decode cL_law 604 = .ok (.if_icmp .ne 76, 3) := by decide +kernel
theorem dL_law_607 : decode cL_law 607 = .ok (.aload_n 1, 1) := by decide +kernel
theorem dL_law_608 : decode cL_law 608 = .ok (.bipush 17, 2) := by decide +kernel
theorem dL_law_610 : decode cL_law 610 = .ok (.invokestatic 192, 3) := by decide +kernel
theorem dL_law_613 : decode cL_law 613 = .ok (.bipush 50, 2) := by decide +kernel
theorem dL_law_615 : decode cL_law 615 = .ok (.if_icmp .ne 65, 3) := by decide +kernel
theorem dL_law_618 : decode cL_law 618 = .ok (.aload_n 1, 1) := by decide +kernel
theorem dL_law_619 : decode cL_law 619 = .ok (.invokestatic 183, 3) := by decide +kernel
theorem dL_law_622 : decode cL_law 622 = .ok (.fconst 0, 1) := by decide +kernel
theorem dL_law_623 : decode cL_law 623 = .ok (.fcmp .l, 1) := by decide +kernel
theorem dL_law_624 : decode cL_law 624 = .ok (.ifCond .ne 56, 3) := by decide +kernel
theorem dL_law_627 : decode cL_law 627 = .ok (.aload_n 1, 1) := by decide +kernel
theorem dL_law_628 : decode cL_law 628 = .ok (.invokestatic 174, 3) := by decide +kernel
theorem dL_law_631 : decode cL_law 631 = .ok (.ldc2_w 114, 3) := by decide +kernel
theorem dL_law_634 : decode cL_law 634 = .ok (.dcmp .l, 1) := by decide +kernel
theorem dL_law_635 : decode cL_law 635 = .ok (.ifCond .ne 45, 3) := by decide +kernel
theorem dL_law_638 : decode cL_law 638 = .ok (.aload_n 1, 1) := by decide +kernel
theorem dL_law_639 : decode cL_law 639 = .ok (.iconst 0, 1) := by decide +kernel
theorem dL_law_640 : decode cL_law 640 = .ok (.invokestatic 198, 3) := by decide +kernel
theorem dL_law_643 : decode cL_law 643 = .ok (.sipush (-1002), 3) := by decide +kernel
theorem dL_law_646 : decode cL_law 646 = .ok (.if_icmp .ne 34, 3) := by decide +kernel
theorem dL_law_649 : decode cL_law 649 = .ok (.aload_n 1, 1) := by decide +kernel
theorem dL_law_650 : decode cL_law 650 = .ok (.bipush 18, 2) := by decide +kernel
theorem dL_law_652 : decode cL_law 652 = .ok (.invokestatic 192, 3) := by decide +kernel
theorem dL_law_655 : decode cL_law 655 = .ok (.iconst 5, 1) := by decide +kernel
theorem dL_law_656 : decode cL_law 656 = .ok (.if_icmp .ne 24, 3) := by decide +kernel
theorem dL_law_659 : decode cL_law 659 = .ok (.aload_n 1, 1) := by decide +kernel
theorem dL_law_660 : decode cL_law 660 = .ok (.iconst 0, 1) := by decide +kernel
theorem dL_law_661 : decode cL_law 661 = .ok (.bipush 11, 2) := by decide +kernel
theorem dL_law_663 : decode cL_law 663 = .ok (.invokestatic 194, 3) := by decide +kernel
theorem dL_law_666 : decode cL_law 666 = .ok (.iconst 1, 1) := by decide +kernel
theorem dL_law_667 : decode cL_law 667 = .ok (.if_icmp .ne 13, 3) := by decide +kernel
theorem dL_law_670 : decode cL_law 670 = .ok (.aload_n 1, 1) := by decide +kernel
theorem dL_law_671 : decode cL_law 671 = .ok (.iconst 0, 1) := by decide +kernel
theorem dL_law_672 : decode cL_law 672 = .ok (.invokestatic 200, 3) := by decide +kernel
theorem dL_law_675 : decode cL_law 675 = .ok (.bipush 120, 2) := by decide +kernel
theorem dL_law_677 : decode cL_law 677 = .ok (.if_icmp .eq 5, 3) := by decide +kernel
theorem dL_law_680 : decode cL_law 680 = .ok (.iconst 0, 1) := by decide +kernel
theorem dL_law_681 : decode cL_law 681 = .ok (.ireturn, 1) := by decide +kernel
theorem dL_law_682 : decode cL_law 682 = .ok (.aload_n 1, 1) := by decide +kernel
theorem dL_law_683 : decode cL_law 683 = .ok (.invokestatic 271, 3) := by decide +kernel
theorem dL_law_686 : decode cL_law 686 = .ok (.ifCond .ne 31, 3) := by decide +kernel
theorem dL_law_689 : decode cL_law 689 = .ok (.aload_n 1, 1) := by decide +kernel
theorem dL_law_690 : decode cL_law 690 = .ok (.iconst 0, 1) := by decide +kernel
theorem dL_law_691 : decode cL_law 691 = .ok (.invokestatic 192, 3) := by decide +kernel
theorem dL_law_694 : decode cL_law 694 = .ok (.ifCond .ne 23, 3) := by decide +kernel
theorem dL_law_697 : decode cL_law 697 = .ok (.aload_n 1, 1) := by decide +kernel
theorem dL_law_698 : decode cL_law 698 = .ok (.iconst 2, 1) := by decide +kernel
theorem dL_law_699 : decode cL_law 699 = .ok (.invokestatic 192, 3) := by decide +kernel
theorem dL_law_702 : decode cL_law 702 = .ok (.bipush 100, 2) := by decide +kernel
theorem dL_law_704 : decode cL_law 704 = .ok (.if_icmp .ne 13, 3) := by decide +kernel
theorem dL_law_707 : decode cL_law 707 = .ok (.aload_n 1, 1) := by decide +kernel
theorem dL_law_708 : decode cL_law 708 = .ok (.invokestatic 269, 3) := by decide +kernel
theorem dL_law_711 : decode cL_law 711 = .ok (.sipush (-1001), 3) := by decide +kernel
theorem dL_law_714 : decode cL_law 714 = .ok (.if_icmp .eq 5, 3) := by decide +kernel
theorem dL_law_717 : decode cL_law 717 = .ok (.iconst 0, 1) := by decide +kernel
theorem dL_law_718 : decode cL_law 718 = .ok (.ireturn, 1) := by decide +kernel
theorem dL_law_719 : decode cL_law 719 = .ok (.new 8, 3) := by decide +kernel
theorem dL_law_722 : decode cL_law 722 = .ok (.dup, 1) := by decide +kernel
theorem dL_law_723 : decode cL_law 723 = .ok (.invokespecial 268, 3) := by decide +kernel
theorem dL_law_726 : decode cL_law 726 = .ok (.astore_n 2, 1) := by decide +kernel
theorem dL_law_727 : decode cL_law 727 = .ok (.aload_n 2, 1) := by decide +kernel
theorem dL_law_728 : decode cL_law 728 = .ok (.aload_n 0, 1) := by decide +kernel
theorem dL_law_729 : decode cL_law 729 = .ok (.invokestatic 285, 3) := by decide +kernel
theorem dL_law_732 : decode cL_law 732 = .ok (.ifCond .ne 5, 3) := by decide +kernel
theorem dL_law_735 : decode cL_law 735 = .ok (.iconst 0, 1) := by decide +kernel
theorem dL_law_736 : decode cL_law 736 = .ok (.ireturn, 1) := by decide +kernel
theorem dL_law_737 : decode cL_law 737 = .ok (.iconst 0, 1) := by decide +kernel
theorem dL_law_738 : decode cL_law 738 = .ok (.istore_n 3, 1) := by decide +kernel
theorem dL_law_739 : decode cL_law 739 = .ok (.iload_n 3, 1) := by decide +kernel
theorem dL_law_740 : decode cL_law 740 = .ok (.iconst 3, 1) := by decide +kernel
theorem dL_law_741 : decode cL_law 741 = .ok (.if_icmp .ge 30, 3) := by decide +kernel
theorem dL_law_744 : decode cL_law 744 = .ok (.aload_n 2, 1) := by decide +kernel
theorem dL_law_745 : decode cL_law 745 = .ok (.iload_n 3, 1) := by decide +kernel
theorem dL_law_746 : decode cL_law 746 = .ok (.invokestatic 220, 3) := by decide +kernel
theorem dL_law_749 : decode cL_law 749 = .ok (.ifCond .lt 14, 3) := by decide +kernel
theorem dL_law_752 : decode cL_law 752 = .ok (.aload_n 2, 1) := by decide +kernel
theorem dL_law_753 : decode cL_law 753 = .ok (.iload_n 3, 1) := by decide +kernel
theorem dL_law_754 : decode cL_law 754 = .ok (.invokestatic 222, 3) := by decide +kernel
theorem dL_law_757 : decode cL_law 757 = .ok (.sipush (-1002), 3) := by decide +kernel
theorem dL_law_760 : decode cL_law 760 = .ok (.if_icmp .ge 5, 3) := by decide +kernel
theorem dL_law_763 : decode cL_law 763 = .ok (.iconst 0, 1) := by decide +kernel
theorem dL_law_764 : decode cL_law 764 = .ok (.ireturn, 1) := by decide +kernel
theorem dL_law_765 : decode cL_law 765 = .ok (.iinc 3 1, 3) := by decide +kernel
theorem dL_law_768 : decode cL_law 768 = .ok (.goto (-29), 3) := by decide +kernel
theorem dL_law_771 : decode cL_law 771 = .ok (.aload_n 2, 1) := by decide +kernel
theorem dL_law_772 : decode cL_law 772 = .ok (.iconst 1, 1) := by decide +kernel
theorem dL_law_773 : decode cL_law 773 = .ok (.aload_n 0, 1) := by decide +kernel
theorem dL_law_774 : decode cL_law 774 = .ok (.bipush 30, 2) := by decide +kernel
theorem dL_law_776 : decode cL_law 776 = .ok (.invokestatic 149, 3) := by decide +kernel
theorem dL_law_779 : decode cL_law 779 = .ok (.bipush 6, 2) := by decide +kernel
theorem dL_law_781 : decode cL_law 781 = .ok (.invokestatic 153, 3) := by decide +kernel
theorem dL_law_784 : decode cL_law 784 = .ok (.iadd, 1) := by decide +kernel
theorem dL_law_785 : decode cL_law 785 = .ok (.invokestatic 226, 3) := by decide +kernel
theorem dL_law_788 : decode cL_law 788 = .ok (.ifCond .ge 5, 3) := by decide +kernel
theorem dL_law_791 : decode cL_law 791 = .ok (.iconst 0, 1) := by decide +kernel
theorem dL_law_792 : decode cL_law 792 = .ok (.ireturn, 1) := by decide +kernel
theorem dL_law_793 : decode cL_law 793 = .ok (.aload_n 2, 1) := by decide +kernel
theorem dL_law_794 : decode cL_law 794 = .ok (.invokestatic 257, 3) := by decide +kernel
theorem dL_law_797 : decode cL_law 797 = .ok (.lstore_n 3, 1) := by decide +kernel
theorem dL_law_798 : decode cL_law 798 = .ok (.aload_n 2, 1) := by decide +kernel
theorem dL_law_799 : decode cL_law 799 = .ok (.invokestatic 257, 3) := by decide +kernel
theorem dL_law_802 : decode cL_law 802 = .ok (.lload_n 3, 1) := by decide +kernel
theorem dL_law_803 : decode cL_law 803 = .ok (.lcmp, 1) := by decide +kernel
theorem dL_law_804 : decode cL_law 804 = .ok (.ifCond .ne 10, 3) := by decide +kernel
theorem dL_law_807 : decode cL_law 807 = .ok (.aload_n 2, 1) := by decide +kernel
theorem dL_law_808 : decode cL_law 808 = .ok (.invokestatic 289, 3) := by decide +kernel
theorem dL_law_811 : decode cL_law 811 = .ok (.ifCond .ne 5, 3) := by decide +kernel
theorem dL_law_814 : decode cL_law 814 = .ok (.iconst 0, 1) := by decide +kernel
theorem dL_law_815 : decode cL_law 815 = .ok (.ireturn, 1) := by decide +kernel
theorem dL_law_816 : decode cL_law 816 = .ok (.aload_n 2, 1) := by decide +kernel
theorem dL_law_817 : decode cL_law 817 = .ok (.invokevirtual 273, 3) := by decide +kernel
theorem dL_law_820 : decode cL_law 820 = .ok (.istore 5, 2) := by decide +kernel
theorem dL_law_822 : decode cL_law 822 = .ok (.iload 5, 2) := by decide +kernel
theorem dL_law_824 : decode cL_law 824 = .ok (.iconst 4, 1) := by decide +kernel
theorem dL_law_825 : decode cL_law 825 = .ok (.if_icmp .ne 12, 3) := by decide +kernel
theorem dL_law_828 : decode cL_law 828 = .ok (.aload_n 2, 1) := by decide +kernel
theorem dL_law_829 : decode cL_law 829 = .ok (.invokestatic 257, 3) := by decide +kernel
theorem dL_law_832 : decode cL_law 832 = .ok (.lload_n 3, 1) := by decide +kernel
theorem dL_law_833 : decode cL_law 833 = .ok (.lcmp, 1) := by decide +kernel
theorem dL_law_834 : decode cL_law 834 = .ok (.ifCond .eq 5, 3) := by decide +kernel
theorem dL_law_837 : decode cL_law 837 = .ok (.iconst 0, 1) := by decide +kernel
theorem dL_law_838 : decode cL_law 838 = .ok (.ireturn, 1) := by decide +kernel
theorem dL_law_839 : decode cL_law 839 = .ok (.bipush 13, 2) := by decide +kernel
theorem dL_law_841 : decode cL_law 841 = .ok (.newarray .long, 2) := by decide +kernel
theorem dL_law_843 : decode cL_law 843 = .ok (.astore 6, 2) := by decide +kernel
theorem dL_law_845 : decode cL_law 845 = .ok (.iconst 0, 1) := by decide +kernel
theorem dL_law_846 : decode cL_law 846 = .ok (.istore 7, 2) := by decide +kernel
theorem dL_law_848 : decode cL_law 848 = .ok (.iconst 0, 1) := by decide +kernel
theorem dL_law_849 : decode cL_law 849 = .ok (.istore 8, 2) := by decide +kernel
theorem dL_law_851 : decode cL_law 851 = .ok (.iload 8, 2) := by decide +kernel
theorem dL_law_853 : decode cL_law 853 = .ok (.bipush 12, 2) := by decide +kernel
theorem dL_law_855 : decode cL_law 855 = .ok (.if_icmp .ge 63, 3) := by decide +kernel
theorem dL_law_858 : decode cL_law 858 = .ok (.aload_n 2, 1) := by decide +kernel
theorem dL_law_859 : decode cL_law 859 = .ok (.invokestatic 257, 3) := by decide +kernel
theorem dL_law_862 : decode cL_law 862 = .ok (.lstore 9, 2) := by decide +kernel
theorem dL_law_864 : decode cL_law 864 = .ok (.aload_n 2, 1) := by decide +kernel
theorem dL_law_865 : decode cL_law 865 = .ok (.aload_n 0, 1) := by decide +kernel
theorem dL_law_866 : decode cL_law 866 = .ok (.bipush 20, 2) := by decide +kernel
theorem dL_law_868 : decode cL_law 868 = .ok (.iload 8, 2) := by decide +kernel
theorem dL_law_870 : decode cL_law 870 = .ok (.iadd, 1) := by decide +kernel
theorem dL_law_871 : decode cL_law 871 = .ok (.invokestatic 149, 3) := by decide +kernel
theorem dL_law_874 : decode cL_law 874 = .ok (.iload 8, 2) := by decide +kernel
theorem dL_law_876 : decode cL_law 876 = .ok (.sipush 977, 3) := by decide +kernel
theorem dL_law_879 : decode cL_law 879 = .ok (.imul, 1) := by decide +kernel
theorem dL_law_880 : decode cL_law 880 = .ok (.ixor, 1) := by decide +kernel
theorem dL_law_881 : decode cL_law 881 = .ok (.invokestatic 293, 3) := by decide +kernel
theorem dL_law_884 : decode cL_law 884 = .ok (.ifCond .eq 16, 3) := by decide +kernel
theorem dL_law_887 : decode cL_law 887 = .ok (.aload 6, 2) := by decide +kernel
theorem dL_law_889 : decode cL_law 889 = .ok (.iload 7, 2) := by decide +kernel
theorem dL_law_891 : decode cL_law 891 = .ok (.iinc 7 1, 3) := by decide +kernel
theorem dL_law_894 : decode cL_law 894 = .ok (.lload 9, 2) := by decide +kernel
theorem dL_law_896 : decode cL_law 896 = .ok (.lastore, 1) := by decide +kernel
theorem dL_law_897 : decode cL_law 897 = .ok (.goto 15, 3) := by decide +kernel
theorem dL_law_900 : decode cL_law 900 = .ok (.aload_n 2, 1) := by decide +kernel
theorem dL_law_901 : decode cL_law 901 = .ok (.invokestatic 257, 3) := by decide +kernel
theorem dL_law_904 : decode cL_law 904 = .ok (.lload 9, 2) := by decide +kernel
theorem dL_law_906 : decode cL_law 906 = .ok (.lcmp, 1) := by decide +kernel
theorem dL_law_907 : decode cL_law 907 = .ok (.ifCond .eq 5, 3) := by decide +kernel
theorem dL_law_910 : decode cL_law 910 = .ok (.iconst 0, 1) := by decide +kernel
theorem dL_law_911 : decode cL_law 911 = .ok (.ireturn, 1) := by decide +kernel
theorem dL_law_912 : decode cL_law 912 = .ok (.iinc 8 1, 3) := by decide +kernel
theorem dL_law_915 : decode cL_law 915 = .ok (.goto (-64), 3) := by decide +kernel
theorem dL_law_918 : decode cL_law 918 = .ok (.bipush 8, 2) := by decide +kernel
theorem dL_law_920 : decode cL_law 920 = .ok (.iload 7, 2) := by decide +kernel
theorem dL_law_922 : decode cL_law 922 = .ok (.invokestatic 276, 3) := by decide +kernel
theorem dL_law_925 : decode cL_law 925 = .ok (.istore 8, 2) := by decide +kernel
theorem dL_law_927 : decode cL_law 927 = .ok (.iconst 1, 1) := by decide +kernel
theorem dL_law_928 : decode cL_law 928 = .ok (.istore 9, 2) := by decide +kernel
theorem dL_law_930 : decode cL_law 930 = .ok (.iload 9, 2) := by decide +kernel
theorem dL_law_932 : decode cL_law 932 = .ok (.iload 8, 2) := by decide +kernel
theorem dL_law_934 : decode cL_law 934 = .ok (.if_icmp .gt 53, 3) := by decide +kernel
theorem dL_law_937 : decode cL_law 937 = .ok (.aload_n 2, 1) := by decide +kernel
theorem dL_law_938 : decode cL_law 938 = .ok (.invokestatic 269, 3) := by decide +kernel
theorem dL_law_941 : decode cL_law 941 = .ok (.istore 10, 2) := by decide +kernel
theorem dL_law_943 : decode cL_law 943 = .ok (.iload 10, 2) := by decide +kernel
theorem dL_law_945 : decode cL_law 945 = .ok (.iload 8, 2) := by decide +kernel
theorem dL_law_947 : decode cL_law 947 = .ok (.iload 9, 2) := by decide +kernel
theorem dL_law_949 : decode cL_law 949 = .ok (.isub, 1) := by decide +kernel
theorem dL_law_950 : decode cL_law 950 = .ok (.if_icmp .lt 29, 3) := by decide +kernel
theorem dL_law_953 : decode cL_law 953 = .ok (.iload 10, 2) := by decide +kernel
theorem dL_law_955 : decode cL_law 955 = .ok (.bipush 8, 2) := by decide +kernel
theorem dL_law_957 : decode cL_law 957 = .ok (.iload 9, 2) := by decide +kernel
theorem dL_law_959 : decode cL_law 959 = .ok (.isub, 1) := by decide +kernel
theorem dL_law_960 : decode cL_law 960 = .ok (.if_icmp .gt 19, 3) := by decide +kernel
theorem dL_law_963 : decode cL_law 963 = .ok (.aload_n 2, 1) := by decide +kernel
theorem dL_law_964 : decode cL_law 964 = .ok (.invokestatic 257, 3) := by decide +kernel
theorem dL_law_967 : decode cL_law 967 = .ok (.aload 6, 2) := by decide +kernel
theorem dL_law_969 : decode cL_law 969 = .ok (.iload 7, 2) := by decide +kernel
theorem dL_law_971 : decode cL_law 971 = .ok (.iload 9, 2) := by decide +kernel
theorem dL_law_973 : decode cL_law 973 = .ok (.isub, 1) := by decide +kernel
theorem dL_law_974 : decode cL_law 974 = .ok (.laload, 1) := by decide +kernel
theorem dL_law_975 : decode cL_law 975 = .ok (.lcmp, 1) := by decide +kernel
theorem dL_law_976 : decode cL_law 976 = .ok (.ifCond .eq 5, 3) := by decide +kernel
theorem dL_law_979 : decode cL_law 979 = .ok (.iconst 0, 1) := by decide +kernel
theorem dL_law_980 : decode cL_law 980 = .ok (.ireturn, 1) := by decide +kernel
theorem dL_law_981 : decode cL_law 981 = .ok (.iinc 9 1, 3) := by decide +kernel
theorem dL_law_984 : decode cL_law 984 = .ok (.goto (-54), 3) := by decide +kernel
theorem dL_law_987 : decode cL_law 987 = .ok (.aload_n 2, 1) := by decide +kernel
theorem dL_law_988 : decode cL_law 988 = .ok (.invokestatic 271, 3) := by decide +kernel
theorem dL_law_991 : decode cL_law 991 = .ok (.iload 5, 2) := by decide +kernel
theorem dL_law_993 : decode cL_law 993 = .ok (.if_icmp .ne 44, 3) := by decide +kernel
theorem dL_law_996 : decode cL_law 996 = .ok (.aload_n 2, 1) := by decide +kernel
theorem dL_law_997 : decode cL_law 997 = .ok (.invokestatic 269, 3) := by decide +kernel
theorem dL_law_1000 : decode cL_law 1000 = .ok (.sipush (-1001), 3) := by decide +kernel
theorem dL_law_1003 : decode cL_law 1003 = .ok (.if_icmp .ne 34, 3) := by decide +kernel
theorem dL_law_1006 : decode cL_law 1006 = .ok (.aload_n 2, 1) := by decide +kernel
theorem dL_law_1007 : decode cL_law 1007 = .ok (.invokestatic 257, 3) := by decide +kernel
theorem dL_law_1010 : decode cL_law 1010 = .ok (.lload_n 3, 1) := by decide +kernel
theorem dL_law_1011 : decode cL_law 1011 = .ok (.lcmp, 1) := by decide +kernel
theorem dL_law_1012 : decode cL_law 1012 = .ok (.ifCond .ne 25, 3) := by decide +kernel
theorem dL_law_1015 : decode cL_law 1015 = .ok (.aload_n 2, 1) := by decide +kernel
theorem dL_law_1016 : decode cL_law 1016 = .ok (.invokestatic 271, 3) := by decide +kernel
theorem dL_law_1019 : decode cL_law 1019 = .ok (.iload 5, 2) := by decide +kernel
theorem dL_law_1021 : decode cL_law 1021 = .ok (.if_icmp .ne 16, 3) := by decide +kernel
theorem dL_law_1024 : decode cL_law 1024 = .ok (.aload_n 2, 1) := by decide +kernel
theorem dL_law_1025 : decode cL_law 1025 = .ok (.invokestatic 257, 3) := by decide +kernel
theorem dL_law_1028 : decode cL_law 1028 = .ok (.lload_n 3, 1) := by decide +kernel
theorem dL_law_1029 : decode cL_law 1029 = .ok (.lcmp, 1) := by decide +kernel
theorem dL_law_1030 : decode cL_law 1030 = .ok (.ifCond .ne 7, 3) := by decide +kernel
theorem dL_law_1033 : decode cL_law 1033 = .ok (.iconst 1, 1) := by decide +kernel
theorem dL_law_1034 : decode cL_law 1034 = .ok (.goto 4, 3) := by decide +kernel
theorem dL_law_1037 : decode cL_law 1037 = .ok (.iconst 0, 1) := by decide +kernel
theorem dL_law_1038 : decode cL_law 1038 = .ok (.ireturn, 1) := by decide +kernel

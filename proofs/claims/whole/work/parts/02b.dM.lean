theorem dX8_init_0 : decode cX8_init 0 = .ok (.aload_n 0, 1) := by decide +kernel
theorem dX8_init_1 : decode cX8_init 1 = .ok (.invokespecial 1, 3) := by decide +kernel
theorem dX8_init_4 : decode cX8_init 4 = .ok (.aload_n 0, 1) := by decide +kernel
theorem dX8_init_5 : decode cX8_init 5 = .ok (.sipush 1825, 3) := by decide +kernel
theorem dX8_init_8 : decode cX8_init 8 = .ok (.newarray .int, 2) := by decide +kernel
theorem dX8_init_10 : decode cX8_init 10 = .ok (.putfield 9, 3) := by decide +kernel
theorem dX8_init_13 : decode cX8_init 13 = .ok (.aload_n 0, 1) := by decide +kernel
theorem dX8_init_14 : decode cX8_init 14 = .ok (.sipush 1825, 3) := by decide +kernel
theorem dX8_init_17 : decode cX8_init 17 = .ok (.newarray .int, 2) := by decide +kernel
theorem dX8_init_19 : decode cX8_init 19 = .ok (.putfield 13, 3) := by decide +kernel
theorem dX8_init_22 : decode cX8_init 22 = .ok (.aload_n 0, 1) := by decide +kernel
theorem dX8_init_23 : decode cX8_init 23 = .ok (.sipush 1825, 3) := by decide +kernel
theorem dX8_init_26 : decode cX8_init 26 = .ok (.newarray .int, 2) := by decide +kernel
theorem dX8_init_28 : decode cX8_init 28 = .ok (.putfield 16, 3) := by decide +kernel
theorem dX8_init_31 : decode cX8_init 31 = .ok (.aload_n 0, 1) := by decide +kernel
theorem dX8_init_32 : decode cX8_init 32 = .ok (.sipush 1825, 3) := by decide +kernel
theorem dX8_init_35 : decode cX8_init 35 = .ok (.newarray .int, 2) := by decide +kernel
theorem dX8_init_37 : decode cX8_init 37 = .ok (.putfield 19, 3) := by decide +kernel
theorem dX8_init_40 : decode cX8_init 40 = .ok (.aload_n 0, 1) := by decide +kernel
theorem dX8_init_41 : decode cX8_init 41 = .ok (.sipush 14600, 3) := by decide +kernel
theorem dX8_init_44 : decode cX8_init 44 = .ok (.newarray .int, 2) := by decide +kernel
theorem dX8_init_46 : decode cX8_init 46 = .ok (.putfield 22, 3) := by decide +kernel
theorem dX8_init_49 : decode cX8_init 49 = .ok (.aload_n 0, 1) := by decide +kernel
theorem dX8_init_50 : decode cX8_init 50 = .ok (.aload_n 0, 1) := by decide +kernel
theorem dX8_init_51 : decode cX8_init 51 = .ok (.getfield 9, 3) := by decide +kernel
theorem dX8_init_54 : decode cX8_init 54 = .ok (.putfield 25, 3) := by decide +kernel
theorem dX8_init_57 : decode cX8_init 57 = .ok (.aload_n 0, 1) := by decide +kernel
theorem dX8_init_58 : decode cX8_init 58 = .ok (.bipush 100, 2) := by decide +kernel
theorem dX8_init_60 : decode cX8_init 60 = .ok (.newarray .int, 2) := by decide +kernel
theorem dX8_init_62 : decode cX8_init 62 = .ok (.putfield 28, 3) := by decide +kernel
theorem dX8_init_65 : decode cX8_init 65 = .ok (.aload_n 0, 1) := by decide +kernel
theorem dX8_init_66 : decode cX8_init 66 = .ok (.sipush 700, 3) := by decide +kernel
theorem dX8_init_69 : decode cX8_init 69 = .ok (.newarray .int, 2) := by decide +kernel
theorem dX8_init_71 : decode cX8_init 71 = .ok (.putfield 31, 3) := by decide +kernel
theorem dX8_init_74 : decode cX8_init 74 = .ok (.aload_n 0, 1) := by decide +kernel
theorem dX8_init_75 : decode cX8_init 75 = .ok (.iconst (-1), 1) := by decide +kernel
theorem dX8_init_76 : decode cX8_init 76 = .ok (.putfield 34, 3) := by decide +kernel
theorem dX8_init_79 : decode cX8_init 79 = .ok (.aload_n 0, 1) := by decide +kernel
theorem dX8_init_80 : decode cX8_init 80 = .ok (.bipush 68, 2) := by decide +kernel
theorem dX8_init_82 : decode cX8_init 82 = .ok (.newarray .int, 2) := by decide +kernel
theorem dX8_init_84 : decode cX8_init 84 = .ok (.putfield 38, 3) := by decide +kernel
theorem dX8_init_87 : decode cX8_init 87 = .ok (.aload_n 0, 1) := by decide +kernel
theorem dX8_init_88 : decode cX8_init 88 = .ok (.sipush 1460, 3) := by decide +kernel
theorem dX8_init_91 : decode cX8_init 91 = .ok (.newarray .int, 2) := by decide +kernel
theorem dX8_init_93 : decode cX8_init 93 = .ok (.putfield 41, 3) := by decide +kernel
theorem dX8_init_96 : decode cX8_init 96 = .ok (.aload_n 0, 1) := by decide +kernel
theorem dX8_init_97 : decode cX8_init 97 = .ok (.bipush 11, 2) := by decide +kernel
theorem dX8_init_99 : decode cX8_init 99 = .ok (.anewarray 44, 3) := by decide +kernel
theorem dX8_init_102 : decode cX8_init 102 = .ok (.dup, 1) := by decide +kernel
theorem dX8_init_103 : decode cX8_init 103 = .ok (.iconst 0, 1) := by decide +kernel
theorem dX8_init_104 : decode cX8_init 104 = .ok (.ldc 46, 2) := by decide +kernel
theorem dX8_init_106 : decode cX8_init 106 = .ok (.aastore, 1) := by decide +kernel
theorem dX8_init_107 : decode cX8_init 107 = .ok (.dup, 1) := by decide +kernel
theorem dX8_init_108 : decode cX8_init 108 = .ok (.iconst 1, 1) := by decide +kernel
theorem dX8_init_109 : decode cX8_init 109 = .ok (.ldc 48, 2) := by decide +kernel
theorem dX8_init_111 : decode cX8_init 111 = .ok (.aastore, 1) := by decide +kernel
theorem dX8_init_112 : decode cX8_init 112 = .ok (.dup, 1) := by decide +kernel
theorem dX8_init_113 : decode cX8_init 113 = .ok (.iconst 2, 1) := by decide +kernel
theorem dX8_init_114 : decode cX8_init 114 = .ok (.ldc 50, 2) := by decide +kernel
theorem dX8_init_116 : decode cX8_init 116 = .ok (.aastore, 1) := by decide +kernel
theorem dX8_init_117 : decode cX8_init 117 = .ok (.dup, 1) := by decide +kernel
theorem dX8_init_118 : decode cX8_init 118 = .ok (.iconst 3, 1) := by decide +kernel
theorem dX8_init_119 : decode cX8_init 119 = .ok (.ldc 52, 2) := by decide +kernel
theorem dX8_init_121 : decode cX8_init 121 = .ok (.aastore, 1) := by decide +kernel
theorem dX8_init_122 : decode cX8_init 122 = .ok (.dup, 1) := by decide +kernel
theorem dX8_init_123 : decode cX8_init 123 = .ok (.iconst 4, 1) := by decide +kernel
theorem dX8_init_124 : decode cX8_init 124 = .ok (.ldc 54, 2) := by decide +kernel
theorem dX8_init_126 : decode cX8_init 126 = .ok (.aastore, 1) := by decide +kernel
theorem dX8_init_127 : decode cX8_init 127 = .ok (.dup, 1) := by decide +kernel
theorem dX8_init_128 : decode cX8_init 128 = .ok (.iconst 5, 1) := by decide +kernel
theorem dX8_init_129 : decode cX8_init 129 = .ok (.ldc 56, 2) := by decide +kernel
theorem dX8_init_131 : decode cX8_init 131 = .ok (.aastore, 1) := by decide +kernel
theorem dX8_init_132 : decode cX8_init 132 = .ok (.dup, 1) := by decide +kernel
theorem dX8_init_133 : decode cX8_init 133 = .ok (.bipush 6, 2) := by decide +kernel
theorem dX8_init_135 : decode cX8_init 135 = .ok (.ldc 58, 2) := by decide +kernel
theorem dX8_init_137 : decode cX8_init 137 = .ok (.aastore, 1) := by decide +kernel
theorem dX8_init_138 : decode cX8_init 138 = .ok (.dup, 1) := by decide +kernel
theorem dX8_init_139 : decode cX8_init 139 = .ok (.bipush 7, 2) := by decide +kernel
theorem dX8_init_141 : decode cX8_init 141 = .ok (.ldc 60, 2) := by decide +kernel
theorem dX8_init_143 : decode cX8_init 143 = .ok (.aastore, 1) := by decide +kernel
theorem dX8_init_144 : decode cX8_init 144 = .ok (.dup, 1) := by decide +kernel
theorem dX8_init_145 : decode cX8_init 145 = .ok (.bipush 8, 2) := by decide +kernel
theorem dX8_init_147 : decode cX8_init 147 = .ok (.ldc 62, 2) := by decide +kernel
theorem dX8_init_149 : decode cX8_init 149 = .ok (.aastore, 1) := by decide +kernel
theorem dX8_init_150 : decode cX8_init 150 = .ok (.dup, 1) := by decide +kernel
theorem dX8_init_151 : decode cX8_init 151 = .ok (.bipush 9, 2) := by decide +kernel
theorem dX8_init_153 : decode cX8_init 153 = .ok (.ldc 64, 2) := by decide +kernel
theorem dX8_init_155 : decode cX8_init 155 = .ok (.aastore, 1) := by decide +kernel
theorem dX8_init_156 : decode cX8_init 156 = .ok (.dup, 1) := by decide +kernel
theorem dX8_init_157 : decode cX8_init 157 = .ok (.bipush 10, 2) := by decide +kernel
theorem dX8_init_159 : decode cX8_init 159 = .ok (.ldc 66, 2) := by decide +kernel
theorem dX8_init_161 : decode cX8_init 161 = .ok (.aastore, 1) := by decide +kernel
theorem dX8_init_162 : decode cX8_init 162 = .ok (.putfield 68, 3) := by decide +kernel
theorem dX8_init_165 : decode cX8_init 165 = .ok (.aload_n 0, 1) := by decide +kernel
theorem dX8_init_166 : decode cX8_init 166 = .ok (.iconst 0, 1) := by decide +kernel
theorem dX8_init_167 : decode cX8_init 167 = .ok (.invokevirtual 72, 3) := by decide +kernel
theorem dX8_init_170 : decode cX8_init 170 = .ok (.aload_n 0, 1) := by decide +kernel
theorem dX8_init_171 : decode cX8_init 171 = .ok (.iconst 0, 1) := by decide +kernel
theorem dX8_init_172 : decode cX8_init 172 = .ok (.iconst 0, 1) := by decide +kernel
theorem dX8_init_173 : decode cX8_init 173 = .ok (.invokevirtual 76, 3) := by decide +kernel
theorem dX8_init_176 : decode cX8_init 176 = .ok (.aload_n 0, 1) := by decide +kernel
theorem dX8_init_177 : decode cX8_init 177 = .ok (.iconst 4, 1) := by decide +kernel
theorem dX8_init_178 : decode cX8_init 178 = .ok (.iconst 3, 1) := by decide +kernel
theorem dX8_init_179 : decode cX8_init 179 = .ok (.invokevirtual 76, 3) := by decide +kernel
theorem dX8_init_182 : decode cX8_init 182 = .ok (.aload_n 0, 1) := by decide +kernel
theorem dX8_init_183 : decode cX8_init 183 = .ok (.bipush 8, 2) := by decide +kernel
theorem dX8_init_185 : decode cX8_init 185 = .ok (.iconst 0, 1) := by decide +kernel
theorem dX8_init_186 : decode cX8_init 186 = .ok (.invokevirtual 76, 3) := by decide +kernel
theorem dX8_init_189 : decode cX8_init 189 = .ok (.aload_n 0, 1) := by decide +kernel
theorem dX8_init_190 : decode cX8_init 190 = .ok (.bipush 12, 2) := by decide +kernel
theorem dX8_init_192 : decode cX8_init 192 = .ok (.iconst 5, 1) := by decide +kernel
theorem dX8_init_193 : decode cX8_init 193 = .ok (.invokevirtual 76, 3) := by decide +kernel
theorem dX8_init_196 : decode cX8_init 196 = .ok (.aload_n 0, 1) := by decide +kernel
theorem dX8_init_197 : decode cX8_init 197 = .ok (.bipush 20, 2) := by decide +kernel
theorem dX8_init_199 : decode cX8_init 199 = .ok (.iconst 5, 1) := by decide +kernel
theorem dX8_init_200 : decode cX8_init 200 = .ok (.invokevirtual 76, 3) := by decide +kernel
theorem dX8_init_203 : decode cX8_init 203 = .ok (.aload_n 0, 1) := by decide +kernel
theorem dX8_init_204 : decode cX8_init 204 = .ok (.invokevirtual 80, 3) := by decide +kernel
theorem dX8_init_207 : decode cX8_init 207 = .ok (.aload_n 0, 1) := by decide +kernel
theorem dX8_init_208 : decode cX8_init 208 = .ok (.iconst 1, 1) := by decide +kernel
theorem dX8_init_209 : decode cX8_init 209 = .ok (.invokevirtual 72, 3) := by decide +kernel
theorem dX8_init_212 : decode cX8_init 212 = .ok (.aload_n 0, 1) := by decide +kernel
theorem dX8_init_213 : decode cX8_init 213 = .ok (.bipush 30, 2) := by decide +kernel
theorem dX8_init_215 : decode cX8_init 215 = .ok (.iconst 0, 1) := by decide +kernel
theorem dX8_init_216 : decode cX8_init 216 = .ok (.invokevirtual 76, 3) := by decide +kernel
theorem dX8_init_219 : decode cX8_init 219 = .ok (.aload_n 0, 1) := by decide +kernel
theorem dX8_init_220 : decode cX8_init 220 = .ok (.bipush 50, 2) := by decide +kernel
theorem dX8_init_222 : decode cX8_init 222 = .ok (.iconst 0, 1) := by decide +kernel
theorem dX8_init_223 : decode cX8_init 223 = .ok (.invokevirtual 76, 3) := by decide +kernel
theorem dX8_init_226 : decode cX8_init 226 = .ok (.aload_n 0, 1) := by decide +kernel
theorem dX8_init_227 : decode cX8_init 227 = .ok (.bipush 50, 2) := by decide +kernel
theorem dX8_init_229 : decode cX8_init 229 = .ok (.bipush 20, 2) := by decide +kernel
theorem dX8_init_231 : decode cX8_init 231 = .ok (.invokevirtual 76, 3) := by decide +kernel
theorem dX8_init_234 : decode cX8_init 234 = .ok (.aload_n 0, 1) := by decide +kernel
theorem dX8_init_235 : decode cX8_init 235 = .ok (.bipush 30, 2) := by decide +kernel
theorem dX8_init_237 : decode cX8_init 237 = .ok (.bipush 20, 2) := by decide +kernel
theorem dX8_init_239 : decode cX8_init 239 = .ok (.invokevirtual 76, 3) := by decide +kernel
theorem dX8_init_242 : decode cX8_init 242 = .ok (.aload_n 0, 1) := by decide +kernel
theorem dX8_init_243 : decode cX8_init 243 = .ok (.invokevirtual 80, 3) := by decide +kernel
theorem dX8_init_246 : decode cX8_init 246 = .ok (.aload_n 0, 1) := by decide +kernel
theorem dX8_init_247 : decode cX8_init 247 = .ok (.iconst 1, 1) := by decide +kernel
theorem dX8_init_248 : decode cX8_init 248 = .ok (.invokevirtual 72, 3) := by decide +kernel
theorem dX8_init_251 : decode cX8_init 251 = .ok (.aload_n 0, 1) := by decide +kernel
theorem dX8_init_252 : decode cX8_init 252 = .ok (.bipush 35, 2) := by decide +kernel
theorem dX8_init_254 : decode cX8_init 254 = .ok (.iconst 5, 1) := by decide +kernel
theorem dX8_init_255 : decode cX8_init 255 = .ok (.invokevirtual 76, 3) := by decide +kernel
theorem dX8_init_258 : decode cX8_init 258 = .ok (.aload_n 0, 1) := by decide +kernel
theorem dX8_init_259 : decode cX8_init 259 = .ok (.bipush 45, 2) := by decide +kernel
theorem dX8_init_261 : decode cX8_init 261 = .ok (.iconst 5, 1) := by decide +kernel
theorem dX8_init_262 : decode cX8_init 262 = .ok (.invokevirtual 76, 3) := by decide +kernel
theorem dX8_init_265 : decode cX8_init 265 = .ok (.aload_n 0, 1) := by decide +kernel
theorem dX8_init_266 : decode cX8_init 266 = .ok (.bipush 40, 2) := by decide +kernel
theorem dX8_init_268 : decode cX8_init 268 = .ok (.bipush 15, 2) := by decide +kernel
theorem dX8_init_270 : decode cX8_init 270 = .ok (.invokevirtual 76, 3) := by decide +kernel
theorem dX8_init_273 : decode cX8_init 273 = .ok (.aload_n 0, 1) := by decide +kernel
theorem dX8_init_274 : decode cX8_init 274 = .ok (.invokevirtual 80, 3) := by decide +kernel
theorem dX8_init_277 : decode cX8_init 277 = .ok (.aload_n 0, 1) := by decide +kernel
theorem dX8_init_278 : decode cX8_init 278 = .ok (.invokevirtual 83, 3) := by decide +kernel
theorem dX8_init_281 : decode cX8_init 281 = .ok (.return_, 1) := by decide +kernel
theorem dX8_thrown_0 : decode cX8_thrown 0 = .ok (.aload_n 0, 1) := by decide +kernel
theorem dX8_thrown_1 : decode cX8_thrown 1 = .ok (.getfield 86, 3) := by decide +kernel
theorem dX8_thrown_4 : decode cX8_thrown 4 = .ok (.ireturn, 1) := by decide +kernel
theorem dX8_inRange_0 : decode cX8_inRange 0 = .ok (.iload_n 0, 1) := by decide +kernel
theorem dX8_inRange_1 : decode cX8_inRange 1 = .ok (.iload_n 1, 1) := by decide +kernel
theorem dX8_inRange_2 : decode cX8_inRange 2 = .ok (.if_icmp .lt 12, 3) := by decide +kernel
theorem dX8_inRange_5 : decode cX8_inRange 5 = .ok (.iload_n 0, 1) := by decide +kernel
theorem dX8_inRange_6 : decode cX8_inRange 6 = .ok (.iload_n 2, 1) := by decide +kernel
theorem dX8_inRange_7 : decode cX8_inRange 7 = .ok (.if_icmp .gt 7, 3) := by decide +kernel
theorem dX8_inRange_10 : decode cX8_inRange 10 = .ok (.iconst 1, 1) := by decide +kernel
theorem dX8_inRange_11 : decode cX8_inRange 11 = .ok (.goto 4, 3) := by decide +kernel
theorem dX8_inRange_14 : decode cX8_inRange 14 = .ok (.iconst 0, 1) := by decide +kernel
theorem dX8_inRange_15 : decode cX8_inRange 15 = .ok (.ireturn, 1) := by decide +kernel
theorem dX8_lacks_0 : decode cX8_lacks 0 = .ok (.aload_n 0, 1) := by decide +kernel
theorem dX8_lacks_1 : decode cX8_lacks 1 = .ok (.iload_n 1, 1) := by decide +kernel
theorem dX8_lacks_2 : decode cX8_lacks 2 = .ok (.ifCond .eq 7, 3) := by decide +kernel
theorem dX8_lacks_5 : decode cX8_lacks 5 = .ok (.iconst 0, 1) := by decide +kernel
theorem dX8_lacks_6 : decode cX8_lacks 6 = .ok (.goto 4, 3) := by decide +kernel
theorem dX8_lacks_9 : decode cX8_lacks 9 = .ok (.iconst 1, 1) := by decide +kernel
theorem dX8_lacks_10 : decode cX8_lacks 10 = .ok (.putfield 86, 3) := by decide +kernel
theorem dX8_lacks_13 : decode cX8_lacks 13 = .ok (.iload_n 1, 1) := by decide +kernel
theorem dX8_lacks_14 : decode cX8_lacks 14 = .ok (.ifCond .ne 7, 3) := by decide +kernel
theorem dX8_lacks_17 : decode cX8_lacks 17 = .ok (.iconst 1, 1) := by decide +kernel
theorem dX8_lacks_18 : decode cX8_lacks 18 = .ok (.goto 4, 3) := by decide +kernel
theorem dX8_lacks_21 : decode cX8_lacks 21 = .ok (.iconst 0, 1) := by decide +kernel
theorem dX8_lacks_22 : decode cX8_lacks 22 = .ok (.ireturn, 1) := by decide +kernel
theorem dX8_lacksBoth_0 : decode cX8_lacksBoth 0 = .ok (.aload_n 0, 1) := by decide +kernel
theorem dX8_lacksBoth_1 : decode cX8_lacksBoth 1 = .ok (.iload_n 1, 1) := by decide +kernel
theorem dX8_lacksBoth_2 : decode cX8_lacksBoth 2 = .ok (.invokevirtual 89, 3) := by decide +kernel
theorem dX8_lacksBoth_5 : decode cX8_lacksBoth 5 = .ok (.ifCond .eq 5, 3) := by decide +kernel
theorem dX8_lacksBoth_8 : decode cX8_lacksBoth 8 = .ok (.iconst 1, 1) := by decide +kernel
theorem dX8_lacksBoth_9 : decode cX8_lacksBoth 9 = .ok (.ireturn, 1) := by decide +kernel
theorem dX8_lacksBoth_10 : decode cX8_lacksBoth 10 = .ok (.aload_n 0, 1) := by decide +kernel
theorem dX8_lacksBoth_11 : decode cX8_lacksBoth 11 = .ok (.iload_n 2, 1) := by decide +kernel
theorem dX8_lacksBoth_12 : decode cX8_lacksBoth 12 = .ok (.ifCond .eq 7, 3) := by decide +kernel
theorem dX8_lacksBoth_15 : decode cX8_lacksBoth 15 = .ok (.iconst 0, 1) := by decide +kernel
theorem dX8_lacksBoth_16 : decode cX8_lacksBoth 16 = .ok (.goto 4, 3) := by decide +kernel
theorem dX8_lacksBoth_19 : decode cX8_lacksBoth 19 = .ok (.iconst 2, 1) := by decide +kernel
theorem dX8_lacksBoth_20 : decode cX8_lacksBoth 20 = .ok (.putfield 86, 3) := by decide +kernel
theorem dX8_lacksBoth_23 : decode cX8_lacksBoth 23 = .ok (.aload_n 0, 1) := by decide +kernel
theorem dX8_lacksBoth_24 : decode cX8_lacksBoth 24 = .ok (.getfield 86, 3) := by decide +kernel
theorem dX8_lacksBoth_27 : decode cX8_lacksBoth 27 = .ok (.ifCond .eq 7, 3) := by decide +kernel
theorem dX8_lacksBoth_30 : decode cX8_lacksBoth 30 = .ok (.iconst 1, 1) := by decide +kernel
theorem dX8_lacksBoth_31 : decode cX8_lacksBoth 31 = .ok (.goto 4, 3) := by decide +kernel
theorem dX8_lacksBoth_34 : decode cX8_lacksBoth 34 = .ok (.iconst 0, 1) := by decide +kernel
theorem dX8_lacksBoth_35 : decode cX8_lacksBoth 35 = .ok (.ireturn, 1) := by decide +kernel
theorem dX8_sizeOf_0 : decode cX8_sizeOf 0 = .ok (.iload_n 0, 1) := by decide +kernel
theorem dX8_sizeOf_1 : decode cX8_sizeOf 1 = .ok (.ifCond .ge 8, 3) := by decide +kernel
theorem dX8_sizeOf_4 : decode cX8_sizeOf 4 = .ok (.iload_n 0, 1) := by decide +kernel
theorem dX8_sizeOf_5 : decode cX8_sizeOf 5 = .ok (.ineg, 1) := by decide +kernel
theorem dX8_sizeOf_6 : decode cX8_sizeOf 6 = .ok (.goto 4, 3) := by decide +kernel
theorem dX8_sizeOf_9 : decode cX8_sizeOf 9 = .ok (.iload_n 0, 1) := by decide +kernel
theorem dX8_sizeOf_10 : decode cX8_sizeOf 10 = .ok (.ireturn, 1) := by decide +kernel
theorem dX8_least_0 : decode cX8_least 0 = .ok (.iload_n 0, 1) := by decide +kernel
theorem dX8_least_1 : decode cX8_least 1 = .ok (.iload_n 1, 1) := by decide +kernel
theorem dX8_least_2 : decode cX8_least 2 = .ok (.if_icmp .ge 7, 3) := by decide +kernel
theorem dX8_least_5 : decode cX8_least 5 = .ok (.iload_n 0, 1) := by decide +kernel
theorem dX8_least_6 : decode cX8_least 6 = .ok (.goto 4, 3) := by decide +kernel
theorem dX8_least_9 : decode cX8_least 9 = .ok (.iload_n 1, 1) := by decide +kernel
theorem dX8_least_10 : decode cX8_least 10 = .ok (.ireturn, 1) := by decide +kernel
theorem dX8_at_0 : decode cX8_at 0 = .ok (.iconst 5, 1) := by decide +kernel
theorem dX8_at_1 : decode cX8_at 1 = .ok (.sipush 260, 3) := by decide +kernel
theorem dX8_at_4 : decode cX8_at 4 = .ok (.iload_n 0, 1) := by decide +kernel
theorem dX8_at_5 : decode cX8_at 5 = .ok (.imul, 1) := by decide +kernel
theorem dX8_at_6 : decode cX8_at 6 = .ok (.iadd, 1) := by decide +kernel
theorem dX8_at_7 : decode cX8_at 7 = .ok (.ireturn, 1) := by decide +kernel
theorem dX8_isCoast_0 : decode cX8_isCoast 0 = .ok (.iload_n 1, 1) := by decide +kernel
theorem dX8_isCoast_1 : decode cX8_isCoast 1 = .ok (.iconst 0, 1) := by decide +kernel
theorem dX8_isCoast_2 : decode cX8_isCoast 2 = .ok (.aload_n 0, 1) := by decide +kernel
theorem dX8_isCoast_3 : decode cX8_isCoast 3 = .ok (.getfield 25, 3) := by decide +kernel
theorem dX8_isCoast_6 : decode cX8_isCoast 6 = .ok (.iconst 1, 1) := by decide +kernel
theorem dX8_isCoast_7 : decode cX8_isCoast 7 = .ok (.iaload, 1) := by decide +kernel
theorem dX8_isCoast_8 : decode cX8_isCoast 8 = .ok (.iconst 1, 1) := by decide +kernel
theorem dX8_isCoast_9 : decode cX8_isCoast 9 = .ok (.isub, 1) := by decide +kernel
theorem dX8_isCoast_10 : decode cX8_isCoast 10 = .ok (.invokestatic 93, 3) := by decide +kernel
theorem dX8_isCoast_13 : decode cX8_isCoast 13 = .ok (.ireturn, 1) := by decide +kernel
theorem dX8_island_0 : decode cX8_island 0 = .ok (.aload_n 0, 1) := by decide +kernel
theorem dX8_island_1 : decode cX8_island 1 = .ok (.getfield 25, 3) := by decide +kernel
theorem dX8_island_4 : decode cX8_island 4 = .ok (.iload_n 1, 1) := by decide +kernel
theorem dX8_island_5 : decode cX8_island 5 = .ok (.invokestatic 97, 3) := by decide +kernel
theorem dX8_island_8 : decode cX8_island 8 = .ok (.iconst 0, 1) := by decide +kernel
theorem dX8_island_9 : decode cX8_island 9 = .ok (.iadd, 1) := by decide +kernel
theorem dX8_island_10 : decode cX8_island 10 = .ok (.iaload, 1) := by decide +kernel
theorem dX8_island_11 : decode cX8_island 11 = .ok (.iconst 1, 1) := by decide +kernel
theorem dX8_island_12 : decode cX8_island 12 = .ok (.if_icmp .ne 7, 3) := by decide +kernel
theorem dX8_island_15 : decode cX8_island 15 = .ok (.iconst 1, 1) := by decide +kernel
theorem dX8_island_16 : decode cX8_island 16 = .ok (.goto 4, 3) := by decide +kernel
theorem dX8_island_19 : decode cX8_island 19 = .ok (.iconst 0, 1) := by decide +kernel
theorem dX8_island_20 : decode cX8_island 20 = .ok (.ireturn, 1) := by decide +kernel
theorem dX8_count_0 : decode cX8_count 0 = .ok (.aload_n 0, 1) := by decide +kernel
theorem dX8_count_1 : decode cX8_count 1 = .ok (.getfield 25, 3) := by decide +kernel
theorem dX8_count_4 : decode cX8_count 4 = .ok (.iload_n 1, 1) := by decide +kernel
theorem dX8_count_5 : decode cX8_count 5 = .ok (.invokestatic 97, 3) := by decide +kernel
theorem dX8_count_8 : decode cX8_count 8 = .ok (.iconst 1, 1) := by decide +kernel
theorem dX8_count_9 : decode cX8_count 9 = .ok (.iadd, 1) := by decide +kernel
theorem dX8_count_10 : decode cX8_count 10 = .ok (.iaload, 1) := by decide +kernel
theorem dX8_count_11 : decode cX8_count 11 = .ok (.ireturn, 1) := by decide +kernel
theorem dX8_x_0 : decode cX8_x 0 = .ok (.aload_n 0, 1) := by decide +kernel
theorem dX8_x_1 : decode cX8_x 1 = .ok (.getfield 25, 3) := by decide +kernel
theorem dX8_x_4 : decode cX8_x 4 = .ok (.iload_n 1, 1) := by decide +kernel
theorem dX8_x_5 : decode cX8_x 5 = .ok (.invokestatic 97, 3) := by decide +kernel
theorem dX8_x_8 : decode cX8_x 8 = .ok (.iconst 2, 1) := by decide +kernel
theorem dX8_x_9 : decode cX8_x 9 = .ok (.iadd, 1) := by decide +kernel
theorem dX8_x_10 : decode cX8_x 10 = .ok (.iconst 2, 1) := by decide +kernel
theorem dX8_x_11 : decode cX8_x 11 = .ok (.iload_n 2, 1) := by decide +kernel
theorem dX8_x_12 : decode cX8_x 12 = .ok (.imul, 1) := by decide +kernel
theorem dX8_x_13 : decode cX8_x 13 = .ok (.iadd, 1) := by decide +kernel
theorem dX8_x_14 : decode cX8_x 14 = .ok (.iaload, 1) := by decide +kernel
theorem dX8_x_15 : decode cX8_x 15 = .ok (.ireturn, 1) := by decide +kernel
theorem dX8_y_0 : decode cX8_y 0 = .ok (.aload_n 0, 1) := by decide +kernel
theorem dX8_y_1 : decode cX8_y 1 = .ok (.getfield 25, 3) := by decide +kernel
theorem dX8_y_4 : decode cX8_y 4 = .ok (.iload_n 1, 1) := by decide +kernel
theorem dX8_y_5 : decode cX8_y 5 = .ok (.invokestatic 97, 3) := by decide +kernel
theorem dX8_y_8 : decode cX8_y 8 = .ok (.iconst 2, 1) := by decide +kernel
theorem dX8_y_9 : decode cX8_y 9 = .ok (.iadd, 1) := by decide +kernel
theorem dX8_y_10 : decode cX8_y 10 = .ok (.iconst 2, 1) := by decide +kernel
theorem dX8_y_11 : decode cX8_y 11 = .ok (.iload_n 2, 1) := by decide +kernel
theorem dX8_y_12 : decode cX8_y 12 = .ok (.imul, 1) := by decide +kernel
theorem dX8_y_13 : decode cX8_y 13 = .ok (.iadd, 1) := by decide +kernel
theorem dX8_y_14 : decode cX8_y 14 = .ok (.iconst 1, 1) := by decide +kernel
theorem dX8_y_15 : decode cX8_y 15 = .ok (.iadd, 1) := by decide +kernel
theorem dX8_y_16 : decode cX8_y 16 = .ok (.iaload, 1) := by decide +kernel
theorem dX8_y_17 : decode cX8_y 17 = .ok (.ireturn, 1) := by decide +kernel
theorem dX8_layPoint_0 : decode cX8_layPoint 0 = .ok (.aload_n 0, 1) := by decide +kernel
theorem dX8_layPoint_1 : decode cX8_layPoint 1 = .ok (.getfield 25, 3) := by decide +kernel
theorem dX8_layPoint_4 : decode cX8_layPoint 4 = .ok (.iload_n 1, 1) := by decide +kernel
theorem dX8_layPoint_5 : decode cX8_layPoint 5 = .ok (.invokestatic 97, 3) := by decide +kernel
theorem dX8_layPoint_8 : decode cX8_layPoint 8 = .ok (.iconst 2, 1) := by decide +kernel
theorem dX8_layPoint_9 : decode cX8_layPoint 9 = .ok (.iadd, 1) := by decide +kernel
theorem dX8_layPoint_10 : decode cX8_layPoint 10 = .ok (.iconst 2, 1) := by decide +kernel
theorem dX8_layPoint_11 : decode cX8_layPoint 11 = .ok (.iload_n 2, 1) := by decide +kernel
theorem dX8_layPoint_12 : decode cX8_layPoint 12 = .ok (.imul, 1) := by decide +kernel
theorem dX8_layPoint_13 : decode cX8_layPoint 13 = .ok (.iadd, 1) := by decide +kernel
theorem dX8_layPoint_14 : decode cX8_layPoint 14 = .ok (.iload_n 3, 1) := by decide +kernel
theorem dX8_layPoint_15 : decode cX8_layPoint 15 = .ok (.iastore, 1) := by decide +kernel
theorem dX8_layPoint_16 : decode cX8_layPoint 16 = .ok (.aload_n 0, 1) := by decide +kernel
theorem dX8_layPoint_17 : decode cX8_layPoint 17 = .ok (.getfield 25, 3) := by decide +kernel
theorem dX8_layPoint_20 : decode cX8_layPoint 20 = .ok (.iload_n 1, 1) := by decide +kernel
theorem dX8_layPoint_21 : decode cX8_layPoint 21 = .ok (.invokestatic 97, 3) := by decide +kernel
theorem dX8_layPoint_24 : decode cX8_layPoint 24 = .ok (.iconst 2, 1) := by decide +kernel
theorem dX8_layPoint_25 : decode cX8_layPoint 25 = .ok (.iadd, 1) := by decide +kernel
theorem dX8_layPoint_26 : decode cX8_layPoint 26 = .ok (.iconst 2, 1) := by decide +kernel
theorem dX8_layPoint_27 : decode cX8_layPoint 27 = .ok (.iload_n 2, 1) := by decide +kernel
theorem dX8_layPoint_28 : decode cX8_layPoint 28 = .ok (.imul, 1) := by decide +kernel
theorem dX8_layPoint_29 : decode cX8_layPoint 29 = .ok (.iadd, 1) := by decide +kernel
theorem dX8_layPoint_30 : decode cX8_layPoint 30 = .ok (.iconst 1, 1) := by decide +kernel
theorem dX8_layPoint_31 : decode cX8_layPoint 31 = .ok (.iadd, 1) := by decide +kernel
theorem dX8_layPoint_32 : decode cX8_layPoint 32 = .ok (.iload 4, 2) := by decide +kernel
theorem dX8_layPoint_34 : decode cX8_layPoint 34 = .ok (.iastore, 1) := by decide +kernel
theorem dX8_layPoint_35 : decode cX8_layPoint 35 = .ok (.return_, 1) := by decide +kernel
theorem dX8_isPoint_0 : decode cX8_isPoint 0 = .ok (.aload_n 0, 1) := by decide +kernel
theorem dX8_isPoint_1 : decode cX8_isPoint 1 = .ok (.iload_n 1, 1) := by decide +kernel
theorem dX8_isPoint_2 : decode cX8_isPoint 2 = .ok (.invokevirtual 101, 3) := by decide +kernel
theorem dX8_isPoint_5 : decode cX8_isPoint 5 = .ok (.ifCond .eq 22, 3) := by decide +kernel
theorem dX8_isPoint_8 : decode cX8_isPoint 8 = .ok (.iload_n 2, 1) := by decide +kernel
theorem dX8_isPoint_9 : decode cX8_isPoint 9 = .ok (.iconst 0, 1) := by decide +kernel
theorem dX8_isPoint_10 : decode cX8_isPoint 10 = .ok (.aload_n 0, 1) := by decide +kernel
theorem dX8_isPoint_11 : decode cX8_isPoint 11 = .ok (.iload_n 1, 1) := by decide +kernel
theorem dX8_isPoint_12 : decode cX8_isPoint 12 = .ok (.invokevirtual 105, 3) := by decide +kernel
theorem dX8_isPoint_15 : decode cX8_isPoint 15 = .ok (.iconst 1, 1) := by decide +kernel
theorem dX8_isPoint_16 : decode cX8_isPoint 16 = .ok (.isub, 1) := by decide +kernel
theorem dX8_isPoint_17 : decode cX8_isPoint 17 = .ok (.invokestatic 93, 3) := by decide +kernel
theorem dX8_isPoint_20 : decode cX8_isPoint 20 = .ok (.ifCond .eq 7, 3) := by decide +kernel
theorem dX8_isPoint_23 : decode cX8_isPoint 23 = .ok (.iconst 1, 1) := by decide +kernel
theorem dX8_isPoint_24 : decode cX8_isPoint 24 = .ok (.goto 4, 3) := by decide +kernel
theorem dX8_isPoint_27 : decode cX8_isPoint 27 = .ok (.iconst 0, 1) := by decide +kernel
theorem dX8_isPoint_28 : decode cX8_isPoint 28 = .ok (.ireturn, 1) := by decide +kernel
theorem dX8_isCoordinate_0 : decode cX8_isCoordinate 0 = .ok (.iload_n 0, 1) := by decide +kernel
theorem dX8_isCoordinate_1 : decode cX8_isCoordinate 1 = .ok (.sipush (-1000), 3) := by decide +kernel
theorem dX8_isCoordinate_4 : decode cX8_isCoordinate 4 = .ok (.sipush 1000, 3) := by decide +kernel
theorem dX8_isCoordinate_7 : decode cX8_isCoordinate 7 = .ok (.invokestatic 93, 3) := by decide +kernel
theorem dX8_isCoordinate_10 : decode cX8_isCoordinate 10 = .ok (.ireturn, 1) := by decide +kernel
theorem dX8_isPosition_0 : decode cX8_isPosition 0 = .ok (.iload_n 0, 1) := by decide +kernel
theorem dX8_isPosition_1 : decode cX8_isPosition 1 = .ok (.invokestatic 108, 3) := by decide +kernel
theorem dX8_isPosition_4 : decode cX8_isPosition 4 = .ok (.ifCond .eq 14, 3) := by decide +kernel
theorem dX8_isPosition_7 : decode cX8_isPosition 7 = .ok (.iload_n 1, 1) := by decide +kernel
theorem dX8_isPosition_8 : decode cX8_isPosition 8 = .ok (.invokestatic 108, 3) := by decide +kernel
theorem dX8_isPosition_11 : decode cX8_isPosition 11 = .ok (.ifCond .eq 7, 3) := by decide +kernel
theorem dX8_isPosition_14 : decode cX8_isPosition 14 = .ok (.iconst 1, 1) := by decide +kernel
theorem dX8_isPosition_15 : decode cX8_isPosition 15 = .ok (.goto 4, 3) := by decide +kernel
theorem dX8_isPosition_18 : decode cX8_isPosition 18 = .ok (.iconst 0, 1) := by decide +kernel
theorem dX8_isPosition_19 : decode cX8_isPosition 19 = .ok (.ireturn, 1) := by decide +kernel
theorem dX8_isLevel_0 : decode cX8_isLevel 0 = .ok (.iload_n 0, 1) := by decide +kernel
theorem dX8_isLevel_1 : decode cX8_isLevel 1 = .ok (.iconst 0, 1) := by decide +kernel
theorem dX8_isLevel_2 : decode cX8_isLevel 2 = .ok (.bipush 7, 2) := by decide +kernel
theorem dX8_isLevel_4 : decode cX8_isLevel 4 = .ok (.invokestatic 93, 3) := by decide +kernel
theorem dX8_isLevel_7 : decode cX8_isLevel 7 = .ok (.ireturn, 1) := by decide +kernel
theorem dX8_isHeight_0 : decode cX8_isHeight 0 = .ok (.iload_n 0, 1) := by decide +kernel
theorem dX8_isHeight_1 : decode cX8_isHeight 1 = .ok (.bipush (-50), 2) := by decide +kernel
theorem dX8_isHeight_3 : decode cX8_isHeight 3 = .ok (.bipush 50, 2) := by decide +kernel
theorem dX8_isHeight_5 : decode cX8_isHeight 5 = .ok (.invokestatic 93, 3) := by decide +kernel
theorem dX8_isHeight_8 : decode cX8_isHeight 8 = .ok (.ireturn, 1) := by decide +kernel
theorem dX8_fewest_0 : decode cX8_fewest 0 = .ok (.aload_n 0, 1) := by decide +kernel
theorem dX8_fewest_1 : decode cX8_fewest 1 = .ok (.iload_n 1, 1) := by decide +kernel
theorem dX8_fewest_2 : decode cX8_fewest 2 = .ok (.invokevirtual 111, 3) := by decide +kernel
theorem dX8_fewest_5 : decode cX8_fewest 5 = .ok (.ifCond .eq 7, 3) := by decide +kernel
theorem dX8_fewest_8 : decode cX8_fewest 8 = .ok (.iconst 3, 1) := by decide +kernel
theorem dX8_fewest_9 : decode cX8_fewest 9 = .ok (.goto 4, 3) := by decide +kernel
theorem dX8_fewest_12 : decode cX8_fewest 12 = .ok (.iconst 2, 1) := by decide +kernel
theorem dX8_fewest_13 : decode cX8_fewest 13 = .ok (.ireturn, 1) := by decide +kernel
theorem dX8_allPoints_0 : decode cX8_allPoints 0 = .ok (.iconst 0, 1) := by decide +kernel
theorem dX8_allPoints_1 : decode cX8_allPoints 1 = .ok (.istore_n 1, 1) := by decide +kernel
theorem dX8_allPoints_2 : decode cX8_allPoints 2 = .ok (.iconst 0, 1) := by decide +kernel
theorem dX8_allPoints_3 : decode cX8_allPoints 3 = .ok (.istore_n 2, 1) := by decide +kernel
theorem dX8_allPoints_4 : decode cX8_allPoints 4 = .ok (.iload_n 2, 1) := by decide +kernel
theorem dX8_allPoints_5 : decode cX8_allPoints 5 = .ok (.aload_n 0, 1) := by decide +kernel
theorem dX8_allPoints_6 : decode cX8_allPoints 6 = .ok (.getfield 25, 3) := by decide +kernel
theorem dX8_allPoints_9 : decode cX8_allPoints 9 = .ok (.iconst 1, 1) := by decide +kernel
theorem dX8_allPoints_10 : decode cX8_allPoints 10 = .ok (.iaload, 1) := by decide +kernel
theorem dX8_allPoints_11 : decode cX8_allPoints 11 = .ok (.if_icmp .ge 17, 3) := by decide +kernel
theorem dX8_allPoints_14 : decode cX8_allPoints 14 = .ok (.iload_n 1, 1) := by decide +kernel
theorem dX8_allPoints_15 : decode cX8_allPoints 15 = .ok (.aload_n 0, 1) := by decide +kernel
theorem dX8_allPoints_16 : decode cX8_allPoints 16 = .ok (.iload_n 2, 1) := by decide +kernel
theorem dX8_allPoints_17 : decode cX8_allPoints 17 = .ok (.invokevirtual 105, 3) := by decide +kernel
theorem dX8_allPoints_20 : decode cX8_allPoints 20 = .ok (.iadd, 1) := by decide +kernel
theorem dX8_allPoints_21 : decode cX8_allPoints 21 = .ok (.istore_n 1, 1) := by decide +kernel
theorem dX8_allPoints_22 : decode cX8_allPoints 22 = .ok (.iinc 2 1, 3) := by decide +kernel
theorem dX8_allPoints_25 : decode cX8_allPoints 25 = .ok (.goto (-21), 3) := by decide +kernel
theorem dX8_allPoints_28 : decode cX8_allPoints 28 = .ok (.iload_n 1, 1) := by decide +kernel
theorem dX8_allPoints_29 : decode cX8_allPoints 29 = .ok (.ireturn, 1) := by decide +kernel
theorem dX8_restartLedgers_0 : decode cX8_restartLedgers 0 = .ok (.aload_n 0, 1) := by decide +kernel
theorem dX8_restartLedgers_1 : decode cX8_restartLedgers 1 = .ok (.getfield 25, 3) := by decide +kernel
theorem dX8_restartLedgers_4 : decode cX8_restartLedgers 4 = .ok (.iconst 2, 1) := by decide +kernel
theorem dX8_restartLedgers_5 : decode cX8_restartLedgers 5 = .ok (.aload_n 0, 1) := by decide +kernel
theorem dX8_restartLedgers_6 : decode cX8_restartLedgers 6 = .ok (.invokevirtual 113, 3) := by decide +kernel
theorem dX8_restartLedgers_9 : decode cX8_restartLedgers 9 = .ok (.iastore, 1) := by decide +kernel
theorem dX8_restartLedgers_10 : decode cX8_restartLedgers 10 = .ok (.aload_n 0, 1) := by decide +kernel
theorem dX8_restartLedgers_11 : decode cX8_restartLedgers 11 = .ok (.getfield 25, 3) := by decide +kernel
theorem dX8_restartLedgers_14 : decode cX8_restartLedgers 14 = .ok (.iconst 3, 1) := by decide +kernel
theorem dX8_restartLedgers_15 : decode cX8_restartLedgers 15 = .ok (.iconst 0, 1) := by decide +kernel
theorem dX8_restartLedgers_16 : decode cX8_restartLedgers 16 = .ok (.iastore, 1) := by decide +kernel
theorem dX8_restartLedgers_17 : decode cX8_restartLedgers 17 = .ok (.aload_n 0, 1) := by decide +kernel
theorem dX8_restartLedgers_18 : decode cX8_restartLedgers 18 = .ok (.getfield 25, 3) := by decide +kernel
theorem dX8_restartLedgers_21 : decode cX8_restartLedgers 21 = .ok (.iconst 4, 1) := by decide +kernel
theorem dX8_restartLedgers_22 : decode cX8_restartLedgers 22 = .ok (.iconst 0, 1) := by decide +kernel
theorem dX8_restartLedgers_23 : decode cX8_restartLedgers 23 = .ok (.iastore, 1) := by decide +kernel
theorem dX8_restartLedgers_24 : decode cX8_restartLedgers 24 = .ok (.return_, 1) := by decide +kernel
theorem dX8_copyCoast_0 : decode cX8_copyCoast 0 = .ok (.aload_n 0, 1) := by decide +kernel
theorem dX8_copyCoast_1 : decode cX8_copyCoast 1 = .ok (.getfield 25, 3) := by decide +kernel
theorem dX8_copyCoast_4 : decode cX8_copyCoast 4 = .ok (.iload_n 1, 1) := by decide +kernel
theorem dX8_copyCoast_5 : decode cX8_copyCoast 5 = .ok (.invokestatic 97, 3) := by decide +kernel
theorem dX8_copyCoast_8 : decode cX8_copyCoast 8 = .ok (.aload_n 0, 1) := by decide +kernel
theorem dX8_copyCoast_9 : decode cX8_copyCoast 9 = .ok (.getfield 25, 3) := by decide +kernel
theorem dX8_copyCoast_12 : decode cX8_copyCoast 12 = .ok (.iload_n 2, 1) := by decide +kernel
theorem dX8_copyCoast_13 : decode cX8_copyCoast 13 = .ok (.invokestatic 97, 3) := by decide +kernel
theorem dX8_copyCoast_16 : decode cX8_copyCoast 16 = .ok (.sipush 260, 3) := by decide +kernel
theorem dX8_copyCoast_19 : decode cX8_copyCoast 19 = .ok (.invokestatic 117, 3) := by decide +kernel
theorem dX8_copyCoast_22 : decode cX8_copyCoast 22 = .ok (.return_, 1) := by decide +kernel
theorem dX8_measure_0 : decode cX8_measure 0 = .ok (.iload_n 0, 1) := by decide +kernel
theorem dX8_measure_1 : decode cX8_measure 1 = .ok (.invokestatic 123, 3) := by decide +kernel
theorem dX8_measure_4 : decode cX8_measure 4 = .ok (.istore_n 3, 1) := by decide +kernel
theorem dX8_measure_5 : decode cX8_measure 5 = .ok (.iload_n 1, 1) := by decide +kernel
theorem dX8_measure_6 : decode cX8_measure 6 = .ok (.invokestatic 123, 3) := by decide +kernel
theorem dX8_measure_9 : decode cX8_measure 9 = .ok (.istore 4, 2) := by decide +kernel
theorem dX8_measure_11 : decode cX8_measure 11 = .ok (.iload_n 2, 1) := by decide +kernel
theorem dX8_measure_12 : decode cX8_measure 12 = .ok (.ifCond .ne 10, 3) := by decide +kernel
theorem dX8_measure_15 : decode cX8_measure 15 = .ok (.iload_n 3, 1) := by decide +kernel
theorem dX8_measure_16 : decode cX8_measure 16 = .ok (.iload 4, 2) := by decide +kernel
theorem dX8_measure_18 : decode cX8_measure 18 = .ok (.iadd, 1) := by decide +kernel
theorem dX8_measure_19 : decode cX8_measure 19 = .ok (.goto 15, 3) := by decide +kernel
theorem dX8_measure_22 : decode cX8_measure 22 = .ok (.iload_n 3, 1) := by decide +kernel
theorem dX8_measure_23 : decode cX8_measure 23 = .ok (.iload 4, 2) := by decide +kernel
theorem dX8_measure_25 : decode cX8_measure 25 = .ok (.if_icmp .le 7, 3) := by decide +kernel
theorem dX8_measure_28 : decode cX8_measure 28 = .ok (.iload_n 3, 1) := by decide +kernel
theorem dX8_measure_29 : decode cX8_measure 29 = .ok (.goto 5, 3) := by decide +kernel
theorem dX8_measure_32 : decode cX8_measure 32 = .ok (.iload 4, 2) := by decide +kernel
theorem dX8_measure_34 : decode cX8_measure 34 = .ok (.ireturn, 1) := by decide +kernel
theorem dX8_isKing_0 : decode cX8_isKing 0 = .ok (.aload_n 0, 1) := by decide +kernel
theorem dX8_isKing_1 : decode cX8_isKing 1 = .ok (.getfield 25, 3) := by decide +kernel
theorem dX8_isKing_4 : decode cX8_isKing 4 = .ok (.iconst 0, 1) := by decide +kernel
theorem dX8_isKing_5 : decode cX8_isKing 5 = .ok (.iaload, 1) := by decide +kernel
theorem dX8_isKing_6 : decode cX8_isKing 6 = .ok (.iconst 1, 1) := by decide +kernel
theorem dX8_isKing_7 : decode cX8_isKing 7 = .ok (.if_icmp .ne 7, 3) := by decide +kernel
theorem dX8_isKing_10 : decode cX8_isKing 10 = .ok (.iconst 1, 1) := by decide +kernel
theorem dX8_isKing_11 : decode cX8_isKing 11 = .ok (.goto 4, 3) := by decide +kernel
theorem dX8_isKing_14 : decode cX8_isKing 14 = .ok (.iconst 0, 1) := by decide +kernel
theorem dX8_isKing_15 : decode cX8_isKing 15 = .ok (.ireturn, 1) := by decide +kernel
theorem dX8_distance_0 : decode cX8_distance 0 = .ok (.aload_n 0, 1) := by decide +kernel
theorem dX8_distance_1 : decode cX8_distance 1 = .ok (.iload_n 1, 1) := by decide +kernel
theorem dX8_distance_2 : decode cX8_distance 2 = .ok (.iload_n 2, 1) := by decide +kernel
theorem dX8_distance_3 : decode cX8_distance 3 = .ok (.invokevirtual 126, 3) := by decide +kernel
theorem dX8_distance_6 : decode cX8_distance 6 = .ok (.aload_n 0, 1) := by decide +kernel
theorem dX8_distance_7 : decode cX8_distance 7 = .ok (.iload_n 1, 1) := by decide +kernel
theorem dX8_distance_8 : decode cX8_distance 8 = .ok (.iload_n 3, 1) := by decide +kernel
theorem dX8_distance_9 : decode cX8_distance 9 = .ok (.invokevirtual 126, 3) := by decide +kernel
theorem dX8_distance_12 : decode cX8_distance 12 = .ok (.isub, 1) := by decide +kernel
theorem dX8_distance_13 : decode cX8_distance 13 = .ok (.aload_n 0, 1) := by decide +kernel
theorem dX8_distance_14 : decode cX8_distance 14 = .ok (.iload_n 1, 1) := by decide +kernel
theorem dX8_distance_15 : decode cX8_distance 15 = .ok (.iload_n 2, 1) := by decide +kernel
theorem dX8_distance_16 : decode cX8_distance 16 = .ok (.invokevirtual 130, 3) := by decide +kernel
theorem dX8_distance_19 : decode cX8_distance 19 = .ok (.aload_n 0, 1) := by decide +kernel
theorem dX8_distance_20 : decode cX8_distance 20 = .ok (.iload_n 1, 1) := by decide +kernel
theorem dX8_distance_21 : decode cX8_distance 21 = .ok (.iload_n 3, 1) := by decide +kernel
theorem dX8_distance_22 : decode cX8_distance 22 = .ok (.invokevirtual 130, 3) := by decide +kernel
theorem dX8_distance_25 : decode cX8_distance 25 = .ok (.isub, 1) := by decide +kernel
theorem dX8_distance_26 : decode cX8_distance 26 = .ok (.iload 4, 2) := by decide +kernel
theorem dX8_distance_28 : decode cX8_distance 28 = .ok (.invokestatic 133, 3) := by decide +kernel
theorem dX8_distance_31 : decode cX8_distance 31 = .ok (.ireturn, 1) := by decide +kernel
theorem dX8_sticks_0 : decode cX8_sticks 0 = .ok (.aload_n 0, 1) := by decide +kernel
theorem dX8_sticks_1 : decode cX8_sticks 1 = .ok (.iload_n 1, 1) := by decide +kernel
theorem dX8_sticks_2 : decode cX8_sticks 2 = .ok (.invokevirtual 105, 3) := by decide +kernel
theorem dX8_sticks_5 : decode cX8_sticks 5 = .ok (.iconst 1, 1) := by decide +kernel
theorem dX8_sticks_6 : decode cX8_sticks 6 = .ok (.isub, 1) := by decide +kernel
theorem dX8_sticks_7 : decode cX8_sticks 7 = .ok (.iload_n 2, 1) := by decide +kernel
theorem dX8_sticks_8 : decode cX8_sticks 8 = .ok (.ishr, 1) := by decide +kernel
theorem dX8_sticks_9 : decode cX8_sticks 9 = .ok (.iconst 1, 1) := by decide +kernel
theorem dX8_sticks_10 : decode cX8_sticks 10 = .ok (.iadd, 1) := by decide +kernel
theorem dX8_sticks_11 : decode cX8_sticks 11 = .ok (.istore_n 3, 1) := by decide +kernel
theorem dX8_sticks_12 : decode cX8_sticks 12 = .ok (.iload_n 3, 1) := by decide +kernel
theorem dX8_sticks_13 : decode cX8_sticks 13 = .ok (.iconst 1, 1) := by decide +kernel
theorem dX8_sticks_14 : decode cX8_sticks 14 = .ok (.isub, 1) := by decide +kernel
theorem dX8_sticks_15 : decode cX8_sticks 15 = .ok (.iload_n 2, 1) := by decide +kernel
theorem dX8_sticks_16 : decode cX8_sticks 16 = .ok (.ishl, 1) := by decide +kernel
theorem dX8_sticks_17 : decode cX8_sticks 17 = .ok (.aload_n 0, 1) := by decide +kernel
theorem dX8_sticks_18 : decode cX8_sticks 18 = .ok (.iload_n 1, 1) := by decide +kernel
theorem dX8_sticks_19 : decode cX8_sticks 19 = .ok (.invokevirtual 105, 3) := by decide +kernel
theorem dX8_sticks_22 : decode cX8_sticks 22 = .ok (.iconst 1, 1) := by decide +kernel
theorem dX8_sticks_23 : decode cX8_sticks 23 = .ok (.isub, 1) := by decide +kernel
theorem dX8_sticks_24 : decode cX8_sticks 24 = .ok (.if_icmp .ne 7, 3) := by decide +kernel
theorem dX8_sticks_27 : decode cX8_sticks 27 = .ok (.iconst 1, 1) := by decide +kernel
theorem dX8_sticks_28 : decode cX8_sticks 28 = .ok (.goto 4, 3) := by decide +kernel
theorem dX8_sticks_31 : decode cX8_sticks 31 = .ok (.iconst 0, 1) := by decide +kernel
theorem dX8_sticks_32 : decode cX8_sticks 32 = .ok (.istore 4, 2) := by decide +kernel
theorem dX8_sticks_34 : decode cX8_sticks 34 = .ok (.aload_n 0, 1) := by decide +kernel
theorem dX8_sticks_35 : decode cX8_sticks 35 = .ok (.iload_n 1, 1) := by decide +kernel
theorem dX8_sticks_36 : decode cX8_sticks 36 = .ok (.invokevirtual 111, 3) := by decide +kernel
theorem dX8_sticks_39 : decode cX8_sticks 39 = .ok (.ifCond .eq 7, 3) := by decide +kernel
theorem dX8_sticks_42 : decode cX8_sticks 42 = .ok (.iload_n 3, 1) := by decide +kernel
theorem dX8_sticks_43 : decode cX8_sticks 43 = .ok (.goto 15, 3) := by decide +kernel
theorem dX8_sticks_46 : decode cX8_sticks 46 = .ok (.iload 4, 2) := by decide +kernel
theorem dX8_sticks_48 : decode cX8_sticks 48 = .ok (.ifCond .eq 9, 3) := by decide +kernel
theorem dX8_sticks_51 : decode cX8_sticks 51 = .ok (.iload_n 3, 1) := by decide +kernel
theorem dX8_sticks_52 : decode cX8_sticks 52 = .ok (.iconst 1, 1) := by decide +kernel
theorem dX8_sticks_53 : decode cX8_sticks 53 = .ok (.isub, 1) := by decide +kernel
theorem dX8_sticks_54 : decode cX8_sticks 54 = .ok (.goto 4, 3) := by decide +kernel
theorem dX8_sticks_57 : decode cX8_sticks 57 = .ok (.iload_n 3, 1) := by decide +kernel
theorem dX8_sticks_58 : decode cX8_sticks 58 = .ok (.ireturn, 1) := by decide +kernel
theorem dX8_endOf_0 : decode cX8_endOf 0 = .ok (.iload_n 3, 1) := by decide +kernel
theorem dX8_endOf_1 : decode cX8_endOf 1 = .ok (.iconst 1, 1) := by decide +kernel
theorem dX8_endOf_2 : decode cX8_endOf 2 = .ok (.iadd, 1) := by decide +kernel
theorem dX8_endOf_3 : decode cX8_endOf 3 = .ok (.iload_n 2, 1) := by decide +kernel
theorem dX8_endOf_4 : decode cX8_endOf 4 = .ok (.ishl, 1) := by decide +kernel
theorem dX8_endOf_5 : decode cX8_endOf 5 = .ok (.istore 4, 2) := by decide +kernel
theorem dX8_endOf_7 : decode cX8_endOf 7 = .ok (.iload 4, 2) := by decide +kernel
theorem dX8_endOf_9 : decode cX8_endOf 9 = .ok (.aload_n 0, 1) := by decide +kernel
theorem dX8_endOf_10 : decode cX8_endOf 10 = .ok (.iload_n 1, 1) := by decide +kernel
theorem dX8_endOf_11 : decode cX8_endOf 11 = .ok (.invokevirtual 105, 3) := by decide +kernel
theorem dX8_endOf_14 : decode cX8_endOf 14 = .ok (.if_icmp .ge 8, 3) := by decide +kernel
theorem dX8_endOf_17 : decode cX8_endOf 17 = .ok (.iload 4, 2) := by decide +kernel
theorem dX8_endOf_19 : decode cX8_endOf 19 = .ok (.goto 22, 3) := by decide +kernel
theorem dX8_endOf_22 : decode cX8_endOf 22 = .ok (.aload_n 0, 1) := by decide +kernel
theorem dX8_endOf_23 : decode cX8_endOf 23 = .ok (.iload_n 1, 1) := by decide +kernel
theorem dX8_endOf_24 : decode cX8_endOf 24 = .ok (.invokevirtual 111, 3) := by decide +kernel
theorem dX8_endOf_27 : decode cX8_endOf 27 = .ok (.ifCond .eq 7, 3) := by decide +kernel
theorem dX8_endOf_30 : decode cX8_endOf 30 = .ok (.iconst 0, 1) := by decide +kernel
theorem dX8_endOf_31 : decode cX8_endOf 31 = .ok (.goto 10, 3) := by decide +kernel
theorem dX8_endOf_34 : decode cX8_endOf 34 = .ok (.aload_n 0, 1) := by decide +kernel
theorem dX8_endOf_35 : decode cX8_endOf 35 = .ok (.iload_n 1, 1) := by decide +kernel
theorem dX8_endOf_36 : decode cX8_endOf 36 = .ok (.invokevirtual 105, 3) := by decide +kernel
theorem dX8_endOf_39 : decode cX8_endOf 39 = .ok (.iconst 1, 1) := by decide +kernel
theorem dX8_endOf_40 : decode cX8_endOf 40 = .ok (.isub, 1) := by decide +kernel
theorem dX8_endOf_41 : decode cX8_endOf 41 = .ok (.ireturn, 1) := by decide +kernel
theorem dX8_lengthOf_0 : decode cX8_lengthOf 0 = .ok (.aload_n 0, 1) := by decide +kernel
theorem dX8_lengthOf_1 : decode cX8_lengthOf 1 = .ok (.iload_n 1, 1) := by decide +kernel
theorem dX8_lengthOf_2 : decode cX8_lengthOf 2 = .ok (.iload_n 3, 1) := by decide +kernel
theorem dX8_lengthOf_3 : decode cX8_lengthOf 3 = .ok (.iload_n 2, 1) := by decide +kernel
theorem dX8_lengthOf_4 : decode cX8_lengthOf 4 = .ok (.ishl, 1) := by decide +kernel
theorem dX8_lengthOf_5 : decode cX8_lengthOf 5 = .ok (.aload_n 0, 1) := by decide +kernel
theorem dX8_lengthOf_6 : decode cX8_lengthOf 6 = .ok (.iload_n 1, 1) := by decide +kernel
theorem dX8_lengthOf_7 : decode cX8_lengthOf 7 = .ok (.iload_n 2, 1) := by decide +kernel
theorem dX8_lengthOf_8 : decode cX8_lengthOf 8 = .ok (.iload_n 3, 1) := by decide +kernel
theorem dX8_lengthOf_9 : decode cX8_lengthOf 9 = .ok (.invokevirtual 137, 3) := by decide +kernel
theorem dX8_lengthOf_12 : decode cX8_lengthOf 12 = .ok (.iload 4, 2) := by decide +kernel
theorem dX8_lengthOf_14 : decode cX8_lengthOf 14 = .ok (.invokevirtual 141, 3) := by decide +kernel
theorem dX8_lengthOf_17 : decode cX8_lengthOf 17 = .ok (.ireturn, 1) := by decide +kernel
theorem dX8_length_0 : decode cX8_length 0 = .ok (.iconst 0, 1) := by decide +kernel
theorem dX8_length_1 : decode cX8_length 1 = .ok (.istore 4, 2) := by decide +kernel
theorem dX8_length_3 : decode cX8_length 3 = .ok (.iconst 0, 1) := by decide +kernel
theorem dX8_length_4 : decode cX8_length 4 = .ok (.istore 5, 2) := by decide +kernel
theorem dX8_length_6 : decode cX8_length 6 = .ok (.iload 5, 2) := by decide +kernel
theorem dX8_length_8 : decode cX8_length 8 = .ok (.aload_n 0, 1) := by decide +kernel
theorem dX8_length_9 : decode cX8_length 9 = .ok (.iload_n 1, 1) := by decide +kernel
theorem dX8_length_10 : decode cX8_length 10 = .ok (.iload_n 2, 1) := by decide +kernel
theorem dX8_length_11 : decode cX8_length 11 = .ok (.invokevirtual 145, 3) := by decide +kernel
theorem dX8_length_14 : decode cX8_length 14 = .ok (.if_icmp .ge 23, 3) := by decide +kernel
theorem dX8_length_17 : decode cX8_length 17 = .ok (.iload 4, 2) := by decide +kernel
theorem dX8_length_19 : decode cX8_length 19 = .ok (.aload_n 0, 1) := by decide +kernel
theorem dX8_length_20 : decode cX8_length 20 = .ok (.iload_n 1, 1) := by decide +kernel
theorem dX8_length_21 : decode cX8_length 21 = .ok (.iload_n 2, 1) := by decide +kernel
theorem dX8_length_22 : decode cX8_length 22 = .ok (.iload 5, 2) := by decide +kernel
theorem dX8_length_24 : decode cX8_length 24 = .ok (.iload_n 3, 1) := by decide +kernel
theorem dX8_length_25 : decode cX8_length 25 = .ok (.invokevirtual 148, 3) := by decide +kernel
theorem dX8_length_28 : decode cX8_length 28 = .ok (.iadd, 1) := by decide +kernel
theorem dX8_length_29 : decode cX8_length 29 = .ok (.istore 4, 2) := by decide +kernel
theorem dX8_length_31 : decode cX8_length 31 = .ok (.iinc 5 1, 3) := by decide +kernel
theorem dX8_length_34 : decode cX8_length 34 = .ok (.goto (-28), 3) := by decide +kernel
theorem dX8_length_37 : decode cX8_length 37 = .ok (.iload 4, 2) := by decide +kernel
theorem dX8_length_39 : decode cX8_length 39 = .ok (.ireturn, 1) := by decide +kernel
theorem dX8_lengthNow_0 : decode cX8_lengthNow 0 = .ok (.aload_n 0, 1) := by decide +kernel
theorem dX8_lengthNow_1 : decode cX8_lengthNow 1 = .ok (.iload_n 1, 1) := by decide +kernel
theorem dX8_lengthNow_2 : decode cX8_lengthNow 2 = .ok (.iload_n 2, 1) := by decide +kernel
theorem dX8_lengthNow_3 : decode cX8_lengthNow 3 = .ok (.aload_n 0, 1) := by decide +kernel
theorem dX8_lengthNow_4 : decode cX8_lengthNow 4 = .ok (.invokevirtual 151, 3) := by decide +kernel
theorem dX8_lengthNow_7 : decode cX8_lengthNow 7 = .ok (.invokevirtual 155, 3) := by decide +kernel
theorem dX8_lengthNow_10 : decode cX8_lengthNow 10 = .ok (.ireturn, 1) := by decide +kernel
theorem dX8_coastCount_0 : decode cX8_coastCount 0 = .ok (.aload_n 0, 1) := by decide +kernel
theorem dX8_coastCount_1 : decode cX8_coastCount 1 = .ok (.iconst 0, 1) := by decide +kernel
theorem dX8_coastCount_2 : decode cX8_coastCount 2 = .ok (.putfield 86, 3) := by decide +kernel
theorem dX8_coastCount_5 : decode cX8_coastCount 5 = .ok (.aload_n 0, 1) := by decide +kernel
theorem dX8_coastCount_6 : decode cX8_coastCount 6 = .ok (.getfield 25, 3) := by decide +kernel
theorem dX8_coastCount_9 : decode cX8_coastCount 9 = .ok (.iconst 1, 1) := by decide +kernel
theorem dX8_coastCount_10 : decode cX8_coastCount 10 = .ok (.iaload, 1) := by decide +kernel
theorem dX8_coastCount_11 : decode cX8_coastCount 11 = .ok (.ireturn, 1) := by decide +kernel
theorem dX8_usesKingMetric_0 : decode cX8_usesKingMetric 0 = .ok (.aload_n 0, 1) := by decide +kernel
theorem dX8_usesKingMetric_1 : decode cX8_usesKingMetric 1 = .ok (.iconst 0, 1) := by decide +kernel
theorem dX8_usesKingMetric_2 : decode cX8_usesKingMetric 2 = .ok (.putfield 86, 3) := by decide +kernel
theorem dX8_usesKingMetric_5 : decode cX8_usesKingMetric 5 = .ok (.aload_n 0, 1) := by decide +kernel
theorem dX8_usesKingMetric_6 : decode cX8_usesKingMetric 6 = .ok (.invokevirtual 151, 3) := by decide +kernel
theorem dX8_usesKingMetric_9 : decode cX8_usesKingMetric 9 = .ok (.ireturn, 1) := by decide +kernel
theorem dX8_isIsland_0 : decode cX8_isIsland 0 = .ok (.aload_n 0, 1) := by decide +kernel
theorem dX8_isIsland_1 : decode cX8_isIsland 1 = .ok (.aload_n 0, 1) := by decide +kernel
theorem dX8_isIsland_2 : decode cX8_isIsland 2 = .ok (.iload_n 1, 1) := by decide +kernel
theorem dX8_isIsland_3 : decode cX8_isIsland 3 = .ok (.invokevirtual 101, 3) := by decide +kernel
theorem dX8_isIsland_6 : decode cX8_isIsland 6 = .ok (.invokevirtual 89, 3) := by decide +kernel
theorem dX8_isIsland_9 : decode cX8_isIsland 9 = .ok (.ifCond .ne 15, 3) := by decide +kernel
theorem dX8_isIsland_12 : decode cX8_isIsland 12 = .ok (.aload_n 0, 1) := by decide +kernel
theorem dX8_isIsland_13 : decode cX8_isIsland 13 = .ok (.iload_n 1, 1) := by decide +kernel
theorem dX8_isIsland_14 : decode cX8_isIsland 14 = .ok (.invokevirtual 111, 3) := by decide +kernel
theorem dX8_isIsland_17 : decode cX8_isIsland 17 = .ok (.ifCond .eq 7, 3) := by decide +kernel
theorem dX8_isIsland_20 : decode cX8_isIsland 20 = .ok (.iconst 1, 1) := by decide +kernel
theorem dX8_isIsland_21 : decode cX8_isIsland 21 = .ok (.goto 4, 3) := by decide +kernel
theorem dX8_isIsland_24 : decode cX8_isIsland 24 = .ok (.iconst 0, 1) := by decide +kernel
theorem dX8_isIsland_25 : decode cX8_isIsland 25 = .ok (.ireturn, 1) := by decide +kernel
theorem dX8_pointCount_0 : decode cX8_pointCount 0 = .ok (.aload_n 0, 1) := by decide +kernel
theorem dX8_pointCount_1 : decode cX8_pointCount 1 = .ok (.aload_n 0, 1) := by decide +kernel
theorem dX8_pointCount_2 : decode cX8_pointCount 2 = .ok (.iload_n 1, 1) := by decide +kernel
theorem dX8_pointCount_3 : decode cX8_pointCount 3 = .ok (.invokevirtual 101, 3) := by decide +kernel
theorem dX8_pointCount_6 : decode cX8_pointCount 6 = .ok (.invokevirtual 89, 3) := by decide +kernel
theorem dX8_pointCount_9 : decode cX8_pointCount 9 = .ok (.ifCond .eq 7, 3) := by decide +kernel
theorem dX8_pointCount_12 : decode cX8_pointCount 12 = .ok (.iconst 0, 1) := by decide +kernel
theorem dX8_pointCount_13 : decode cX8_pointCount 13 = .ok (.goto 8, 3) := by decide +kernel
theorem dX8_pointCount_16 : decode cX8_pointCount 16 = .ok (.aload_n 0, 1) := by decide +kernel
theorem dX8_pointCount_17 : decode cX8_pointCount 17 = .ok (.iload_n 1, 1) := by decide +kernel
theorem dX8_pointCount_18 : decode cX8_pointCount 18 = .ok (.invokevirtual 105, 3) := by decide +kernel
theorem dX8_pointCount_21 : decode cX8_pointCount 21 = .ok (.ireturn, 1) := by decide +kernel
theorem dX8_pointX_0 : decode cX8_pointX 0 = .ok (.aload_n 0, 1) := by decide +kernel
theorem dX8_pointX_1 : decode cX8_pointX 1 = .ok (.aload_n 0, 1) := by decide +kernel
theorem dX8_pointX_2 : decode cX8_pointX 2 = .ok (.iload_n 1, 1) := by decide +kernel
theorem dX8_pointX_3 : decode cX8_pointX 3 = .ok (.iload_n 2, 1) := by decide +kernel
theorem dX8_pointX_4 : decode cX8_pointX 4 = .ok (.invokevirtual 158, 3) := by decide +kernel
theorem dX8_pointX_7 : decode cX8_pointX 7 = .ok (.invokevirtual 89, 3) := by decide +kernel
theorem dX8_pointX_10 : decode cX8_pointX 10 = .ok (.ifCond .eq 7, 3) := by decide +kernel
theorem dX8_pointX_13 : decode cX8_pointX 13 = .ok (.iconst 0, 1) := by decide +kernel
theorem dX8_pointX_14 : decode cX8_pointX 14 = .ok (.goto 9, 3) := by decide +kernel
theorem dX8_pointX_17 : decode cX8_pointX 17 = .ok (.aload_n 0, 1) := by decide +kernel
theorem dX8_pointX_18 : decode cX8_pointX 18 = .ok (.iload_n 1, 1) := by decide +kernel
theorem dX8_pointX_19 : decode cX8_pointX 19 = .ok (.iload_n 2, 1) := by decide +kernel
theorem dX8_pointX_20 : decode cX8_pointX 20 = .ok (.invokevirtual 126, 3) := by decide +kernel
theorem dX8_pointX_23 : decode cX8_pointX 23 = .ok (.ireturn, 1) := by decide +kernel
theorem dX8_pointY_0 : decode cX8_pointY 0 = .ok (.aload_n 0, 1) := by decide +kernel
theorem dX8_pointY_1 : decode cX8_pointY 1 = .ok (.aload_n 0, 1) := by decide +kernel
theorem dX8_pointY_2 : decode cX8_pointY 2 = .ok (.iload_n 1, 1) := by decide +kernel
theorem dX8_pointY_3 : decode cX8_pointY 3 = .ok (.iload_n 2, 1) := by decide +kernel
theorem dX8_pointY_4 : decode cX8_pointY 4 = .ok (.invokevirtual 158, 3) := by decide +kernel
theorem dX8_pointY_7 : decode cX8_pointY 7 = .ok (.invokevirtual 89, 3) := by decide +kernel
theorem dX8_pointY_10 : decode cX8_pointY 10 = .ok (.ifCond .eq 7, 3) := by decide +kernel
theorem dX8_pointY_13 : decode cX8_pointY 13 = .ok (.iconst 0, 1) := by decide +kernel
theorem dX8_pointY_14 : decode cX8_pointY 14 = .ok (.goto 9, 3) := by decide +kernel
theorem dX8_pointY_17 : decode cX8_pointY 17 = .ok (.aload_n 0, 1) := by decide +kernel
theorem dX8_pointY_18 : decode cX8_pointY 18 = .ok (.iload_n 1, 1) := by decide +kernel
theorem dX8_pointY_19 : decode cX8_pointY 19 = .ok (.iload_n 2, 1) := by decide +kernel
theorem dX8_pointY_20 : decode cX8_pointY 20 = .ok (.invokevirtual 130, 3) := by decide +kernel
theorem dX8_pointY_23 : decode cX8_pointY 23 = .ok (.ireturn, 1) := by decide +kernel
theorem dX8_pointDistance_0 : decode cX8_pointDistance 0 = .ok (.aload_n 0, 1) := by decide +kernel
theorem dX8_pointDistance_1 : decode cX8_pointDistance 1 = .ok (.aload_n 0, 1) := by decide +kernel
theorem dX8_pointDistance_2 : decode cX8_pointDistance 2 = .ok (.iload_n 1, 1) := by decide +kernel
theorem dX8_pointDistance_3 : decode cX8_pointDistance 3 = .ok (.iload_n 2, 1) := by decide +kernel
theorem dX8_pointDistance_4 : decode cX8_pointDistance 4 = .ok (.invokevirtual 158, 3) := by decide +kernel
theorem dX8_pointDistance_7 : decode cX8_pointDistance 7 = .ok (.ifCond .eq 16, 3) := by decide +kernel
theorem dX8_pointDistance_10 : decode cX8_pointDistance 10 = .ok (.aload_n 0, 1) := by decide +kernel
theorem dX8_pointDistance_11 : decode cX8_pointDistance 11 = .ok (.iload_n 1, 1) := by decide +kernel
theorem dX8_pointDistance_12 : decode cX8_pointDistance 12 = .ok (.iload_n 3, 1) := by decide +kernel
theorem dX8_pointDistance_13 : decode cX8_pointDistance 13 = .ok (.invokevirtual 158, 3) := by decide +kernel
theorem dX8_pointDistance_16 : decode cX8_pointDistance 16 = .ok (.ifCond .eq 7, 3) := by decide +kernel
theorem dX8_pointDistance_19 : decode cX8_pointDistance 19 = .ok (.iconst 1, 1) := by decide +kernel
theorem dX8_pointDistance_20 : decode cX8_pointDistance 20 = .ok (.goto 4, 3) := by decide +kernel
theorem dX8_pointDistance_23 : decode cX8_pointDistance 23 = .ok (.iconst 0, 1) := by decide +kernel
theorem dX8_pointDistance_24 : decode cX8_pointDistance 24 = .ok (.invokevirtual 89, 3) := by decide +kernel
theorem dX8_pointDistance_27 : decode cX8_pointDistance 27 = .ok (.ifCond .eq 7, 3) := by decide +kernel
theorem dX8_pointDistance_30 : decode cX8_pointDistance 30 = .ok (.iconst 0, 1) := by decide +kernel
theorem dX8_pointDistance_31 : decode cX8_pointDistance 31 = .ok (.goto 14, 3) := by decide +kernel
theorem dX8_pointDistance_34 : decode cX8_pointDistance 34 = .ok (.aload_n 0, 1) := by decide +kernel
theorem dX8_pointDistance_35 : decode cX8_pointDistance 35 = .ok (.iload_n 1, 1) := by decide +kernel
theorem dX8_pointDistance_36 : decode cX8_pointDistance 36 = .ok (.iload_n 2, 1) := by decide +kernel
theorem dX8_pointDistance_37 : decode cX8_pointDistance 37 = .ok (.iload_n 3, 1) := by decide +kernel
theorem dX8_pointDistance_38 : decode cX8_pointDistance 38 = .ok (.aload_n 0, 1) := by decide +kernel
theorem dX8_pointDistance_39 : decode cX8_pointDistance 39 = .ok (.invokevirtual 151, 3) := by decide +kernel
theorem dX8_pointDistance_42 : decode cX8_pointDistance 42 = .ok (.invokevirtual 141, 3) := by decide +kernel
theorem dX8_pointDistance_45 : decode cX8_pointDistance 45 = .ok (.ireturn, 1) := by decide +kernel
theorem dX8_nearestPoint_0 : decode cX8_nearestPoint 0 = .ok (.aload_n 0, 1) := by decide +kernel
theorem dX8_nearestPoint_1 : decode cX8_nearestPoint 1 = .ok (.aload_n 0, 1) := by decide +kernel
theorem dX8_nearestPoint_2 : decode cX8_nearestPoint 2 = .ok (.iload_n 1, 1) := by decide +kernel
theorem dX8_nearestPoint_3 : decode cX8_nearestPoint 3 = .ok (.invokevirtual 101, 3) := by decide +kernel
theorem dX8_nearestPoint_6 : decode cX8_nearestPoint 6 = .ok (.iload_n 2, 1) := by decide +kernel
theorem dX8_nearestPoint_7 : decode cX8_nearestPoint 7 = .ok (.iload_n 3, 1) := by decide +kernel
theorem dX8_nearestPoint_8 : decode cX8_nearestPoint 8 = .ok (.invokestatic 162, 3) := by decide +kernel
theorem dX8_nearestPoint_11 : decode cX8_nearestPoint 11 = .ok (.invokevirtual 165, 3) := by decide +kernel
theorem dX8_nearestPoint_14 : decode cX8_nearestPoint 14 = .ok (.ifCond .eq 5, 3) := by decide +kernel
theorem dX8_nearestPoint_17 : decode cX8_nearestPoint 17 = .ok (.iconst 0, 1) := by decide +kernel
theorem dX8_nearestPoint_18 : decode cX8_nearestPoint 18 = .ok (.ireturn, 1) := by decide +kernel
theorem dX8_nearestPoint_19 : decode cX8_nearestPoint 19 = .ok (.iconst (-1), 1) := by decide +kernel
theorem dX8_nearestPoint_20 : decode cX8_nearestPoint 20 = .ok (.istore 4, 2) := by decide +kernel
theorem dX8_nearestPoint_22 : decode cX8_nearestPoint 22 = .ok (.iconst 0, 1) := by decide +kernel
theorem dX8_nearestPoint_23 : decode cX8_nearestPoint 23 = .ok (.istore 5, 2) := by decide +kernel
theorem dX8_nearestPoint_25 : decode cX8_nearestPoint 25 = .ok (.iconst 0, 1) := by decide +kernel
theorem dX8_nearestPoint_26 : decode cX8_nearestPoint 26 = .ok (.istore 6, 2) := by decide +kernel
theorem dX8_nearestPoint_28 : decode cX8_nearestPoint 28 = .ok (.iload 6, 2) := by decide +kernel
theorem dX8_nearestPoint_30 : decode cX8_nearestPoint 30 = .ok (.aload_n 0, 1) := by decide +kernel
theorem dX8_nearestPoint_31 : decode cX8_nearestPoint 31 = .ok (.iload_n 1, 1) := by decide +kernel
theorem dX8_nearestPoint_32 : decode cX8_nearestPoint 32 = .ok (.invokevirtual 105, 3) := by decide +kernel
theorem dX8_nearestPoint_35 : decode cX8_nearestPoint 35 = .ok (.if_icmp .ge 57, 3) := by decide +kernel
theorem dX8_nearestPoint_38 : decode cX8_nearestPoint 38 = .ok (.aload_n 0, 1) := by decide +kernel
theorem dX8_nearestPoint_39 : decode cX8_nearestPoint 39 = .ok (.iload_n 1, 1) := by decide +kernel
theorem dX8_nearestPoint_40 : decode cX8_nearestPoint 40 = .ok (.iload 6, 2) := by decide +kernel
theorem dX8_nearestPoint_42 : decode cX8_nearestPoint 42 = .ok (.invokevirtual 126, 3) := by decide +kernel
theorem dX8_nearestPoint_45 : decode cX8_nearestPoint 45 = .ok (.iload_n 2, 1) := by decide +kernel
theorem dX8_nearestPoint_46 : decode cX8_nearestPoint 46 = .ok (.isub, 1) := by decide +kernel
theorem dX8_nearestPoint_47 : decode cX8_nearestPoint 47 = .ok (.aload_n 0, 1) := by decide +kernel
theorem dX8_nearestPoint_48 : decode cX8_nearestPoint 48 = .ok (.iload_n 1, 1) := by decide +kernel
theorem dX8_nearestPoint_49 : decode cX8_nearestPoint 49 = .ok (.iload 6, 2) := by decide +kernel
theorem dX8_nearestPoint_51 : decode cX8_nearestPoint 51 = .ok (.invokevirtual 130, 3) := by decide +kernel
theorem dX8_nearestPoint_54 : decode cX8_nearestPoint 54 = .ok (.iload_n 3, 1) := by decide +kernel
theorem dX8_nearestPoint_55 : decode cX8_nearestPoint 55 = .ok (.isub, 1) := by decide +kernel
theorem dX8_nearestPoint_56 : decode cX8_nearestPoint 56 = .ok (.aload_n 0, 1) := by decide +kernel
theorem dX8_nearestPoint_57 : decode cX8_nearestPoint 57 = .ok (.invokevirtual 151, 3) := by decide +kernel
theorem dX8_nearestPoint_60 : decode cX8_nearestPoint 60 = .ok (.invokestatic 133, 3) := by decide +kernel
theorem dX8_nearestPoint_63 : decode cX8_nearestPoint 63 = .ok (.istore 7, 2) := by decide +kernel
theorem dX8_nearestPoint_65 : decode cX8_nearestPoint 65 = .ok (.iload 4, 2) := by decide +kernel
theorem dX8_nearestPoint_67 : decode cX8_nearestPoint 67 = .ok (.iconst (-1), 1) := by decide +kernel
theorem dX8_nearestPoint_68 : decode cX8_nearestPoint 68 = .ok (.if_icmp .eq 10, 3) := by decide +kernel
theorem dX8_nearestPoint_71 : decode cX8_nearestPoint 71 = .ok (.iload 7, 2) := by decide +kernel
theorem dX8_nearestPoint_73 : decode cX8_nearestPoint 73 = .ok (.iload 5, 2) := by decide +kernel
theorem dX8_nearestPoint_75 : decode cX8_nearestPoint 75 = .ok (.if_icmp .ge 11, 3) := by decide +kernel
theorem dX8_nearestPoint_78 : decode cX8_nearestPoint 78 = .ok (.iload 6, 2) := by decide +kernel
theorem dX8_nearestPoint_80 : decode cX8_nearestPoint 80 = .ok (.istore 4, 2) := by decide +kernel
theorem dX8_nearestPoint_82 : decode cX8_nearestPoint 82 = .ok (.iload 7, 2) := by decide +kernel
theorem dX8_nearestPoint_84 : decode cX8_nearestPoint 84 = .ok (.istore 5, 2) := by decide +kernel
theorem dX8_nearestPoint_86 : decode cX8_nearestPoint 86 = .ok (.iinc 6 1, 3) := by decide +kernel
theorem dX8_nearestPoint_89 : decode cX8_nearestPoint 89 = .ok (.goto (-61), 3) := by decide +kernel
theorem dX8_nearestPoint_92 : decode cX8_nearestPoint 92 = .ok (.iload 4, 2) := by decide +kernel
theorem dX8_nearestPoint_94 : decode cX8_nearestPoint 94 = .ok (.ireturn, 1) := by decide +kernel
theorem dX8_lacksLevel_0 : decode cX8_lacksLevel 0 = .ok (.aload_n 0, 1) := by decide +kernel
theorem dX8_lacksLevel_1 : decode cX8_lacksLevel 1 = .ok (.aload_n 0, 1) := by decide +kernel
theorem dX8_lacksLevel_2 : decode cX8_lacksLevel 2 = .ok (.iload_n 1, 1) := by decide +kernel
theorem dX8_lacksLevel_3 : decode cX8_lacksLevel 3 = .ok (.invokevirtual 101, 3) := by decide +kernel
theorem dX8_lacksLevel_6 : decode cX8_lacksLevel 6 = .ok (.iload_n 2, 1) := by decide +kernel
theorem dX8_lacksLevel_7 : decode cX8_lacksLevel 7 = .ok (.invokestatic 169, 3) := by decide +kernel
theorem dX8_lacksLevel_10 : decode cX8_lacksLevel 10 = .ok (.invokevirtual 165, 3) := by decide +kernel
theorem dX8_lacksLevel_13 : decode cX8_lacksLevel 13 = .ok (.ireturn, 1) := by decide +kernel
theorem dX8_lacksStick_0 : decode cX8_lacksStick 0 = .ok (.aload_n 0, 1) := by decide +kernel
theorem dX8_lacksStick_1 : decode cX8_lacksStick 1 = .ok (.aload_n 0, 1) := by decide +kernel
theorem dX8_lacksStick_2 : decode cX8_lacksStick 2 = .ok (.iload_n 1, 1) := by decide +kernel
theorem dX8_lacksStick_3 : decode cX8_lacksStick 3 = .ok (.invokevirtual 101, 3) := by decide +kernel
theorem dX8_lacksStick_6 : decode cX8_lacksStick 6 = .ok (.aload_n 0, 1) := by decide +kernel
theorem dX8_lacksStick_7 : decode cX8_lacksStick 7 = .ok (.iload_n 1, 1) := by decide +kernel
theorem dX8_lacksStick_8 : decode cX8_lacksStick 8 = .ok (.invokevirtual 101, 3) := by decide +kernel
theorem dX8_lacksStick_11 : decode cX8_lacksStick 11 = .ok (.ifCond .eq 30, 3) := by decide +kernel
theorem dX8_lacksStick_14 : decode cX8_lacksStick 14 = .ok (.iload_n 2, 1) := by decide +kernel
theorem dX8_lacksStick_15 : decode cX8_lacksStick 15 = .ok (.invokestatic 169, 3) := by decide +kernel
theorem dX8_lacksStick_18 : decode cX8_lacksStick 18 = .ok (.ifCond .eq 23, 3) := by decide +kernel
theorem dX8_lacksStick_21 : decode cX8_lacksStick 21 = .ok (.iload_n 3, 1) := by decide +kernel
theorem dX8_lacksStick_22 : decode cX8_lacksStick 22 = .ok (.iconst 0, 1) := by decide +kernel
theorem dX8_lacksStick_23 : decode cX8_lacksStick 23 = .ok (.aload_n 0, 1) := by decide +kernel
theorem dX8_lacksStick_24 : decode cX8_lacksStick 24 = .ok (.iload_n 1, 1) := by decide +kernel
theorem dX8_lacksStick_25 : decode cX8_lacksStick 25 = .ok (.iload_n 2, 1) := by decide +kernel
theorem dX8_lacksStick_26 : decode cX8_lacksStick 26 = .ok (.invokevirtual 145, 3) := by decide +kernel
theorem dX8_lacksStick_29 : decode cX8_lacksStick 29 = .ok (.iconst 1, 1) := by decide +kernel
theorem dX8_lacksStick_30 : decode cX8_lacksStick 30 = .ok (.isub, 1) := by decide +kernel
theorem dX8_lacksStick_31 : decode cX8_lacksStick 31 = .ok (.invokestatic 93, 3) := by decide +kernel
theorem dX8_lacksStick_34 : decode cX8_lacksStick 34 = .ok (.ifCond .eq 7, 3) := by decide +kernel
theorem dX8_lacksStick_37 : decode cX8_lacksStick 37 = .ok (.iconst 1, 1) := by decide +kernel
theorem dX8_lacksStick_38 : decode cX8_lacksStick 38 = .ok (.goto 4, 3) := by decide +kernel
theorem dX8_lacksStick_41 : decode cX8_lacksStick 41 = .ok (.iconst 0, 1) := by decide +kernel
theorem dX8_lacksStick_42 : decode cX8_lacksStick 42 = .ok (.invokevirtual 165, 3) := by decide +kernel
theorem dX8_lacksStick_45 : decode cX8_lacksStick 45 = .ok (.ireturn, 1) := by decide +kernel
theorem dX8_lengthAt_0 : decode cX8_lengthAt 0 = .ok (.aload_n 0, 1) := by decide +kernel
theorem dX8_lengthAt_1 : decode cX8_lengthAt 1 = .ok (.iload_n 1, 1) := by decide +kernel
theorem dX8_lengthAt_2 : decode cX8_lengthAt 2 = .ok (.iload_n 2, 1) := by decide +kernel
theorem dX8_lengthAt_3 : decode cX8_lengthAt 3 = .ok (.invokevirtual 172, 3) := by decide +kernel
theorem dX8_lengthAt_6 : decode cX8_lengthAt 6 = .ok (.ifCond .eq 7, 3) := by decide +kernel
theorem dX8_lengthAt_9 : decode cX8_lengthAt 9 = .ok (.iconst 0, 1) := by decide +kernel
theorem dX8_lengthAt_10 : decode cX8_lengthAt 10 = .ok (.goto 9, 3) := by decide +kernel
theorem dX8_lengthAt_13 : decode cX8_lengthAt 13 = .ok (.aload_n 0, 1) := by decide +kernel
theorem dX8_lengthAt_14 : decode cX8_lengthAt 14 = .ok (.iload_n 1, 1) := by decide +kernel
theorem dX8_lengthAt_15 : decode cX8_lengthAt 15 = .ok (.iload_n 2, 1) := by decide +kernel
theorem dX8_lengthAt_16 : decode cX8_lengthAt 16 = .ok (.invokevirtual 175, 3) := by decide +kernel
theorem dX8_lengthAt_19 : decode cX8_lengthAt 19 = .ok (.ireturn, 1) := by decide +kernel
theorem dX8_stickCount_0 : decode cX8_stickCount 0 = .ok (.aload_n 0, 1) := by decide +kernel
theorem dX8_stickCount_1 : decode cX8_stickCount 1 = .ok (.iload_n 1, 1) := by decide +kernel
theorem dX8_stickCount_2 : decode cX8_stickCount 2 = .ok (.iload_n 2, 1) := by decide +kernel
theorem dX8_stickCount_3 : decode cX8_stickCount 3 = .ok (.invokevirtual 172, 3) := by decide +kernel
theorem dX8_stickCount_6 : decode cX8_stickCount 6 = .ok (.ifCond .eq 7, 3) := by decide +kernel
theorem dX8_stickCount_9 : decode cX8_stickCount 9 = .ok (.iconst 0, 1) := by decide +kernel
theorem dX8_stickCount_10 : decode cX8_stickCount 10 = .ok (.goto 9, 3) := by decide +kernel
theorem dX8_stickCount_13 : decode cX8_stickCount 13 = .ok (.aload_n 0, 1) := by decide +kernel
theorem dX8_stickCount_14 : decode cX8_stickCount 14 = .ok (.iload_n 1, 1) := by decide +kernel
theorem dX8_stickCount_15 : decode cX8_stickCount 15 = .ok (.iload_n 2, 1) := by decide +kernel
theorem dX8_stickCount_16 : decode cX8_stickCount 16 = .ok (.invokevirtual 145, 3) := by decide +kernel
theorem dX8_stickCount_19 : decode cX8_stickCount 19 = .ok (.ireturn, 1) := by decide +kernel
theorem dX8_stickStart_0 : decode cX8_stickStart 0 = .ok (.aload_n 0, 1) := by decide +kernel
theorem dX8_stickStart_1 : decode cX8_stickStart 1 = .ok (.iload_n 1, 1) := by decide +kernel
theorem dX8_stickStart_2 : decode cX8_stickStart 2 = .ok (.iload_n 2, 1) := by decide +kernel
theorem dX8_stickStart_3 : decode cX8_stickStart 3 = .ok (.iload_n 3, 1) := by decide +kernel
theorem dX8_stickStart_4 : decode cX8_stickStart 4 = .ok (.invokevirtual 178, 3) := by decide +kernel
theorem dX8_stickStart_7 : decode cX8_stickStart 7 = .ok (.ifCond .eq 7, 3) := by decide +kernel
theorem dX8_stickStart_10 : decode cX8_stickStart 10 = .ok (.iconst 0, 1) := by decide +kernel
theorem dX8_stickStart_11 : decode cX8_stickStart 11 = .ok (.goto 6, 3) := by decide +kernel
theorem dX8_stickStart_14 : decode cX8_stickStart 14 = .ok (.iload_n 3, 1) := by decide +kernel
theorem dX8_stickStart_15 : decode cX8_stickStart 15 = .ok (.iload_n 2, 1) := by decide +kernel
theorem dX8_stickStart_16 : decode cX8_stickStart 16 = .ok (.ishl, 1) := by decide +kernel
theorem dX8_stickStart_17 : decode cX8_stickStart 17 = .ok (.ireturn, 1) := by decide +kernel
theorem dX8_stickLength_0 : decode cX8_stickLength 0 = .ok (.aload_n 0, 1) := by decide +kernel
theorem dX8_stickLength_1 : decode cX8_stickLength 1 = .ok (.iload_n 1, 1) := by decide +kernel
theorem dX8_stickLength_2 : decode cX8_stickLength 2 = .ok (.iload_n 2, 1) := by decide +kernel
theorem dX8_stickLength_3 : decode cX8_stickLength 3 = .ok (.iload_n 3, 1) := by decide +kernel
theorem dX8_stickLength_4 : decode cX8_stickLength 4 = .ok (.invokevirtual 178, 3) := by decide +kernel
theorem dX8_stickLength_7 : decode cX8_stickLength 7 = .ok (.ifCond .eq 7, 3) := by decide +kernel
theorem dX8_stickLength_10 : decode cX8_stickLength 10 = .ok (.iconst 0, 1) := by decide +kernel
theorem dX8_stickLength_11 : decode cX8_stickLength 11 = .ok (.goto 14, 3) := by decide +kernel
theorem dX8_stickLength_14 : decode cX8_stickLength 14 = .ok (.aload_n 0, 1) := by decide +kernel
theorem dX8_stickLength_15 : decode cX8_stickLength 15 = .ok (.iload_n 1, 1) := by decide +kernel
theorem dX8_stickLength_16 : decode cX8_stickLength 16 = .ok (.iload_n 2, 1) := by decide +kernel
theorem dX8_stickLength_17 : decode cX8_stickLength 17 = .ok (.iload_n 3, 1) := by decide +kernel
theorem dX8_stickLength_18 : decode cX8_stickLength 18 = .ok (.aload_n 0, 1) := by decide +kernel
theorem dX8_stickLength_19 : decode cX8_stickLength 19 = .ok (.invokevirtual 151, 3) := by decide +kernel
theorem dX8_stickLength_22 : decode cX8_stickLength 22 = .ok (.invokevirtual 148, 3) := by decide +kernel
theorem dX8_stickLength_25 : decode cX8_stickLength 25 = .ok (.ireturn, 1) := by decide +kernel
theorem dX8_longestStick_0 : decode cX8_longestStick 0 = .ok (.aload_n 0, 1) := by decide +kernel
theorem dX8_longestStick_1 : decode cX8_longestStick 1 = .ok (.iload_n 1, 1) := by decide +kernel
theorem dX8_longestStick_2 : decode cX8_longestStick 2 = .ok (.iload_n 2, 1) := by decide +kernel
theorem dX8_longestStick_3 : decode cX8_longestStick 3 = .ok (.invokevirtual 172, 3) := by decide +kernel
theorem dX8_longestStick_6 : decode cX8_longestStick 6 = .ok (.ifCond .eq 5, 3) := by decide +kernel
theorem dX8_longestStick_9 : decode cX8_longestStick 9 = .ok (.iconst 0, 1) := by decide +kernel
theorem dX8_longestStick_10 : decode cX8_longestStick 10 = .ok (.ireturn, 1) := by decide +kernel
theorem dX8_longestStick_11 : decode cX8_longestStick 11 = .ok (.iconst 0, 1) := by decide +kernel
theorem dX8_longestStick_12 : decode cX8_longestStick 12 = .ok (.istore_n 3, 1) := by decide +kernel
theorem dX8_longestStick_13 : decode cX8_longestStick 13 = .ok (.iconst 1, 1) := by decide +kernel
theorem dX8_longestStick_14 : decode cX8_longestStick 14 = .ok (.istore 4, 2) := by decide +kernel
theorem dX8_longestStick_16 : decode cX8_longestStick 16 = .ok (.iload 4, 2) := by decide +kernel
theorem dX8_longestStick_18 : decode cX8_longestStick 18 = .ok (.aload_n 0, 1) := by decide +kernel
theorem dX8_longestStick_19 : decode cX8_longestStick 19 = .ok (.iload_n 1, 1) := by decide +kernel
theorem dX8_longestStick_20 : decode cX8_longestStick 20 = .ok (.iload_n 2, 1) := by decide +kernel
theorem dX8_longestStick_21 : decode cX8_longestStick 21 = .ok (.invokevirtual 145, 3) := by decide +kernel
theorem dX8_longestStick_24 : decode cX8_longestStick 24 = .ok (.if_icmp .ge 54, 3) := by decide +kernel
theorem dX8_longestStick_27 : decode cX8_longestStick 27 = .ok (.aload_n 0, 1) := by decide +kernel
theorem dX8_longestStick_28 : decode cX8_longestStick 28 = .ok (.iload_n 1, 1) := by decide +kernel
theorem dX8_longestStick_29 : decode cX8_longestStick 29 = .ok (.iload_n 2, 1) := by decide +kernel
theorem dX8_longestStick_30 : decode cX8_longestStick 30 = .ok (.iload 4, 2) := by decide +kernel
theorem dX8_longestStick_32 : decode cX8_longestStick 32 = .ok (.aload_n 0, 1) := by decide +kernel
theorem dX8_longestStick_33 : decode cX8_longestStick 33 = .ok (.invokevirtual 151, 3) := by decide +kernel
theorem dX8_longestStick_36 : decode cX8_longestStick 36 = .ok (.invokevirtual 148, 3) := by decide +kernel
theorem dX8_longestStick_39 : decode cX8_longestStick 39 = .ok (.aload_n 0, 1) := by decide +kernel
theorem dX8_longestStick_40 : decode cX8_longestStick 40 = .ok (.iload_n 1, 1) := by decide +kernel
theorem dX8_longestStick_41 : decode cX8_longestStick 41 = .ok (.iload_n 2, 1) := by decide +kernel
theorem dX8_longestStick_42 : decode cX8_longestStick 42 = .ok (.iload_n 3, 1) := by decide +kernel
theorem dX8_longestStick_43 : decode cX8_longestStick 43 = .ok (.aload_n 0, 1) := by decide +kernel
theorem dX8_longestStick_44 : decode cX8_longestStick 44 = .ok (.invokevirtual 151, 3) := by decide +kernel
theorem dX8_longestStick_47 : decode cX8_longestStick 47 = .ok (.invokevirtual 148, 3) := by decide +kernel
theorem dX8_longestStick_50 : decode cX8_longestStick 50 = .ok (.if_icmp .le 7, 3) := by decide +kernel
theorem dX8_longestStick_53 : decode cX8_longestStick 53 = .ok (.iconst 1, 1) := by decide +kernel
theorem dX8_longestStick_54 : decode cX8_longestStick 54 = .ok (.goto 4, 3) := by decide +kernel
theorem dX8_longestStick_57 : decode cX8_longestStick 57 = .ok (.iconst 0, 1) := by decide +kernel
theorem dX8_longestStick_58 : decode cX8_longestStick 58 = .ok (.istore 5, 2) := by decide +kernel
theorem dX8_longestStick_60 : decode cX8_longestStick 60 = .ok (.iload 5, 2) := by decide +kernel
theorem dX8_longestStick_62 : decode cX8_longestStick 62 = .ok (.ifCond .eq 8, 3) := by decide +kernel
theorem dX8_longestStick_65 : decode cX8_longestStick 65 = .ok (.iload 4, 2) := by decide +kernel
theorem dX8_longestStick_67 : decode cX8_longestStick 67 = .ok (.goto 4, 3) := by decide +kernel
theorem dX8_longestStick_70 : decode cX8_longestStick 70 = .ok (.iload_n 3, 1) := by decide +kernel
theorem dX8_longestStick_71 : decode cX8_longestStick 71 = .ok (.istore_n 3, 1) := by decide +kernel
theorem dX8_longestStick_72 : decode cX8_longestStick 72 = .ok (.iinc 4 1, 3) := by decide +kernel
theorem dX8_longestStick_75 : decode cX8_longestStick 75 = .ok (.goto (-59), 3) := by decide +kernel
theorem dX8_longestStick_78 : decode cX8_longestStick 78 = .ok (.iload_n 3, 1) := by decide +kernel
theorem dX8_longestStick_79 : decode cX8_longestStick 79 = .ok (.ireturn, 1) := by decide +kernel
theorem dX8_gain_0 : decode cX8_gain 0 = .ok (.aload_n 0, 1) := by decide +kernel
theorem dX8_gain_1 : decode cX8_gain 1 = .ok (.iload_n 1, 1) := by decide +kernel
theorem dX8_gain_2 : decode cX8_gain 2 = .ok (.iload_n 2, 1) := by decide +kernel
theorem dX8_gain_3 : decode cX8_gain 3 = .ok (.invokevirtual 175, 3) := by decide +kernel
theorem dX8_gain_6 : decode cX8_gain 6 = .ok (.aload_n 0, 1) := by decide +kernel
theorem dX8_gain_7 : decode cX8_gain 7 = .ok (.iload_n 1, 1) := by decide +kernel
theorem dX8_gain_8 : decode cX8_gain 8 = .ok (.iload_n 2, 1) := by decide +kernel
theorem dX8_gain_9 : decode cX8_gain 9 = .ok (.iconst 1, 1) := by decide +kernel
theorem dX8_gain_10 : decode cX8_gain 10 = .ok (.iadd, 1) := by decide +kernel
theorem dX8_gain_11 : decode cX8_gain 11 = .ok (.invokevirtual 175, 3) := by decide +kernel
theorem dX8_gain_14 : decode cX8_gain 14 = .ok (.isub, 1) := by decide +kernel
theorem dX8_gain_15 : decode cX8_gain 15 = .ok (.ireturn, 1) := by decide +kernel
theorem dX8_isFine_0 : decode cX8_isFine 0 = .ok (.iload_n 0, 1) := by decide +kernel
theorem dX8_isFine_1 : decode cX8_isFine 1 = .ok (.iconst 0, 1) := by decide +kernel
theorem dX8_isFine_2 : decode cX8_isFine 2 = .ok (.bipush 6, 2) := by decide +kernel
theorem dX8_isFine_4 : decode cX8_isFine 4 = .ok (.invokestatic 93, 3) := by decide +kernel
theorem dX8_isFine_7 : decode cX8_isFine 7 = .ok (.ireturn, 1) := by decide +kernel
theorem dX8_lengthGain_0 : decode cX8_lengthGain 0 = .ok (.aload_n 0, 1) := by decide +kernel
theorem dX8_lengthGain_1 : decode cX8_lengthGain 1 = .ok (.aload_n 0, 1) := by decide +kernel
theorem dX8_lengthGain_2 : decode cX8_lengthGain 2 = .ok (.iload_n 1, 1) := by decide +kernel
theorem dX8_lengthGain_3 : decode cX8_lengthGain 3 = .ok (.invokevirtual 101, 3) := by decide +kernel
theorem dX8_lengthGain_6 : decode cX8_lengthGain 6 = .ok (.iload_n 2, 1) := by decide +kernel
theorem dX8_lengthGain_7 : decode cX8_lengthGain 7 = .ok (.invokestatic 181, 3) := by decide +kernel
theorem dX8_lengthGain_10 : decode cX8_lengthGain 10 = .ok (.invokevirtual 165, 3) := by decide +kernel
theorem dX8_lengthGain_13 : decode cX8_lengthGain 13 = .ok (.ifCond .eq 7, 3) := by decide +kernel
theorem dX8_lengthGain_16 : decode cX8_lengthGain 16 = .ok (.iconst 0, 1) := by decide +kernel
theorem dX8_lengthGain_17 : decode cX8_lengthGain 17 = .ok (.goto 9, 3) := by decide +kernel
theorem dX8_lengthGain_20 : decode cX8_lengthGain 20 = .ok (.aload_n 0, 1) := by decide +kernel
theorem dX8_lengthGain_21 : decode cX8_lengthGain 21 = .ok (.iload_n 1, 1) := by decide +kernel
theorem dX8_lengthGain_22 : decode cX8_lengthGain 22 = .ok (.iload_n 2, 1) := by decide +kernel
theorem dX8_lengthGain_23 : decode cX8_lengthGain 23 = .ok (.invokevirtual 184, 3) := by decide +kernel
theorem dX8_lengthGain_26 : decode cX8_lengthGain 26 = .ok (.ireturn, 1) := by decide +kernel
theorem dX8_levelOfGreatestGain_0 : decode cX8_levelOfGreatestGain 0 = .ok (.aload_n 0, 1) := by decide +kernel
theorem dX8_levelOfGreatestGain_1 : decode cX8_levelOfGreatestGain 1 = .ok (.aload_n 0, 1) := by decide +kernel
theorem dX8_levelOfGreatestGain_2 : decode cX8_levelOfGreatestGain 2 = .ok (.iload_n 1, 1) := by decide +kernel
theorem dX8_levelOfGreatestGain_3 : decode cX8_levelOfGreatestGain 3 = .ok (.invokevirtual 101, 3) := by decide +kernel
theorem dX8_levelOfGreatestGain_6 : decode cX8_levelOfGreatestGain 6 = .ok (.invokevirtual 89, 3) := by decide +kernel
theorem dX8_levelOfGreatestGain_9 : decode cX8_levelOfGreatestGain 9 = .ok (.ifCond .eq 5, 3) := by decide +kernel
theorem dX8_levelOfGreatestGain_12 : decode cX8_levelOfGreatestGain 12 = .ok (.iconst 0, 1) := by decide +kernel
theorem dX8_levelOfGreatestGain_13 : decode cX8_levelOfGreatestGain 13 = .ok (.ireturn, 1) := by decide +kernel
theorem dX8_levelOfGreatestGain_14 : decode cX8_levelOfGreatestGain 14 = .ok (.iconst 0, 1) := by decide +kernel
theorem dX8_levelOfGreatestGain_15 : decode cX8_levelOfGreatestGain 15 = .ok (.istore_n 2, 1) := by decide +kernel
theorem dX8_levelOfGreatestGain_16 : decode cX8_levelOfGreatestGain 16 = .ok (.iconst 1, 1) := by decide +kernel
theorem dX8_levelOfGreatestGain_17 : decode cX8_levelOfGreatestGain 17 = .ok (.istore_n 3, 1) := by decide +kernel
theorem dX8_levelOfGreatestGain_18 : decode cX8_levelOfGreatestGain 18 = .ok (.iload_n 3, 1) := by decide +kernel
theorem dX8_levelOfGreatestGain_19 : decode cX8_levelOfGreatestGain 19 = .ok (.bipush 7, 2) := by decide +kernel
theorem dX8_levelOfGreatestGain_21 : decode cX8_levelOfGreatestGain 21 = .ok (.if_icmp .ge 30, 3) := by decide +kernel
theorem dX8_levelOfGreatestGain_24 : decode cX8_levelOfGreatestGain 24 = .ok (.aload_n 0, 1) := by decide +kernel
theorem dX8_levelOfGreatestGain_25 : decode cX8_levelOfGreatestGain 25 = .ok (.iload_n 1, 1) := by decide +kernel
theorem dX8_levelOfGreatestGain_26 : decode cX8_levelOfGreatestGain 26 = .ok (.iload_n 3, 1) := by decide +kernel
theorem dX8_levelOfGreatestGain_27 : decode cX8_levelOfGreatestGain 27 = .ok (.invokevirtual 184, 3) := by decide +kernel
theorem dX8_levelOfGreatestGain_30 : decode cX8_levelOfGreatestGain 30 = .ok (.aload_n 0, 1) := by decide +kernel
theorem dX8_levelOfGreatestGain_31 : decode cX8_levelOfGreatestGain 31 = .ok (.iload_n 1, 1) := by decide +kernel
theorem dX8_levelOfGreatestGain_32 : decode cX8_levelOfGreatestGain 32 = .ok (.iload_n 2, 1) := by decide +kernel
theorem dX8_levelOfGreatestGain_33 : decode cX8_levelOfGreatestGain 33 = .ok (.invokevirtual 184, 3) := by decide +kernel
theorem dX8_levelOfGreatestGain_36 : decode cX8_levelOfGreatestGain 36 = .ok (.if_icmp .le 7, 3) := by decide +kernel
theorem dX8_levelOfGreatestGain_39 : decode cX8_levelOfGreatestGain 39 = .ok (.iload_n 3, 1) := by decide +kernel
theorem dX8_levelOfGreatestGain_40 : decode cX8_levelOfGreatestGain 40 = .ok (.goto 4, 3) := by decide +kernel
theorem dX8_levelOfGreatestGain_43 : decode cX8_levelOfGreatestGain 43 = .ok (.iload_n 2, 1) := by decide +kernel
theorem dX8_levelOfGreatestGain_44 : decode cX8_levelOfGreatestGain 44 = .ok (.istore_n 2, 1) := by decide +kernel
theorem dX8_levelOfGreatestGain_45 : decode cX8_levelOfGreatestGain 45 = .ok (.iinc 3 1, 3) := by decide +kernel
theorem dX8_levelOfGreatestGain_48 : decode cX8_levelOfGreatestGain 48 = .ok (.goto (-30), 3) := by decide +kernel
theorem dX8_levelOfGreatestGain_51 : decode cX8_levelOfGreatestGain 51 = .ok (.iload_n 2, 1) := by decide +kernel
theorem dX8_levelOfGreatestGain_52 : decode cX8_levelOfGreatestGain 52 = .ok (.ireturn, 1) := by decide +kernel
theorem dX8_coarsest_0 : decode cX8_coarsest 0 = .ok (.bipush 7, 2) := by decide +kernel
theorem dX8_coarsest_2 : decode cX8_coarsest 2 = .ok (.istore_n 3, 1) := by decide +kernel
theorem dX8_coarsest_3 : decode cX8_coarsest 3 = .ok (.iload_n 3, 1) := by decide +kernel
theorem dX8_coarsest_4 : decode cX8_coarsest 4 = .ok (.ifCond .lt 19, 3) := by decide +kernel
theorem dX8_coarsest_7 : decode cX8_coarsest 7 = .ok (.aload_n 0, 1) := by decide +kernel
theorem dX8_coarsest_8 : decode cX8_coarsest 8 = .ok (.iload_n 1, 1) := by decide +kernel
theorem dX8_coarsest_9 : decode cX8_coarsest 9 = .ok (.iload_n 3, 1) := by decide +kernel
theorem dX8_coarsest_10 : decode cX8_coarsest 10 = .ok (.invokevirtual 175, 3) := by decide +kernel
theorem dX8_coarsest_13 : decode cX8_coarsest 13 = .ok (.iload_n 2, 1) := by decide +kernel
theorem dX8_coarsest_14 : decode cX8_coarsest 14 = .ok (.if_icmp .ge 9, 3) := by decide +kernel
theorem dX8_coarsest_17 : decode cX8_coarsest 17 = .ok (.iinc 3 (-1), 3) := by decide +kernel
theorem dX8_coarsest_20 : decode cX8_coarsest 20 = .ok (.goto (-17), 3) := by decide +kernel
theorem dX8_coarsest_23 : decode cX8_coarsest 23 = .ok (.iload_n 3, 1) := by decide +kernel
theorem dX8_coarsest_24 : decode cX8_coarsest 24 = .ok (.ireturn, 1) := by decide +kernel
theorem dX8_coarsestLevelFor_0 : decode cX8_coarsestLevelFor 0 = .ok (.aload_n 0, 1) := by decide +kernel
theorem dX8_coarsestLevelFor_1 : decode cX8_coarsestLevelFor 1 = .ok (.aload_n 0, 1) := by decide +kernel
theorem dX8_coarsestLevelFor_2 : decode cX8_coarsestLevelFor 2 = .ok (.iload_n 1, 1) := by decide +kernel
theorem dX8_coarsestLevelFor_3 : decode cX8_coarsestLevelFor 3 = .ok (.invokevirtual 101, 3) := by decide +kernel
theorem dX8_coarsestLevelFor_6 : decode cX8_coarsestLevelFor 6 = .ok (.iload_n 2, 1) := by decide +kernel
theorem dX8_coarsestLevelFor_7 : decode cX8_coarsestLevelFor 7 = .ok (.ifCond .lt 7, 3) := by decide +kernel
theorem dX8_coarsestLevelFor_10 : decode cX8_coarsestLevelFor 10 = .ok (.iconst 1, 1) := by decide +kernel
theorem dX8_coarsestLevelFor_11 : decode cX8_coarsestLevelFor 11 = .ok (.goto 4, 3) := by decide +kernel
theorem dX8_coarsestLevelFor_14 : decode cX8_coarsestLevelFor 14 = .ok (.iconst 0, 1) := by decide +kernel
theorem dX8_coarsestLevelFor_15 : decode cX8_coarsestLevelFor 15 = .ok (.invokevirtual 165, 3) := by decide +kernel
theorem dX8_coarsestLevelFor_18 : decode cX8_coarsestLevelFor 18 = .ok (.ifCond .eq 7, 3) := by decide +kernel
theorem dX8_coarsestLevelFor_21 : decode cX8_coarsestLevelFor 21 = .ok (.iconst 0, 1) := by decide +kernel
theorem dX8_coarsestLevelFor_22 : decode cX8_coarsestLevelFor 22 = .ok (.goto 9, 3) := by decide +kernel
theorem dX8_coarsestLevelFor_25 : decode cX8_coarsestLevelFor 25 = .ok (.aload_n 0, 1) := by decide +kernel
theorem dX8_coarsestLevelFor_26 : decode cX8_coarsestLevelFor 26 = .ok (.iload_n 1, 1) := by decide +kernel
theorem dX8_coarsestLevelFor_27 : decode cX8_coarsestLevelFor 27 = .ok (.iload_n 2, 1) := by decide +kernel
theorem dX8_coarsestLevelFor_28 : decode cX8_coarsestLevelFor 28 = .ok (.invokevirtual 187, 3) := by decide +kernel
theorem dX8_coarsestLevelFor_31 : decode cX8_coarsestLevelFor 31 = .ok (.ireturn, 1) := by decide +kernel
theorem dX8_coarsestExactLevel_0 : decode cX8_coarsestExactLevel 0 = .ok (.aload_n 0, 1) := by decide +kernel
theorem dX8_coarsestExactLevel_1 : decode cX8_coarsestExactLevel 1 = .ok (.aload_n 0, 1) := by decide +kernel
theorem dX8_coarsestExactLevel_2 : decode cX8_coarsestExactLevel 2 = .ok (.iload_n 1, 1) := by decide +kernel
theorem dX8_coarsestExactLevel_3 : decode cX8_coarsestExactLevel 3 = .ok (.invokevirtual 101, 3) := by decide +kernel
theorem dX8_coarsestExactLevel_6 : decode cX8_coarsestExactLevel 6 = .ok (.invokevirtual 89, 3) := by decide +kernel
theorem dX8_coarsestExactLevel_9 : decode cX8_coarsestExactLevel 9 = .ok (.ifCond .eq 7, 3) := by decide +kernel
theorem dX8_coarsestExactLevel_12 : decode cX8_coarsestExactLevel 12 = .ok (.iconst 0, 1) := by decide +kernel
theorem dX8_coarsestExactLevel_13 : decode cX8_coarsestExactLevel 13 = .ok (.goto 14, 3) := by decide +kernel
theorem dX8_coarsestExactLevel_16 : decode cX8_coarsestExactLevel 16 = .ok (.aload_n 0, 1) := by decide +kernel
theorem dX8_coarsestExactLevel_17 : decode cX8_coarsestExactLevel 17 = .ok (.iload_n 1, 1) := by decide +kernel
theorem dX8_coarsestExactLevel_18 : decode cX8_coarsestExactLevel 18 = .ok (.aload_n 0, 1) := by decide +kernel
theorem dX8_coarsestExactLevel_19 : decode cX8_coarsestExactLevel 19 = .ok (.iload_n 1, 1) := by decide +kernel
theorem dX8_coarsestExactLevel_20 : decode cX8_coarsestExactLevel 20 = .ok (.iconst 0, 1) := by decide +kernel
theorem dX8_coarsestExactLevel_21 : decode cX8_coarsestExactLevel 21 = .ok (.invokevirtual 175, 3) := by decide +kernel
theorem dX8_coarsestExactLevel_24 : decode cX8_coarsestExactLevel 24 = .ok (.invokevirtual 187, 3) := by decide +kernel
theorem dX8_coarsestExactLevel_27 : decode cX8_coarsestExactLevel 27 = .ok (.ireturn, 1) := by decide +kernel
theorem dX8_totalLength_0 : decode cX8_totalLength 0 = .ok (.aload_n 0, 1) := by decide +kernel
theorem dX8_totalLength_1 : decode cX8_totalLength 1 = .ok (.iload_n 1, 1) := by decide +kernel
theorem dX8_totalLength_2 : decode cX8_totalLength 2 = .ok (.invokestatic 169, 3) := by decide +kernel
theorem dX8_totalLength_5 : decode cX8_totalLength 5 = .ok (.invokevirtual 89, 3) := by decide +kernel
theorem dX8_totalLength_8 : decode cX8_totalLength 8 = .ok (.ifCond .eq 5, 3) := by decide +kernel
theorem dX8_totalLength_11 : decode cX8_totalLength 11 = .ok (.iconst 0, 1) := by decide +kernel
theorem dX8_totalLength_12 : decode cX8_totalLength 12 = .ok (.ireturn, 1) := by decide +kernel
theorem dX8_totalLength_13 : decode cX8_totalLength 13 = .ok (.iconst 0, 1) := by decide +kernel
theorem dX8_totalLength_14 : decode cX8_totalLength 14 = .ok (.istore_n 2, 1) := by decide +kernel
theorem dX8_totalLength_15 : decode cX8_totalLength 15 = .ok (.iconst 0, 1) := by decide +kernel
theorem dX8_totalLength_16 : decode cX8_totalLength 16 = .ok (.istore_n 3, 1) := by decide +kernel
theorem dX8_totalLength_17 : decode cX8_totalLength 17 = .ok (.iload_n 3, 1) := by decide +kernel
theorem dX8_totalLength_18 : decode cX8_totalLength 18 = .ok (.aload_n 0, 1) := by decide +kernel
theorem dX8_totalLength_19 : decode cX8_totalLength 19 = .ok (.getfield 25, 3) := by decide +kernel
theorem dX8_totalLength_22 : decode cX8_totalLength 22 = .ok (.iconst 1, 1) := by decide +kernel
theorem dX8_totalLength_23 : decode cX8_totalLength 23 = .ok (.iaload, 1) := by decide +kernel
theorem dX8_totalLength_24 : decode cX8_totalLength 24 = .ok (.if_icmp .ge 18, 3) := by decide +kernel
theorem dX8_totalLength_27 : decode cX8_totalLength 27 = .ok (.iload_n 2, 1) := by decide +kernel
theorem dX8_totalLength_28 : decode cX8_totalLength 28 = .ok (.aload_n 0, 1) := by decide +kernel
theorem dX8_totalLength_29 : decode cX8_totalLength 29 = .ok (.iload_n 3, 1) := by decide +kernel
theorem dX8_totalLength_30 : decode cX8_totalLength 30 = .ok (.iload_n 1, 1) := by decide +kernel
theorem dX8_totalLength_31 : decode cX8_totalLength 31 = .ok (.invokevirtual 175, 3) := by decide +kernel
theorem dX8_totalLength_34 : decode cX8_totalLength 34 = .ok (.iadd, 1) := by decide +kernel
theorem dX8_totalLength_35 : decode cX8_totalLength 35 = .ok (.istore_n 2, 1) := by decide +kernel
theorem dX8_totalLength_36 : decode cX8_totalLength 36 = .ok (.iinc 3 1, 3) := by decide +kernel
theorem dX8_totalLength_39 : decode cX8_totalLength 39 = .ok (.goto (-22), 3) := by decide +kernel
theorem dX8_totalLength_42 : decode cX8_totalLength 42 = .ok (.iload_n 2, 1) := by decide +kernel
theorem dX8_totalLength_43 : decode cX8_totalLength 43 = .ok (.ireturn, 1) := by decide +kernel
theorem dX8_longestCoast_0 : decode cX8_longestCoast 0 = .ok (.aload_n 0, 1) := by decide +kernel
theorem dX8_longestCoast_1 : decode cX8_longestCoast 1 = .ok (.iload_n 1, 1) := by decide +kernel
theorem dX8_longestCoast_2 : decode cX8_longestCoast 2 = .ok (.invokestatic 169, 3) := by decide +kernel
theorem dX8_longestCoast_5 : decode cX8_longestCoast 5 = .ok (.invokevirtual 89, 3) := by decide +kernel
theorem dX8_longestCoast_8 : decode cX8_longestCoast 8 = .ok (.ifCond .eq 5, 3) := by decide +kernel
theorem dX8_longestCoast_11 : decode cX8_longestCoast 11 = .ok (.iconst 0, 1) := by decide +kernel
theorem dX8_longestCoast_12 : decode cX8_longestCoast 12 = .ok (.ireturn, 1) := by decide +kernel
theorem dX8_longestCoast_13 : decode cX8_longestCoast 13 = .ok (.iconst (-1), 1) := by decide +kernel
theorem dX8_longestCoast_14 : decode cX8_longestCoast 14 = .ok (.istore_n 2, 1) := by decide +kernel
theorem dX8_longestCoast_15 : decode cX8_longestCoast 15 = .ok (.iconst 0, 1) := by decide +kernel
theorem dX8_longestCoast_16 : decode cX8_longestCoast 16 = .ok (.istore_n 3, 1) := by decide +kernel
theorem dX8_longestCoast_17 : decode cX8_longestCoast 17 = .ok (.iload_n 3, 1) := by decide +kernel
theorem dX8_longestCoast_18 : decode cX8_longestCoast 18 = .ok (.aload_n 0, 1) := by decide +kernel
theorem dX8_longestCoast_19 : decode cX8_longestCoast 19 = .ok (.getfield 25, 3) := by decide +kernel
theorem dX8_longestCoast_22 : decode cX8_longestCoast 22 = .ok (.iconst 1, 1) := by decide +kernel
theorem dX8_longestCoast_23 : decode cX8_longestCoast 23 = .ok (.iaload, 1) := by decide +kernel
theorem dX8_longestCoast_24 : decode cX8_longestCoast 24 = .ok (.if_icmp .ge 35, 3) := by decide +kernel
theorem dX8_longestCoast_27 : decode cX8_longestCoast 27 = .ok (.iload_n 2, 1) := by decide +kernel
theorem dX8_longestCoast_28 : decode cX8_longestCoast 28 = .ok (.iconst (-1), 1) := by decide +kernel
theorem dX8_longestCoast_29 : decode cX8_longestCoast 29 = .ok (.if_icmp .eq 18, 3) := by decide +kernel
theorem dX8_longestCoast_32 : decode cX8_longestCoast 32 = .ok (.aload_n 0, 1) := by decide +kernel
theorem dX8_longestCoast_33 : decode cX8_longestCoast 33 = .ok (.iload_n 3, 1) := by decide +kernel
theorem dX8_longestCoast_34 : decode cX8_longestCoast 34 = .ok (.iload_n 1, 1) := by decide +kernel
theorem dX8_longestCoast_35 : decode cX8_longestCoast 35 = .ok (.invokevirtual 175, 3) := by decide +kernel
theorem dX8_longestCoast_38 : decode cX8_longestCoast 38 = .ok (.aload_n 0, 1) := by decide +kernel
theorem dX8_longestCoast_39 : decode cX8_longestCoast 39 = .ok (.iload_n 2, 1) := by decide +kernel
theorem dX8_longestCoast_40 : decode cX8_longestCoast 40 = .ok (.iload_n 1, 1) := by decide +kernel
theorem dX8_longestCoast_41 : decode cX8_longestCoast 41 = .ok (.invokevirtual 175, 3) := by decide +kernel
theorem dX8_longestCoast_44 : decode cX8_longestCoast 44 = .ok (.if_icmp .le 7, 3) := by decide +kernel
theorem dX8_longestCoast_47 : decode cX8_longestCoast 47 = .ok (.iload_n 3, 1) := by decide +kernel
theorem dX8_longestCoast_48 : decode cX8_longestCoast 48 = .ok (.goto 4, 3) := by decide +kernel
theorem dX8_longestCoast_51 : decode cX8_longestCoast 51 = .ok (.iload_n 2, 1) := by decide +kernel
theorem dX8_longestCoast_52 : decode cX8_longestCoast 52 = .ok (.istore_n 2, 1) := by decide +kernel
theorem dX8_longestCoast_53 : decode cX8_longestCoast 53 = .ok (.iinc 3 1, 3) := by decide +kernel
theorem dX8_longestCoast_56 : decode cX8_longestCoast 56 = .ok (.goto (-39), 3) := by decide +kernel
theorem dX8_longestCoast_59 : decode cX8_longestCoast 59 = .ok (.iload_n 2, 1) := by decide +kernel
theorem dX8_longestCoast_60 : decode cX8_longestCoast 60 = .ok (.ireturn, 1) := by decide +kernel
theorem dX8_refinementRatio_0 : decode cX8_refinementRatio 0 = .ok (.aload_n 0, 1) := by decide +kernel
theorem dX8_refinementRatio_1 : decode cX8_refinementRatio 1 = .ok (.aload_n 0, 1) := by decide +kernel
theorem dX8_refinementRatio_2 : decode cX8_refinementRatio 2 = .ok (.iload_n 1, 1) := by decide +kernel
theorem dX8_refinementRatio_3 : decode cX8_refinementRatio 3 = .ok (.invokevirtual 101, 3) := by decide +kernel
theorem dX8_refinementRatio_6 : decode cX8_refinementRatio 6 = .ok (.iload_n 2, 1) := by decide +kernel
theorem dX8_refinementRatio_7 : decode cX8_refinementRatio 7 = .ok (.invokestatic 181, 3) := by decide +kernel
theorem dX8_refinementRatio_10 : decode cX8_refinementRatio 10 = .ok (.invokevirtual 165, 3) := by decide +kernel
theorem dX8_refinementRatio_13 : decode cX8_refinementRatio 13 = .ok (.ifCond .eq 5, 3) := by decide +kernel
theorem dX8_refinementRatio_16 : decode cX8_refinementRatio 16 = .ok (.dconst 0, 1) := by decide +kernel
theorem dX8_refinementRatio_17 : decode cX8_refinementRatio 17 = .ok (.dreturn, 1) := by decide +kernel
theorem dX8_refinementRatio_18 : decode cX8_refinementRatio 18 = .ok (.aload_n 0, 1) := by decide +kernel
theorem dX8_refinementRatio_19 : decode cX8_refinementRatio 19 = .ok (.iload_n 1, 1) := by decide +kernel
theorem dX8_refinementRatio_20 : decode cX8_refinementRatio 20 = .ok (.iload_n 2, 1) := by decide +kernel
theorem dX8_refinementRatio_21 : decode cX8_refinementRatio 21 = .ok (.iconst 1, 1) := by decide +kernel
theorem dX8_refinementRatio_22 : decode cX8_refinementRatio 22 = .ok (.iadd, 1) := by decide +kernel
theorem dX8_refinementRatio_23 : decode cX8_refinementRatio 23 = .ok (.invokevirtual 175, 3) := by decide +kernel
theorem dX8_refinementRatio_26 : decode cX8_refinementRatio 26 = .ok (.istore_n 3, 1) := by decide +kernel
theorem dX8_refinementRatio_27 : decode cX8_refinementRatio 27 = .ok (.iload_n 3, 1) := by decide +kernel
theorem dX8_refinementRatio_28 : decode cX8_refinementRatio 28 = .ok (.ifCond .ne 7, 3) := by decide +kernel
theorem dX8_refinementRatio_31 : decode cX8_refinementRatio 31 = .ok (.dconst 0, 1) := by decide +kernel
theorem dX8_refinementRatio_32 : decode cX8_refinementRatio 32 = .ok (.goto 13, 3) := by decide +kernel
theorem dX8_refinementRatio_35 : decode cX8_refinementRatio 35 = .ok (.aload_n 0, 1) := by decide +kernel
theorem dX8_refinementRatio_36 : decode cX8_refinementRatio 36 = .ok (.iload_n 1, 1) := by decide +kernel
theorem dX8_refinementRatio_37 : decode cX8_refinementRatio 37 = .ok (.iload_n 2, 1) := by decide +kernel
theorem dX8_refinementRatio_38 : decode cX8_refinementRatio 38 = .ok (.invokevirtual 175, 3) := by decide +kernel
theorem dX8_refinementRatio_41 : decode cX8_refinementRatio 41 = .ok (.i2d, 1) := by decide +kernel
theorem dX8_refinementRatio_42 : decode cX8_refinementRatio 42 = .ok (.iload_n 3, 1) := by decide +kernel
theorem dX8_refinementRatio_43 : decode cX8_refinementRatio 43 = .ok (.i2d, 1) := by decide +kernel
theorem dX8_refinementRatio_44 : decode cX8_refinementRatio 44 = .ok (.ddiv, 1) := by decide +kernel
theorem dX8_refinementRatio_45 : decode cX8_refinementRatio 45 = .ok (.dreturn, 1) := by decide +kernel
theorem dX8_meanStickLength_0 : decode cX8_meanStickLength 0 = .ok (.aload_n 0, 1) := by decide +kernel
theorem dX8_meanStickLength_1 : decode cX8_meanStickLength 1 = .ok (.iload_n 1, 1) := by decide +kernel
theorem dX8_meanStickLength_2 : decode cX8_meanStickLength 2 = .ok (.iload_n 2, 1) := by decide +kernel
theorem dX8_meanStickLength_3 : decode cX8_meanStickLength 3 = .ok (.invokevirtual 172, 3) := by decide +kernel
theorem dX8_meanStickLength_6 : decode cX8_meanStickLength 6 = .ok (.ifCond .eq 7, 3) := by decide +kernel
theorem dX8_meanStickLength_9 : decode cX8_meanStickLength 9 = .ok (.fconst 0, 1) := by decide +kernel
theorem dX8_meanStickLength_10 : decode cX8_meanStickLength 10 = .ok (.goto 18, 3) := by decide +kernel
theorem dX8_meanStickLength_13 : decode cX8_meanStickLength 13 = .ok (.aload_n 0, 1) := by decide +kernel
theorem dX8_meanStickLength_14 : decode cX8_meanStickLength 14 = .ok (.iload_n 1, 1) := by decide +kernel
theorem dX8_meanStickLength_15 : decode cX8_meanStickLength 15 = .ok (.iload_n 2, 1) := by decide +kernel
theorem dX8_meanStickLength_16 : decode cX8_meanStickLength 16 = .ok (.invokevirtual 175, 3) := by decide +kernel
theorem dX8_meanStickLength_19 : decode cX8_meanStickLength 19 = .ok (.i2f, 1) := by decide +kernel
theorem dX8_meanStickLength_20 : decode cX8_meanStickLength 20 = .ok (.aload_n 0, 1) := by decide +kernel
theorem dX8_meanStickLength_21 : decode cX8_meanStickLength 21 = .ok (.iload_n 1, 1) := by decide +kernel
theorem dX8_meanStickLength_22 : decode cX8_meanStickLength 22 = .ok (.iload_n 2, 1) := by decide +kernel
theorem dX8_meanStickLength_23 : decode cX8_meanStickLength 23 = .ok (.invokevirtual 145, 3) := by decide +kernel
theorem dX8_meanStickLength_26 : decode cX8_meanStickLength 26 = .ok (.i2f, 1) := by decide +kernel
theorem dX8_meanStickLength_27 : decode cX8_meanStickLength 27 = .ok (.fdiv, 1) := by decide +kernel
theorem dX8_meanStickLength_28 : decode cX8_meanStickLength 28 = .ok (.freturn, 1) := by decide +kernel
theorem dX8_next_0 : decode cX8_next 0 = .ok (.iload_n 2, 1) := by decide +kernel
theorem dX8_next_1 : decode cX8_next 1 = .ok (.iconst 1, 1) := by decide +kernel
theorem dX8_next_2 : decode cX8_next 2 = .ok (.iadd, 1) := by decide +kernel
theorem dX8_next_3 : decode cX8_next 3 = .ok (.aload_n 0, 1) := by decide +kernel
theorem dX8_next_4 : decode cX8_next 4 = .ok (.iload_n 1, 1) := by decide +kernel
theorem dX8_next_5 : decode cX8_next 5 = .ok (.invokevirtual 105, 3) := by decide +kernel
theorem dX8_next_8 : decode cX8_next 8 = .ok (.if_icmp .ge 9, 3) := by decide +kernel
theorem dX8_next_11 : decode cX8_next 11 = .ok (.iload_n 2, 1) := by decide +kernel
theorem dX8_next_12 : decode cX8_next 12 = .ok (.iconst 1, 1) := by decide +kernel
theorem dX8_next_13 : decode cX8_next 13 = .ok (.iadd, 1) := by decide +kernel
theorem dX8_next_14 : decode cX8_next 14 = .ok (.goto 4, 3) := by decide +kernel
theorem dX8_next_17 : decode cX8_next 17 = .ok (.iconst 0, 1) := by decide +kernel
theorem dX8_next_18 : decode cX8_next 18 = .ok (.ireturn, 1) := by decide +kernel
theorem dX8_signedArea_0 : decode cX8_signedArea 0 = .ok (.iconst 0, 1) := by decide +kernel
theorem dX8_signedArea_1 : decode cX8_signedArea 1 = .ok (.istore_n 2, 1) := by decide +kernel
theorem dX8_signedArea_2 : decode cX8_signedArea 2 = .ok (.iconst 0, 1) := by decide +kernel
theorem dX8_signedArea_3 : decode cX8_signedArea 3 = .ok (.istore_n 3, 1) := by decide +kernel
theorem dX8_signedArea_4 : decode cX8_signedArea 4 = .ok (.iload_n 3, 1) := by decide +kernel
theorem dX8_signedArea_5 : decode cX8_signedArea 5 = .ok (.aload_n 0, 1) := by decide +kernel
theorem dX8_signedArea_6 : decode cX8_signedArea 6 = .ok (.iload_n 1, 1) := by decide +kernel
theorem dX8_signedArea_7 : decode cX8_signedArea 7 = .ok (.invokevirtual 105, 3) := by decide +kernel
theorem dX8_signedArea_10 : decode cX8_signedArea 10 = .ok (.if_icmp .ge 49, 3) := by decide +kernel
theorem dX8_signedArea_13 : decode cX8_signedArea 13 = .ok (.aload_n 0, 1) := by decide +kernel
theorem dX8_signedArea_14 : decode cX8_signedArea 14 = .ok (.iload_n 1, 1) := by decide +kernel
theorem dX8_signedArea_15 : decode cX8_signedArea 15 = .ok (.iload_n 3, 1) := by decide +kernel
theorem dX8_signedArea_16 : decode cX8_signedArea 16 = .ok (.invokevirtual 190, 3) := by decide +kernel
theorem dX8_signedArea_19 : decode cX8_signedArea 19 = .ok (.istore 4, 2) := by decide +kernel
theorem dX8_signedArea_21 : decode cX8_signedArea 21 = .ok (.iload_n 2, 1) := by decide +kernel
theorem dX8_signedArea_22 : decode cX8_signedArea 22 = .ok (.aload_n 0, 1) := by decide +kernel
theorem dX8_signedArea_23 : decode cX8_signedArea 23 = .ok (.iload_n 1, 1) := by decide +kernel
theorem dX8_signedArea_24 : decode cX8_signedArea 24 = .ok (.iload_n 3, 1) := by decide +kernel
theorem dX8_signedArea_25 : decode cX8_signedArea 25 = .ok (.invokevirtual 126, 3) := by decide +kernel
theorem dX8_signedArea_28 : decode cX8_signedArea 28 = .ok (.aload_n 0, 1) := by decide +kernel
theorem dX8_signedArea_29 : decode cX8_signedArea 29 = .ok (.iload_n 1, 1) := by decide +kernel
theorem dX8_signedArea_30 : decode cX8_signedArea 30 = .ok (.iload 4, 2) := by decide +kernel
theorem dX8_signedArea_32 : decode cX8_signedArea 32 = .ok (.invokevirtual 130, 3) := by decide +kernel
theorem dX8_signedArea_35 : decode cX8_signedArea 35 = .ok (.imul, 1) := by decide +kernel
theorem dX8_signedArea_36 : decode cX8_signedArea 36 = .ok (.aload_n 0, 1) := by decide +kernel
theorem dX8_signedArea_37 : decode cX8_signedArea 37 = .ok (.iload_n 1, 1) := by decide +kernel
theorem dX8_signedArea_38 : decode cX8_signedArea 38 = .ok (.iload 4, 2) := by decide +kernel
theorem dX8_signedArea_40 : decode cX8_signedArea 40 = .ok (.invokevirtual 126, 3) := by decide +kernel
theorem dX8_signedArea_43 : decode cX8_signedArea 43 = .ok (.aload_n 0, 1) := by decide +kernel
theorem dX8_signedArea_44 : decode cX8_signedArea 44 = .ok (.iload_n 1, 1) := by decide +kernel
theorem dX8_signedArea_45 : decode cX8_signedArea 45 = .ok (.iload_n 3, 1) := by decide +kernel
theorem dX8_signedArea_46 : decode cX8_signedArea 46 = .ok (.invokevirtual 130, 3) := by decide +kernel
theorem dX8_signedArea_49 : decode cX8_signedArea 49 = .ok (.imul, 1) := by decide +kernel
theorem dX8_signedArea_50 : decode cX8_signedArea 50 = .ok (.isub, 1) := by decide +kernel
theorem dX8_signedArea_51 : decode cX8_signedArea 51 = .ok (.iadd, 1) := by decide +kernel
theorem dX8_signedArea_52 : decode cX8_signedArea 52 = .ok (.istore_n 2, 1) := by decide +kernel
theorem dX8_signedArea_53 : decode cX8_signedArea 53 = .ok (.iinc 3 1, 3) := by decide +kernel
theorem dX8_signedArea_56 : decode cX8_signedArea 56 = .ok (.goto (-52), 3) := by decide +kernel
theorem dX8_signedArea_59 : decode cX8_signedArea 59 = .ok (.iload_n 2, 1) := by decide +kernel
theorem dX8_signedArea_60 : decode cX8_signedArea 60 = .ok (.ireturn, 1) := by decide +kernel
theorem dX8_lacksIsland_0 : decode cX8_lacksIsland 0 = .ok (.aload_n 0, 1) := by decide +kernel
theorem dX8_lacksIsland_1 : decode cX8_lacksIsland 1 = .ok (.aload_n 0, 1) := by decide +kernel
theorem dX8_lacksIsland_2 : decode cX8_lacksIsland 2 = .ok (.iload_n 1, 1) := by decide +kernel
theorem dX8_lacksIsland_3 : decode cX8_lacksIsland 3 = .ok (.invokevirtual 101, 3) := by decide +kernel
theorem dX8_lacksIsland_6 : decode cX8_lacksIsland 6 = .ok (.aload_n 0, 1) := by decide +kernel
theorem dX8_lacksIsland_7 : decode cX8_lacksIsland 7 = .ok (.iload_n 1, 1) := by decide +kernel
theorem dX8_lacksIsland_8 : decode cX8_lacksIsland 8 = .ok (.invokevirtual 101, 3) := by decide +kernel
theorem dX8_lacksIsland_11 : decode cX8_lacksIsland 11 = .ok (.ifCond .eq 15, 3) := by decide +kernel
theorem dX8_lacksIsland_14 : decode cX8_lacksIsland 14 = .ok (.aload_n 0, 1) := by decide +kernel
theorem dX8_lacksIsland_15 : decode cX8_lacksIsland 15 = .ok (.iload_n 1, 1) := by decide +kernel
theorem dX8_lacksIsland_16 : decode cX8_lacksIsland 16 = .ok (.invokevirtual 111, 3) := by decide +kernel
theorem dX8_lacksIsland_19 : decode cX8_lacksIsland 19 = .ok (.ifCond .eq 7, 3) := by decide +kernel
theorem dX8_lacksIsland_22 : decode cX8_lacksIsland 22 = .ok (.iconst 1, 1) := by decide +kernel
theorem dX8_lacksIsland_23 : decode cX8_lacksIsland 23 = .ok (.goto 4, 3) := by decide +kernel
theorem dX8_lacksIsland_26 : decode cX8_lacksIsland 26 = .ok (.iconst 0, 1) := by decide +kernel
theorem dX8_lacksIsland_27 : decode cX8_lacksIsland 27 = .ok (.invokevirtual 165, 3) := by decide +kernel
theorem dX8_lacksIsland_30 : decode cX8_lacksIsland 30 = .ok (.ireturn, 1) := by decide +kernel
theorem dX8_doubledArea_0 : decode cX8_doubledArea 0 = .ok (.aload_n 0, 1) := by decide +kernel
theorem dX8_doubledArea_1 : decode cX8_doubledArea 1 = .ok (.iload_n 1, 1) := by decide +kernel
theorem dX8_doubledArea_2 : decode cX8_doubledArea 2 = .ok (.invokevirtual 193, 3) := by decide +kernel
theorem dX8_doubledArea_5 : decode cX8_doubledArea 5 = .ok (.ifCond .eq 7, 3) := by decide +kernel
theorem dX8_doubledArea_8 : decode cX8_doubledArea 8 = .ok (.iconst 0, 1) := by decide +kernel
theorem dX8_doubledArea_9 : decode cX8_doubledArea 9 = .ok (.goto 11, 3) := by decide +kernel
theorem dX8_doubledArea_12 : decode cX8_doubledArea 12 = .ok (.aload_n 0, 1) := by decide +kernel
theorem dX8_doubledArea_13 : decode cX8_doubledArea 13 = .ok (.iload_n 1, 1) := by decide +kernel
theorem dX8_doubledArea_14 : decode cX8_doubledArea 14 = .ok (.invokevirtual 196, 3) := by decide +kernel
theorem dX8_doubledArea_17 : decode cX8_doubledArea 17 = .ok (.invokestatic 123, 3) := by decide +kernel
theorem dX8_doubledArea_20 : decode cX8_doubledArea 20 = .ok (.ireturn, 1) := by decide +kernel
theorem dX8_isCounterclockwise_0 : decode cX8_isCounterclockwise 0 = .ok (.aload_n 0, 1) := by decide +kernel
theorem dX8_isCounterclockwise_1 : decode cX8_isCounterclockwise 1 = .ok (.iload_n 1, 1) := by decide +kernel
theorem dX8_isCounterclockwise_2 : decode cX8_isCounterclockwise 2 = .ok (.invokevirtual 193, 3) := by decide +kernel
theorem dX8_isCounterclockwise_5 : decode cX8_isCounterclockwise 5 = .ok (.ifCond .ne 15, 3) := by decide +kernel
theorem dX8_isCounterclockwise_8 : decode cX8_isCounterclockwise 8 = .ok (.aload_n 0, 1) := by decide +kernel
theorem dX8_isCounterclockwise_9 : decode cX8_isCounterclockwise 9 = .ok (.iload_n 1, 1) := by decide +kernel
theorem dX8_isCounterclockwise_10 : decode cX8_isCounterclockwise 10 = .ok (.invokevirtual 196, 3) := by decide +kernel
theorem dX8_isCounterclockwise_13 : decode cX8_isCounterclockwise 13 = .ok (.ifCond .le 7, 3) := by decide +kernel
theorem dX8_isCounterclockwise_16 : decode cX8_isCounterclockwise 16 = .ok (.iconst 1, 1) := by decide +kernel
theorem dX8_isCounterclockwise_17 : decode cX8_isCounterclockwise 17 = .ok (.goto 4, 3) := by decide +kernel
theorem dX8_isCounterclockwise_20 : decode cX8_isCounterclockwise 20 = .ok (.iconst 0, 1) := by decide +kernel
theorem dX8_isCounterclockwise_21 : decode cX8_isCounterclockwise 21 = .ok (.ireturn, 1) := by decide +kernel
theorem dX8_isBetween_0 : decode cX8_isBetween 0 = .ok (.iload_n 0, 1) := by decide +kernel
theorem dX8_isBetween_1 : decode cX8_isBetween 1 = .ok (.iload_n 1, 1) := by decide +kernel
theorem dX8_isBetween_2 : decode cX8_isBetween 2 = .ok (.iload_n 2, 1) := by decide +kernel
theorem dX8_isBetween_3 : decode cX8_isBetween 3 = .ok (.invokestatic 199, 3) := by decide +kernel
theorem dX8_isBetween_6 : decode cX8_isBetween 6 = .ok (.if_icmp .lt 20, 3) := by decide +kernel
theorem dX8_isBetween_9 : decode cX8_isBetween 9 = .ok (.iload_n 0, 1) := by decide +kernel
theorem dX8_isBetween_10 : decode cX8_isBetween 10 = .ok (.iload_n 1, 1) := by decide +kernel
theorem dX8_isBetween_11 : decode cX8_isBetween 11 = .ok (.iload_n 2, 1) := by decide +kernel
theorem dX8_isBetween_12 : decode cX8_isBetween 12 = .ok (.iadd, 1) := by decide +kernel
theorem dX8_isBetween_13 : decode cX8_isBetween 13 = .ok (.iload_n 1, 1) := by decide +kernel
theorem dX8_isBetween_14 : decode cX8_isBetween 14 = .ok (.iload_n 2, 1) := by decide +kernel
theorem dX8_isBetween_15 : decode cX8_isBetween 15 = .ok (.invokestatic 199, 3) := by decide +kernel
theorem dX8_isBetween_18 : decode cX8_isBetween 18 = .ok (.isub, 1) := by decide +kernel
theorem dX8_isBetween_19 : decode cX8_isBetween 19 = .ok (.if_icmp .gt 7, 3) := by decide +kernel
theorem dX8_isBetween_22 : decode cX8_isBetween 22 = .ok (.iconst 1, 1) := by decide +kernel
theorem dX8_isBetween_23 : decode cX8_isBetween 23 = .ok (.goto 4, 3) := by decide +kernel
theorem dX8_isBetween_26 : decode cX8_isBetween 26 = .ok (.iconst 0, 1) := by decide +kernel
theorem dX8_isBetween_27 : decode cX8_isBetween 27 = .ok (.ireturn, 1) := by decide +kernel
theorem dX8_turn_0 : decode cX8_turn 0 = .ok (.aload_n 0, 1) := by decide +kernel
theorem dX8_turn_1 : decode cX8_turn 1 = .ok (.iload_n 1, 1) := by decide +kernel
theorem dX8_turn_2 : decode cX8_turn 2 = .ok (.iload_n 2, 1) := by decide +kernel
theorem dX8_turn_3 : decode cX8_turn 3 = .ok (.invokevirtual 190, 3) := by decide +kernel
theorem dX8_turn_6 : decode cX8_turn 6 = .ok (.istore 5, 2) := by decide +kernel
theorem dX8_turn_8 : decode cX8_turn 8 = .ok (.aload_n 0, 1) := by decide +kernel
theorem dX8_turn_9 : decode cX8_turn 9 = .ok (.iload_n 1, 1) := by decide +kernel
theorem dX8_turn_10 : decode cX8_turn 10 = .ok (.iload 5, 2) := by decide +kernel
theorem dX8_turn_12 : decode cX8_turn 12 = .ok (.invokevirtual 126, 3) := by decide +kernel
theorem dX8_turn_15 : decode cX8_turn 15 = .ok (.aload_n 0, 1) := by decide +kernel
theorem dX8_turn_16 : decode cX8_turn 16 = .ok (.iload_n 1, 1) := by decide +kernel
theorem dX8_turn_17 : decode cX8_turn 17 = .ok (.iload_n 2, 1) := by decide +kernel
theorem dX8_turn_18 : decode cX8_turn 18 = .ok (.invokevirtual 126, 3) := by decide +kernel
theorem dX8_turn_21 : decode cX8_turn 21 = .ok (.isub, 1) := by decide +kernel
theorem dX8_turn_22 : decode cX8_turn 22 = .ok (.istore 6, 2) := by decide +kernel
theorem dX8_turn_24 : decode cX8_turn 24 = .ok (.aload_n 0, 1) := by decide +kernel
theorem dX8_turn_25 : decode cX8_turn 25 = .ok (.iload_n 1, 1) := by decide +kernel
theorem dX8_turn_26 : decode cX8_turn 26 = .ok (.iload 5, 2) := by decide +kernel
theorem dX8_turn_28 : decode cX8_turn 28 = .ok (.invokevirtual 130, 3) := by decide +kernel
theorem dX8_turn_31 : decode cX8_turn 31 = .ok (.aload_n 0, 1) := by decide +kernel
theorem dX8_turn_32 : decode cX8_turn 32 = .ok (.iload_n 1, 1) := by decide +kernel
theorem dX8_turn_33 : decode cX8_turn 33 = .ok (.iload_n 2, 1) := by decide +kernel
theorem dX8_turn_34 : decode cX8_turn 34 = .ok (.invokevirtual 130, 3) := by decide +kernel
theorem dX8_turn_37 : decode cX8_turn 37 = .ok (.isub, 1) := by decide +kernel
theorem dX8_turn_38 : decode cX8_turn 38 = .ok (.istore 7, 2) := by decide +kernel
theorem dX8_turn_40 : decode cX8_turn 40 = .ok (.iload 6, 2) := by decide +kernel
theorem dX8_turn_42 : decode cX8_turn 42 = .ok (.iload 4, 2) := by decide +kernel
theorem dX8_turn_44 : decode cX8_turn 44 = .ok (.aload_n 0, 1) := by decide +kernel
theorem dX8_turn_45 : decode cX8_turn 45 = .ok (.iload_n 1, 1) := by decide +kernel
theorem dX8_turn_46 : decode cX8_turn 46 = .ok (.iload_n 2, 1) := by decide +kernel
theorem dX8_turn_47 : decode cX8_turn 47 = .ok (.invokevirtual 130, 3) := by decide +kernel
theorem dX8_turn_50 : decode cX8_turn 50 = .ok (.isub, 1) := by decide +kernel
theorem dX8_turn_51 : decode cX8_turn 51 = .ok (.imul, 1) := by decide +kernel
theorem dX8_turn_52 : decode cX8_turn 52 = .ok (.iload 7, 2) := by decide +kernel
theorem dX8_turn_54 : decode cX8_turn 54 = .ok (.iload_n 3, 1) := by decide +kernel
theorem dX8_turn_55 : decode cX8_turn 55 = .ok (.aload_n 0, 1) := by decide +kernel
theorem dX8_turn_56 : decode cX8_turn 56 = .ok (.iload_n 1, 1) := by decide +kernel
theorem dX8_turn_57 : decode cX8_turn 57 = .ok (.iload_n 2, 1) := by decide +kernel
theorem dX8_turn_58 : decode cX8_turn 58 = .ok (.invokevirtual 126, 3) := by decide +kernel
theorem dX8_turn_61 : decode cX8_turn 61 = .ok (.isub, 1) := by decide +kernel
theorem dX8_turn_62 : decode cX8_turn 62 = .ok (.imul, 1) := by decide +kernel
theorem dX8_turn_63 : decode cX8_turn 63 = .ok (.isub, 1) := by decide +kernel
theorem dX8_turn_64 : decode cX8_turn 64 = .ok (.ireturn, 1) := by decide +kernel
theorem dX8_isOn_0 : decode cX8_isOn 0 = .ok (.aload_n 0, 1) := by decide +kernel
theorem dX8_isOn_1 : decode cX8_isOn 1 = .ok (.iload_n 1, 1) := by decide +kernel
theorem dX8_isOn_2 : decode cX8_isOn 2 = .ok (.iload_n 2, 1) := by decide +kernel
theorem dX8_isOn_3 : decode cX8_isOn 3 = .ok (.invokevirtual 190, 3) := by decide +kernel
theorem dX8_isOn_6 : decode cX8_isOn 6 = .ok (.istore 5, 2) := by decide +kernel
theorem dX8_isOn_8 : decode cX8_isOn 8 = .ok (.iload_n 3, 1) := by decide +kernel
theorem dX8_isOn_9 : decode cX8_isOn 9 = .ok (.aload_n 0, 1) := by decide +kernel
theorem dX8_isOn_10 : decode cX8_isOn 10 = .ok (.iload_n 1, 1) := by decide +kernel
theorem dX8_isOn_11 : decode cX8_isOn 11 = .ok (.iload_n 2, 1) := by decide +kernel
theorem dX8_isOn_12 : decode cX8_isOn 12 = .ok (.invokevirtual 126, 3) := by decide +kernel
theorem dX8_isOn_15 : decode cX8_isOn 15 = .ok (.aload_n 0, 1) := by decide +kernel
theorem dX8_isOn_16 : decode cX8_isOn 16 = .ok (.iload_n 1, 1) := by decide +kernel
theorem dX8_isOn_17 : decode cX8_isOn 17 = .ok (.iload 5, 2) := by decide +kernel
theorem dX8_isOn_19 : decode cX8_isOn 19 = .ok (.invokevirtual 126, 3) := by decide +kernel
theorem dX8_isOn_22 : decode cX8_isOn 22 = .ok (.invokestatic 202, 3) := by decide +kernel
theorem dX8_isOn_25 : decode cX8_isOn 25 = .ok (.ifCond .eq 28, 3) := by decide +kernel
theorem dX8_isOn_28 : decode cX8_isOn 28 = .ok (.iload 4, 2) := by decide +kernel
theorem dX8_isOn_30 : decode cX8_isOn 30 = .ok (.aload_n 0, 1) := by decide +kernel
theorem dX8_isOn_31 : decode cX8_isOn 31 = .ok (.iload_n 1, 1) := by decide +kernel
theorem dX8_isOn_32 : decode cX8_isOn 32 = .ok (.iload_n 2, 1) := by decide +kernel
theorem dX8_isOn_33 : decode cX8_isOn 33 = .ok (.invokevirtual 130, 3) := by decide +kernel
theorem dX8_isOn_36 : decode cX8_isOn 36 = .ok (.aload_n 0, 1) := by decide +kernel
theorem dX8_isOn_37 : decode cX8_isOn 37 = .ok (.iload_n 1, 1) := by decide +kernel
theorem dX8_isOn_38 : decode cX8_isOn 38 = .ok (.iload 5, 2) := by decide +kernel
theorem dX8_isOn_40 : decode cX8_isOn 40 = .ok (.invokevirtual 130, 3) := by decide +kernel
theorem dX8_isOn_43 : decode cX8_isOn 43 = .ok (.invokestatic 202, 3) := by decide +kernel
theorem dX8_isOn_46 : decode cX8_isOn 46 = .ok (.ifCond .eq 7, 3) := by decide +kernel
theorem dX8_isOn_49 : decode cX8_isOn 49 = .ok (.iconst 1, 1) := by decide +kernel
theorem dX8_isOn_50 : decode cX8_isOn 50 = .ok (.goto 4, 3) := by decide +kernel
theorem dX8_isOn_53 : decode cX8_isOn 53 = .ok (.iconst 0, 1) := by decide +kernel
theorem dX8_isOn_54 : decode cX8_isOn 54 = .ok (.istore 6, 2) := by decide +kernel
theorem dX8_isOn_56 : decode cX8_isOn 56 = .ok (.iload 6, 2) := by decide +kernel
theorem dX8_isOn_58 : decode cX8_isOn 58 = .ok (.ifCond .eq 19, 3) := by decide +kernel
theorem dX8_isOn_61 : decode cX8_isOn 61 = .ok (.aload_n 0, 1) := by decide +kernel
theorem dX8_isOn_62 : decode cX8_isOn 62 = .ok (.iload_n 1, 1) := by decide +kernel
theorem dX8_isOn_63 : decode cX8_isOn 63 = .ok (.iload_n 2, 1) := by decide +kernel
theorem dX8_isOn_64 : decode cX8_isOn 64 = .ok (.iload_n 3, 1) := by decide +kernel
theorem dX8_isOn_65 : decode cX8_isOn 65 = .ok (.iload 4, 2) := by decide +kernel
theorem dX8_isOn_67 : decode cX8_isOn 67 = .ok (.invokevirtual 205, 3) := by decide +kernel
theorem dX8_isOn_70 : decode cX8_isOn 70 = .ok (.ifCond .ne 7, 3) := by decide +kernel
theorem dX8_isOn_73 : decode cX8_isOn 73 = .ok (.iconst 1, 1) := by decide +kernel
theorem dX8_isOn_74 : decode cX8_isOn 74 = .ok (.goto 4, 3) := by decide +kernel
theorem dX8_isOn_77 : decode cX8_isOn 77 = .ok (.iconst 0, 1) := by decide +kernel
theorem dX8_isOn_78 : decode cX8_isOn 78 = .ok (.ireturn, 1) := by decide +kernel
theorem dX8_isCrossed_0 : decode cX8_isCrossed 0 = .ok (.aload_n 0, 1) := by decide +kernel
theorem dX8_isCrossed_1 : decode cX8_isCrossed 1 = .ok (.iload_n 1, 1) := by decide +kernel
theorem dX8_isCrossed_2 : decode cX8_isCrossed 2 = .ok (.iload_n 2, 1) := by decide +kernel
theorem dX8_isCrossed_3 : decode cX8_isCrossed 3 = .ok (.invokevirtual 130, 3) := by decide +kernel
theorem dX8_isCrossed_6 : decode cX8_isCrossed 6 = .ok (.iload 4, 2) := by decide +kernel
theorem dX8_isCrossed_8 : decode cX8_isCrossed 8 = .ok (.if_icmp .le 7, 3) := by decide +kernel
theorem dX8_isCrossed_11 : decode cX8_isCrossed 11 = .ok (.iconst 1, 1) := by decide +kernel
theorem dX8_isCrossed_12 : decode cX8_isCrossed 12 = .ok (.goto 4, 3) := by decide +kernel
theorem dX8_isCrossed_15 : decode cX8_isCrossed 15 = .ok (.iconst 0, 1) := by decide +kernel
theorem dX8_isCrossed_16 : decode cX8_isCrossed 16 = .ok (.istore 5, 2) := by decide +kernel
theorem dX8_isCrossed_18 : decode cX8_isCrossed 18 = .ok (.aload_n 0, 1) := by decide +kernel
theorem dX8_isCrossed_19 : decode cX8_isCrossed 19 = .ok (.iload_n 1, 1) := by decide +kernel
theorem dX8_isCrossed_20 : decode cX8_isCrossed 20 = .ok (.aload_n 0, 1) := by decide +kernel
theorem dX8_isCrossed_21 : decode cX8_isCrossed 21 = .ok (.iload_n 1, 1) := by decide +kernel
theorem dX8_isCrossed_22 : decode cX8_isCrossed 22 = .ok (.iload_n 2, 1) := by decide +kernel
theorem dX8_isCrossed_23 : decode cX8_isCrossed 23 = .ok (.invokevirtual 190, 3) := by decide +kernel
theorem dX8_isCrossed_26 : decode cX8_isCrossed 26 = .ok (.invokevirtual 130, 3) := by decide +kernel
theorem dX8_isCrossed_29 : decode cX8_isCrossed 29 = .ok (.iload 4, 2) := by decide +kernel
theorem dX8_isCrossed_31 : decode cX8_isCrossed 31 = .ok (.if_icmp .le 7, 3) := by decide +kernel
theorem dX8_isCrossed_34 : decode cX8_isCrossed 34 = .ok (.iconst 1, 1) := by decide +kernel
theorem dX8_isCrossed_35 : decode cX8_isCrossed 35 = .ok (.goto 4, 3) := by decide +kernel
theorem dX8_isCrossed_38 : decode cX8_isCrossed 38 = .ok (.iconst 0, 1) := by decide +kernel
theorem dX8_isCrossed_39 : decode cX8_isCrossed 39 = .ok (.istore 6, 2) := by decide +kernel
theorem dX8_isCrossed_41 : decode cX8_isCrossed 41 = .ok (.aload_n 0, 1) := by decide +kernel
theorem dX8_isCrossed_42 : decode cX8_isCrossed 42 = .ok (.iload_n 1, 1) := by decide +kernel
theorem dX8_isCrossed_43 : decode cX8_isCrossed 43 = .ok (.iload_n 2, 1) := by decide +kernel
theorem dX8_isCrossed_44 : decode cX8_isCrossed 44 = .ok (.iload_n 3, 1) := by decide +kernel
theorem dX8_isCrossed_45 : decode cX8_isCrossed 45 = .ok (.iload 4, 2) := by decide +kernel
theorem dX8_isCrossed_47 : decode cX8_isCrossed 47 = .ok (.invokevirtual 205, 3) := by decide +kernel
theorem dX8_isCrossed_50 : decode cX8_isCrossed 50 = .ok (.istore 7, 2) := by decide +kernel
theorem dX8_isCrossed_52 : decode cX8_isCrossed 52 = .ok (.iload 5, 2) := by decide +kernel
theorem dX8_isCrossed_54 : decode cX8_isCrossed 54 = .ok (.iload 6, 2) := by decide +kernel
theorem dX8_isCrossed_56 : decode cX8_isCrossed 56 = .ok (.if_icmp .eq 25, 3) := by decide +kernel
theorem dX8_isCrossed_59 : decode cX8_isCrossed 59 = .ok (.iload 6, 2) := by decide +kernel
theorem dX8_isCrossed_61 : decode cX8_isCrossed 61 = .ok (.ifCond .eq 11, 3) := by decide +kernel
theorem dX8_isCrossed_64 : decode cX8_isCrossed 64 = .ok (.iload 7, 2) := by decide +kernel
theorem dX8_isCrossed_66 : decode cX8_isCrossed 66 = .ok (.ifCond .le 15, 3) := by decide +kernel
theorem dX8_isCrossed_69 : decode cX8_isCrossed 69 = .ok (.goto 8, 3) := by decide +kernel
theorem dX8_isCrossed_72 : decode cX8_isCrossed 72 = .ok (.iload 7, 2) := by decide +kernel
theorem dX8_isCrossed_74 : decode cX8_isCrossed 74 = .ok (.ifCond .ge 7, 3) := by decide +kernel
theorem dX8_isCrossed_77 : decode cX8_isCrossed 77 = .ok (.iconst 1, 1) := by decide +kernel
theorem dX8_isCrossed_78 : decode cX8_isCrossed 78 = .ok (.goto 4, 3) := by decide +kernel
theorem dX8_isCrossed_81 : decode cX8_isCrossed 81 = .ok (.iconst 0, 1) := by decide +kernel
theorem dX8_isCrossed_82 : decode cX8_isCrossed 82 = .ok (.ireturn, 1) := by decide +kernel
theorem dX8_holds_0 : decode cX8_holds 0 = .ok (.iconst 0, 1) := by decide +kernel
theorem dX8_holds_1 : decode cX8_holds 1 = .ok (.istore 4, 2) := by decide +kernel
theorem dX8_holds_3 : decode cX8_holds 3 = .ok (.iconst 0, 1) := by decide +kernel
theorem dX8_holds_4 : decode cX8_holds 4 = .ok (.istore 5, 2) := by decide +kernel
theorem dX8_holds_6 : decode cX8_holds 6 = .ok (.iload 5, 2) := by decide +kernel
theorem dX8_holds_8 : decode cX8_holds 8 = .ok (.aload_n 0, 1) := by decide +kernel
theorem dX8_holds_9 : decode cX8_holds 9 = .ok (.iload_n 1, 1) := by decide +kernel
theorem dX8_holds_10 : decode cX8_holds 10 = .ok (.invokevirtual 105, 3) := by decide +kernel
theorem dX8_holds_13 : decode cX8_holds 13 = .ok (.if_icmp .ge 37, 3) := by decide +kernel
theorem dX8_holds_16 : decode cX8_holds 16 = .ok (.aload_n 0, 1) := by decide +kernel
theorem dX8_holds_17 : decode cX8_holds 17 = .ok (.iload_n 1, 1) := by decide +kernel
theorem dX8_holds_18 : decode cX8_holds 18 = .ok (.iload 5, 2) := by decide +kernel
theorem dX8_holds_20 : decode cX8_holds 20 = .ok (.iload_n 2, 1) := by decide +kernel
theorem dX8_holds_21 : decode cX8_holds 21 = .ok (.iload_n 3, 1) := by decide +kernel
theorem dX8_holds_22 : decode cX8_holds 22 = .ok (.invokevirtual 209, 3) := by decide +kernel
theorem dX8_holds_25 : decode cX8_holds 25 = .ok (.ifCond .eq 5, 3) := by decide +kernel
theorem dX8_holds_28 : decode cX8_holds 28 = .ok (.iconst 1, 1) := by decide +kernel
theorem dX8_holds_29 : decode cX8_holds 29 = .ok (.ireturn, 1) := by decide +kernel
theorem dX8_holds_30 : decode cX8_holds 30 = .ok (.iload 4, 2) := by decide +kernel
theorem dX8_holds_32 : decode cX8_holds 32 = .ok (.aload_n 0, 1) := by decide +kernel
theorem dX8_holds_33 : decode cX8_holds 33 = .ok (.iload_n 1, 1) := by decide +kernel
theorem dX8_holds_34 : decode cX8_holds 34 = .ok (.iload 5, 2) := by decide +kernel
theorem dX8_holds_36 : decode cX8_holds 36 = .ok (.iload_n 2, 1) := by decide +kernel
theorem dX8_holds_37 : decode cX8_holds 37 = .ok (.iload_n 3, 1) := by decide +kernel
theorem dX8_holds_38 : decode cX8_holds 38 = .ok (.invokevirtual 213, 3) := by decide +kernel
theorem dX8_holds_41 : decode cX8_holds 41 = .ok (.ixor, 1) := by decide +kernel
theorem dX8_holds_42 : decode cX8_holds 42 = .ok (.istore 4, 2) := by decide +kernel
theorem dX8_holds_44 : decode cX8_holds 44 = .ok (.iinc 5 1, 3) := by decide +kernel
theorem dX8_holds_47 : decode cX8_holds 47 = .ok (.goto (-41), 3) := by decide +kernel
theorem dX8_holds_50 : decode cX8_holds 50 = .ok (.iload 4, 2) := by decide +kernel
theorem dX8_holds_52 : decode cX8_holds 52 = .ok (.ireturn, 1) := by decide +kernel
theorem dX8_contains_0 : decode cX8_contains 0 = .ok (.aload_n 0, 1) := by decide +kernel
theorem dX8_contains_1 : decode cX8_contains 1 = .ok (.iload_n 1, 1) := by decide +kernel
theorem dX8_contains_2 : decode cX8_contains 2 = .ok (.invokevirtual 193, 3) := by decide +kernel
theorem dX8_contains_5 : decode cX8_contains 5 = .ok (.ifCond .eq 5, 3) := by decide +kernel
theorem dX8_contains_8 : decode cX8_contains 8 = .ok (.iconst 0, 1) := by decide +kernel
theorem dX8_contains_9 : decode cX8_contains 9 = .ok (.ireturn, 1) := by decide +kernel
theorem dX8_contains_10 : decode cX8_contains 10 = .ok (.iload_n 2, 1) := by decide +kernel
theorem dX8_contains_11 : decode cX8_contains 11 = .ok (.iload_n 3, 1) := by decide +kernel
theorem dX8_contains_12 : decode cX8_contains 12 = .ok (.invokestatic 162, 3) := by decide +kernel
theorem dX8_contains_15 : decode cX8_contains 15 = .ok (.ifCond .ne 10, 3) := by decide +kernel
theorem dX8_contains_18 : decode cX8_contains 18 = .ok (.aload_n 0, 1) := by decide +kernel
theorem dX8_contains_19 : decode cX8_contains 19 = .ok (.iconst 3, 1) := by decide +kernel
theorem dX8_contains_20 : decode cX8_contains 20 = .ok (.putfield 86, 3) := by decide +kernel
theorem dX8_contains_23 : decode cX8_contains 23 = .ok (.iconst 0, 1) := by decide +kernel
theorem dX8_contains_24 : decode cX8_contains 24 = .ok (.ireturn, 1) := by decide +kernel
theorem dX8_contains_25 : decode cX8_contains 25 = .ok (.aload_n 0, 1) := by decide +kernel
theorem dX8_contains_26 : decode cX8_contains 26 = .ok (.iload_n 1, 1) := by decide +kernel
theorem dX8_contains_27 : decode cX8_contains 27 = .ok (.iload_n 2, 1) := by decide +kernel
theorem dX8_contains_28 : decode cX8_contains 28 = .ok (.iload_n 3, 1) := by decide +kernel
theorem dX8_contains_29 : decode cX8_contains 29 = .ok (.invokevirtual 216, 3) := by decide +kernel
theorem dX8_contains_32 : decode cX8_contains 32 = .ok (.ireturn, 1) := by decide +kernel
theorem dX8_surrounds_0 : decode cX8_surrounds 0 = .ok (.iload_n 1, 1) := by decide +kernel
theorem dX8_surrounds_1 : decode cX8_surrounds 1 = .ok (.iload_n 2, 1) := by decide +kernel
theorem dX8_surrounds_2 : decode cX8_surrounds 2 = .ok (.if_icmp .eq 11, 3) := by decide +kernel
theorem dX8_surrounds_5 : decode cX8_surrounds 5 = .ok (.aload_n 0, 1) := by decide +kernel
theorem dX8_surrounds_6 : decode cX8_surrounds 6 = .ok (.iload_n 1, 1) := by decide +kernel
theorem dX8_surrounds_7 : decode cX8_surrounds 7 = .ok (.invokevirtual 111, 3) := by decide +kernel
theorem dX8_surrounds_10 : decode cX8_surrounds 10 = .ok (.ifCond .ne 5, 3) := by decide +kernel
theorem dX8_surrounds_13 : decode cX8_surrounds 13 = .ok (.iconst 0, 1) := by decide +kernel
theorem dX8_surrounds_14 : decode cX8_surrounds 14 = .ok (.ireturn, 1) := by decide +kernel
theorem dX8_surrounds_15 : decode cX8_surrounds 15 = .ok (.iconst 0, 1) := by decide +kernel
theorem dX8_surrounds_16 : decode cX8_surrounds 16 = .ok (.istore_n 3, 1) := by decide +kernel
theorem dX8_surrounds_17 : decode cX8_surrounds 17 = .ok (.iload_n 3, 1) := by decide +kernel
theorem dX8_surrounds_18 : decode cX8_surrounds 18 = .ok (.aload_n 0, 1) := by decide +kernel
theorem dX8_surrounds_19 : decode cX8_surrounds 19 = .ok (.iload_n 2, 1) := by decide +kernel
theorem dX8_surrounds_20 : decode cX8_surrounds 20 = .ok (.invokevirtual 105, 3) := by decide +kernel
theorem dX8_surrounds_23 : decode cX8_surrounds 23 = .ok (.if_icmp .ge 31, 3) := by decide +kernel
theorem dX8_surrounds_26 : decode cX8_surrounds 26 = .ok (.aload_n 0, 1) := by decide +kernel
theorem dX8_surrounds_27 : decode cX8_surrounds 27 = .ok (.iload_n 1, 1) := by decide +kernel
theorem dX8_surrounds_28 : decode cX8_surrounds 28 = .ok (.aload_n 0, 1) := by decide +kernel
theorem dX8_surrounds_29 : decode cX8_surrounds 29 = .ok (.iload_n 2, 1) := by decide +kernel
theorem dX8_surrounds_30 : decode cX8_surrounds 30 = .ok (.iload_n 3, 1) := by decide +kernel
theorem dX8_surrounds_31 : decode cX8_surrounds 31 = .ok (.invokevirtual 126, 3) := by decide +kernel
theorem dX8_surrounds_34 : decode cX8_surrounds 34 = .ok (.aload_n 0, 1) := by decide +kernel
theorem dX8_surrounds_35 : decode cX8_surrounds 35 = .ok (.iload_n 2, 1) := by decide +kernel
theorem dX8_surrounds_36 : decode cX8_surrounds 36 = .ok (.iload_n 3, 1) := by decide +kernel
theorem dX8_surrounds_37 : decode cX8_surrounds 37 = .ok (.invokevirtual 130, 3) := by decide +kernel
theorem dX8_surrounds_40 : decode cX8_surrounds 40 = .ok (.invokevirtual 216, 3) := by decide +kernel
theorem dX8_surrounds_43 : decode cX8_surrounds 43 = .ok (.ifCond .ne 5, 3) := by decide +kernel
theorem dX8_surrounds_46 : decode cX8_surrounds 46 = .ok (.iconst 0, 1) := by decide +kernel
theorem dX8_surrounds_47 : decode cX8_surrounds 47 = .ok (.ireturn, 1) := by decide +kernel
theorem dX8_surrounds_48 : decode cX8_surrounds 48 = .ok (.iinc 3 1, 3) := by decide +kernel
theorem dX8_surrounds_51 : decode cX8_surrounds 51 = .ok (.goto (-34), 3) := by decide +kernel
theorem dX8_surrounds_54 : decode cX8_surrounds 54 = .ok (.iconst 1, 1) := by decide +kernel
theorem dX8_surrounds_55 : decode cX8_surrounds 55 = .ok (.ireturn, 1) := by decide +kernel
theorem dX8_encloses_0 : decode cX8_encloses 0 = .ok (.aload_n 0, 1) := by decide +kernel
theorem dX8_encloses_1 : decode cX8_encloses 1 = .ok (.iload_n 1, 1) := by decide +kernel
theorem dX8_encloses_2 : decode cX8_encloses 2 = .ok (.invokevirtual 101, 3) := by decide +kernel
theorem dX8_encloses_5 : decode cX8_encloses 5 = .ok (.ifCond .eq 15, 3) := by decide +kernel
theorem dX8_encloses_8 : decode cX8_encloses 8 = .ok (.aload_n 0, 1) := by decide +kernel
theorem dX8_encloses_9 : decode cX8_encloses 9 = .ok (.iload_n 2, 1) := by decide +kernel
theorem dX8_encloses_10 : decode cX8_encloses 10 = .ok (.invokevirtual 101, 3) := by decide +kernel
theorem dX8_encloses_13 : decode cX8_encloses 13 = .ok (.ifCond .eq 7, 3) := by decide +kernel
theorem dX8_encloses_16 : decode cX8_encloses 16 = .ok (.iconst 1, 1) := by decide +kernel
theorem dX8_encloses_17 : decode cX8_encloses 17 = .ok (.goto 4, 3) := by decide +kernel
theorem dX8_encloses_20 : decode cX8_encloses 20 = .ok (.iconst 0, 1) := by decide +kernel
theorem dX8_encloses_21 : decode cX8_encloses 21 = .ok (.istore_n 3, 1) := by decide +kernel
theorem dX8_encloses_22 : decode cX8_encloses 22 = .ok (.aload_n 0, 1) := by decide +kernel
theorem dX8_encloses_23 : decode cX8_encloses 23 = .ok (.iload_n 3, 1) := by decide +kernel
theorem dX8_encloses_24 : decode cX8_encloses 24 = .ok (.iload_n 3, 1) := by decide +kernel
theorem dX8_encloses_25 : decode cX8_encloses 25 = .ok (.ifCond .eq 15, 3) := by decide +kernel
theorem dX8_encloses_28 : decode cX8_encloses 28 = .ok (.aload_n 0, 1) := by decide +kernel
theorem dX8_encloses_29 : decode cX8_encloses 29 = .ok (.iload_n 1, 1) := by decide +kernel
theorem dX8_encloses_30 : decode cX8_encloses 30 = .ok (.invokevirtual 111, 3) := by decide +kernel
theorem dX8_encloses_33 : decode cX8_encloses 33 = .ok (.ifCond .eq 7, 3) := by decide +kernel
theorem dX8_encloses_36 : decode cX8_encloses 36 = .ok (.iconst 1, 1) := by decide +kernel
theorem dX8_encloses_37 : decode cX8_encloses 37 = .ok (.goto 4, 3) := by decide +kernel
theorem dX8_encloses_40 : decode cX8_encloses 40 = .ok (.iconst 0, 1) := by decide +kernel
theorem dX8_encloses_41 : decode cX8_encloses 41 = .ok (.invokevirtual 165, 3) := by decide +kernel
theorem dX8_encloses_44 : decode cX8_encloses 44 = .ok (.ifCond .ne 16, 3) := by decide +kernel
theorem dX8_encloses_47 : decode cX8_encloses 47 = .ok (.aload_n 0, 1) := by decide +kernel
theorem dX8_encloses_48 : decode cX8_encloses 48 = .ok (.iload_n 1, 1) := by decide +kernel
theorem dX8_encloses_49 : decode cX8_encloses 49 = .ok (.iload_n 2, 1) := by decide +kernel
theorem dX8_encloses_50 : decode cX8_encloses 50 = .ok (.invokevirtual 219, 3) := by decide +kernel
theorem dX8_encloses_53 : decode cX8_encloses 53 = .ok (.ifCond .eq 7, 3) := by decide +kernel
theorem dX8_encloses_56 : decode cX8_encloses 56 = .ok (.iconst 1, 1) := by decide +kernel
theorem dX8_encloses_57 : decode cX8_encloses 57 = .ok (.goto 4, 3) := by decide +kernel
theorem dX8_encloses_60 : decode cX8_encloses 60 = .ok (.iconst 0, 1) := by decide +kernel
theorem dX8_encloses_61 : decode cX8_encloses 61 = .ok (.ireturn, 1) := by decide +kernel
theorem dX8_innermostIslandAround_0 : decode cX8_innermostIslandAround 0 = .ok (.aload_n 0, 1) := by decide +kernel
theorem dX8_innermostIslandAround_1 : decode cX8_innermostIslandAround 1 = .ok (.aload_n 0, 1) := by decide +kernel
theorem dX8_innermostIslandAround_2 : decode cX8_innermostIslandAround 2 = .ok (.iload_n 1, 1) := by decide +kernel
theorem dX8_innermostIslandAround_3 : decode cX8_innermostIslandAround 3 = .ok (.invokevirtual 101, 3) := by decide +kernel
theorem dX8_innermostIslandAround_6 : decode cX8_innermostIslandAround 6 = .ok (.invokevirtual 89, 3) := by decide +kernel
theorem dX8_innermostIslandAround_9 : decode cX8_innermostIslandAround 9 = .ok (.ifCond .eq 5, 3) := by decide +kernel
theorem dX8_innermostIslandAround_12 : decode cX8_innermostIslandAround 12 = .ok (.iconst 0, 1) := by decide +kernel
theorem dX8_innermostIslandAround_13 : decode cX8_innermostIslandAround 13 = .ok (.ireturn, 1) := by decide +kernel
theorem dX8_innermostIslandAround_14 : decode cX8_innermostIslandAround 14 = .ok (.iconst (-1), 1) := by decide +kernel
theorem dX8_innermostIslandAround_15 : decode cX8_innermostIslandAround 15 = .ok (.istore_n 2, 1) := by decide +kernel
theorem dX8_innermostIslandAround_16 : decode cX8_innermostIslandAround 16 = .ok (.iconst 0, 1) := by decide +kernel
theorem dX8_innermostIslandAround_17 : decode cX8_innermostIslandAround 17 = .ok (.istore_n 3, 1) := by decide +kernel
theorem dX8_innermostIslandAround_18 : decode cX8_innermostIslandAround 18 = .ok (.iload_n 3, 1) := by decide +kernel
theorem dX8_innermostIslandAround_19 : decode cX8_innermostIslandAround 19 = .ok (.aload_n 0, 1) := by decide +kernel
theorem dX8_innermostIslandAround_20 : decode cX8_innermostIslandAround 20 = .ok (.getfield 25, 3) := by decide +kernel
theorem dX8_innermostIslandAround_23 : decode cX8_innermostIslandAround 23 = .ok (.iconst 1, 1) := by decide +kernel
theorem dX8_innermostIslandAround_24 : decode cX8_innermostIslandAround 24 = .ok (.iaload, 1) := by decide +kernel
theorem dX8_innermostIslandAround_25 : decode cX8_innermostIslandAround 25 = .ok (.if_icmp .ge 60, 3) := by decide +kernel
theorem dX8_innermostIslandAround_28 : decode cX8_innermostIslandAround 28 = .ok (.aload_n 0, 1) := by decide +kernel
theorem dX8_innermostIslandAround_29 : decode cX8_innermostIslandAround 29 = .ok (.iload_n 3, 1) := by decide +kernel
theorem dX8_innermostIslandAround_30 : decode cX8_innermostIslandAround 30 = .ok (.iload_n 1, 1) := by decide +kernel
theorem dX8_innermostIslandAround_31 : decode cX8_innermostIslandAround 31 = .ok (.invokevirtual 219, 3) := by decide +kernel
theorem dX8_innermostIslandAround_34 : decode cX8_innermostIslandAround 34 = .ok (.ifCond .eq 31, 3) := by decide +kernel
theorem dX8_innermostIslandAround_37 : decode cX8_innermostIslandAround 37 = .ok (.iload_n 2, 1) := by decide +kernel
theorem dX8_innermostIslandAround_38 : decode cX8_innermostIslandAround 38 = .ok (.iconst (-1), 1) := by decide +kernel
theorem dX8_innermostIslandAround_39 : decode cX8_innermostIslandAround 39 = .ok (.if_icmp .eq 22, 3) := by decide +kernel
theorem dX8_innermostIslandAround_42 : decode cX8_innermostIslandAround 42 = .ok (.aload_n 0, 1) := by decide +kernel
theorem dX8_innermostIslandAround_43 : decode cX8_innermostIslandAround 43 = .ok (.iload_n 3, 1) := by decide +kernel
theorem dX8_innermostIslandAround_44 : decode cX8_innermostIslandAround 44 = .ok (.invokevirtual 196, 3) := by decide +kernel
theorem dX8_innermostIslandAround_47 : decode cX8_innermostIslandAround 47 = .ok (.invokestatic 123, 3) := by decide +kernel
theorem dX8_innermostIslandAround_50 : decode cX8_innermostIslandAround 50 = .ok (.aload_n 0, 1) := by decide +kernel
theorem dX8_innermostIslandAround_51 : decode cX8_innermostIslandAround 51 = .ok (.iload_n 2, 1) := by decide +kernel
theorem dX8_innermostIslandAround_52 : decode cX8_innermostIslandAround 52 = .ok (.invokevirtual 196, 3) := by decide +kernel
theorem dX8_innermostIslandAround_55 : decode cX8_innermostIslandAround 55 = .ok (.invokestatic 123, 3) := by decide +kernel
theorem dX8_innermostIslandAround_58 : decode cX8_innermostIslandAround 58 = .ok (.if_icmp .ge 7, 3) := by decide +kernel
theorem dX8_innermostIslandAround_61 : decode cX8_innermostIslandAround 61 = .ok (.iconst 1, 1) := by decide +kernel
theorem dX8_innermostIslandAround_62 : decode cX8_innermostIslandAround 62 = .ok (.goto 4, 3) := by decide +kernel
theorem dX8_innermostIslandAround_65 : decode cX8_innermostIslandAround 65 = .ok (.iconst 0, 1) := by decide +kernel
theorem dX8_innermostIslandAround_66 : decode cX8_innermostIslandAround 66 = .ok (.istore 4, 2) := by decide +kernel
theorem dX8_innermostIslandAround_68 : decode cX8_innermostIslandAround 68 = .ok (.iload 4, 2) := by decide +kernel
theorem dX8_innermostIslandAround_70 : decode cX8_innermostIslandAround 70 = .ok (.ifCond .eq 7, 3) := by decide +kernel
theorem dX8_innermostIslandAround_73 : decode cX8_innermostIslandAround 73 = .ok (.iload_n 3, 1) := by decide +kernel
theorem dX8_innermostIslandAround_74 : decode cX8_innermostIslandAround 74 = .ok (.goto 4, 3) := by decide +kernel
theorem dX8_innermostIslandAround_77 : decode cX8_innermostIslandAround 77 = .ok (.iload_n 2, 1) := by decide +kernel
theorem dX8_innermostIslandAround_78 : decode cX8_innermostIslandAround 78 = .ok (.istore_n 2, 1) := by decide +kernel
theorem dX8_innermostIslandAround_79 : decode cX8_innermostIslandAround 79 = .ok (.iinc 3 1, 3) := by decide +kernel
theorem dX8_innermostIslandAround_82 : decode cX8_innermostIslandAround 82 = .ok (.goto (-64), 3) := by decide +kernel
theorem dX8_innermostIslandAround_85 : decode cX8_innermostIslandAround 85 = .ok (.iload_n 2, 1) := by decide +kernel
theorem dX8_innermostIslandAround_86 : decode cX8_innermostIslandAround 86 = .ok (.ireturn, 1) := by decide +kernel
theorem dX8_ringDepth_0 : decode cX8_ringDepth 0 = .ok (.aload_n 0, 1) := by decide +kernel
theorem dX8_ringDepth_1 : decode cX8_ringDepth 1 = .ok (.aload_n 0, 1) := by decide +kernel
theorem dX8_ringDepth_2 : decode cX8_ringDepth 2 = .ok (.iload_n 1, 1) := by decide +kernel
theorem dX8_ringDepth_3 : decode cX8_ringDepth 3 = .ok (.invokevirtual 101, 3) := by decide +kernel
theorem dX8_ringDepth_6 : decode cX8_ringDepth 6 = .ok (.invokevirtual 89, 3) := by decide +kernel
theorem dX8_ringDepth_9 : decode cX8_ringDepth 9 = .ok (.ifCond .eq 5, 3) := by decide +kernel
theorem dX8_ringDepth_12 : decode cX8_ringDepth 12 = .ok (.iconst 0, 1) := by decide +kernel
theorem dX8_ringDepth_13 : decode cX8_ringDepth 13 = .ok (.ireturn, 1) := by decide +kernel
theorem dX8_ringDepth_14 : decode cX8_ringDepth 14 = .ok (.iconst 0, 1) := by decide +kernel
theorem dX8_ringDepth_15 : decode cX8_ringDepth 15 = .ok (.istore_n 2, 1) := by decide +kernel
theorem dX8_ringDepth_16 : decode cX8_ringDepth 16 = .ok (.iconst 0, 1) := by decide +kernel
theorem dX8_ringDepth_17 : decode cX8_ringDepth 17 = .ok (.istore_n 3, 1) := by decide +kernel
theorem dX8_ringDepth_18 : decode cX8_ringDepth 18 = .ok (.iload_n 3, 1) := by decide +kernel
theorem dX8_ringDepth_19 : decode cX8_ringDepth 19 = .ok (.aload_n 0, 1) := by decide +kernel
theorem dX8_ringDepth_20 : decode cX8_ringDepth 20 = .ok (.getfield 25, 3) := by decide +kernel
theorem dX8_ringDepth_23 : decode cX8_ringDepth 23 = .ok (.iconst 1, 1) := by decide +kernel
theorem dX8_ringDepth_24 : decode cX8_ringDepth 24 = .ok (.iaload, 1) := by decide +kernel
theorem dX8_ringDepth_25 : decode cX8_ringDepth 25 = .ok (.if_icmp .ge 26, 3) := by decide +kernel
theorem dX8_ringDepth_28 : decode cX8_ringDepth 28 = .ok (.iload_n 2, 1) := by decide +kernel
theorem dX8_ringDepth_29 : decode cX8_ringDepth 29 = .ok (.aload_n 0, 1) := by decide +kernel
theorem dX8_ringDepth_30 : decode cX8_ringDepth 30 = .ok (.iload_n 3, 1) := by decide +kernel
theorem dX8_ringDepth_31 : decode cX8_ringDepth 31 = .ok (.iload_n 1, 1) := by decide +kernel
theorem dX8_ringDepth_32 : decode cX8_ringDepth 32 = .ok (.invokevirtual 219, 3) := by decide +kernel
theorem dX8_ringDepth_35 : decode cX8_ringDepth 35 = .ok (.ifCond .eq 7, 3) := by decide +kernel
theorem dX8_ringDepth_38 : decode cX8_ringDepth 38 = .ok (.iconst 1, 1) := by decide +kernel
theorem dX8_ringDepth_39 : decode cX8_ringDepth 39 = .ok (.goto 4, 3) := by decide +kernel
theorem dX8_ringDepth_42 : decode cX8_ringDepth 42 = .ok (.iconst 0, 1) := by decide +kernel
theorem dX8_ringDepth_43 : decode cX8_ringDepth 43 = .ok (.iadd, 1) := by decide +kernel
theorem dX8_ringDepth_44 : decode cX8_ringDepth 44 = .ok (.istore_n 2, 1) := by decide +kernel
theorem dX8_ringDepth_45 : decode cX8_ringDepth 45 = .ok (.iinc 3 1, 3) := by decide +kernel
theorem dX8_ringDepth_48 : decode cX8_ringDepth 48 = .ok (.goto (-30), 3) := by decide +kernel
theorem dX8_ringDepth_51 : decode cX8_ringDepth 51 = .ok (.iload_n 2, 1) := by decide +kernel
theorem dX8_ringDepth_52 : decode cX8_ringDepth 52 = .ok (.ireturn, 1) := by decide +kernel
theorem dX8_box_0 : decode cX8_box 0 = .ok (.sipush 1000, 3) := by decide +kernel
theorem dX8_box_3 : decode cX8_box 3 = .ok (.istore_n 3, 1) := by decide +kernel
theorem dX8_box_4 : decode cX8_box 4 = .ok (.sipush (-1000), 3) := by decide +kernel
theorem dX8_box_7 : decode cX8_box 7 = .ok (.istore 4, 2) := by decide +kernel
theorem dX8_box_9 : decode cX8_box 9 = .ok (.iconst 0, 1) := by decide +kernel
theorem dX8_box_10 : decode cX8_box 10 = .ok (.istore 5, 2) := by decide +kernel
theorem dX8_box_12 : decode cX8_box 12 = .ok (.iload 5, 2) := by decide +kernel
theorem dX8_box_14 : decode cX8_box 14 = .ok (.aload_n 0, 1) := by decide +kernel
theorem dX8_box_15 : decode cX8_box 15 = .ok (.iload_n 1, 1) := by decide +kernel
theorem dX8_box_16 : decode cX8_box 16 = .ok (.invokevirtual 105, 3) := by decide +kernel
theorem dX8_box_19 : decode cX8_box 19 = .ok (.if_icmp .ge 58, 3) := by decide +kernel
theorem dX8_box_22 : decode cX8_box 22 = .ok (.aload_n 0, 1) := by decide +kernel
theorem dX8_box_23 : decode cX8_box 23 = .ok (.getfield 25, 3) := by decide +kernel
theorem dX8_box_26 : decode cX8_box 26 = .ok (.iload_n 1, 1) := by decide +kernel
theorem dX8_box_27 : decode cX8_box 27 = .ok (.invokestatic 97, 3) := by decide +kernel
theorem dX8_box_30 : decode cX8_box 30 = .ok (.iconst 2, 1) := by decide +kernel
theorem dX8_box_31 : decode cX8_box 31 = .ok (.iadd, 1) := by decide +kernel
theorem dX8_box_32 : decode cX8_box 32 = .ok (.iconst 2, 1) := by decide +kernel
theorem dX8_box_33 : decode cX8_box 33 = .ok (.iload 5, 2) := by decide +kernel
theorem dX8_box_35 : decode cX8_box 35 = .ok (.imul, 1) := by decide +kernel
theorem dX8_box_36 : decode cX8_box 36 = .ok (.iadd, 1) := by decide +kernel
theorem dX8_box_37 : decode cX8_box 37 = .ok (.iload_n 2, 1) := by decide +kernel
theorem dX8_box_38 : decode cX8_box 38 = .ok (.iadd, 1) := by decide +kernel
theorem dX8_box_39 : decode cX8_box 39 = .ok (.iaload, 1) := by decide +kernel
theorem dX8_box_40 : decode cX8_box 40 = .ok (.istore 6, 2) := by decide +kernel
theorem dX8_box_42 : decode cX8_box 42 = .ok (.iload 6, 2) := by decide +kernel
theorem dX8_box_44 : decode cX8_box 44 = .ok (.iload_n 3, 1) := by decide +kernel
theorem dX8_box_45 : decode cX8_box 45 = .ok (.if_icmp .ge 8, 3) := by decide +kernel
theorem dX8_box_48 : decode cX8_box 48 = .ok (.iload 6, 2) := by decide +kernel
theorem dX8_box_50 : decode cX8_box 50 = .ok (.goto 4, 3) := by decide +kernel
theorem dX8_box_53 : decode cX8_box 53 = .ok (.iload_n 3, 1) := by decide +kernel
theorem dX8_box_54 : decode cX8_box 54 = .ok (.istore_n 3, 1) := by decide +kernel
theorem dX8_box_55 : decode cX8_box 55 = .ok (.iload 6, 2) := by decide +kernel
theorem dX8_box_57 : decode cX8_box 57 = .ok (.iload 4, 2) := by decide +kernel
theorem dX8_box_59 : decode cX8_box 59 = .ok (.if_icmp .le 8, 3) := by decide +kernel
theorem dX8_box_62 : decode cX8_box 62 = .ok (.iload 6, 2) := by decide +kernel
theorem dX8_box_64 : decode cX8_box 64 = .ok (.goto 5, 3) := by decide +kernel
theorem dX8_box_67 : decode cX8_box 67 = .ok (.iload 4, 2) := by decide +kernel
theorem dX8_box_69 : decode cX8_box 69 = .ok (.istore 4, 2) := by decide +kernel
theorem dX8_box_71 : decode cX8_box 71 = .ok (.iinc 5 1, 3) := by decide +kernel
theorem dX8_box_74 : decode cX8_box 74 = .ok (.goto (-62), 3) := by decide +kernel
theorem dX8_box_77 : decode cX8_box 77 = .ok (.iload 4, 2) := by decide +kernel
theorem dX8_box_79 : decode cX8_box 79 = .ok (.iload_n 3, 1) := by decide +kernel
theorem dX8_box_80 : decode cX8_box 80 = .ok (.isub, 1) := by decide +kernel
theorem dX8_box_81 : decode cX8_box 81 = .ok (.ireturn, 1) := by decide +kernel
theorem dX8_boxWidth_0 : decode cX8_boxWidth 0 = .ok (.aload_n 0, 1) := by decide +kernel
theorem dX8_boxWidth_1 : decode cX8_boxWidth 1 = .ok (.aload_n 0, 1) := by decide +kernel
theorem dX8_boxWidth_2 : decode cX8_boxWidth 2 = .ok (.iload_n 1, 1) := by decide +kernel
theorem dX8_boxWidth_3 : decode cX8_boxWidth 3 = .ok (.invokevirtual 101, 3) := by decide +kernel
theorem dX8_boxWidth_6 : decode cX8_boxWidth 6 = .ok (.invokevirtual 89, 3) := by decide +kernel
theorem dX8_boxWidth_9 : decode cX8_boxWidth 9 = .ok (.ifCond .eq 7, 3) := by decide +kernel
theorem dX8_boxWidth_12 : decode cX8_boxWidth 12 = .ok (.iconst 0, 1) := by decide +kernel
theorem dX8_boxWidth_13 : decode cX8_boxWidth 13 = .ok (.goto 9, 3) := by decide +kernel
theorem dX8_boxWidth_16 : decode cX8_boxWidth 16 = .ok (.aload_n 0, 1) := by decide +kernel
theorem dX8_boxWidth_17 : decode cX8_boxWidth 17 = .ok (.iload_n 1, 1) := by decide +kernel
theorem dX8_boxWidth_18 : decode cX8_boxWidth 18 = .ok (.iconst 0, 1) := by decide +kernel
theorem dX8_boxWidth_19 : decode cX8_boxWidth 19 = .ok (.invokevirtual 222, 3) := by decide +kernel
theorem dX8_boxWidth_22 : decode cX8_boxWidth 22 = .ok (.ireturn, 1) := by decide +kernel
theorem dX8_boxHeight_0 : decode cX8_boxHeight 0 = .ok (.aload_n 0, 1) := by decide +kernel
theorem dX8_boxHeight_1 : decode cX8_boxHeight 1 = .ok (.aload_n 0, 1) := by decide +kernel
theorem dX8_boxHeight_2 : decode cX8_boxHeight 2 = .ok (.iload_n 1, 1) := by decide +kernel
theorem dX8_boxHeight_3 : decode cX8_boxHeight 3 = .ok (.invokevirtual 101, 3) := by decide +kernel
theorem dX8_boxHeight_6 : decode cX8_boxHeight 6 = .ok (.invokevirtual 89, 3) := by decide +kernel
theorem dX8_boxHeight_9 : decode cX8_boxHeight 9 = .ok (.ifCond .eq 7, 3) := by decide +kernel
theorem dX8_boxHeight_12 : decode cX8_boxHeight 12 = .ok (.iconst 0, 1) := by decide +kernel
theorem dX8_boxHeight_13 : decode cX8_boxHeight 13 = .ok (.goto 9, 3) := by decide +kernel
theorem dX8_boxHeight_16 : decode cX8_boxHeight 16 = .ok (.aload_n 0, 1) := by decide +kernel
theorem dX8_boxHeight_17 : decode cX8_boxHeight 17 = .ok (.iload_n 1, 1) := by decide +kernel
theorem dX8_boxHeight_18 : decode cX8_boxHeight 18 = .ok (.iconst 1, 1) := by decide +kernel
theorem dX8_boxHeight_19 : decode cX8_boxHeight 19 = .ok (.invokevirtual 222, 3) := by decide +kernel
theorem dX8_boxHeight_22 : decode cX8_boxHeight 22 = .ok (.ireturn, 1) := by decide +kernel
theorem dX8_foldedCount_0 : decode cX8_foldedCount 0 = .ok (.aload_n 0, 1) := by decide +kernel
theorem dX8_foldedCount_1 : decode cX8_foldedCount 1 = .ok (.iload_n 1, 1) := by decide +kernel
theorem dX8_foldedCount_2 : decode cX8_foldedCount 2 = .ok (.invokevirtual 111, 3) := by decide +kernel
theorem dX8_foldedCount_5 : decode cX8_foldedCount 5 = .ok (.ifCond .eq 13, 3) := by decide +kernel
theorem dX8_foldedCount_8 : decode cX8_foldedCount 8 = .ok (.iconst 2, 1) := by decide +kernel
theorem dX8_foldedCount_9 : decode cX8_foldedCount 9 = .ok (.aload_n 0, 1) := by decide +kernel
theorem dX8_foldedCount_10 : decode cX8_foldedCount 10 = .ok (.iload_n 1, 1) := by decide +kernel
theorem dX8_foldedCount_11 : decode cX8_foldedCount 11 = .ok (.invokevirtual 105, 3) := by decide +kernel
theorem dX8_foldedCount_14 : decode cX8_foldedCount 14 = .ok (.imul, 1) := by decide +kernel
theorem dX8_foldedCount_15 : decode cX8_foldedCount 15 = .ok (.goto 12, 3) := by decide +kernel
theorem dX8_foldedCount_18 : decode cX8_foldedCount 18 = .ok (.iconst 2, 1) := by decide +kernel
theorem dX8_foldedCount_19 : decode cX8_foldedCount 19 = .ok (.aload_n 0, 1) := by decide +kernel
theorem dX8_foldedCount_20 : decode cX8_foldedCount 20 = .ok (.iload_n 1, 1) := by decide +kernel
theorem dX8_foldedCount_21 : decode cX8_foldedCount 21 = .ok (.invokevirtual 105, 3) := by decide +kernel
theorem dX8_foldedCount_24 : decode cX8_foldedCount 24 = .ok (.imul, 1) := by decide +kernel
theorem dX8_foldedCount_25 : decode cX8_foldedCount 25 = .ok (.iconst 1, 1) := by decide +kernel
theorem dX8_foldedCount_26 : decode cX8_foldedCount 26 = .ok (.isub, 1) := by decide +kernel
theorem dX8_foldedCount_27 : decode cX8_foldedCount 27 = .ok (.ireturn, 1) := by decide +kernel
theorem dX8_layMiddle_0 : decode cX8_layMiddle 0 = .ok (.aload_n 0, 1) := by decide +kernel
theorem dX8_layMiddle_1 : decode cX8_layMiddle 1 = .ok (.iload_n 1, 1) := by decide +kernel
theorem dX8_layMiddle_2 : decode cX8_layMiddle 2 = .ok (.iload_n 2, 1) := by decide +kernel
theorem dX8_layMiddle_3 : decode cX8_layMiddle 3 = .ok (.invokevirtual 190, 3) := by decide +kernel
theorem dX8_layMiddle_6 : decode cX8_layMiddle 6 = .ok (.istore 4, 2) := by decide +kernel
theorem dX8_layMiddle_8 : decode cX8_layMiddle 8 = .ok (.aload_n 0, 1) := by decide +kernel
theorem dX8_layMiddle_9 : decode cX8_layMiddle 9 = .ok (.iload_n 1, 1) := by decide +kernel
theorem dX8_layMiddle_10 : decode cX8_layMiddle 10 = .ok (.iload 4, 2) := by decide +kernel
theorem dX8_layMiddle_12 : decode cX8_layMiddle 12 = .ok (.invokevirtual 126, 3) := by decide +kernel
theorem dX8_layMiddle_15 : decode cX8_layMiddle 15 = .ok (.aload_n 0, 1) := by decide +kernel
theorem dX8_layMiddle_16 : decode cX8_layMiddle 16 = .ok (.iload_n 1, 1) := by decide +kernel
theorem dX8_layMiddle_17 : decode cX8_layMiddle 17 = .ok (.iload_n 2, 1) := by decide +kernel
theorem dX8_layMiddle_18 : decode cX8_layMiddle 18 = .ok (.invokevirtual 126, 3) := by decide +kernel
theorem dX8_layMiddle_21 : decode cX8_layMiddle 21 = .ok (.isub, 1) := by decide +kernel
theorem dX8_layMiddle_22 : decode cX8_layMiddle 22 = .ok (.istore 5, 2) := by decide +kernel
theorem dX8_layMiddle_24 : decode cX8_layMiddle 24 = .ok (.aload_n 0, 1) := by decide +kernel
theorem dX8_layMiddle_25 : decode cX8_layMiddle 25 = .ok (.iload_n 1, 1) := by decide +kernel
theorem dX8_layMiddle_26 : decode cX8_layMiddle 26 = .ok (.iload 4, 2) := by decide +kernel
theorem dX8_layMiddle_28 : decode cX8_layMiddle 28 = .ok (.invokevirtual 130, 3) := by decide +kernel
theorem dX8_layMiddle_31 : decode cX8_layMiddle 31 = .ok (.aload_n 0, 1) := by decide +kernel
theorem dX8_layMiddle_32 : decode cX8_layMiddle 32 = .ok (.iload_n 1, 1) := by decide +kernel
theorem dX8_layMiddle_33 : decode cX8_layMiddle 33 = .ok (.iload_n 2, 1) := by decide +kernel
theorem dX8_layMiddle_34 : decode cX8_layMiddle 34 = .ok (.invokevirtual 130, 3) := by decide +kernel
theorem dX8_layMiddle_37 : decode cX8_layMiddle 37 = .ok (.isub, 1) := by decide +kernel
theorem dX8_layMiddle_38 : decode cX8_layMiddle 38 = .ok (.istore 6, 2) := by decide +kernel
theorem dX8_layMiddle_40 : decode cX8_layMiddle 40 = .ok (.aload_n 0, 1) := by decide +kernel
theorem dX8_layMiddle_41 : decode cX8_layMiddle 41 = .ok (.iload_n 1, 1) := by decide +kernel
theorem dX8_layMiddle_42 : decode cX8_layMiddle 42 = .ok (.iload_n 2, 1) := by decide +kernel
theorem dX8_layMiddle_43 : decode cX8_layMiddle 43 = .ok (.invokevirtual 126, 3) := by decide +kernel
theorem dX8_layMiddle_46 : decode cX8_layMiddle 46 = .ok (.aload_n 0, 1) := by decide +kernel
theorem dX8_layMiddle_47 : decode cX8_layMiddle 47 = .ok (.iload_n 1, 1) := by decide +kernel
theorem dX8_layMiddle_48 : decode cX8_layMiddle 48 = .ok (.iload 4, 2) := by decide +kernel
theorem dX8_layMiddle_50 : decode cX8_layMiddle 50 = .ok (.invokevirtual 126, 3) := by decide +kernel
theorem dX8_layMiddle_53 : decode cX8_layMiddle 53 = .ok (.iadd, 1) := by decide +kernel
theorem dX8_layMiddle_54 : decode cX8_layMiddle 54 = .ok (.iconst 1, 1) := by decide +kernel
theorem dX8_layMiddle_55 : decode cX8_layMiddle 55 = .ok (.ishr, 1) := by decide +kernel
theorem dX8_layMiddle_56 : decode cX8_layMiddle 56 = .ok (.istore 7, 2) := by decide +kernel
theorem dX8_layMiddle_58 : decode cX8_layMiddle 58 = .ok (.aload_n 0, 1) := by decide +kernel
theorem dX8_layMiddle_59 : decode cX8_layMiddle 59 = .ok (.iload_n 1, 1) := by decide +kernel
theorem dX8_layMiddle_60 : decode cX8_layMiddle 60 = .ok (.iload_n 2, 1) := by decide +kernel
theorem dX8_layMiddle_61 : decode cX8_layMiddle 61 = .ok (.invokevirtual 130, 3) := by decide +kernel
theorem dX8_layMiddle_64 : decode cX8_layMiddle 64 = .ok (.aload_n 0, 1) := by decide +kernel
theorem dX8_layMiddle_65 : decode cX8_layMiddle 65 = .ok (.iload_n 1, 1) := by decide +kernel
theorem dX8_layMiddle_66 : decode cX8_layMiddle 66 = .ok (.iload 4, 2) := by decide +kernel
theorem dX8_layMiddle_68 : decode cX8_layMiddle 68 = .ok (.invokevirtual 130, 3) := by decide +kernel
theorem dX8_layMiddle_71 : decode cX8_layMiddle 71 = .ok (.iadd, 1) := by decide +kernel
theorem dX8_layMiddle_72 : decode cX8_layMiddle 72 = .ok (.iconst 1, 1) := by decide +kernel
theorem dX8_layMiddle_73 : decode cX8_layMiddle 73 = .ok (.ishr, 1) := by decide +kernel
theorem dX8_layMiddle_74 : decode cX8_layMiddle 74 = .ok (.istore 8, 2) := by decide +kernel
theorem dX8_layMiddle_76 : decode cX8_layMiddle 76 = .ok (.iload_n 2, 1) := by decide +kernel
theorem dX8_layMiddle_77 : decode cX8_layMiddle 77 = .ok (.iconst 2, 1) := by decide +kernel
theorem dX8_layMiddle_78 : decode cX8_layMiddle 78 = .ok (.irem, 1) := by decide +kernel
theorem dX8_layMiddle_79 : decode cX8_layMiddle 79 = .ok (.ifCond .ne 7, 3) := by decide +kernel
theorem dX8_layMiddle_82 : decode cX8_layMiddle 82 = .ok (.iload_n 3, 1) := by decide +kernel
theorem dX8_layMiddle_83 : decode cX8_layMiddle 83 = .ok (.goto 5, 3) := by decide +kernel
theorem dX8_layMiddle_86 : decode cX8_layMiddle 86 = .ok (.iload_n 3, 1) := by decide +kernel
theorem dX8_layMiddle_87 : decode cX8_layMiddle 87 = .ok (.ineg, 1) := by decide +kernel
theorem dX8_layMiddle_88 : decode cX8_layMiddle 88 = .ok (.istore 9, 2) := by decide +kernel
theorem dX8_layMiddle_90 : decode cX8_layMiddle 90 = .ok (.iload 5, 2) := by decide +kernel
theorem dX8_layMiddle_92 : decode cX8_layMiddle 92 = .ok (.invokestatic 123, 3) := by decide +kernel
theorem dX8_layMiddle_95 : decode cX8_layMiddle 95 = .ok (.iload 6, 2) := by decide +kernel
theorem dX8_layMiddle_97 : decode cX8_layMiddle 97 = .ok (.invokestatic 123, 3) := by decide +kernel
theorem dX8_layMiddle_100 : decode cX8_layMiddle 100 = .ok (.if_icmp .lt 7, 3) := by decide +kernel
theorem dX8_layMiddle_103 : decode cX8_layMiddle 103 = .ok (.iconst 1, 1) := by decide +kernel
theorem dX8_layMiddle_104 : decode cX8_layMiddle 104 = .ok (.goto 4, 3) := by decide +kernel
theorem dX8_layMiddle_107 : decode cX8_layMiddle 107 = .ok (.iconst 0, 1) := by decide +kernel
theorem dX8_layMiddle_108 : decode cX8_layMiddle 108 = .ok (.istore 10, 2) := by decide +kernel
theorem dX8_layMiddle_110 : decode cX8_layMiddle 110 = .ok (.aload_n 0, 1) := by decide +kernel
theorem dX8_layMiddle_111 : decode cX8_layMiddle 111 = .ok (.bipush 6, 2) := by decide +kernel
theorem dX8_layMiddle_113 : decode cX8_layMiddle 113 = .ok (.iconst 2, 1) := by decide +kernel
theorem dX8_layMiddle_114 : decode cX8_layMiddle 114 = .ok (.iload_n 2, 1) := by decide +kernel
theorem dX8_layMiddle_115 : decode cX8_layMiddle 115 = .ok (.imul, 1) := by decide +kernel
theorem dX8_layMiddle_116 : decode cX8_layMiddle 116 = .ok (.iconst 1, 1) := by decide +kernel
theorem dX8_layMiddle_117 : decode cX8_layMiddle 117 = .ok (.iadd, 1) := by decide +kernel
theorem dX8_layMiddle_118 : decode cX8_layMiddle 118 = .ok (.iload 10, 2) := by decide +kernel
theorem dX8_layMiddle_120 : decode cX8_layMiddle 120 = .ok (.ifCond .eq 8, 3) := by decide +kernel
theorem dX8_layMiddle_123 : decode cX8_layMiddle 123 = .ok (.iload 7, 2) := by decide +kernel
theorem dX8_layMiddle_125 : decode cX8_layMiddle 125 = .ok (.goto 8, 3) := by decide +kernel
theorem dX8_layMiddle_128 : decode cX8_layMiddle 128 = .ok (.iload 7, 2) := by decide +kernel
theorem dX8_layMiddle_130 : decode cX8_layMiddle 130 = .ok (.iload 9, 2) := by decide +kernel
theorem dX8_layMiddle_132 : decode cX8_layMiddle 132 = .ok (.iadd, 1) := by decide +kernel
theorem dX8_layMiddle_133 : decode cX8_layMiddle 133 = .ok (.iload 10, 2) := by decide +kernel
theorem dX8_layMiddle_135 : decode cX8_layMiddle 135 = .ok (.ifCond .eq 11, 3) := by decide +kernel
theorem dX8_layMiddle_138 : decode cX8_layMiddle 138 = .ok (.iload 8, 2) := by decide +kernel
theorem dX8_layMiddle_140 : decode cX8_layMiddle 140 = .ok (.iload 9, 2) := by decide +kernel
theorem dX8_layMiddle_142 : decode cX8_layMiddle 142 = .ok (.iadd, 1) := by decide +kernel
theorem dX8_layMiddle_143 : decode cX8_layMiddle 143 = .ok (.goto 5, 3) := by decide +kernel
theorem dX8_layMiddle_146 : decode cX8_layMiddle 146 = .ok (.iload 8, 2) := by decide +kernel
theorem dX8_layMiddle_148 : decode cX8_layMiddle 148 = .ok (.invokevirtual 225, 3) := by decide +kernel
theorem dX8_layMiddle_151 : decode cX8_layMiddle 151 = .ok (.iload 10, 2) := by decide +kernel
theorem dX8_layMiddle_153 : decode cX8_layMiddle 153 = .ok (.ifCond .eq 8, 3) := by decide +kernel
theorem dX8_layMiddle_156 : decode cX8_layMiddle 156 = .ok (.iload 7, 2) := by decide +kernel
theorem dX8_layMiddle_158 : decode cX8_layMiddle 158 = .ok (.goto 8, 3) := by decide +kernel
theorem dX8_layMiddle_161 : decode cX8_layMiddle 161 = .ok (.iload 7, 2) := by decide +kernel
theorem dX8_layMiddle_163 : decode cX8_layMiddle 163 = .ok (.iload 9, 2) := by decide +kernel
theorem dX8_layMiddle_165 : decode cX8_layMiddle 165 = .ok (.iadd, 1) := by decide +kernel
theorem dX8_layMiddle_166 : decode cX8_layMiddle 166 = .ok (.iload 10, 2) := by decide +kernel
theorem dX8_layMiddle_168 : decode cX8_layMiddle 168 = .ok (.ifCond .eq 11, 3) := by decide +kernel
theorem dX8_layMiddle_171 : decode cX8_layMiddle 171 = .ok (.iload 8, 2) := by decide +kernel
theorem dX8_layMiddle_173 : decode cX8_layMiddle 173 = .ok (.iload 9, 2) := by decide +kernel
theorem dX8_layMiddle_175 : decode cX8_layMiddle 175 = .ok (.iadd, 1) := by decide +kernel
theorem dX8_layMiddle_176 : decode cX8_layMiddle 176 = .ok (.goto 5, 3) := by decide +kernel
theorem dX8_layMiddle_179 : decode cX8_layMiddle 179 = .ok (.iload 8, 2) := by decide +kernel
theorem dX8_layMiddle_181 : decode cX8_layMiddle 181 = .ok (.invokestatic 162, 3) := by decide +kernel
theorem dX8_layMiddle_184 : decode cX8_layMiddle 184 = .ok (.ireturn, 1) := by decide +kernel
theorem dX8_layFolded_0 : decode cX8_layFolded 0 = .ok (.aload_n 0, 1) := by decide +kernel
theorem dX8_layFolded_1 : decode cX8_layFolded 1 = .ok (.iload_n 1, 1) := by decide +kernel
theorem dX8_layFolded_2 : decode cX8_layFolded 2 = .ok (.invokevirtual 229, 3) := by decide +kernel
theorem dX8_layFolded_5 : decode cX8_layFolded 5 = .ok (.istore_n 3, 1) := by decide +kernel
theorem dX8_layFolded_6 : decode cX8_layFolded 6 = .ok (.iload_n 3, 1) := by decide +kernel
theorem dX8_layFolded_7 : decode cX8_layFolded 7 = .ok (.sipush 129, 3) := by decide +kernel
theorem dX8_layFolded_10 : decode cX8_layFolded 10 = .ok (.if_icmp .le 5, 3) := by decide +kernel
theorem dX8_layFolded_13 : decode cX8_layFolded 13 = .ok (.iconst 1, 1) := by decide +kernel
theorem dX8_layFolded_14 : decode cX8_layFolded 14 = .ok (.ireturn, 1) := by decide +kernel
theorem dX8_layFolded_15 : decode cX8_layFolded 15 = .ok (.aload_n 0, 1) := by decide +kernel
theorem dX8_layFolded_16 : decode cX8_layFolded 16 = .ok (.getfield 25, 3) := by decide +kernel
theorem dX8_layFolded_19 : decode cX8_layFolded 19 = .ok (.bipush 6, 2) := by decide +kernel
theorem dX8_layFolded_21 : decode cX8_layFolded 21 = .ok (.invokestatic 97, 3) := by decide +kernel
theorem dX8_layFolded_24 : decode cX8_layFolded 24 = .ok (.iconst 0, 1) := by decide +kernel
theorem dX8_layFolded_25 : decode cX8_layFolded 25 = .ok (.iadd, 1) := by decide +kernel
theorem dX8_layFolded_26 : decode cX8_layFolded 26 = .ok (.aload_n 0, 1) := by decide +kernel
theorem dX8_layFolded_27 : decode cX8_layFolded 27 = .ok (.getfield 25, 3) := by decide +kernel
theorem dX8_layFolded_30 : decode cX8_layFolded 30 = .ok (.iload_n 1, 1) := by decide +kernel
theorem dX8_layFolded_31 : decode cX8_layFolded 31 = .ok (.invokestatic 97, 3) := by decide +kernel
theorem dX8_layFolded_34 : decode cX8_layFolded 34 = .ok (.iconst 0, 1) := by decide +kernel
theorem dX8_layFolded_35 : decode cX8_layFolded 35 = .ok (.iadd, 1) := by decide +kernel
theorem dX8_layFolded_36 : decode cX8_layFolded 36 = .ok (.iaload, 1) := by decide +kernel
theorem dX8_layFolded_37 : decode cX8_layFolded 37 = .ok (.iastore, 1) := by decide +kernel
theorem dX8_layFolded_38 : decode cX8_layFolded 38 = .ok (.aload_n 0, 1) := by decide +kernel
theorem dX8_layFolded_39 : decode cX8_layFolded 39 = .ok (.getfield 25, 3) := by decide +kernel
theorem dX8_layFolded_42 : decode cX8_layFolded 42 = .ok (.bipush 6, 2) := by decide +kernel
theorem dX8_layFolded_44 : decode cX8_layFolded 44 = .ok (.invokestatic 97, 3) := by decide +kernel
theorem dX8_layFolded_47 : decode cX8_layFolded 47 = .ok (.iconst 1, 1) := by decide +kernel
theorem dX8_layFolded_48 : decode cX8_layFolded 48 = .ok (.iadd, 1) := by decide +kernel
theorem dX8_layFolded_49 : decode cX8_layFolded 49 = .ok (.iload_n 3, 1) := by decide +kernel
theorem dX8_layFolded_50 : decode cX8_layFolded 50 = .ok (.iastore, 1) := by decide +kernel
theorem dX8_layFolded_51 : decode cX8_layFolded 51 = .ok (.iconst 1, 1) := by decide +kernel
theorem dX8_layFolded_52 : decode cX8_layFolded 52 = .ok (.istore 4, 2) := by decide +kernel
theorem dX8_layFolded_54 : decode cX8_layFolded 54 = .ok (.iconst 0, 1) := by decide +kernel
theorem dX8_layFolded_55 : decode cX8_layFolded 55 = .ok (.istore 5, 2) := by decide +kernel
theorem dX8_layFolded_57 : decode cX8_layFolded 57 = .ok (.iload 5, 2) := by decide +kernel
theorem dX8_layFolded_59 : decode cX8_layFolded 59 = .ok (.aload_n 0, 1) := by decide +kernel
theorem dX8_layFolded_60 : decode cX8_layFolded 60 = .ok (.iload_n 1, 1) := by decide +kernel
theorem dX8_layFolded_61 : decode cX8_layFolded 61 = .ok (.invokevirtual 105, 3) := by decide +kernel
theorem dX8_layFolded_64 : decode cX8_layFolded 64 = .ok (.if_icmp .ge 56, 3) := by decide +kernel
theorem dX8_layFolded_67 : decode cX8_layFolded 67 = .ok (.aload_n 0, 1) := by decide +kernel
theorem dX8_layFolded_68 : decode cX8_layFolded 68 = .ok (.bipush 6, 2) := by decide +kernel
theorem dX8_layFolded_70 : decode cX8_layFolded 70 = .ok (.iconst 2, 1) := by decide +kernel
theorem dX8_layFolded_71 : decode cX8_layFolded 71 = .ok (.iload 5, 2) := by decide +kernel
theorem dX8_layFolded_73 : decode cX8_layFolded 73 = .ok (.imul, 1) := by decide +kernel
theorem dX8_layFolded_74 : decode cX8_layFolded 74 = .ok (.aload_n 0, 1) := by decide +kernel
theorem dX8_layFolded_75 : decode cX8_layFolded 75 = .ok (.iload_n 1, 1) := by decide +kernel
theorem dX8_layFolded_76 : decode cX8_layFolded 76 = .ok (.iload 5, 2) := by decide +kernel
theorem dX8_layFolded_78 : decode cX8_layFolded 78 = .ok (.invokevirtual 126, 3) := by decide +kernel
theorem dX8_layFolded_81 : decode cX8_layFolded 81 = .ok (.aload_n 0, 1) := by decide +kernel
theorem dX8_layFolded_82 : decode cX8_layFolded 82 = .ok (.iload_n 1, 1) := by decide +kernel
theorem dX8_layFolded_83 : decode cX8_layFolded 83 = .ok (.iload 5, 2) := by decide +kernel
theorem dX8_layFolded_85 : decode cX8_layFolded 85 = .ok (.invokevirtual 130, 3) := by decide +kernel
theorem dX8_layFolded_88 : decode cX8_layFolded 88 = .ok (.invokevirtual 225, 3) := by decide +kernel
theorem dX8_layFolded_91 : decode cX8_layFolded 91 = .ok (.iconst 2, 1) := by decide +kernel
theorem dX8_layFolded_92 : decode cX8_layFolded 92 = .ok (.iload 5, 2) := by decide +kernel
theorem dX8_layFolded_94 : decode cX8_layFolded 94 = .ok (.imul, 1) := by decide +kernel
theorem dX8_layFolded_95 : decode cX8_layFolded 95 = .ok (.iconst 1, 1) := by decide +kernel
theorem dX8_layFolded_96 : decode cX8_layFolded 96 = .ok (.iadd, 1) := by decide +kernel
theorem dX8_layFolded_97 : decode cX8_layFolded 97 = .ok (.iload_n 3, 1) := by decide +kernel
theorem dX8_layFolded_98 : decode cX8_layFolded 98 = .ok (.if_icmp .ge 16, 3) := by decide +kernel
theorem dX8_layFolded_101 : decode cX8_layFolded 101 = .ok (.iload 4, 2) := by decide +kernel
theorem dX8_layFolded_103 : decode cX8_layFolded 103 = .ok (.aload_n 0, 1) := by decide +kernel
theorem dX8_layFolded_104 : decode cX8_layFolded 104 = .ok (.iload_n 1, 1) := by decide +kernel
theorem dX8_layFolded_105 : decode cX8_layFolded 105 = .ok (.iload 5, 2) := by decide +kernel
theorem dX8_layFolded_107 : decode cX8_layFolded 107 = .ok (.iload_n 2, 1) := by decide +kernel
theorem dX8_layFolded_108 : decode cX8_layFolded 108 = .ok (.invokevirtual 232, 3) := by decide +kernel
theorem dX8_layFolded_111 : decode cX8_layFolded 111 = .ok (.iand, 1) := by decide +kernel
theorem dX8_layFolded_112 : decode cX8_layFolded 112 = .ok (.istore 4, 2) := by decide +kernel
theorem dX8_layFolded_114 : decode cX8_layFolded 114 = .ok (.iinc 5 1, 3) := by decide +kernel
theorem dX8_layFolded_117 : decode cX8_layFolded 117 = .ok (.goto (-60), 3) := by decide +kernel
theorem dX8_layFolded_120 : decode cX8_layFolded 120 = .ok (.iload 4, 2) := by decide +kernel
theorem dX8_layFolded_122 : decode cX8_layFolded 122 = .ok (.ifCond .eq 7, 3) := by decide +kernel
theorem dX8_layFolded_125 : decode cX8_layFolded 125 = .ok (.iconst 0, 1) := by decide +kernel
theorem dX8_layFolded_126 : decode cX8_layFolded 126 = .ok (.goto 4, 3) := by decide +kernel
theorem dX8_layFolded_129 : decode cX8_layFolded 129 = .ok (.iconst 2, 1) := by decide +kernel
theorem dX8_layFolded_130 : decode cX8_layFolded 130 = .ok (.ireturn, 1) := by decide +kernel
theorem dX8_foldObstacle_0 : decode cX8_foldObstacle 0 = .ok (.aload_n 0, 1) := by decide +kernel
theorem dX8_foldObstacle_1 : decode cX8_foldObstacle 1 = .ok (.aload_n 0, 1) := by decide +kernel
theorem dX8_foldObstacle_2 : decode cX8_foldObstacle 2 = .ok (.iload_n 1, 1) := by decide +kernel
theorem dX8_foldObstacle_3 : decode cX8_foldObstacle 3 = .ok (.invokevirtual 101, 3) := by decide +kernel
theorem dX8_foldObstacle_6 : decode cX8_foldObstacle 6 = .ok (.iload_n 2, 1) := by decide +kernel
theorem dX8_foldObstacle_7 : decode cX8_foldObstacle 7 = .ok (.invokestatic 235, 3) := by decide +kernel
theorem dX8_foldObstacle_10 : decode cX8_foldObstacle 10 = .ok (.invokevirtual 165, 3) := by decide +kernel
theorem dX8_foldObstacle_13 : decode cX8_foldObstacle 13 = .ok (.ifCond .eq 7, 3) := by decide +kernel
theorem dX8_foldObstacle_16 : decode cX8_foldObstacle 16 = .ok (.iconst 0, 1) := by decide +kernel
theorem dX8_foldObstacle_17 : decode cX8_foldObstacle 17 = .ok (.goto 9, 3) := by decide +kernel
theorem dX8_foldObstacle_20 : decode cX8_foldObstacle 20 = .ok (.aload_n 0, 1) := by decide +kernel
theorem dX8_foldObstacle_21 : decode cX8_foldObstacle 21 = .ok (.iload_n 1, 1) := by decide +kernel
theorem dX8_foldObstacle_22 : decode cX8_foldObstacle 22 = .ok (.iload_n 2, 1) := by decide +kernel
theorem dX8_foldObstacle_23 : decode cX8_foldObstacle 23 = .ok (.invokevirtual 238, 3) := by decide +kernel
theorem dX8_foldObstacle_26 : decode cX8_foldObstacle 26 = .ok (.ireturn, 1) := by decide +kernel
theorem dX8_lengthAfterFold_0 : decode cX8_lengthAfterFold 0 = .ok (.aload_n 0, 1) := by decide +kernel
theorem dX8_lengthAfterFold_1 : decode cX8_lengthAfterFold 1 = .ok (.aload_n 0, 1) := by decide +kernel
theorem dX8_lengthAfterFold_2 : decode cX8_lengthAfterFold 2 = .ok (.iload_n 1, 1) := by decide +kernel
theorem dX8_lengthAfterFold_3 : decode cX8_lengthAfterFold 3 = .ok (.invokevirtual 101, 3) := by decide +kernel
theorem dX8_lengthAfterFold_6 : decode cX8_lengthAfterFold 6 = .ok (.iload_n 2, 1) := by decide +kernel
theorem dX8_lengthAfterFold_7 : decode cX8_lengthAfterFold 7 = .ok (.invokestatic 235, 3) := by decide +kernel
theorem dX8_lengthAfterFold_10 : decode cX8_lengthAfterFold 10 = .ok (.ifCond .eq 14, 3) := by decide +kernel
theorem dX8_lengthAfterFold_13 : decode cX8_lengthAfterFold 13 = .ok (.iload_n 3, 1) := by decide +kernel
theorem dX8_lengthAfterFold_14 : decode cX8_lengthAfterFold 14 = .ok (.invokestatic 169, 3) := by decide +kernel
theorem dX8_lengthAfterFold_17 : decode cX8_lengthAfterFold 17 = .ok (.ifCond .eq 7, 3) := by decide +kernel
theorem dX8_lengthAfterFold_20 : decode cX8_lengthAfterFold 20 = .ok (.iconst 1, 1) := by decide +kernel
theorem dX8_lengthAfterFold_21 : decode cX8_lengthAfterFold 21 = .ok (.goto 4, 3) := by decide +kernel
theorem dX8_lengthAfterFold_24 : decode cX8_lengthAfterFold 24 = .ok (.iconst 0, 1) := by decide +kernel
theorem dX8_lengthAfterFold_25 : decode cX8_lengthAfterFold 25 = .ok (.invokevirtual 165, 3) := by decide +kernel
theorem dX8_lengthAfterFold_28 : decode cX8_lengthAfterFold 28 = .ok (.ifCond .eq 5, 3) := by decide +kernel
theorem dX8_lengthAfterFold_31 : decode cX8_lengthAfterFold 31 = .ok (.iconst 0, 1) := by decide +kernel
theorem dX8_lengthAfterFold_32 : decode cX8_lengthAfterFold 32 = .ok (.ireturn, 1) := by decide +kernel
theorem dX8_lengthAfterFold_33 : decode cX8_lengthAfterFold 33 = .ok (.aload_n 0, 1) := by decide +kernel
theorem dX8_lengthAfterFold_34 : decode cX8_lengthAfterFold 34 = .ok (.iload_n 1, 1) := by decide +kernel
theorem dX8_lengthAfterFold_35 : decode cX8_lengthAfterFold 35 = .ok (.iload_n 2, 1) := by decide +kernel
theorem dX8_lengthAfterFold_36 : decode cX8_lengthAfterFold 36 = .ok (.invokevirtual 238, 3) := by decide +kernel
theorem dX8_lengthAfterFold_39 : decode cX8_lengthAfterFold 39 = .ok (.ifCond .ne 13, 3) := by decide +kernel
theorem dX8_lengthAfterFold_42 : decode cX8_lengthAfterFold 42 = .ok (.aload_n 0, 1) := by decide +kernel
theorem dX8_lengthAfterFold_43 : decode cX8_lengthAfterFold 43 = .ok (.bipush 6, 2) := by decide +kernel
theorem dX8_lengthAfterFold_45 : decode cX8_lengthAfterFold 45 = .ok (.iload_n 3, 1) := by decide +kernel
theorem dX8_lengthAfterFold_46 : decode cX8_lengthAfterFold 46 = .ok (.invokevirtual 175, 3) := by decide +kernel
theorem dX8_lengthAfterFold_49 : decode cX8_lengthAfterFold 49 = .ok (.goto 4, 3) := by decide +kernel
theorem dX8_lengthAfterFold_52 : decode cX8_lengthAfterFold 52 = .ok (.iconst (-1), 1) := by decide +kernel
theorem dX8_lengthAfterFold_53 : decode cX8_lengthAfterFold 53 = .ok (.ireturn, 1) := by decide +kernel
theorem dX8_cut_0 : decode cX8_cut 0 = .ok (.iload_n 1, 1) := by decide +kernel
theorem dX8_cut_1 : decode cX8_cut 1 = .ok (.invokestatic 97, 3) := by decide +kernel
theorem dX8_cut_4 : decode cX8_cut 4 = .ok (.iconst 2, 1) := by decide +kernel
theorem dX8_cut_5 : decode cX8_cut 5 = .ok (.iadd, 1) := by decide +kernel
theorem dX8_cut_6 : decode cX8_cut 6 = .ok (.iconst 2, 1) := by decide +kernel
theorem dX8_cut_7 : decode cX8_cut 7 = .ok (.iload_n 2, 1) := by decide +kernel
theorem dX8_cut_8 : decode cX8_cut 8 = .ok (.imul, 1) := by decide +kernel
theorem dX8_cut_9 : decode cX8_cut 9 = .ok (.iadd, 1) := by decide +kernel
theorem dX8_cut_10 : decode cX8_cut 10 = .ok (.istore_n 3, 1) := by decide +kernel
theorem dX8_cut_11 : decode cX8_cut 11 = .ok (.aload_n 0, 1) := by decide +kernel
theorem dX8_cut_12 : decode cX8_cut 12 = .ok (.getfield 25, 3) := by decide +kernel
theorem dX8_cut_15 : decode cX8_cut 15 = .ok (.iload_n 1, 1) := by decide +kernel
theorem dX8_cut_16 : decode cX8_cut 16 = .ok (.invokestatic 97, 3) := by decide +kernel
theorem dX8_cut_19 : decode cX8_cut 19 = .ok (.iconst 1, 1) := by decide +kernel
theorem dX8_cut_20 : decode cX8_cut 20 = .ok (.iadd, 1) := by decide +kernel
theorem dX8_cut_21 : decode cX8_cut 21 = .ok (.dup2, 1) := by decide +kernel
theorem dX8_cut_22 : decode cX8_cut 22 = .ok (.iaload, 1) := by decide +kernel
theorem dX8_cut_23 : decode cX8_cut 23 = .ok (.iconst 1, 1) := by decide +kernel
theorem dX8_cut_24 : decode cX8_cut 24 = .ok (.isub, 1) := by decide +kernel
theorem dX8_cut_25 : decode cX8_cut 25 = .ok (.iastore, 1) := by decide +kernel
theorem dX8_cut_26 : decode cX8_cut 26 = .ok (.iload_n 3, 1) := by decide +kernel
theorem dX8_cut_27 : decode cX8_cut 27 = .ok (.istore 4, 2) := by decide +kernel
theorem dX8_cut_29 : decode cX8_cut 29 = .ok (.iload 4, 2) := by decide +kernel
theorem dX8_cut_31 : decode cX8_cut 31 = .ok (.iload_n 1, 1) := by decide +kernel
theorem dX8_cut_32 : decode cX8_cut 32 = .ok (.invokestatic 97, 3) := by decide +kernel
theorem dX8_cut_35 : decode cX8_cut 35 = .ok (.iconst 2, 1) := by decide +kernel
theorem dX8_cut_36 : decode cX8_cut 36 = .ok (.iadd, 1) := by decide +kernel
theorem dX8_cut_37 : decode cX8_cut 37 = .ok (.iconst 2, 1) := by decide +kernel
theorem dX8_cut_38 : decode cX8_cut 38 = .ok (.aload_n 0, 1) := by decide +kernel
theorem dX8_cut_39 : decode cX8_cut 39 = .ok (.iload_n 1, 1) := by decide +kernel
theorem dX8_cut_40 : decode cX8_cut 40 = .ok (.invokevirtual 105, 3) := by decide +kernel
theorem dX8_cut_43 : decode cX8_cut 43 = .ok (.imul, 1) := by decide +kernel
theorem dX8_cut_44 : decode cX8_cut 44 = .ok (.iadd, 1) := by decide +kernel
theorem dX8_cut_45 : decode cX8_cut 45 = .ok (.if_icmp .ge 25, 3) := by decide +kernel
theorem dX8_cut_48 : decode cX8_cut 48 = .ok (.aload_n 0, 1) := by decide +kernel
theorem dX8_cut_49 : decode cX8_cut 49 = .ok (.getfield 25, 3) := by decide +kernel
theorem dX8_cut_52 : decode cX8_cut 52 = .ok (.iload 4, 2) := by decide +kernel
theorem dX8_cut_54 : decode cX8_cut 54 = .ok (.aload_n 0, 1) := by decide +kernel
theorem dX8_cut_55 : decode cX8_cut 55 = .ok (.getfield 25, 3) := by decide +kernel
theorem dX8_cut_58 : decode cX8_cut 58 = .ok (.iload 4, 2) := by decide +kernel
theorem dX8_cut_60 : decode cX8_cut 60 = .ok (.iconst 2, 1) := by decide +kernel
theorem dX8_cut_61 : decode cX8_cut 61 = .ok (.iadd, 1) := by decide +kernel
theorem dX8_cut_62 : decode cX8_cut 62 = .ok (.iaload, 1) := by decide +kernel
theorem dX8_cut_63 : decode cX8_cut 63 = .ok (.iastore, 1) := by decide +kernel
theorem dX8_cut_64 : decode cX8_cut 64 = .ok (.iinc 4 1, 3) := by decide +kernel
theorem dX8_cut_67 : decode cX8_cut 67 = .ok (.goto (-38), 3) := by decide +kernel
theorem dX8_cut_70 : decode cX8_cut 70 = .ok (.return_, 1) := by decide +kernel
theorem dX8_lengthBut_0 : decode cX8_lengthBut 0 = .ok (.aload_n 0, 1) := by decide +kernel
theorem dX8_lengthBut_1 : decode cX8_lengthBut 1 = .ok (.iload_n 1, 1) := by decide +kernel
theorem dX8_lengthBut_2 : decode cX8_lengthBut 2 = .ok (.invokevirtual 105, 3) := by decide +kernel
theorem dX8_lengthBut_5 : decode cX8_lengthBut 5 = .ok (.aload_n 0, 1) := by decide +kernel
theorem dX8_lengthBut_6 : decode cX8_lengthBut 6 = .ok (.iload_n 1, 1) := by decide +kernel
theorem dX8_lengthBut_7 : decode cX8_lengthBut 7 = .ok (.invokevirtual 241, 3) := by decide +kernel
theorem dX8_lengthBut_10 : decode cX8_lengthBut 10 = .ok (.if_icmp .ne 5, 3) := by decide +kernel
theorem dX8_lengthBut_13 : decode cX8_lengthBut 13 = .ok (.iconst (-1), 1) := by decide +kernel
theorem dX8_lengthBut_14 : decode cX8_lengthBut 14 = .ok (.ireturn, 1) := by decide +kernel
theorem dX8_lengthBut_15 : decode cX8_lengthBut 15 = .ok (.aload_n 0, 1) := by decide +kernel
theorem dX8_lengthBut_16 : decode cX8_lengthBut 16 = .ok (.iload_n 1, 1) := by decide +kernel
theorem dX8_lengthBut_17 : decode cX8_lengthBut 17 = .ok (.bipush 6, 2) := by decide +kernel
theorem dX8_lengthBut_19 : decode cX8_lengthBut 19 = .ok (.invokevirtual 244, 3) := by decide +kernel
theorem dX8_lengthBut_22 : decode cX8_lengthBut 22 = .ok (.aload_n 0, 1) := by decide +kernel
theorem dX8_lengthBut_23 : decode cX8_lengthBut 23 = .ok (.bipush 6, 2) := by decide +kernel
theorem dX8_lengthBut_25 : decode cX8_lengthBut 25 = .ok (.iload_n 2, 1) := by decide +kernel
theorem dX8_lengthBut_26 : decode cX8_lengthBut 26 = .ok (.invokevirtual 247, 3) := by decide +kernel
theorem dX8_lengthBut_29 : decode cX8_lengthBut 29 = .ok (.aload_n 0, 1) := by decide +kernel
theorem dX8_lengthBut_30 : decode cX8_lengthBut 30 = .ok (.bipush 6, 2) := by decide +kernel
theorem dX8_lengthBut_32 : decode cX8_lengthBut 32 = .ok (.iconst 0, 1) := by decide +kernel
theorem dX8_lengthBut_33 : decode cX8_lengthBut 33 = .ok (.invokevirtual 175, 3) := by decide +kernel
theorem dX8_lengthBut_36 : decode cX8_lengthBut 36 = .ok (.ireturn, 1) := by decide +kernel
theorem dX8_lengthWithoutPoint_0 : decode cX8_lengthWithoutPoint 0 = .ok (.aload_n 0, 1) := by decide +kernel
theorem dX8_lengthWithoutPoint_1 : decode cX8_lengthWithoutPoint 1 = .ok (.aload_n 0, 1) := by decide +kernel
theorem dX8_lengthWithoutPoint_2 : decode cX8_lengthWithoutPoint 2 = .ok (.iload_n 1, 1) := by decide +kernel
theorem dX8_lengthWithoutPoint_3 : decode cX8_lengthWithoutPoint 3 = .ok (.iload_n 2, 1) := by decide +kernel
theorem dX8_lengthWithoutPoint_4 : decode cX8_lengthWithoutPoint 4 = .ok (.invokevirtual 158, 3) := by decide +kernel
theorem dX8_lengthWithoutPoint_7 : decode cX8_lengthWithoutPoint 7 = .ok (.invokevirtual 89, 3) := by decide +kernel
theorem dX8_lengthWithoutPoint_10 : decode cX8_lengthWithoutPoint 10 = .ok (.ifCond .eq 7, 3) := by decide +kernel
theorem dX8_lengthWithoutPoint_13 : decode cX8_lengthWithoutPoint 13 = .ok (.iconst 0, 1) := by decide +kernel
theorem dX8_lengthWithoutPoint_14 : decode cX8_lengthWithoutPoint 14 = .ok (.goto 9, 3) := by decide +kernel
theorem dX8_lengthWithoutPoint_17 : decode cX8_lengthWithoutPoint 17 = .ok (.aload_n 0, 1) := by decide +kernel
theorem dX8_lengthWithoutPoint_18 : decode cX8_lengthWithoutPoint 18 = .ok (.iload_n 1, 1) := by decide +kernel
theorem dX8_lengthWithoutPoint_19 : decode cX8_lengthWithoutPoint 19 = .ok (.iload_n 2, 1) := by decide +kernel
theorem dX8_lengthWithoutPoint_20 : decode cX8_lengthWithoutPoint 20 = .ok (.invokevirtual 250, 3) := by decide +kernel
theorem dX8_lengthWithoutPoint_23 : decode cX8_lengthWithoutPoint 23 = .ok (.ireturn, 1) := by decide +kernel
theorem dX8_leastImportantPoint_0 : decode cX8_leastImportantPoint 0 = .ok (.aload_n 0, 1) := by decide +kernel
theorem dX8_leastImportantPoint_1 : decode cX8_leastImportantPoint 1 = .ok (.aload_n 0, 1) := by decide +kernel
theorem dX8_leastImportantPoint_2 : decode cX8_leastImportantPoint 2 = .ok (.iload_n 1, 1) := by decide +kernel
theorem dX8_leastImportantPoint_3 : decode cX8_leastImportantPoint 3 = .ok (.invokevirtual 101, 3) := by decide +kernel
theorem dX8_leastImportantPoint_6 : decode cX8_leastImportantPoint 6 = .ok (.invokevirtual 89, 3) := by decide +kernel
theorem dX8_leastImportantPoint_9 : decode cX8_leastImportantPoint 9 = .ok (.ifCond .eq 5, 3) := by decide +kernel
theorem dX8_leastImportantPoint_12 : decode cX8_leastImportantPoint 12 = .ok (.iconst 0, 1) := by decide +kernel
theorem dX8_leastImportantPoint_13 : decode cX8_leastImportantPoint 13 = .ok (.ireturn, 1) := by decide +kernel
theorem dX8_leastImportantPoint_14 : decode cX8_leastImportantPoint 14 = .ok (.iconst (-1), 1) := by decide +kernel
theorem dX8_leastImportantPoint_15 : decode cX8_leastImportantPoint 15 = .ok (.istore_n 2, 1) := by decide +kernel
theorem dX8_leastImportantPoint_16 : decode cX8_leastImportantPoint 16 = .ok (.iconst (-1), 1) := by decide +kernel
theorem dX8_leastImportantPoint_17 : decode cX8_leastImportantPoint 17 = .ok (.istore_n 3, 1) := by decide +kernel
theorem dX8_leastImportantPoint_18 : decode cX8_leastImportantPoint 18 = .ok (.iconst 0, 1) := by decide +kernel
theorem dX8_leastImportantPoint_19 : decode cX8_leastImportantPoint 19 = .ok (.istore 4, 2) := by decide +kernel
theorem dX8_leastImportantPoint_21 : decode cX8_leastImportantPoint 21 = .ok (.iload 4, 2) := by decide +kernel
theorem dX8_leastImportantPoint_23 : decode cX8_leastImportantPoint 23 = .ok (.aload_n 0, 1) := by decide +kernel
theorem dX8_leastImportantPoint_24 : decode cX8_leastImportantPoint 24 = .ok (.iload_n 1, 1) := by decide +kernel
theorem dX8_leastImportantPoint_25 : decode cX8_leastImportantPoint 25 = .ok (.invokevirtual 105, 3) := by decide +kernel
theorem dX8_leastImportantPoint_28 : decode cX8_leastImportantPoint 28 = .ok (.if_icmp .ge 30, 3) := by decide +kernel
theorem dX8_leastImportantPoint_31 : decode cX8_leastImportantPoint 31 = .ok (.aload_n 0, 1) := by decide +kernel
theorem dX8_leastImportantPoint_32 : decode cX8_leastImportantPoint 32 = .ok (.iload_n 1, 1) := by decide +kernel
theorem dX8_leastImportantPoint_33 : decode cX8_leastImportantPoint 33 = .ok (.iload 4, 2) := by decide +kernel
theorem dX8_leastImportantPoint_35 : decode cX8_leastImportantPoint 35 = .ok (.invokevirtual 250, 3) := by decide +kernel
theorem dX8_leastImportantPoint_38 : decode cX8_leastImportantPoint 38 = .ok (.istore 5, 2) := by decide +kernel
theorem dX8_leastImportantPoint_40 : decode cX8_leastImportantPoint 40 = .ok (.iload 5, 2) := by decide +kernel
theorem dX8_leastImportantPoint_42 : decode cX8_leastImportantPoint 42 = .ok (.iload_n 3, 1) := by decide +kernel
theorem dX8_leastImportantPoint_43 : decode cX8_leastImportantPoint 43 = .ok (.if_icmp .le 9, 3) := by decide +kernel
theorem dX8_leastImportantPoint_46 : decode cX8_leastImportantPoint 46 = .ok (.iload 4, 2) := by decide +kernel
theorem dX8_leastImportantPoint_48 : decode cX8_leastImportantPoint 48 = .ok (.istore_n 2, 1) := by decide +kernel
theorem dX8_leastImportantPoint_49 : decode cX8_leastImportantPoint 49 = .ok (.iload 5, 2) := by decide +kernel
theorem dX8_leastImportantPoint_51 : decode cX8_leastImportantPoint 51 = .ok (.istore_n 3, 1) := by decide +kernel
theorem dX8_leastImportantPoint_52 : decode cX8_leastImportantPoint 52 = .ok (.iinc 4 1, 3) := by decide +kernel
theorem dX8_leastImportantPoint_55 : decode cX8_leastImportantPoint 55 = .ok (.goto (-34), 3) := by decide +kernel
theorem dX8_leastImportantPoint_58 : decode cX8_leastImportantPoint 58 = .ok (.iload_n 2, 1) := by decide +kernel
theorem dX8_leastImportantPoint_59 : decode cX8_leastImportantPoint 59 = .ok (.ireturn, 1) := by decide +kernel
theorem dX8_lengthInOtherMetric_0 : decode cX8_lengthInOtherMetric 0 = .ok (.aload_n 0, 1) := by decide +kernel
theorem dX8_lengthInOtherMetric_1 : decode cX8_lengthInOtherMetric 1 = .ok (.iload_n 1, 1) := by decide +kernel
theorem dX8_lengthInOtherMetric_2 : decode cX8_lengthInOtherMetric 2 = .ok (.iload_n 2, 1) := by decide +kernel
theorem dX8_lengthInOtherMetric_3 : decode cX8_lengthInOtherMetric 3 = .ok (.invokevirtual 172, 3) := by decide +kernel
theorem dX8_lengthInOtherMetric_6 : decode cX8_lengthInOtherMetric 6 = .ok (.ifCond .eq 7, 3) := by decide +kernel
theorem dX8_lengthInOtherMetric_9 : decode cX8_lengthInOtherMetric 9 = .ok (.iconst 0, 1) := by decide +kernel
theorem dX8_lengthInOtherMetric_10 : decode cX8_lengthInOtherMetric 10 = .ok (.goto 21, 3) := by decide +kernel
theorem dX8_lengthInOtherMetric_13 : decode cX8_lengthInOtherMetric 13 = .ok (.aload_n 0, 1) := by decide +kernel
theorem dX8_lengthInOtherMetric_14 : decode cX8_lengthInOtherMetric 14 = .ok (.iload_n 1, 1) := by decide +kernel
theorem dX8_lengthInOtherMetric_15 : decode cX8_lengthInOtherMetric 15 = .ok (.iload_n 2, 1) := by decide +kernel
theorem dX8_lengthInOtherMetric_16 : decode cX8_lengthInOtherMetric 16 = .ok (.aload_n 0, 1) := by decide +kernel
theorem dX8_lengthInOtherMetric_17 : decode cX8_lengthInOtherMetric 17 = .ok (.invokevirtual 151, 3) := by decide +kernel
theorem dX8_lengthInOtherMetric_20 : decode cX8_lengthInOtherMetric 20 = .ok (.ifCond .ne 7, 3) := by decide +kernel
theorem dX8_lengthInOtherMetric_23 : decode cX8_lengthInOtherMetric 23 = .ok (.iconst 1, 1) := by decide +kernel
theorem dX8_lengthInOtherMetric_24 : decode cX8_lengthInOtherMetric 24 = .ok (.goto 4, 3) := by decide +kernel
theorem dX8_lengthInOtherMetric_27 : decode cX8_lengthInOtherMetric 27 = .ok (.iconst 0, 1) := by decide +kernel
theorem dX8_lengthInOtherMetric_28 : decode cX8_lengthInOtherMetric 28 = .ok (.invokevirtual 155, 3) := by decide +kernel
theorem dX8_lengthInOtherMetric_31 : decode cX8_lengthInOtherMetric 31 = .ok (.ireturn, 1) := by decide +kernel
theorem dX8_loadedPoints_0 : decode cX8_loadedPoints 0 = .ok (.aload_n 0, 1) := by decide +kernel
theorem dX8_loadedPoints_1 : decode cX8_loadedPoints 1 = .ok (.iconst 0, 1) := by decide +kernel
theorem dX8_loadedPoints_2 : decode cX8_loadedPoints 2 = .ok (.putfield 86, 3) := by decide +kernel
theorem dX8_loadedPoints_5 : decode cX8_loadedPoints 5 = .ok (.aload_n 0, 1) := by decide +kernel
theorem dX8_loadedPoints_6 : decode cX8_loadedPoints 6 = .ok (.getfield 25, 3) := by decide +kernel
theorem dX8_loadedPoints_9 : decode cX8_loadedPoints 9 = .ok (.iconst 2, 1) := by decide +kernel
theorem dX8_loadedPoints_10 : decode cX8_loadedPoints 10 = .ok (.iaload, 1) := by decide +kernel
theorem dX8_loadedPoints_11 : decode cX8_loadedPoints 11 = .ok (.ireturn, 1) := by decide +kernel
theorem dX8_addedPoints_0 : decode cX8_addedPoints 0 = .ok (.aload_n 0, 1) := by decide +kernel
theorem dX8_addedPoints_1 : decode cX8_addedPoints 1 = .ok (.iconst 0, 1) := by decide +kernel
theorem dX8_addedPoints_2 : decode cX8_addedPoints 2 = .ok (.putfield 86, 3) := by decide +kernel
theorem dX8_addedPoints_5 : decode cX8_addedPoints 5 = .ok (.aload_n 0, 1) := by decide +kernel
theorem dX8_addedPoints_6 : decode cX8_addedPoints 6 = .ok (.getfield 25, 3) := by decide +kernel
theorem dX8_addedPoints_9 : decode cX8_addedPoints 9 = .ok (.iconst 3, 1) := by decide +kernel
theorem dX8_addedPoints_10 : decode cX8_addedPoints 10 = .ok (.iaload, 1) := by decide +kernel
theorem dX8_addedPoints_11 : decode cX8_addedPoints 11 = .ok (.ireturn, 1) := by decide +kernel
theorem dX8_removedPoints_0 : decode cX8_removedPoints 0 = .ok (.aload_n 0, 1) := by decide +kernel
theorem dX8_removedPoints_1 : decode cX8_removedPoints 1 = .ok (.iconst 0, 1) := by decide +kernel
theorem dX8_removedPoints_2 : decode cX8_removedPoints 2 = .ok (.putfield 86, 3) := by decide +kernel
theorem dX8_removedPoints_5 : decode cX8_removedPoints 5 = .ok (.aload_n 0, 1) := by decide +kernel
theorem dX8_removedPoints_6 : decode cX8_removedPoints 6 = .ok (.getfield 25, 3) := by decide +kernel
theorem dX8_removedPoints_9 : decode cX8_removedPoints 9 = .ok (.iconst 4, 1) := by decide +kernel
theorem dX8_removedPoints_10 : decode cX8_removedPoints 10 = .ok (.iaload, 1) := by decide +kernel
theorem dX8_removedPoints_11 : decode cX8_removedPoints 11 = .ok (.ireturn, 1) := by decide +kernel
theorem dX8_ledgerGap_0 : decode cX8_ledgerGap 0 = .ok (.aload_n 0, 1) := by decide +kernel
theorem dX8_ledgerGap_1 : decode cX8_ledgerGap 1 = .ok (.iconst 0, 1) := by decide +kernel
theorem dX8_ledgerGap_2 : decode cX8_ledgerGap 2 = .ok (.putfield 86, 3) := by decide +kernel
theorem dX8_ledgerGap_5 : decode cX8_ledgerGap 5 = .ok (.aload_n 0, 1) := by decide +kernel
theorem dX8_ledgerGap_6 : decode cX8_ledgerGap 6 = .ok (.getfield 25, 3) := by decide +kernel
theorem dX8_ledgerGap_9 : decode cX8_ledgerGap 9 = .ok (.iconst 2, 1) := by decide +kernel
theorem dX8_ledgerGap_10 : decode cX8_ledgerGap 10 = .ok (.iaload, 1) := by decide +kernel
theorem dX8_ledgerGap_11 : decode cX8_ledgerGap 11 = .ok (.aload_n 0, 1) := by decide +kernel
theorem dX8_ledgerGap_12 : decode cX8_ledgerGap 12 = .ok (.getfield 25, 3) := by decide +kernel
theorem dX8_ledgerGap_15 : decode cX8_ledgerGap 15 = .ok (.iconst 3, 1) := by decide +kernel
theorem dX8_ledgerGap_16 : decode cX8_ledgerGap 16 = .ok (.iaload, 1) := by decide +kernel
theorem dX8_ledgerGap_17 : decode cX8_ledgerGap 17 = .ok (.iadd, 1) := by decide +kernel
theorem dX8_ledgerGap_18 : decode cX8_ledgerGap 18 = .ok (.aload_n 0, 1) := by decide +kernel
theorem dX8_ledgerGap_19 : decode cX8_ledgerGap 19 = .ok (.getfield 25, 3) := by decide +kernel
theorem dX8_ledgerGap_22 : decode cX8_ledgerGap 22 = .ok (.iconst 4, 1) := by decide +kernel
theorem dX8_ledgerGap_23 : decode cX8_ledgerGap 23 = .ok (.iaload, 1) := by decide +kernel
theorem dX8_ledgerGap_24 : decode cX8_ledgerGap 24 = .ok (.isub, 1) := by decide +kernel
theorem dX8_ledgerGap_25 : decode cX8_ledgerGap 25 = .ok (.aload_n 0, 1) := by decide +kernel
theorem dX8_ledgerGap_26 : decode cX8_ledgerGap 26 = .ok (.invokevirtual 113, 3) := by decide +kernel
theorem dX8_ledgerGap_29 : decode cX8_ledgerGap 29 = .ok (.isub, 1) := by decide +kernel
theorem dX8_ledgerGap_30 : decode cX8_ledgerGap 30 = .ok (.invokestatic 123, 3) := by decide +kernel
theorem dX8_ledgerGap_33 : decode cX8_ledgerGap 33 = .ok (.ireturn, 1) := by decide +kernel
theorem dX8_doRemove_0 : decode cX8_doRemove 0 = .ok (.aload_n 0, 1) := by decide +kernel
theorem dX8_doRemove_1 : decode cX8_doRemove 1 = .ok (.iload_n 1, 1) := by decide +kernel
theorem dX8_doRemove_2 : decode cX8_doRemove 2 = .ok (.invokevirtual 101, 3) := by decide +kernel
theorem dX8_doRemove_5 : decode cX8_doRemove 5 = .ok (.ifCond .ne 5, 3) := by decide +kernel
theorem dX8_doRemove_8 : decode cX8_doRemove 8 = .ok (.iconst 1, 1) := by decide +kernel
theorem dX8_doRemove_9 : decode cX8_doRemove 9 = .ok (.ireturn, 1) := by decide +kernel
theorem dX8_doRemove_10 : decode cX8_doRemove 10 = .ok (.aload_n 0, 1) := by decide +kernel
theorem dX8_doRemove_11 : decode cX8_doRemove 11 = .ok (.getfield 25, 3) := by decide +kernel
theorem dX8_doRemove_14 : decode cX8_doRemove 14 = .ok (.iconst 4, 1) := by decide +kernel
theorem dX8_doRemove_15 : decode cX8_doRemove 15 = .ok (.dup2, 1) := by decide +kernel
theorem dX8_doRemove_16 : decode cX8_doRemove 16 = .ok (.iaload, 1) := by decide +kernel
theorem dX8_doRemove_17 : decode cX8_doRemove 17 = .ok (.aload_n 0, 1) := by decide +kernel
theorem dX8_doRemove_18 : decode cX8_doRemove 18 = .ok (.iload_n 1, 1) := by decide +kernel
theorem dX8_doRemove_19 : decode cX8_doRemove 19 = .ok (.invokevirtual 105, 3) := by decide +kernel
theorem dX8_doRemove_22 : decode cX8_doRemove 22 = .ok (.iadd, 1) := by decide +kernel
theorem dX8_doRemove_23 : decode cX8_doRemove 23 = .ok (.iastore, 1) := by decide +kernel
theorem dX8_doRemove_24 : decode cX8_doRemove 24 = .ok (.iload_n 1, 1) := by decide +kernel
theorem dX8_doRemove_25 : decode cX8_doRemove 25 = .ok (.iconst 1, 1) := by decide +kernel
theorem dX8_doRemove_26 : decode cX8_doRemove 26 = .ok (.iadd, 1) := by decide +kernel
theorem dX8_doRemove_27 : decode cX8_doRemove 27 = .ok (.istore_n 2, 1) := by decide +kernel
theorem dX8_doRemove_28 : decode cX8_doRemove 28 = .ok (.iload_n 2, 1) := by decide +kernel
theorem dX8_doRemove_29 : decode cX8_doRemove 29 = .ok (.aload_n 0, 1) := by decide +kernel
theorem dX8_doRemove_30 : decode cX8_doRemove 30 = .ok (.getfield 25, 3) := by decide +kernel
theorem dX8_doRemove_33 : decode cX8_doRemove 33 = .ok (.iconst 1, 1) := by decide +kernel
theorem dX8_doRemove_34 : decode cX8_doRemove 34 = .ok (.iaload, 1) := by decide +kernel
theorem dX8_doRemove_35 : decode cX8_doRemove 35 = .ok (.if_icmp .ge 17, 3) := by decide +kernel
theorem dX8_doRemove_38 : decode cX8_doRemove 38 = .ok (.aload_n 0, 1) := by decide +kernel
theorem dX8_doRemove_39 : decode cX8_doRemove 39 = .ok (.iload_n 2, 1) := by decide +kernel
theorem dX8_doRemove_40 : decode cX8_doRemove 40 = .ok (.iload_n 2, 1) := by decide +kernel
theorem dX8_doRemove_41 : decode cX8_doRemove 41 = .ok (.iconst 1, 1) := by decide +kernel
theorem dX8_doRemove_42 : decode cX8_doRemove 42 = .ok (.isub, 1) := by decide +kernel
theorem dX8_doRemove_43 : decode cX8_doRemove 43 = .ok (.invokevirtual 244, 3) := by decide +kernel
theorem dX8_doRemove_46 : decode cX8_doRemove 46 = .ok (.iinc 2 1, 3) := by decide +kernel
theorem dX8_doRemove_49 : decode cX8_doRemove 49 = .ok (.goto (-21), 3) := by decide +kernel
theorem dX8_doRemove_52 : decode cX8_doRemove 52 = .ok (.aload_n 0, 1) := by decide +kernel
theorem dX8_doRemove_53 : decode cX8_doRemove 53 = .ok (.getfield 25, 3) := by decide +kernel
theorem dX8_doRemove_56 : decode cX8_doRemove 56 = .ok (.iconst 1, 1) := by decide +kernel
theorem dX8_doRemove_57 : decode cX8_doRemove 57 = .ok (.dup2, 1) := by decide +kernel
theorem dX8_doRemove_58 : decode cX8_doRemove 58 = .ok (.iaload, 1) := by decide +kernel
theorem dX8_doRemove_59 : decode cX8_doRemove 59 = .ok (.iconst 1, 1) := by decide +kernel
theorem dX8_doRemove_60 : decode cX8_doRemove 60 = .ok (.isub, 1) := by decide +kernel
theorem dX8_doRemove_61 : decode cX8_doRemove 61 = .ok (.iastore, 1) := by decide +kernel
theorem dX8_doRemove_62 : decode cX8_doRemove 62 = .ok (.iconst 0, 1) := by decide +kernel
theorem dX8_doRemove_63 : decode cX8_doRemove 63 = .ok (.ireturn, 1) := by decide +kernel
theorem dX8_doFold_0 : decode cX8_doFold 0 = .ok (.aload_n 0, 1) := by decide +kernel
theorem dX8_doFold_1 : decode cX8_doFold 1 = .ok (.iload_n 1, 1) := by decide +kernel
theorem dX8_doFold_2 : decode cX8_doFold 2 = .ok (.invokevirtual 101, 3) := by decide +kernel
theorem dX8_doFold_5 : decode cX8_doFold 5 = .ok (.ifCond .ne 5, 3) := by decide +kernel
theorem dX8_doFold_8 : decode cX8_doFold 8 = .ok (.iconst 1, 1) := by decide +kernel
theorem dX8_doFold_9 : decode cX8_doFold 9 = .ok (.ireturn, 1) := by decide +kernel
theorem dX8_doFold_10 : decode cX8_doFold 10 = .ok (.aload_n 0, 1) := by decide +kernel
theorem dX8_doFold_11 : decode cX8_doFold 11 = .ok (.iload_n 1, 1) := by decide +kernel
theorem dX8_doFold_12 : decode cX8_doFold 12 = .ok (.iload_n 2, 1) := by decide +kernel
theorem dX8_doFold_13 : decode cX8_doFold 13 = .ok (.invokevirtual 238, 3) := by decide +kernel
theorem dX8_doFold_16 : decode cX8_doFold 16 = .ok (.ifCond .eq 5, 3) := by decide +kernel
theorem dX8_doFold_19 : decode cX8_doFold 19 = .ok (.iconst 3, 1) := by decide +kernel
theorem dX8_doFold_20 : decode cX8_doFold 20 = .ok (.ireturn, 1) := by decide +kernel
theorem dX8_doFold_21 : decode cX8_doFold 21 = .ok (.aload_n 0, 1) := by decide +kernel
theorem dX8_doFold_22 : decode cX8_doFold 22 = .ok (.getfield 25, 3) := by decide +kernel
theorem dX8_doFold_25 : decode cX8_doFold 25 = .ok (.iconst 3, 1) := by decide +kernel
theorem dX8_doFold_26 : decode cX8_doFold 26 = .ok (.dup2, 1) := by decide +kernel
theorem dX8_doFold_27 : decode cX8_doFold 27 = .ok (.iaload, 1) := by decide +kernel
theorem dX8_doFold_28 : decode cX8_doFold 28 = .ok (.aload_n 0, 1) := by decide +kernel
theorem dX8_doFold_29 : decode cX8_doFold 29 = .ok (.bipush 6, 2) := by decide +kernel
theorem dX8_doFold_31 : decode cX8_doFold 31 = .ok (.invokevirtual 105, 3) := by decide +kernel
theorem dX8_doFold_34 : decode cX8_doFold 34 = .ok (.aload_n 0, 1) := by decide +kernel
theorem dX8_doFold_35 : decode cX8_doFold 35 = .ok (.iload_n 1, 1) := by decide +kernel
theorem dX8_doFold_36 : decode cX8_doFold 36 = .ok (.invokevirtual 105, 3) := by decide +kernel
theorem dX8_doFold_39 : decode cX8_doFold 39 = .ok (.isub, 1) := by decide +kernel
theorem dX8_doFold_40 : decode cX8_doFold 40 = .ok (.iadd, 1) := by decide +kernel
theorem dX8_doFold_41 : decode cX8_doFold 41 = .ok (.iastore, 1) := by decide +kernel
theorem dX8_doFold_42 : decode cX8_doFold 42 = .ok (.aload_n 0, 1) := by decide +kernel
theorem dX8_doFold_43 : decode cX8_doFold 43 = .ok (.bipush 6, 2) := by decide +kernel
theorem dX8_doFold_45 : decode cX8_doFold 45 = .ok (.iload_n 1, 1) := by decide +kernel
theorem dX8_doFold_46 : decode cX8_doFold 46 = .ok (.invokevirtual 244, 3) := by decide +kernel
theorem dX8_doFold_49 : decode cX8_doFold 49 = .ok (.iconst 0, 1) := by decide +kernel
theorem dX8_doFold_50 : decode cX8_doFold 50 = .ok (.ireturn, 1) := by decide +kernel
theorem dX8_doUnfold_0 : decode cX8_doUnfold 0 = .ok (.aload_n 0, 1) := by decide +kernel
theorem dX8_doUnfold_1 : decode cX8_doUnfold 1 = .ok (.iload_n 1, 1) := by decide +kernel
theorem dX8_doUnfold_2 : decode cX8_doUnfold 2 = .ok (.invokevirtual 101, 3) := by decide +kernel
theorem dX8_doUnfold_5 : decode cX8_doUnfold 5 = .ok (.ifCond .ne 5, 3) := by decide +kernel
theorem dX8_doUnfold_8 : decode cX8_doUnfold 8 = .ok (.iconst 1, 1) := by decide +kernel
theorem dX8_doUnfold_9 : decode cX8_doUnfold 9 = .ok (.ireturn, 1) := by decide +kernel
theorem dX8_doUnfold_10 : decode cX8_doUnfold 10 = .ok (.aload_n 0, 1) := by decide +kernel
theorem dX8_doUnfold_11 : decode cX8_doUnfold 11 = .ok (.iload_n 1, 1) := by decide +kernel
theorem dX8_doUnfold_12 : decode cX8_doUnfold 12 = .ok (.invokevirtual 105, 3) := by decide +kernel
theorem dX8_doUnfold_15 : decode cX8_doUnfold 15 = .ok (.iconst 1, 1) := by decide +kernel
theorem dX8_doUnfold_16 : decode cX8_doUnfold 16 = .ok (.iadd, 1) := by decide +kernel
theorem dX8_doUnfold_17 : decode cX8_doUnfold 17 = .ok (.iconst 2, 1) := by decide +kernel
theorem dX8_doUnfold_18 : decode cX8_doUnfold 18 = .ok (.idiv, 1) := by decide +kernel
theorem dX8_doUnfold_19 : decode cX8_doUnfold 19 = .ok (.istore_n 2, 1) := by decide +kernel
theorem dX8_doUnfold_20 : decode cX8_doUnfold 20 = .ok (.iload_n 2, 1) := by decide +kernel
theorem dX8_doUnfold_21 : decode cX8_doUnfold 21 = .ok (.aload_n 0, 1) := by decide +kernel
theorem dX8_doUnfold_22 : decode cX8_doUnfold 22 = .ok (.iload_n 1, 1) := by decide +kernel
theorem dX8_doUnfold_23 : decode cX8_doUnfold 23 = .ok (.invokevirtual 241, 3) := by decide +kernel
theorem dX8_doUnfold_26 : decode cX8_doUnfold 26 = .ok (.if_icmp .ge 5, 3) := by decide +kernel
theorem dX8_doUnfold_29 : decode cX8_doUnfold 29 = .ok (.iconst 2, 1) := by decide +kernel
theorem dX8_doUnfold_30 : decode cX8_doUnfold 30 = .ok (.ireturn, 1) := by decide +kernel
theorem dX8_doUnfold_31 : decode cX8_doUnfold 31 = .ok (.aload_n 0, 1) := by decide +kernel
theorem dX8_doUnfold_32 : decode cX8_doUnfold 32 = .ok (.getfield 25, 3) := by decide +kernel
theorem dX8_doUnfold_35 : decode cX8_doUnfold 35 = .ok (.iconst 4, 1) := by decide +kernel
theorem dX8_doUnfold_36 : decode cX8_doUnfold 36 = .ok (.dup2, 1) := by decide +kernel
theorem dX8_doUnfold_37 : decode cX8_doUnfold 37 = .ok (.iaload, 1) := by decide +kernel
theorem dX8_doUnfold_38 : decode cX8_doUnfold 38 = .ok (.aload_n 0, 1) := by decide +kernel
theorem dX8_doUnfold_39 : decode cX8_doUnfold 39 = .ok (.iload_n 1, 1) := by decide +kernel
theorem dX8_doUnfold_40 : decode cX8_doUnfold 40 = .ok (.invokevirtual 105, 3) := by decide +kernel
theorem dX8_doUnfold_43 : decode cX8_doUnfold 43 = .ok (.iload_n 2, 1) := by decide +kernel
theorem dX8_doUnfold_44 : decode cX8_doUnfold 44 = .ok (.isub, 1) := by decide +kernel
theorem dX8_doUnfold_45 : decode cX8_doUnfold 45 = .ok (.iadd, 1) := by decide +kernel
theorem dX8_doUnfold_46 : decode cX8_doUnfold 46 = .ok (.iastore, 1) := by decide +kernel
theorem dX8_doUnfold_47 : decode cX8_doUnfold 47 = .ok (.iconst 0, 1) := by decide +kernel
theorem dX8_doUnfold_48 : decode cX8_doUnfold 48 = .ok (.istore_n 3, 1) := by decide +kernel
theorem dX8_doUnfold_49 : decode cX8_doUnfold 49 = .ok (.iload_n 3, 1) := by decide +kernel
theorem dX8_doUnfold_50 : decode cX8_doUnfold 50 = .ok (.iload_n 2, 1) := by decide +kernel
theorem dX8_doUnfold_51 : decode cX8_doUnfold 51 = .ok (.if_icmp .ge 31, 3) := by decide +kernel
theorem dX8_doUnfold_54 : decode cX8_doUnfold 54 = .ok (.aload_n 0, 1) := by decide +kernel
theorem dX8_doUnfold_55 : decode cX8_doUnfold 55 = .ok (.iload_n 1, 1) := by decide +kernel
theorem dX8_doUnfold_56 : decode cX8_doUnfold 56 = .ok (.iload_n 3, 1) := by decide +kernel
theorem dX8_doUnfold_57 : decode cX8_doUnfold 57 = .ok (.aload_n 0, 1) := by decide +kernel
theorem dX8_doUnfold_58 : decode cX8_doUnfold 58 = .ok (.iload_n 1, 1) := by decide +kernel
theorem dX8_doUnfold_59 : decode cX8_doUnfold 59 = .ok (.iconst 2, 1) := by decide +kernel
theorem dX8_doUnfold_60 : decode cX8_doUnfold 60 = .ok (.iload_n 3, 1) := by decide +kernel
theorem dX8_doUnfold_61 : decode cX8_doUnfold 61 = .ok (.imul, 1) := by decide +kernel
theorem dX8_doUnfold_62 : decode cX8_doUnfold 62 = .ok (.invokevirtual 126, 3) := by decide +kernel
theorem dX8_doUnfold_65 : decode cX8_doUnfold 65 = .ok (.aload_n 0, 1) := by decide +kernel
theorem dX8_doUnfold_66 : decode cX8_doUnfold 66 = .ok (.iload_n 1, 1) := by decide +kernel
theorem dX8_doUnfold_67 : decode cX8_doUnfold 67 = .ok (.iconst 2, 1) := by decide +kernel
theorem dX8_doUnfold_68 : decode cX8_doUnfold 68 = .ok (.iload_n 3, 1) := by decide +kernel
theorem dX8_doUnfold_69 : decode cX8_doUnfold 69 = .ok (.imul, 1) := by decide +kernel
theorem dX8_doUnfold_70 : decode cX8_doUnfold 70 = .ok (.invokevirtual 130, 3) := by decide +kernel
theorem dX8_doUnfold_73 : decode cX8_doUnfold 73 = .ok (.invokevirtual 225, 3) := by decide +kernel
theorem dX8_doUnfold_76 : decode cX8_doUnfold 76 = .ok (.iinc 3 1, 3) := by decide +kernel
theorem dX8_doUnfold_79 : decode cX8_doUnfold 79 = .ok (.goto (-30), 3) := by decide +kernel
theorem dX8_doUnfold_82 : decode cX8_doUnfold 82 = .ok (.aload_n 0, 1) := by decide +kernel
theorem dX8_doUnfold_83 : decode cX8_doUnfold 83 = .ok (.getfield 25, 3) := by decide +kernel
theorem dX8_doUnfold_86 : decode cX8_doUnfold 86 = .ok (.iload_n 1, 1) := by decide +kernel
theorem dX8_doUnfold_87 : decode cX8_doUnfold 87 = .ok (.invokestatic 97, 3) := by decide +kernel
theorem dX8_doUnfold_90 : decode cX8_doUnfold 90 = .ok (.iconst 1, 1) := by decide +kernel
theorem dX8_doUnfold_91 : decode cX8_doUnfold 91 = .ok (.iadd, 1) := by decide +kernel
theorem dX8_doUnfold_92 : decode cX8_doUnfold 92 = .ok (.iload_n 2, 1) := by decide +kernel
theorem dX8_doUnfold_93 : decode cX8_doUnfold 93 = .ok (.iastore, 1) := by decide +kernel
theorem dX8_doUnfold_94 : decode cX8_doUnfold 94 = .ok (.iconst 0, 1) := by decide +kernel
theorem dX8_doUnfold_95 : decode cX8_doUnfold 95 = .ok (.ireturn, 1) := by decide +kernel
theorem dX8_doMove_0 : decode cX8_doMove 0 = .ok (.aload_n 0, 1) := by decide +kernel
theorem dX8_doMove_1 : decode cX8_doMove 1 = .ok (.iload_n 1, 1) := by decide +kernel
theorem dX8_doMove_2 : decode cX8_doMove 2 = .ok (.iload_n 2, 1) := by decide +kernel
theorem dX8_doMove_3 : decode cX8_doMove 3 = .ok (.invokevirtual 158, 3) := by decide +kernel
theorem dX8_doMove_6 : decode cX8_doMove 6 = .ok (.ifCond .ne 5, 3) := by decide +kernel
theorem dX8_doMove_9 : decode cX8_doMove 9 = .ok (.iconst 1, 1) := by decide +kernel
theorem dX8_doMove_10 : decode cX8_doMove 10 = .ok (.ireturn, 1) := by decide +kernel
theorem dX8_doMove_11 : decode cX8_doMove 11 = .ok (.aload_n 0, 1) := by decide +kernel
theorem dX8_doMove_12 : decode cX8_doMove 12 = .ok (.iload_n 1, 1) := by decide +kernel
theorem dX8_doMove_13 : decode cX8_doMove 13 = .ok (.iload_n 2, 1) := by decide +kernel
theorem dX8_doMove_14 : decode cX8_doMove 14 = .ok (.iload_n 3, 1) := by decide +kernel
theorem dX8_doMove_15 : decode cX8_doMove 15 = .ok (.iload 4, 2) := by decide +kernel
theorem dX8_doMove_17 : decode cX8_doMove 17 = .ok (.invokevirtual 225, 3) := by decide +kernel
theorem dX8_doMove_20 : decode cX8_doMove 20 = .ok (.iconst 0, 1) := by decide +kernel
theorem dX8_doMove_21 : decode cX8_doMove 21 = .ok (.ireturn, 1) := by decide +kernel
theorem dX8_doInsert_0 : decode cX8_doInsert 0 = .ok (.aload_n 0, 1) := by decide +kernel
theorem dX8_doInsert_1 : decode cX8_doInsert 1 = .ok (.iload_n 1, 1) := by decide +kernel
theorem dX8_doInsert_2 : decode cX8_doInsert 2 = .ok (.invokevirtual 101, 3) := by decide +kernel
theorem dX8_doInsert_5 : decode cX8_doInsert 5 = .ok (.ifCond .eq 16, 3) := by decide +kernel
theorem dX8_doInsert_8 : decode cX8_doInsert 8 = .ok (.iload_n 2, 1) := by decide +kernel
theorem dX8_doInsert_9 : decode cX8_doInsert 9 = .ok (.iconst 0, 1) := by decide +kernel
theorem dX8_doInsert_10 : decode cX8_doInsert 10 = .ok (.aload_n 0, 1) := by decide +kernel
theorem dX8_doInsert_11 : decode cX8_doInsert 11 = .ok (.iload_n 1, 1) := by decide +kernel
theorem dX8_doInsert_12 : decode cX8_doInsert 12 = .ok (.invokevirtual 105, 3) := by decide +kernel
theorem dX8_doInsert_15 : decode cX8_doInsert 15 = .ok (.invokestatic 93, 3) := by decide +kernel
theorem dX8_doInsert_18 : decode cX8_doInsert 18 = .ok (.ifCond .ne 5, 3) := by decide +kernel
theorem dX8_doInsert_21 : decode cX8_doInsert 21 = .ok (.iconst 1, 1) := by decide +kernel
theorem dX8_doInsert_22 : decode cX8_doInsert 22 = .ok (.ireturn, 1) := by decide +kernel
theorem dX8_doInsert_23 : decode cX8_doInsert 23 = .ok (.aload_n 0, 1) := by decide +kernel
theorem dX8_doInsert_24 : decode cX8_doInsert 24 = .ok (.iload_n 1, 1) := by decide +kernel
theorem dX8_doInsert_25 : decode cX8_doInsert 25 = .ok (.invokevirtual 105, 3) := by decide +kernel
theorem dX8_doInsert_28 : decode cX8_doInsert 28 = .ok (.sipush 129, 3) := by decide +kernel
theorem dX8_doInsert_31 : decode cX8_doInsert 31 = .ok (.if_icmp .ne 5, 3) := by decide +kernel
theorem dX8_doInsert_34 : decode cX8_doInsert 34 = .ok (.iconst 3, 1) := by decide +kernel
theorem dX8_doInsert_35 : decode cX8_doInsert 35 = .ok (.ireturn, 1) := by decide +kernel
theorem dX8_doInsert_36 : decode cX8_doInsert 36 = .ok (.aload_n 0, 1) := by decide +kernel
theorem dX8_doInsert_37 : decode cX8_doInsert 37 = .ok (.iload_n 1, 1) := by decide +kernel
theorem dX8_doInsert_38 : decode cX8_doInsert 38 = .ok (.invokevirtual 105, 3) := by decide +kernel
theorem dX8_doInsert_41 : decode cX8_doInsert 41 = .ok (.istore 5, 2) := by decide +kernel
theorem dX8_doInsert_43 : decode cX8_doInsert 43 = .ok (.iload 5, 2) := by decide +kernel
theorem dX8_doInsert_45 : decode cX8_doInsert 45 = .ok (.iload_n 2, 1) := by decide +kernel
theorem dX8_doInsert_46 : decode cX8_doInsert 46 = .ok (.if_icmp .le 34, 3) := by decide +kernel
theorem dX8_doInsert_49 : decode cX8_doInsert 49 = .ok (.aload_n 0, 1) := by decide +kernel
theorem dX8_doInsert_50 : decode cX8_doInsert 50 = .ok (.iload_n 1, 1) := by decide +kernel
theorem dX8_doInsert_51 : decode cX8_doInsert 51 = .ok (.iload 5, 2) := by decide +kernel
theorem dX8_doInsert_53 : decode cX8_doInsert 53 = .ok (.aload_n 0, 1) := by decide +kernel
theorem dX8_doInsert_54 : decode cX8_doInsert 54 = .ok (.iload_n 1, 1) := by decide +kernel
theorem dX8_doInsert_55 : decode cX8_doInsert 55 = .ok (.iload 5, 2) := by decide +kernel
theorem dX8_doInsert_57 : decode cX8_doInsert 57 = .ok (.iconst 1, 1) := by decide +kernel
theorem dX8_doInsert_58 : decode cX8_doInsert 58 = .ok (.isub, 1) := by decide +kernel
theorem dX8_doInsert_59 : decode cX8_doInsert 59 = .ok (.invokevirtual 126, 3) := by decide +kernel
theorem dX8_doInsert_62 : decode cX8_doInsert 62 = .ok (.aload_n 0, 1) := by decide +kernel
theorem dX8_doInsert_63 : decode cX8_doInsert 63 = .ok (.iload_n 1, 1) := by decide +kernel
theorem dX8_doInsert_64 : decode cX8_doInsert 64 = .ok (.iload 5, 2) := by decide +kernel
theorem dX8_doInsert_66 : decode cX8_doInsert 66 = .ok (.iconst 1, 1) := by decide +kernel
theorem dX8_doInsert_67 : decode cX8_doInsert 67 = .ok (.isub, 1) := by decide +kernel
theorem dX8_doInsert_68 : decode cX8_doInsert 68 = .ok (.invokevirtual 130, 3) := by decide +kernel
theorem dX8_doInsert_71 : decode cX8_doInsert 71 = .ok (.invokevirtual 225, 3) := by decide +kernel
theorem dX8_doInsert_74 : decode cX8_doInsert 74 = .ok (.iinc 5 (-1), 3) := by decide +kernel
theorem dX8_doInsert_77 : decode cX8_doInsert 77 = .ok (.goto (-34), 3) := by decide +kernel
theorem dX8_doInsert_80 : decode cX8_doInsert 80 = .ok (.aload_n 0, 1) := by decide +kernel
theorem dX8_doInsert_81 : decode cX8_doInsert 81 = .ok (.iload_n 1, 1) := by decide +kernel
theorem dX8_doInsert_82 : decode cX8_doInsert 82 = .ok (.iload_n 2, 1) := by decide +kernel
theorem dX8_doInsert_83 : decode cX8_doInsert 83 = .ok (.iload_n 3, 1) := by decide +kernel
theorem dX8_doInsert_84 : decode cX8_doInsert 84 = .ok (.iload 4, 2) := by decide +kernel
theorem dX8_doInsert_86 : decode cX8_doInsert 86 = .ok (.invokevirtual 225, 3) := by decide +kernel
theorem dX8_doInsert_89 : decode cX8_doInsert 89 = .ok (.aload_n 0, 1) := by decide +kernel
theorem dX8_doInsert_90 : decode cX8_doInsert 90 = .ok (.getfield 25, 3) := by decide +kernel
theorem dX8_doInsert_93 : decode cX8_doInsert 93 = .ok (.iload_n 1, 1) := by decide +kernel
theorem dX8_doInsert_94 : decode cX8_doInsert 94 = .ok (.invokestatic 97, 3) := by decide +kernel
theorem dX8_doInsert_97 : decode cX8_doInsert 97 = .ok (.iconst 1, 1) := by decide +kernel
theorem dX8_doInsert_98 : decode cX8_doInsert 98 = .ok (.iadd, 1) := by decide +kernel
theorem dX8_doInsert_99 : decode cX8_doInsert 99 = .ok (.dup2, 1) := by decide +kernel
theorem dX8_doInsert_100 : decode cX8_doInsert 100 = .ok (.iaload, 1) := by decide +kernel
theorem dX8_doInsert_101 : decode cX8_doInsert 101 = .ok (.iconst 1, 1) := by decide +kernel
theorem dX8_doInsert_102 : decode cX8_doInsert 102 = .ok (.iadd, 1) := by decide +kernel
theorem dX8_doInsert_103 : decode cX8_doInsert 103 = .ok (.iastore, 1) := by decide +kernel
theorem dX8_doInsert_104 : decode cX8_doInsert 104 = .ok (.aload_n 0, 1) := by decide +kernel
theorem dX8_doInsert_105 : decode cX8_doInsert 105 = .ok (.getfield 25, 3) := by decide +kernel
theorem dX8_doInsert_108 : decode cX8_doInsert 108 = .ok (.iconst 3, 1) := by decide +kernel
theorem dX8_doInsert_109 : decode cX8_doInsert 109 = .ok (.dup2, 1) := by decide +kernel
theorem dX8_doInsert_110 : decode cX8_doInsert 110 = .ok (.iaload, 1) := by decide +kernel
theorem dX8_doInsert_111 : decode cX8_doInsert 111 = .ok (.iconst 1, 1) := by decide +kernel
theorem dX8_doInsert_112 : decode cX8_doInsert 112 = .ok (.iadd, 1) := by decide +kernel
theorem dX8_doInsert_113 : decode cX8_doInsert 113 = .ok (.iastore, 1) := by decide +kernel
theorem dX8_doInsert_114 : decode cX8_doInsert 114 = .ok (.iconst 0, 1) := by decide +kernel
theorem dX8_doInsert_115 : decode cX8_doInsert 115 = .ok (.ireturn, 1) := by decide +kernel
theorem dX8_doCut_0 : decode cX8_doCut 0 = .ok (.aload_n 0, 1) := by decide +kernel
theorem dX8_doCut_1 : decode cX8_doCut 1 = .ok (.iload_n 1, 1) := by decide +kernel
theorem dX8_doCut_2 : decode cX8_doCut 2 = .ok (.iload_n 2, 1) := by decide +kernel
theorem dX8_doCut_3 : decode cX8_doCut 3 = .ok (.invokevirtual 158, 3) := by decide +kernel
theorem dX8_doCut_6 : decode cX8_doCut 6 = .ok (.ifCond .ne 5, 3) := by decide +kernel
theorem dX8_doCut_9 : decode cX8_doCut 9 = .ok (.iconst 1, 1) := by decide +kernel
theorem dX8_doCut_10 : decode cX8_doCut 10 = .ok (.ireturn, 1) := by decide +kernel
theorem dX8_doCut_11 : decode cX8_doCut 11 = .ok (.aload_n 0, 1) := by decide +kernel
theorem dX8_doCut_12 : decode cX8_doCut 12 = .ok (.iload_n 1, 1) := by decide +kernel
theorem dX8_doCut_13 : decode cX8_doCut 13 = .ok (.invokevirtual 105, 3) := by decide +kernel
theorem dX8_doCut_16 : decode cX8_doCut 16 = .ok (.aload_n 0, 1) := by decide +kernel
theorem dX8_doCut_17 : decode cX8_doCut 17 = .ok (.iload_n 1, 1) := by decide +kernel
theorem dX8_doCut_18 : decode cX8_doCut 18 = .ok (.invokevirtual 241, 3) := by decide +kernel
theorem dX8_doCut_21 : decode cX8_doCut 21 = .ok (.if_icmp .ne 5, 3) := by decide +kernel
theorem dX8_doCut_24 : decode cX8_doCut 24 = .ok (.iconst 2, 1) := by decide +kernel
theorem dX8_doCut_25 : decode cX8_doCut 25 = .ok (.ireturn, 1) := by decide +kernel
theorem dX8_doCut_26 : decode cX8_doCut 26 = .ok (.aload_n 0, 1) := by decide +kernel
theorem dX8_doCut_27 : decode cX8_doCut 27 = .ok (.iload_n 1, 1) := by decide +kernel
theorem dX8_doCut_28 : decode cX8_doCut 28 = .ok (.iload_n 2, 1) := by decide +kernel
theorem dX8_doCut_29 : decode cX8_doCut 29 = .ok (.invokevirtual 247, 3) := by decide +kernel
theorem dX8_doCut_32 : decode cX8_doCut 32 = .ok (.aload_n 0, 1) := by decide +kernel
theorem dX8_doCut_33 : decode cX8_doCut 33 = .ok (.getfield 25, 3) := by decide +kernel
theorem dX8_doCut_36 : decode cX8_doCut 36 = .ok (.iconst 4, 1) := by decide +kernel
theorem dX8_doCut_37 : decode cX8_doCut 37 = .ok (.dup2, 1) := by decide +kernel
theorem dX8_doCut_38 : decode cX8_doCut 38 = .ok (.iaload, 1) := by decide +kernel
theorem dX8_doCut_39 : decode cX8_doCut 39 = .ok (.iconst 1, 1) := by decide +kernel
theorem dX8_doCut_40 : decode cX8_doCut 40 = .ok (.iadd, 1) := by decide +kernel
theorem dX8_doCut_41 : decode cX8_doCut 41 = .ok (.iastore, 1) := by decide +kernel
theorem dX8_doCut_42 : decode cX8_doCut 42 = .ok (.iconst 0, 1) := by decide +kernel
theorem dX8_doCut_43 : decode cX8_doCut 43 = .ok (.ireturn, 1) := by decide +kernel
theorem dX8_doShift_0 : decode cX8_doShift 0 = .ok (.aload_n 0, 1) := by decide +kernel
theorem dX8_doShift_1 : decode cX8_doShift 1 = .ok (.iload_n 1, 1) := by decide +kernel
theorem dX8_doShift_2 : decode cX8_doShift 2 = .ok (.invokevirtual 101, 3) := by decide +kernel
theorem dX8_doShift_5 : decode cX8_doShift 5 = .ok (.ifCond .ne 5, 3) := by decide +kernel
theorem dX8_doShift_8 : decode cX8_doShift 8 = .ok (.iconst 1, 1) := by decide +kernel
theorem dX8_doShift_9 : decode cX8_doShift 9 = .ok (.ireturn, 1) := by decide +kernel
theorem dX8_doShift_10 : decode cX8_doShift 10 = .ok (.iconst 0, 1) := by decide +kernel
theorem dX8_doShift_11 : decode cX8_doShift 11 = .ok (.istore 4, 2) := by decide +kernel
theorem dX8_doShift_13 : decode cX8_doShift 13 = .ok (.iload 4, 2) := by decide +kernel
theorem dX8_doShift_15 : decode cX8_doShift 15 = .ok (.aload_n 0, 1) := by decide +kernel
theorem dX8_doShift_16 : decode cX8_doShift 16 = .ok (.iload_n 1, 1) := by decide +kernel
theorem dX8_doShift_17 : decode cX8_doShift 17 = .ok (.invokevirtual 105, 3) := by decide +kernel
theorem dX8_doShift_20 : decode cX8_doShift 20 = .ok (.if_icmp .ge 35, 3) := by decide +kernel
theorem dX8_doShift_23 : decode cX8_doShift 23 = .ok (.aload_n 0, 1) := by decide +kernel
theorem dX8_doShift_24 : decode cX8_doShift 24 = .ok (.iload_n 1, 1) := by decide +kernel
theorem dX8_doShift_25 : decode cX8_doShift 25 = .ok (.iload 4, 2) := by decide +kernel
theorem dX8_doShift_27 : decode cX8_doShift 27 = .ok (.invokevirtual 126, 3) := by decide +kernel
theorem dX8_doShift_30 : decode cX8_doShift 30 = .ok (.iload_n 2, 1) := by decide +kernel
theorem dX8_doShift_31 : decode cX8_doShift 31 = .ok (.iadd, 1) := by decide +kernel
theorem dX8_doShift_32 : decode cX8_doShift 32 = .ok (.aload_n 0, 1) := by decide +kernel
theorem dX8_doShift_33 : decode cX8_doShift 33 = .ok (.iload_n 1, 1) := by decide +kernel
theorem dX8_doShift_34 : decode cX8_doShift 34 = .ok (.iload 4, 2) := by decide +kernel
theorem dX8_doShift_36 : decode cX8_doShift 36 = .ok (.invokevirtual 130, 3) := by decide +kernel
theorem dX8_doShift_39 : decode cX8_doShift 39 = .ok (.iload_n 3, 1) := by decide +kernel
theorem dX8_doShift_40 : decode cX8_doShift 40 = .ok (.iadd, 1) := by decide +kernel
theorem dX8_doShift_41 : decode cX8_doShift 41 = .ok (.invokestatic 162, 3) := by decide +kernel
theorem dX8_doShift_44 : decode cX8_doShift 44 = .ok (.ifCond .ne 5, 3) := by decide +kernel
theorem dX8_doShift_47 : decode cX8_doShift 47 = .ok (.iconst 3, 1) := by decide +kernel
theorem dX8_doShift_48 : decode cX8_doShift 48 = .ok (.ireturn, 1) := by decide +kernel
theorem dX8_doShift_49 : decode cX8_doShift 49 = .ok (.iinc 4 1, 3) := by decide +kernel
theorem dX8_doShift_52 : decode cX8_doShift 52 = .ok (.goto (-39), 3) := by decide +kernel
theorem dX8_doShift_55 : decode cX8_doShift 55 = .ok (.iconst 0, 1) := by decide +kernel
theorem dX8_doShift_56 : decode cX8_doShift 56 = .ok (.istore 4, 2) := by decide +kernel
theorem dX8_doShift_58 : decode cX8_doShift 58 = .ok (.iload 4, 2) := by decide +kernel
theorem dX8_doShift_60 : decode cX8_doShift 60 = .ok (.aload_n 0, 1) := by decide +kernel
theorem dX8_doShift_61 : decode cX8_doShift 61 = .ok (.iload_n 1, 1) := by decide +kernel
theorem dX8_doShift_62 : decode cX8_doShift 62 = .ok (.invokevirtual 105, 3) := by decide +kernel
theorem dX8_doShift_65 : decode cX8_doShift 65 = .ok (.if_icmp .ge 34, 3) := by decide +kernel
theorem dX8_doShift_68 : decode cX8_doShift 68 = .ok (.aload_n 0, 1) := by decide +kernel
theorem dX8_doShift_69 : decode cX8_doShift 69 = .ok (.iload_n 1, 1) := by decide +kernel
theorem dX8_doShift_70 : decode cX8_doShift 70 = .ok (.iload 4, 2) := by decide +kernel
theorem dX8_doShift_72 : decode cX8_doShift 72 = .ok (.aload_n 0, 1) := by decide +kernel
theorem dX8_doShift_73 : decode cX8_doShift 73 = .ok (.iload_n 1, 1) := by decide +kernel
theorem dX8_doShift_74 : decode cX8_doShift 74 = .ok (.iload 4, 2) := by decide +kernel
theorem dX8_doShift_76 : decode cX8_doShift 76 = .ok (.invokevirtual 126, 3) := by decide +kernel
theorem dX8_doShift_79 : decode cX8_doShift 79 = .ok (.iload_n 2, 1) := by decide +kernel
theorem dX8_doShift_80 : decode cX8_doShift 80 = .ok (.iadd, 1) := by decide +kernel
theorem dX8_doShift_81 : decode cX8_doShift 81 = .ok (.aload_n 0, 1) := by decide +kernel
theorem dX8_doShift_82 : decode cX8_doShift 82 = .ok (.iload_n 1, 1) := by decide +kernel
theorem dX8_doShift_83 : decode cX8_doShift 83 = .ok (.iload 4, 2) := by decide +kernel
theorem dX8_doShift_85 : decode cX8_doShift 85 = .ok (.invokevirtual 130, 3) := by decide +kernel
theorem dX8_doShift_88 : decode cX8_doShift 88 = .ok (.iload_n 3, 1) := by decide +kernel
theorem dX8_doShift_89 : decode cX8_doShift 89 = .ok (.iadd, 1) := by decide +kernel
theorem dX8_doShift_90 : decode cX8_doShift 90 = .ok (.invokevirtual 225, 3) := by decide +kernel
theorem dX8_doShift_93 : decode cX8_doShift 93 = .ok (.iinc 4 1, 3) := by decide +kernel
theorem dX8_doShift_96 : decode cX8_doShift 96 = .ok (.goto (-38), 3) := by decide +kernel
theorem dX8_doShift_99 : decode cX8_doShift 99 = .ok (.iconst 0, 1) := by decide +kernel
theorem dX8_doShift_100 : decode cX8_doShift 100 = .ok (.ireturn, 1) := by decide +kernel
theorem dX8_doReverse_0 : decode cX8_doReverse 0 = .ok (.aload_n 0, 1) := by decide +kernel
theorem dX8_doReverse_1 : decode cX8_doReverse 1 = .ok (.iload_n 1, 1) := by decide +kernel
theorem dX8_doReverse_2 : decode cX8_doReverse 2 = .ok (.invokevirtual 101, 3) := by decide +kernel
theorem dX8_doReverse_5 : decode cX8_doReverse 5 = .ok (.ifCond .ne 5, 3) := by decide +kernel
theorem dX8_doReverse_8 : decode cX8_doReverse 8 = .ok (.iconst 1, 1) := by decide +kernel
theorem dX8_doReverse_9 : decode cX8_doReverse 9 = .ok (.ireturn, 1) := by decide +kernel
theorem dX8_doReverse_10 : decode cX8_doReverse 10 = .ok (.aload_n 0, 1) := by decide +kernel
theorem dX8_doReverse_11 : decode cX8_doReverse 11 = .ok (.iload_n 1, 1) := by decide +kernel
theorem dX8_doReverse_12 : decode cX8_doReverse 12 = .ok (.bipush 6, 2) := by decide +kernel
theorem dX8_doReverse_14 : decode cX8_doReverse 14 = .ok (.invokevirtual 244, 3) := by decide +kernel
theorem dX8_doReverse_17 : decode cX8_doReverse 17 = .ok (.iconst 0, 1) := by decide +kernel
theorem dX8_doReverse_18 : decode cX8_doReverse 18 = .ok (.istore_n 2, 1) := by decide +kernel
theorem dX8_doReverse_19 : decode cX8_doReverse 19 = .ok (.iload_n 2, 1) := by decide +kernel
theorem dX8_doReverse_20 : decode cX8_doReverse 20 = .ok (.aload_n 0, 1) := by decide +kernel
theorem dX8_doReverse_21 : decode cX8_doReverse 21 = .ok (.iload_n 1, 1) := by decide +kernel
theorem dX8_doReverse_22 : decode cX8_doReverse 22 = .ok (.invokevirtual 105, 3) := by decide +kernel
theorem dX8_doReverse_25 : decode cX8_doReverse 25 = .ok (.if_icmp .ge 39, 3) := by decide +kernel
theorem dX8_doReverse_28 : decode cX8_doReverse 28 = .ok (.aload_n 0, 1) := by decide +kernel
theorem dX8_doReverse_29 : decode cX8_doReverse 29 = .ok (.iload_n 1, 1) := by decide +kernel
theorem dX8_doReverse_30 : decode cX8_doReverse 30 = .ok (.invokevirtual 105, 3) := by decide +kernel
theorem dX8_doReverse_33 : decode cX8_doReverse 33 = .ok (.iconst 1, 1) := by decide +kernel
theorem dX8_doReverse_34 : decode cX8_doReverse 34 = .ok (.isub, 1) := by decide +kernel
theorem dX8_doReverse_35 : decode cX8_doReverse 35 = .ok (.iload_n 2, 1) := by decide +kernel
theorem dX8_doReverse_36 : decode cX8_doReverse 36 = .ok (.isub, 1) := by decide +kernel
theorem dX8_doReverse_37 : decode cX8_doReverse 37 = .ok (.istore_n 3, 1) := by decide +kernel
theorem dX8_doReverse_38 : decode cX8_doReverse 38 = .ok (.aload_n 0, 1) := by decide +kernel
theorem dX8_doReverse_39 : decode cX8_doReverse 39 = .ok (.iload_n 1, 1) := by decide +kernel
theorem dX8_doReverse_40 : decode cX8_doReverse 40 = .ok (.iload_n 2, 1) := by decide +kernel
theorem dX8_doReverse_41 : decode cX8_doReverse 41 = .ok (.aload_n 0, 1) := by decide +kernel
theorem dX8_doReverse_42 : decode cX8_doReverse 42 = .ok (.bipush 6, 2) := by decide +kernel
theorem dX8_doReverse_44 : decode cX8_doReverse 44 = .ok (.iload_n 3, 1) := by decide +kernel
theorem dX8_doReverse_45 : decode cX8_doReverse 45 = .ok (.invokevirtual 126, 3) := by decide +kernel
theorem dX8_doReverse_48 : decode cX8_doReverse 48 = .ok (.aload_n 0, 1) := by decide +kernel
theorem dX8_doReverse_49 : decode cX8_doReverse 49 = .ok (.bipush 6, 2) := by decide +kernel
theorem dX8_doReverse_51 : decode cX8_doReverse 51 = .ok (.iload_n 3, 1) := by decide +kernel
theorem dX8_doReverse_52 : decode cX8_doReverse 52 = .ok (.invokevirtual 130, 3) := by decide +kernel
theorem dX8_doReverse_55 : decode cX8_doReverse 55 = .ok (.invokevirtual 225, 3) := by decide +kernel
theorem dX8_doReverse_58 : decode cX8_doReverse 58 = .ok (.iinc 2 1, 3) := by decide +kernel
theorem dX8_doReverse_61 : decode cX8_doReverse 61 = .ok (.goto (-42), 3) := by decide +kernel
theorem dX8_doReverse_64 : decode cX8_doReverse 64 = .ok (.iconst 0, 1) := by decide +kernel
theorem dX8_doReverse_65 : decode cX8_doReverse 65 = .ok (.ireturn, 1) := by decide +kernel
theorem dX8_copy_0 : decode cX8_copy 0 = .ok (.aload_n 0, 1) := by decide +kernel
theorem dX8_copy_1 : decode cX8_copy 1 = .ok (.sipush 1825, 3) := by decide +kernel
theorem dX8_copy_4 : decode cX8_copy 4 = .ok (.iload_n 1, 1) := by decide +kernel
theorem dX8_copy_5 : decode cX8_copy 5 = .ok (.imul, 1) := by decide +kernel
theorem dX8_copy_6 : decode cX8_copy 6 = .ok (.aload_n 2, 1) := by decide +kernel
theorem dX8_copy_7 : decode cX8_copy 7 = .ok (.sipush 1825, 3) := by decide +kernel
theorem dX8_copy_10 : decode cX8_copy 10 = .ok (.iload_n 3, 1) := by decide +kernel
theorem dX8_copy_11 : decode cX8_copy 11 = .ok (.imul, 1) := by decide +kernel
theorem dX8_copy_12 : decode cX8_copy 12 = .ok (.sipush 1825, 3) := by decide +kernel
theorem dX8_copy_15 : decode cX8_copy 15 = .ok (.invokestatic 117, 3) := by decide +kernel
theorem dX8_copy_18 : decode cX8_copy 18 = .ok (.return_, 1) := by decide +kernel
theorem dX8_keep_0 : decode cX8_keep 0 = .ok (.aload_n 0, 1) := by decide +kernel
theorem dX8_keep_1 : decode cX8_keep 1 = .ok (.getfield 9, 3) := by decide +kernel
theorem dX8_keep_4 : decode cX8_keep 4 = .ok (.iconst 0, 1) := by decide +kernel
theorem dX8_keep_5 : decode cX8_keep 5 = .ok (.aload_n 0, 1) := by decide +kernel
theorem dX8_keep_6 : decode cX8_keep 6 = .ok (.getfield 16, 3) := by decide +kernel
theorem dX8_keep_9 : decode cX8_keep 9 = .ok (.iconst 0, 1) := by decide +kernel
theorem dX8_keep_10 : decode cX8_keep 10 = .ok (.invokestatic 253, 3) := by decide +kernel
theorem dX8_keep_13 : decode cX8_keep 13 = .ok (.return_, 1) := by decide +kernel
theorem dX8_record_0 : decode cX8_record 0 = .ok (.aload_n 0, 1) := by decide +kernel
theorem dX8_record_1 : decode cX8_record 1 = .ok (.getfield 257, 3) := by decide +kernel
theorem dX8_record_4 : decode cX8_record 4 = .ok (.bipush 8, 2) := by decide +kernel
theorem dX8_record_6 : decode cX8_record 6 = .ok (.if_icmp .ne 42, 3) := by decide +kernel
theorem dX8_record_9 : decode cX8_record 9 = .ok (.iconst 1, 1) := by decide +kernel
theorem dX8_record_10 : decode cX8_record 10 = .ok (.istore_n 1, 1) := by decide +kernel
theorem dX8_record_11 : decode cX8_record 11 = .ok (.iload_n 1, 1) := by decide +kernel
theorem dX8_record_12 : decode cX8_record 12 = .ok (.bipush 8, 2) := by decide +kernel
theorem dX8_record_14 : decode cX8_record 14 = .ok (.if_icmp .ge 24, 3) := by decide +kernel
theorem dX8_record_17 : decode cX8_record 17 = .ok (.aload_n 0, 1) := by decide +kernel
theorem dX8_record_18 : decode cX8_record 18 = .ok (.getfield 22, 3) := by decide +kernel
theorem dX8_record_21 : decode cX8_record 21 = .ok (.iload_n 1, 1) := by decide +kernel
theorem dX8_record_22 : decode cX8_record 22 = .ok (.aload_n 0, 1) := by decide +kernel
theorem dX8_record_23 : decode cX8_record 23 = .ok (.getfield 22, 3) := by decide +kernel
theorem dX8_record_26 : decode cX8_record 26 = .ok (.iload_n 1, 1) := by decide +kernel
theorem dX8_record_27 : decode cX8_record 27 = .ok (.iconst 1, 1) := by decide +kernel
theorem dX8_record_28 : decode cX8_record 28 = .ok (.isub, 1) := by decide +kernel
theorem dX8_record_29 : decode cX8_record 29 = .ok (.invokestatic 253, 3) := by decide +kernel
theorem dX8_record_32 : decode cX8_record 32 = .ok (.iinc 1 1, 3) := by decide +kernel
theorem dX8_record_35 : decode cX8_record 35 = .ok (.goto (-24), 3) := by decide +kernel
theorem dX8_record_38 : decode cX8_record 38 = .ok (.aload_n 0, 1) := by decide +kernel
theorem dX8_record_39 : decode cX8_record 39 = .ok (.dup, 1) := by decide +kernel
theorem dX8_record_40 : decode cX8_record 40 = .ok (.getfield 257, 3) := by decide +kernel
theorem dX8_record_43 : decode cX8_record 43 = .ok (.iconst 1, 1) := by decide +kernel
theorem dX8_record_44 : decode cX8_record 44 = .ok (.isub, 1) := by decide +kernel
theorem dX8_record_45 : decode cX8_record 45 = .ok (.putfield 257, 3) := by decide +kernel
theorem dX8_record_48 : decode cX8_record 48 = .ok (.aload_n 0, 1) := by decide +kernel
theorem dX8_record_49 : decode cX8_record 49 = .ok (.getfield 16, 3) := by decide +kernel
theorem dX8_record_52 : decode cX8_record 52 = .ok (.iconst 0, 1) := by decide +kernel
theorem dX8_record_53 : decode cX8_record 53 = .ok (.aload_n 0, 1) := by decide +kernel
theorem dX8_record_54 : decode cX8_record 54 = .ok (.getfield 22, 3) := by decide +kernel
theorem dX8_record_57 : decode cX8_record 57 = .ok (.aload_n 0, 1) := by decide +kernel
theorem dX8_record_58 : decode cX8_record 58 = .ok (.getfield 257, 3) := by decide +kernel
theorem dX8_record_61 : decode cX8_record 61 = .ok (.invokestatic 253, 3) := by decide +kernel
theorem dX8_record_64 : decode cX8_record 64 = .ok (.aload_n 0, 1) := by decide +kernel
theorem dX8_record_65 : decode cX8_record 65 = .ok (.dup, 1) := by decide +kernel
theorem dX8_record_66 : decode cX8_record 66 = .ok (.getfield 257, 3) := by decide +kernel
theorem dX8_record_69 : decode cX8_record 69 = .ok (.iconst 1, 1) := by decide +kernel
theorem dX8_record_70 : decode cX8_record 70 = .ok (.iadd, 1) := by decide +kernel
theorem dX8_record_71 : decode cX8_record 71 = .ok (.putfield 257, 3) := by decide +kernel
theorem dX8_record_74 : decode cX8_record 74 = .ok (.return_, 1) := by decide +kernel
theorem dX8_fails_0 : decode cX8_fails 0 = .ok (.aload_n 0, 1) := by decide +kernel
theorem dX8_fails_1 : decode cX8_fails 1 = .ok (.iload_n 1, 1) := by decide +kernel
theorem dX8_fails_2 : decode cX8_fails 2 = .ok (.putfield 86, 3) := by decide +kernel
theorem dX8_fails_5 : decode cX8_fails 5 = .ok (.iload_n 1, 1) := by decide +kernel
theorem dX8_fails_6 : decode cX8_fails 6 = .ok (.ifCond .ne 7, 3) := by decide +kernel
theorem dX8_fails_9 : decode cX8_fails 9 = .ok (.aload_n 0, 1) := by decide +kernel
theorem dX8_fails_10 : decode cX8_fails 10 = .ok (.invokevirtual 260, 3) := by decide +kernel
theorem dX8_fails_13 : decode cX8_fails 13 = .ok (.iload_n 1, 1) := by decide +kernel
theorem dX8_fails_14 : decode cX8_fails 14 = .ok (.ifCond .eq 7, 3) := by decide +kernel
theorem dX8_fails_17 : decode cX8_fails 17 = .ok (.iconst 1, 1) := by decide +kernel
theorem dX8_fails_18 : decode cX8_fails 18 = .ok (.goto 4, 3) := by decide +kernel
theorem dX8_fails_21 : decode cX8_fails 21 = .ok (.iconst 0, 1) := by decide +kernel
theorem dX8_fails_22 : decode cX8_fails 22 = .ok (.ireturn, 1) := by decide +kernel
theorem dX8_removeCoast_0 : decode cX8_removeCoast 0 = .ok (.aload_n 0, 1) := by decide +kernel
theorem dX8_removeCoast_1 : decode cX8_removeCoast 1 = .ok (.invokevirtual 263, 3) := by decide +kernel
theorem dX8_removeCoast_4 : decode cX8_removeCoast 4 = .ok (.aload_n 0, 1) := by decide +kernel
theorem dX8_removeCoast_5 : decode cX8_removeCoast 5 = .ok (.iload_n 1, 1) := by decide +kernel
theorem dX8_removeCoast_6 : decode cX8_removeCoast 6 = .ok (.invokevirtual 101, 3) := by decide +kernel
theorem dX8_removeCoast_9 : decode cX8_removeCoast 9 = .ok (.ifCond .eq 11, 3) := by decide +kernel
theorem dX8_removeCoast_12 : decode cX8_removeCoast 12 = .ok (.aload_n 0, 1) := by decide +kernel
theorem dX8_removeCoast_13 : decode cX8_removeCoast 13 = .ok (.iload_n 1, 1) := by decide +kernel
theorem dX8_removeCoast_14 : decode cX8_removeCoast 14 = .ok (.invokevirtual 105, 3) := by decide +kernel
theorem dX8_removeCoast_17 : decode cX8_removeCoast 17 = .ok (.goto 4, 3) := by decide +kernel
theorem dX8_removeCoast_20 : decode cX8_removeCoast 20 = .ok (.iconst 0, 1) := by decide +kernel
theorem dX8_removeCoast_21 : decode cX8_removeCoast 21 = .ok (.istore_n 2, 1) := by decide +kernel
theorem dX8_removeCoast_22 : decode cX8_removeCoast 22 = .ok (.aload_n 0, 1) := by decide +kernel
theorem dX8_removeCoast_23 : decode cX8_removeCoast 23 = .ok (.aload_n 0, 1) := by decide +kernel
theorem dX8_removeCoast_24 : decode cX8_removeCoast 24 = .ok (.iload_n 1, 1) := by decide +kernel
theorem dX8_removeCoast_25 : decode cX8_removeCoast 25 = .ok (.invokevirtual 266, 3) := by decide +kernel
theorem dX8_removeCoast_28 : decode cX8_removeCoast 28 = .ok (.invokevirtual 269, 3) := by decide +kernel
theorem dX8_removeCoast_31 : decode cX8_removeCoast 31 = .ok (.ifCond .eq 7, 3) := by decide +kernel
theorem dX8_removeCoast_34 : decode cX8_removeCoast 34 = .ok (.iconst 0, 1) := by decide +kernel
theorem dX8_removeCoast_35 : decode cX8_removeCoast 35 = .ok (.goto 4, 3) := by decide +kernel
theorem dX8_removeCoast_38 : decode cX8_removeCoast 38 = .ok (.iload_n 2, 1) := by decide +kernel
theorem dX8_removeCoast_39 : decode cX8_removeCoast 39 = .ok (.ireturn, 1) := by decide +kernel
theorem dX8_fold_0 : decode cX8_fold 0 = .ok (.aload_n 0, 1) := by decide +kernel
theorem dX8_fold_1 : decode cX8_fold 1 = .ok (.aload_n 0, 1) := by decide +kernel
theorem dX8_fold_2 : decode cX8_fold 2 = .ok (.iload_n 1, 1) := by decide +kernel
theorem dX8_fold_3 : decode cX8_fold 3 = .ok (.invokevirtual 101, 3) := by decide +kernel
theorem dX8_fold_6 : decode cX8_fold 6 = .ok (.iload_n 2, 1) := by decide +kernel
theorem dX8_fold_7 : decode cX8_fold 7 = .ok (.invokestatic 235, 3) := by decide +kernel
theorem dX8_fold_10 : decode cX8_fold 10 = .ok (.invokevirtual 165, 3) := by decide +kernel
theorem dX8_fold_13 : decode cX8_fold 13 = .ok (.ifCond .eq 5, 3) := by decide +kernel
theorem dX8_fold_16 : decode cX8_fold 16 = .ok (.iconst 0, 1) := by decide +kernel
theorem dX8_fold_17 : decode cX8_fold 17 = .ok (.ireturn, 1) := by decide +kernel
theorem dX8_fold_18 : decode cX8_fold 18 = .ok (.aload_n 0, 1) := by decide +kernel
theorem dX8_fold_19 : decode cX8_fold 19 = .ok (.invokevirtual 263, 3) := by decide +kernel
theorem dX8_fold_22 : decode cX8_fold 22 = .ok (.aload_n 0, 1) := by decide +kernel
theorem dX8_fold_23 : decode cX8_fold 23 = .ok (.aload_n 0, 1) := by decide +kernel
theorem dX8_fold_24 : decode cX8_fold 24 = .ok (.iload_n 1, 1) := by decide +kernel
theorem dX8_fold_25 : decode cX8_fold 25 = .ok (.iload_n 2, 1) := by decide +kernel
theorem dX8_fold_26 : decode cX8_fold 26 = .ok (.invokevirtual 272, 3) := by decide +kernel
theorem dX8_fold_29 : decode cX8_fold 29 = .ok (.invokevirtual 269, 3) := by decide +kernel
theorem dX8_fold_32 : decode cX8_fold 32 = .ok (.ifCond .eq 7, 3) := by decide +kernel
theorem dX8_fold_35 : decode cX8_fold 35 = .ok (.iconst 0, 1) := by decide +kernel
theorem dX8_fold_36 : decode cX8_fold 36 = .ok (.goto 8, 3) := by decide +kernel
theorem dX8_fold_39 : decode cX8_fold 39 = .ok (.aload_n 0, 1) := by decide +kernel
theorem dX8_fold_40 : decode cX8_fold 40 = .ok (.iload_n 1, 1) := by decide +kernel
theorem dX8_fold_41 : decode cX8_fold 41 = .ok (.invokevirtual 105, 3) := by decide +kernel
theorem dX8_fold_44 : decode cX8_fold 44 = .ok (.ireturn, 1) := by decide +kernel
theorem dX8_unfold_0 : decode cX8_unfold 0 = .ok (.aload_n 0, 1) := by decide +kernel
theorem dX8_unfold_1 : decode cX8_unfold 1 = .ok (.invokevirtual 263, 3) := by decide +kernel
theorem dX8_unfold_4 : decode cX8_unfold 4 = .ok (.aload_n 0, 1) := by decide +kernel
theorem dX8_unfold_5 : decode cX8_unfold 5 = .ok (.aload_n 0, 1) := by decide +kernel
theorem dX8_unfold_6 : decode cX8_unfold 6 = .ok (.iload_n 1, 1) := by decide +kernel
theorem dX8_unfold_7 : decode cX8_unfold 7 = .ok (.invokevirtual 275, 3) := by decide +kernel
theorem dX8_unfold_10 : decode cX8_unfold 10 = .ok (.invokevirtual 269, 3) := by decide +kernel
theorem dX8_unfold_13 : decode cX8_unfold 13 = .ok (.ifCond .eq 7, 3) := by decide +kernel
theorem dX8_unfold_16 : decode cX8_unfold 16 = .ok (.iconst 0, 1) := by decide +kernel
theorem dX8_unfold_17 : decode cX8_unfold 17 = .ok (.goto 8, 3) := by decide +kernel
theorem dX8_unfold_20 : decode cX8_unfold 20 = .ok (.aload_n 0, 1) := by decide +kernel
theorem dX8_unfold_21 : decode cX8_unfold 21 = .ok (.iload_n 1, 1) := by decide +kernel
theorem dX8_unfold_22 : decode cX8_unfold 22 = .ok (.invokevirtual 105, 3) := by decide +kernel
theorem dX8_unfold_25 : decode cX8_unfold 25 = .ok (.ireturn, 1) := by decide +kernel
theorem dX8_movePoint_0 : decode cX8_movePoint 0 = .ok (.aload_n 0, 1) := by decide +kernel
theorem dX8_movePoint_1 : decode cX8_movePoint 1 = .ok (.aload_n 0, 1) := by decide +kernel
theorem dX8_movePoint_2 : decode cX8_movePoint 2 = .ok (.iload_n 1, 1) := by decide +kernel
theorem dX8_movePoint_3 : decode cX8_movePoint 3 = .ok (.iload_n 2, 1) := by decide +kernel
theorem dX8_movePoint_4 : decode cX8_movePoint 4 = .ok (.invokevirtual 158, 3) := by decide +kernel
theorem dX8_movePoint_7 : decode cX8_movePoint 7 = .ok (.iload_n 3, 1) := by decide +kernel
theorem dX8_movePoint_8 : decode cX8_movePoint 8 = .ok (.iload 4, 2) := by decide +kernel
theorem dX8_movePoint_10 : decode cX8_movePoint 10 = .ok (.invokestatic 162, 3) := by decide +kernel
theorem dX8_movePoint_13 : decode cX8_movePoint 13 = .ok (.invokevirtual 165, 3) := by decide +kernel
theorem dX8_movePoint_16 : decode cX8_movePoint 16 = .ok (.ifCond .eq 5, 3) := by decide +kernel
theorem dX8_movePoint_19 : decode cX8_movePoint 19 = .ok (.iconst 0, 1) := by decide +kernel
theorem dX8_movePoint_20 : decode cX8_movePoint 20 = .ok (.ireturn, 1) := by decide +kernel
theorem dX8_movePoint_21 : decode cX8_movePoint 21 = .ok (.aload_n 0, 1) := by decide +kernel
theorem dX8_movePoint_22 : decode cX8_movePoint 22 = .ok (.invokevirtual 263, 3) := by decide +kernel
theorem dX8_movePoint_25 : decode cX8_movePoint 25 = .ok (.aload_n 0, 1) := by decide +kernel
theorem dX8_movePoint_26 : decode cX8_movePoint 26 = .ok (.iload_n 1, 1) := by decide +kernel
theorem dX8_movePoint_27 : decode cX8_movePoint 27 = .ok (.iload_n 2, 1) := by decide +kernel
theorem dX8_movePoint_28 : decode cX8_movePoint 28 = .ok (.invokevirtual 126, 3) := by decide +kernel
theorem dX8_movePoint_31 : decode cX8_movePoint 31 = .ok (.iload_n 3, 1) := by decide +kernel
theorem dX8_movePoint_32 : decode cX8_movePoint 32 = .ok (.isub, 1) := by decide +kernel
theorem dX8_movePoint_33 : decode cX8_movePoint 33 = .ok (.aload_n 0, 1) := by decide +kernel
theorem dX8_movePoint_34 : decode cX8_movePoint 34 = .ok (.iload_n 1, 1) := by decide +kernel
theorem dX8_movePoint_35 : decode cX8_movePoint 35 = .ok (.iload_n 2, 1) := by decide +kernel
theorem dX8_movePoint_36 : decode cX8_movePoint 36 = .ok (.invokevirtual 130, 3) := by decide +kernel
theorem dX8_movePoint_39 : decode cX8_movePoint 39 = .ok (.iload 4, 2) := by decide +kernel
theorem dX8_movePoint_41 : decode cX8_movePoint 41 = .ok (.isub, 1) := by decide +kernel
theorem dX8_movePoint_42 : decode cX8_movePoint 42 = .ok (.aload_n 0, 1) := by decide +kernel
theorem dX8_movePoint_43 : decode cX8_movePoint 43 = .ok (.invokevirtual 151, 3) := by decide +kernel
theorem dX8_movePoint_46 : decode cX8_movePoint 46 = .ok (.invokestatic 133, 3) := by decide +kernel
theorem dX8_movePoint_49 : decode cX8_movePoint 49 = .ok (.istore 5, 2) := by decide +kernel
theorem dX8_movePoint_51 : decode cX8_movePoint 51 = .ok (.aload_n 0, 1) := by decide +kernel
theorem dX8_movePoint_52 : decode cX8_movePoint 52 = .ok (.aload_n 0, 1) := by decide +kernel
theorem dX8_movePoint_53 : decode cX8_movePoint 53 = .ok (.iload_n 1, 1) := by decide +kernel
theorem dX8_movePoint_54 : decode cX8_movePoint 54 = .ok (.iload_n 2, 1) := by decide +kernel
theorem dX8_movePoint_55 : decode cX8_movePoint 55 = .ok (.iload_n 3, 1) := by decide +kernel
theorem dX8_movePoint_56 : decode cX8_movePoint 56 = .ok (.iload 4, 2) := by decide +kernel
theorem dX8_movePoint_58 : decode cX8_movePoint 58 = .ok (.invokevirtual 278, 3) := by decide +kernel
theorem dX8_movePoint_61 : decode cX8_movePoint 61 = .ok (.invokevirtual 269, 3) := by decide +kernel
theorem dX8_movePoint_64 : decode cX8_movePoint 64 = .ok (.ifCond .eq 7, 3) := by decide +kernel
theorem dX8_movePoint_67 : decode cX8_movePoint 67 = .ok (.iconst 0, 1) := by decide +kernel
theorem dX8_movePoint_68 : decode cX8_movePoint 68 = .ok (.goto 5, 3) := by decide +kernel
theorem dX8_movePoint_71 : decode cX8_movePoint 71 = .ok (.iload 5, 2) := by decide +kernel
theorem dX8_movePoint_73 : decode cX8_movePoint 73 = .ok (.ireturn, 1) := by decide +kernel
theorem dX8_insertPoint_0 : decode cX8_insertPoint 0 = .ok (.aload_n 0, 1) := by decide +kernel
theorem dX8_insertPoint_1 : decode cX8_insertPoint 1 = .ok (.aload_n 0, 1) := by decide +kernel
theorem dX8_insertPoint_2 : decode cX8_insertPoint 2 = .ok (.iload_n 1, 1) := by decide +kernel
theorem dX8_insertPoint_3 : decode cX8_insertPoint 3 = .ok (.invokevirtual 101, 3) := by decide +kernel
theorem dX8_insertPoint_6 : decode cX8_insertPoint 6 = .ok (.ifCond .eq 20, 3) := by decide +kernel
theorem dX8_insertPoint_9 : decode cX8_insertPoint 9 = .ok (.iload_n 2, 1) := by decide +kernel
theorem dX8_insertPoint_10 : decode cX8_insertPoint 10 = .ok (.iconst 0, 1) := by decide +kernel
theorem dX8_insertPoint_11 : decode cX8_insertPoint 11 = .ok (.aload_n 0, 1) := by decide +kernel
theorem dX8_insertPoint_12 : decode cX8_insertPoint 12 = .ok (.iload_n 1, 1) := by decide +kernel
theorem dX8_insertPoint_13 : decode cX8_insertPoint 13 = .ok (.invokevirtual 105, 3) := by decide +kernel
theorem dX8_insertPoint_16 : decode cX8_insertPoint 16 = .ok (.invokestatic 93, 3) := by decide +kernel
theorem dX8_insertPoint_19 : decode cX8_insertPoint 19 = .ok (.ifCond .eq 7, 3) := by decide +kernel
theorem dX8_insertPoint_22 : decode cX8_insertPoint 22 = .ok (.iconst 1, 1) := by decide +kernel
theorem dX8_insertPoint_23 : decode cX8_insertPoint 23 = .ok (.goto 4, 3) := by decide +kernel
theorem dX8_insertPoint_26 : decode cX8_insertPoint 26 = .ok (.iconst 0, 1) := by decide +kernel
theorem dX8_insertPoint_27 : decode cX8_insertPoint 27 = .ok (.iload_n 3, 1) := by decide +kernel
theorem dX8_insertPoint_28 : decode cX8_insertPoint 28 = .ok (.iload 4, 2) := by decide +kernel
theorem dX8_insertPoint_30 : decode cX8_insertPoint 30 = .ok (.invokestatic 162, 3) := by decide +kernel
theorem dX8_insertPoint_33 : decode cX8_insertPoint 33 = .ok (.invokevirtual 165, 3) := by decide +kernel
theorem dX8_insertPoint_36 : decode cX8_insertPoint 36 = .ok (.ifCond .eq 5, 3) := by decide +kernel
theorem dX8_insertPoint_39 : decode cX8_insertPoint 39 = .ok (.iconst 0, 1) := by decide +kernel
theorem dX8_insertPoint_40 : decode cX8_insertPoint 40 = .ok (.ireturn, 1) := by decide +kernel
theorem dX8_insertPoint_41 : decode cX8_insertPoint 41 = .ok (.aload_n 0, 1) := by decide +kernel
theorem dX8_insertPoint_42 : decode cX8_insertPoint 42 = .ok (.invokevirtual 263, 3) := by decide +kernel
theorem dX8_insertPoint_45 : decode cX8_insertPoint 45 = .ok (.aload_n 0, 1) := by decide +kernel
theorem dX8_insertPoint_46 : decode cX8_insertPoint 46 = .ok (.aload_n 0, 1) := by decide +kernel
theorem dX8_insertPoint_47 : decode cX8_insertPoint 47 = .ok (.iload_n 1, 1) := by decide +kernel
theorem dX8_insertPoint_48 : decode cX8_insertPoint 48 = .ok (.iload_n 2, 1) := by decide +kernel
theorem dX8_insertPoint_49 : decode cX8_insertPoint 49 = .ok (.iload_n 3, 1) := by decide +kernel
theorem dX8_insertPoint_50 : decode cX8_insertPoint 50 = .ok (.iload 4, 2) := by decide +kernel
theorem dX8_insertPoint_52 : decode cX8_insertPoint 52 = .ok (.invokevirtual 281, 3) := by decide +kernel
theorem dX8_insertPoint_55 : decode cX8_insertPoint 55 = .ok (.invokevirtual 269, 3) := by decide +kernel
theorem dX8_insertPoint_58 : decode cX8_insertPoint 58 = .ok (.ifCond .eq 7, 3) := by decide +kernel
theorem dX8_insertPoint_61 : decode cX8_insertPoint 61 = .ok (.iconst 0, 1) := by decide +kernel
theorem dX8_insertPoint_62 : decode cX8_insertPoint 62 = .ok (.goto 8, 3) := by decide +kernel
theorem dX8_insertPoint_65 : decode cX8_insertPoint 65 = .ok (.aload_n 0, 1) := by decide +kernel
theorem dX8_insertPoint_66 : decode cX8_insertPoint 66 = .ok (.iload_n 1, 1) := by decide +kernel
theorem dX8_insertPoint_67 : decode cX8_insertPoint 67 = .ok (.invokevirtual 105, 3) := by decide +kernel
theorem dX8_insertPoint_70 : decode cX8_insertPoint 70 = .ok (.ireturn, 1) := by decide +kernel
theorem dX8_removePoint_0 : decode cX8_removePoint 0 = .ok (.aload_n 0, 1) := by decide +kernel
theorem dX8_removePoint_1 : decode cX8_removePoint 1 = .ok (.invokevirtual 263, 3) := by decide +kernel
theorem dX8_removePoint_4 : decode cX8_removePoint 4 = .ok (.aload_n 0, 1) := by decide +kernel
theorem dX8_removePoint_5 : decode cX8_removePoint 5 = .ok (.aload_n 0, 1) := by decide +kernel
theorem dX8_removePoint_6 : decode cX8_removePoint 6 = .ok (.iload_n 1, 1) := by decide +kernel
theorem dX8_removePoint_7 : decode cX8_removePoint 7 = .ok (.iload_n 2, 1) := by decide +kernel
theorem dX8_removePoint_8 : decode cX8_removePoint 8 = .ok (.invokevirtual 284, 3) := by decide +kernel
theorem dX8_removePoint_11 : decode cX8_removePoint 11 = .ok (.invokevirtual 269, 3) := by decide +kernel
theorem dX8_removePoint_14 : decode cX8_removePoint 14 = .ok (.ifCond .eq 7, 3) := by decide +kernel
theorem dX8_removePoint_17 : decode cX8_removePoint 17 = .ok (.iconst 0, 1) := by decide +kernel
theorem dX8_removePoint_18 : decode cX8_removePoint 18 = .ok (.goto 8, 3) := by decide +kernel
theorem dX8_removePoint_21 : decode cX8_removePoint 21 = .ok (.aload_n 0, 1) := by decide +kernel
theorem dX8_removePoint_22 : decode cX8_removePoint 22 = .ok (.iload_n 1, 1) := by decide +kernel
theorem dX8_removePoint_23 : decode cX8_removePoint 23 = .ok (.invokevirtual 105, 3) := by decide +kernel
theorem dX8_removePoint_26 : decode cX8_removePoint 26 = .ok (.ireturn, 1) := by decide +kernel
theorem dX8_isShift_0 : decode cX8_isShift 0 = .ok (.iload_n 0, 1) := by decide +kernel
theorem dX8_isShift_1 : decode cX8_isShift 1 = .ok (.sipush (-2000), 3) := by decide +kernel
theorem dX8_isShift_4 : decode cX8_isShift 4 = .ok (.sipush 2000, 3) := by decide +kernel
theorem dX8_isShift_7 : decode cX8_isShift 7 = .ok (.invokestatic 93, 3) := by decide +kernel
theorem dX8_isShift_10 : decode cX8_isShift 10 = .ok (.ireturn, 1) := by decide +kernel
theorem dX8_shift_0 : decode cX8_shift 0 = .ok (.aload_n 0, 1) := by decide +kernel
theorem dX8_shift_1 : decode cX8_shift 1 = .ok (.aload_n 0, 1) := by decide +kernel
theorem dX8_shift_2 : decode cX8_shift 2 = .ok (.iload_n 1, 1) := by decide +kernel
theorem dX8_shift_3 : decode cX8_shift 3 = .ok (.invokevirtual 101, 3) := by decide +kernel
theorem dX8_shift_6 : decode cX8_shift 6 = .ok (.iload_n 2, 1) := by decide +kernel
theorem dX8_shift_7 : decode cX8_shift 7 = .ok (.invokestatic 287, 3) := by decide +kernel
theorem dX8_shift_10 : decode cX8_shift 10 = .ok (.ifCond .eq 14, 3) := by decide +kernel
theorem dX8_shift_13 : decode cX8_shift 13 = .ok (.iload_n 3, 1) := by decide +kernel
theorem dX8_shift_14 : decode cX8_shift 14 = .ok (.invokestatic 287, 3) := by decide +kernel
theorem dX8_shift_17 : decode cX8_shift 17 = .ok (.ifCond .eq 7, 3) := by decide +kernel
theorem dX8_shift_20 : decode cX8_shift 20 = .ok (.iconst 1, 1) := by decide +kernel
theorem dX8_shift_21 : decode cX8_shift 21 = .ok (.goto 4, 3) := by decide +kernel
theorem dX8_shift_24 : decode cX8_shift 24 = .ok (.iconst 0, 1) := by decide +kernel
theorem dX8_shift_25 : decode cX8_shift 25 = .ok (.invokevirtual 165, 3) := by decide +kernel
theorem dX8_shift_28 : decode cX8_shift 28 = .ok (.ifCond .eq 5, 3) := by decide +kernel
theorem dX8_shift_31 : decode cX8_shift 31 = .ok (.iconst 0, 1) := by decide +kernel
theorem dX8_shift_32 : decode cX8_shift 32 = .ok (.ireturn, 1) := by decide +kernel
theorem dX8_shift_33 : decode cX8_shift 33 = .ok (.aload_n 0, 1) := by decide +kernel
theorem dX8_shift_34 : decode cX8_shift 34 = .ok (.invokevirtual 263, 3) := by decide +kernel
theorem dX8_shift_37 : decode cX8_shift 37 = .ok (.aload_n 0, 1) := by decide +kernel
theorem dX8_shift_38 : decode cX8_shift 38 = .ok (.aload_n 0, 1) := by decide +kernel
theorem dX8_shift_39 : decode cX8_shift 39 = .ok (.iload_n 1, 1) := by decide +kernel
theorem dX8_shift_40 : decode cX8_shift 40 = .ok (.iload_n 2, 1) := by decide +kernel
theorem dX8_shift_41 : decode cX8_shift 41 = .ok (.iload_n 3, 1) := by decide +kernel
theorem dX8_shift_42 : decode cX8_shift 42 = .ok (.invokevirtual 290, 3) := by decide +kernel
theorem dX8_shift_45 : decode cX8_shift 45 = .ok (.invokevirtual 269, 3) := by decide +kernel
theorem dX8_shift_48 : decode cX8_shift 48 = .ok (.ifCond .eq 7, 3) := by decide +kernel
theorem dX8_shift_51 : decode cX8_shift 51 = .ok (.iconst 0, 1) := by decide +kernel
theorem dX8_shift_52 : decode cX8_shift 52 = .ok (.goto 8, 3) := by decide +kernel
theorem dX8_shift_55 : decode cX8_shift 55 = .ok (.aload_n 0, 1) := by decide +kernel
theorem dX8_shift_56 : decode cX8_shift 56 = .ok (.iload_n 1, 1) := by decide +kernel
theorem dX8_shift_57 : decode cX8_shift 57 = .ok (.invokevirtual 105, 3) := by decide +kernel
theorem dX8_shift_60 : decode cX8_shift 60 = .ok (.ireturn, 1) := by decide +kernel
theorem dX8_reverse_0 : decode cX8_reverse 0 = .ok (.aload_n 0, 1) := by decide +kernel
theorem dX8_reverse_1 : decode cX8_reverse 1 = .ok (.invokevirtual 263, 3) := by decide +kernel
theorem dX8_reverse_4 : decode cX8_reverse 4 = .ok (.aload_n 0, 1) := by decide +kernel
theorem dX8_reverse_5 : decode cX8_reverse 5 = .ok (.aload_n 0, 1) := by decide +kernel
theorem dX8_reverse_6 : decode cX8_reverse 6 = .ok (.iload_n 1, 1) := by decide +kernel
theorem dX8_reverse_7 : decode cX8_reverse 7 = .ok (.invokevirtual 293, 3) := by decide +kernel
theorem dX8_reverse_10 : decode cX8_reverse 10 = .ok (.invokevirtual 269, 3) := by decide +kernel
theorem dX8_reverse_13 : decode cX8_reverse 13 = .ok (.ifCond .eq 7, 3) := by decide +kernel
theorem dX8_reverse_16 : decode cX8_reverse 16 = .ok (.iconst 0, 1) := by decide +kernel
theorem dX8_reverse_17 : decode cX8_reverse 17 = .ok (.goto 8, 3) := by decide +kernel
theorem dX8_reverse_20 : decode cX8_reverse 20 = .ok (.aload_n 0, 1) := by decide +kernel
theorem dX8_reverse_21 : decode cX8_reverse 21 = .ok (.iload_n 1, 1) := by decide +kernel
theorem dX8_reverse_22 : decode cX8_reverse 22 = .ok (.invokevirtual 105, 3) := by decide +kernel
theorem dX8_reverse_25 : decode cX8_reverse 25 = .ok (.ireturn, 1) := by decide +kernel
theorem dX8_setMetric_0 : decode cX8_setMetric 0 = .ok (.aload_n 0, 1) := by decide +kernel
theorem dX8_setMetric_1 : decode cX8_setMetric 1 = .ok (.getfield 25, 3) := by decide +kernel
theorem dX8_setMetric_4 : decode cX8_setMetric 4 = .ok (.iconst 0, 1) := by decide +kernel
theorem dX8_setMetric_5 : decode cX8_setMetric 5 = .ok (.iload_n 1, 1) := by decide +kernel
theorem dX8_setMetric_6 : decode cX8_setMetric 6 = .ok (.ifCond .eq 7, 3) := by decide +kernel
theorem dX8_setMetric_9 : decode cX8_setMetric 9 = .ok (.iconst 1, 1) := by decide +kernel
theorem dX8_setMetric_10 : decode cX8_setMetric 10 = .ok (.goto 4, 3) := by decide +kernel
theorem dX8_setMetric_13 : decode cX8_setMetric 13 = .ok (.iconst 0, 1) := by decide +kernel
theorem dX8_setMetric_14 : decode cX8_setMetric 14 = .ok (.iastore, 1) := by decide +kernel
theorem dX8_setMetric_15 : decode cX8_setMetric 15 = .ok (.return_, 1) := by decide +kernel
theorem dX8_setKingMetric_0 : decode cX8_setKingMetric 0 = .ok (.aload_n 0, 1) := by decide +kernel
theorem dX8_setKingMetric_1 : decode cX8_setKingMetric 1 = .ok (.iconst 0, 1) := by decide +kernel
theorem dX8_setKingMetric_2 : decode cX8_setKingMetric 2 = .ok (.putfield 86, 3) := by decide +kernel
theorem dX8_setKingMetric_5 : decode cX8_setKingMetric 5 = .ok (.aload_n 0, 1) := by decide +kernel
theorem dX8_setKingMetric_6 : decode cX8_setKingMetric 6 = .ok (.invokevirtual 151, 3) := by decide +kernel
theorem dX8_setKingMetric_9 : decode cX8_setKingMetric 9 = .ok (.istore_n 2, 1) := by decide +kernel
theorem dX8_setKingMetric_10 : decode cX8_setKingMetric 10 = .ok (.aload_n 0, 1) := by decide +kernel
theorem dX8_setKingMetric_11 : decode cX8_setKingMetric 11 = .ok (.invokevirtual 263, 3) := by decide +kernel
theorem dX8_setKingMetric_14 : decode cX8_setKingMetric 14 = .ok (.aload_n 0, 1) := by decide +kernel
theorem dX8_setKingMetric_15 : decode cX8_setKingMetric 15 = .ok (.iload_n 1, 1) := by decide +kernel
theorem dX8_setKingMetric_16 : decode cX8_setKingMetric 16 = .ok (.invokevirtual 296, 3) := by decide +kernel
theorem dX8_setKingMetric_19 : decode cX8_setKingMetric 19 = .ok (.aload_n 0, 1) := by decide +kernel
theorem dX8_setKingMetric_20 : decode cX8_setKingMetric 20 = .ok (.invokevirtual 260, 3) := by decide +kernel
theorem dX8_setKingMetric_23 : decode cX8_setKingMetric 23 = .ok (.iload_n 2, 1) := by decide +kernel
theorem dX8_setKingMetric_24 : decode cX8_setKingMetric 24 = .ok (.ireturn, 1) := by decide +kernel
theorem dX8_write_0 : decode cX8_write 0 = .ok (.aload_n 0, 1) := by decide +kernel
theorem dX8_write_1 : decode cX8_write 1 = .ok (.getfield 28, 3) := by decide +kernel
theorem dX8_write_4 : decode cX8_write 4 = .ok (.aload_n 0, 1) := by decide +kernel
theorem dX8_write_5 : decode cX8_write 5 = .ok (.getfield 300, 3) := by decide +kernel
theorem dX8_write_8 : decode cX8_write 8 = .ok (.iload_n 1, 1) := by decide +kernel
theorem dX8_write_9 : decode cX8_write 9 = .ok (.iastore, 1) := by decide +kernel
theorem dX8_write_10 : decode cX8_write 10 = .ok (.aload_n 0, 1) := by decide +kernel
theorem dX8_write_11 : decode cX8_write 11 = .ok (.dup, 1) := by decide +kernel
theorem dX8_write_12 : decode cX8_write 12 = .ok (.getfield 300, 3) := by decide +kernel
theorem dX8_write_15 : decode cX8_write 15 = .ok (.iconst 1, 1) := by decide +kernel
theorem dX8_write_16 : decode cX8_write 16 = .ok (.iadd, 1) := by decide +kernel
theorem dX8_write_17 : decode cX8_write 17 = .ok (.putfield 300, 3) := by decide +kernel
theorem dX8_write_20 : decode cX8_write 20 = .ok (.return_, 1) := by decide +kernel
theorem dX8_writeNumber_0 : decode cX8_writeNumber 0 = .ok (.iconst 1, 1) := by decide +kernel
theorem dX8_writeNumber_1 : decode cX8_writeNumber 1 = .ok (.istore_n 2, 1) := by decide +kernel
theorem dX8_writeNumber_2 : decode cX8_writeNumber 2 = .ok (.iload_n 1, 1) := by decide +kernel
theorem dX8_writeNumber_3 : decode cX8_writeNumber 3 = .ok (.iload_n 2, 1) := by decide +kernel
theorem dX8_writeNumber_4 : decode cX8_writeNumber 4 = .ok (.idiv, 1) := by decide +kernel
theorem dX8_writeNumber_5 : decode cX8_writeNumber 5 = .ok (.bipush 9, 2) := by decide +kernel
theorem dX8_writeNumber_7 : decode cX8_writeNumber 7 = .ok (.if_icmp .le 11, 3) := by decide +kernel
theorem dX8_writeNumber_10 : decode cX8_writeNumber 10 = .ok (.iload_n 2, 1) := by decide +kernel
theorem dX8_writeNumber_11 : decode cX8_writeNumber 11 = .ok (.bipush 10, 2) := by decide +kernel
theorem dX8_writeNumber_13 : decode cX8_writeNumber 13 = .ok (.imul, 1) := by decide +kernel
theorem dX8_writeNumber_14 : decode cX8_writeNumber 14 = .ok (.istore_n 2, 1) := by decide +kernel
theorem dX8_writeNumber_15 : decode cX8_writeNumber 15 = .ok (.goto (-13), 3) := by decide +kernel
theorem dX8_writeNumber_18 : decode cX8_writeNumber 18 = .ok (.iload_n 2, 1) := by decide +kernel
theorem dX8_writeNumber_19 : decode cX8_writeNumber 19 = .ok (.istore_n 3, 1) := by decide +kernel
theorem dX8_writeNumber_20 : decode cX8_writeNumber 20 = .ok (.iload_n 3, 1) := by decide +kernel
theorem dX8_writeNumber_21 : decode cX8_writeNumber 21 = .ok (.ifCond .le 24, 3) := by decide +kernel
theorem dX8_writeNumber_24 : decode cX8_writeNumber 24 = .ok (.aload_n 0, 1) := by decide +kernel
theorem dX8_writeNumber_25 : decode cX8_writeNumber 25 = .ok (.bipush 48, 2) := by decide +kernel
theorem dX8_writeNumber_27 : decode cX8_writeNumber 27 = .ok (.iload_n 1, 1) := by decide +kernel
theorem dX8_writeNumber_28 : decode cX8_writeNumber 28 = .ok (.iload_n 3, 1) := by decide +kernel
theorem dX8_writeNumber_29 : decode cX8_writeNumber 29 = .ok (.idiv, 1) := by decide +kernel
theorem dX8_writeNumber_30 : decode cX8_writeNumber 30 = .ok (.bipush 10, 2) := by decide +kernel
theorem dX8_writeNumber_32 : decode cX8_writeNumber 32 = .ok (.irem, 1) := by decide +kernel
theorem dX8_writeNumber_33 : decode cX8_writeNumber 33 = .ok (.iadd, 1) := by decide +kernel
theorem dX8_writeNumber_34 : decode cX8_writeNumber 34 = .ok (.invokevirtual 303, 3) := by decide +kernel
theorem dX8_writeNumber_37 : decode cX8_writeNumber 37 = .ok (.iload_n 3, 1) := by decide +kernel
theorem dX8_writeNumber_38 : decode cX8_writeNumber 38 = .ok (.bipush 10, 2) := by decide +kernel
theorem dX8_writeNumber_40 : decode cX8_writeNumber 40 = .ok (.idiv, 1) := by decide +kernel
theorem dX8_writeNumber_41 : decode cX8_writeNumber 41 = .ok (.istore_n 3, 1) := by decide +kernel
theorem dX8_writeNumber_42 : decode cX8_writeNumber 42 = .ok (.goto (-22), 3) := by decide +kernel
theorem dX8_writeNumber_45 : decode cX8_writeNumber 45 = .ok (.return_, 1) := by decide +kernel
theorem dX8_isLastLevel_0 : decode cX8_isLastLevel 0 = .ok (.iload_n 2, 1) := by decide +kernel
theorem dX8_isLastLevel_1 : decode cX8_isLastLevel 1 = .ok (.bipush 7, 2) := by decide +kernel
theorem dX8_isLastLevel_3 : decode cX8_isLastLevel 3 = .ok (.if_icmp .eq 25, 3) := by decide +kernel
theorem dX8_isLastLevel_6 : decode cX8_isLastLevel 6 = .ok (.aload_n 0, 1) := by decide +kernel
theorem dX8_isLastLevel_7 : decode cX8_isLastLevel 7 = .ok (.iload_n 1, 1) := by decide +kernel
theorem dX8_isLastLevel_8 : decode cX8_isLastLevel 8 = .ok (.iload_n 2, 1) := by decide +kernel
theorem dX8_isLastLevel_9 : decode cX8_isLastLevel 9 = .ok (.invokevirtual 145, 3) := by decide +kernel
theorem dX8_isLastLevel_12 : decode cX8_isLastLevel 12 = .ok (.aload_n 0, 1) := by decide +kernel
theorem dX8_isLastLevel_13 : decode cX8_isLastLevel 13 = .ok (.iload_n 1, 1) := by decide +kernel
theorem dX8_isLastLevel_14 : decode cX8_isLastLevel 14 = .ok (.invokevirtual 111, 3) := by decide +kernel
theorem dX8_isLastLevel_17 : decode cX8_isLastLevel 17 = .ok (.ifCond .eq 7, 3) := by decide +kernel
theorem dX8_isLastLevel_20 : decode cX8_isLastLevel 20 = .ok (.iconst 2, 1) := by decide +kernel
theorem dX8_isLastLevel_21 : decode cX8_isLastLevel 21 = .ok (.goto 4, 3) := by decide +kernel
theorem dX8_isLastLevel_24 : decode cX8_isLastLevel 24 = .ok (.iconst 1, 1) := by decide +kernel
theorem dX8_isLastLevel_25 : decode cX8_isLastLevel 25 = .ok (.if_icmp .gt 7, 3) := by decide +kernel
theorem dX8_isLastLevel_28 : decode cX8_isLastLevel 28 = .ok (.iconst 1, 1) := by decide +kernel
theorem dX8_isLastLevel_29 : decode cX8_isLastLevel 29 = .ok (.goto 4, 3) := by decide +kernel
theorem dX8_isLastLevel_32 : decode cX8_isLastLevel 32 = .ok (.iconst 0, 1) := by decide +kernel
theorem dX8_isLastLevel_33 : decode cX8_isLastLevel 33 = .ok (.ireturn, 1) := by decide +kernel
theorem dX8_writeLengths_0 : decode cX8_writeLengths 0 = .ok (.aload_n 0, 1) := by decide +kernel
theorem dX8_writeLengths_1 : decode cX8_writeLengths 1 = .ok (.aload_n 0, 1) := by decide +kernel
theorem dX8_writeLengths_2 : decode cX8_writeLengths 2 = .ok (.iload_n 1, 1) := by decide +kernel
theorem dX8_writeLengths_3 : decode cX8_writeLengths 3 = .ok (.invokevirtual 101, 3) := by decide +kernel
theorem dX8_writeLengths_6 : decode cX8_writeLengths 6 = .ok (.invokevirtual 89, 3) := by decide +kernel
theorem dX8_writeLengths_9 : decode cX8_writeLengths 9 = .ok (.ifCond .eq 5, 3) := by decide +kernel
theorem dX8_writeLengths_12 : decode cX8_writeLengths 12 = .ok (.iconst 0, 1) := by decide +kernel
theorem dX8_writeLengths_13 : decode cX8_writeLengths 13 = .ok (.ireturn, 1) := by decide +kernel
theorem dX8_writeLengths_14 : decode cX8_writeLengths 14 = .ok (.aload_n 0, 1) := by decide +kernel
theorem dX8_writeLengths_15 : decode cX8_writeLengths 15 = .ok (.iconst 0, 1) := by decide +kernel
theorem dX8_writeLengths_16 : decode cX8_writeLengths 16 = .ok (.putfield 300, 3) := by decide +kernel
theorem dX8_writeLengths_19 : decode cX8_writeLengths 19 = .ok (.aload_n 0, 1) := by decide +kernel
theorem dX8_writeLengths_20 : decode cX8_writeLengths 20 = .ok (.aload_n 0, 1) := by decide +kernel
theorem dX8_writeLengths_21 : decode cX8_writeLengths 21 = .ok (.iload_n 1, 1) := by decide +kernel
theorem dX8_writeLengths_22 : decode cX8_writeLengths 22 = .ok (.iconst 0, 1) := by decide +kernel
theorem dX8_writeLengths_23 : decode cX8_writeLengths 23 = .ok (.invokevirtual 175, 3) := by decide +kernel
theorem dX8_writeLengths_26 : decode cX8_writeLengths 26 = .ok (.invokevirtual 306, 3) := by decide +kernel
theorem dX8_writeLengths_29 : decode cX8_writeLengths 29 = .ok (.iconst 1, 1) := by decide +kernel
theorem dX8_writeLengths_30 : decode cX8_writeLengths 30 = .ok (.istore_n 2, 1) := by decide +kernel
theorem dX8_writeLengths_31 : decode cX8_writeLengths 31 = .ok (.aload_n 0, 1) := by decide +kernel
theorem dX8_writeLengths_32 : decode cX8_writeLengths 32 = .ok (.iload_n 1, 1) := by decide +kernel
theorem dX8_writeLengths_33 : decode cX8_writeLengths 33 = .ok (.iload_n 2, 1) := by decide +kernel
theorem dX8_writeLengths_34 : decode cX8_writeLengths 34 = .ok (.iconst 1, 1) := by decide +kernel
theorem dX8_writeLengths_35 : decode cX8_writeLengths 35 = .ok (.isub, 1) := by decide +kernel
theorem dX8_writeLengths_36 : decode cX8_writeLengths 36 = .ok (.invokevirtual 309, 3) := by decide +kernel
theorem dX8_writeLengths_39 : decode cX8_writeLengths 39 = .ok (.ifCond .ne 25, 3) := by decide +kernel
theorem dX8_writeLengths_42 : decode cX8_writeLengths 42 = .ok (.aload_n 0, 1) := by decide +kernel
theorem dX8_writeLengths_43 : decode cX8_writeLengths 43 = .ok (.bipush 32, 2) := by decide +kernel
theorem dX8_writeLengths_45 : decode cX8_writeLengths 45 = .ok (.invokevirtual 303, 3) := by decide +kernel
theorem dX8_writeLengths_48 : decode cX8_writeLengths 48 = .ok (.aload_n 0, 1) := by decide +kernel
theorem dX8_writeLengths_49 : decode cX8_writeLengths 49 = .ok (.aload_n 0, 1) := by decide +kernel
theorem dX8_writeLengths_50 : decode cX8_writeLengths 50 = .ok (.iload_n 1, 1) := by decide +kernel
theorem dX8_writeLengths_51 : decode cX8_writeLengths 51 = .ok (.iload_n 2, 1) := by decide +kernel
theorem dX8_writeLengths_52 : decode cX8_writeLengths 52 = .ok (.invokevirtual 175, 3) := by decide +kernel
theorem dX8_writeLengths_55 : decode cX8_writeLengths 55 = .ok (.invokevirtual 306, 3) := by decide +kernel
theorem dX8_writeLengths_58 : decode cX8_writeLengths 58 = .ok (.iinc 2 1, 3) := by decide +kernel
theorem dX8_writeLengths_61 : decode cX8_writeLengths 61 = .ok (.goto (-30), 3) := by decide +kernel
theorem dX8_writeLengths_64 : decode cX8_writeLengths 64 = .ok (.aload_n 0, 1) := by decide +kernel
theorem dX8_writeLengths_65 : decode cX8_writeLengths 65 = .ok (.getfield 300, 3) := by decide +kernel
theorem dX8_writeLengths_68 : decode cX8_writeLengths 68 = .ok (.ireturn, 1) := by decide +kernel
theorem dX8_outputByte_0 : decode cX8_outputByte 0 = .ok (.aload_n 0, 1) := by decide +kernel
theorem dX8_outputByte_1 : decode cX8_outputByte 1 = .ok (.iload_n 1, 1) := by decide +kernel
theorem dX8_outputByte_2 : decode cX8_outputByte 2 = .ok (.iconst 0, 1) := by decide +kernel
theorem dX8_outputByte_3 : decode cX8_outputByte 3 = .ok (.aload_n 0, 1) := by decide +kernel
theorem dX8_outputByte_4 : decode cX8_outputByte 4 = .ok (.getfield 300, 3) := by decide +kernel
theorem dX8_outputByte_7 : decode cX8_outputByte 7 = .ok (.iconst 1, 1) := by decide +kernel
theorem dX8_outputByte_8 : decode cX8_outputByte 8 = .ok (.isub, 1) := by decide +kernel
theorem dX8_outputByte_9 : decode cX8_outputByte 9 = .ok (.invokestatic 93, 3) := by decide +kernel
theorem dX8_outputByte_12 : decode cX8_outputByte 12 = .ok (.invokevirtual 89, 3) := by decide +kernel
theorem dX8_outputByte_15 : decode cX8_outputByte 15 = .ok (.ifCond .eq 7, 3) := by decide +kernel
theorem dX8_outputByte_18 : decode cX8_outputByte 18 = .ok (.iconst 0, 1) := by decide +kernel
theorem dX8_outputByte_19 : decode cX8_outputByte 19 = .ok (.goto 9, 3) := by decide +kernel
theorem dX8_outputByte_22 : decode cX8_outputByte 22 = .ok (.aload_n 0, 1) := by decide +kernel
theorem dX8_outputByte_23 : decode cX8_outputByte 23 = .ok (.getfield 28, 3) := by decide +kernel
theorem dX8_outputByte_26 : decode cX8_outputByte 26 = .ok (.iload_n 1, 1) := by decide +kernel
theorem dX8_outputByte_27 : decode cX8_outputByte 27 = .ok (.iaload, 1) := by decide +kernel
theorem dX8_outputByte_28 : decode cX8_outputByte 28 = .ok (.ireturn, 1) := by decide +kernel
theorem dX8_undoableCount_0 : decode cX8_undoableCount 0 = .ok (.aload_n 0, 1) := by decide +kernel
theorem dX8_undoableCount_1 : decode cX8_undoableCount 1 = .ok (.iconst 0, 1) := by decide +kernel
theorem dX8_undoableCount_2 : decode cX8_undoableCount 2 = .ok (.putfield 86, 3) := by decide +kernel
theorem dX8_undoableCount_5 : decode cX8_undoableCount 5 = .ok (.aload_n 0, 1) := by decide +kernel
theorem dX8_undoableCount_6 : decode cX8_undoableCount 6 = .ok (.getfield 257, 3) := by decide +kernel
theorem dX8_undoableCount_9 : decode cX8_undoableCount 9 = .ok (.ireturn, 1) := by decide +kernel
theorem dX8_undo_0 : decode cX8_undo 0 = .ok (.aload_n 0, 1) := by decide +kernel
theorem dX8_undo_1 : decode cX8_undo 1 = .ok (.aload_n 0, 1) := by decide +kernel
theorem dX8_undo_2 : decode cX8_undo 2 = .ok (.getfield 257, 3) := by decide +kernel
theorem dX8_undo_5 : decode cX8_undo 5 = .ok (.ifCond .le 7, 3) := by decide +kernel
theorem dX8_undo_8 : decode cX8_undo 8 = .ok (.iconst 1, 1) := by decide +kernel
theorem dX8_undo_9 : decode cX8_undo 9 = .ok (.goto 4, 3) := by decide +kernel
theorem dX8_undo_12 : decode cX8_undo 12 = .ok (.iconst 0, 1) := by decide +kernel
theorem dX8_undo_13 : decode cX8_undo 13 = .ok (.invokevirtual 89, 3) := by decide +kernel
theorem dX8_undo_16 : decode cX8_undo 16 = .ok (.ifCond .eq 5, 3) := by decide +kernel
theorem dX8_undo_19 : decode cX8_undo 19 = .ok (.iconst 0, 1) := by decide +kernel
theorem dX8_undo_20 : decode cX8_undo 20 = .ok (.ireturn, 1) := by decide +kernel
theorem dX8_undo_21 : decode cX8_undo 21 = .ok (.aload_n 0, 1) := by decide +kernel
theorem dX8_undo_22 : decode cX8_undo 22 = .ok (.dup, 1) := by decide +kernel
theorem dX8_undo_23 : decode cX8_undo 23 = .ok (.getfield 257, 3) := by decide +kernel
theorem dX8_undo_26 : decode cX8_undo 26 = .ok (.iconst 1, 1) := by decide +kernel
theorem dX8_undo_27 : decode cX8_undo 27 = .ok (.isub, 1) := by decide +kernel
theorem dX8_undo_28 : decode cX8_undo 28 = .ok (.putfield 257, 3) := by decide +kernel
theorem dX8_undo_31 : decode cX8_undo 31 = .ok (.aload_n 0, 1) := by decide +kernel
theorem dX8_undo_32 : decode cX8_undo 32 = .ok (.getfield 22, 3) := by decide +kernel
theorem dX8_undo_35 : decode cX8_undo 35 = .ok (.aload_n 0, 1) := by decide +kernel
theorem dX8_undo_36 : decode cX8_undo 36 = .ok (.getfield 257, 3) := by decide +kernel
theorem dX8_undo_39 : decode cX8_undo 39 = .ok (.aload_n 0, 1) := by decide +kernel
theorem dX8_undo_40 : decode cX8_undo 40 = .ok (.getfield 9, 3) := by decide +kernel
theorem dX8_undo_43 : decode cX8_undo 43 = .ok (.iconst 0, 1) := by decide +kernel
theorem dX8_undo_44 : decode cX8_undo 44 = .ok (.invokestatic 253, 3) := by decide +kernel
theorem dX8_undo_47 : decode cX8_undo 47 = .ok (.aload_n 0, 1) := by decide +kernel
theorem dX8_undo_48 : decode cX8_undo 48 = .ok (.getfield 257, 3) := by decide +kernel
theorem dX8_undo_51 : decode cX8_undo 51 = .ok (.ireturn, 1) := by decide +kernel
theorem dX8_saveSnapshot_0 : decode cX8_saveSnapshot 0 = .ok (.aload_n 0, 1) := by decide +kernel
theorem dX8_saveSnapshot_1 : decode cX8_saveSnapshot 1 = .ok (.iconst 0, 1) := by decide +kernel
theorem dX8_saveSnapshot_2 : decode cX8_saveSnapshot 2 = .ok (.putfield 86, 3) := by decide +kernel
theorem dX8_saveSnapshot_5 : decode cX8_saveSnapshot 5 = .ok (.aload_n 0, 1) := by decide +kernel
theorem dX8_saveSnapshot_6 : decode cX8_saveSnapshot 6 = .ok (.getfield 9, 3) := by decide +kernel
theorem dX8_saveSnapshot_9 : decode cX8_saveSnapshot 9 = .ok (.iconst 0, 1) := by decide +kernel
theorem dX8_saveSnapshot_10 : decode cX8_saveSnapshot 10 = .ok (.aload_n 0, 1) := by decide +kernel
theorem dX8_saveSnapshot_11 : decode cX8_saveSnapshot 11 = .ok (.getfield 19, 3) := by decide +kernel
theorem dX8_saveSnapshot_14 : decode cX8_saveSnapshot 14 = .ok (.iconst 0, 1) := by decide +kernel
theorem dX8_saveSnapshot_15 : decode cX8_saveSnapshot 15 = .ok (.invokestatic 253, 3) := by decide +kernel
theorem dX8_saveSnapshot_18 : decode cX8_saveSnapshot 18 = .ok (.aload_n 0, 1) := by decide +kernel
theorem dX8_saveSnapshot_19 : decode cX8_saveSnapshot 19 = .ok (.iconst 1, 1) := by decide +kernel
theorem dX8_saveSnapshot_20 : decode cX8_saveSnapshot 20 = .ok (.putfield 312, 3) := by decide +kernel
theorem dX8_saveSnapshot_23 : decode cX8_saveSnapshot 23 = .ok (.return_, 1) := by decide +kernel
theorem dX8_restoreSnapshot_0 : decode cX8_restoreSnapshot 0 = .ok (.aload_n 0, 1) := by decide +kernel
theorem dX8_restoreSnapshot_1 : decode cX8_restoreSnapshot 1 = .ok (.aload_n 0, 1) := by decide +kernel
theorem dX8_restoreSnapshot_2 : decode cX8_restoreSnapshot 2 = .ok (.getfield 312, 3) := by decide +kernel
theorem dX8_restoreSnapshot_5 : decode cX8_restoreSnapshot 5 = .ok (.invokevirtual 89, 3) := by decide +kernel
theorem dX8_restoreSnapshot_8 : decode cX8_restoreSnapshot 8 = .ok (.ifCond .eq 5, 3) := by decide +kernel
theorem dX8_restoreSnapshot_11 : decode cX8_restoreSnapshot 11 = .ok (.iconst 0, 1) := by decide +kernel
theorem dX8_restoreSnapshot_12 : decode cX8_restoreSnapshot 12 = .ok (.ireturn, 1) := by decide +kernel
theorem dX8_restoreSnapshot_13 : decode cX8_restoreSnapshot 13 = .ok (.aload_n 0, 1) := by decide +kernel
theorem dX8_restoreSnapshot_14 : decode cX8_restoreSnapshot 14 = .ok (.getfield 19, 3) := by decide +kernel
theorem dX8_restoreSnapshot_17 : decode cX8_restoreSnapshot 17 = .ok (.iconst 0, 1) := by decide +kernel
theorem dX8_restoreSnapshot_18 : decode cX8_restoreSnapshot 18 = .ok (.aload_n 0, 1) := by decide +kernel
theorem dX8_restoreSnapshot_19 : decode cX8_restoreSnapshot 19 = .ok (.getfield 9, 3) := by decide +kernel
theorem dX8_restoreSnapshot_22 : decode cX8_restoreSnapshot 22 = .ok (.iconst 0, 1) := by decide +kernel
theorem dX8_restoreSnapshot_23 : decode cX8_restoreSnapshot 23 = .ok (.invokestatic 253, 3) := by decide +kernel
theorem dX8_restoreSnapshot_26 : decode cX8_restoreSnapshot 26 = .ok (.aload_n 0, 1) := by decide +kernel
theorem dX8_restoreSnapshot_27 : decode cX8_restoreSnapshot 27 = .ok (.iconst 0, 1) := by decide +kernel
theorem dX8_restoreSnapshot_28 : decode cX8_restoreSnapshot 28 = .ok (.putfield 257, 3) := by decide +kernel
theorem dX8_restoreSnapshot_31 : decode cX8_restoreSnapshot 31 = .ok (.aload_n 0, 1) := by decide +kernel
theorem dX8_restoreSnapshot_32 : decode cX8_restoreSnapshot 32 = .ok (.getfield 25, 3) := by decide +kernel
theorem dX8_restoreSnapshot_35 : decode cX8_restoreSnapshot 35 = .ok (.iconst 1, 1) := by decide +kernel
theorem dX8_restoreSnapshot_36 : decode cX8_restoreSnapshot 36 = .ok (.iaload, 1) := by decide +kernel
theorem dX8_restoreSnapshot_37 : decode cX8_restoreSnapshot 37 = .ok (.ireturn, 1) := by decide +kernel
theorem dX8_appendText_0 : decode cX8_appendText 0 = .ok (.aload_n 0, 1) := by decide +kernel
theorem dX8_appendText_1 : decode cX8_appendText 1 = .ok (.iconst 0, 1) := by decide +kernel
theorem dX8_appendText_2 : decode cX8_appendText 2 = .ok (.putfield 86, 3) := by decide +kernel
theorem dX8_appendText_5 : decode cX8_appendText 5 = .ok (.aload_n 0, 1) := by decide +kernel
theorem dX8_appendText_6 : decode cX8_appendText 6 = .ok (.getfield 316, 3) := by decide +kernel
theorem dX8_appendText_9 : decode cX8_appendText 9 = .ok (.bipush 20, 2) := by decide +kernel
theorem dX8_appendText_11 : decode cX8_appendText 11 = .ok (.iadd, 1) := by decide +kernel
theorem dX8_appendText_12 : decode cX8_appendText 12 = .ok (.sipush 700, 3) := by decide +kernel
theorem dX8_appendText_15 : decode cX8_appendText 15 = .ok (.if_icmp .le 5, 3) := by decide +kernel
theorem dX8_appendText_18 : decode cX8_appendText 18 = .ok (.iconst (-1), 1) := by decide +kernel
theorem dX8_appendText_19 : decode cX8_appendText 19 = .ok (.ireturn, 1) := by decide +kernel
theorem dX8_appendText_20 : decode cX8_appendText 20 = .ok (.iconst 0, 1) := by decide +kernel
theorem dX8_appendText_21 : decode cX8_appendText 21 = .ok (.istore 6, 2) := by decide +kernel
theorem dX8_appendText_23 : decode cX8_appendText 23 = .ok (.iload 6, 2) := by decide +kernel
theorem dX8_appendText_25 : decode cX8_appendText 25 = .ok (.bipush 20, 2) := by decide +kernel
theorem dX8_appendText_27 : decode cX8_appendText 27 = .ok (.if_icmp .ge 93, 3) := by decide +kernel
theorem dX8_appendText_30 : decode cX8_appendText 30 = .ok (.iload 6, 2) := by decide +kernel
theorem dX8_appendText_32 : decode cX8_appendText 32 = .ok (.iconst 4, 1) := by decide +kernel
theorem dX8_appendText_33 : decode cX8_appendText 33 = .ok (.if_icmp .ge 7, 3) := by decide +kernel
theorem dX8_appendText_36 : decode cX8_appendText 36 = .ok (.iload_n 1, 1) := by decide +kernel
theorem dX8_appendText_37 : decode cX8_appendText 37 = .ok (.goto 39, 3) := by decide +kernel
theorem dX8_appendText_40 : decode cX8_appendText 40 = .ok (.iload 6, 2) := by decide +kernel
theorem dX8_appendText_42 : decode cX8_appendText 42 = .ok (.bipush 8, 2) := by decide +kernel
theorem dX8_appendText_44 : decode cX8_appendText 44 = .ok (.if_icmp .ge 7, 3) := by decide +kernel
theorem dX8_appendText_47 : decode cX8_appendText 47 = .ok (.iload_n 2, 1) := by decide +kernel
theorem dX8_appendText_48 : decode cX8_appendText 48 = .ok (.goto 28, 3) := by decide +kernel
theorem dX8_appendText_51 : decode cX8_appendText 51 = .ok (.iload 6, 2) := by decide +kernel
theorem dX8_appendText_53 : decode cX8_appendText 53 = .ok (.bipush 12, 2) := by decide +kernel
theorem dX8_appendText_55 : decode cX8_appendText 55 = .ok (.if_icmp .ge 7, 3) := by decide +kernel
theorem dX8_appendText_58 : decode cX8_appendText 58 = .ok (.iload_n 3, 1) := by decide +kernel
theorem dX8_appendText_59 : decode cX8_appendText 59 = .ok (.goto 17, 3) := by decide +kernel
theorem dX8_appendText_62 : decode cX8_appendText 62 = .ok (.iload 6, 2) := by decide +kernel
theorem dX8_appendText_64 : decode cX8_appendText 64 = .ok (.bipush 16, 2) := by decide +kernel
theorem dX8_appendText_66 : decode cX8_appendText 66 = .ok (.if_icmp .ge 8, 3) := by decide +kernel
theorem dX8_appendText_69 : decode cX8_appendText 69 = .ok (.iload 4, 2) := by decide +kernel
theorem dX8_appendText_71 : decode cX8_appendText 71 = .ok (.goto 5, 3) := by decide +kernel
theorem dX8_appendText_74 : decode cX8_appendText 74 = .ok (.iload 5, 2) := by decide +kernel
theorem dX8_appendText_76 : decode cX8_appendText 76 = .ok (.istore 7, 2) := by decide +kernel
theorem dX8_appendText_78 : decode cX8_appendText 78 = .ok (.aload_n 0, 1) := by decide +kernel
theorem dX8_appendText_79 : decode cX8_appendText 79 = .ok (.getfield 31, 3) := by decide +kernel
theorem dX8_appendText_82 : decode cX8_appendText 82 = .ok (.aload_n 0, 1) := by decide +kernel
theorem dX8_appendText_83 : decode cX8_appendText 83 = .ok (.getfield 316, 3) := by decide +kernel
theorem dX8_appendText_86 : decode cX8_appendText 86 = .ok (.iload 7, 2) := by decide +kernel
theorem dX8_appendText_88 : decode cX8_appendText 88 = .ok (.bipush 24, 2) := by decide +kernel
theorem dX8_appendText_90 : decode cX8_appendText 90 = .ok (.bipush 8, 2) := by decide +kernel
theorem dX8_appendText_92 : decode cX8_appendText 92 = .ok (.iload 6, 2) := by decide +kernel
theorem dX8_appendText_94 : decode cX8_appendText 94 = .ok (.iconst 4, 1) := by decide +kernel
theorem dX8_appendText_95 : decode cX8_appendText 95 = .ok (.irem, 1) := by decide +kernel
theorem dX8_appendText_96 : decode cX8_appendText 96 = .ok (.imul, 1) := by decide +kernel
theorem dX8_appendText_97 : decode cX8_appendText 97 = .ok (.isub, 1) := by decide +kernel
theorem dX8_appendText_98 : decode cX8_appendText 98 = .ok (.ishr, 1) := by decide +kernel
theorem dX8_appendText_99 : decode cX8_appendText 99 = .ok (.sipush 255, 3) := by decide +kernel
theorem dX8_appendText_102 : decode cX8_appendText 102 = .ok (.iand, 1) := by decide +kernel
theorem dX8_appendText_103 : decode cX8_appendText 103 = .ok (.iastore, 1) := by decide +kernel
theorem dX8_appendText_104 : decode cX8_appendText 104 = .ok (.aload_n 0, 1) := by decide +kernel
theorem dX8_appendText_105 : decode cX8_appendText 105 = .ok (.dup, 1) := by decide +kernel
theorem dX8_appendText_106 : decode cX8_appendText 106 = .ok (.getfield 316, 3) := by decide +kernel
theorem dX8_appendText_109 : decode cX8_appendText 109 = .ok (.iconst 1, 1) := by decide +kernel
theorem dX8_appendText_110 : decode cX8_appendText 110 = .ok (.iadd, 1) := by decide +kernel
theorem dX8_appendText_111 : decode cX8_appendText 111 = .ok (.putfield 316, 3) := by decide +kernel
theorem dX8_appendText_114 : decode cX8_appendText 114 = .ok (.iinc 6 1, 3) := by decide +kernel
theorem dX8_appendText_117 : decode cX8_appendText 117 = .ok (.goto (-94), 3) := by decide +kernel
theorem dX8_appendText_120 : decode cX8_appendText 120 = .ok (.aload_n 0, 1) := by decide +kernel
theorem dX8_appendText_121 : decode cX8_appendText 121 = .ok (.getfield 316, 3) := by decide +kernel
theorem dX8_appendText_124 : decode cX8_appendText 124 = .ok (.ireturn, 1) := by decide +kernel
theorem dX8_errorOffset_0 : decode cX8_errorOffset 0 = .ok (.aload_n 0, 1) := by decide +kernel
theorem dX8_errorOffset_1 : decode cX8_errorOffset 1 = .ok (.iconst 0, 1) := by decide +kernel
theorem dX8_errorOffset_2 : decode cX8_errorOffset 2 = .ok (.putfield 86, 3) := by decide +kernel
theorem dX8_errorOffset_5 : decode cX8_errorOffset 5 = .ok (.aload_n 0, 1) := by decide +kernel
theorem dX8_errorOffset_6 : decode cX8_errorOffset 6 = .ok (.getfield 34, 3) := by decide +kernel
theorem dX8_errorOffset_9 : decode cX8_errorOffset 9 = .ok (.ireturn, 1) := by decide +kernel
theorem dX8_byteAt_0 : decode cX8_byteAt 0 = .ok (.iload_n 1, 1) := by decide +kernel
theorem dX8_byteAt_1 : decode cX8_byteAt 1 = .ok (.aload_n 0, 1) := by decide +kernel
theorem dX8_byteAt_2 : decode cX8_byteAt 2 = .ok (.getfield 319, 3) := by decide +kernel
theorem dX8_byteAt_5 : decode cX8_byteAt 5 = .ok (.if_icmp .ge 12, 3) := by decide +kernel
theorem dX8_byteAt_8 : decode cX8_byteAt 8 = .ok (.aload_n 0, 1) := by decide +kernel
theorem dX8_byteAt_9 : decode cX8_byteAt 9 = .ok (.getfield 31, 3) := by decide +kernel
theorem dX8_byteAt_12 : decode cX8_byteAt 12 = .ok (.iload_n 1, 1) := by decide +kernel
theorem dX8_byteAt_13 : decode cX8_byteAt 13 = .ok (.iaload, 1) := by decide +kernel
theorem dX8_byteAt_14 : decode cX8_byteAt 14 = .ok (.goto 4, 3) := by decide +kernel
theorem dX8_byteAt_17 : decode cX8_byteAt 17 = .ok (.iconst (-1), 1) := by decide +kernel
theorem dX8_byteAt_18 : decode cX8_byteAt 18 = .ok (.ireturn, 1) := by decide +kernel
theorem dX8_isLetter_0 : decode cX8_isLetter 0 = .ok (.aload_n 0, 1) := by decide +kernel
theorem dX8_isLetter_1 : decode cX8_isLetter 1 = .ok (.iload_n 1, 1) := by decide +kernel
theorem dX8_isLetter_2 : decode cX8_isLetter 2 = .ok (.invokevirtual 322, 3) := by decide +kernel
theorem dX8_isLetter_5 : decode cX8_isLetter 5 = .ok (.bipush 97, 2) := by decide +kernel
theorem dX8_isLetter_7 : decode cX8_isLetter 7 = .ok (.if_icmp .lt 17, 3) := by decide +kernel
theorem dX8_isLetter_10 : decode cX8_isLetter 10 = .ok (.aload_n 0, 1) := by decide +kernel
theorem dX8_isLetter_11 : decode cX8_isLetter 11 = .ok (.iload_n 1, 1) := by decide +kernel
theorem dX8_isLetter_12 : decode cX8_isLetter 12 = .ok (.invokevirtual 322, 3) := by decide +kernel
theorem dX8_isLetter_15 : decode cX8_isLetter 15 = .ok (.bipush 122, 2) := by decide +kernel
theorem dX8_isLetter_17 : decode cX8_isLetter 17 = .ok (.if_icmp .gt 7, 3) := by decide +kernel
theorem dX8_isLetter_20 : decode cX8_isLetter 20 = .ok (.iconst 1, 1) := by decide +kernel
theorem dX8_isLetter_21 : decode cX8_isLetter 21 = .ok (.goto 4, 3) := by decide +kernel
theorem dX8_isLetter_24 : decode cX8_isLetter 24 = .ok (.iconst 0, 1) := by decide +kernel
theorem dX8_isLetter_25 : decode cX8_isLetter 25 = .ok (.ireturn, 1) := by decide +kernel
theorem dX8_isDigit_0 : decode cX8_isDigit 0 = .ok (.aload_n 0, 1) := by decide +kernel
theorem dX8_isDigit_1 : decode cX8_isDigit 1 = .ok (.iload_n 1, 1) := by decide +kernel
theorem dX8_isDigit_2 : decode cX8_isDigit 2 = .ok (.invokevirtual 322, 3) := by decide +kernel
theorem dX8_isDigit_5 : decode cX8_isDigit 5 = .ok (.bipush 48, 2) := by decide +kernel
theorem dX8_isDigit_7 : decode cX8_isDigit 7 = .ok (.if_icmp .lt 17, 3) := by decide +kernel
theorem dX8_isDigit_10 : decode cX8_isDigit 10 = .ok (.aload_n 0, 1) := by decide +kernel
theorem dX8_isDigit_11 : decode cX8_isDigit 11 = .ok (.iload_n 1, 1) := by decide +kernel
theorem dX8_isDigit_12 : decode cX8_isDigit 12 = .ok (.invokevirtual 322, 3) := by decide +kernel
theorem dX8_isDigit_15 : decode cX8_isDigit 15 = .ok (.bipush 57, 2) := by decide +kernel
theorem dX8_isDigit_17 : decode cX8_isDigit 17 = .ok (.if_icmp .gt 7, 3) := by decide +kernel
theorem dX8_isDigit_20 : decode cX8_isDigit 20 = .ok (.iconst 1, 1) := by decide +kernel
theorem dX8_isDigit_21 : decode cX8_isDigit 21 = .ok (.goto 4, 3) := by decide +kernel
theorem dX8_isDigit_24 : decode cX8_isDigit 24 = .ok (.iconst 0, 1) := by decide +kernel
theorem dX8_isDigit_25 : decode cX8_isDigit 25 = .ok (.ireturn, 1) := by decide +kernel
theorem dX8_scan_0 : decode cX8_scan 0 = .ok (.aload_n 0, 1) := by decide +kernel
theorem dX8_scan_1 : decode cX8_scan 1 = .ok (.aload_n 0, 1) := by decide +kernel
theorem dX8_scan_2 : decode cX8_scan 2 = .ok (.getfield 325, 3) := by decide +kernel
theorem dX8_scan_5 : decode cX8_scan 5 = .ok (.invokevirtual 322, 3) := by decide +kernel
theorem dX8_scan_8 : decode cX8_scan 8 = .ok (.bipush 32, 2) := by decide +kernel
theorem dX8_scan_10 : decode cX8_scan 10 = .ok (.if_icmp .eq 16, 3) := by decide +kernel
theorem dX8_scan_13 : decode cX8_scan 13 = .ok (.aload_n 0, 1) := by decide +kernel
theorem dX8_scan_14 : decode cX8_scan 14 = .ok (.aload_n 0, 1) := by decide +kernel
theorem dX8_scan_15 : decode cX8_scan 15 = .ok (.getfield 325, 3) := by decide +kernel
theorem dX8_scan_18 : decode cX8_scan 18 = .ok (.invokevirtual 322, 3) := by decide +kernel
theorem dX8_scan_21 : decode cX8_scan 21 = .ok (.bipush 10, 2) := by decide +kernel
theorem dX8_scan_23 : decode cX8_scan 23 = .ok (.if_icmp .ne 16, 3) := by decide +kernel
theorem dX8_scan_26 : decode cX8_scan 26 = .ok (.aload_n 0, 1) := by decide +kernel
theorem dX8_scan_27 : decode cX8_scan 27 = .ok (.dup, 1) := by decide +kernel
theorem dX8_scan_28 : decode cX8_scan 28 = .ok (.getfield 325, 3) := by decide +kernel
theorem dX8_scan_31 : decode cX8_scan 31 = .ok (.iconst 1, 1) := by decide +kernel
theorem dX8_scan_32 : decode cX8_scan 32 = .ok (.iadd, 1) := by decide +kernel
theorem dX8_scan_33 : decode cX8_scan 33 = .ok (.putfield 325, 3) := by decide +kernel
theorem dX8_scan_36 : decode cX8_scan 36 = .ok (.goto (-36), 3) := by decide +kernel
theorem dX8_scan_39 : decode cX8_scan 39 = .ok (.aload_n 0, 1) := by decide +kernel
theorem dX8_scan_40 : decode cX8_scan 40 = .ok (.aload_n 0, 1) := by decide +kernel
theorem dX8_scan_41 : decode cX8_scan 41 = .ok (.getfield 325, 3) := by decide +kernel
theorem dX8_scan_44 : decode cX8_scan 44 = .ok (.putfield 328, 3) := by decide +kernel
theorem dX8_scan_47 : decode cX8_scan 47 = .ok (.aload_n 0, 1) := by decide +kernel
theorem dX8_scan_48 : decode cX8_scan 48 = .ok (.getfield 325, 3) := by decide +kernel
theorem dX8_scan_51 : decode cX8_scan 51 = .ok (.aload_n 0, 1) := by decide +kernel
theorem dX8_scan_52 : decode cX8_scan 52 = .ok (.getfield 319, 3) := by decide +kernel
theorem dX8_scan_55 : decode cX8_scan 55 = .ok (.if_icmp .lt 11, 3) := by decide +kernel
theorem dX8_scan_58 : decode cX8_scan 58 = .ok (.aload_n 0, 1) := by decide +kernel
theorem dX8_scan_59 : decode cX8_scan 59 = .ok (.iconst 0, 1) := by decide +kernel
theorem dX8_scan_60 : decode cX8_scan 60 = .ok (.putfield 331, 3) := by decide +kernel
theorem dX8_scan_63 : decode cX8_scan 63 = .ok (.goto 104, 3) := by decide +kernel
theorem dX8_scan_66 : decode cX8_scan 66 = .ok (.aload_n 0, 1) := by decide +kernel
theorem dX8_scan_67 : decode cX8_scan 67 = .ok (.aload_n 0, 1) := by decide +kernel
theorem dX8_scan_68 : decode cX8_scan 68 = .ok (.getfield 325, 3) := by decide +kernel
theorem dX8_scan_71 : decode cX8_scan 71 = .ok (.invokevirtual 334, 3) := by decide +kernel
theorem dX8_scan_74 : decode cX8_scan 74 = .ok (.ifCond .eq 35, 3) := by decide +kernel
theorem dX8_scan_77 : decode cX8_scan 77 = .ok (.aload_n 0, 1) := by decide +kernel
theorem dX8_scan_78 : decode cX8_scan 78 = .ok (.aload_n 0, 1) := by decide +kernel
theorem dX8_scan_79 : decode cX8_scan 79 = .ok (.getfield 325, 3) := by decide +kernel
theorem dX8_scan_82 : decode cX8_scan 82 = .ok (.invokevirtual 334, 3) := by decide +kernel
theorem dX8_scan_85 : decode cX8_scan 85 = .ok (.ifCond .eq 16, 3) := by decide +kernel
theorem dX8_scan_88 : decode cX8_scan 88 = .ok (.aload_n 0, 1) := by decide +kernel
theorem dX8_scan_89 : decode cX8_scan 89 = .ok (.dup, 1) := by decide +kernel
theorem dX8_scan_90 : decode cX8_scan 90 = .ok (.getfield 325, 3) := by decide +kernel
theorem dX8_scan_93 : decode cX8_scan 93 = .ok (.iconst 1, 1) := by decide +kernel
theorem dX8_scan_94 : decode cX8_scan 94 = .ok (.iadd, 1) := by decide +kernel
theorem dX8_scan_95 : decode cX8_scan 95 = .ok (.putfield 325, 3) := by decide +kernel
theorem dX8_scan_98 : decode cX8_scan 98 = .ok (.goto (-21), 3) := by decide +kernel
theorem dX8_scan_101 : decode cX8_scan 101 = .ok (.aload_n 0, 1) := by decide +kernel
theorem dX8_scan_102 : decode cX8_scan 102 = .ok (.iconst 1, 1) := by decide +kernel
theorem dX8_scan_103 : decode cX8_scan 103 = .ok (.putfield 331, 3) := by decide +kernel
theorem dX8_scan_106 : decode cX8_scan 106 = .ok (.goto 61, 3) := by decide +kernel
theorem dX8_scan_109 : decode cX8_scan 109 = .ok (.aload_n 0, 1) := by decide +kernel
theorem dX8_scan_110 : decode cX8_scan 110 = .ok (.aload_n 0, 1) := by decide +kernel
theorem dX8_scan_111 : decode cX8_scan 111 = .ok (.getfield 325, 3) := by decide +kernel
theorem dX8_scan_114 : decode cX8_scan 114 = .ok (.invokevirtual 337, 3) := by decide +kernel
theorem dX8_scan_117 : decode cX8_scan 117 = .ok (.ifCond .eq 35, 3) := by decide +kernel
theorem dX8_scan_120 : decode cX8_scan 120 = .ok (.aload_n 0, 1) := by decide +kernel
theorem dX8_scan_121 : decode cX8_scan 121 = .ok (.aload_n 0, 1) := by decide +kernel
theorem dX8_scan_122 : decode cX8_scan 122 = .ok (.getfield 325, 3) := by decide +kernel
theorem dX8_scan_125 : decode cX8_scan 125 = .ok (.invokevirtual 337, 3) := by decide +kernel
theorem dX8_scan_128 : decode cX8_scan 128 = .ok (.ifCond .eq 16, 3) := by decide +kernel
theorem dX8_scan_131 : decode cX8_scan 131 = .ok (.aload_n 0, 1) := by decide +kernel
theorem dX8_scan_132 : decode cX8_scan 132 = .ok (.dup, 1) := by decide +kernel
theorem dX8_scan_133 : decode cX8_scan 133 = .ok (.getfield 325, 3) := by decide +kernel
theorem dX8_scan_136 : decode cX8_scan 136 = .ok (.iconst 1, 1) := by decide +kernel
theorem dX8_scan_137 : decode cX8_scan 137 = .ok (.iadd, 1) := by decide +kernel
theorem dX8_scan_138 : decode cX8_scan 138 = .ok (.putfield 325, 3) := by decide +kernel
theorem dX8_scan_141 : decode cX8_scan 141 = .ok (.goto (-21), 3) := by decide +kernel
theorem dX8_scan_144 : decode cX8_scan 144 = .ok (.aload_n 0, 1) := by decide +kernel
theorem dX8_scan_145 : decode cX8_scan 145 = .ok (.iconst 2, 1) := by decide +kernel
theorem dX8_scan_146 : decode cX8_scan 146 = .ok (.putfield 331, 3) := by decide +kernel
theorem dX8_scan_149 : decode cX8_scan 149 = .ok (.goto 18, 3) := by decide +kernel
theorem dX8_scan_152 : decode cX8_scan 152 = .ok (.aload_n 0, 1) := by decide +kernel
theorem dX8_scan_153 : decode cX8_scan 153 = .ok (.dup, 1) := by decide +kernel
theorem dX8_scan_154 : decode cX8_scan 154 = .ok (.getfield 325, 3) := by decide +kernel
theorem dX8_scan_157 : decode cX8_scan 157 = .ok (.iconst 1, 1) := by decide +kernel
theorem dX8_scan_158 : decode cX8_scan 158 = .ok (.iadd, 1) := by decide +kernel
theorem dX8_scan_159 : decode cX8_scan 159 = .ok (.putfield 325, 3) := by decide +kernel
theorem dX8_scan_162 : decode cX8_scan 162 = .ok (.aload_n 0, 1) := by decide +kernel
theorem dX8_scan_163 : decode cX8_scan 163 = .ok (.iconst 3, 1) := by decide +kernel
theorem dX8_scan_164 : decode cX8_scan 164 = .ok (.putfield 331, 3) := by decide +kernel
theorem dX8_scan_167 : decode cX8_scan 167 = .ok (.return_, 1) := by decide +kernel
theorem dX8_startText_0 : decode cX8_startText 0 = .ok (.aload_n 0, 1) := by decide +kernel
theorem dX8_startText_1 : decode cX8_startText 1 = .ok (.iload_n 1, 1) := by decide +kernel
theorem dX8_startText_2 : decode cX8_startText 2 = .ok (.putfield 319, 3) := by decide +kernel
theorem dX8_startText_5 : decode cX8_startText 5 = .ok (.aload_n 0, 1) := by decide +kernel
theorem dX8_startText_6 : decode cX8_startText 6 = .ok (.iconst 0, 1) := by decide +kernel
theorem dX8_startText_7 : decode cX8_startText 7 = .ok (.putfield 325, 3) := by decide +kernel
theorem dX8_startText_10 : decode cX8_startText 10 = .ok (.aload_n 0, 1) := by decide +kernel
theorem dX8_startText_11 : decode cX8_startText 11 = .ok (.iconst 0, 1) := by decide +kernel
theorem dX8_startText_12 : decode cX8_startText 12 = .ok (.putfield 340, 3) := by decide +kernel
theorem dX8_startText_15 : decode cX8_startText 15 = .ok (.aload_n 0, 1) := by decide +kernel
theorem dX8_startText_16 : decode cX8_startText 16 = .ok (.iconst 0, 1) := by decide +kernel
theorem dX8_startText_17 : decode cX8_startText 17 = .ok (.putfield 343, 3) := by decide +kernel
theorem dX8_startText_20 : decode cX8_startText 20 = .ok (.aload_n 0, 1) := by decide +kernel
theorem dX8_startText_21 : decode cX8_startText 21 = .ok (.invokevirtual 346, 3) := by decide +kernel
theorem dX8_startText_24 : decode cX8_startText 24 = .ok (.return_, 1) := by decide +kernel
theorem dX8_finish_0 : decode cX8_finish 0 = .ok (.aload_n 0, 1) := by decide +kernel
theorem dX8_finish_1 : decode cX8_finish 1 = .ok (.iconst 0, 1) := by decide +kernel
theorem dX8_finish_2 : decode cX8_finish 2 = .ok (.putfield 316, 3) := by decide +kernel
theorem dX8_finish_5 : decode cX8_finish 5 = .ok (.aload_n 0, 1) := by decide +kernel
theorem dX8_finish_6 : decode cX8_finish 6 = .ok (.aload_n 0, 1) := by decide +kernel
theorem dX8_finish_7 : decode cX8_finish 7 = .ok (.getfield 340, 3) := by decide +kernel
theorem dX8_finish_10 : decode cX8_finish 10 = .ok (.ifCond .ne 7, 3) := by decide +kernel
theorem dX8_finish_13 : decode cX8_finish 13 = .ok (.iconst (-1), 1) := by decide +kernel
theorem dX8_finish_14 : decode cX8_finish 14 = .ok (.goto 7, 3) := by decide +kernel
theorem dX8_finish_17 : decode cX8_finish 17 = .ok (.aload_n 0, 1) := by decide +kernel
theorem dX8_finish_18 : decode cX8_finish 18 = .ok (.getfield 349, 3) := by decide +kernel
theorem dX8_finish_21 : decode cX8_finish 21 = .ok (.putfield 34, 3) := by decide +kernel
theorem dX8_finish_24 : decode cX8_finish 24 = .ok (.aload_n 0, 1) := by decide +kernel
theorem dX8_finish_25 : decode cX8_finish 25 = .ok (.getfield 340, 3) := by decide +kernel
theorem dX8_finish_28 : decode cX8_finish 28 = .ok (.ireturn, 1) := by decide +kernel
theorem dX8_check_0 : decode cX8_check 0 = .ok (.iload_n 1, 1) := by decide +kernel
theorem dX8_check_1 : decode cX8_check 1 = .ok (.ifCond .ne 23, 3) := by decide +kernel
theorem dX8_check_4 : decode cX8_check 4 = .ok (.aload_n 0, 1) := by decide +kernel
theorem dX8_check_5 : decode cX8_check 5 = .ok (.getfield 340, 3) := by decide +kernel
theorem dX8_check_8 : decode cX8_check 8 = .ok (.ifCond .ne 16, 3) := by decide +kernel
theorem dX8_check_11 : decode cX8_check 11 = .ok (.aload_n 0, 1) := by decide +kernel
theorem dX8_check_12 : decode cX8_check 12 = .ok (.iload_n 2, 1) := by decide +kernel
theorem dX8_check_13 : decode cX8_check 13 = .ok (.putfield 340, 3) := by decide +kernel
theorem dX8_check_16 : decode cX8_check 16 = .ok (.aload_n 0, 1) := by decide +kernel
theorem dX8_check_17 : decode cX8_check 17 = .ok (.aload_n 0, 1) := by decide +kernel
theorem dX8_check_18 : decode cX8_check 18 = .ok (.getfield 328, 3) := by decide +kernel
theorem dX8_check_21 : decode cX8_check 21 = .ok (.putfield 349, 3) := by decide +kernel
theorem dX8_check_24 : decode cX8_check 24 = .ok (.return_, 1) := by decide +kernel
theorem dX8_advance_0 : decode cX8_advance 0 = .ok (.aload_n 0, 1) := by decide +kernel
theorem dX8_advance_1 : decode cX8_advance 1 = .ok (.getfield 340, 3) := by decide +kernel
theorem dX8_advance_4 : decode cX8_advance 4 = .ok (.ifCond .ne 7, 3) := by decide +kernel
theorem dX8_advance_7 : decode cX8_advance 7 = .ok (.aload_n 0, 1) := by decide +kernel
theorem dX8_advance_8 : decode cX8_advance 8 = .ok (.invokevirtual 346, 3) := by decide +kernel
theorem dX8_advance_11 : decode cX8_advance 11 = .ok (.return_, 1) := by decide +kernel
theorem dX8_isSymbol_0 : decode cX8_isSymbol 0 = .ok (.aload_n 0, 1) := by decide +kernel
theorem dX8_isSymbol_1 : decode cX8_isSymbol 1 = .ok (.getfield 340, 3) := by decide +kernel
theorem dX8_isSymbol_4 : decode cX8_isSymbol 4 = .ok (.ifCond .ne 28, 3) := by decide +kernel
theorem dX8_isSymbol_7 : decode cX8_isSymbol 7 = .ok (.aload_n 0, 1) := by decide +kernel
theorem dX8_isSymbol_8 : decode cX8_isSymbol 8 = .ok (.getfield 331, 3) := by decide +kernel
theorem dX8_isSymbol_11 : decode cX8_isSymbol 11 = .ok (.iconst 3, 1) := by decide +kernel
theorem dX8_isSymbol_12 : decode cX8_isSymbol 12 = .ok (.if_icmp .ne 20, 3) := by decide +kernel
theorem dX8_isSymbol_15 : decode cX8_isSymbol 15 = .ok (.aload_n 0, 1) := by decide +kernel
theorem dX8_isSymbol_16 : decode cX8_isSymbol 16 = .ok (.getfield 31, 3) := by decide +kernel
theorem dX8_isSymbol_19 : decode cX8_isSymbol 19 = .ok (.aload_n 0, 1) := by decide +kernel
theorem dX8_isSymbol_20 : decode cX8_isSymbol 20 = .ok (.getfield 328, 3) := by decide +kernel
theorem dX8_isSymbol_23 : decode cX8_isSymbol 23 = .ok (.iaload, 1) := by decide +kernel
theorem dX8_isSymbol_24 : decode cX8_isSymbol 24 = .ok (.iload_n 1, 1) := by decide +kernel
theorem dX8_isSymbol_25 : decode cX8_isSymbol 25 = .ok (.if_icmp .ne 7, 3) := by decide +kernel
theorem dX8_isSymbol_28 : decode cX8_isSymbol 28 = .ok (.iconst 1, 1) := by decide +kernel
theorem dX8_isSymbol_29 : decode cX8_isSymbol 29 = .ok (.goto 4, 3) := by decide +kernel
theorem dX8_isSymbol_32 : decode cX8_isSymbol 32 = .ok (.iconst 0, 1) := by decide +kernel
theorem dX8_isSymbol_33 : decode cX8_isSymbol 33 = .ok (.ireturn, 1) := by decide +kernel
theorem dX8_isWord_0 : decode cX8_isWord 0 = .ok (.aload_n 0, 1) := by decide +kernel
theorem dX8_isWord_1 : decode cX8_isWord 1 = .ok (.getfield 340, 3) := by decide +kernel
theorem dX8_isWord_4 : decode cX8_isWord 4 = .ok (.ifCond .ne 31, 3) := by decide +kernel
theorem dX8_isWord_7 : decode cX8_isWord 7 = .ok (.aload_n 0, 1) := by decide +kernel
theorem dX8_isWord_8 : decode cX8_isWord 8 = .ok (.getfield 331, 3) := by decide +kernel
theorem dX8_isWord_11 : decode cX8_isWord 11 = .ok (.iconst 1, 1) := by decide +kernel
theorem dX8_isWord_12 : decode cX8_isWord 12 = .ok (.if_icmp .ne 23, 3) := by decide +kernel
theorem dX8_isWord_15 : decode cX8_isWord 15 = .ok (.aload_n 1, 1) := by decide +kernel
theorem dX8_isWord_16 : decode cX8_isWord 16 = .ok (.invokevirtual 352, 3) := by decide +kernel
theorem dX8_isWord_19 : decode cX8_isWord 19 = .ok (.aload_n 0, 1) := by decide +kernel
theorem dX8_isWord_20 : decode cX8_isWord 20 = .ok (.getfield 325, 3) := by decide +kernel
theorem dX8_isWord_23 : decode cX8_isWord 23 = .ok (.aload_n 0, 1) := by decide +kernel
theorem dX8_isWord_24 : decode cX8_isWord 24 = .ok (.getfield 328, 3) := by decide +kernel
theorem dX8_isWord_27 : decode cX8_isWord 27 = .ok (.isub, 1) := by decide +kernel
theorem dX8_isWord_28 : decode cX8_isWord 28 = .ok (.if_icmp .ne 7, 3) := by decide +kernel
theorem dX8_isWord_31 : decode cX8_isWord 31 = .ok (.iconst 1, 1) := by decide +kernel
theorem dX8_isWord_32 : decode cX8_isWord 32 = .ok (.goto 4, 3) := by decide +kernel
theorem dX8_isWord_35 : decode cX8_isWord 35 = .ok (.iconst 0, 1) := by decide +kernel
theorem dX8_isWord_36 : decode cX8_isWord 36 = .ok (.istore_n 2, 1) := by decide +kernel
theorem dX8_isWord_37 : decode cX8_isWord 37 = .ok (.iconst 0, 1) := by decide +kernel
theorem dX8_isWord_38 : decode cX8_isWord 38 = .ok (.istore_n 3, 1) := by decide +kernel
theorem dX8_isWord_39 : decode cX8_isWord 39 = .ok (.iload_n 2, 1) := by decide +kernel
theorem dX8_isWord_40 : decode cX8_isWord 40 = .ok (.ifCond .eq 42, 3) := by decide +kernel
theorem dX8_isWord_43 : decode cX8_isWord 43 = .ok (.iload_n 3, 1) := by decide +kernel
theorem dX8_isWord_44 : decode cX8_isWord 44 = .ok (.aload_n 1, 1) := by decide +kernel
theorem dX8_isWord_45 : decode cX8_isWord 45 = .ok (.invokevirtual 352, 3) := by decide +kernel
theorem dX8_isWord_48 : decode cX8_isWord 48 = .ok (.if_icmp .ge 34, 3) := by decide +kernel
theorem dX8_isWord_51 : decode cX8_isWord 51 = .ok (.aload_n 1, 1) := by decide +kernel
theorem dX8_isWord_52 : decode cX8_isWord 52 = .ok (.iload_n 3, 1) := by decide +kernel
theorem dX8_isWord_53 : decode cX8_isWord 53 = .ok (.invokevirtual 354, 3) := by decide +kernel
theorem dX8_isWord_56 : decode cX8_isWord 56 = .ok (.aload_n 0, 1) := by decide +kernel
theorem dX8_isWord_57 : decode cX8_isWord 57 = .ok (.getfield 31, 3) := by decide +kernel
theorem dX8_isWord_60 : decode cX8_isWord 60 = .ok (.aload_n 0, 1) := by decide +kernel
theorem dX8_isWord_61 : decode cX8_isWord 61 = .ok (.getfield 328, 3) := by decide +kernel
theorem dX8_isWord_64 : decode cX8_isWord 64 = .ok (.iload_n 3, 1) := by decide +kernel
theorem dX8_isWord_65 : decode cX8_isWord 65 = .ok (.iadd, 1) := by decide +kernel
theorem dX8_isWord_66 : decode cX8_isWord 66 = .ok (.iaload, 1) := by decide +kernel
theorem dX8_isWord_67 : decode cX8_isWord 67 = .ok (.if_icmp .ne 7, 3) := by decide +kernel
theorem dX8_isWord_70 : decode cX8_isWord 70 = .ok (.iconst 1, 1) := by decide +kernel
theorem dX8_isWord_71 : decode cX8_isWord 71 = .ok (.goto 4, 3) := by decide +kernel
theorem dX8_isWord_74 : decode cX8_isWord 74 = .ok (.iconst 0, 1) := by decide +kernel
theorem dX8_isWord_75 : decode cX8_isWord 75 = .ok (.istore_n 2, 1) := by decide +kernel
theorem dX8_isWord_76 : decode cX8_isWord 76 = .ok (.iinc 3 1, 3) := by decide +kernel
theorem dX8_isWord_79 : decode cX8_isWord 79 = .ok (.goto (-40), 3) := by decide +kernel
theorem dX8_isWord_82 : decode cX8_isWord 82 = .ok (.iload_n 2, 1) := by decide +kernel
theorem dX8_isWord_83 : decode cX8_isWord 83 = .ok (.ireturn, 1) := by decide +kernel
theorem dX8_expect_0 : decode cX8_expect 0 = .ok (.aload_n 0, 1) := by decide +kernel
theorem dX8_expect_1 : decode cX8_expect 1 = .ok (.aload_n 0, 1) := by decide +kernel
theorem dX8_expect_2 : decode cX8_expect 2 = .ok (.iload_n 1, 1) := by decide +kernel
theorem dX8_expect_3 : decode cX8_expect 3 = .ok (.invokevirtual 362, 3) := by decide +kernel
theorem dX8_expect_6 : decode cX8_expect 6 = .ok (.iconst 1, 1) := by decide +kernel
theorem dX8_expect_7 : decode cX8_expect 7 = .ok (.invokevirtual 365, 3) := by decide +kernel
theorem dX8_expect_10 : decode cX8_expect 10 = .ok (.aload_n 0, 1) := by decide +kernel
theorem dX8_expect_11 : decode cX8_expect 11 = .ok (.invokevirtual 369, 3) := by decide +kernel
theorem dX8_expect_14 : decode cX8_expect 14 = .ok (.return_, 1) := by decide +kernel
theorem dX8_value_0 : decode cX8_value 0 = .ok (.iconst 0, 1) := by decide +kernel
theorem dX8_value_1 : decode cX8_value 1 = .ok (.istore_n 1, 1) := by decide +kernel
theorem dX8_value_2 : decode cX8_value 2 = .ok (.aload_n 0, 1) := by decide +kernel
theorem dX8_value_3 : decode cX8_value 3 = .ok (.getfield 328, 3) := by decide +kernel
theorem dX8_value_6 : decode cX8_value 6 = .ok (.istore_n 2, 1) := by decide +kernel
theorem dX8_value_7 : decode cX8_value 7 = .ok (.iload_n 2, 1) := by decide +kernel
theorem dX8_value_8 : decode cX8_value 8 = .ok (.aload_n 0, 1) := by decide +kernel
theorem dX8_value_9 : decode cX8_value 9 = .ok (.getfield 325, 3) := by decide +kernel
theorem dX8_value_12 : decode cX8_value 12 = .ok (.if_icmp .ge 43, 3) := by decide +kernel
theorem dX8_value_15 : decode cX8_value 15 = .ok (.aload_n 0, 1) := by decide +kernel
theorem dX8_value_16 : decode cX8_value 16 = .ok (.getfield 331, 3) := by decide +kernel
theorem dX8_value_19 : decode cX8_value 19 = .ok (.iconst 2, 1) := by decide +kernel
theorem dX8_value_20 : decode cX8_value 20 = .ok (.if_icmp .ne 35, 3) := by decide +kernel
theorem dX8_value_23 : decode cX8_value 23 = .ok (.iload_n 1, 1) := by decide +kernel
theorem dX8_value_24 : decode cX8_value 24 = .ok (.ldc_w 372, 3) := by decide +kernel
theorem dX8_value_27 : decode cX8_value 27 = .ok (.if_icmp .le 7, 3) := by decide +kernel
theorem dX8_value_30 : decode cX8_value 30 = .ok (.iload_n 1, 1) := by decide +kernel
theorem dX8_value_31 : decode cX8_value 31 = .ok (.goto 17, 3) := by decide +kernel
theorem dX8_value_34 : decode cX8_value 34 = .ok (.bipush 10, 2) := by decide +kernel
theorem dX8_value_36 : decode cX8_value 36 = .ok (.iload_n 1, 1) := by decide +kernel
theorem dX8_value_37 : decode cX8_value 37 = .ok (.imul, 1) := by decide +kernel
theorem dX8_value_38 : decode cX8_value 38 = .ok (.aload_n 0, 1) := by decide +kernel
theorem dX8_value_39 : decode cX8_value 39 = .ok (.getfield 31, 3) := by decide +kernel
theorem dX8_value_42 : decode cX8_value 42 = .ok (.iload_n 2, 1) := by decide +kernel
theorem dX8_value_43 : decode cX8_value 43 = .ok (.iaload, 1) := by decide +kernel
theorem dX8_value_44 : decode cX8_value 44 = .ok (.iadd, 1) := by decide +kernel
theorem dX8_value_45 : decode cX8_value 45 = .ok (.bipush 48, 2) := by decide +kernel
theorem dX8_value_47 : decode cX8_value 47 = .ok (.isub, 1) := by decide +kernel
theorem dX8_value_48 : decode cX8_value 48 = .ok (.istore_n 1, 1) := by decide +kernel
theorem dX8_value_49 : decode cX8_value 49 = .ok (.iinc 2 1, 3) := by decide +kernel
theorem dX8_value_52 : decode cX8_value 52 = .ok (.goto (-45), 3) := by decide +kernel
theorem dX8_value_55 : decode cX8_value 55 = .ok (.iload_n 1, 1) := by decide +kernel
theorem dX8_value_56 : decode cX8_value 56 = .ok (.ireturn, 1) := by decide +kernel
theorem dX8_look_0 : decode cX8_look 0 = .ok (.aload_n 0, 1) := by decide +kernel
theorem dX8_look_1 : decode cX8_look 1 = .ok (.aload_n 0, 1) := by decide +kernel
theorem dX8_look_2 : decode cX8_look 2 = .ok (.getfield 331, 3) := by decide +kernel
theorem dX8_look_5 : decode cX8_look 5 = .ok (.iconst 2, 1) := by decide +kernel
theorem dX8_look_6 : decode cX8_look 6 = .ok (.if_icmp .ne 7, 3) := by decide +kernel
theorem dX8_look_9 : decode cX8_look 9 = .ok (.iconst 1, 1) := by decide +kernel
theorem dX8_look_10 : decode cX8_look 10 = .ok (.goto 4, 3) := by decide +kernel
theorem dX8_look_13 : decode cX8_look 13 = .ok (.iconst 0, 1) := by decide +kernel
theorem dX8_look_14 : decode cX8_look 14 = .ok (.iconst 1, 1) := by decide +kernel
theorem dX8_look_15 : decode cX8_look 15 = .ok (.invokevirtual 365, 3) := by decide +kernel
theorem dX8_look_18 : decode cX8_look 18 = .ok (.aload_n 0, 1) := by decide +kernel
theorem dX8_look_19 : decode cX8_look 19 = .ok (.invokevirtual 373, 3) := by decide +kernel
theorem dX8_look_22 : decode cX8_look 22 = .ok (.istore_n 3, 1) := by decide +kernel
theorem dX8_look_23 : decode cX8_look 23 = .ok (.aload_n 0, 1) := by decide +kernel
theorem dX8_look_24 : decode cX8_look 24 = .ok (.iload_n 3, 1) := by decide +kernel
theorem dX8_look_25 : decode cX8_look 25 = .ok (.iload_n 1, 1) := by decide +kernel
theorem dX8_look_26 : decode cX8_look 26 = .ok (.iload_n 2, 1) := by decide +kernel
theorem dX8_look_27 : decode cX8_look 27 = .ok (.invokestatic 93, 3) := by decide +kernel
theorem dX8_look_30 : decode cX8_look 30 = .ok (.iconst 2, 1) := by decide +kernel
theorem dX8_look_31 : decode cX8_look 31 = .ok (.invokevirtual 365, 3) := by decide +kernel
theorem dX8_look_34 : decode cX8_look 34 = .ok (.aload_n 0, 1) := by decide +kernel
theorem dX8_look_35 : decode cX8_look 35 = .ok (.getfield 340, 3) := by decide +kernel
theorem dX8_look_38 : decode cX8_look 38 = .ok (.ifCond .ne 7, 3) := by decide +kernel
theorem dX8_look_41 : decode cX8_look 41 = .ok (.iload_n 3, 1) := by decide +kernel
theorem dX8_look_42 : decode cX8_look 42 = .ok (.goto 4, 3) := by decide +kernel
theorem dX8_look_45 : decode cX8_look 45 = .ok (.iload_n 1, 1) := by decide +kernel
theorem dX8_look_46 : decode cX8_look 46 = .ok (.ireturn, 1) := by decide +kernel
theorem dX8_readNumber_0 : decode cX8_readNumber 0 = .ok (.aload_n 0, 1) := by decide +kernel
theorem dX8_readNumber_1 : decode cX8_readNumber 1 = .ok (.iload_n 1, 1) := by decide +kernel
theorem dX8_readNumber_2 : decode cX8_readNumber 2 = .ok (.iload_n 2, 1) := by decide +kernel
theorem dX8_readNumber_3 : decode cX8_readNumber 3 = .ok (.invokevirtual 376, 3) := by decide +kernel
theorem dX8_readNumber_6 : decode cX8_readNumber 6 = .ok (.istore_n 3, 1) := by decide +kernel
theorem dX8_readNumber_7 : decode cX8_readNumber 7 = .ok (.aload_n 0, 1) := by decide +kernel
theorem dX8_readNumber_8 : decode cX8_readNumber 8 = .ok (.invokevirtual 369, 3) := by decide +kernel
theorem dX8_readNumber_11 : decode cX8_readNumber 11 = .ok (.iload_n 3, 1) := by decide +kernel
theorem dX8_readNumber_12 : decode cX8_readNumber 12 = .ok (.ireturn, 1) := by decide +kernel
theorem dX8_errorCode_0 : decode cX8_errorCode 0 = .ok (.aload_n 0, 1) := by decide +kernel
theorem dX8_errorCode_1 : decode cX8_errorCode 1 = .ok (.iconst 0, 1) := by decide +kernel
theorem dX8_errorCode_2 : decode cX8_errorCode 2 = .ok (.putfield 86, 3) := by decide +kernel
theorem dX8_errorCode_5 : decode cX8_errorCode 5 = .ok (.aload_n 0, 1) := by decide +kernel
theorem dX8_errorCode_6 : decode cX8_errorCode 6 = .ok (.getfield 379, 3) := by decide +kernel
theorem dX8_errorCode_9 : decode cX8_errorCode 9 = .ok (.ireturn, 1) := by decide +kernel
theorem dX8_isFaulty_0 : decode cX8_isFaulty 0 = .ok (.aload_n 0, 1) := by decide +kernel
theorem dX8_isFaulty_1 : decode cX8_isFaulty 1 = .ok (.aload_n 0, 1) := by decide +kernel
theorem dX8_isFaulty_2 : decode cX8_isFaulty 2 = .ok (.invokevirtual 382, 3) := by decide +kernel
theorem dX8_isFaulty_5 : decode cX8_isFaulty 5 = .ok (.putfield 379, 3) := by decide +kernel
theorem dX8_isFaulty_8 : decode cX8_isFaulty 8 = .ok (.aload_n 0, 1) := by decide +kernel
theorem dX8_isFaulty_9 : decode cX8_isFaulty 9 = .ok (.getfield 379, 3) := by decide +kernel
theorem dX8_isFaulty_12 : decode cX8_isFaulty 12 = .ok (.ifCond .eq 7, 3) := by decide +kernel
theorem dX8_isFaulty_15 : decode cX8_isFaulty 15 = .ok (.iconst 1, 1) := by decide +kernel
theorem dX8_isFaulty_16 : decode cX8_isFaulty 16 = .ok (.goto 4, 3) := by decide +kernel
theorem dX8_isFaulty_19 : decode cX8_isFaulty 19 = .ok (.iconst 0, 1) := by decide +kernel
theorem dX8_isFaulty_20 : decode cX8_isFaulty 20 = .ok (.ireturn, 1) := by decide +kernel
theorem dX8_startCoast_0 : decode cX8_startCoast 0 = .ok (.aload_n 0, 1) := by decide +kernel
theorem dX8_startCoast_1 : decode cX8_startCoast 1 = .ok (.getfield 38, 3) := by decide +kernel
theorem dX8_startCoast_4 : decode cX8_startCoast 4 = .ok (.iconst 0, 1) := by decide +kernel
theorem dX8_startCoast_5 : decode cX8_startCoast 5 = .ok (.iload_n 1, 1) := by decide +kernel
theorem dX8_startCoast_6 : decode cX8_startCoast 6 = .ok (.iastore, 1) := by decide +kernel
theorem dX8_startCoast_7 : decode cX8_startCoast 7 = .ok (.aload_n 0, 1) := by decide +kernel
theorem dX8_startCoast_8 : decode cX8_startCoast 8 = .ok (.getfield 38, 3) := by decide +kernel
theorem dX8_startCoast_11 : decode cX8_startCoast 11 = .ok (.iconst 1, 1) := by decide +kernel
theorem dX8_startCoast_12 : decode cX8_startCoast 12 = .ok (.iconst 0, 1) := by decide +kernel
theorem dX8_startCoast_13 : decode cX8_startCoast 13 = .ok (.iastore, 1) := by decide +kernel
theorem dX8_startCoast_14 : decode cX8_startCoast 14 = .ok (.return_, 1) := by decide +kernel
theorem dX8_tellPoint_0 : decode cX8_tellPoint 0 = .ok (.aload_n 0, 1) := by decide +kernel
theorem dX8_tellPoint_1 : decode cX8_tellPoint 1 = .ok (.getfield 38, 3) := by decide +kernel
theorem dX8_tellPoint_4 : decode cX8_tellPoint 4 = .ok (.iconst 2, 1) := by decide +kernel
theorem dX8_tellPoint_5 : decode cX8_tellPoint 5 = .ok (.iconst 2, 1) := by decide +kernel
theorem dX8_tellPoint_6 : decode cX8_tellPoint 6 = .ok (.aload_n 0, 1) := by decide +kernel
theorem dX8_tellPoint_7 : decode cX8_tellPoint 7 = .ok (.getfield 38, 3) := by decide +kernel
theorem dX8_tellPoint_10 : decode cX8_tellPoint 10 = .ok (.iconst 1, 1) := by decide +kernel
theorem dX8_tellPoint_11 : decode cX8_tellPoint 11 = .ok (.iaload, 1) := by decide +kernel
theorem dX8_tellPoint_12 : decode cX8_tellPoint 12 = .ok (.imul, 1) := by decide +kernel
theorem dX8_tellPoint_13 : decode cX8_tellPoint 13 = .ok (.iadd, 1) := by decide +kernel
theorem dX8_tellPoint_14 : decode cX8_tellPoint 14 = .ok (.iload_n 1, 1) := by decide +kernel
theorem dX8_tellPoint_15 : decode cX8_tellPoint 15 = .ok (.iastore, 1) := by decide +kernel
theorem dX8_tellPoint_16 : decode cX8_tellPoint 16 = .ok (.aload_n 0, 1) := by decide +kernel
theorem dX8_tellPoint_17 : decode cX8_tellPoint 17 = .ok (.getfield 38, 3) := by decide +kernel
theorem dX8_tellPoint_20 : decode cX8_tellPoint 20 = .ok (.iconst 2, 1) := by decide +kernel
theorem dX8_tellPoint_21 : decode cX8_tellPoint 21 = .ok (.iconst 2, 1) := by decide +kernel
theorem dX8_tellPoint_22 : decode cX8_tellPoint 22 = .ok (.aload_n 0, 1) := by decide +kernel
theorem dX8_tellPoint_23 : decode cX8_tellPoint 23 = .ok (.getfield 38, 3) := by decide +kernel
theorem dX8_tellPoint_26 : decode cX8_tellPoint 26 = .ok (.iconst 1, 1) := by decide +kernel
theorem dX8_tellPoint_27 : decode cX8_tellPoint 27 = .ok (.iaload, 1) := by decide +kernel
theorem dX8_tellPoint_28 : decode cX8_tellPoint 28 = .ok (.imul, 1) := by decide +kernel
theorem dX8_tellPoint_29 : decode cX8_tellPoint 29 = .ok (.iadd, 1) := by decide +kernel
theorem dX8_tellPoint_30 : decode cX8_tellPoint 30 = .ok (.iconst 1, 1) := by decide +kernel
theorem dX8_tellPoint_31 : decode cX8_tellPoint 31 = .ok (.iadd, 1) := by decide +kernel
theorem dX8_tellPoint_32 : decode cX8_tellPoint 32 = .ok (.iload_n 2, 1) := by decide +kernel
theorem dX8_tellPoint_33 : decode cX8_tellPoint 33 = .ok (.iastore, 1) := by decide +kernel
theorem dX8_tellPoint_34 : decode cX8_tellPoint 34 = .ok (.aload_n 0, 1) := by decide +kernel
theorem dX8_tellPoint_35 : decode cX8_tellPoint 35 = .ok (.getfield 38, 3) := by decide +kernel
theorem dX8_tellPoint_38 : decode cX8_tellPoint 38 = .ok (.iconst 1, 1) := by decide +kernel
theorem dX8_tellPoint_39 : decode cX8_tellPoint 39 = .ok (.dup2, 1) := by decide +kernel
theorem dX8_tellPoint_40 : decode cX8_tellPoint 40 = .ok (.iaload, 1) := by decide +kernel
theorem dX8_tellPoint_41 : decode cX8_tellPoint 41 = .ok (.iconst 1, 1) := by decide +kernel
theorem dX8_tellPoint_42 : decode cX8_tellPoint 42 = .ok (.iadd, 1) := by decide +kernel
theorem dX8_tellPoint_43 : decode cX8_tellPoint 43 = .ok (.iastore, 1) := by decide +kernel
theorem dX8_tellPoint_44 : decode cX8_tellPoint 44 = .ok (.return_, 1) := by decide +kernel
theorem dX8_layTold_0 : decode cX8_layTold 0 = .ok (.aload_n 0, 1) := by decide +kernel
theorem dX8_layTold_1 : decode cX8_layTold 1 = .ok (.getfield 38, 3) := by decide +kernel
theorem dX8_layTold_4 : decode cX8_layTold 4 = .ok (.iconst 0, 1) := by decide +kernel
theorem dX8_layTold_5 : decode cX8_layTold 5 = .ok (.aload_n 0, 1) := by decide +kernel
theorem dX8_layTold_6 : decode cX8_layTold 6 = .ok (.getfield 25, 3) := by decide +kernel
theorem dX8_layTold_9 : decode cX8_layTold 9 = .ok (.aload_n 0, 1) := by decide +kernel
theorem dX8_layTold_10 : decode cX8_layTold 10 = .ok (.getfield 25, 3) := by decide +kernel
theorem dX8_layTold_13 : decode cX8_layTold 13 = .ok (.iconst 1, 1) := by decide +kernel
theorem dX8_layTold_14 : decode cX8_layTold 14 = .ok (.iaload, 1) := by decide +kernel
theorem dX8_layTold_15 : decode cX8_layTold 15 = .ok (.invokestatic 97, 3) := by decide +kernel
theorem dX8_layTold_18 : decode cX8_layTold 18 = .ok (.aload_n 0, 1) := by decide +kernel
theorem dX8_layTold_19 : decode cX8_layTold 19 = .ok (.getfield 38, 3) := by decide +kernel
theorem dX8_layTold_22 : decode cX8_layTold 22 = .ok (.arraylength, 1) := by decide +kernel
theorem dX8_layTold_23 : decode cX8_layTold 23 = .ok (.invokestatic 117, 3) := by decide +kernel
theorem dX8_layTold_26 : decode cX8_layTold 26 = .ok (.aload_n 0, 1) := by decide +kernel
theorem dX8_layTold_27 : decode cX8_layTold 27 = .ok (.getfield 25, 3) := by decide +kernel
theorem dX8_layTold_30 : decode cX8_layTold 30 = .ok (.iconst 1, 1) := by decide +kernel
theorem dX8_layTold_31 : decode cX8_layTold 31 = .ok (.dup2, 1) := by decide +kernel
theorem dX8_layTold_32 : decode cX8_layTold 32 = .ok (.iaload, 1) := by decide +kernel
theorem dX8_layTold_33 : decode cX8_layTold 33 = .ok (.iconst 1, 1) := by decide +kernel
theorem dX8_layTold_34 : decode cX8_layTold 34 = .ok (.iadd, 1) := by decide +kernel
theorem dX8_layTold_35 : decode cX8_layTold 35 = .ok (.iastore, 1) := by decide +kernel
theorem dX8_layTold_36 : decode cX8_layTold 36 = .ok (.return_, 1) := by decide +kernel
theorem dX8_readSigned_0 : decode cX8_readSigned 0 = .ok (.aload_n 0, 1) := by decide +kernel
theorem dX8_readSigned_1 : decode cX8_readSigned 1 = .ok (.bipush 45, 2) := by decide +kernel
theorem dX8_readSigned_3 : decode cX8_readSigned 3 = .ok (.invokevirtual 362, 3) := by decide +kernel
theorem dX8_readSigned_6 : decode cX8_readSigned 6 = .ok (.istore_n 2, 1) := by decide +kernel
theorem dX8_readSigned_7 : decode cX8_readSigned 7 = .ok (.iload_n 2, 1) := by decide +kernel
theorem dX8_readSigned_8 : decode cX8_readSigned 8 = .ok (.ifCond .eq 7, 3) := by decide +kernel
theorem dX8_readSigned_11 : decode cX8_readSigned 11 = .ok (.aload_n 0, 1) := by decide +kernel
theorem dX8_readSigned_12 : decode cX8_readSigned 12 = .ok (.invokevirtual 369, 3) := by decide +kernel
theorem dX8_readSigned_15 : decode cX8_readSigned 15 = .ok (.aload_n 0, 1) := by decide +kernel
theorem dX8_readSigned_16 : decode cX8_readSigned 16 = .ok (.iconst 0, 1) := by decide +kernel
theorem dX8_readSigned_17 : decode cX8_readSigned 17 = .ok (.iload_n 1, 1) := by decide +kernel
theorem dX8_readSigned_18 : decode cX8_readSigned 18 = .ok (.invokevirtual 385, 3) := by decide +kernel
theorem dX8_readSigned_21 : decode cX8_readSigned 21 = .ok (.istore_n 3, 1) := by decide +kernel
theorem dX8_readSigned_22 : decode cX8_readSigned 22 = .ok (.iload_n 2, 1) := by decide +kernel
theorem dX8_readSigned_23 : decode cX8_readSigned 23 = .ok (.ifCond .eq 8, 3) := by decide +kernel
theorem dX8_readSigned_26 : decode cX8_readSigned 26 = .ok (.iload_n 3, 1) := by decide +kernel
theorem dX8_readSigned_27 : decode cX8_readSigned 27 = .ok (.ineg, 1) := by decide +kernel
theorem dX8_readSigned_28 : decode cX8_readSigned 28 = .ok (.goto 4, 3) := by decide +kernel
theorem dX8_readSigned_31 : decode cX8_readSigned 31 = .ok (.iload_n 3, 1) := by decide +kernel
theorem dX8_readSigned_32 : decode cX8_readSigned 32 = .ok (.ireturn, 1) := by decide +kernel
theorem dX8_readPoint_0 : decode cX8_readPoint 0 = .ok (.aload_n 0, 1) := by decide +kernel
theorem dX8_readPoint_1 : decode cX8_readPoint 1 = .ok (.aload_n 0, 1) := by decide +kernel
theorem dX8_readPoint_2 : decode cX8_readPoint 2 = .ok (.getfield 340, 3) := by decide +kernel
theorem dX8_readPoint_5 : decode cX8_readPoint 5 = .ok (.ifCond .ne 20, 3) := by decide +kernel
theorem dX8_readPoint_8 : decode cX8_readPoint 8 = .ok (.aload_n 0, 1) := by decide +kernel
theorem dX8_readPoint_9 : decode cX8_readPoint 9 = .ok (.getfield 331, 3) := by decide +kernel
theorem dX8_readPoint_12 : decode cX8_readPoint 12 = .ok (.iconst 2, 1) := by decide +kernel
theorem dX8_readPoint_13 : decode cX8_readPoint 13 = .ok (.if_icmp .eq 12, 3) := by decide +kernel
theorem dX8_readPoint_16 : decode cX8_readPoint 16 = .ok (.aload_n 0, 1) := by decide +kernel
theorem dX8_readPoint_17 : decode cX8_readPoint 17 = .ok (.bipush 45, 2) := by decide +kernel
theorem dX8_readPoint_19 : decode cX8_readPoint 19 = .ok (.invokevirtual 362, 3) := by decide +kernel
theorem dX8_readPoint_22 : decode cX8_readPoint 22 = .ok (.ifCond .eq 7, 3) := by decide +kernel
theorem dX8_readPoint_25 : decode cX8_readPoint 25 = .ok (.iconst 1, 1) := by decide +kernel
theorem dX8_readPoint_26 : decode cX8_readPoint 26 = .ok (.goto 4, 3) := by decide +kernel
theorem dX8_readPoint_29 : decode cX8_readPoint 29 = .ok (.iconst 0, 1) := by decide +kernel
theorem dX8_readPoint_30 : decode cX8_readPoint 30 = .ok (.iconst 1, 1) := by decide +kernel
theorem dX8_readPoint_31 : decode cX8_readPoint 31 = .ok (.invokevirtual 365, 3) := by decide +kernel
theorem dX8_readPoint_34 : decode cX8_readPoint 34 = .ok (.aload_n 0, 1) := by decide +kernel
theorem dX8_readPoint_35 : decode cX8_readPoint 35 = .ok (.aload_n 0, 1) := by decide +kernel
theorem dX8_readPoint_36 : decode cX8_readPoint 36 = .ok (.getfield 340, 3) := by decide +kernel
theorem dX8_readPoint_39 : decode cX8_readPoint 39 = .ok (.ifCond .ne 21, 3) := by decide +kernel
theorem dX8_readPoint_42 : decode cX8_readPoint 42 = .ok (.aload_n 0, 1) := by decide +kernel
theorem dX8_readPoint_43 : decode cX8_readPoint 43 = .ok (.getfield 331, 3) := by decide +kernel
theorem dX8_readPoint_46 : decode cX8_readPoint 46 = .ok (.iconst 2, 1) := by decide +kernel
theorem dX8_readPoint_47 : decode cX8_readPoint 47 = .ok (.if_icmp .ne 13, 3) := by decide +kernel
theorem dX8_readPoint_50 : decode cX8_readPoint 50 = .ok (.aload_n 0, 1) := by decide +kernel
theorem dX8_readPoint_51 : decode cX8_readPoint 51 = .ok (.invokevirtual 373, 3) := by decide +kernel
theorem dX8_readPoint_54 : decode cX8_readPoint 54 = .ok (.sipush 1000, 3) := by decide +kernel
theorem dX8_readPoint_57 : decode cX8_readPoint 57 = .ok (.if_icmp .gt 7, 3) := by decide +kernel
theorem dX8_readPoint_60 : decode cX8_readPoint 60 = .ok (.iconst 1, 1) := by decide +kernel
theorem dX8_readPoint_61 : decode cX8_readPoint 61 = .ok (.goto 4, 3) := by decide +kernel
theorem dX8_readPoint_64 : decode cX8_readPoint 64 = .ok (.iconst 0, 1) := by decide +kernel
theorem dX8_readPoint_65 : decode cX8_readPoint 65 = .ok (.iconst 2, 1) := by decide +kernel
theorem dX8_readPoint_66 : decode cX8_readPoint 66 = .ok (.invokevirtual 365, 3) := by decide +kernel
theorem dX8_readPoint_69 : decode cX8_readPoint 69 = .ok (.aload_n 0, 1) := by decide +kernel
theorem dX8_readPoint_70 : decode cX8_readPoint 70 = .ok (.aload_n 0, 1) := by decide +kernel
theorem dX8_readPoint_71 : decode cX8_readPoint 71 = .ok (.getfield 340, 3) := by decide +kernel
theorem dX8_readPoint_74 : decode cX8_readPoint 74 = .ok (.ifCond .ne 14, 3) := by decide +kernel
theorem dX8_readPoint_77 : decode cX8_readPoint 77 = .ok (.aload_n 0, 1) := by decide +kernel
theorem dX8_readPoint_78 : decode cX8_readPoint 78 = .ok (.getfield 38, 3) := by decide +kernel
theorem dX8_readPoint_81 : decode cX8_readPoint 81 = .ok (.iconst 1, 1) := by decide +kernel
theorem dX8_readPoint_82 : decode cX8_readPoint 82 = .ok (.iaload, 1) := by decide +kernel
theorem dX8_readPoint_83 : decode cX8_readPoint 83 = .ok (.bipush 33, 2) := by decide +kernel
theorem dX8_readPoint_85 : decode cX8_readPoint 85 = .ok (.if_icmp .ge 7, 3) := by decide +kernel
theorem dX8_readPoint_88 : decode cX8_readPoint 88 = .ok (.iconst 1, 1) := by decide +kernel
theorem dX8_readPoint_89 : decode cX8_readPoint 89 = .ok (.goto 4, 3) := by decide +kernel
theorem dX8_readPoint_92 : decode cX8_readPoint 92 = .ok (.iconst 0, 1) := by decide +kernel
theorem dX8_readPoint_93 : decode cX8_readPoint 93 = .ok (.iconst 3, 1) := by decide +kernel
theorem dX8_readPoint_94 : decode cX8_readPoint 94 = .ok (.invokevirtual 365, 3) := by decide +kernel
theorem dX8_readPoint_97 : decode cX8_readPoint 97 = .ok (.aload_n 0, 1) := by decide +kernel
theorem dX8_readPoint_98 : decode cX8_readPoint 98 = .ok (.sipush 1000, 3) := by decide +kernel
theorem dX8_readPoint_101 : decode cX8_readPoint 101 = .ok (.invokevirtual 388, 3) := by decide +kernel
theorem dX8_readPoint_104 : decode cX8_readPoint 104 = .ok (.istore_n 1, 1) := by decide +kernel
theorem dX8_readPoint_105 : decode cX8_readPoint 105 = .ok (.aload_n 0, 1) := by decide +kernel
theorem dX8_readPoint_106 : decode cX8_readPoint 106 = .ok (.sipush 1000, 3) := by decide +kernel
theorem dX8_readPoint_109 : decode cX8_readPoint 109 = .ok (.invokevirtual 388, 3) := by decide +kernel
theorem dX8_readPoint_112 : decode cX8_readPoint 112 = .ok (.istore_n 2, 1) := by decide +kernel
theorem dX8_readPoint_113 : decode cX8_readPoint 113 = .ok (.aload_n 0, 1) := by decide +kernel
theorem dX8_readPoint_114 : decode cX8_readPoint 114 = .ok (.getfield 340, 3) := by decide +kernel
theorem dX8_readPoint_117 : decode cX8_readPoint 117 = .ok (.ifCond .ne 9, 3) := by decide +kernel
theorem dX8_readPoint_120 : decode cX8_readPoint 120 = .ok (.aload_n 0, 1) := by decide +kernel
theorem dX8_readPoint_121 : decode cX8_readPoint 121 = .ok (.iload_n 1, 1) := by decide +kernel
theorem dX8_readPoint_122 : decode cX8_readPoint 122 = .ok (.iload_n 2, 1) := by decide +kernel
theorem dX8_readPoint_123 : decode cX8_readPoint 123 = .ok (.invokevirtual 76, 3) := by decide +kernel
theorem dX8_readPoint_126 : decode cX8_readPoint 126 = .ok (.return_, 1) := by decide +kernel
theorem dX8_readPoints_0 : decode cX8_readPoints 0 = .ok (.aload_n 0, 1) := by decide +kernel
theorem dX8_readPoints_1 : decode cX8_readPoints 1 = .ok (.iload_n 1, 1) := by decide +kernel
theorem dX8_readPoints_2 : decode cX8_readPoints 2 = .ok (.invokevirtual 72, 3) := by decide +kernel
theorem dX8_readPoints_5 : decode cX8_readPoints 5 = .ok (.aload_n 0, 1) := by decide +kernel
theorem dX8_readPoints_6 : decode cX8_readPoints 6 = .ok (.invokevirtual 391, 3) := by decide +kernel
theorem dX8_readPoints_9 : decode cX8_readPoints 9 = .ok (.aload_n 0, 1) := by decide +kernel
theorem dX8_readPoints_10 : decode cX8_readPoints 10 = .ok (.bipush 44, 2) := by decide +kernel
theorem dX8_readPoints_12 : decode cX8_readPoints 12 = .ok (.invokevirtual 362, 3) := by decide +kernel
theorem dX8_readPoints_15 : decode cX8_readPoints 15 = .ok (.ifCond .eq 14, 3) := by decide +kernel
theorem dX8_readPoints_18 : decode cX8_readPoints 18 = .ok (.aload_n 0, 1) := by decide +kernel
theorem dX8_readPoints_19 : decode cX8_readPoints 19 = .ok (.invokevirtual 369, 3) := by decide +kernel
theorem dX8_readPoints_22 : decode cX8_readPoints 22 = .ok (.aload_n 0, 1) := by decide +kernel
theorem dX8_readPoints_23 : decode cX8_readPoints 23 = .ok (.invokevirtual 391, 3) := by decide +kernel
theorem dX8_readPoints_26 : decode cX8_readPoints 26 = .ok (.goto (-17), 3) := by decide +kernel
theorem dX8_readPoints_29 : decode cX8_readPoints 29 = .ok (.aload_n 0, 1) := by decide +kernel
theorem dX8_readPoints_30 : decode cX8_readPoints 30 = .ok (.aload_n 0, 1) := by decide +kernel
theorem dX8_readPoints_31 : decode cX8_readPoints 31 = .ok (.getfield 340, 3) := by decide +kernel
theorem dX8_readPoints_34 : decode cX8_readPoints 34 = .ok (.ifCond .ne 15, 3) := by decide +kernel
theorem dX8_readPoints_37 : decode cX8_readPoints 37 = .ok (.aload_n 0, 1) := by decide +kernel
theorem dX8_readPoints_38 : decode cX8_readPoints 38 = .ok (.getfield 38, 3) := by decide +kernel
theorem dX8_readPoints_41 : decode cX8_readPoints 41 = .ok (.iconst 1, 1) := by decide +kernel
theorem dX8_readPoints_42 : decode cX8_readPoints 42 = .ok (.iaload, 1) := by decide +kernel
theorem dX8_readPoints_43 : decode cX8_readPoints 43 = .ok (.iconst 2, 1) := by decide +kernel
theorem dX8_readPoints_44 : decode cX8_readPoints 44 = .ok (.iload_n 1, 1) := by decide +kernel
theorem dX8_readPoints_45 : decode cX8_readPoints 45 = .ok (.iadd, 1) := by decide +kernel
theorem dX8_readPoints_46 : decode cX8_readPoints 46 = .ok (.if_icmp .lt 7, 3) := by decide +kernel
theorem dX8_readPoints_49 : decode cX8_readPoints 49 = .ok (.iconst 1, 1) := by decide +kernel
theorem dX8_readPoints_50 : decode cX8_readPoints 50 = .ok (.goto 4, 3) := by decide +kernel
theorem dX8_readPoints_53 : decode cX8_readPoints 53 = .ok (.iconst 0, 1) := by decide +kernel
theorem dX8_readPoints_54 : decode cX8_readPoints 54 = .ok (.iconst 1, 1) := by decide +kernel
theorem dX8_readPoints_55 : decode cX8_readPoints 55 = .ok (.invokevirtual 365, 3) := by decide +kernel
theorem dX8_readPoints_58 : decode cX8_readPoints 58 = .ok (.return_, 1) := by decide +kernel
theorem dX8_isCoastHere_0 : decode cX8_isCoastHere 0 = .ok (.aload_n 0, 1) := by decide +kernel
theorem dX8_isCoastHere_1 : decode cX8_isCoastHere 1 = .ok (.ldc 46, 2) := by decide +kernel
theorem dX8_isCoastHere_3 : decode cX8_isCoastHere 3 = .ok (.invokevirtual 358, 3) := by decide +kernel
theorem dX8_isCoastHere_6 : decode cX8_isCoastHere 6 = .ok (.ifCond .ne 12, 3) := by decide +kernel
theorem dX8_isCoastHere_9 : decode cX8_isCoastHere 9 = .ok (.aload_n 0, 1) := by decide +kernel
theorem dX8_isCoastHere_10 : decode cX8_isCoastHere 10 = .ok (.ldc 66, 2) := by decide +kernel
theorem dX8_isCoastHere_12 : decode cX8_isCoastHere 12 = .ok (.invokevirtual 358, 3) := by decide +kernel
theorem dX8_isCoastHere_15 : decode cX8_isCoastHere 15 = .ok (.ifCond .eq 7, 3) := by decide +kernel
theorem dX8_isCoastHere_18 : decode cX8_isCoastHere 18 = .ok (.iconst 1, 1) := by decide +kernel
theorem dX8_isCoastHere_19 : decode cX8_isCoastHere 19 = .ok (.goto 4, 3) := by decide +kernel
theorem dX8_isCoastHere_22 : decode cX8_isCoastHere 22 = .ok (.iconst 0, 1) := by decide +kernel
theorem dX8_isCoastHere_23 : decode cX8_isCoastHere 23 = .ok (.ireturn, 1) := by decide +kernel
theorem dX8_readCoast_0 : decode cX8_readCoast 0 = .ok (.aload_n 0, 1) := by decide +kernel
theorem dX8_readCoast_1 : decode cX8_readCoast 1 = .ok (.aload_n 0, 1) := by decide +kernel
theorem dX8_readCoast_2 : decode cX8_readCoast 2 = .ok (.invokevirtual 394, 3) := by decide +kernel
theorem dX8_readCoast_5 : decode cX8_readCoast 5 = .ok (.iconst 1, 1) := by decide +kernel
theorem dX8_readCoast_6 : decode cX8_readCoast 6 = .ok (.invokevirtual 365, 3) := by decide +kernel
theorem dX8_readCoast_9 : decode cX8_readCoast 9 = .ok (.aload_n 0, 1) := by decide +kernel
theorem dX8_readCoast_10 : decode cX8_readCoast 10 = .ok (.ldc 66, 2) := by decide +kernel
theorem dX8_readCoast_12 : decode cX8_readCoast 12 = .ok (.invokevirtual 358, 3) := by decide +kernel
theorem dX8_readCoast_15 : decode cX8_readCoast 15 = .ok (.ifCond .eq 7, 3) := by decide +kernel
theorem dX8_readCoast_18 : decode cX8_readCoast 18 = .ok (.iconst 1, 1) := by decide +kernel
theorem dX8_readCoast_19 : decode cX8_readCoast 19 = .ok (.goto 4, 3) := by decide +kernel
theorem dX8_readCoast_22 : decode cX8_readCoast 22 = .ok (.iconst 0, 1) := by decide +kernel
theorem dX8_readCoast_23 : decode cX8_readCoast 23 = .ok (.istore_n 1, 1) := by decide +kernel
theorem dX8_readCoast_24 : decode cX8_readCoast 24 = .ok (.aload_n 0, 1) := by decide +kernel
theorem dX8_readCoast_25 : decode cX8_readCoast 25 = .ok (.invokevirtual 369, 3) := by decide +kernel
theorem dX8_readCoast_28 : decode cX8_readCoast 28 = .ok (.aload_n 0, 1) := by decide +kernel
theorem dX8_readCoast_29 : decode cX8_readCoast 29 = .ok (.iload_n 1, 1) := by decide +kernel
theorem dX8_readCoast_30 : decode cX8_readCoast 30 = .ok (.invokevirtual 397, 3) := by decide +kernel
theorem dX8_readCoast_33 : decode cX8_readCoast 33 = .ok (.return_, 1) := by decide +kernel
theorem dX8_readMetric_0 : decode cX8_readMetric 0 = .ok (.aload_n 0, 1) := by decide +kernel
theorem dX8_readMetric_1 : decode cX8_readMetric 1 = .ok (.ldc_w 400, 3) := by decide +kernel
theorem dX8_readMetric_4 : decode cX8_readMetric 4 = .ok (.invokevirtual 358, 3) := by decide +kernel
theorem dX8_readMetric_7 : decode cX8_readMetric 7 = .ok (.istore_n 1, 1) := by decide +kernel
theorem dX8_readMetric_8 : decode cX8_readMetric 8 = .ok (.aload_n 0, 1) := by decide +kernel
theorem dX8_readMetric_9 : decode cX8_readMetric 9 = .ok (.iload_n 1, 1) := by decide +kernel
theorem dX8_readMetric_10 : decode cX8_readMetric 10 = .ok (.ifCond .ne 13, 3) := by decide +kernel
theorem dX8_readMetric_13 : decode cX8_readMetric 13 = .ok (.aload_n 0, 1) := by decide +kernel
theorem dX8_readMetric_14 : decode cX8_readMetric 14 = .ok (.ldc_w 402, 3) := by decide +kernel
theorem dX8_readMetric_17 : decode cX8_readMetric 17 = .ok (.invokevirtual 358, 3) := by decide +kernel
theorem dX8_readMetric_20 : decode cX8_readMetric 20 = .ok (.ifCond .eq 7, 3) := by decide +kernel
theorem dX8_readMetric_23 : decode cX8_readMetric 23 = .ok (.iconst 1, 1) := by decide +kernel
theorem dX8_readMetric_24 : decode cX8_readMetric 24 = .ok (.goto 4, 3) := by decide +kernel
theorem dX8_readMetric_27 : decode cX8_readMetric 27 = .ok (.iconst 0, 1) := by decide +kernel
theorem dX8_readMetric_28 : decode cX8_readMetric 28 = .ok (.iconst 1, 1) := by decide +kernel
theorem dX8_readMetric_29 : decode cX8_readMetric 29 = .ok (.invokevirtual 365, 3) := by decide +kernel
theorem dX8_readMetric_32 : decode cX8_readMetric 32 = .ok (.aload_n 0, 1) := by decide +kernel
theorem dX8_readMetric_33 : decode cX8_readMetric 33 = .ok (.invokevirtual 369, 3) := by decide +kernel
theorem dX8_readMetric_36 : decode cX8_readMetric 36 = .ok (.iload_n 1, 1) := by decide +kernel
theorem dX8_readMetric_37 : decode cX8_readMetric 37 = .ok (.ireturn, 1) := by decide +kernel
theorem dX8_readMap_0 : decode cX8_readMap 0 = .ok (.aload_n 0, 1) := by decide +kernel
theorem dX8_readMap_1 : decode cX8_readMap 1 = .ok (.aload_n 0, 1) := by decide +kernel
theorem dX8_readMap_2 : decode cX8_readMap 2 = .ok (.ldc_w 404, 3) := by decide +kernel
theorem dX8_readMap_5 : decode cX8_readMap 5 = .ok (.invokevirtual 358, 3) := by decide +kernel
theorem dX8_readMap_8 : decode cX8_readMap 8 = .ok (.iconst 1, 1) := by decide +kernel
theorem dX8_readMap_9 : decode cX8_readMap 9 = .ok (.invokevirtual 365, 3) := by decide +kernel
theorem dX8_readMap_12 : decode cX8_readMap 12 = .ok (.aload_n 0, 1) := by decide +kernel
theorem dX8_readMap_13 : decode cX8_readMap 13 = .ok (.invokevirtual 369, 3) := by decide +kernel
theorem dX8_readMap_16 : decode cX8_readMap 16 = .ok (.aload_n 0, 1) := by decide +kernel
theorem dX8_readMap_17 : decode cX8_readMap 17 = .ok (.invokevirtual 406, 3) := by decide +kernel
theorem dX8_readMap_20 : decode cX8_readMap 20 = .ok (.istore_n 1, 1) := by decide +kernel
theorem dX8_readMap_21 : decode cX8_readMap 21 = .ok (.aload_n 0, 1) := by decide +kernel
theorem dX8_readMap_22 : decode cX8_readMap 22 = .ok (.bipush 59, 2) := by decide +kernel
theorem dX8_readMap_24 : decode cX8_readMap 24 = .ok (.invokevirtual 409, 3) := by decide +kernel
theorem dX8_readMap_27 : decode cX8_readMap 27 = .ok (.aload_n 0, 1) := by decide +kernel
theorem dX8_readMap_28 : decode cX8_readMap 28 = .ok (.getfield 25, 3) := by decide +kernel
theorem dX8_readMap_31 : decode cX8_readMap 31 = .ok (.iconst 1, 1) := by decide +kernel
theorem dX8_readMap_32 : decode cX8_readMap 32 = .ok (.iconst 0, 1) := by decide +kernel
theorem dX8_readMap_33 : decode cX8_readMap 33 = .ok (.iastore, 1) := by decide +kernel
theorem dX8_readMap_34 : decode cX8_readMap 34 = .ok (.aload_n 0, 1) := by decide +kernel
theorem dX8_readMap_35 : decode cX8_readMap 35 = .ok (.iload_n 1, 1) := by decide +kernel
theorem dX8_readMap_36 : decode cX8_readMap 36 = .ok (.invokevirtual 296, 3) := by decide +kernel
theorem dX8_readMap_39 : decode cX8_readMap 39 = .ok (.aload_n 0, 1) := by decide +kernel
theorem dX8_readMap_40 : decode cX8_readMap 40 = .ok (.getfield 340, 3) := by decide +kernel
theorem dX8_readMap_43 : decode cX8_readMap 43 = .ok (.ifCond .ne 78, 3) := by decide +kernel
theorem dX8_readMap_46 : decode cX8_readMap 46 = .ok (.aload_n 0, 1) := by decide +kernel
theorem dX8_readMap_47 : decode cX8_readMap 47 = .ok (.getfield 331, 3) := by decide +kernel
theorem dX8_readMap_50 : decode cX8_readMap 50 = .ok (.ifCond .eq 71, 3) := by decide +kernel
theorem dX8_readMap_53 : decode cX8_readMap 53 = .ok (.aload_n 0, 1) := by decide +kernel
theorem dX8_readMap_54 : decode cX8_readMap 54 = .ok (.aload_n 0, 1) := by decide +kernel
theorem dX8_readMap_55 : decode cX8_readMap 55 = .ok (.invokevirtual 394, 3) := by decide +kernel
theorem dX8_readMap_58 : decode cX8_readMap 58 = .ok (.iconst 1, 1) := by decide +kernel
theorem dX8_readMap_59 : decode cX8_readMap 59 = .ok (.invokevirtual 365, 3) := by decide +kernel
theorem dX8_readMap_62 : decode cX8_readMap 62 = .ok (.aload_n 0, 1) := by decide +kernel
theorem dX8_readMap_63 : decode cX8_readMap 63 = .ok (.aload_n 0, 1) := by decide +kernel
theorem dX8_readMap_64 : decode cX8_readMap 64 = .ok (.getfield 340, 3) := by decide +kernel
theorem dX8_readMap_67 : decode cX8_readMap 67 = .ok (.ifCond .ne 14, 3) := by decide +kernel
theorem dX8_readMap_70 : decode cX8_readMap 70 = .ok (.aload_n 0, 1) := by decide +kernel
theorem dX8_readMap_71 : decode cX8_readMap 71 = .ok (.getfield 25, 3) := by decide +kernel
theorem dX8_readMap_74 : decode cX8_readMap 74 = .ok (.iconst 1, 1) := by decide +kernel
theorem dX8_readMap_75 : decode cX8_readMap 75 = .ok (.iaload, 1) := by decide +kernel
theorem dX8_readMap_76 : decode cX8_readMap 76 = .ok (.bipush 6, 2) := by decide +kernel
theorem dX8_readMap_78 : decode cX8_readMap 78 = .ok (.if_icmp .ge 7, 3) := by decide +kernel
theorem dX8_readMap_81 : decode cX8_readMap 81 = .ok (.iconst 1, 1) := by decide +kernel
theorem dX8_readMap_82 : decode cX8_readMap 82 = .ok (.goto 4, 3) := by decide +kernel
theorem dX8_readMap_85 : decode cX8_readMap 85 = .ok (.iconst 0, 1) := by decide +kernel
theorem dX8_readMap_86 : decode cX8_readMap 86 = .ok (.iconst 3, 1) := by decide +kernel
theorem dX8_readMap_87 : decode cX8_readMap 87 = .ok (.invokevirtual 365, 3) := by decide +kernel
theorem dX8_readMap_90 : decode cX8_readMap 90 = .ok (.aload_n 0, 1) := by decide +kernel
theorem dX8_readMap_91 : decode cX8_readMap 91 = .ok (.getfield 340, 3) := by decide +kernel
theorem dX8_readMap_94 : decode cX8_readMap 94 = .ok (.ifCond .ne 13, 3) := by decide +kernel
theorem dX8_readMap_97 : decode cX8_readMap 97 = .ok (.aload_n 0, 1) := by decide +kernel
theorem dX8_readMap_98 : decode cX8_readMap 98 = .ok (.invokevirtual 412, 3) := by decide +kernel
theorem dX8_readMap_101 : decode cX8_readMap 101 = .ok (.aload_n 0, 1) := by decide +kernel
theorem dX8_readMap_102 : decode cX8_readMap 102 = .ok (.bipush 59, 2) := by decide +kernel
theorem dX8_readMap_104 : decode cX8_readMap 104 = .ok (.invokevirtual 409, 3) := by decide +kernel
theorem dX8_readMap_107 : decode cX8_readMap 107 = .ok (.aload_n 0, 1) := by decide +kernel
theorem dX8_readMap_108 : decode cX8_readMap 108 = .ok (.getfield 340, 3) := by decide +kernel
theorem dX8_readMap_111 : decode cX8_readMap 111 = .ok (.ifCond .ne (-72), 3) := by decide +kernel
theorem dX8_readMap_114 : decode cX8_readMap 114 = .ok (.aload_n 0, 1) := by decide +kernel
theorem dX8_readMap_115 : decode cX8_readMap 115 = .ok (.invokevirtual 80, 3) := by decide +kernel
theorem dX8_readMap_118 : decode cX8_readMap 118 = .ok (.goto (-79), 3) := by decide +kernel
theorem dX8_readMap_121 : decode cX8_readMap 121 = .ok (.return_, 1) := by decide +kernel
theorem dX8_isLength_0 : decode cX8_isLength 0 = .ok (.iload_n 1, 1) := by decide +kernel
theorem dX8_isLength_1 : decode cX8_isLength 1 = .ok (.iconst 0, 1) := by decide +kernel
theorem dX8_isLength_2 : decode cX8_isLength 2 = .ok (.aload_n 0, 1) := by decide +kernel
theorem dX8_isLength_3 : decode cX8_isLength 3 = .ok (.getfield 316, 3) := by decide +kernel
theorem dX8_isLength_6 : decode cX8_isLength 6 = .ok (.invokestatic 93, 3) := by decide +kernel
theorem dX8_isLength_9 : decode cX8_isLength 9 = .ok (.ireturn, 1) := by decide +kernel
theorem dX8_loadMap_0 : decode cX8_loadMap 0 = .ok (.aload_n 0, 1) := by decide +kernel
theorem dX8_loadMap_1 : decode cX8_loadMap 1 = .ok (.aload_n 0, 1) := by decide +kernel
theorem dX8_loadMap_2 : decode cX8_loadMap 2 = .ok (.iload_n 1, 1) := by decide +kernel
theorem dX8_loadMap_3 : decode cX8_loadMap 3 = .ok (.invokevirtual 415, 3) := by decide +kernel
theorem dX8_loadMap_6 : decode cX8_loadMap 6 = .ok (.invokevirtual 89, 3) := by decide +kernel
theorem dX8_loadMap_9 : decode cX8_loadMap 9 = .ok (.ifCond .eq 5, 3) := by decide +kernel
theorem dX8_loadMap_12 : decode cX8_loadMap 12 = .ok (.iconst 0, 1) := by decide +kernel
theorem dX8_loadMap_13 : decode cX8_loadMap 13 = .ok (.ireturn, 1) := by decide +kernel
theorem dX8_loadMap_14 : decode cX8_loadMap 14 = .ok (.aload_n 0, 1) := by decide +kernel
theorem dX8_loadMap_15 : decode cX8_loadMap 15 = .ok (.iload_n 1, 1) := by decide +kernel
theorem dX8_loadMap_16 : decode cX8_loadMap 16 = .ok (.invokevirtual 418, 3) := by decide +kernel
theorem dX8_loadMap_19 : decode cX8_loadMap 19 = .ok (.aload_n 0, 1) := by decide +kernel
theorem dX8_loadMap_20 : decode cX8_loadMap 20 = .ok (.aload_n 0, 1) := by decide +kernel
theorem dX8_loadMap_21 : decode cX8_loadMap 21 = .ok (.getfield 13, 3) := by decide +kernel
theorem dX8_loadMap_24 : decode cX8_loadMap 24 = .ok (.putfield 25, 3) := by decide +kernel
theorem dX8_loadMap_27 : decode cX8_loadMap 27 = .ok (.aload_n 0, 1) := by decide +kernel
theorem dX8_loadMap_28 : decode cX8_loadMap 28 = .ok (.invokevirtual 421, 3) := by decide +kernel
theorem dX8_loadMap_31 : decode cX8_loadMap 31 = .ok (.aload_n 0, 1) := by decide +kernel
theorem dX8_loadMap_32 : decode cX8_loadMap 32 = .ok (.invokevirtual 83, 3) := by decide +kernel
theorem dX8_loadMap_35 : decode cX8_loadMap 35 = .ok (.aload_n 0, 1) := by decide +kernel
theorem dX8_loadMap_36 : decode cX8_loadMap 36 = .ok (.aload_n 0, 1) := by decide +kernel
theorem dX8_loadMap_37 : decode cX8_loadMap 37 = .ok (.getfield 9, 3) := by decide +kernel
theorem dX8_loadMap_40 : decode cX8_loadMap 40 = .ok (.putfield 25, 3) := by decide +kernel
theorem dX8_loadMap_43 : decode cX8_loadMap 43 = .ok (.aload_n 0, 1) := by decide +kernel
theorem dX8_loadMap_44 : decode cX8_loadMap 44 = .ok (.invokevirtual 424, 3) := by decide +kernel
theorem dX8_loadMap_47 : decode cX8_loadMap 47 = .ok (.ifCond .eq 5, 3) := by decide +kernel
theorem dX8_loadMap_50 : decode cX8_loadMap 50 = .ok (.iconst (-1), 1) := by decide +kernel
theorem dX8_loadMap_51 : decode cX8_loadMap 51 = .ok (.ireturn, 1) := by decide +kernel
theorem dX8_loadMap_52 : decode cX8_loadMap 52 = .ok (.aload_n 0, 1) := by decide +kernel
theorem dX8_loadMap_53 : decode cX8_loadMap 53 = .ok (.getfield 13, 3) := by decide +kernel
theorem dX8_loadMap_56 : decode cX8_loadMap 56 = .ok (.iconst 0, 1) := by decide +kernel
theorem dX8_loadMap_57 : decode cX8_loadMap 57 = .ok (.aload_n 0, 1) := by decide +kernel
theorem dX8_loadMap_58 : decode cX8_loadMap 58 = .ok (.getfield 9, 3) := by decide +kernel
theorem dX8_loadMap_61 : decode cX8_loadMap 61 = .ok (.iconst 0, 1) := by decide +kernel
theorem dX8_loadMap_62 : decode cX8_loadMap 62 = .ok (.invokestatic 253, 3) := by decide +kernel
theorem dX8_loadMap_65 : decode cX8_loadMap 65 = .ok (.aload_n 0, 1) := by decide +kernel
theorem dX8_loadMap_66 : decode cX8_loadMap 66 = .ok (.iconst 0, 1) := by decide +kernel
theorem dX8_loadMap_67 : decode cX8_loadMap 67 = .ok (.putfield 257, 3) := by decide +kernel
theorem dX8_loadMap_70 : decode cX8_loadMap 70 = .ok (.aload_n 0, 1) := by decide +kernel
theorem dX8_loadMap_71 : decode cX8_loadMap 71 = .ok (.iconst 0, 1) := by decide +kernel
theorem dX8_loadMap_72 : decode cX8_loadMap 72 = .ok (.putfield 312, 3) := by decide +kernel
theorem dX8_loadMap_75 : decode cX8_loadMap 75 = .ok (.aload_n 0, 1) := by decide +kernel
theorem dX8_loadMap_76 : decode cX8_loadMap 76 = .ok (.getfield 25, 3) := by decide +kernel
theorem dX8_loadMap_79 : decode cX8_loadMap 79 = .ok (.iconst 1, 1) := by decide +kernel
theorem dX8_loadMap_80 : decode cX8_loadMap 80 = .ok (.iaload, 1) := by decide +kernel
theorem dX8_loadMap_81 : decode cX8_loadMap 81 = .ok (.ireturn, 1) := by decide +kernel
theorem dX8_doAdd_0 : decode cX8_doAdd 0 = .ok (.aload_n 0, 1) := by decide +kernel
theorem dX8_doAdd_1 : decode cX8_doAdd 1 = .ok (.getfield 25, 3) := by decide +kernel
theorem dX8_doAdd_4 : decode cX8_doAdd 4 = .ok (.iconst 1, 1) := by decide +kernel
theorem dX8_doAdd_5 : decode cX8_doAdd 5 = .ok (.iaload, 1) := by decide +kernel
theorem dX8_doAdd_6 : decode cX8_doAdd 6 = .ok (.bipush 6, 2) := by decide +kernel
theorem dX8_doAdd_8 : decode cX8_doAdd 8 = .ok (.if_icmp .ne 5, 3) := by decide +kernel
theorem dX8_doAdd_11 : decode cX8_doAdd 11 = .ok (.iconst 2, 1) := by decide +kernel
theorem dX8_doAdd_12 : decode cX8_doAdd 12 = .ok (.ireturn, 1) := by decide +kernel
theorem dX8_doAdd_13 : decode cX8_doAdd 13 = .ok (.aload_n 0, 1) := by decide +kernel
theorem dX8_doAdd_14 : decode cX8_doAdd 14 = .ok (.getfield 25, 3) := by decide +kernel
theorem dX8_doAdd_17 : decode cX8_doAdd 17 = .ok (.iconst 3, 1) := by decide +kernel
theorem dX8_doAdd_18 : decode cX8_doAdd 18 = .ok (.dup2, 1) := by decide +kernel
theorem dX8_doAdd_19 : decode cX8_doAdd 19 = .ok (.iaload, 1) := by decide +kernel
theorem dX8_doAdd_20 : decode cX8_doAdd 20 = .ok (.aload_n 0, 1) := by decide +kernel
theorem dX8_doAdd_21 : decode cX8_doAdd 21 = .ok (.getfield 38, 3) := by decide +kernel
theorem dX8_doAdd_24 : decode cX8_doAdd 24 = .ok (.iconst 1, 1) := by decide +kernel
theorem dX8_doAdd_25 : decode cX8_doAdd 25 = .ok (.iaload, 1) := by decide +kernel
theorem dX8_doAdd_26 : decode cX8_doAdd 26 = .ok (.iadd, 1) := by decide +kernel
theorem dX8_doAdd_27 : decode cX8_doAdd 27 = .ok (.iastore, 1) := by decide +kernel
theorem dX8_doAdd_28 : decode cX8_doAdd 28 = .ok (.aload_n 0, 1) := by decide +kernel
theorem dX8_doAdd_29 : decode cX8_doAdd 29 = .ok (.invokevirtual 80, 3) := by decide +kernel
theorem dX8_doAdd_32 : decode cX8_doAdd 32 = .ok (.iconst 0, 1) := by decide +kernel
theorem dX8_doAdd_33 : decode cX8_doAdd 33 = .ok (.ireturn, 1) := by decide +kernel
theorem dX8_addCoast_0 : decode cX8_addCoast 0 = .ok (.aload_n 0, 1) := by decide +kernel
theorem dX8_addCoast_1 : decode cX8_addCoast 1 = .ok (.aload_n 0, 1) := by decide +kernel
theorem dX8_addCoast_2 : decode cX8_addCoast 2 = .ok (.iload_n 1, 1) := by decide +kernel
theorem dX8_addCoast_3 : decode cX8_addCoast 3 = .ok (.invokevirtual 415, 3) := by decide +kernel
theorem dX8_addCoast_6 : decode cX8_addCoast 6 = .ok (.aload_n 0, 1) := by decide +kernel
theorem dX8_addCoast_7 : decode cX8_addCoast 7 = .ok (.getfield 25, 3) := by decide +kernel
theorem dX8_addCoast_10 : decode cX8_addCoast 10 = .ok (.iconst 1, 1) := by decide +kernel
theorem dX8_addCoast_11 : decode cX8_addCoast 11 = .ok (.iaload, 1) := by decide +kernel
theorem dX8_addCoast_12 : decode cX8_addCoast 12 = .ok (.bipush 6, 2) := by decide +kernel
theorem dX8_addCoast_14 : decode cX8_addCoast 14 = .ok (.if_icmp .ge 7, 3) := by decide +kernel
theorem dX8_addCoast_17 : decode cX8_addCoast 17 = .ok (.iconst 1, 1) := by decide +kernel
theorem dX8_addCoast_18 : decode cX8_addCoast 18 = .ok (.goto 4, 3) := by decide +kernel
theorem dX8_addCoast_21 : decode cX8_addCoast 21 = .ok (.iconst 0, 1) := by decide +kernel
theorem dX8_addCoast_22 : decode cX8_addCoast 22 = .ok (.invokevirtual 165, 3) := by decide +kernel
theorem dX8_addCoast_25 : decode cX8_addCoast 25 = .ok (.ifCond .eq 5, 3) := by decide +kernel
theorem dX8_addCoast_28 : decode cX8_addCoast 28 = .ok (.iconst 0, 1) := by decide +kernel
theorem dX8_addCoast_29 : decode cX8_addCoast 29 = .ok (.ireturn, 1) := by decide +kernel
theorem dX8_addCoast_30 : decode cX8_addCoast 30 = .ok (.aload_n 0, 1) := by decide +kernel
theorem dX8_addCoast_31 : decode cX8_addCoast 31 = .ok (.iload_n 1, 1) := by decide +kernel
theorem dX8_addCoast_32 : decode cX8_addCoast 32 = .ok (.invokevirtual 418, 3) := by decide +kernel
theorem dX8_addCoast_35 : decode cX8_addCoast 35 = .ok (.aload_n 0, 1) := by decide +kernel
theorem dX8_addCoast_36 : decode cX8_addCoast 36 = .ok (.invokevirtual 412, 3) := by decide +kernel
theorem dX8_addCoast_39 : decode cX8_addCoast 39 = .ok (.aload_n 0, 1) := by decide +kernel
theorem dX8_addCoast_40 : decode cX8_addCoast 40 = .ok (.aload_n 0, 1) := by decide +kernel
theorem dX8_addCoast_41 : decode cX8_addCoast 41 = .ok (.getfield 340, 3) := by decide +kernel
theorem dX8_addCoast_44 : decode cX8_addCoast 44 = .ok (.ifCond .ne 10, 3) := by decide +kernel
theorem dX8_addCoast_47 : decode cX8_addCoast 47 = .ok (.aload_n 0, 1) := by decide +kernel
theorem dX8_addCoast_48 : decode cX8_addCoast 48 = .ok (.getfield 331, 3) := by decide +kernel
theorem dX8_addCoast_51 : decode cX8_addCoast 51 = .ok (.ifCond .ne 7, 3) := by decide +kernel
theorem dX8_addCoast_54 : decode cX8_addCoast 54 = .ok (.iconst 1, 1) := by decide +kernel
theorem dX8_addCoast_55 : decode cX8_addCoast 55 = .ok (.goto 4, 3) := by decide +kernel
theorem dX8_addCoast_58 : decode cX8_addCoast 58 = .ok (.iconst 0, 1) := by decide +kernel
theorem dX8_addCoast_59 : decode cX8_addCoast 59 = .ok (.iconst 1, 1) := by decide +kernel
theorem dX8_addCoast_60 : decode cX8_addCoast 60 = .ok (.invokevirtual 365, 3) := by decide +kernel
theorem dX8_addCoast_63 : decode cX8_addCoast 63 = .ok (.aload_n 0, 1) := by decide +kernel
theorem dX8_addCoast_64 : decode cX8_addCoast 64 = .ok (.invokevirtual 424, 3) := by decide +kernel
theorem dX8_addCoast_67 : decode cX8_addCoast 67 = .ok (.ifCond .eq 5, 3) := by decide +kernel
theorem dX8_addCoast_70 : decode cX8_addCoast 70 = .ok (.iconst (-1), 1) := by decide +kernel
theorem dX8_addCoast_71 : decode cX8_addCoast 71 = .ok (.ireturn, 1) := by decide +kernel
theorem dX8_addCoast_72 : decode cX8_addCoast 72 = .ok (.aload_n 0, 1) := by decide +kernel
theorem dX8_addCoast_73 : decode cX8_addCoast 73 = .ok (.invokevirtual 263, 3) := by decide +kernel
theorem dX8_addCoast_76 : decode cX8_addCoast 76 = .ok (.aload_n 0, 1) := by decide +kernel
theorem dX8_addCoast_77 : decode cX8_addCoast 77 = .ok (.aload_n 0, 1) := by decide +kernel
theorem dX8_addCoast_78 : decode cX8_addCoast 78 = .ok (.invokevirtual 427, 3) := by decide +kernel
theorem dX8_addCoast_81 : decode cX8_addCoast 81 = .ok (.invokevirtual 269, 3) := by decide +kernel
theorem dX8_addCoast_84 : decode cX8_addCoast 84 = .ok (.ifCond .eq 7, 3) := by decide +kernel
theorem dX8_addCoast_87 : decode cX8_addCoast 87 = .ok (.iconst 0, 1) := by decide +kernel
theorem dX8_addCoast_88 : decode cX8_addCoast 88 = .ok (.goto 11, 3) := by decide +kernel
theorem dX8_addCoast_91 : decode cX8_addCoast 91 = .ok (.aload_n 0, 1) := by decide +kernel
theorem dX8_addCoast_92 : decode cX8_addCoast 92 = .ok (.getfield 25, 3) := by decide +kernel
theorem dX8_addCoast_95 : decode cX8_addCoast 95 = .ok (.iconst 1, 1) := by decide +kernel
theorem dX8_addCoast_96 : decode cX8_addCoast 96 = .ok (.iaload, 1) := by decide +kernel
theorem dX8_addCoast_97 : decode cX8_addCoast 97 = .ok (.iconst 1, 1) := by decide +kernel
theorem dX8_addCoast_98 : decode cX8_addCoast 98 = .ok (.isub, 1) := by decide +kernel
theorem dX8_addCoast_99 : decode cX8_addCoast 99 = .ok (.ireturn, 1) := by decide +kernel
theorem dX8_orderHere_0 : decode cX8_orderHere 0 = .ok (.iconst 0, 1) := by decide +kernel
theorem dX8_orderHere_1 : decode cX8_orderHere 1 = .ok (.istore_n 1, 1) := by decide +kernel
theorem dX8_orderHere_2 : decode cX8_orderHere 2 = .ok (.iload_n 1, 1) := by decide +kernel
theorem dX8_orderHere_3 : decode cX8_orderHere 3 = .ok (.aload_n 0, 1) := by decide +kernel
theorem dX8_orderHere_4 : decode cX8_orderHere 4 = .ok (.getfield 68, 3) := by decide +kernel
theorem dX8_orderHere_7 : decode cX8_orderHere 7 = .ok (.arraylength, 1) := by decide +kernel
theorem dX8_orderHere_8 : decode cX8_orderHere 8 = .ok (.if_icmp .ge 34, 3) := by decide +kernel
theorem dX8_orderHere_11 : decode cX8_orderHere 11 = .ok (.aload_n 0, 1) := by decide +kernel
theorem dX8_orderHere_12 : decode cX8_orderHere 12 = .ok (.aload_n 0, 1) := by decide +kernel
theorem dX8_orderHere_13 : decode cX8_orderHere 13 = .ok (.getfield 68, 3) := by decide +kernel
theorem dX8_orderHere_16 : decode cX8_orderHere 16 = .ok (.iload_n 1, 1) := by decide +kernel
theorem dX8_orderHere_17 : decode cX8_orderHere 17 = .ok (.aaload, 1) := by decide +kernel
theorem dX8_orderHere_18 : decode cX8_orderHere 18 = .ok (.invokevirtual 358, 3) := by decide +kernel
theorem dX8_orderHere_21 : decode cX8_orderHere 21 = .ok (.ifCond .eq 15, 3) := by decide +kernel
theorem dX8_orderHere_24 : decode cX8_orderHere 24 = .ok (.iload_n 1, 1) := by decide +kernel
theorem dX8_orderHere_25 : decode cX8_orderHere 25 = .ok (.bipush 9, 2) := by decide +kernel
theorem dX8_orderHere_27 : decode cX8_orderHere 27 = .ok (.if_icmp .le 7, 3) := by decide +kernel
theorem dX8_orderHere_30 : decode cX8_orderHere 30 = .ok (.iconst 0, 1) := by decide +kernel
theorem dX8_orderHere_31 : decode cX8_orderHere 31 = .ok (.goto 4, 3) := by decide +kernel
theorem dX8_orderHere_34 : decode cX8_orderHere 34 = .ok (.iload_n 1, 1) := by decide +kernel
theorem dX8_orderHere_35 : decode cX8_orderHere 35 = .ok (.ireturn, 1) := by decide +kernel
theorem dX8_orderHere_36 : decode cX8_orderHere 36 = .ok (.iinc 1 1, 3) := by decide +kernel
theorem dX8_orderHere_39 : decode cX8_orderHere 39 = .ok (.goto (-37), 3) := by decide +kernel
theorem dX8_orderHere_42 : decode cX8_orderHere 42 = .ok (.iconst (-1), 1) := by decide +kernel
theorem dX8_orderHere_43 : decode cX8_orderHere 43 = .ok (.ireturn, 1) := by decide +kernel
theorem dX8_readNumbers_0 : decode cX8_readNumbers 0 = .ok (.aload_n 0, 1) := by decide +kernel
theorem dX8_readNumbers_1 : decode cX8_readNumbers 1 = .ok (.getfield 41, 3) := by decide +kernel
theorem dX8_readNumbers_4 : decode cX8_readNumbers 4 = .ok (.iload_n 1, 1) := by decide +kernel
theorem dX8_readNumbers_5 : decode cX8_readNumbers 5 = .ok (.iconst 1, 1) := by decide +kernel
theorem dX8_readNumbers_6 : decode cX8_readNumbers 6 = .ok (.iadd, 1) := by decide +kernel
theorem dX8_readNumbers_7 : decode cX8_readNumbers 7 = .ok (.aload_n 0, 1) := by decide +kernel
theorem dX8_readNumbers_8 : decode cX8_readNumbers 8 = .ok (.iconst 0, 1) := by decide +kernel
theorem dX8_readNumbers_9 : decode cX8_readNumbers 9 = .ok (.iconst 5, 1) := by decide +kernel
theorem dX8_readNumbers_10 : decode cX8_readNumbers 10 = .ok (.invokevirtual 385, 3) := by decide +kernel
theorem dX8_readNumbers_13 : decode cX8_readNumbers 13 = .ok (.iastore, 1) := by decide +kernel
theorem dX8_readNumbers_14 : decode cX8_readNumbers 14 = .ok (.iload_n 2, 1) := by decide +kernel
theorem dX8_readNumbers_15 : decode cX8_readNumbers 15 = .ok (.iconst 3, 1) := by decide +kernel
theorem dX8_readNumbers_16 : decode cX8_readNumbers 16 = .ok (.if_icmp .eq 13, 3) := by decide +kernel
theorem dX8_readNumbers_19 : decode cX8_readNumbers 19 = .ok (.iload_n 2, 1) := by decide +kernel
theorem dX8_readNumbers_20 : decode cX8_readNumbers 20 = .ok (.iconst 4, 1) := by decide +kernel
theorem dX8_readNumbers_21 : decode cX8_readNumbers 21 = .ok (.if_icmp .eq 8, 3) := by decide +kernel
theorem dX8_readNumbers_24 : decode cX8_readNumbers 24 = .ok (.iload_n 2, 1) := by decide +kernel
theorem dX8_readNumbers_25 : decode cX8_readNumbers 25 = .ok (.iconst 5, 1) := by decide +kernel
theorem dX8_readNumbers_26 : decode cX8_readNumbers 26 = .ok (.if_icmp .ne 7, 3) := by decide +kernel
theorem dX8_readNumbers_29 : decode cX8_readNumbers 29 = .ok (.iconst 1, 1) := by decide +kernel
theorem dX8_readNumbers_30 : decode cX8_readNumbers 30 = .ok (.goto 4, 3) := by decide +kernel
theorem dX8_readNumbers_33 : decode cX8_readNumbers 33 = .ok (.iconst 0, 1) := by decide +kernel
theorem dX8_readNumbers_34 : decode cX8_readNumbers 34 = .ok (.istore_n 3, 1) := by decide +kernel
theorem dX8_readNumbers_35 : decode cX8_readNumbers 35 = .ok (.aload_n 0, 1) := by decide +kernel
theorem dX8_readNumbers_36 : decode cX8_readNumbers 36 = .ok (.getfield 41, 3) := by decide +kernel
theorem dX8_readNumbers_39 : decode cX8_readNumbers 39 = .ok (.iload_n 1, 1) := by decide +kernel
theorem dX8_readNumbers_40 : decode cX8_readNumbers 40 = .ok (.iconst 2, 1) := by decide +kernel
theorem dX8_readNumbers_41 : decode cX8_readNumbers 41 = .ok (.iadd, 1) := by decide +kernel
theorem dX8_readNumbers_42 : decode cX8_readNumbers 42 = .ok (.iload_n 3, 1) := by decide +kernel
theorem dX8_readNumbers_43 : decode cX8_readNumbers 43 = .ok (.ifCond .eq 14, 3) := by decide +kernel
theorem dX8_readNumbers_46 : decode cX8_readNumbers 46 = .ok (.aload_n 0, 1) := by decide +kernel
theorem dX8_readNumbers_47 : decode cX8_readNumbers 47 = .ok (.iconst 0, 1) := by decide +kernel
theorem dX8_readNumbers_48 : decode cX8_readNumbers 48 = .ok (.sipush 128, 3) := by decide +kernel
theorem dX8_readNumbers_51 : decode cX8_readNumbers 51 = .ok (.invokevirtual 385, 3) := by decide +kernel
theorem dX8_readNumbers_54 : decode cX8_readNumbers 54 = .ok (.goto 18, 3) := by decide +kernel
theorem dX8_readNumbers_57 : decode cX8_readNumbers 57 = .ok (.iload_n 2, 1) := by decide +kernel
theorem dX8_readNumbers_58 : decode cX8_readNumbers 58 = .ok (.iconst 1, 1) := by decide +kernel
theorem dX8_readNumbers_59 : decode cX8_readNumbers 59 = .ok (.if_icmp .ne 12, 3) := by decide +kernel
theorem dX8_readNumbers_62 : decode cX8_readNumbers 62 = .ok (.aload_n 0, 1) := by decide +kernel
theorem dX8_readNumbers_63 : decode cX8_readNumbers 63 = .ok (.bipush 50, 2) := by decide +kernel
theorem dX8_readNumbers_65 : decode cX8_readNumbers 65 = .ok (.invokevirtual 388, 3) := by decide +kernel
theorem dX8_readNumbers_68 : decode cX8_readNumbers 68 = .ok (.goto 4, 3) := by decide +kernel
theorem dX8_readNumbers_71 : decode cX8_readNumbers 71 = .ok (.iconst 0, 1) := by decide +kernel
theorem dX8_readNumbers_72 : decode cX8_readNumbers 72 = .ok (.iastore, 1) := by decide +kernel
theorem dX8_readNumbers_73 : decode cX8_readNumbers 73 = .ok (.iload_n 2, 1) := by decide +kernel
theorem dX8_readNumbers_74 : decode cX8_readNumbers 74 = .ok (.bipush 6, 2) := by decide +kernel
theorem dX8_readNumbers_76 : decode cX8_readNumbers 76 = .ok (.if_icmp .ne 9, 3) := by decide +kernel
theorem dX8_readNumbers_79 : decode cX8_readNumbers 79 = .ok (.sipush 2000, 3) := by decide +kernel
theorem dX8_readNumbers_82 : decode cX8_readNumbers 82 = .ok (.goto 6, 3) := by decide +kernel
theorem dX8_readNumbers_85 : decode cX8_readNumbers 85 = .ok (.sipush 1000, 3) := by decide +kernel
theorem dX8_readNumbers_88 : decode cX8_readNumbers 88 = .ok (.istore 4, 2) := by decide +kernel
theorem dX8_readNumbers_90 : decode cX8_readNumbers 90 = .ok (.iload_n 2, 1) := by decide +kernel
theorem dX8_readNumbers_91 : decode cX8_readNumbers 91 = .ok (.iconst 3, 1) := by decide +kernel
theorem dX8_readNumbers_92 : decode cX8_readNumbers 92 = .ok (.if_icmp .eq 14, 3) := by decide +kernel
theorem dX8_readNumbers_95 : decode cX8_readNumbers 95 = .ok (.iload_n 2, 1) := by decide +kernel
theorem dX8_readNumbers_96 : decode cX8_readNumbers 96 = .ok (.iconst 4, 1) := by decide +kernel
theorem dX8_readNumbers_97 : decode cX8_readNumbers 97 = .ok (.if_icmp .eq 9, 3) := by decide +kernel
theorem dX8_readNumbers_100 : decode cX8_readNumbers 100 = .ok (.iload_n 2, 1) := by decide +kernel
theorem dX8_readNumbers_101 : decode cX8_readNumbers 101 = .ok (.bipush 6, 2) := by decide +kernel
theorem dX8_readNumbers_103 : decode cX8_readNumbers 103 = .ok (.if_icmp .ne 7, 3) := by decide +kernel
theorem dX8_readNumbers_106 : decode cX8_readNumbers 106 = .ok (.iconst 1, 1) := by decide +kernel
theorem dX8_readNumbers_107 : decode cX8_readNumbers 107 = .ok (.goto 4, 3) := by decide +kernel
theorem dX8_readNumbers_110 : decode cX8_readNumbers 110 = .ok (.iconst 0, 1) := by decide +kernel
theorem dX8_readNumbers_111 : decode cX8_readNumbers 111 = .ok (.istore 5, 2) := by decide +kernel
theorem dX8_readNumbers_113 : decode cX8_readNumbers 113 = .ok (.aload_n 0, 1) := by decide +kernel
theorem dX8_readNumbers_114 : decode cX8_readNumbers 114 = .ok (.getfield 41, 3) := by decide +kernel
theorem dX8_readNumbers_117 : decode cX8_readNumbers 117 = .ok (.iload_n 1, 1) := by decide +kernel
theorem dX8_readNumbers_118 : decode cX8_readNumbers 118 = .ok (.iconst 3, 1) := by decide +kernel
theorem dX8_readNumbers_119 : decode cX8_readNumbers 119 = .ok (.iadd, 1) := by decide +kernel
theorem dX8_readNumbers_120 : decode cX8_readNumbers 120 = .ok (.iload 5, 2) := by decide +kernel
theorem dX8_readNumbers_122 : decode cX8_readNumbers 122 = .ok (.ifCond .eq 12, 3) := by decide +kernel
theorem dX8_readNumbers_125 : decode cX8_readNumbers 125 = .ok (.aload_n 0, 1) := by decide +kernel
theorem dX8_readNumbers_126 : decode cX8_readNumbers 126 = .ok (.iload 4, 2) := by decide +kernel
theorem dX8_readNumbers_128 : decode cX8_readNumbers 128 = .ok (.invokevirtual 388, 3) := by decide +kernel
theorem dX8_readNumbers_131 : decode cX8_readNumbers 131 = .ok (.goto 4, 3) := by decide +kernel
theorem dX8_readNumbers_134 : decode cX8_readNumbers 134 = .ok (.iconst 0, 1) := by decide +kernel
theorem dX8_readNumbers_135 : decode cX8_readNumbers 135 = .ok (.iastore, 1) := by decide +kernel
theorem dX8_readNumbers_136 : decode cX8_readNumbers 136 = .ok (.aload_n 0, 1) := by decide +kernel
theorem dX8_readNumbers_137 : decode cX8_readNumbers 137 = .ok (.getfield 41, 3) := by decide +kernel
theorem dX8_readNumbers_140 : decode cX8_readNumbers 140 = .ok (.iload_n 1, 1) := by decide +kernel
theorem dX8_readNumbers_141 : decode cX8_readNumbers 141 = .ok (.iconst 4, 1) := by decide +kernel
theorem dX8_readNumbers_142 : decode cX8_readNumbers 142 = .ok (.iadd, 1) := by decide +kernel
theorem dX8_readNumbers_143 : decode cX8_readNumbers 143 = .ok (.iload 5, 2) := by decide +kernel
theorem dX8_readNumbers_145 : decode cX8_readNumbers 145 = .ok (.ifCond .eq 12, 3) := by decide +kernel
theorem dX8_readNumbers_148 : decode cX8_readNumbers 148 = .ok (.aload_n 0, 1) := by decide +kernel
theorem dX8_readNumbers_149 : decode cX8_readNumbers 149 = .ok (.iload 4, 2) := by decide +kernel
theorem dX8_readNumbers_151 : decode cX8_readNumbers 151 = .ok (.invokevirtual 388, 3) := by decide +kernel
theorem dX8_readNumbers_154 : decode cX8_readNumbers 154 = .ok (.goto 4, 3) := by decide +kernel
theorem dX8_readNumbers_157 : decode cX8_readNumbers 157 = .ok (.iconst 0, 1) := by decide +kernel
theorem dX8_readNumbers_158 : decode cX8_readNumbers 158 = .ok (.iastore, 1) := by decide +kernel
theorem dX8_readNumbers_159 : decode cX8_readNumbers 159 = .ok (.return_, 1) := by decide +kernel
theorem dX8_readOrder_0 : decode cX8_readOrder 0 = .ok (.aload_n 0, 1) := by decide +kernel
theorem dX8_readOrder_1 : decode cX8_readOrder 1 = .ok (.invokevirtual 430, 3) := by decide +kernel
theorem dX8_readOrder_4 : decode cX8_readOrder 4 = .ok (.istore_n 1, 1) := by decide +kernel
theorem dX8_readOrder_5 : decode cX8_readOrder 5 = .ok (.aload_n 0, 1) := by decide +kernel
theorem dX8_readOrder_6 : decode cX8_readOrder 6 = .ok (.iload_n 1, 1) := by decide +kernel
theorem dX8_readOrder_7 : decode cX8_readOrder 7 = .ok (.iconst (-1), 1) := by decide +kernel
theorem dX8_readOrder_8 : decode cX8_readOrder 8 = .ok (.if_icmp .eq 7, 3) := by decide +kernel
theorem dX8_readOrder_11 : decode cX8_readOrder 11 = .ok (.iconst 1, 1) := by decide +kernel
theorem dX8_readOrder_12 : decode cX8_readOrder 12 = .ok (.goto 4, 3) := by decide +kernel
theorem dX8_readOrder_15 : decode cX8_readOrder 15 = .ok (.iconst 0, 1) := by decide +kernel
theorem dX8_readOrder_16 : decode cX8_readOrder 16 = .ok (.iconst 1, 1) := by decide +kernel
theorem dX8_readOrder_17 : decode cX8_readOrder 17 = .ok (.invokevirtual 365, 3) := by decide +kernel
theorem dX8_readOrder_20 : decode cX8_readOrder 20 = .ok (.aload_n 0, 1) := by decide +kernel
theorem dX8_readOrder_21 : decode cX8_readOrder 21 = .ok (.aload_n 0, 1) := by decide +kernel
theorem dX8_readOrder_22 : decode cX8_readOrder 22 = .ok (.getfield 340, 3) := by decide +kernel
theorem dX8_readOrder_25 : decode cX8_readOrder 25 = .ok (.ifCond .ne 12, 3) := by decide +kernel
theorem dX8_readOrder_28 : decode cX8_readOrder 28 = .ok (.aload_n 0, 1) := by decide +kernel
theorem dX8_readOrder_29 : decode cX8_readOrder 29 = .ok (.getfield 433, 3) := by decide +kernel
theorem dX8_readOrder_32 : decode cX8_readOrder 32 = .ok (.bipush 20, 2) := by decide +kernel
theorem dX8_readOrder_34 : decode cX8_readOrder 34 = .ok (.if_icmp .ge 7, 3) := by decide +kernel
theorem dX8_readOrder_37 : decode cX8_readOrder 37 = .ok (.iconst 1, 1) := by decide +kernel
theorem dX8_readOrder_38 : decode cX8_readOrder 38 = .ok (.goto 4, 3) := by decide +kernel
theorem dX8_readOrder_41 : decode cX8_readOrder 41 = .ok (.iconst 0, 1) := by decide +kernel
theorem dX8_readOrder_42 : decode cX8_readOrder 42 = .ok (.iconst 3, 1) := by decide +kernel
theorem dX8_readOrder_43 : decode cX8_readOrder 43 = .ok (.invokevirtual 365, 3) := by decide +kernel
theorem dX8_readOrder_46 : decode cX8_readOrder 46 = .ok (.aload_n 0, 1) := by decide +kernel
theorem dX8_readOrder_47 : decode cX8_readOrder 47 = .ok (.getfield 340, 3) := by decide +kernel
theorem dX8_readOrder_50 : decode cX8_readOrder 50 = .ok (.ifCond .eq 4, 3) := by decide +kernel
theorem dX8_readOrder_53 : decode cX8_readOrder 53 = .ok (.return_, 1) := by decide +kernel
theorem dX8_readOrder_54 : decode cX8_readOrder 54 = .ok (.bipush 73, 2) := by decide +kernel
theorem dX8_readOrder_56 : decode cX8_readOrder 56 = .ok (.aload_n 0, 1) := by decide +kernel
theorem dX8_readOrder_57 : decode cX8_readOrder 57 = .ok (.getfield 433, 3) := by decide +kernel
theorem dX8_readOrder_60 : decode cX8_readOrder 60 = .ok (.imul, 1) := by decide +kernel
theorem dX8_readOrder_61 : decode cX8_readOrder 61 = .ok (.istore_n 2, 1) := by decide +kernel
theorem dX8_readOrder_62 : decode cX8_readOrder 62 = .ok (.aload_n 0, 1) := by decide +kernel
theorem dX8_readOrder_63 : decode cX8_readOrder 63 = .ok (.getfield 41, 3) := by decide +kernel
theorem dX8_readOrder_66 : decode cX8_readOrder 66 = .ok (.iload_n 2, 1) := by decide +kernel
theorem dX8_readOrder_67 : decode cX8_readOrder 67 = .ok (.iload_n 1, 1) := by decide +kernel
theorem dX8_readOrder_68 : decode cX8_readOrder 68 = .ok (.iastore, 1) := by decide +kernel
theorem dX8_readOrder_69 : decode cX8_readOrder 69 = .ok (.iload_n 1, 1) := by decide +kernel
theorem dX8_readOrder_70 : decode cX8_readOrder 70 = .ok (.ifCond .ne 30, 3) := by decide +kernel
theorem dX8_readOrder_73 : decode cX8_readOrder 73 = .ok (.aload_n 0, 1) := by decide +kernel
theorem dX8_readOrder_74 : decode cX8_readOrder 74 = .ok (.invokevirtual 412, 3) := by decide +kernel
theorem dX8_readOrder_77 : decode cX8_readOrder 77 = .ok (.aload_n 0, 1) := by decide +kernel
theorem dX8_readOrder_78 : decode cX8_readOrder 78 = .ok (.getfield 38, 3) := by decide +kernel
theorem dX8_readOrder_81 : decode cX8_readOrder 81 = .ok (.iconst 0, 1) := by decide +kernel
theorem dX8_readOrder_82 : decode cX8_readOrder 82 = .ok (.aload_n 0, 1) := by decide +kernel
theorem dX8_readOrder_83 : decode cX8_readOrder 83 = .ok (.getfield 41, 3) := by decide +kernel
theorem dX8_readOrder_86 : decode cX8_readOrder 86 = .ok (.iload_n 2, 1) := by decide +kernel
theorem dX8_readOrder_87 : decode cX8_readOrder 87 = .ok (.iconst 5, 1) := by decide +kernel
theorem dX8_readOrder_88 : decode cX8_readOrder 88 = .ok (.iadd, 1) := by decide +kernel
theorem dX8_readOrder_89 : decode cX8_readOrder 89 = .ok (.aload_n 0, 1) := by decide +kernel
theorem dX8_readOrder_90 : decode cX8_readOrder 90 = .ok (.getfield 38, 3) := by decide +kernel
theorem dX8_readOrder_93 : decode cX8_readOrder 93 = .ok (.arraylength, 1) := by decide +kernel
theorem dX8_readOrder_94 : decode cX8_readOrder 94 = .ok (.invokestatic 117, 3) := by decide +kernel
theorem dX8_readOrder_97 : decode cX8_readOrder 97 = .ok (.goto 42, 3) := by decide +kernel
theorem dX8_readOrder_100 : decode cX8_readOrder 100 = .ok (.aload_n 0, 1) := by decide +kernel
theorem dX8_readOrder_101 : decode cX8_readOrder 101 = .ok (.invokevirtual 369, 3) := by decide +kernel
theorem dX8_readOrder_104 : decode cX8_readOrder 104 = .ok (.iload_n 1, 1) := by decide +kernel
theorem dX8_readOrder_105 : decode cX8_readOrder 105 = .ok (.bipush 9, 2) := by decide +kernel
theorem dX8_readOrder_107 : decode cX8_readOrder 107 = .ok (.if_icmp .ne 26, 3) := by decide +kernel
theorem dX8_readOrder_110 : decode cX8_readOrder 110 = .ok (.aload_n 0, 1) := by decide +kernel
theorem dX8_readOrder_111 : decode cX8_readOrder 111 = .ok (.getfield 41, 3) := by decide +kernel
theorem dX8_readOrder_114 : decode cX8_readOrder 114 = .ok (.iload_n 2, 1) := by decide +kernel
theorem dX8_readOrder_115 : decode cX8_readOrder 115 = .ok (.iconst 1, 1) := by decide +kernel
theorem dX8_readOrder_116 : decode cX8_readOrder 116 = .ok (.iadd, 1) := by decide +kernel
theorem dX8_readOrder_117 : decode cX8_readOrder 117 = .ok (.aload_n 0, 1) := by decide +kernel
theorem dX8_readOrder_118 : decode cX8_readOrder 118 = .ok (.invokevirtual 406, 3) := by decide +kernel
theorem dX8_readOrder_121 : decode cX8_readOrder 121 = .ok (.ifCond .eq 7, 3) := by decide +kernel
theorem dX8_readOrder_124 : decode cX8_readOrder 124 = .ok (.iconst 1, 1) := by decide +kernel
theorem dX8_readOrder_125 : decode cX8_readOrder 125 = .ok (.goto 4, 3) := by decide +kernel
theorem dX8_readOrder_128 : decode cX8_readOrder 128 = .ok (.iconst 0, 1) := by decide +kernel
theorem dX8_readOrder_129 : decode cX8_readOrder 129 = .ok (.iastore, 1) := by decide +kernel
theorem dX8_readOrder_130 : decode cX8_readOrder 130 = .ok (.goto 9, 3) := by decide +kernel
theorem dX8_readOrder_133 : decode cX8_readOrder 133 = .ok (.aload_n 0, 1) := by decide +kernel
theorem dX8_readOrder_134 : decode cX8_readOrder 134 = .ok (.iload_n 2, 1) := by decide +kernel
theorem dX8_readOrder_135 : decode cX8_readOrder 135 = .ok (.iload_n 1, 1) := by decide +kernel
theorem dX8_readOrder_136 : decode cX8_readOrder 136 = .ok (.invokevirtual 436, 3) := by decide +kernel
theorem dX8_readOrder_139 : decode cX8_readOrder 139 = .ok (.aload_n 0, 1) := by decide +kernel
theorem dX8_readOrder_140 : decode cX8_readOrder 140 = .ok (.bipush 59, 2) := by decide +kernel
theorem dX8_readOrder_142 : decode cX8_readOrder 142 = .ok (.invokevirtual 409, 3) := by decide +kernel
theorem dX8_readOrder_145 : decode cX8_readOrder 145 = .ok (.aload_n 0, 1) := by decide +kernel
theorem dX8_readOrder_146 : decode cX8_readOrder 146 = .ok (.dup, 1) := by decide +kernel
theorem dX8_readOrder_147 : decode cX8_readOrder 147 = .ok (.getfield 433, 3) := by decide +kernel
theorem dX8_readOrder_150 : decode cX8_readOrder 150 = .ok (.iconst 1, 1) := by decide +kernel
theorem dX8_readOrder_151 : decode cX8_readOrder 151 = .ok (.iadd, 1) := by decide +kernel
theorem dX8_readOrder_152 : decode cX8_readOrder 152 = .ok (.putfield 433, 3) := by decide +kernel
theorem dX8_readOrder_155 : decode cX8_readOrder 155 = .ok (.return_, 1) := by decide +kernel
theorem dX8_does_0 : decode cX8_does 0 = .ok (.aload_n 0, 1) := by decide +kernel
theorem dX8_does_1 : decode cX8_does 1 = .ok (.getfield 41, 3) := by decide +kernel
theorem dX8_does_4 : decode cX8_does 4 = .ok (.iload_n 1, 1) := by decide +kernel
theorem dX8_does_5 : decode cX8_does 5 = .ok (.iconst 1, 1) := by decide +kernel
theorem dX8_does_6 : decode cX8_does 6 = .ok (.iadd, 1) := by decide +kernel
theorem dX8_does_7 : decode cX8_does 7 = .ok (.iaload, 1) := by decide +kernel
theorem dX8_does_8 : decode cX8_does 8 = .ok (.istore_n 2, 1) := by decide +kernel
theorem dX8_does_9 : decode cX8_does 9 = .ok (.aload_n 0, 1) := by decide +kernel
theorem dX8_does_10 : decode cX8_does 10 = .ok (.getfield 41, 3) := by decide +kernel
theorem dX8_does_13 : decode cX8_does 13 = .ok (.iload_n 1, 1) := by decide +kernel
theorem dX8_does_14 : decode cX8_does 14 = .ok (.iconst 2, 1) := by decide +kernel
theorem dX8_does_15 : decode cX8_does 15 = .ok (.iadd, 1) := by decide +kernel
theorem dX8_does_16 : decode cX8_does 16 = .ok (.iaload, 1) := by decide +kernel
theorem dX8_does_17 : decode cX8_does 17 = .ok (.istore_n 3, 1) := by decide +kernel
theorem dX8_does_18 : decode cX8_does 18 = .ok (.aload_n 0, 1) := by decide +kernel
theorem dX8_does_19 : decode cX8_does 19 = .ok (.getfield 41, 3) := by decide +kernel
theorem dX8_does_22 : decode cX8_does 22 = .ok (.iload_n 1, 1) := by decide +kernel
theorem dX8_does_23 : decode cX8_does 23 = .ok (.iaload, 1) := by decide +kernel
theorem dX8_does_24 : decode cX8_does 24 = .ok (.tableswitch 177 0 8 #[52, 77, 84, 90, 113, 136, 143, 165, 171], 52) := by decide +kernel
theorem dX8_does_76 : decode cX8_does 76 = .ok (.aload_n 0, 1) := by decide +kernel
theorem dX8_does_77 : decode cX8_does 77 = .ok (.getfield 41, 3) := by decide +kernel
theorem dX8_does_80 : decode cX8_does 80 = .ok (.iload_n 1, 1) := by decide +kernel
theorem dX8_does_81 : decode cX8_does 81 = .ok (.iconst 5, 1) := by decide +kernel
theorem dX8_does_82 : decode cX8_does 82 = .ok (.iadd, 1) := by decide +kernel
theorem dX8_does_83 : decode cX8_does 83 = .ok (.aload_n 0, 1) := by decide +kernel
theorem dX8_does_84 : decode cX8_does 84 = .ok (.getfield 38, 3) := by decide +kernel
theorem dX8_does_87 : decode cX8_does 87 = .ok (.iconst 0, 1) := by decide +kernel
theorem dX8_does_88 : decode cX8_does 88 = .ok (.aload_n 0, 1) := by decide +kernel
theorem dX8_does_89 : decode cX8_does 89 = .ok (.getfield 38, 3) := by decide +kernel
theorem dX8_does_92 : decode cX8_does 92 = .ok (.arraylength, 1) := by decide +kernel
theorem dX8_does_93 : decode cX8_does 93 = .ok (.invokestatic 117, 3) := by decide +kernel
theorem dX8_does_96 : decode cX8_does 96 = .ok (.aload_n 0, 1) := by decide +kernel
theorem dX8_does_97 : decode cX8_does 97 = .ok (.invokevirtual 427, 3) := by decide +kernel
theorem dX8_does_100 : decode cX8_does 100 = .ok (.ireturn, 1) := by decide +kernel
theorem dX8_does_101 : decode cX8_does 101 = .ok (.aload_n 0, 1) := by decide +kernel
theorem dX8_does_102 : decode cX8_does 102 = .ok (.iload_n 2, 1) := by decide +kernel
theorem dX8_does_103 : decode cX8_does 103 = .ok (.iload_n 3, 1) := by decide +kernel
theorem dX8_does_104 : decode cX8_does 104 = .ok (.invokevirtual 272, 3) := by decide +kernel
theorem dX8_does_107 : decode cX8_does 107 = .ok (.ireturn, 1) := by decide +kernel
theorem dX8_does_108 : decode cX8_does 108 = .ok (.aload_n 0, 1) := by decide +kernel
theorem dX8_does_109 : decode cX8_does 109 = .ok (.iload_n 2, 1) := by decide +kernel
theorem dX8_does_110 : decode cX8_does 110 = .ok (.invokevirtual 275, 3) := by decide +kernel
theorem dX8_does_113 : decode cX8_does 113 = .ok (.ireturn, 1) := by decide +kernel
theorem dX8_does_114 : decode cX8_does 114 = .ok (.aload_n 0, 1) := by decide +kernel
theorem dX8_does_115 : decode cX8_does 115 = .ok (.iload_n 2, 1) := by decide +kernel
theorem dX8_does_116 : decode cX8_does 116 = .ok (.iload_n 3, 1) := by decide +kernel
theorem dX8_does_117 : decode cX8_does 117 = .ok (.aload_n 0, 1) := by decide +kernel
theorem dX8_does_118 : decode cX8_does 118 = .ok (.getfield 41, 3) := by decide +kernel
theorem dX8_does_121 : decode cX8_does 121 = .ok (.iload_n 1, 1) := by decide +kernel
theorem dX8_does_122 : decode cX8_does 122 = .ok (.iconst 3, 1) := by decide +kernel
theorem dX8_does_123 : decode cX8_does 123 = .ok (.iadd, 1) := by decide +kernel
theorem dX8_does_124 : decode cX8_does 124 = .ok (.iaload, 1) := by decide +kernel
theorem dX8_does_125 : decode cX8_does 125 = .ok (.aload_n 0, 1) := by decide +kernel
theorem dX8_does_126 : decode cX8_does 126 = .ok (.getfield 41, 3) := by decide +kernel
theorem dX8_does_129 : decode cX8_does 129 = .ok (.iload_n 1, 1) := by decide +kernel
theorem dX8_does_130 : decode cX8_does 130 = .ok (.iconst 4, 1) := by decide +kernel
theorem dX8_does_131 : decode cX8_does 131 = .ok (.iadd, 1) := by decide +kernel
theorem dX8_does_132 : decode cX8_does 132 = .ok (.iaload, 1) := by decide +kernel
theorem dX8_does_133 : decode cX8_does 133 = .ok (.invokevirtual 278, 3) := by decide +kernel
theorem dX8_does_136 : decode cX8_does 136 = .ok (.ireturn, 1) := by decide +kernel
theorem dX8_does_137 : decode cX8_does 137 = .ok (.aload_n 0, 1) := by decide +kernel
theorem dX8_does_138 : decode cX8_does 138 = .ok (.iload_n 2, 1) := by decide +kernel
theorem dX8_does_139 : decode cX8_does 139 = .ok (.iload_n 3, 1) := by decide +kernel
theorem dX8_does_140 : decode cX8_does 140 = .ok (.aload_n 0, 1) := by decide +kernel
theorem dX8_does_141 : decode cX8_does 141 = .ok (.getfield 41, 3) := by decide +kernel
theorem dX8_does_144 : decode cX8_does 144 = .ok (.iload_n 1, 1) := by decide +kernel
theorem dX8_does_145 : decode cX8_does 145 = .ok (.iconst 3, 1) := by decide +kernel
theorem dX8_does_146 : decode cX8_does 146 = .ok (.iadd, 1) := by decide +kernel
theorem dX8_does_147 : decode cX8_does 147 = .ok (.iaload, 1) := by decide +kernel
theorem dX8_does_148 : decode cX8_does 148 = .ok (.aload_n 0, 1) := by decide +kernel
theorem dX8_does_149 : decode cX8_does 149 = .ok (.getfield 41, 3) := by decide +kernel
theorem dX8_does_152 : decode cX8_does 152 = .ok (.iload_n 1, 1) := by decide +kernel
theorem dX8_does_153 : decode cX8_does 153 = .ok (.iconst 4, 1) := by decide +kernel
theorem dX8_does_154 : decode cX8_does 154 = .ok (.iadd, 1) := by decide +kernel
theorem dX8_does_155 : decode cX8_does 155 = .ok (.iaload, 1) := by decide +kernel
theorem dX8_does_156 : decode cX8_does 156 = .ok (.invokevirtual 281, 3) := by decide +kernel
theorem dX8_does_159 : decode cX8_does 159 = .ok (.ireturn, 1) := by decide +kernel
theorem dX8_does_160 : decode cX8_does 160 = .ok (.aload_n 0, 1) := by decide +kernel
theorem dX8_does_161 : decode cX8_does 161 = .ok (.iload_n 2, 1) := by decide +kernel
theorem dX8_does_162 : decode cX8_does 162 = .ok (.iload_n 3, 1) := by decide +kernel
theorem dX8_does_163 : decode cX8_does 163 = .ok (.invokevirtual 284, 3) := by decide +kernel
theorem dX8_does_166 : decode cX8_does 166 = .ok (.ireturn, 1) := by decide +kernel
theorem dX8_does_167 : decode cX8_does 167 = .ok (.aload_n 0, 1) := by decide +kernel
theorem dX8_does_168 : decode cX8_does 168 = .ok (.iload_n 2, 1) := by decide +kernel
theorem dX8_does_169 : decode cX8_does 169 = .ok (.aload_n 0, 1) := by decide +kernel
theorem dX8_does_170 : decode cX8_does 170 = .ok (.getfield 41, 3) := by decide +kernel
theorem dX8_does_173 : decode cX8_does 173 = .ok (.iload_n 1, 1) := by decide +kernel
theorem dX8_does_174 : decode cX8_does 174 = .ok (.iconst 3, 1) := by decide +kernel
theorem dX8_does_175 : decode cX8_does 175 = .ok (.iadd, 1) := by decide +kernel
theorem dX8_does_176 : decode cX8_does 176 = .ok (.iaload, 1) := by decide +kernel
theorem dX8_does_177 : decode cX8_does 177 = .ok (.aload_n 0, 1) := by decide +kernel
theorem dX8_does_178 : decode cX8_does 178 = .ok (.getfield 41, 3) := by decide +kernel
theorem dX8_does_181 : decode cX8_does 181 = .ok (.iload_n 1, 1) := by decide +kernel
theorem dX8_does_182 : decode cX8_does 182 = .ok (.iconst 4, 1) := by decide +kernel
theorem dX8_does_183 : decode cX8_does 183 = .ok (.iadd, 1) := by decide +kernel
theorem dX8_does_184 : decode cX8_does 184 = .ok (.iaload, 1) := by decide +kernel
theorem dX8_does_185 : decode cX8_does 185 = .ok (.invokevirtual 290, 3) := by decide +kernel
theorem dX8_does_188 : decode cX8_does 188 = .ok (.ireturn, 1) := by decide +kernel
theorem dX8_does_189 : decode cX8_does 189 = .ok (.aload_n 0, 1) := by decide +kernel
theorem dX8_does_190 : decode cX8_does 190 = .ok (.iload_n 2, 1) := by decide +kernel
theorem dX8_does_191 : decode cX8_does 191 = .ok (.invokevirtual 293, 3) := by decide +kernel
theorem dX8_does_194 : decode cX8_does 194 = .ok (.ireturn, 1) := by decide +kernel
theorem dX8_does_195 : decode cX8_does 195 = .ok (.aload_n 0, 1) := by decide +kernel
theorem dX8_does_196 : decode cX8_does 196 = .ok (.iload_n 2, 1) := by decide +kernel
theorem dX8_does_197 : decode cX8_does 197 = .ok (.invokevirtual 266, 3) := by decide +kernel
theorem dX8_does_200 : decode cX8_does 200 = .ok (.ireturn, 1) := by decide +kernel
theorem dX8_does_201 : decode cX8_does 201 = .ok (.aload_n 0, 1) := by decide +kernel
theorem dX8_does_202 : decode cX8_does 202 = .ok (.iload_n 2, 1) := by decide +kernel
theorem dX8_does_203 : decode cX8_does 203 = .ok (.iconst 1, 1) := by decide +kernel
theorem dX8_does_204 : decode cX8_does 204 = .ok (.if_icmp .ne 7, 3) := by decide +kernel
theorem dX8_does_207 : decode cX8_does 207 = .ok (.iconst 1, 1) := by decide +kernel
theorem dX8_does_208 : decode cX8_does 208 = .ok (.goto 4, 3) := by decide +kernel
theorem dX8_does_211 : decode cX8_does 211 = .ok (.iconst 0, 1) := by decide +kernel
theorem dX8_does_212 : decode cX8_does 212 = .ok (.invokevirtual 296, 3) := by decide +kernel
theorem dX8_does_215 : decode cX8_does 215 = .ok (.iconst 0, 1) := by decide +kernel
theorem dX8_does_216 : decode cX8_does 216 = .ok (.ireturn, 1) := by decide +kernel
theorem dX8_runScript_0 : decode cX8_runScript 0 = .ok (.aload_n 0, 1) := by decide +kernel
theorem dX8_runScript_1 : decode cX8_runScript 1 = .ok (.aload_n 0, 1) := by decide +kernel
theorem dX8_runScript_2 : decode cX8_runScript 2 = .ok (.iload_n 1, 1) := by decide +kernel
theorem dX8_runScript_3 : decode cX8_runScript 3 = .ok (.invokevirtual 415, 3) := by decide +kernel
theorem dX8_runScript_6 : decode cX8_runScript 6 = .ok (.invokevirtual 89, 3) := by decide +kernel
theorem dX8_runScript_9 : decode cX8_runScript 9 = .ok (.ifCond .eq 5, 3) := by decide +kernel
theorem dX8_runScript_12 : decode cX8_runScript 12 = .ok (.iconst 0, 1) := by decide +kernel
theorem dX8_runScript_13 : decode cX8_runScript 13 = .ok (.ireturn, 1) := by decide +kernel
theorem dX8_runScript_14 : decode cX8_runScript 14 = .ok (.aload_n 0, 1) := by decide +kernel
theorem dX8_runScript_15 : decode cX8_runScript 15 = .ok (.iconst 0, 1) := by decide +kernel
theorem dX8_runScript_16 : decode cX8_runScript 16 = .ok (.putfield 433, 3) := by decide +kernel
theorem dX8_runScript_19 : decode cX8_runScript 19 = .ok (.aload_n 0, 1) := by decide +kernel
theorem dX8_runScript_20 : decode cX8_runScript 20 = .ok (.iload_n 1, 1) := by decide +kernel
theorem dX8_runScript_21 : decode cX8_runScript 21 = .ok (.invokevirtual 418, 3) := by decide +kernel
theorem dX8_runScript_24 : decode cX8_runScript 24 = .ok (.aload_n 0, 1) := by decide +kernel
theorem dX8_runScript_25 : decode cX8_runScript 25 = .ok (.getfield 340, 3) := by decide +kernel
theorem dX8_runScript_28 : decode cX8_runScript 28 = .ok (.ifCond .ne 17, 3) := by decide +kernel
theorem dX8_runScript_31 : decode cX8_runScript 31 = .ok (.aload_n 0, 1) := by decide +kernel
theorem dX8_runScript_32 : decode cX8_runScript 32 = .ok (.getfield 331, 3) := by decide +kernel
theorem dX8_runScript_35 : decode cX8_runScript 35 = .ok (.ifCond .eq 10, 3) := by decide +kernel
theorem dX8_runScript_38 : decode cX8_runScript 38 = .ok (.aload_n 0, 1) := by decide +kernel
theorem dX8_runScript_39 : decode cX8_runScript 39 = .ok (.invokevirtual 439, 3) := by decide +kernel
theorem dX8_runScript_42 : decode cX8_runScript 42 = .ok (.goto (-18), 3) := by decide +kernel
theorem dX8_runScript_45 : decode cX8_runScript 45 = .ok (.aload_n 0, 1) := by decide +kernel
theorem dX8_runScript_46 : decode cX8_runScript 46 = .ok (.invokevirtual 424, 3) := by decide +kernel
theorem dX8_runScript_49 : decode cX8_runScript 49 = .ok (.ifCond .eq 5, 3) := by decide +kernel
theorem dX8_runScript_52 : decode cX8_runScript 52 = .ok (.iconst (-1), 1) := by decide +kernel
theorem dX8_runScript_53 : decode cX8_runScript 53 = .ok (.ireturn, 1) := by decide +kernel
theorem dX8_runScript_54 : decode cX8_runScript 54 = .ok (.aload_n 0, 1) := by decide +kernel
theorem dX8_runScript_55 : decode cX8_runScript 55 = .ok (.invokevirtual 263, 3) := by decide +kernel
theorem dX8_runScript_58 : decode cX8_runScript 58 = .ok (.aload_n 0, 1) := by decide +kernel
theorem dX8_runScript_59 : decode cX8_runScript 59 = .ok (.invokevirtual 260, 3) := by decide +kernel
theorem dX8_runScript_62 : decode cX8_runScript 62 = .ok (.iconst 0, 1) := by decide +kernel
theorem dX8_runScript_63 : decode cX8_runScript 63 = .ok (.istore_n 2, 1) := by decide +kernel
theorem dX8_runScript_64 : decode cX8_runScript 64 = .ok (.iload_n 2, 1) := by decide +kernel
theorem dX8_runScript_65 : decode cX8_runScript 65 = .ok (.aload_n 0, 1) := by decide +kernel
theorem dX8_runScript_66 : decode cX8_runScript 66 = .ok (.getfield 433, 3) := by decide +kernel
theorem dX8_runScript_69 : decode cX8_runScript 69 = .ok (.if_icmp .ge 20, 3) := by decide +kernel
theorem dX8_runScript_72 : decode cX8_runScript 72 = .ok (.aload_n 0, 1) := by decide +kernel
theorem dX8_runScript_73 : decode cX8_runScript 73 = .ok (.bipush 73, 2) := by decide +kernel
theorem dX8_runScript_75 : decode cX8_runScript 75 = .ok (.iload_n 2, 1) := by decide +kernel
theorem dX8_runScript_76 : decode cX8_runScript 76 = .ok (.imul, 1) := by decide +kernel
theorem dX8_runScript_77 : decode cX8_runScript 77 = .ok (.invokevirtual 442, 3) := by decide +kernel
theorem dX8_runScript_80 : decode cX8_runScript 80 = .ok (.ifCond .ne 9, 3) := by decide +kernel
theorem dX8_runScript_83 : decode cX8_runScript 83 = .ok (.iinc 2 1, 3) := by decide +kernel
theorem dX8_runScript_86 : decode cX8_runScript 86 = .ok (.goto (-22), 3) := by decide +kernel
theorem dX8_runScript_89 : decode cX8_runScript 89 = .ok (.iload_n 2, 1) := by decide +kernel
theorem dX8_runScript_90 : decode cX8_runScript 90 = .ok (.ireturn, 1) := by decide +kernel
theorem dJ8_newLength_cabcc_0 : decode cJ8_newLength_cabcc 0 = .ok (.iload_n 0, 1) := by decide +kernel
theorem dJ8_newLength_cabcc_1 : decode cJ8_newLength_cabcc 1 = .ok (.iload_n 1, 1) := by decide +kernel
theorem dJ8_newLength_cabcc_2 : decode cJ8_newLength_cabcc 2 = .ok (.iload_n 2, 1) := by decide +kernel
theorem dJ8_newLength_cabcc_3 : decode cJ8_newLength_cabcc 3 = .ok (.invokestatic 194, 3) := by decide +kernel
theorem dJ8_newLength_cabcc_6 : decode cJ8_newLength_cabcc 6 = .ok (.iadd, 1) := by decide +kernel
theorem dJ8_newLength_cabcc_7 : decode cJ8_newLength_cabcc 7 = .ok (.istore_n 3, 1) := by decide +kernel
theorem dJ8_newLength_cabcc_8 : decode cJ8_newLength_cabcc 8 = .ok (.iconst 0, 1) := by decide +kernel
theorem dJ8_newLength_cabcc_9 : decode cJ8_newLength_cabcc 9 = .ok (.iload_n 3, 1) := by decide +kernel
theorem dJ8_newLength_cabcc_10 : decode cJ8_newLength_cabcc 10 = .ok (.if_icmp .ge 11, 3) := by decide +kernel
theorem dJ8_newLength_cabcc_13 : decode cJ8_newLength_cabcc 13 = .ok (.iload_n 3, 1) := by decide +kernel
theorem dJ8_newLength_cabcc_14 : decode cJ8_newLength_cabcc 14 = .ok (.ldc 200, 2) := by decide +kernel
theorem dJ8_newLength_cabcc_16 : decode cJ8_newLength_cabcc 16 = .ok (.if_icmp .gt 5, 3) := by decide +kernel
theorem dJ8_newLength_cabcc_19 : decode cJ8_newLength_cabcc 19 = .ok (.iload_n 3, 1) := by decide +kernel
theorem dJ8_newLength_cabcc_20 : decode cJ8_newLength_cabcc 20 = .ok (.ireturn, 1) := by decide +kernel
theorem dJ8_newLength_cabcc_21 : decode cJ8_newLength_cabcc 21 = .ok (.iload_n 0, 1) := by decide +kernel
theorem dJ8_newLength_cabcc_22 : decode cJ8_newLength_cabcc 22 = .ok (.iload_n 1, 1) := by decide +kernel
theorem dJ8_newLength_cabcc_23 : decode cJ8_newLength_cabcc 23 = .ok (.invokestatic 201, 3) := by decide +kernel
theorem dJ8_newLength_cabcc_26 : decode cJ8_newLength_cabcc 26 = .ok (.ireturn, 1) := by decide +kernel
theorem dJ8_hugeLength_7cf53_0 : decode cJ8_hugeLength_7cf53 0 = .ok (.iload_n 0, 1) := by decide +kernel
theorem dJ8_hugeLength_7cf53_1 : decode cJ8_hugeLength_7cf53 1 = .ok (.iload_n 1, 1) := by decide +kernel
theorem dJ8_hugeLength_7cf53_2 : decode cJ8_hugeLength_7cf53 2 = .ok (.iadd, 1) := by decide +kernel
theorem dJ8_hugeLength_7cf53_3 : decode cJ8_hugeLength_7cf53 3 = .ok (.istore_n 2, 1) := by decide +kernel
theorem dJ8_hugeLength_7cf53_4 : decode cJ8_hugeLength_7cf53 4 = .ok (.iload_n 2, 1) := by decide +kernel
theorem dJ8_hugeLength_7cf53_5 : decode cJ8_hugeLength_7cf53 5 = .ok (.ifCond .ge 44, 3) := by decide +kernel
theorem dJ8_hugeLength_7cf53_8 : decode cJ8_hugeLength_7cf53 8 = .ok (.new 204, 3) := by decide +kernel
theorem dJ8_hugeLength_7cf53_11 : decode cJ8_hugeLength_7cf53 11 = .ok (.dup, 1) := by decide +kernel
theorem dJ8_hugeLength_7cf53_12 : decode cJ8_hugeLength_7cf53 12 = .ok (.new 89, 3) := by decide +kernel
theorem dJ8_hugeLength_7cf53_15 : decode cJ8_hugeLength_7cf53 15 = .ok (.dup, 1) := by decide +kernel
theorem dJ8_hugeLength_7cf53_16 : decode cJ8_hugeLength_7cf53 16 = .ok (.invokespecial 91, 3) := by decide +kernel
theorem dJ8_hugeLength_7cf53_19 : decode cJ8_hugeLength_7cf53 19 = .ok (.ldc 206, 2) := by decide +kernel
theorem dJ8_hugeLength_7cf53_21 : decode cJ8_hugeLength_7cf53 21 = .ok (.invokevirtual 94, 3) := by decide +kernel
theorem dJ8_hugeLength_7cf53_24 : decode cJ8_hugeLength_7cf53 24 = .ok (.iload_n 0, 1) := by decide +kernel
theorem dJ8_hugeLength_7cf53_25 : decode cJ8_hugeLength_7cf53 25 = .ok (.invokevirtual 98, 3) := by decide +kernel
theorem dJ8_hugeLength_7cf53_28 : decode cJ8_hugeLength_7cf53 28 = .ok (.ldc 208, 2) := by decide +kernel
theorem dJ8_hugeLength_7cf53_30 : decode cJ8_hugeLength_7cf53 30 = .ok (.invokevirtual 94, 3) := by decide +kernel
theorem dJ8_hugeLength_7cf53_33 : decode cJ8_hugeLength_7cf53 33 = .ok (.iload_n 1, 1) := by decide +kernel
theorem dJ8_hugeLength_7cf53_34 : decode cJ8_hugeLength_7cf53 34 = .ok (.invokevirtual 98, 3) := by decide +kernel
theorem dJ8_hugeLength_7cf53_37 : decode cJ8_hugeLength_7cf53 37 = .ok (.ldc 210, 2) := by decide +kernel
theorem dJ8_hugeLength_7cf53_39 : decode cJ8_hugeLength_7cf53 39 = .ok (.invokevirtual 94, 3) := by decide +kernel
theorem dJ8_hugeLength_7cf53_42 : decode cJ8_hugeLength_7cf53 42 = .ok (.invokevirtual 101, 3) := by decide +kernel
theorem dJ8_hugeLength_7cf53_45 : decode cJ8_hugeLength_7cf53 45 = .ok (.invokespecial 212, 3) := by decide +kernel
theorem dJ8_hugeLength_7cf53_48 : decode cJ8_hugeLength_7cf53 48 = .ok (.athrow, 1) := by decide +kernel
theorem dJ8_hugeLength_7cf53_49 : decode cJ8_hugeLength_7cf53 49 = .ok (.iload_n 2, 1) := by decide +kernel
theorem dJ8_hugeLength_7cf53_50 : decode cJ8_hugeLength_7cf53 50 = .ok (.ldc 200, 2) := by decide +kernel
theorem dJ8_hugeLength_7cf53_52 : decode cJ8_hugeLength_7cf53 52 = .ok (.if_icmp .gt 6, 3) := by decide +kernel
theorem dJ8_hugeLength_7cf53_55 : decode cJ8_hugeLength_7cf53 55 = .ok (.ldc 200, 2) := by decide +kernel
theorem dJ8_hugeLength_7cf53_57 : decode cJ8_hugeLength_7cf53 57 = .ok (.ireturn, 1) := by decide +kernel
theorem dJ8_hugeLength_7cf53_58 : decode cJ8_hugeLength_7cf53 58 = .ok (.iload_n 2, 1) := by decide +kernel
theorem dJ8_hugeLength_7cf53_59 : decode cJ8_hugeLength_7cf53 59 = .ok (.ireturn, 1) := by decide +kernel

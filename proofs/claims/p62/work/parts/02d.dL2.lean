theorem dL_areMaps_448 : decode cL_areMaps 448 = .ok (.aload_n 0, 1) := by decide +kernel
theorem dL_areMaps_449 : decode cL_areMaps 449 = .ok (.invokevirtual 41, 3) := by decide +kernel
theorem dL_areMaps_452 : decode cL_areMaps 452 = .ok (.aload_n 0, 1) := by decide +kernel
theorem dL_areMaps_453 : decode cL_areMaps 453 = .ok (.invokevirtual 44, 3) := by decide +kernel
theorem dL_areMaps_456 : decode cL_areMaps 456 = .ok (.iadd, 1) := by decide +kernel
theorem dL_areMaps_457 : decode cL_areMaps 457 = .ok (.aload_n 0, 1) := by decide +kernel
theorem dL_areMaps_458 : decode cL_areMaps 458 = .ok (.invokevirtual 47, 3) := by decide +kernel
theorem dL_areMaps_461 : decode cL_areMaps 461 = .ok (.isub, 1) := by decide +kernel
theorem dL_areMaps_462 : decode cL_areMaps 462 = .ok (.if_icmp .ne 14, 3) := by decide +kernel
theorem dL_areMaps_465 : decode cL_areMaps 465 = .ok (.aload_n 0, 1) := by decide +kernel
theorem dL_areMaps_466 : decode cL_areMaps 466 = .ok (.invokevirtual 133, 3) := by decide +kernel
theorem dL_areMaps_469 : decode cL_areMaps 469 = .ok (.ifCond .ne 7, 3) := by decide +kernel
theorem dL_areMaps_472 : decode cL_areMaps 472 = .ok (.iconst 1, 1) := by decide +kernel
theorem dL_areMaps_473 : decode cL_areMaps 473 = .ok (.goto 4, 3) := by decide +kernel
theorem dL_areMaps_476 : decode cL_areMaps 476 = .ok (.iconst 0, 1) := by decide +kernel
theorem dL_areMaps_477 : decode cL_areMaps 477 = .ok (.ireturn, 1) := by decide +kernel
theorem dL_isFold_0 : decode cL_isFold 0 = .ok (.iload_n 2, 1) := by decide +kernel
theorem dL_isFold_1 : decode cL_isFold 1 = .ok (.bipush 101, 2) := by decide +kernel
theorem dL_isFold_3 : decode cL_isFold 3 = .ok (.invokestatic 136, 3) := by decide +kernel
theorem dL_isFold_6 : decode cL_isFold 6 = .ok (.bipush 50, 2) := by decide +kernel
theorem dL_isFold_8 : decode cL_isFold 8 = .ok (.isub, 1) := by decide +kernel
theorem dL_isFold_9 : decode cL_isFold 9 = .ok (.istore_n 3, 1) := by decide +kernel
theorem dL_isFold_10 : decode cL_isFold 10 = .ok (.aload_n 0, 1) := by decide +kernel
theorem dL_isFold_11 : decode cL_isFold 11 = .ok (.iload_n 1, 1) := by decide +kernel
theorem dL_isFold_12 : decode cL_isFold 12 = .ok (.iload_n 3, 1) := by decide +kernel
theorem dL_isFold_13 : decode cL_isFold 13 = .ok (.invokevirtual 139, 3) := by decide +kernel
theorem dL_isFold_16 : decode cL_isFold 16 = .ok (.istore 4, 2) := by decide +kernel
theorem dL_isFold_18 : decode cL_isFold 18 = .ok (.aload_n 0, 1) := by decide +kernel
theorem dL_isFold_19 : decode cL_isFold 19 = .ok (.iload_n 1, 1) := by decide +kernel
theorem dL_isFold_20 : decode cL_isFold 20 = .ok (.invokevirtual 33, 3) := by decide +kernel
theorem dL_isFold_23 : decode cL_isFold 23 = .ok (.istore 5, 2) := by decide +kernel
theorem dL_isFold_25 : decode cL_isFold 25 = .ok (.aload_n 0, 1) := by decide +kernel
theorem dL_isFold_26 : decode cL_isFold 26 = .ok (.iload_n 1, 1) := by decide +kernel
theorem dL_isFold_27 : decode cL_isFold 27 = .ok (.invokevirtual 50, 3) := by decide +kernel
theorem dL_isFold_30 : decode cL_isFold 30 = .ok (.ifCond .eq 10, 3) := by decide +kernel
theorem dL_isFold_33 : decode cL_isFold 33 = .ok (.iconst 2, 1) := by decide +kernel
theorem dL_isFold_34 : decode cL_isFold 34 = .ok (.iload 5, 2) := by decide +kernel
theorem dL_isFold_36 : decode cL_isFold 36 = .ok (.imul, 1) := by decide +kernel
theorem dL_isFold_37 : decode cL_isFold 37 = .ok (.goto 9, 3) := by decide +kernel
theorem dL_isFold_40 : decode cL_isFold 40 = .ok (.iconst 2, 1) := by decide +kernel
theorem dL_isFold_41 : decode cL_isFold 41 = .ok (.iload 5, 2) := by decide +kernel
theorem dL_isFold_43 : decode cL_isFold 43 = .ok (.imul, 1) := by decide +kernel
theorem dL_isFold_44 : decode cL_isFold 44 = .ok (.iconst 1, 1) := by decide +kernel
theorem dL_isFold_45 : decode cL_isFold 45 = .ok (.isub, 1) := by decide +kernel
theorem dL_isFold_46 : decode cL_isFold 46 = .ok (.istore 6, 2) := by decide +kernel
theorem dL_isFold_48 : decode cL_isFold 48 = .ok (.iload 4, 2) := by decide +kernel
theorem dL_isFold_50 : decode cL_isFold 50 = .ok (.iconst 1, 1) := by decide +kernel
theorem dL_isFold_51 : decode cL_isFold 51 = .ok (.if_icmp .ne 7, 3) := by decide +kernel
theorem dL_isFold_54 : decode cL_isFold 54 = .ok (.iconst 1, 1) := by decide +kernel
theorem dL_isFold_55 : decode cL_isFold 55 = .ok (.goto 4, 3) := by decide +kernel
theorem dL_isFold_58 : decode cL_isFold 58 = .ok (.iconst 0, 1) := by decide +kernel
theorem dL_isFold_59 : decode cL_isFold 59 = .ok (.iload 6, 2) := by decide +kernel
theorem dL_isFold_61 : decode cL_isFold 61 = .ok (.sipush 129, 3) := by decide +kernel
theorem dL_isFold_64 : decode cL_isFold 64 = .ok (.if_icmp .le 7, 3) := by decide +kernel
theorem dL_isFold_67 : decode cL_isFold 67 = .ok (.iconst 1, 1) := by decide +kernel
theorem dL_isFold_68 : decode cL_isFold 68 = .ok (.goto 4, 3) := by decide +kernel
theorem dL_isFold_71 : decode cL_isFold 71 = .ok (.iconst 0, 1) := by decide +kernel
theorem dL_isFold_72 : decode cL_isFold 72 = .ok (.if_icmp .eq 5, 3) := by decide +kernel
theorem dL_isFold_75 : decode cL_isFold 75 = .ok (.iconst 0, 1) := by decide +kernel
theorem dL_isFold_76 : decode cL_isFold 76 = .ok (.ireturn, 1) := by decide +kernel
theorem dL_isFold_77 : decode cL_isFold 77 = .ok (.iload 5, 2) := by decide +kernel
theorem dL_isFold_79 : decode cL_isFold 79 = .ok (.bipush 24, 2) := by decide +kernel
theorem dL_isFold_81 : decode cL_isFold 81 = .ok (.if_icmp .le 5, 3) := by decide +kernel
theorem dL_isFold_84 : decode cL_isFold 84 = .ok (.iconst 1, 1) := by decide +kernel
theorem dL_isFold_85 : decode cL_isFold 85 = .ok (.ireturn, 1) := by decide +kernel
theorem dL_isFold_86 : decode cL_isFold 86 = .ok (.iload 4, 2) := by decide +kernel
theorem dL_isFold_88 : decode cL_isFold 88 = .ok (.ifCond .le 20, 3) := by decide +kernel
theorem dL_isFold_91 : decode cL_isFold 91 = .ok (.aload_n 0, 1) := by decide +kernel
theorem dL_isFold_92 : decode cL_isFold 92 = .ok (.iload_n 1, 1) := by decide +kernel
theorem dL_isFold_93 : decode cL_isFold 93 = .ok (.iload_n 3, 1) := by decide +kernel
theorem dL_isFold_94 : decode cL_isFold 94 = .ok (.iconst 0, 1) := by decide +kernel
theorem dL_isFold_95 : decode cL_isFold 95 = .ok (.invokevirtual 142, 3) := by decide +kernel
theorem dL_isFold_98 : decode cL_isFold 98 = .ok (.iconst (-1), 1) := by decide +kernel
theorem dL_isFold_99 : decode cL_isFold 99 = .ok (.if_icmp .ne 7, 3) := by decide +kernel
theorem dL_isFold_102 : decode cL_isFold 102 = .ok (.iconst 1, 1) := by decide +kernel
theorem dL_isFold_103 : decode cL_isFold 103 = .ok (.goto 4, 3) := by decide +kernel
theorem dL_isFold_106 : decode cL_isFold 106 = .ok (.iconst 0, 1) := by decide +kernel
theorem dL_isFold_107 : decode cL_isFold 107 = .ok (.ireturn, 1) := by decide +kernel
theorem dL_isFold_108 : decode cL_isFold 108 = .ok (.aload_n 0, 1) := by decide +kernel
theorem dL_isFold_109 : decode cL_isFold 109 = .ok (.invokestatic 145, 3) := by decide +kernel
theorem dL_isFold_112 : decode cL_isFold 112 = .ok (.astore 7, 2) := by decide +kernel
theorem dL_isFold_114 : decode cL_isFold 114 = .ok (.aload_n 0, 1) := by decide +kernel
theorem dL_isFold_115 : decode cL_isFold 115 = .ok (.iload_n 1, 1) := by decide +kernel
theorem dL_isFold_116 : decode cL_isFold 116 = .ok (.iconst 0, 1) := by decide +kernel
theorem dL_isFold_117 : decode cL_isFold 117 = .ok (.invokevirtual 77, 3) := by decide +kernel
theorem dL_isFold_120 : decode cL_isFold 120 = .ok (.istore 8, 2) := by decide +kernel
theorem dL_isFold_122 : decode cL_isFold 122 = .ok (.aload_n 0, 1) := by decide +kernel
theorem dL_isFold_123 : decode cL_isFold 123 = .ok (.iload_n 1, 1) := by decide +kernel
theorem dL_isFold_124 : decode cL_isFold 124 = .ok (.iload_n 3, 1) := by decide +kernel
theorem dL_isFold_125 : decode cL_isFold 125 = .ok (.iconst 0, 1) := by decide +kernel
theorem dL_isFold_126 : decode cL_isFold 126 = .ok (.invokevirtual 142, 3) := by decide +kernel
theorem dL_isFold_129 : decode cL_isFold 129 = .ok (.istore 9, 2) := by decide +kernel
theorem dL_isFold_131 : decode cL_isFold 131 = .ok (.aload_n 0, 1) := by decide +kernel
theorem dL_isFold_132 : decode cL_isFold 132 = .ok (.iload_n 1, 1) := by decide +kernel
theorem dL_isFold_133 : decode cL_isFold 133 = .ok (.iload_n 3, 1) := by decide +kernel
theorem dL_isFold_134 : decode cL_isFold 134 = .ok (.iconst 1, 1) := by decide +kernel
theorem dL_isFold_135 : decode cL_isFold 135 = .ok (.invokevirtual 142, 3) := by decide +kernel
theorem dL_isFold_138 : decode cL_isFold 138 = .ok (.iload 8, 2) := by decide +kernel
theorem dL_isFold_140 : decode cL_isFold 140 = .ok (.if_icmp .ne 64, 3) := by decide +kernel
theorem dL_isFold_143 : decode cL_isFold 143 = .ok (.iload 9, 2) := by decide +kernel
theorem dL_isFold_145 : decode cL_isFold 145 = .ok (.iload 8, 2) := by decide +kernel
theorem dL_isFold_147 : decode cL_isFold 147 = .ok (.if_icmp .lt 57, 3) := by decide +kernel
theorem dL_isFold_150 : decode cL_isFold 150 = .ok (.aload_n 0, 1) := by decide +kernel
theorem dL_isFold_151 : decode cL_isFold 151 = .ok (.iload_n 1, 1) := by decide +kernel
theorem dL_isFold_152 : decode cL_isFold 152 = .ok (.iload_n 3, 1) := by decide +kernel
theorem dL_isFold_153 : decode cL_isFold 153 = .ok (.invokevirtual 149, 3) := by decide +kernel
theorem dL_isFold_156 : decode cL_isFold 156 = .ok (.iload 6, 2) := by decide +kernel
theorem dL_isFold_158 : decode cL_isFold 158 = .ok (.if_icmp .ne 46, 3) := by decide +kernel
theorem dL_isFold_161 : decode cL_isFold 161 = .ok (.aload_n 0, 1) := by decide +kernel
theorem dL_isFold_162 : decode cL_isFold 162 = .ok (.iload_n 1, 1) := by decide +kernel
theorem dL_isFold_163 : decode cL_isFold 163 = .ok (.iconst 0, 1) := by decide +kernel
theorem dL_isFold_164 : decode cL_isFold 164 = .ok (.invokevirtual 77, 3) := by decide +kernel
theorem dL_isFold_167 : decode cL_isFold 167 = .ok (.iload 9, 2) := by decide +kernel
theorem dL_isFold_169 : decode cL_isFold 169 = .ok (.if_icmp .ne 35, 3) := by decide +kernel
theorem dL_isFold_172 : decode cL_isFold 172 = .ok (.aload_n 0, 1) := by decide +kernel
theorem dL_isFold_173 : decode cL_isFold 173 = .ok (.iload_n 1, 1) := by decide +kernel
theorem dL_isFold_174 : decode cL_isFold 174 = .ok (.iconst 1, 1) := by decide +kernel
theorem dL_isFold_175 : decode cL_isFold 175 = .ok (.invokevirtual 77, 3) := by decide +kernel
theorem dL_isFold_178 : decode cL_isFold 178 = .ok (.iload 8, 2) := by decide +kernel
theorem dL_isFold_180 : decode cL_isFold 180 = .ok (.if_icmp .ne 24, 3) := by decide +kernel
theorem dL_isFold_183 : decode cL_isFold 183 = .ok (.aload_n 0, 1) := by decide +kernel
theorem dL_isFold_184 : decode cL_isFold 184 = .ok (.iload_n 1, 1) := by decide +kernel
theorem dL_isFold_185 : decode cL_isFold 185 = .ok (.invokevirtual 152, 3) := by decide +kernel
theorem dL_isFold_188 : decode cL_isFold 188 = .ok (.iload 5, 2) := by decide +kernel
theorem dL_isFold_190 : decode cL_isFold 190 = .ok (.if_icmp .ne 14, 3) := by decide +kernel
theorem dL_isFold_193 : decode cL_isFold 193 = .ok (.aload_n 0, 1) := by decide +kernel
theorem dL_isFold_194 : decode cL_isFold 194 = .ok (.iload_n 1, 1) := by decide +kernel
theorem dL_isFold_195 : decode cL_isFold 195 = .ok (.iconst 0, 1) := by decide +kernel
theorem dL_isFold_196 : decode cL_isFold 196 = .ok (.invokevirtual 77, 3) := by decide +kernel
theorem dL_isFold_199 : decode cL_isFold 199 = .ok (.iload 8, 2) := by decide +kernel
theorem dL_isFold_201 : decode cL_isFold 201 = .ok (.if_icmp .eq 5, 3) := by decide +kernel
theorem dL_isFold_204 : decode cL_isFold 204 = .ok (.iconst 0, 1) := by decide +kernel
theorem dL_isFold_205 : decode cL_isFold 205 = .ok (.ireturn, 1) := by decide +kernel
theorem dL_isFold_206 : decode cL_isFold 206 = .ok (.iconst 0, 1) := by decide +kernel
theorem dL_isFold_207 : decode cL_isFold 207 = .ok (.istore 10, 2) := by decide +kernel
theorem dL_isFold_209 : decode cL_isFold 209 = .ok (.iload 10, 2) := by decide +kernel
theorem dL_isFold_211 : decode cL_isFold 211 = .ok (.iload 5, 2) := by decide +kernel
theorem dL_isFold_213 : decode cL_isFold 213 = .ok (.if_icmp .ge 55, 3) := by decide +kernel
theorem dL_isFold_216 : decode cL_isFold 216 = .ok (.aload_n 0, 1) := by decide +kernel
theorem dL_isFold_217 : decode cL_isFold 217 = .ok (.iload_n 1, 1) := by decide +kernel
theorem dL_isFold_218 : decode cL_isFold 218 = .ok (.iload 10, 2) := by decide +kernel
theorem dL_isFold_220 : decode cL_isFold 220 = .ok (.invokevirtual 54, 3) := by decide +kernel
theorem dL_isFold_223 : decode cL_isFold 223 = .ok (.aload 7, 2) := by decide +kernel
theorem dL_isFold_225 : decode cL_isFold 225 = .ok (.aload 7, 2) := by decide +kernel
theorem dL_isFold_227 : decode cL_isFold 227 = .ok (.iload_n 1, 1) := by decide +kernel
theorem dL_isFold_228 : decode cL_isFold 228 = .ok (.iload 10, 2) := by decide +kernel
theorem dL_isFold_230 : decode cL_isFold 230 = .ok (.invokestatic 155, 3) := by decide +kernel
theorem dL_isFold_233 : decode cL_isFold 233 = .ok (.iaload, 1) := by decide +kernel
theorem dL_isFold_234 : decode cL_isFold 234 = .ok (.if_icmp .ne 26, 3) := by decide +kernel
theorem dL_isFold_237 : decode cL_isFold 237 = .ok (.aload_n 0, 1) := by decide +kernel
theorem dL_isFold_238 : decode cL_isFold 238 = .ok (.iload_n 1, 1) := by decide +kernel
theorem dL_isFold_239 : decode cL_isFold 239 = .ok (.iload 10, 2) := by decide +kernel
theorem dL_isFold_241 : decode cL_isFold 241 = .ok (.invokevirtual 58, 3) := by decide +kernel
theorem dL_isFold_244 : decode cL_isFold 244 = .ok (.aload 7, 2) := by decide +kernel
theorem dL_isFold_246 : decode cL_isFold 246 = .ok (.aload 7, 2) := by decide +kernel
theorem dL_isFold_248 : decode cL_isFold 248 = .ok (.iload_n 1, 1) := by decide +kernel
theorem dL_isFold_249 : decode cL_isFold 249 = .ok (.iload 10, 2) := by decide +kernel
theorem dL_isFold_251 : decode cL_isFold 251 = .ok (.invokestatic 155, 3) := by decide +kernel
theorem dL_isFold_254 : decode cL_isFold 254 = .ok (.iconst 1, 1) := by decide +kernel
theorem dL_isFold_255 : decode cL_isFold 255 = .ok (.iadd, 1) := by decide +kernel
theorem dL_isFold_256 : decode cL_isFold 256 = .ok (.iaload, 1) := by decide +kernel
theorem dL_isFold_257 : decode cL_isFold 257 = .ok (.if_icmp .eq 5, 3) := by decide +kernel
theorem dL_isFold_260 : decode cL_isFold 260 = .ok (.iconst 0, 1) := by decide +kernel
theorem dL_isFold_261 : decode cL_isFold 261 = .ok (.ireturn, 1) := by decide +kernel
theorem dL_isFold_262 : decode cL_isFold 262 = .ok (.iinc 10 1, 3) := by decide +kernel
theorem dL_isFold_265 : decode cL_isFold 265 = .ok (.goto (-56), 3) := by decide +kernel
theorem dL_isFold_268 : decode cL_isFold 268 = .ok (.aload_n 0, 1) := by decide +kernel
theorem dL_isFold_269 : decode cL_isFold 269 = .ok (.invokevirtual 159, 3) := by decide +kernel
theorem dL_isFold_272 : decode cL_isFold 272 = .ok (.ifCond .lt 26, 3) := by decide +kernel
theorem dL_isFold_275 : decode cL_isFold 275 = .ok (.aload_n 0, 1) := by decide +kernel
theorem dL_isFold_276 : decode cL_isFold 276 = .ok (.invokevirtual 159, 3) := by decide +kernel
theorem dL_isFold_279 : decode cL_isFold 279 = .ok (.ifCond .lt 19, 3) := by decide +kernel
theorem dL_isFold_282 : decode cL_isFold 282 = .ok (.aload_n 0, 1) := by decide +kernel
theorem dL_isFold_283 : decode cL_isFold 283 = .ok (.invokestatic 145, 3) := by decide +kernel
theorem dL_isFold_286 : decode cL_isFold 286 = .ok (.aload 7, 2) := by decide +kernel
theorem dL_isFold_288 : decode cL_isFold 288 = .ok (.invokestatic 162, 3) := by decide +kernel
theorem dL_isFold_291 : decode cL_isFold 291 = .ok (.ifCond .eq 7, 3) := by decide +kernel
theorem dL_isFold_294 : decode cL_isFold 294 = .ok (.iconst 1, 1) := by decide +kernel
theorem dL_isFold_295 : decode cL_isFold 295 = .ok (.goto 4, 3) := by decide +kernel
theorem dL_isFold_298 : decode cL_isFold 298 = .ok (.iconst 0, 1) := by decide +kernel
theorem dL_isFold_299 : decode cL_isFold 299 = .ok (.ireturn, 1) := by decide +kernel
theorem dL_at_0 : decode cL_at 0 = .ok (.iconst 5, 1) := by decide +kernel
theorem dL_at_1 : decode cL_at 1 = .ok (.istore_n 3, 1) := by decide +kernel
theorem dL_at_2 : decode cL_at 2 = .ok (.iconst 0, 1) := by decide +kernel
theorem dL_at_3 : decode cL_at 3 = .ok (.istore 4, 2) := by decide +kernel
theorem dL_at_5 : decode cL_at 5 = .ok (.iload 4, 2) := by decide +kernel
theorem dL_at_7 : decode cL_at 7 = .ok (.iload_n 1, 1) := by decide +kernel
theorem dL_at_8 : decode cL_at 8 = .ok (.if_icmp .ge 21, 3) := by decide +kernel
theorem dL_at_11 : decode cL_at 11 = .ok (.iload_n 3, 1) := by decide +kernel
theorem dL_at_12 : decode cL_at 12 = .ok (.iconst 2, 1) := by decide +kernel
theorem dL_at_13 : decode cL_at 13 = .ok (.iconst 2, 1) := by decide +kernel
theorem dL_at_14 : decode cL_at 14 = .ok (.aload_n 0, 1) := by decide +kernel
theorem dL_at_15 : decode cL_at 15 = .ok (.iload_n 3, 1) := by decide +kernel
theorem dL_at_16 : decode cL_at 16 = .ok (.iconst 1, 1) := by decide +kernel
theorem dL_at_17 : decode cL_at 17 = .ok (.iadd, 1) := by decide +kernel
theorem dL_at_18 : decode cL_at 18 = .ok (.iaload, 1) := by decide +kernel
theorem dL_at_19 : decode cL_at 19 = .ok (.imul, 1) := by decide +kernel
theorem dL_at_20 : decode cL_at 20 = .ok (.iadd, 1) := by decide +kernel
theorem dL_at_21 : decode cL_at 21 = .ok (.iadd, 1) := by decide +kernel
theorem dL_at_22 : decode cL_at 22 = .ok (.istore_n 3, 1) := by decide +kernel
theorem dL_at_23 : decode cL_at 23 = .ok (.iinc 4 1, 3) := by decide +kernel
theorem dL_at_26 : decode cL_at 26 = .ok (.goto (-21), 3) := by decide +kernel
theorem dL_at_29 : decode cL_at 29 = .ok (.iload_n 3, 1) := by decide +kernel
theorem dL_at_30 : decode cL_at 30 = .ok (.iconst 2, 1) := by decide +kernel
theorem dL_at_31 : decode cL_at 31 = .ok (.iadd, 1) := by decide +kernel
theorem dL_at_32 : decode cL_at 32 = .ok (.iconst 2, 1) := by decide +kernel
theorem dL_at_33 : decode cL_at 33 = .ok (.iload_n 2, 1) := by decide +kernel
theorem dL_at_34 : decode cL_at 34 = .ok (.imul, 1) := by decide +kernel
theorem dL_at_35 : decode cL_at 35 = .ok (.iadd, 1) := by decide +kernel
theorem dL_at_36 : decode cL_at 36 = .ok (.ireturn, 1) := by decide +kernel
theorem dL_act_0 : decode cL_act 0 = .ok (.iload_n 2, 1) := by decide +kernel
theorem dL_act_1 : decode cL_act 1 = .ok (.bipush 18, 2) := by decide +kernel
theorem dL_act_3 : decode cL_act 3 = .ok (.invokestatic 136, 3) := by decide +kernel
theorem dL_act_6 : decode cL_act 6 = .ok (.istore_n 3, 1) := by decide +kernel
theorem dL_act_7 : decode cL_act 7 = .ok (.iload_n 2, 1) := by decide +kernel
theorem dL_act_8 : decode cL_act 8 = .ok (.iconst 4, 1) := by decide +kernel
theorem dL_act_9 : decode cL_act 9 = .ok (.ishr, 1) := by decide +kernel
theorem dL_act_10 : decode cL_act 10 = .ok (.istore 4, 2) := by decide +kernel
theorem dL_act_12 : decode cL_act 12 = .ok (.aload_n 0, 1) := by decide +kernel
theorem dL_act_13 : decode cL_act 13 = .ok (.invokevirtual 30, 3) := by decide +kernel
theorem dL_act_16 : decode cL_act 16 = .ok (.istore 5, 2) := by decide +kernel
theorem dL_act_18 : decode cL_act 18 = .ok (.iload 5, 2) := by decide +kernel
theorem dL_act_20 : decode cL_act 20 = .ok (.ifCond .ne 7, 3) := by decide +kernel
theorem dL_act_23 : decode cL_act 23 = .ok (.iconst 0, 1) := by decide +kernel
theorem dL_act_24 : decode cL_act 24 = .ok (.goto 10, 3) := by decide +kernel
theorem dL_act_27 : decode cL_act 27 = .ok (.iload 4, 2) := by decide +kernel
theorem dL_act_29 : decode cL_act 29 = .ok (.iload 5, 2) := by decide +kernel
theorem dL_act_31 : decode cL_act 31 = .ok (.invokestatic 136, 3) := by decide +kernel
theorem dL_act_34 : decode cL_act 34 = .ok (.istore 6, 2) := by decide +kernel
theorem dL_act_36 : decode cL_act 36 = .ok (.iload 5, 2) := by decide +kernel
theorem dL_act_38 : decode cL_act 38 = .ok (.ifCond .eq 15, 3) := by decide +kernel
theorem dL_act_41 : decode cL_act 41 = .ok (.iload_n 3, 1) := by decide +kernel
theorem dL_act_42 : decode cL_act 42 = .ok (.iconst 2, 1) := by decide +kernel
theorem dL_act_43 : decode cL_act 43 = .ok (.if_icmp .ge 220, 3) := by decide +kernel
theorem dL_act_46 : decode cL_act 46 = .ok (.iload 5, 2) := by decide +kernel
theorem dL_act_48 : decode cL_act 48 = .ok (.bipush 6, 2) := by decide +kernel
theorem dL_act_50 : decode cL_act 50 = .ok (.if_icmp .ge 213, 3) := by decide +kernel
theorem dL_act_53 : decode cL_act 53 = .ok (.iload 4, 2) := by decide +kernel
theorem dL_act_55 : decode cL_act 55 = .ok (.iconst 2, 1) := by decide +kernel
theorem dL_act_56 : decode cL_act 56 = .ok (.invokestatic 136, 3) := by decide +kernel
theorem dL_act_59 : decode cL_act 59 = .ok (.ifCond .ne 7, 3) := by decide +kernel
theorem dL_act_62 : decode cL_act 62 = .ok (.iconst 1, 1) := by decide +kernel
theorem dL_act_63 : decode cL_act 63 = .ok (.goto 4, 3) := by decide +kernel
theorem dL_act_66 : decode cL_act 66 = .ok (.iconst 0, 1) := by decide +kernel
theorem dL_act_67 : decode cL_act 67 = .ok (.istore 7, 2) := by decide +kernel
theorem dL_act_69 : decode cL_act 69 = .ok (.new 166, 3) := by decide +kernel
theorem dL_act_72 : decode cL_act 72 = .ok (.dup, 1) := by decide +kernel
theorem dL_act_73 : decode cL_act 73 = .ok (.invokespecial 168, 3) := by decide +kernel
theorem dL_act_76 : decode cL_act 76 = .ok (.iload 7, 2) := by decide +kernel
theorem dL_act_78 : decode cL_act 78 = .ok (.ifCond .eq 8, 3) := by decide +kernel
theorem dL_act_81 : decode cL_act 81 = .ok (.ldc 169, 2) := by decide +kernel
theorem dL_act_83 : decode cL_act 83 = .ok (.goto 5, 3) := by decide +kernel
theorem dL_act_86 : decode cL_act 86 = .ok (.ldc 171, 2) := by decide +kernel
theorem dL_act_88 : decode cL_act 88 = .ok (.invokevirtual 173, 3) := by decide +kernel
theorem dL_act_91 : decode cL_act 91 = .ok (.iload 4, 2) := by decide +kernel
theorem dL_act_93 : decode cL_act 93 = .ok (.bipush 90, 2) := by decide +kernel
theorem dL_act_95 : decode cL_act 95 = .ok (.invokestatic 136, 3) := by decide +kernel
theorem dL_act_98 : decode cL_act 98 = .ok (.invokevirtual 177, 3) := by decide +kernel
theorem dL_act_101 : decode cL_act 101 = .ok (.ldc 180, 2) := by decide +kernel
theorem dL_act_103 : decode cL_act 103 = .ok (.invokevirtual 173, 3) := by decide +kernel
theorem dL_act_106 : decode cL_act 106 = .ok (.iload 4, 2) := by decide +kernel
theorem dL_act_108 : decode cL_act 108 = .ok (.iconst 1, 1) := by decide +kernel
theorem dL_act_109 : decode cL_act 109 = .ok (.ishr, 1) := by decide +kernel
theorem dL_act_110 : decode cL_act 110 = .ok (.bipush 90, 2) := by decide +kernel
theorem dL_act_112 : decode cL_act 112 = .ok (.invokestatic 136, 3) := by decide +kernel
theorem dL_act_115 : decode cL_act 115 = .ok (.invokevirtual 177, 3) := by decide +kernel
theorem dL_act_118 : decode cL_act 118 = .ok (.ldc 182, 2) := by decide +kernel
theorem dL_act_120 : decode cL_act 120 = .ok (.invokevirtual 173, 3) := by decide +kernel
theorem dL_act_123 : decode cL_act 123 = .ok (.iload 4, 2) := by decide +kernel
theorem dL_act_125 : decode cL_act 125 = .ok (.iconst 2, 1) := by decide +kernel
theorem dL_act_126 : decode cL_act 126 = .ok (.ishr, 1) := by decide +kernel
theorem dL_act_127 : decode cL_act 127 = .ok (.bipush 90, 2) := by decide +kernel
theorem dL_act_129 : decode cL_act 129 = .ok (.invokestatic 136, 3) := by decide +kernel
theorem dL_act_132 : decode cL_act 132 = .ok (.invokevirtual 177, 3) := by decide +kernel
theorem dL_act_135 : decode cL_act 135 = .ok (.ldc 180, 2) := by decide +kernel
theorem dL_act_137 : decode cL_act 137 = .ok (.invokevirtual 173, 3) := by decide +kernel
theorem dL_act_140 : decode cL_act 140 = .ok (.iload 4, 2) := by decide +kernel
theorem dL_act_142 : decode cL_act 142 = .ok (.iconst 3, 1) := by decide +kernel
theorem dL_act_143 : decode cL_act 143 = .ok (.ishr, 1) := by decide +kernel
theorem dL_act_144 : decode cL_act 144 = .ok (.bipush 90, 2) := by decide +kernel
theorem dL_act_146 : decode cL_act 146 = .ok (.invokestatic 136, 3) := by decide +kernel
theorem dL_act_149 : decode cL_act 149 = .ok (.invokevirtual 177, 3) := by decide +kernel
theorem dL_act_152 : decode cL_act 152 = .ok (.ldc 182, 2) := by decide +kernel
theorem dL_act_154 : decode cL_act 154 = .ok (.invokevirtual 173, 3) := by decide +kernel
theorem dL_act_157 : decode cL_act 157 = .ok (.iload 4, 2) := by decide +kernel
theorem dL_act_159 : decode cL_act 159 = .ok (.iconst 4, 1) := by decide +kernel
theorem dL_act_160 : decode cL_act 160 = .ok (.ishr, 1) := by decide +kernel
theorem dL_act_161 : decode cL_act 161 = .ok (.bipush 90, 2) := by decide +kernel
theorem dL_act_163 : decode cL_act 163 = .ok (.invokestatic 136, 3) := by decide +kernel
theorem dL_act_166 : decode cL_act 166 = .ok (.invokevirtual 177, 3) := by decide +kernel
theorem dL_act_169 : decode cL_act 169 = .ok (.ldc 184, 2) := by decide +kernel
theorem dL_act_171 : decode cL_act 171 = .ok (.invokevirtual 173, 3) := by decide +kernel
theorem dL_act_174 : decode cL_act 174 = .ok (.iload 4, 2) := by decide +kernel
theorem dL_act_176 : decode cL_act 176 = .ok (.iconst 5, 1) := by decide +kernel
theorem dL_act_177 : decode cL_act 177 = .ok (.ishr, 1) := by decide +kernel
theorem dL_act_178 : decode cL_act 178 = .ok (.bipush 90, 2) := by decide +kernel
theorem dL_act_180 : decode cL_act 180 = .ok (.invokestatic 136, 3) := by decide +kernel
theorem dL_act_183 : decode cL_act 183 = .ok (.invokevirtual 177, 3) := by decide +kernel
theorem dL_act_186 : decode cL_act 186 = .ok (.invokevirtual 186, 3) := by decide +kernel
theorem dL_act_189 : decode cL_act 189 = .ok (.astore 8, 2) := by decide +kernel
theorem dL_act_191 : decode cL_act 191 = .ok (.aload_n 0, 1) := by decide +kernel
theorem dL_act_192 : decode cL_act 192 = .ok (.invokevirtual 44, 3) := by decide +kernel
theorem dL_act_195 : decode cL_act 195 = .ok (.istore 9, 2) := by decide +kernel
theorem dL_act_197 : decode cL_act 197 = .ok (.aload_n 0, 1) := by decide +kernel
theorem dL_act_198 : decode cL_act 198 = .ok (.aload_n 1, 1) := by decide +kernel
theorem dL_act_199 : decode cL_act 199 = .ok (.aload 8, 2) := by decide +kernel
theorem dL_act_201 : decode cL_act 201 = .ok (.invokestatic 190, 3) := by decide +kernel
theorem dL_act_204 : decode cL_act 204 = .ok (.aload_n 0, 1) := by decide +kernel
theorem dL_act_205 : decode cL_act 205 = .ok (.aload_n 0, 1) := by decide +kernel
theorem dL_act_206 : decode cL_act 206 = .ok (.aload_n 1, 1) := by decide +kernel
theorem dL_act_207 : decode cL_act 207 = .ok (.invokestatic 194, 3) := by decide +kernel
theorem dL_act_210 : decode cL_act 210 = .ok (.invokevirtual 198, 3) := by decide +kernel
theorem dL_act_213 : decode cL_act 213 = .ok (.iload 5, 2) := by decide +kernel
theorem dL_act_215 : decode cL_act 215 = .ok (.if_icmp .ne 46, 3) := by decide +kernel
theorem dL_act_218 : decode cL_act 218 = .ok (.aload_n 0, 1) := by decide +kernel
theorem dL_act_219 : decode cL_act 219 = .ok (.iload 5, 2) := by decide +kernel
theorem dL_act_221 : decode cL_act 221 = .ok (.invokevirtual 33, 3) := by decide +kernel
theorem dL_act_224 : decode cL_act 224 = .ok (.iconst 3, 1) := by decide +kernel
theorem dL_act_225 : decode cL_act 225 = .ok (.if_icmp .ne 36, 3) := by decide +kernel
theorem dL_act_228 : decode cL_act 228 = .ok (.aload_n 0, 1) := by decide +kernel
theorem dL_act_229 : decode cL_act 229 = .ok (.iload 5, 2) := by decide +kernel
theorem dL_act_231 : decode cL_act 231 = .ok (.invokevirtual 50, 3) := by decide +kernel
theorem dL_act_234 : decode cL_act 234 = .ok (.iload 7, 2) := by decide +kernel
theorem dL_act_236 : decode cL_act 236 = .ok (.if_icmp .ne 25, 3) := by decide +kernel
theorem dL_act_239 : decode cL_act 239 = .ok (.aload_n 0, 1) := by decide +kernel
theorem dL_act_240 : decode cL_act 240 = .ok (.invokevirtual 44, 3) := by decide +kernel
theorem dL_act_243 : decode cL_act 243 = .ok (.iload 9, 2) := by decide +kernel
theorem dL_act_245 : decode cL_act 245 = .ok (.iconst 3, 1) := by decide +kernel
theorem dL_act_246 : decode cL_act 246 = .ok (.iadd, 1) := by decide +kernel
theorem dL_act_247 : decode cL_act 247 = .ok (.if_icmp .ne 14, 3) := by decide +kernel
theorem dL_act_250 : decode cL_act 250 = .ok (.aload_n 0, 1) := by decide +kernel
theorem dL_act_251 : decode cL_act 251 = .ok (.invokevirtual 201, 3) := by decide +kernel
theorem dL_act_254 : decode cL_act 254 = .ok (.ifCond .ne 7, 3) := by decide +kernel
theorem dL_act_257 : decode cL_act 257 = .ok (.iconst 1, 1) := by decide +kernel
theorem dL_act_258 : decode cL_act 258 = .ok (.goto 4, 3) := by decide +kernel
theorem dL_act_261 : decode cL_act 261 = .ok (.iconst 0, 1) := by decide +kernel
theorem dL_act_262 : decode cL_act 262 = .ok (.ireturn, 1) := by decide +kernel
theorem dL_act_263 : decode cL_act 263 = .ok (.aload_n 0, 1) := by decide +kernel
theorem dL_act_264 : decode cL_act 264 = .ok (.iload 6, 2) := by decide +kernel
theorem dL_act_266 : decode cL_act 266 = .ok (.invokevirtual 33, 3) := by decide +kernel
theorem dL_act_269 : decode cL_act 269 = .ok (.istore 7, 2) := by decide +kernel
theorem dL_act_271 : decode cL_act 271 = .ok (.iload 4, 2) := by decide +kernel
theorem dL_act_273 : decode cL_act 273 = .ok (.iconst 2, 1) := by decide +kernel
theorem dL_act_274 : decode cL_act 274 = .ok (.ishr, 1) := by decide +kernel
theorem dL_act_275 : decode cL_act 275 = .ok (.iload 7, 2) := by decide +kernel
theorem dL_act_277 : decode cL_act 277 = .ok (.invokestatic 136, 3) := by decide +kernel
theorem dL_act_280 : decode cL_act 280 = .ok (.istore 8, 2) := by decide +kernel
theorem dL_act_282 : decode cL_act 282 = .ok (.iload 4, 2) := by decide +kernel
theorem dL_act_284 : decode cL_act 284 = .ok (.iconst 1, 1) := by decide +kernel
theorem dL_act_285 : decode cL_act 285 = .ok (.ishr, 1) := by decide +kernel
theorem dL_act_286 : decode cL_act 286 = .ok (.sipush 161, 3) := by decide +kernel
theorem dL_act_289 : decode cL_act 289 = .ok (.invokestatic 136, 3) := by decide +kernel
theorem dL_act_292 : decode cL_act 292 = .ok (.bipush 80, 2) := by decide +kernel
theorem dL_act_294 : decode cL_act 294 = .ok (.isub, 1) := by decide +kernel
theorem dL_act_295 : decode cL_act 295 = .ok (.istore 9, 2) := by decide +kernel
theorem dL_act_297 : decode cL_act 297 = .ok (.iload 4, 2) := by decide +kernel
theorem dL_act_299 : decode cL_act 299 = .ok (.iconst 3, 1) := by decide +kernel
theorem dL_act_300 : decode cL_act 300 = .ok (.ishr, 1) := by decide +kernel
theorem dL_act_301 : decode cL_act 301 = .ok (.sipush 161, 3) := by decide +kernel
theorem dL_act_304 : decode cL_act 304 = .ok (.invokestatic 136, 3) := by decide +kernel

theorem dL_act_1025 : decode cL_act 1025 = .ok (.iload 6, 2) := by decide +kernel
theorem dL_act_1027 : decode cL_act 1027 = .ok (.iconst 0, 1) := by decide +kernel
theorem dL_act_1028 : decode cL_act 1028 = .ok (.invokevirtual 77, 3) := by decide +kernel
theorem dL_act_1031 : decode cL_act 1031 = .ok (.iload 11, 2) := by decide +kernel
theorem dL_act_1033 : decode cL_act 1033 = .ok (.if_icmp .ne 7, 3) := by decide +kernel
theorem dL_act_1036 : decode cL_act 1036 = .ok (.iconst 1, 1) := by decide +kernel
theorem dL_act_1037 : decode cL_act 1037 = .ok (.goto 4, 3) := by decide +kernel
theorem dL_act_1040 : decode cL_act 1040 = .ok (.iconst 0, 1) := by decide +kernel
theorem dL_act_1041 : decode cL_act 1041 = .ok (.ireturn, 1) := by decide +kernel
theorem dL_act_1042 : decode cL_act 1042 = .ok (.iload_n 3, 1) := by decide +kernel
theorem dL_act_1043 : decode cL_act 1043 = .ok (.bipush 15, 2) := by decide +kernel
theorem dL_act_1045 : decode cL_act 1045 = .ok (.if_icmp .ne 49, 3) := by decide +kernel
theorem dL_act_1048 : decode cL_act 1048 = .ok (.aload_n 0, 1) := by decide +kernel
theorem dL_act_1049 : decode cL_act 1049 = .ok (.invokevirtual 47, 3) := by decide +kernel
theorem dL_act_1052 : decode cL_act 1052 = .ok (.istore 11, 2) := by decide +kernel
theorem dL_act_1054 : decode cL_act 1054 = .ok (.aload_n 0, 1) := by decide +kernel
theorem dL_act_1055 : decode cL_act 1055 = .ok (.iload 6, 2) := by decide +kernel
theorem dL_act_1057 : decode cL_act 1057 = .ok (.invokevirtual 231, 3) := by decide +kernel
theorem dL_act_1060 : decode cL_act 1060 = .ok (.iload 7, 2) := by decide +kernel
theorem dL_act_1062 : decode cL_act 1062 = .ok (.if_icmp .ne 30, 3) := by decide +kernel
theorem dL_act_1065 : decode cL_act 1065 = .ok (.aload_n 0, 1) := by decide +kernel
theorem dL_act_1066 : decode cL_act 1066 = .ok (.invokevirtual 30, 3) := by decide +kernel
theorem dL_act_1069 : decode cL_act 1069 = .ok (.iload 5, 2) := by decide +kernel
theorem dL_act_1071 : decode cL_act 1071 = .ok (.iconst 1, 1) := by decide +kernel
theorem dL_act_1072 : decode cL_act 1072 = .ok (.isub, 1) := by decide +kernel
theorem dL_act_1073 : decode cL_act 1073 = .ok (.if_icmp .ne 19, 3) := by decide +kernel
theorem dL_act_1076 : decode cL_act 1076 = .ok (.aload_n 0, 1) := by decide +kernel
theorem dL_act_1077 : decode cL_act 1077 = .ok (.invokevirtual 47, 3) := by decide +kernel
theorem dL_act_1080 : decode cL_act 1080 = .ok (.iload 11, 2) := by decide +kernel
theorem dL_act_1082 : decode cL_act 1082 = .ok (.iload 7, 2) := by decide +kernel
theorem dL_act_1084 : decode cL_act 1084 = .ok (.iadd, 1) := by decide +kernel
theorem dL_act_1085 : decode cL_act 1085 = .ok (.if_icmp .ne 7, 3) := by decide +kernel
theorem dL_act_1088 : decode cL_act 1088 = .ok (.iconst 1, 1) := by decide +kernel
theorem dL_act_1089 : decode cL_act 1089 = .ok (.goto 4, 3) := by decide +kernel
theorem dL_act_1092 : decode cL_act 1092 = .ok (.iconst 0, 1) := by decide +kernel
theorem dL_act_1093 : decode cL_act 1093 = .ok (.ireturn, 1) := by decide +kernel
theorem dL_act_1094 : decode cL_act 1094 = .ok (.aload_n 0, 1) := by decide +kernel
theorem dL_act_1095 : decode cL_act 1095 = .ok (.invokevirtual 37, 3) := by decide +kernel
theorem dL_act_1098 : decode cL_act 1098 = .ok (.istore 11, 2) := by decide +kernel
theorem dL_act_1100 : decode cL_act 1100 = .ok (.aload_n 0, 1) := by decide +kernel
theorem dL_act_1101 : decode cL_act 1101 = .ok (.iload 6, 2) := by decide +kernel
theorem dL_act_1103 : decode cL_act 1103 = .ok (.iconst 2, 1) := by decide +kernel
theorem dL_act_1104 : decode cL_act 1104 = .ok (.invokevirtual 89, 3) := by decide +kernel
theorem dL_act_1107 : decode cL_act 1107 = .ok (.istore 12, 2) := by decide +kernel
theorem dL_act_1109 : decode cL_act 1109 = .ok (.aload_n 0, 1) := by decide +kernel
theorem dL_act_1110 : decode cL_act 1110 = .ok (.iload 11, 2) := by decide +kernel
theorem dL_act_1112 : decode cL_act 1112 = .ok (.ifCond .ne 7, 3) := by decide +kernel
theorem dL_act_1115 : decode cL_act 1115 = .ok (.iconst 1, 1) := by decide +kernel
theorem dL_act_1116 : decode cL_act 1116 = .ok (.goto 4, 3) := by decide +kernel
theorem dL_act_1119 : decode cL_act 1119 = .ok (.iconst 0, 1) := by decide +kernel
theorem dL_act_1120 : decode cL_act 1120 = .ok (.invokevirtual 234, 3) := by decide +kernel
theorem dL_act_1123 : decode cL_act 1123 = .ok (.iload 11, 2) := by decide +kernel
theorem dL_act_1125 : decode cL_act 1125 = .ok (.if_icmp .ne 28, 3) := by decide +kernel
theorem dL_act_1128 : decode cL_act 1128 = .ok (.aload_n 0, 1) := by decide +kernel
theorem dL_act_1129 : decode cL_act 1129 = .ok (.invokevirtual 37, 3) := by decide +kernel
theorem dL_act_1132 : decode cL_act 1132 = .ok (.iload 11, 2) := by decide +kernel
theorem dL_act_1134 : decode cL_act 1134 = .ok (.if_icmp .eq 19, 3) := by decide +kernel
theorem dL_act_1137 : decode cL_act 1137 = .ok (.aload_n 0, 1) := by decide +kernel
theorem dL_act_1138 : decode cL_act 1138 = .ok (.iload 6, 2) := by decide +kernel
theorem dL_act_1140 : decode cL_act 1140 = .ok (.iconst 2, 1) := by decide +kernel
theorem dL_act_1141 : decode cL_act 1141 = .ok (.invokevirtual 77, 3) := by decide +kernel
theorem dL_act_1144 : decode cL_act 1144 = .ok (.iload 12, 2) := by decide +kernel
theorem dL_act_1146 : decode cL_act 1146 = .ok (.if_icmp .ne 7, 3) := by decide +kernel
theorem dL_act_1149 : decode cL_act 1149 = .ok (.iconst 1, 1) := by decide +kernel
theorem dL_act_1150 : decode cL_act 1150 = .ok (.goto 4, 3) := by decide +kernel
theorem dL_act_1153 : decode cL_act 1153 = .ok (.iconst 0, 1) := by decide +kernel
theorem dL_act_1154 : decode cL_act 1154 = .ok (.ireturn, 1) := by decide +kernel
theorem dL_law_0 : decode cL_law 0 = .ok (.new 9, 3) := by decide +kernel
theorem dL_law_3 : decode cL_law 3 = .ok (.dup, 1) := by decide +kernel
theorem dL_law_4 : decode cL_law 4 = .ok (.invokespecial 238, 3) := by decide +kernel
theorem dL_law_7 : decode cL_law 7 = .ok (.astore_n 1, 1) := by decide +kernel
theorem dL_law_8 : decode cL_law 8 = .ok (.bipush 6, 2) := by decide +kernel
theorem dL_law_10 : decode cL_law 10 = .ok (.newarray .int, 2) := by decide +kernel
theorem dL_law_12 : decode cL_law 12 = .ok (.astore_n 2, 1) := by decide +kernel
theorem dL_law_13 : decode cL_law 13 = .ok (.aload_n 0, 1) := by decide +kernel
theorem dL_law_14 : decode cL_law 14 = .ok (.iconst 0, 1) := by decide +kernel
theorem dL_law_15 : decode cL_law 15 = .ok (.invokestatic 239, 3) := by decide +kernel
theorem dL_law_18 : decode cL_law 18 = .ok (.istore_n 3, 1) := by decide +kernel
theorem dL_law_19 : decode cL_law 19 = .ok (.new 166, 3) := by decide +kernel
theorem dL_law_22 : decode cL_law 22 = .ok (.dup, 1) := by decide +kernel
theorem dL_law_23 : decode cL_law 23 = .ok (.iload_n 3, 1) := by decide +kernel
theorem dL_law_24 : decode cL_law 24 = .ok (.iconst 2, 1) := by decide +kernel
theorem dL_law_25 : decode cL_law 25 = .ok (.invokestatic 136, 3) := by decide +kernel
theorem dL_law_28 : decode cL_law 28 = .ok (.ifCond .ne 8, 3) := by decide +kernel
theorem dL_law_31 : decode cL_law 31 = .ok (.ldc 243, 2) := by decide +kernel
theorem dL_law_33 : decode cL_law 33 = .ok (.goto 5, 3) := by decide +kernel
theorem dL_law_36 : decode cL_law 36 = .ok (.ldc 245, 2) := by decide +kernel
theorem dL_law_38 : decode cL_law 38 = .ok (.invokespecial 247, 3) := by decide +kernel
theorem dL_law_41 : decode cL_law 41 = .ok (.astore 4, 2) := by decide +kernel
theorem dL_law_43 : decode cL_law 43 = .ok (.iload_n 3, 1) := by decide +kernel
theorem dL_law_44 : decode cL_law 44 = .ok (.iconst 1, 1) := by decide +kernel
theorem dL_law_45 : decode cL_law 45 = .ok (.ishr, 1) := by decide +kernel
theorem dL_law_46 : decode cL_law 46 = .ok (.iconst 5, 1) := by decide +kernel
theorem dL_law_47 : decode cL_law 47 = .ok (.invokestatic 136, 3) := by decide +kernel
theorem dL_law_50 : decode cL_law 50 = .ok (.istore 5, 2) := by decide +kernel
theorem dL_law_52 : decode cL_law 52 = .ok (.iconst 0, 1) := by decide +kernel
theorem dL_law_53 : decode cL_law 53 = .ok (.istore 6, 2) := by decide +kernel
theorem dL_law_55 : decode cL_law 55 = .ok (.iload 6, 2) := by decide +kernel
theorem dL_law_57 : decode cL_law 57 = .ok (.iload 5, 2) := by decide +kernel
theorem dL_law_59 : decode cL_law 59 = .ok (.if_icmp .ge 177, 3) := by decide +kernel
theorem dL_law_62 : decode cL_law 62 = .ok (.aload_n 0, 1) := by decide +kernel
theorem dL_law_63 : decode cL_law 63 = .ok (.iconst 1, 1) := by decide +kernel
theorem dL_law_64 : decode cL_law 64 = .ok (.iload 6, 2) := by decide +kernel
theorem dL_law_66 : decode cL_law 66 = .ok (.iadd, 1) := by decide +kernel
theorem dL_law_67 : decode cL_law 67 = .ok (.invokestatic 239, 3) := by decide +kernel
theorem dL_law_70 : decode cL_law 70 = .ok (.istore 7, 2) := by decide +kernel
theorem dL_law_72 : decode cL_law 72 = .ok (.iload 7, 2) := by decide +kernel
theorem dL_law_74 : decode cL_law 74 = .ok (.iconst 2, 1) := by decide +kernel
theorem dL_law_75 : decode cL_law 75 = .ok (.invokestatic 136, 3) := by decide +kernel
theorem dL_law_78 : decode cL_law 78 = .ok (.ifCond .ne 7, 3) := by decide +kernel
theorem dL_law_81 : decode cL_law 81 = .ok (.iconst 1, 1) := by decide +kernel
theorem dL_law_82 : decode cL_law 82 = .ok (.goto 4, 3) := by decide +kernel
theorem dL_law_85 : decode cL_law 85 = .ok (.iconst 0, 1) := by decide +kernel
theorem dL_law_86 : decode cL_law 86 = .ok (.istore 8, 2) := by decide +kernel
theorem dL_law_88 : decode cL_law 88 = .ok (.iconst 3, 1) := by decide +kernel
theorem dL_law_89 : decode cL_law 89 = .ok (.iload 7, 2) := by decide +kernel
theorem dL_law_91 : decode cL_law 91 = .ok (.iconst 1, 1) := by decide +kernel
theorem dL_law_92 : decode cL_law 92 = .ok (.ishr, 1) := by decide +kernel
theorem dL_law_93 : decode cL_law 93 = .ok (.bipush 6, 2) := by decide +kernel
theorem dL_law_95 : decode cL_law 95 = .ok (.invokestatic 136, 3) := by decide +kernel
theorem dL_law_98 : decode cL_law 98 = .ok (.iadd, 1) := by decide +kernel
theorem dL_law_99 : decode cL_law 99 = .ok (.istore 9, 2) := by decide +kernel
theorem dL_law_101 : decode cL_law 101 = .ok (.aload 4, 2) := by decide +kernel
theorem dL_law_103 : decode cL_law 103 = .ok (.iload 8, 2) := by decide +kernel
theorem dL_law_105 : decode cL_law 105 = .ok (.ifCond .eq 8, 3) := by decide +kernel
theorem dL_law_108 : decode cL_law 108 = .ok (.ldc 169, 2) := by decide +kernel
theorem dL_law_110 : decode cL_law 110 = .ok (.goto 5, 3) := by decide +kernel
theorem dL_law_113 : decode cL_law 113 = .ok (.ldc 171, 2) := by decide +kernel
theorem dL_law_115 : decode cL_law 115 = .ok (.invokevirtual 173, 3) := by decide +kernel
theorem dL_law_118 : decode cL_law 118 = .ok (.pop, 1) := by decide +kernel
theorem dL_law_119 : decode cL_law 119 = .ok (.iconst 0, 1) := by decide +kernel
theorem dL_law_120 : decode cL_law 120 = .ok (.istore 10, 2) := by decide +kernel
theorem dL_law_122 : decode cL_law 122 = .ok (.iload 10, 2) := by decide +kernel
theorem dL_law_124 : decode cL_law 124 = .ok (.iload 9, 2) := by decide +kernel
theorem dL_law_126 : decode cL_law 126 = .ok (.if_icmp .ge 96, 3) := by decide +kernel
theorem dL_law_129 : decode cL_law 129 = .ok (.aload 4, 2) := by decide +kernel
theorem dL_law_131 : decode cL_law 131 = .ok (.iload 10, 2) := by decide +kernel
theorem dL_law_133 : decode cL_law 133 = .ok (.ifCond .le 8, 3) := by decide +kernel
theorem dL_law_136 : decode cL_law 136 = .ok (.ldc 182, 2) := by decide +kernel
theorem dL_law_138 : decode cL_law 138 = .ok (.goto 5, 3) := by decide +kernel
theorem dL_law_141 : decode cL_law 141 = .ok (.ldc 250, 2) := by decide +kernel
theorem dL_law_143 : decode cL_law 143 = .ok (.invokevirtual 173, 3) := by decide +kernel
theorem dL_law_146 : decode cL_law 146 = .ok (.iload 7, 2) := by decide +kernel
theorem dL_law_148 : decode cL_law 148 = .ok (.iload 10, 2) := by decide +kernel
theorem dL_law_150 : decode cL_law 150 = .ok (.iconst 2, 1) := by decide +kernel
theorem dL_law_151 : decode cL_law 151 = .ok (.iadd, 1) := by decide +kernel
theorem dL_law_152 : decode cL_law 152 = .ok (.ishr, 1) := by decide +kernel
theorem dL_law_153 : decode cL_law 153 = .ok (.iconst 2, 1) := by decide +kernel
theorem dL_law_154 : decode cL_law 154 = .ok (.invokestatic 136, 3) := by decide +kernel
theorem dL_law_157 : decode cL_law 157 = .ok (.ifCond .ne 8, 3) := by decide +kernel
theorem dL_law_160 : decode cL_law 160 = .ok (.ldc 252, 2) := by decide +kernel
theorem dL_law_162 : decode cL_law 162 = .ok (.goto 5, 3) := by decide +kernel
theorem dL_law_165 : decode cL_law 165 = .ok (.ldc 250, 2) := by decide +kernel
theorem dL_law_167 : decode cL_law 167 = .ok (.invokevirtual 173, 3) := by decide +kernel
theorem dL_law_170 : decode cL_law 170 = .ok (.iload 7, 2) := by decide +kernel
theorem dL_law_172 : decode cL_law 172 = .ok (.iload 10, 2) := by decide +kernel
theorem dL_law_174 : decode cL_law 174 = .ok (.ishr, 1) := by decide +kernel
theorem dL_law_175 : decode cL_law 175 = .ok (.bipush 7, 2) := by decide +kernel
theorem dL_law_177 : decode cL_law 177 = .ok (.iload 10, 2) := by decide +kernel
theorem dL_law_179 : decode cL_law 179 = .ok (.imul, 1) := by decide +kernel
theorem dL_law_180 : decode cL_law 180 = .ok (.iadd, 1) := by decide +kernel
theorem dL_law_181 : decode cL_law 181 = .ok (.bipush 80, 2) := by decide +kernel
theorem dL_law_183 : decode cL_law 183 = .ok (.invokestatic 136, 3) := by decide +kernel
theorem dL_law_186 : decode cL_law 186 = .ok (.invokevirtual 177, 3) := by decide +kernel
theorem dL_law_189 : decode cL_law 189 = .ok (.bipush 32, 2) := by decide +kernel
theorem dL_law_191 : decode cL_law 191 = .ok (.invokevirtual 254, 3) := by decide +kernel
theorem dL_law_194 : decode cL_law 194 = .ok (.iload 7, 2) := by decide +kernel
theorem dL_law_196 : decode cL_law 196 = .ok (.iload 10, 2) := by decide +kernel
theorem dL_law_198 : decode cL_law 198 = .ok (.iconst 3, 1) := by decide +kernel
theorem dL_law_199 : decode cL_law 199 = .ok (.iadd, 1) := by decide +kernel
theorem dL_law_200 : decode cL_law 200 = .ok (.ishr, 1) := by decide +kernel
theorem dL_law_201 : decode cL_law 201 = .ok (.bipush 11, 2) := by decide +kernel
theorem dL_law_203 : decode cL_law 203 = .ok (.iload 10, 2) := by decide +kernel
theorem dL_law_205 : decode cL_law 205 = .ok (.imul, 1) := by decide +kernel
theorem dL_law_206 : decode cL_law 206 = .ok (.iadd, 1) := by decide +kernel
theorem dL_law_207 : decode cL_law 207 = .ok (.bipush 80, 2) := by decide +kernel
theorem dL_law_209 : decode cL_law 209 = .ok (.invokestatic 136, 3) := by decide +kernel
theorem dL_law_212 : decode cL_law 212 = .ok (.invokevirtual 177, 3) := by decide +kernel
theorem dL_law_215 : decode cL_law 215 = .ok (.pop, 1) := by decide +kernel
theorem dL_law_216 : decode cL_law 216 = .ok (.iinc 10 1, 3) := by decide +kernel
theorem dL_law_219 : decode cL_law 219 = .ok (.goto (-97), 3) := by decide +kernel
theorem dL_law_222 : decode cL_law 222 = .ok (.aload 4, 2) := by decide +kernel
theorem dL_law_224 : decode cL_law 224 = .ok (.bipush 59, 2) := by decide +kernel
theorem dL_law_226 : decode cL_law 226 = .ok (.invokevirtual 254, 3) := by decide +kernel
theorem dL_law_229 : decode cL_law 229 = .ok (.pop, 1) := by decide +kernel
theorem dL_law_230 : decode cL_law 230 = .ok (.iinc 6 1, 3) := by decide +kernel
theorem dL_law_233 : decode cL_law 233 = .ok (.goto (-178), 3) := by decide +kernel
theorem dL_law_236 : decode cL_law 236 = .ok (.aload_n 1, 1) := by decide +kernel
theorem dL_law_237 : decode cL_law 237 = .ok (.aload_n 2, 1) := by decide +kernel
theorem dL_law_238 : decode cL_law 238 = .ok (.aload 4, 2) := by decide +kernel
theorem dL_law_240 : decode cL_law 240 = .ok (.invokevirtual 186, 3) := by decide +kernel
theorem dL_law_243 : decode cL_law 243 = .ok (.invokestatic 190, 3) := by decide +kernel
theorem dL_law_246 : decode cL_law 246 = .ok (.aload_n 1, 1) := by decide +kernel
theorem dL_law_247 : decode cL_law 247 = .ok (.aload_n 1, 1) := by decide +kernel
theorem dL_law_248 : decode cL_law 248 = .ok (.aload_n 2, 1) := by decide +kernel
theorem dL_law_249 : decode cL_law 249 = .ok (.invokestatic 194, 3) := by decide +kernel
theorem dL_law_252 : decode cL_law 252 = .ok (.invokevirtual 257, 3) := by decide +kernel
theorem dL_law_255 : decode cL_law 255 = .ok (.iload 5, 2) := by decide +kernel
theorem dL_law_257 : decode cL_law 257 = .ok (.if_icmp .ne 17, 3) := by decide +kernel
theorem dL_law_260 : decode cL_law 260 = .ok (.aload_n 1, 1) := by decide +kernel
theorem dL_law_261 : decode cL_law 261 = .ok (.invokevirtual 260, 3) := by decide +kernel
theorem dL_law_264 : decode cL_law 264 = .ok (.ifCond .ne 10, 3) := by decide +kernel
theorem dL_law_267 : decode cL_law 267 = .ok (.aload_n 1, 1) := by decide +kernel
theorem dL_law_268 : decode cL_law 268 = .ok (.invokevirtual 44, 3) := by decide +kernel
theorem dL_law_271 : decode cL_law 271 = .ok (.ifCond .eq 5, 3) := by decide +kernel
theorem dL_law_274 : decode cL_law 274 = .ok (.iconst 0, 1) := by decide +kernel
theorem dL_law_275 : decode cL_law 275 = .ok (.ireturn, 1) := by decide +kernel
theorem dL_law_276 : decode cL_law 276 = .ok (.iconst 0, 1) := by decide +kernel
theorem dL_law_277 : decode cL_law 277 = .ok (.istore 6, 2) := by decide +kernel
theorem dL_law_279 : decode cL_law 279 = .ok (.iload 6, 2) := by decide +kernel
theorem dL_law_281 : decode cL_law 281 = .ok (.bipush 24, 2) := by decide +kernel
theorem dL_law_283 : decode cL_law 283 = .ok (.if_icmp .ge 208, 3) := by decide +kernel
theorem dL_law_286 : decode cL_law 286 = .ok (.aload_n 0, 1) := by decide +kernel
theorem dL_law_287 : decode cL_law 287 = .ok (.bipush 6, 2) := by decide +kernel
theorem dL_law_289 : decode cL_law 289 = .ok (.iload 6, 2) := by decide +kernel
theorem dL_law_291 : decode cL_law 291 = .ok (.iadd, 1) := by decide +kernel
theorem dL_law_292 : decode cL_law 292 = .ok (.invokestatic 239, 3) := by decide +kernel
theorem dL_law_295 : decode cL_law 295 = .ok (.istore 7, 2) := by decide +kernel
theorem dL_law_297 : decode cL_law 297 = .ok (.aload_n 1, 1) := by decide +kernel
theorem dL_law_298 : decode cL_law 298 = .ok (.invokevirtual 30, 3) := by decide +kernel
theorem dL_law_301 : decode cL_law 301 = .ok (.istore 8, 2) := by decide +kernel
theorem dL_law_303 : decode cL_law 303 = .ok (.iload 6, 2) := by decide +kernel
theorem dL_law_305 : decode cL_law 305 = .ok (.iconst 3, 1) := by decide +kernel
theorem dL_law_306 : decode cL_law 306 = .ok (.irem, 1) := by decide +kernel
theorem dL_law_307 : decode cL_law 307 = .ok (.ifCond .ne 10, 3) := by decide +kernel
theorem dL_law_310 : decode cL_law 310 = .ok (.aload_n 1, 1) := by decide +kernel
theorem dL_law_311 : decode cL_law 311 = .ok (.invokestatic 263, 3) := by decide +kernel
theorem dL_law_314 : decode cL_law 314 = .ok (.ifCond .eq 48, 3) := by decide +kernel
theorem dL_law_317 : decode cL_law 317 = .ok (.iload 8, 2) := by decide +kernel
theorem dL_law_319 : decode cL_law 319 = .ok (.ifCond .le 45, 3) := by decide +kernel
theorem dL_law_322 : decode cL_law 322 = .ok (.aload_n 1, 1) := by decide +kernel
theorem dL_law_323 : decode cL_law 323 = .ok (.iload 7, 2) := by decide +kernel
theorem dL_law_325 : decode cL_law 325 = .ok (.iload 8, 2) := by decide +kernel
theorem dL_law_327 : decode cL_law 327 = .ok (.invokestatic 136, 3) := by decide +kernel
theorem dL_law_330 : decode cL_law 330 = .ok (.invokestatic 267, 3) := by decide +kernel
theorem dL_law_333 : decode cL_law 333 = .ok (.ifCond .eq 29, 3) := by decide +kernel
theorem dL_law_336 : decode cL_law 336 = .ok (.iload 6, 2) := by decide +kernel
theorem dL_law_338 : decode cL_law 338 = .ok (.iconst 4, 1) := by decide +kernel
theorem dL_law_339 : decode cL_law 339 = .ok (.irem, 1) := by decide +kernel
theorem dL_law_340 : decode cL_law 340 = .ok (.iconst 1, 1) := by decide +kernel
theorem dL_law_341 : decode cL_law 341 = .ok (.if_icmp .ne 23, 3) := by decide +kernel
theorem dL_law_344 : decode cL_law 344 = .ok (.aload_n 1, 1) := by decide +kernel
theorem dL_law_345 : decode cL_law 345 = .ok (.iload 7, 2) := by decide +kernel
theorem dL_law_347 : decode cL_law 347 = .ok (.iconst 1, 1) := by decide +kernel
theorem dL_law_348 : decode cL_law 348 = .ok (.ishr, 1) := by decide +kernel
theorem dL_law_349 : decode cL_law 349 = .ok (.iload 8, 2) := by decide +kernel
theorem dL_law_351 : decode cL_law 351 = .ok (.invokestatic 136, 3) := by decide +kernel
theorem dL_law_354 : decode cL_law 354 = .ok (.iload 7, 2) := by decide +kernel
theorem dL_law_356 : decode cL_law 356 = .ok (.invokestatic 271, 3) := by decide +kernel
theorem dL_law_359 : decode cL_law 359 = .ok (.ifCond .ne 5, 3) := by decide +kernel
theorem dL_law_362 : decode cL_law 362 = .ok (.iconst 0, 1) := by decide +kernel
theorem dL_law_363 : decode cL_law 363 = .ok (.ireturn, 1) := by decide +kernel
theorem dL_law_364 : decode cL_law 364 = .ok (.aload_n 1, 1) := by decide +kernel
theorem dL_law_365 : decode cL_law 365 = .ok (.invokestatic 145, 3) := by decide +kernel
theorem dL_law_368 : decode cL_law 368 = .ok (.astore 9, 2) := by decide +kernel
theorem dL_law_370 : decode cL_law 370 = .ok (.aload_n 1, 1) := by decide +kernel
theorem dL_law_371 : decode cL_law 371 = .ok (.invokevirtual 260, 3) := by decide +kernel
theorem dL_law_374 : decode cL_law 374 = .ok (.istore 10, 2) := by decide +kernel
theorem dL_law_376 : decode cL_law 376 = .ok (.aload_n 1, 1) := by decide +kernel
theorem dL_law_377 : decode cL_law 377 = .ok (.aload_n 2, 1) := by decide +kernel
theorem dL_law_378 : decode cL_law 378 = .ok (.iload 7, 2) := by decide +kernel
theorem dL_law_380 : decode cL_law 380 = .ok (.invokestatic 275, 3) := by decide +kernel
theorem dL_law_383 : decode cL_law 383 = .ok (.ifCond .ne 5, 3) := by decide +kernel
theorem dL_law_386 : decode cL_law 386 = .ok (.iconst 0, 1) := by decide +kernel
theorem dL_law_387 : decode cL_law 387 = .ok (.ireturn, 1) := by decide +kernel
theorem dL_law_388 : decode cL_law 388 = .ok (.aload_n 1, 1) := by decide +kernel
theorem dL_law_389 : decode cL_law 389 = .ok (.invokestatic 145, 3) := by decide +kernel
theorem dL_law_392 : decode cL_law 392 = .ok (.astore 11, 2) := by decide +kernel
theorem dL_law_394 : decode cL_law 394 = .ok (.aload_n 1, 1) := by decide +kernel
theorem dL_law_395 : decode cL_law 395 = .ok (.invokevirtual 260, 3) := by decide +kernel
theorem dL_law_398 : decode cL_law 398 = .ok (.iload 10, 2) := by decide +kernel
theorem dL_law_400 : decode cL_law 400 = .ok (.iconst 1, 1) := by decide +kernel
theorem dL_law_401 : decode cL_law 401 = .ok (.iadd, 1) := by decide +kernel
theorem dL_law_402 : decode cL_law 402 = .ok (.if_icmp .ne 55, 3) := by decide +kernel
theorem dL_law_405 : decode cL_law 405 = .ok (.iload 6, 2) := by decide +kernel
theorem dL_law_407 : decode cL_law 407 = .ok (.iconst 3, 1) := by decide +kernel
theorem dL_law_408 : decode cL_law 408 = .ok (.irem, 1) := by decide +kernel
theorem dL_law_409 : decode cL_law 409 = .ok (.ifCond .ne 48, 3) := by decide +kernel
theorem dL_law_412 : decode cL_law 412 = .ok (.aload_n 1, 1) := by decide +kernel
theorem dL_law_413 : decode cL_law 413 = .ok (.invokevirtual 159, 3) := by decide +kernel
theorem dL_law_416 : decode cL_law 416 = .ok (.iload 10, 2) := by decide +kernel
theorem dL_law_418 : decode cL_law 418 = .ok (.if_icmp .ne 37, 3) := by decide +kernel
theorem dL_law_421 : decode cL_law 421 = .ok (.aload_n 1, 1) := by decide +kernel
theorem dL_law_422 : decode cL_law 422 = .ok (.invokestatic 145, 3) := by decide +kernel
theorem dL_law_425 : decode cL_law 425 = .ok (.aload 9, 2) := by decide +kernel
theorem dL_law_427 : decode cL_law 427 = .ok (.invokestatic 162, 3) := by decide +kernel
theorem dL_law_430 : decode cL_law 430 = .ok (.ifCond .eq 25, 3) := by decide +kernel
theorem dL_law_433 : decode cL_law 433 = .ok (.aload_n 1, 1) := by decide +kernel
theorem dL_law_434 : decode cL_law 434 = .ok (.aload_n 2, 1) := by decide +kernel
theorem dL_law_435 : decode cL_law 435 = .ok (.iload 7, 2) := by decide +kernel
theorem dL_law_437 : decode cL_law 437 = .ok (.invokestatic 275, 3) := by decide +kernel
theorem dL_law_440 : decode cL_law 440 = .ok (.ifCond .eq 15, 3) := by decide +kernel
theorem dL_law_443 : decode cL_law 443 = .ok (.aload_n 1, 1) := by decide +kernel
theorem dL_law_444 : decode cL_law 444 = .ok (.invokestatic 145, 3) := by decide +kernel
theorem dL_law_447 : decode cL_law 447 = .ok (.aload 11, 2) := by decide +kernel
theorem dL_law_449 : decode cL_law 449 = .ok (.invokestatic 162, 3) := by decide +kernel
theorem dL_law_452 : decode cL_law 452 = .ok (.ifCond .ne 5, 3) := by decide +kernel
theorem dL_law_455 : decode cL_law 455 = .ok (.iconst 0, 1) := by decide +kernel
theorem dL_law_456 : decode cL_law 456 = .ok (.ireturn, 1) := by decide +kernel
theorem dL_law_457 : decode cL_law 457 = .ok (.aload_n 1, 1) := by decide +kernel
theorem dL_law_458 : decode cL_law 458 = .ok (.invokevirtual 260, 3) := by decide +kernel
theorem dL_law_461 : decode cL_law 461 = .ok (.iload 10, 2) := by decide +kernel
theorem dL_law_463 : decode cL_law 463 = .ok (.if_icmp .ne 22, 3) := by decide +kernel
theorem dL_law_466 : decode cL_law 466 = .ok (.iload 10, 2) := by decide +kernel
theorem dL_law_468 : decode cL_law 468 = .ok (.bipush 8, 2) := by decide +kernel
theorem dL_law_470 : decode cL_law 470 = .ok (.if_icmp .ge 15, 3) := by decide +kernel
theorem dL_law_473 : decode cL_law 473 = .ok (.aload 9, 2) := by decide +kernel
theorem dL_law_475 : decode cL_law 475 = .ok (.aload 11, 2) := by decide +kernel
theorem dL_law_477 : decode cL_law 477 = .ok (.invokestatic 162, 3) := by decide +kernel
theorem dL_law_480 : decode cL_law 480 = .ok (.ifCond .ne 5, 3) := by decide +kernel
theorem dL_law_483 : decode cL_law 483 = .ok (.iconst 0, 1) := by decide +kernel
theorem dL_law_484 : decode cL_law 484 = .ok (.ireturn, 1) := by decide +kernel
theorem dL_law_485 : decode cL_law 485 = .ok (.iinc 6 1, 3) := by decide +kernel
theorem dL_law_488 : decode cL_law 488 = .ok (.goto (-209), 3) := by decide +kernel
theorem dL_law_491 : decode cL_law 491 = .ok (.aload_n 1, 1) := by decide +kernel
theorem dL_law_492 : decode cL_law 492 = .ok (.invokevirtual 279, 3) := by decide +kernel
theorem dL_law_495 : decode cL_law 495 = .ok (.aload_n 1, 1) := by decide +kernel
theorem dL_law_496 : decode cL_law 496 = .ok (.invokestatic 145, 3) := by decide +kernel
theorem dL_law_499 : decode cL_law 499 = .ok (.astore 6, 2) := by decide +kernel
theorem dL_law_501 : decode cL_law 501 = .ok (.iconst 0, 1) := by decide +kernel
theorem dL_law_502 : decode cL_law 502 = .ok (.istore 7, 2) := by decide +kernel
theorem dL_law_504 : decode cL_law 504 = .ok (.iload 7, 2) := by decide +kernel
theorem dL_law_506 : decode cL_law 506 = .ok (.iconst 5, 1) := by decide +kernel
theorem dL_law_507 : decode cL_law 507 = .ok (.if_icmp .ge 28, 3) := by decide +kernel
theorem dL_law_510 : decode cL_law 510 = .ok (.aload_n 1, 1) := by decide +kernel
theorem dL_law_511 : decode cL_law 511 = .ok (.aload_n 2, 1) := by decide +kernel
theorem dL_law_512 : decode cL_law 512 = .ok (.aload_n 0, 1) := by decide +kernel
theorem dL_law_513 : decode cL_law 513 = .ok (.bipush 36, 2) := by decide +kernel
theorem dL_law_515 : decode cL_law 515 = .ok (.iload 7, 2) := by decide +kernel
theorem dL_law_517 : decode cL_law 517 = .ok (.iadd, 1) := by decide +kernel
theorem dL_law_518 : decode cL_law 518 = .ok (.invokestatic 239, 3) := by decide +kernel
theorem dL_law_521 : decode cL_law 521 = .ok (.invokestatic 275, 3) := by decide +kernel
theorem dL_law_524 : decode cL_law 524 = .ok (.ifCond .ne 5, 3) := by decide +kernel
theorem dL_law_527 : decode cL_law 527 = .ok (.iconst 0, 1) := by decide +kernel
theorem dL_law_528 : decode cL_law 528 = .ok (.ireturn, 1) := by decide +kernel
theorem dL_law_529 : decode cL_law 529 = .ok (.iinc 7 1, 3) := by decide +kernel
theorem dL_law_532 : decode cL_law 532 = .ok (.goto (-28), 3) := by decide +kernel
theorem dL_law_535 : decode cL_law 535 = .ok (.aload_n 1, 1) := by decide +kernel
theorem dL_law_536 : decode cL_law 536 = .ok (.invokevirtual 282, 3) := by decide +kernel
theorem dL_law_539 : decode cL_law 539 = .ok (.aload 6, 2) := by decide +kernel
theorem dL_law_541 : decode cL_law 541 = .ok (.iconst 0, 1) := by decide +kernel
theorem dL_law_542 : decode cL_law 542 = .ok (.iaload, 1) := by decide +kernel
theorem dL_law_543 : decode cL_law 543 = .ok (.if_icmp .ne 26, 3) := by decide +kernel
theorem dL_law_546 : decode cL_law 546 = .ok (.aload_n 1, 1) := by decide +kernel
theorem dL_law_547 : decode cL_law 547 = .ok (.invokestatic 145, 3) := by decide +kernel
theorem dL_law_550 : decode cL_law 550 = .ok (.aload 6, 2) := by decide +kernel
theorem dL_law_552 : decode cL_law 552 = .ok (.invokestatic 162, 3) := by decide +kernel
theorem dL_law_555 : decode cL_law 555 = .ok (.ifCond .eq 14, 3) := by decide +kernel
theorem dL_law_558 : decode cL_law 558 = .ok (.aload_n 1, 1) := by decide +kernel
theorem dL_law_559 : decode cL_law 559 = .ok (.invokevirtual 260, 3) := by decide +kernel
theorem dL_law_562 : decode cL_law 562 = .ok (.ifCond .ne 7, 3) := by decide +kernel
theorem dL_law_565 : decode cL_law 565 = .ok (.iconst 1, 1) := by decide +kernel
theorem dL_law_566 : decode cL_law 566 = .ok (.goto 4, 3) := by decide +kernel
theorem dL_law_569 : decode cL_law 569 = .ok (.iconst 0, 1) := by decide +kernel
theorem dL_law_570 : decode cL_law 570 = .ok (.ireturn, 1) := by decide +kernel

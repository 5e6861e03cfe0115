theorem dL_areSticks_171 : decode cL_areSticks 171 = .ok (.iconst 0, 1) := by decide +kernel
theorem dL_areSticks_172 : decode cL_areSticks 172 = .ok (.ireturn, 1) := by decide +kernel
theorem dL_areSticks_173 : decode cL_areSticks 173 = .ok (.iinc 7 1, 3) := by decide +kernel
theorem dL_areSticks_176 : decode cL_areSticks 176 = .ok (.goto (-140), 3) := by decide +kernel
theorem dL_areSticks_179 : decode cL_areSticks 179 = .ok (.iload 5, 2) := by decide +kernel
theorem dL_areSticks_181 : decode cL_areSticks 181 = .ok (.aload_n 0, 1) := by decide +kernel
theorem dL_areSticks_182 : decode cL_areSticks 182 = .ok (.iload_n 1, 1) := by decide +kernel
theorem dL_areSticks_183 : decode cL_areSticks 183 = .ok (.iload_n 3, 1) := by decide +kernel
theorem dL_areSticks_184 : decode cL_areSticks 184 = .ok (.invokevirtual 77, 3) := by decide +kernel
theorem dL_areSticks_187 : decode cL_areSticks 187 = .ok (.if_icmp .ne 80, 3) := by decide +kernel
theorem dL_areSticks_190 : decode cL_areSticks 190 = .ok (.iload 4, 2) := by decide +kernel
theorem dL_areSticks_192 : decode cL_areSticks 192 = .ok (.iconst 1, 1) := by decide +kernel
theorem dL_areSticks_193 : decode cL_areSticks 193 = .ok (.if_icmp .lt 74, 3) := by decide +kernel
theorem dL_areSticks_196 : decode cL_areSticks 196 = .ok (.iload_n 3, 1) := by decide +kernel
theorem dL_areSticks_197 : decode cL_areSticks 197 = .ok (.ifCond .le 16, 3) := by decide +kernel
theorem dL_areSticks_200 : decode cL_areSticks 200 = .ok (.iload 4, 2) := by decide +kernel
theorem dL_areSticks_202 : decode cL_areSticks 202 = .ok (.aload_n 0, 1) := by decide +kernel
theorem dL_areSticks_203 : decode cL_areSticks 203 = .ok (.iload_n 1, 1) := by decide +kernel
theorem dL_areSticks_204 : decode cL_areSticks 204 = .ok (.iload_n 3, 1) := by decide +kernel
theorem dL_areSticks_205 : decode cL_areSticks 205 = .ok (.iconst 1, 1) := by decide +kernel
theorem dL_areSticks_206 : decode cL_areSticks 206 = .ok (.isub, 1) := by decide +kernel
theorem dL_areSticks_207 : decode cL_areSticks 207 = .ok (.invokevirtual 61, 3) := by decide +kernel
theorem dL_areSticks_210 : decode cL_areSticks 210 = .ok (.if_icmp .gt 57, 3) := by decide +kernel
theorem dL_areSticks_213 : decode cL_areSticks 213 = .ok (.iload_n 3, 1) := by decide +kernel
theorem dL_areSticks_214 : decode cL_areSticks 214 = .ok (.bipush 7, 2) := by decide +kernel
theorem dL_areSticks_216 : decode cL_areSticks 216 = .ok (.if_icmp .ge 53, 3) := by decide +kernel
theorem dL_areSticks_219 : decode cL_areSticks 219 = .ok (.aload_n 0, 1) := by decide +kernel
theorem dL_areSticks_220 : decode cL_areSticks 220 = .ok (.iload_n 1, 1) := by decide +kernel
theorem dL_areSticks_221 : decode cL_areSticks 221 = .ok (.iload_n 3, 1) := by decide +kernel
theorem dL_areSticks_222 : decode cL_areSticks 222 = .ok (.invokevirtual 80, 3) := by decide +kernel
theorem dL_areSticks_225 : decode cL_areSticks 225 = .ok (.ifCond .lt 42, 3) := by decide +kernel
theorem dL_areSticks_228 : decode cL_areSticks 228 = .ok (.aload_n 0, 1) := by decide +kernel
theorem dL_areSticks_229 : decode cL_areSticks 229 = .ok (.iload_n 1, 1) := by decide +kernel
theorem dL_areSticks_230 : decode cL_areSticks 230 = .ok (.iload_n 3, 1) := by decide +kernel
theorem dL_areSticks_231 : decode cL_areSticks 231 = .ok (.invokevirtual 80, 3) := by decide +kernel
theorem dL_areSticks_234 : decode cL_areSticks 234 = .ok (.iload 5, 2) := by decide +kernel
theorem dL_areSticks_236 : decode cL_areSticks 236 = .ok (.aload_n 0, 1) := by decide +kernel
theorem dL_areSticks_237 : decode cL_areSticks 237 = .ok (.iload_n 1, 1) := by decide +kernel
theorem dL_areSticks_238 : decode cL_areSticks 238 = .ok (.iload_n 3, 1) := by decide +kernel
theorem dL_areSticks_239 : decode cL_areSticks 239 = .ok (.iconst 1, 1) := by decide +kernel
theorem dL_areSticks_240 : decode cL_areSticks 240 = .ok (.iadd, 1) := by decide +kernel
theorem dL_areSticks_241 : decode cL_areSticks 241 = .ok (.invokevirtual 77, 3) := by decide +kernel
theorem dL_areSticks_244 : decode cL_areSticks 244 = .ok (.isub, 1) := by decide +kernel
theorem dL_areSticks_245 : decode cL_areSticks 245 = .ok (.if_icmp .ne 22, 3) := by decide +kernel
theorem dL_areSticks_248 : decode cL_areSticks 248 = .ok (.aload_n 0, 1) := by decide +kernel
theorem dL_areSticks_249 : decode cL_areSticks 249 = .ok (.iload_n 1, 1) := by decide +kernel
theorem dL_areSticks_250 : decode cL_areSticks 250 = .ok (.iload_n 3, 1) := by decide +kernel
theorem dL_areSticks_251 : decode cL_areSticks 251 = .ok (.invokevirtual 80, 3) := by decide +kernel
theorem dL_areSticks_254 : decode cL_areSticks 254 = .ok (.aload_n 0, 1) := by decide +kernel
theorem dL_areSticks_255 : decode cL_areSticks 255 = .ok (.iload_n 1, 1) := by decide +kernel
theorem dL_areSticks_256 : decode cL_areSticks 256 = .ok (.aload_n 0, 1) := by decide +kernel
theorem dL_areSticks_257 : decode cL_areSticks 257 = .ok (.iload_n 1, 1) := by decide +kernel
theorem dL_areSticks_258 : decode cL_areSticks 258 = .ok (.invokevirtual 83, 3) := by decide +kernel
theorem dL_areSticks_261 : decode cL_areSticks 261 = .ok (.invokevirtual 80, 3) := by decide +kernel
theorem dL_areSticks_264 : decode cL_areSticks 264 = .ok (.if_icmp .le 5, 3) := by decide +kernel
theorem dL_areSticks_267 : decode cL_areSticks 267 = .ok (.iconst 0, 1) := by decide +kernel
theorem dL_areSticks_268 : decode cL_areSticks 268 = .ok (.ireturn, 1) := by decide +kernel
theorem dL_areSticks_269 : decode cL_areSticks 269 = .ok (.aload_n 0, 1) := by decide +kernel
theorem dL_areSticks_270 : decode cL_areSticks 270 = .ok (.iload_n 1, 1) := by decide +kernel
theorem dL_areSticks_271 : decode cL_areSticks 271 = .ok (.iload 5, 2) := by decide +kernel
theorem dL_areSticks_273 : decode cL_areSticks 273 = .ok (.invokevirtual 86, 3) := by decide +kernel
theorem dL_areSticks_276 : decode cL_areSticks 276 = .ok (.iload_n 3, 1) := by decide +kernel
theorem dL_areSticks_277 : decode cL_areSticks 277 = .ok (.if_icmp .lt 37, 3) := by decide +kernel
theorem dL_areSticks_280 : decode cL_areSticks 280 = .ok (.aload_n 0, 1) := by decide +kernel
theorem dL_areSticks_281 : decode cL_areSticks 281 = .ok (.invokevirtual 37, 3) := by decide +kernel
theorem dL_areSticks_284 : decode cL_areSticks 284 = .ok (.aload_n 0, 1) := by decide +kernel
theorem dL_areSticks_285 : decode cL_areSticks 285 = .ok (.iload_n 1, 1) := by decide +kernel
theorem dL_areSticks_286 : decode cL_areSticks 286 = .ok (.iload_n 3, 1) := by decide +kernel
theorem dL_areSticks_287 : decode cL_areSticks 287 = .ok (.invokevirtual 89, 3) := by decide +kernel
theorem dL_areSticks_290 : decode cL_areSticks 290 = .ok (.iload 5, 2) := by decide +kernel
theorem dL_areSticks_292 : decode cL_areSticks 292 = .ok (.if_icmp .lt 7, 3) := by decide +kernel
theorem dL_areSticks_295 : decode cL_areSticks 295 = .ok (.iconst 1, 1) := by decide +kernel
theorem dL_areSticks_296 : decode cL_areSticks 296 = .ok (.goto 4, 3) := by decide +kernel
theorem dL_areSticks_299 : decode cL_areSticks 299 = .ok (.iconst 0, 1) := by decide +kernel
theorem dL_areSticks_300 : decode cL_areSticks 300 = .ok (.if_icmp .eq 16, 3) := by decide +kernel
theorem dL_areSticks_303 : decode cL_areSticks 303 = .ok (.aload_n 0, 1) := by decide +kernel
theorem dL_areSticks_304 : decode cL_areSticks 304 = .ok (.iload_n 1, 1) := by decide +kernel
theorem dL_areSticks_305 : decode cL_areSticks 305 = .ok (.iload_n 3, 1) := by decide +kernel
theorem dL_areSticks_306 : decode cL_areSticks 306 = .ok (.invokevirtual 89, 3) := by decide +kernel
theorem dL_areSticks_309 : decode cL_areSticks 309 = .ok (.iload 5, 2) := by decide +kernel
theorem dL_areSticks_311 : decode cL_areSticks 311 = .ok (.if_icmp .eq 5, 3) := by decide +kernel
theorem dL_areSticks_314 : decode cL_areSticks 314 = .ok (.iconst 0, 1) := by decide +kernel
theorem dL_areSticks_315 : decode cL_areSticks 315 = .ok (.ireturn, 1) := by decide +kernel
theorem dL_areSticks_316 : decode cL_areSticks 316 = .ok (.iinc 3 1, 3) := by decide +kernel
theorem dL_areSticks_319 : decode cL_areSticks 319 = .ok (.goto (-311), 3) := by decide +kernel
theorem dL_areSticks_322 : decode cL_areSticks 322 = .ok (.aload_n 0, 1) := by decide +kernel
theorem dL_areSticks_323 : decode cL_areSticks 323 = .ok (.iload_n 1, 1) := by decide +kernel
theorem dL_areSticks_324 : decode cL_areSticks 324 = .ok (.invokevirtual 92, 3) := by decide +kernel
theorem dL_areSticks_327 : decode cL_areSticks 327 = .ok (.istore_n 3, 1) := by decide +kernel
theorem dL_areSticks_328 : decode cL_areSticks 328 = .ok (.aload_n 0, 1) := by decide +kernel
theorem dL_areSticks_329 : decode cL_areSticks 329 = .ok (.iload_n 1, 1) := by decide +kernel
theorem dL_areSticks_330 : decode cL_areSticks 330 = .ok (.iload_n 3, 1) := by decide +kernel
theorem dL_areSticks_331 : decode cL_areSticks 331 = .ok (.invokevirtual 77, 3) := by decide +kernel
theorem dL_areSticks_334 : decode cL_areSticks 334 = .ok (.aload_n 0, 1) := by decide +kernel
theorem dL_areSticks_335 : decode cL_areSticks 335 = .ok (.iload_n 1, 1) := by decide +kernel
theorem dL_areSticks_336 : decode cL_areSticks 336 = .ok (.iconst 0, 1) := by decide +kernel
theorem dL_areSticks_337 : decode cL_areSticks 337 = .ok (.invokevirtual 77, 3) := by decide +kernel
theorem dL_areSticks_340 : decode cL_areSticks 340 = .ok (.if_icmp .ne 58, 3) := by decide +kernel
theorem dL_areSticks_343 : decode cL_areSticks 343 = .ok (.iload_n 3, 1) := by decide +kernel
theorem dL_areSticks_344 : decode cL_areSticks 344 = .ok (.bipush 7, 2) := by decide +kernel
theorem dL_areSticks_346 : decode cL_areSticks 346 = .ok (.if_icmp .eq 20, 3) := by decide +kernel
theorem dL_areSticks_349 : decode cL_areSticks 349 = .ok (.aload_n 0, 1) := by decide +kernel
theorem dL_areSticks_350 : decode cL_areSticks 350 = .ok (.iload_n 1, 1) := by decide +kernel
theorem dL_areSticks_351 : decode cL_areSticks 351 = .ok (.iload_n 3, 1) := by decide +kernel
theorem dL_areSticks_352 : decode cL_areSticks 352 = .ok (.iconst 1, 1) := by decide +kernel
theorem dL_areSticks_353 : decode cL_areSticks 353 = .ok (.iadd, 1) := by decide +kernel
theorem dL_areSticks_354 : decode cL_areSticks 354 = .ok (.invokevirtual 77, 3) := by decide +kernel
theorem dL_areSticks_357 : decode cL_areSticks 357 = .ok (.aload_n 0, 1) := by decide +kernel
theorem dL_areSticks_358 : decode cL_areSticks 358 = .ok (.iload_n 1, 1) := by decide +kernel
theorem dL_areSticks_359 : decode cL_areSticks 359 = .ok (.iconst 0, 1) := by decide +kernel
theorem dL_areSticks_360 : decode cL_areSticks 360 = .ok (.invokevirtual 77, 3) := by decide +kernel
theorem dL_areSticks_363 : decode cL_areSticks 363 = .ok (.if_icmp .ge 35, 3) := by decide +kernel
theorem dL_areSticks_366 : decode cL_areSticks 366 = .ok (.aload_n 0, 1) := by decide +kernel
theorem dL_areSticks_367 : decode cL_areSticks 367 = .ok (.iload_n 1, 1) := by decide +kernel
theorem dL_areSticks_368 : decode cL_areSticks 368 = .ok (.iconst 0, 1) := by decide +kernel
theorem dL_areSticks_369 : decode cL_areSticks 369 = .ok (.invokevirtual 86, 3) := by decide +kernel
theorem dL_areSticks_372 : decode cL_areSticks 372 = .ok (.bipush 7, 2) := by decide +kernel
theorem dL_areSticks_374 : decode cL_areSticks 374 = .ok (.if_icmp .ne 24, 3) := by decide +kernel
theorem dL_areSticks_377 : decode cL_areSticks 377 = .ok (.aload_n 0, 1) := by decide +kernel
theorem dL_areSticks_378 : decode cL_areSticks 378 = .ok (.iload_n 1, 1) := by decide +kernel
theorem dL_areSticks_379 : decode cL_areSticks 379 = .ok (.aload_n 0, 1) := by decide +kernel
theorem dL_areSticks_380 : decode cL_areSticks 380 = .ok (.iload_n 1, 1) := by decide +kernel
theorem dL_areSticks_381 : decode cL_areSticks 381 = .ok (.iconst 0, 1) := by decide +kernel
theorem dL_areSticks_382 : decode cL_areSticks 382 = .ok (.invokevirtual 77, 3) := by decide +kernel
theorem dL_areSticks_385 : decode cL_areSticks 385 = .ok (.iconst 1, 1) := by decide +kernel
theorem dL_areSticks_386 : decode cL_areSticks 386 = .ok (.iadd, 1) := by decide +kernel
theorem dL_areSticks_387 : decode cL_areSticks 387 = .ok (.invokevirtual 86, 3) := by decide +kernel
theorem dL_areSticks_390 : decode cL_areSticks 390 = .ok (.iconst (-1), 1) := by decide +kernel
theorem dL_areSticks_391 : decode cL_areSticks 391 = .ok (.if_icmp .ne 7, 3) := by decide +kernel
theorem dL_areSticks_394 : decode cL_areSticks 394 = .ok (.iconst 1, 1) := by decide +kernel
theorem dL_areSticks_395 : decode cL_areSticks 395 = .ok (.goto 4, 3) := by decide +kernel
theorem dL_areSticks_398 : decode cL_areSticks 398 = .ok (.iconst 0, 1) := by decide +kernel
theorem dL_areSticks_399 : decode cL_areSticks 399 = .ok (.ireturn, 1) := by decide +kernel
theorem dL_areMaps_0 : decode cL_areMaps 0 = .ok (.aload_n 0, 1) := by decide +kernel
theorem dL_areMaps_1 : decode cL_areMaps 1 = .ok (.invokevirtual 30, 3) := by decide +kernel
theorem dL_areMaps_4 : decode cL_areMaps 4 = .ok (.istore_n 1, 1) := by decide +kernel
theorem dL_areMaps_5 : decode cL_areMaps 5 = .ok (.iconst 0, 1) := by decide +kernel
theorem dL_areMaps_6 : decode cL_areMaps 6 = .ok (.istore_n 2, 1) := by decide +kernel
theorem dL_areMaps_7 : decode cL_areMaps 7 = .ok (.iconst 0, 1) := by decide +kernel
theorem dL_areMaps_8 : decode cL_areMaps 8 = .ok (.istore_n 3, 1) := by decide +kernel
theorem dL_areMaps_9 : decode cL_areMaps 9 = .ok (.iconst 0, 1) := by decide +kernel
theorem dL_areMaps_10 : decode cL_areMaps 10 = .ok (.istore 4, 2) := by decide +kernel
theorem dL_areMaps_12 : decode cL_areMaps 12 = .ok (.iload 4, 2) := by decide +kernel
theorem dL_areMaps_14 : decode cL_areMaps 14 = .ok (.iload_n 1, 1) := by decide +kernel
theorem dL_areMaps_15 : decode cL_areMaps 15 = .ok (.if_icmp .ge 423, 3) := by decide +kernel
theorem dL_areMaps_18 : decode cL_areMaps 18 = .ok (.aload_n 0, 1) := by decide +kernel
theorem dL_areMaps_19 : decode cL_areMaps 19 = .ok (.iload 4, 2) := by decide +kernel
theorem dL_areMaps_21 : decode cL_areMaps 21 = .ok (.invokevirtual 33, 3) := by decide +kernel
theorem dL_areMaps_24 : decode cL_areMaps 24 = .ok (.istore 5, 2) := by decide +kernel
theorem dL_areMaps_26 : decode cL_areMaps 26 = .ok (.iconst 0, 1) := by decide +kernel
theorem dL_areMaps_27 : decode cL_areMaps 27 = .ok (.istore 6, 2) := by decide +kernel
theorem dL_areMaps_29 : decode cL_areMaps 29 = .ok (.iload_n 2, 1) := by decide +kernel
theorem dL_areMaps_30 : decode cL_areMaps 30 = .ok (.iload 5, 2) := by decide +kernel
theorem dL_areMaps_32 : decode cL_areMaps 32 = .ok (.iadd, 1) := by decide +kernel
theorem dL_areMaps_33 : decode cL_areMaps 33 = .ok (.istore_n 2, 1) := by decide +kernel
theorem dL_areMaps_34 : decode cL_areMaps 34 = .ok (.iload_n 3, 1) := by decide +kernel
theorem dL_areMaps_35 : decode cL_areMaps 35 = .ok (.aload_n 0, 1) := by decide +kernel
theorem dL_areMaps_36 : decode cL_areMaps 36 = .ok (.iload 4, 2) := by decide +kernel
theorem dL_areMaps_38 : decode cL_areMaps 38 = .ok (.iconst 0, 1) := by decide +kernel
theorem dL_areMaps_39 : decode cL_areMaps 39 = .ok (.invokevirtual 77, 3) := by decide +kernel
theorem dL_areMaps_42 : decode cL_areMaps 42 = .ok (.iadd, 1) := by decide +kernel
theorem dL_areMaps_43 : decode cL_areMaps 43 = .ok (.istore_n 3, 1) := by decide +kernel
theorem dL_areMaps_44 : decode cL_areMaps 44 = .ok (.aload_n 0, 1) := by decide +kernel
theorem dL_areMaps_45 : decode cL_areMaps 45 = .ok (.iload 4, 2) := by decide +kernel
theorem dL_areMaps_47 : decode cL_areMaps 47 = .ok (.invokevirtual 95, 3) := by decide +kernel
theorem dL_areMaps_50 : decode cL_areMaps 50 = .ok (.istore 7, 2) := by decide +kernel
theorem dL_areMaps_52 : decode cL_areMaps 52 = .ok (.iconst 0, 1) := by decide +kernel
theorem dL_areMaps_53 : decode cL_areMaps 53 = .ok (.istore 8, 2) := by decide +kernel
theorem dL_areMaps_55 : decode cL_areMaps 55 = .ok (.iload 8, 2) := by decide +kernel
theorem dL_areMaps_57 : decode cL_areMaps 57 = .ok (.iload_n 1, 1) := by decide +kernel
theorem dL_areMaps_58 : decode cL_areMaps 58 = .ok (.if_icmp .ge 115, 3) := by decide +kernel
theorem dL_areMaps_61 : decode cL_areMaps 61 = .ok (.aload_n 0, 1) := by decide +kernel
theorem dL_areMaps_62 : decode cL_areMaps 62 = .ok (.iload 8, 2) := by decide +kernel
theorem dL_areMaps_64 : decode cL_areMaps 64 = .ok (.invokevirtual 50, 3) := by decide +kernel
theorem dL_areMaps_67 : decode cL_areMaps 67 = .ok (.ifCond .eq 18, 3) := by decide +kernel
theorem dL_areMaps_70 : decode cL_areMaps 70 = .ok (.aload_n 0, 1) := by decide +kernel
theorem dL_areMaps_71 : decode cL_areMaps 71 = .ok (.iload 8, 2) := by decide +kernel
theorem dL_areMaps_73 : decode cL_areMaps 73 = .ok (.iload 4, 2) := by decide +kernel
theorem dL_areMaps_75 : decode cL_areMaps 75 = .ok (.invokevirtual 98, 3) := by decide +kernel
theorem dL_areMaps_78 : decode cL_areMaps 78 = .ok (.ifCond .eq 7, 3) := by decide +kernel
theorem dL_areMaps_81 : decode cL_areMaps 81 = .ok (.iconst 1, 1) := by decide +kernel
theorem dL_areMaps_82 : decode cL_areMaps 82 = .ok (.goto 4, 3) := by decide +kernel
theorem dL_areMaps_85 : decode cL_areMaps 85 = .ok (.iconst 0, 1) := by decide +kernel
theorem dL_areMaps_86 : decode cL_areMaps 86 = .ok (.istore 9, 2) := by decide +kernel
theorem dL_areMaps_88 : decode cL_areMaps 88 = .ok (.iload 6, 2) := by decide +kernel
theorem dL_areMaps_90 : decode cL_areMaps 90 = .ok (.iload 9, 2) := by decide +kernel
theorem dL_areMaps_92 : decode cL_areMaps 92 = .ok (.ifCond .eq 7, 3) := by decide +kernel
theorem dL_areMaps_95 : decode cL_areMaps 95 = .ok (.iconst 1, 1) := by decide +kernel
theorem dL_areMaps_96 : decode cL_areMaps 96 = .ok (.goto 4, 3) := by decide +kernel
theorem dL_areMaps_99 : decode cL_areMaps 99 = .ok (.iconst 0, 1) := by decide +kernel
theorem dL_areMaps_100 : decode cL_areMaps 100 = .ok (.iadd, 1) := by decide +kernel
theorem dL_areMaps_101 : decode cL_areMaps 101 = .ok (.istore 6, 2) := by decide +kernel
theorem dL_areMaps_103 : decode cL_areMaps 103 = .ok (.iload 9, 2) := by decide +kernel
theorem dL_areMaps_105 : decode cL_areMaps 105 = .ok (.ifCond .eq 62, 3) := by decide +kernel
theorem dL_areMaps_108 : decode cL_areMaps 108 = .ok (.iload 8, 2) := by decide +kernel
theorem dL_areMaps_110 : decode cL_areMaps 110 = .ok (.iload 4, 2) := by decide +kernel
theorem dL_areMaps_112 : decode cL_areMaps 112 = .ok (.if_icmp .eq 53, 3) := by decide +kernel
theorem dL_areMaps_115 : decode cL_areMaps 115 = .ok (.iload 7, 2) := by decide +kernel
theorem dL_areMaps_117 : decode cL_areMaps 117 = .ok (.ifCond .lt 48, 3) := by decide +kernel
theorem dL_areMaps_120 : decode cL_areMaps 120 = .ok (.aload_n 0, 1) := by decide +kernel
theorem dL_areMaps_121 : decode cL_areMaps 121 = .ok (.iload 7, 2) := by decide +kernel
theorem dL_areMaps_123 : decode cL_areMaps 123 = .ok (.invokevirtual 102, 3) := by decide +kernel
theorem dL_areMaps_126 : decode cL_areMaps 126 = .ok (.aload_n 0, 1) := by decide +kernel
theorem dL_areMaps_127 : decode cL_areMaps 127 = .ok (.iload 8, 2) := by decide +kernel
theorem dL_areMaps_129 : decode cL_areMaps 129 = .ok (.invokevirtual 102, 3) := by decide +kernel
theorem dL_areMaps_132 : decode cL_areMaps 132 = .ok (.if_icmp .gt 33, 3) := by decide +kernel
theorem dL_areMaps_135 : decode cL_areMaps 135 = .ok (.aload_n 0, 1) := by decide +kernel
theorem dL_areMaps_136 : decode cL_areMaps 136 = .ok (.iload 8, 2) := by decide +kernel
theorem dL_areMaps_138 : decode cL_areMaps 138 = .ok (.invokevirtual 105, 3) := by decide +kernel
theorem dL_areMaps_141 : decode cL_areMaps 141 = .ok (.aload_n 0, 1) := by decide +kernel
theorem dL_areMaps_142 : decode cL_areMaps 142 = .ok (.iload 4, 2) := by decide +kernel
theorem dL_areMaps_144 : decode cL_areMaps 144 = .ok (.invokevirtual 105, 3) := by decide +kernel
theorem dL_areMaps_147 : decode cL_areMaps 147 = .ok (.if_icmp .lt 18, 3) := by decide +kernel
theorem dL_areMaps_150 : decode cL_areMaps 150 = .ok (.aload_n 0, 1) := by decide +kernel
theorem dL_areMaps_151 : decode cL_areMaps 151 = .ok (.iload 8, 2) := by decide +kernel
theorem dL_areMaps_153 : decode cL_areMaps 153 = .ok (.invokevirtual 108, 3) := by decide +kernel
theorem dL_areMaps_156 : decode cL_areMaps 156 = .ok (.aload_n 0, 1) := by decide +kernel
theorem dL_areMaps_157 : decode cL_areMaps 157 = .ok (.iload 4, 2) := by decide +kernel
theorem dL_areMaps_159 : decode cL_areMaps 159 = .ok (.invokevirtual 108, 3) := by decide +kernel
theorem dL_areMaps_162 : decode cL_areMaps 162 = .ok (.if_icmp .ge 5, 3) := by decide +kernel
theorem dL_areMaps_165 : decode cL_areMaps 165 = .ok (.iconst 0, 1) := by decide +kernel
theorem dL_areMaps_166 : decode cL_areMaps 166 = .ok (.ireturn, 1) := by decide +kernel
theorem dL_areMaps_167 : decode cL_areMaps 167 = .ok (.iinc 8 1, 3) := by decide +kernel
theorem dL_areMaps_170 : decode cL_areMaps 170 = .ok (.goto (-115), 3) := by decide +kernel
theorem dL_areMaps_173 : decode cL_areMaps 173 = .ok (.iload 6, 2) := by decide +kernel
theorem dL_areMaps_175 : decode cL_areMaps 175 = .ok (.aload_n 0, 1) := by decide +kernel
theorem dL_areMaps_176 : decode cL_areMaps 176 = .ok (.iload 4, 2) := by decide +kernel
theorem dL_areMaps_178 : decode cL_areMaps 178 = .ok (.invokevirtual 111, 3) := by decide +kernel
theorem dL_areMaps_181 : decode cL_areMaps 181 = .ok (.if_icmp .ne 73, 3) := by decide +kernel
theorem dL_areMaps_184 : decode cL_areMaps 184 = .ok (.iload 7, 2) := by decide +kernel
theorem dL_areMaps_186 : decode cL_areMaps 186 = .ok (.ifCond .lt 7, 3) := by decide +kernel
theorem dL_areMaps_189 : decode cL_areMaps 189 = .ok (.iconst 1, 1) := by decide +kernel
theorem dL_areMaps_190 : decode cL_areMaps 190 = .ok (.goto 4, 3) := by decide +kernel
theorem dL_areMaps_193 : decode cL_areMaps 193 = .ok (.iconst 0, 1) := by decide +kernel
theorem dL_areMaps_194 : decode cL_areMaps 194 = .ok (.iload 6, 2) := by decide +kernel
theorem dL_areMaps_196 : decode cL_areMaps 196 = .ok (.ifCond .le 7, 3) := by decide +kernel
theorem dL_areMaps_199 : decode cL_areMaps 199 = .ok (.iconst 1, 1) := by decide +kernel
theorem dL_areMaps_200 : decode cL_areMaps 200 = .ok (.goto 4, 3) := by decide +kernel
theorem dL_areMaps_203 : decode cL_areMaps 203 = .ok (.iconst 0, 1) := by decide +kernel
theorem dL_areMaps_204 : decode cL_areMaps 204 = .ok (.if_icmp .ne 50, 3) := by decide +kernel
theorem dL_areMaps_207 : decode cL_areMaps 207 = .ok (.aload_n 0, 1) := by decide +kernel
theorem dL_areMaps_208 : decode cL_areMaps 208 = .ok (.iload 4, 2) := by decide +kernel
theorem dL_areMaps_210 : decode cL_areMaps 210 = .ok (.iconst 0, 1) := by decide +kernel
theorem dL_areMaps_211 : decode cL_areMaps 211 = .ok (.invokevirtual 77, 3) := by decide +kernel
theorem dL_areMaps_214 : decode cL_areMaps 214 = .ok (.aload_n 0, 1) := by decide +kernel
theorem dL_areMaps_215 : decode cL_areMaps 215 = .ok (.aload_n 0, 1) := by decide +kernel
theorem dL_areMaps_216 : decode cL_areMaps 216 = .ok (.iconst 0, 1) := by decide +kernel
theorem dL_areMaps_217 : decode cL_areMaps 217 = .ok (.invokevirtual 114, 3) := by decide +kernel
theorem dL_areMaps_220 : decode cL_areMaps 220 = .ok (.iconst 0, 1) := by decide +kernel
theorem dL_areMaps_221 : decode cL_areMaps 221 = .ok (.invokevirtual 77, 3) := by decide +kernel
theorem dL_areMaps_224 : decode cL_areMaps 224 = .ok (.if_icmp .gt 30, 3) := by decide +kernel
theorem dL_areMaps_227 : decode cL_areMaps 227 = .ok (.iload 5, 2) := by decide +kernel
theorem dL_areMaps_229 : decode cL_areMaps 229 = .ok (.aload_n 0, 1) := by decide +kernel
theorem dL_areMaps_230 : decode cL_areMaps 230 = .ok (.iload 4, 2) := by decide +kernel
theorem dL_areMaps_232 : decode cL_areMaps 232 = .ok (.invokevirtual 50, 3) := by decide +kernel
theorem dL_areMaps_235 : decode cL_areMaps 235 = .ok (.ifCond .eq 7, 3) := by decide +kernel
theorem dL_areMaps_238 : decode cL_areMaps 238 = .ok (.iconst 3, 1) := by decide +kernel
theorem dL_areMaps_239 : decode cL_areMaps 239 = .ok (.goto 4, 3) := by decide +kernel
theorem dL_areMaps_242 : decode cL_areMaps 242 = .ok (.iconst 2, 1) := by decide +kernel
theorem dL_areMaps_243 : decode cL_areMaps 243 = .ok (.if_icmp .lt 11, 3) := by decide +kernel
theorem dL_areMaps_246 : decode cL_areMaps 246 = .ok (.iload 5, 2) := by decide +kernel
theorem dL_areMaps_248 : decode cL_areMaps 248 = .ok (.sipush 129, 3) := by decide +kernel
theorem dL_areMaps_251 : decode cL_areMaps 251 = .ok (.if_icmp .le 5, 3) := by decide +kernel
theorem dL_areMaps_254 : decode cL_areMaps 254 = .ok (.iconst 0, 1) := by decide +kernel
theorem dL_areMaps_255 : decode cL_areMaps 255 = .ok (.ireturn, 1) := by decide +kernel
theorem dL_areMaps_256 : decode cL_areMaps 256 = .ok (.aload_n 0, 1) := by decide +kernel
theorem dL_areMaps_257 : decode cL_areMaps 257 = .ok (.iload 4, 2) := by decide +kernel
theorem dL_areMaps_259 : decode cL_areMaps 259 = .ok (.invokevirtual 117, 3) := by decide +kernel
theorem dL_areMaps_262 : decode cL_areMaps 262 = .ok (.istore 8, 2) := by decide +kernel
theorem dL_areMaps_264 : decode cL_areMaps 264 = .ok (.iconst 0, 1) := by decide +kernel
theorem dL_areMaps_265 : decode cL_areMaps 265 = .ok (.istore 9, 2) := by decide +kernel
theorem dL_areMaps_267 : decode cL_areMaps 267 = .ok (.iload 9, 2) := by decide +kernel
theorem dL_areMaps_269 : decode cL_areMaps 269 = .ok (.iload 5, 2) := by decide +kernel
theorem dL_areMaps_271 : decode cL_areMaps 271 = .ok (.if_icmp .ge 161, 3) := by decide +kernel
theorem dL_areMaps_274 : decode cL_areMaps 274 = .ok (.aload_n 0, 1) := by decide +kernel
theorem dL_areMaps_275 : decode cL_areMaps 275 = .ok (.iload 4, 2) := by decide +kernel
theorem dL_areMaps_277 : decode cL_areMaps 277 = .ok (.aload_n 0, 1) := by decide +kernel
theorem dL_areMaps_278 : decode cL_areMaps 278 = .ok (.iload 4, 2) := by decide +kernel
theorem dL_areMaps_280 : decode cL_areMaps 280 = .ok (.iload 9, 2) := by decide +kernel
theorem dL_areMaps_282 : decode cL_areMaps 282 = .ok (.invokevirtual 54, 3) := by decide +kernel
theorem dL_areMaps_285 : decode cL_areMaps 285 = .ok (.aload_n 0, 1) := by decide +kernel
theorem dL_areMaps_286 : decode cL_areMaps 286 = .ok (.iload 4, 2) := by decide +kernel
theorem dL_areMaps_288 : decode cL_areMaps 288 = .ok (.iload 9, 2) := by decide +kernel
theorem dL_areMaps_290 : decode cL_areMaps 290 = .ok (.invokevirtual 58, 3) := by decide +kernel
theorem dL_areMaps_293 : decode cL_areMaps 293 = .ok (.invokevirtual 120, 3) := by decide +kernel
theorem dL_areMaps_296 : decode cL_areMaps 296 = .ok (.istore 10, 2) := by decide +kernel
theorem dL_areMaps_298 : decode cL_areMaps 298 = .ok (.aload_n 0, 1) := by decide +kernel
theorem dL_areMaps_299 : decode cL_areMaps 299 = .ok (.iload 4, 2) := by decide +kernel
theorem dL_areMaps_301 : decode cL_areMaps 301 = .ok (.iload 9, 2) := by decide +kernel
theorem dL_areMaps_303 : decode cL_areMaps 303 = .ok (.invokevirtual 123, 3) := by decide +kernel
theorem dL_areMaps_306 : decode cL_areMaps 306 = .ok (.istore 11, 2) := by decide +kernel
theorem dL_areMaps_308 : decode cL_areMaps 308 = .ok (.iload 10, 2) := by decide +kernel
theorem dL_areMaps_310 : decode cL_areMaps 310 = .ok (.iload 9, 2) := by decide +kernel
theorem dL_areMaps_312 : decode cL_areMaps 312 = .ok (.if_icmp .gt 103, 3) := by decide +kernel
theorem dL_areMaps_315 : decode cL_areMaps 315 = .ok (.aload_n 0, 1) := by decide +kernel
theorem dL_areMaps_316 : decode cL_areMaps 316 = .ok (.iload 4, 2) := by decide +kernel
theorem dL_areMaps_318 : decode cL_areMaps 318 = .ok (.iload 10, 2) := by decide +kernel
theorem dL_areMaps_320 : decode cL_areMaps 320 = .ok (.iload 9, 2) := by decide +kernel
theorem dL_areMaps_322 : decode cL_areMaps 322 = .ok (.invokevirtual 74, 3) := by decide +kernel
theorem dL_areMaps_325 : decode cL_areMaps 325 = .ok (.ifCond .ne 90, 3) := by decide +kernel
theorem dL_areMaps_328 : decode cL_areMaps 328 = .ok (.iload 11, 2) := by decide +kernel
theorem dL_areMaps_330 : decode cL_areMaps 330 = .ok (.aload_n 0, 1) := by decide +kernel
theorem dL_areMaps_331 : decode cL_areMaps 331 = .ok (.iload 4, 2) := by decide +kernel
theorem dL_areMaps_333 : decode cL_areMaps 333 = .ok (.iconst 0, 1) := by decide +kernel
theorem dL_areMaps_334 : decode cL_areMaps 334 = .ok (.invokevirtual 77, 3) := by decide +kernel
theorem dL_areMaps_337 : decode cL_areMaps 337 = .ok (.if_icmp .gt 78, 3) := by decide +kernel
theorem dL_areMaps_340 : decode cL_areMaps 340 = .ok (.iload 11, 2) := by decide +kernel
theorem dL_areMaps_342 : decode cL_areMaps 342 = .ok (.ifCond .ge 7, 3) := by decide +kernel
theorem dL_areMaps_345 : decode cL_areMaps 345 = .ok (.iconst 1, 1) := by decide +kernel
theorem dL_areMaps_346 : decode cL_areMaps 346 = .ok (.goto 4, 3) := by decide +kernel
theorem dL_areMaps_349 : decode cL_areMaps 349 = .ok (.iconst 0, 1) := by decide +kernel
theorem dL_areMaps_350 : decode cL_areMaps 350 = .ok (.iload 8, 2) := by decide +kernel
theorem dL_areMaps_352 : decode cL_areMaps 352 = .ok (.ifCond .ge 7, 3) := by decide +kernel
theorem dL_areMaps_355 : decode cL_areMaps 355 = .ok (.iconst 1, 1) := by decide +kernel
theorem dL_areMaps_356 : decode cL_areMaps 356 = .ok (.goto 4, 3) := by decide +kernel
theorem dL_areMaps_359 : decode cL_areMaps 359 = .ok (.iconst 0, 1) := by decide +kernel
theorem dL_areMaps_360 : decode cL_areMaps 360 = .ok (.if_icmp .ne 55, 3) := by decide +kernel
theorem dL_areMaps_363 : decode cL_areMaps 363 = .ok (.iload 8, 2) := by decide +kernel
theorem dL_areMaps_365 : decode cL_areMaps 365 = .ok (.ifCond .lt 16, 3) := by decide +kernel
theorem dL_areMaps_368 : decode cL_areMaps 368 = .ok (.iload 11, 2) := by decide +kernel
theorem dL_areMaps_370 : decode cL_areMaps 370 = .ok (.aload_n 0, 1) := by decide +kernel
theorem dL_areMaps_371 : decode cL_areMaps 371 = .ok (.iload 4, 2) := by decide +kernel
theorem dL_areMaps_373 : decode cL_areMaps 373 = .ok (.iload 8, 2) := by decide +kernel
theorem dL_areMaps_375 : decode cL_areMaps 375 = .ok (.invokevirtual 123, 3) := by decide +kernel
theorem dL_areMaps_378 : decode cL_areMaps 378 = .ok (.if_icmp .gt 37, 3) := by decide +kernel
theorem dL_areMaps_381 : decode cL_areMaps 381 = .ok (.aload_n 0, 1) := by decide +kernel
theorem dL_areMaps_382 : decode cL_areMaps 382 = .ok (.iload 4, 2) := by decide +kernel
theorem dL_areMaps_384 : decode cL_areMaps 384 = .ok (.invokevirtual 50, 3) := by decide +kernel
theorem dL_areMaps_387 : decode cL_areMaps 387 = .ok (.ifCond .eq 30, 3) := by decide +kernel
theorem dL_areMaps_390 : decode cL_areMaps 390 = .ok (.aload_n 0, 1) := by decide +kernel
theorem dL_areMaps_391 : decode cL_areMaps 391 = .ok (.iload 4, 2) := by decide +kernel
theorem dL_areMaps_393 : decode cL_areMaps 393 = .ok (.aload_n 0, 1) := by decide +kernel
theorem dL_areMaps_394 : decode cL_areMaps 394 = .ok (.iload 4, 2) := by decide +kernel
theorem dL_areMaps_396 : decode cL_areMaps 396 = .ok (.iload 9, 2) := by decide +kernel
theorem dL_areMaps_398 : decode cL_areMaps 398 = .ok (.invokevirtual 54, 3) := by decide +kernel
theorem dL_areMaps_401 : decode cL_areMaps 401 = .ok (.aload_n 0, 1) := by decide +kernel
theorem dL_areMaps_402 : decode cL_areMaps 402 = .ok (.iload 4, 2) := by decide +kernel
theorem dL_areMaps_404 : decode cL_areMaps 404 = .ok (.iload 9, 2) := by decide +kernel
theorem dL_areMaps_406 : decode cL_areMaps 406 = .ok (.invokevirtual 58, 3) := by decide +kernel
theorem dL_areMaps_409 : decode cL_areMaps 409 = .ok (.invokevirtual 126, 3) := by decide +kernel
theorem dL_areMaps_412 : decode cL_areMaps 412 = .ok (.ifCond .ne 5, 3) := by decide +kernel
theorem dL_areMaps_415 : decode cL_areMaps 415 = .ok (.iconst 0, 1) := by decide +kernel
theorem dL_areMaps_416 : decode cL_areMaps 416 = .ok (.ireturn, 1) := by decide +kernel
theorem dL_areMaps_417 : decode cL_areMaps 417 = .ok (.iload 9, 2) := by decide +kernel
theorem dL_areMaps_419 : decode cL_areMaps 419 = .ok (.iconst 1, 1) := by decide +kernel
theorem dL_areMaps_420 : decode cL_areMaps 420 = .ok (.iload 5, 2) := by decide +kernel
theorem dL_areMaps_422 : decode cL_areMaps 422 = .ok (.bipush 6, 2) := by decide +kernel
theorem dL_areMaps_424 : decode cL_areMaps 424 = .ok (.idiv, 1) := by decide +kernel
theorem dL_areMaps_425 : decode cL_areMaps 425 = .ok (.iadd, 1) := by decide +kernel
theorem dL_areMaps_426 : decode cL_areMaps 426 = .ok (.iadd, 1) := by decide +kernel
theorem dL_areMaps_427 : decode cL_areMaps 427 = .ok (.istore 9, 2) := by decide +kernel
theorem dL_areMaps_429 : decode cL_areMaps 429 = .ok (.goto (-162), 3) := by decide +kernel
theorem dL_areMaps_432 : decode cL_areMaps 432 = .ok (.iinc 4 1, 3) := by decide +kernel
theorem dL_areMaps_435 : decode cL_areMaps 435 = .ok (.goto (-423), 3) := by decide +kernel
theorem dL_areMaps_438 : decode cL_areMaps 438 = .ok (.iload_n 3, 1) := by decide +kernel
theorem dL_areMaps_439 : decode cL_areMaps 439 = .ok (.aload_n 0, 1) := by decide +kernel
theorem dL_areMaps_440 : decode cL_areMaps 440 = .ok (.iconst 0, 1) := by decide +kernel
theorem dL_areMaps_441 : decode cL_areMaps 441 = .ok (.invokevirtual 130, 3) := by decide +kernel
theorem dL_areMaps_444 : decode cL_areMaps 444 = .ok (.if_icmp .ne 32, 3) := by decide +kernel
theorem dL_areMaps_447 : decode cL_areMaps 447 = .ok (.iload_n 2, 1) := by decide +kernel

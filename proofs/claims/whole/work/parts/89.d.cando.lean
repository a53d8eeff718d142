/-! may it be done: the reference's side -/
abbrev M_Model_canDo : q_M := (⟨"LensPathsModel", "canDo", "(IIIII)Z"⟩, prog_14_method_47_code, 11, (some .boolean), "LensPathsModel", [], false, 3, 69)
theorem d_Model_canDo_0 : decode prog_14_method_47_code 0 = .ok (.iload_n 1, 1) := by decide +kernel
theorem d_Model_canDo_1 : decode prog_14_method_47_code 1 = .ok (.iconst 1, 1) := by decide +kernel
theorem d_Model_canDo_2 : decode prog_14_method_47_code 2 = .ok (.if_icmp .ne 31, 3) := by decide +kernel
theorem d_Model_canDo_5 : decode prog_14_method_47_code 5 = .ok (.aload_n 0, 1) := by decide +kernel
theorem d_Model_canDo_6 : decode prog_14_method_47_code 6 = .ok (.iload_n 2, 1) := by decide +kernel
theorem d_Model_canDo_7 : decode prog_14_method_47_code 7 = .ok (.iload_n 3, 1) := by decide +kernel
theorem d_Model_canDo_8 : decode prog_14_method_47_code 8 = .ok (.iload 4, 2) := by decide +kernel
theorem d_Model_canDo_10 : decode prog_14_method_47_code 10 = .ok (.iload 5, 2) := by decide +kernel
theorem d_Model_canDo_12 : decode prog_14_method_47_code 12 = .ok (.invokevirtual 240, 3) := by decide +kernel
theorem d_Model_canDo_15 : decode prog_14_method_47_code 15 = .ok (.ifCond .eq 16, 3) := by decide +kernel
theorem d_Model_canDo_18 : decode prog_14_method_47_code 18 = .ok (.aload_n 0, 1) := by decide +kernel
theorem d_Model_canDo_19 : decode prog_14_method_47_code 19 = .ok (.getfield 108, 3) := by decide +kernel
theorem d_Model_canDo_22 : decode prog_14_method_47_code 22 = .ok (.bipush 24, 2) := by decide +kernel
theorem d_Model_canDo_24 : decode prog_14_method_47_code 24 = .ok (.if_icmp .ge 7, 3) := by decide +kernel
theorem d_Model_canDo_27 : decode prog_14_method_47_code 27 = .ok (.iconst 1, 1) := by decide +kernel
theorem d_Model_canDo_28 : decode prog_14_method_47_code 28 = .ok (.goto 4, 3) := by decide +kernel
theorem d_Model_canDo_31 : decode prog_14_method_47_code 31 = .ok (.iconst 0, 1) := by decide +kernel
theorem d_Model_canDo_32 : decode prog_14_method_47_code 32 = .ok (.ireturn, 1) := by decide +kernel
theorem d_Model_canDo_33 : decode prog_14_method_47_code 33 = .ok (.iload_n 2, 1) := by decide +kernel
theorem d_Model_canDo_34 : decode prog_14_method_47_code 34 = .ok (.invokestatic 132, 3) := by decide +kernel
theorem d_Model_canDo_37 : decode prog_14_method_47_code 37 = .ok (.istore 6, 2) := by decide +kernel
theorem d_Model_canDo_39 : decode prog_14_method_47_code 39 = .ok (.iload 6, 2) := by decide +kernel
theorem d_Model_canDo_41 : decode prog_14_method_47_code 41 = .ok (.ifCond .le 11, 3) := by decide +kernel
theorem d_Model_canDo_44 : decode prog_14_method_47_code 44 = .ok (.aload_n 0, 1) := by decide +kernel
theorem d_Model_canDo_45 : decode prog_14_method_47_code 45 = .ok (.iload_n 2, 1) := by decide +kernel
theorem d_Model_canDo_46 : decode prog_14_method_47_code 46 = .ok (.invokevirtual 111, 3) := by decide +kernel
theorem d_Model_canDo_49 : decode prog_14_method_47_code 49 = .ok (.goto 4, 3) := by decide +kernel
theorem d_Model_canDo_52 : decode prog_14_method_47_code 52 = .ok (.iconst (-1), 1) := by decide +kernel
theorem d_Model_canDo_53 : decode prog_14_method_47_code 53 = .ok (.istore 7, 2) := by decide +kernel
theorem d_Model_canDo_55 : decode prog_14_method_47_code 55 = .ok (.iload 7, 2) := by decide +kernel
theorem d_Model_canDo_57 : decode prog_14_method_47_code 57 = .ok (.ifCond .ge 5, 3) := by decide +kernel
theorem d_Model_canDo_60 : decode prog_14_method_47_code 60 = .ok (.iconst 0, 1) := by decide +kernel
theorem d_Model_canDo_61 : decode prog_14_method_47_code 61 = .ok (.ireturn, 1) := by decide +kernel
theorem d_Model_canDo_62 : decode prog_14_method_47_code 62 = .ok (.iload_n 3, 1) := by decide +kernel
theorem d_Model_canDo_63 : decode prog_14_method_47_code 63 = .ok (.ifCond .lt 13, 3) := by decide +kernel
theorem d_Model_canDo_66 : decode prog_14_method_47_code 66 = .ok (.iload_n 3, 1) := by decide +kernel
theorem d_Model_canDo_67 : decode prog_14_method_47_code 67 = .ok (.bipush 99, 2) := by decide +kernel
theorem d_Model_canDo_69 : decode prog_14_method_47_code 69 = .ok (.if_icmp .gt 7, 3) := by decide +kernel
theorem d_Model_canDo_72 : decode prog_14_method_47_code 72 = .ok (.iconst 1, 1) := by decide +kernel
theorem d_Model_canDo_73 : decode prog_14_method_47_code 73 = .ok (.goto 4, 3) := by decide +kernel
theorem d_Model_canDo_76 : decode prog_14_method_47_code 76 = .ok (.iconst 0, 1) := by decide +kernel
theorem d_Model_canDo_77 : decode prog_14_method_47_code 77 = .ok (.istore 8, 2) := by decide +kernel
theorem d_Model_canDo_79 : decode prog_14_method_47_code 79 = .ok (.iconst 0, 1) := by decide +kernel
theorem d_Model_canDo_80 : decode prog_14_method_47_code 80 = .ok (.istore 9, 2) := by decide +kernel
theorem d_Model_canDo_82 : decode prog_14_method_47_code 82 = .ok (.iconst 0, 1) := by decide +kernel
theorem d_Model_canDo_83 : decode prog_14_method_47_code 83 = .ok (.istore 10, 2) := by decide +kernel
theorem d_Model_canDo_85 : decode prog_14_method_47_code 85 = .ok (.iload 10, 2) := by decide +kernel
theorem d_Model_canDo_87 : decode prog_14_method_47_code 87 = .ok (.aload_n 0, 1) := by decide +kernel
theorem d_Model_canDo_88 : decode prog_14_method_47_code 88 = .ok (.getfield 108, 3) := by decide +kernel
theorem d_Model_canDo_91 : decode prog_14_method_47_code 91 = .ok (.if_icmp .ge 44, 3) := by decide +kernel
theorem d_Model_canDo_94 : decode prog_14_method_47_code 94 = .ok (.iload 9, 2) := by decide +kernel
theorem d_Model_canDo_96 : decode prog_14_method_47_code 96 = .ok (.ifCond .ne 26, 3) := by decide +kernel
theorem d_Model_canDo_99 : decode prog_14_method_47_code 99 = .ok (.iload 10, 2) := by decide +kernel
theorem d_Model_canDo_101 : decode prog_14_method_47_code 101 = .ok (.iload 7, 2) := by decide +kernel
theorem d_Model_canDo_103 : decode prog_14_method_47_code 103 = .ok (.if_icmp .eq 23, 3) := by decide +kernel
theorem d_Model_canDo_106 : decode prog_14_method_47_code 106 = .ok (.aload_n 0, 1) := by decide +kernel
theorem d_Model_canDo_107 : decode prog_14_method_47_code 107 = .ok (.getfield 53, 3) := by decide +kernel
theorem d_Model_canDo_110 : decode prog_14_method_47_code 110 = .ok (.iload 10, 2) := by decide +kernel
theorem d_Model_canDo_112 : decode prog_14_method_47_code 112 = .ok (.iaload, 1) := by decide +kernel
theorem d_Model_canDo_113 : decode prog_14_method_47_code 113 = .ok (.iload_n 2, 1) := by decide +kernel
theorem d_Model_canDo_114 : decode prog_14_method_47_code 114 = .ok (.iload 6, 2) := by decide +kernel
theorem d_Model_canDo_116 : decode prog_14_method_47_code 116 = .ok (.invokestatic 135, 3) := by decide +kernel
theorem d_Model_canDo_119 : decode prog_14_method_47_code 119 = .ok (.ifCond .eq 7, 3) := by decide +kernel
theorem d_Model_canDo_122 : decode prog_14_method_47_code 122 = .ok (.iconst 1, 1) := by decide +kernel
theorem d_Model_canDo_123 : decode prog_14_method_47_code 123 = .ok (.goto 4, 3) := by decide +kernel
theorem d_Model_canDo_126 : decode prog_14_method_47_code 126 = .ok (.iconst 0, 1) := by decide +kernel
theorem d_Model_canDo_127 : decode prog_14_method_47_code 127 = .ok (.istore 9, 2) := by decide +kernel
theorem d_Model_canDo_129 : decode prog_14_method_47_code 129 = .ok (.iinc 10 1, 3) := by decide +kernel
theorem d_Model_canDo_132 : decode prog_14_method_47_code 132 = .ok (.goto (-47), 3) := by decide +kernel
theorem d_Model_canDo_135 : decode prog_14_method_47_code 135 = .ok (.iload_n 1, 1) := by decide +kernel
theorem d_Model_canDo_136 : decode prog_14_method_47_code 136 = .ok (.tableswitch 365 0 8 #[52, 365, 77, 88, 104, 130, 192, 280, 348], 52) := by decide +kernel
theorem d_Model_canDo_188 : decode prog_14_method_47_code 188 = .ok (.iload 8, 2) := by decide +kernel
theorem d_Model_canDo_190 : decode prog_14_method_47_code 190 = .ok (.ifCond .eq 21, 3) := by decide +kernel
theorem d_Model_canDo_193 : decode prog_14_method_47_code 193 = .ok (.aload_n 0, 1) := by decide +kernel
theorem d_Model_canDo_194 : decode prog_14_method_47_code 194 = .ok (.aload_n 0, 1) := by decide +kernel
theorem d_Model_canDo_195 : decode prog_14_method_47_code 195 = .ok (.iload_n 1, 1) := by decide +kernel
theorem d_Model_canDo_196 : decode prog_14_method_47_code 196 = .ok (.iload_n 2, 1) := by decide +kernel
theorem d_Model_canDo_197 : decode prog_14_method_47_code 197 = .ok (.iload_n 3, 1) := by decide +kernel
theorem d_Model_canDo_198 : decode prog_14_method_47_code 198 = .ok (.invokevirtual 160, 3) := by decide +kernel
theorem d_Model_canDo_201 : decode prog_14_method_47_code 201 = .ok (.invokevirtual 111, 3) := by decide +kernel
theorem d_Model_canDo_204 : decode prog_14_method_47_code 204 = .ok (.ifCond .ge 7, 3) := by decide +kernel
theorem d_Model_canDo_207 : decode prog_14_method_47_code 207 = .ok (.iconst 1, 1) := by decide +kernel
theorem d_Model_canDo_208 : decode prog_14_method_47_code 208 = .ok (.goto 4, 3) := by decide +kernel
theorem d_Model_canDo_211 : decode prog_14_method_47_code 211 = .ok (.iconst 0, 1) := by decide +kernel
theorem d_Model_canDo_212 : decode prog_14_method_47_code 212 = .ok (.ireturn, 1) := by decide +kernel
theorem d_Model_canDo_213 : decode prog_14_method_47_code 213 = .ok (.iload 9, 2) := by decide +kernel
theorem d_Model_canDo_215 : decode prog_14_method_47_code 215 = .ok (.ifCond .ne 7, 3) := by decide +kernel
theorem d_Model_canDo_218 : decode prog_14_method_47_code 218 = .ok (.iconst 1, 1) := by decide +kernel
theorem d_Model_canDo_219 : decode prog_14_method_47_code 219 = .ok (.goto 4, 3) := by decide +kernel
theorem d_Model_canDo_222 : decode prog_14_method_47_code 222 = .ok (.iconst 0, 1) := by decide +kernel
theorem d_Model_canDo_223 : decode prog_14_method_47_code 223 = .ok (.ireturn, 1) := by decide +kernel
theorem d_Model_canDo_224 : decode prog_14_method_47_code 224 = .ok (.aload_n 0, 1) := by decide +kernel
theorem d_Model_canDo_225 : decode prog_14_method_47_code 225 = .ok (.getfield 56, 3) := by decide +kernel
theorem d_Model_canDo_228 : decode prog_14_method_47_code 228 = .ok (.iload 7, 2) := by decide +kernel
theorem d_Model_canDo_230 : decode prog_14_method_47_code 230 = .ok (.iaload, 1) := by decide +kernel
theorem d_Model_canDo_231 : decode prog_14_method_47_code 231 = .ok (.ifCond .ne 7, 3) := by decide +kernel
theorem d_Model_canDo_234 : decode prog_14_method_47_code 234 = .ok (.iconst 1, 1) := by decide +kernel
theorem d_Model_canDo_235 : decode prog_14_method_47_code 235 = .ok (.goto 4, 3) := by decide +kernel
theorem d_Model_canDo_238 : decode prog_14_method_47_code 238 = .ok (.iconst 0, 1) := by decide +kernel
theorem d_Model_canDo_239 : decode prog_14_method_47_code 239 = .ok (.ireturn, 1) := by decide +kernel
theorem d_Model_canDo_240 : decode prog_14_method_47_code 240 = .ok (.iload 6, 2) := by decide +kernel
theorem d_Model_canDo_242 : decode prog_14_method_47_code 242 = .ok (.iconst 1, 1) := by decide +kernel
theorem d_Model_canDo_243 : decode prog_14_method_47_code 243 = .ok (.if_icmp .le 21, 3) := by decide +kernel
theorem d_Model_canDo_246 : decode prog_14_method_47_code 246 = .ok (.aload_n 0, 1) := by decide +kernel
theorem d_Model_canDo_247 : decode prog_14_method_47_code 247 = .ok (.aload_n 0, 1) := by decide +kernel
theorem d_Model_canDo_248 : decode prog_14_method_47_code 248 = .ok (.iload_n 1, 1) := by decide +kernel
theorem d_Model_canDo_249 : decode prog_14_method_47_code 249 = .ok (.iload_n 2, 1) := by decide +kernel
theorem d_Model_canDo_250 : decode prog_14_method_47_code 250 = .ok (.iload_n 3, 1) := by decide +kernel
theorem d_Model_canDo_251 : decode prog_14_method_47_code 251 = .ok (.invokevirtual 160, 3) := by decide +kernel
theorem d_Model_canDo_254 : decode prog_14_method_47_code 254 = .ok (.invokevirtual 111, 3) := by decide +kernel
theorem d_Model_canDo_257 : decode prog_14_method_47_code 257 = .ok (.ifCond .ge 7, 3) := by decide +kernel
theorem d_Model_canDo_260 : decode prog_14_method_47_code 260 = .ok (.iconst 1, 1) := by decide +kernel
theorem d_Model_canDo_261 : decode prog_14_method_47_code 261 = .ok (.goto 4, 3) := by decide +kernel
theorem d_Model_canDo_264 : decode prog_14_method_47_code 264 = .ok (.iconst 0, 1) := by decide +kernel
theorem d_Model_canDo_265 : decode prog_14_method_47_code 265 = .ok (.ireturn, 1) := by decide +kernel
theorem d_Model_canDo_266 : decode prog_14_method_47_code 266 = .ok (.aload_n 0, 1) := by decide +kernel
theorem d_Model_canDo_267 : decode prog_14_method_47_code 267 = .ok (.getfield 56, 3) := by decide +kernel
theorem d_Model_canDo_270 : decode prog_14_method_47_code 270 = .ok (.iload 7, 2) := by decide +kernel
theorem d_Model_canDo_272 : decode prog_14_method_47_code 272 = .ok (.iaload, 1) := by decide +kernel
theorem d_Model_canDo_273 : decode prog_14_method_47_code 273 = .ok (.ifCond .ne 53, 3) := by decide +kernel
theorem d_Model_canDo_276 : decode prog_14_method_47_code 276 = .ok (.iload_n 3, 1) := by decide +kernel
theorem d_Model_canDo_277 : decode prog_14_method_47_code 277 = .ok (.iconst 2, 1) := by decide +kernel
theorem d_Model_canDo_278 : decode prog_14_method_47_code 278 = .ok (.if_icmp .lt 48, 3) := by decide +kernel
theorem d_Model_canDo_281 : decode prog_14_method_47_code 281 = .ok (.iload_n 3, 1) := by decide +kernel
theorem d_Model_canDo_282 : decode prog_14_method_47_code 282 = .ok (.sipush 1000, 3) := by decide +kernel
theorem d_Model_canDo_285 : decode prog_14_method_47_code 285 = .ok (.if_icmp .gt 41, 3) := by decide +kernel
theorem d_Model_canDo_288 : decode prog_14_method_47_code 288 = .ok (.iload 4, 2) := by decide +kernel
theorem d_Model_canDo_290 : decode prog_14_method_47_code 290 = .ok (.ifCond .lt 36, 3) := by decide +kernel
theorem d_Model_canDo_293 : decode prog_14_method_47_code 293 = .ok (.iload 4, 2) := by decide +kernel
theorem d_Model_canDo_295 : decode prog_14_method_47_code 295 = .ok (.bipush 99, 2) := by decide +kernel
theorem d_Model_canDo_297 : decode prog_14_method_47_code 297 = .ok (.if_icmp .gt 29, 3) := by decide +kernel
theorem d_Model_canDo_300 : decode prog_14_method_47_code 300 = .ok (.aload_n 0, 1) := by decide +kernel
theorem d_Model_canDo_301 : decode prog_14_method_47_code 301 = .ok (.iload_n 2, 1) := by decide +kernel
theorem d_Model_canDo_302 : decode prog_14_method_47_code 302 = .ok (.iload 4, 2) := by decide +kernel
theorem d_Model_canDo_304 : decode prog_14_method_47_code 304 = .ok (.invokestatic 194, 3) := by decide +kernel
theorem d_Model_canDo_307 : decode prog_14_method_47_code 307 = .ok (.invokevirtual 111, 3) := by decide +kernel
theorem d_Model_canDo_310 : decode prog_14_method_47_code 310 = .ok (.ifCond .ge 16, 3) := by decide +kernel
theorem d_Model_canDo_313 : decode prog_14_method_47_code 313 = .ok (.aload_n 0, 1) := by decide +kernel
theorem d_Model_canDo_314 : decode prog_14_method_47_code 314 = .ok (.getfield 108, 3) := by decide +kernel
theorem d_Model_canDo_317 : decode prog_14_method_47_code 317 = .ok (.bipush 24, 2) := by decide +kernel
theorem d_Model_canDo_319 : decode prog_14_method_47_code 319 = .ok (.if_icmp .ge 7, 3) := by decide +kernel
theorem d_Model_canDo_322 : decode prog_14_method_47_code 322 = .ok (.iconst 1, 1) := by decide +kernel
theorem d_Model_canDo_323 : decode prog_14_method_47_code 323 = .ok (.goto 4, 3) := by decide +kernel
theorem d_Model_canDo_326 : decode prog_14_method_47_code 326 = .ok (.iconst 0, 1) := by decide +kernel
theorem d_Model_canDo_327 : decode prog_14_method_47_code 327 = .ok (.ireturn, 1) := by decide +kernel
theorem d_Model_canDo_328 : decode prog_14_method_47_code 328 = .ok (.aload_n 0, 1) := by decide +kernel
theorem d_Model_canDo_329 : decode prog_14_method_47_code 329 = .ok (.getfield 56, 3) := by decide +kernel
theorem d_Model_canDo_332 : decode prog_14_method_47_code 332 = .ok (.iload 7, 2) := by decide +kernel
theorem d_Model_canDo_334 : decode prog_14_method_47_code 334 = .ok (.iaload, 1) := by decide +kernel
theorem d_Model_canDo_335 : decode prog_14_method_47_code 335 = .ok (.ifCond .ne 79, 3) := by decide +kernel
theorem d_Model_canDo_338 : decode prog_14_method_47_code 338 = .ok (.iload_n 3, 1) := by decide +kernel
theorem d_Model_canDo_339 : decode prog_14_method_47_code 339 = .ok (.iconst 1, 1) := by decide +kernel
theorem d_Model_canDo_340 : decode prog_14_method_47_code 340 = .ok (.if_icmp .lt 74, 3) := by decide +kernel
theorem d_Model_canDo_343 : decode prog_14_method_47_code 343 = .ok (.iload_n 3, 1) := by decide +kernel
theorem d_Model_canDo_344 : decode prog_14_method_47_code 344 = .ok (.sipush 1000, 3) := by decide +kernel
theorem d_Model_canDo_347 : decode prog_14_method_47_code 347 = .ok (.if_icmp .gt 67, 3) := by decide +kernel
theorem d_Model_canDo_350 : decode prog_14_method_47_code 350 = .ok (.iload 4, 2) := by decide +kernel
theorem d_Model_canDo_352 : decode prog_14_method_47_code 352 = .ok (.iconst 1, 1) := by decide +kernel
theorem d_Model_canDo_353 : decode prog_14_method_47_code 353 = .ok (.if_icmp .lt 61, 3) := by decide +kernel
theorem d_Model_canDo_356 : decode prog_14_method_47_code 356 = .ok (.iload 4, 2) := by decide +kernel
theorem d_Model_canDo_358 : decode prog_14_method_47_code 358 = .ok (.sipush 1000, 3) := by decide +kernel
theorem d_Model_canDo_361 : decode prog_14_method_47_code 361 = .ok (.if_icmp .gt 53, 3) := by decide +kernel
theorem d_Model_canDo_364 : decode prog_14_method_47_code 364 = .ok (.iload_n 3, 1) := by decide +kernel
theorem d_Model_canDo_365 : decode prog_14_method_47_code 365 = .ok (.i2l, 1) := by decide +kernel
theorem d_Model_canDo_366 : decode prog_14_method_47_code 366 = .ok (.aload_n 0, 1) := by decide +kernel
theorem d_Model_canDo_367 : decode prog_14_method_47_code 367 = .ok (.getfield 59, 3) := by decide +kernel
theorem d_Model_canDo_370 : decode prog_14_method_47_code 370 = .ok (.iload 7, 2) := by decide +kernel
theorem d_Model_canDo_372 : decode prog_14_method_47_code 372 = .ok (.iaload, 1) := by decide +kernel
theorem d_Model_canDo_373 : decode prog_14_method_47_code 373 = .ok (.i2l, 1) := by decide +kernel
theorem d_Model_canDo_374 : decode prog_14_method_47_code 374 = .ok (.lmul, 1) := by decide +kernel
theorem d_Model_canDo_375 : decode prog_14_method_47_code 375 = .ok (.iload 4, 2) := by decide +kernel
theorem d_Model_canDo_377 : decode prog_14_method_47_code 377 = .ok (.i2l, 1) := by decide +kernel
theorem d_Model_canDo_378 : decode prog_14_method_47_code 378 = .ok (.invokestatic 184, 3) := by decide +kernel
theorem d_Model_canDo_381 : decode prog_14_method_47_code 381 = .ok (.invokestatic 266, 3) := by decide +kernel
theorem d_Model_canDo_384 : decode prog_14_method_47_code 384 = .ok (.ifCond .eq 30, 3) := by decide +kernel
theorem d_Model_canDo_387 : decode prog_14_method_47_code 387 = .ok (.iload_n 3, 1) := by decide +kernel
theorem d_Model_canDo_388 : decode prog_14_method_47_code 388 = .ok (.i2l, 1) := by decide +kernel
theorem d_Model_canDo_389 : decode prog_14_method_47_code 389 = .ok (.aload_n 0, 1) := by decide +kernel
theorem d_Model_canDo_390 : decode prog_14_method_47_code 390 = .ok (.getfield 62, 3) := by decide +kernel
theorem d_Model_canDo_393 : decode prog_14_method_47_code 393 = .ok (.iload 7, 2) := by decide +kernel
theorem d_Model_canDo_395 : decode prog_14_method_47_code 395 = .ok (.iaload, 1) := by decide +kernel
theorem d_Model_canDo_396 : decode prog_14_method_47_code 396 = .ok (.i2l, 1) := by decide +kernel
theorem d_Model_canDo_397 : decode prog_14_method_47_code 397 = .ok (.lmul, 1) := by decide +kernel
theorem d_Model_canDo_398 : decode prog_14_method_47_code 398 = .ok (.iload 4, 2) := by decide +kernel
theorem d_Model_canDo_400 : decode prog_14_method_47_code 400 = .ok (.i2l, 1) := by decide +kernel
theorem d_Model_canDo_401 : decode prog_14_method_47_code 401 = .ok (.invokestatic 184, 3) := by decide +kernel
theorem d_Model_canDo_404 : decode prog_14_method_47_code 404 = .ok (.invokestatic 266, 3) := by decide +kernel
theorem d_Model_canDo_407 : decode prog_14_method_47_code 407 = .ok (.ifCond .eq 7, 3) := by decide +kernel
theorem d_Model_canDo_410 : decode prog_14_method_47_code 410 = .ok (.iconst 1, 1) := by decide +kernel
theorem d_Model_canDo_411 : decode prog_14_method_47_code 411 = .ok (.goto 4, 3) := by decide +kernel
theorem d_Model_canDo_414 : decode prog_14_method_47_code 414 = .ok (.iconst 0, 1) := by decide +kernel
theorem d_Model_canDo_415 : decode prog_14_method_47_code 415 = .ok (.ireturn, 1) := by decide +kernel
theorem d_Model_canDo_416 : decode prog_14_method_47_code 416 = .ok (.aload_n 0, 1) := by decide +kernel
theorem d_Model_canDo_417 : decode prog_14_method_47_code 417 = .ok (.getfield 56, 3) := by decide +kernel
theorem d_Model_canDo_420 : decode prog_14_method_47_code 420 = .ok (.iload 7, 2) := by decide +kernel
theorem d_Model_canDo_422 : decode prog_14_method_47_code 422 = .ok (.iaload, 1) := by decide +kernel
theorem d_Model_canDo_423 : decode prog_14_method_47_code 423 = .ok (.ifCond .ne 59, 3) := by decide +kernel
theorem d_Model_canDo_426 : decode prog_14_method_47_code 426 = .ok (.iload_n 3, 1) := by decide +kernel
theorem d_Model_canDo_427 : decode prog_14_method_47_code 427 = .ok (.iload 4, 2) := by decide +kernel
theorem d_Model_canDo_429 : decode prog_14_method_47_code 429 = .ok (.if_icmp .eq 53, 3) := by decide +kernel
theorem d_Model_canDo_432 : decode prog_14_method_47_code 432 = .ok (.iload_n 3, 1) := by decide +kernel
theorem d_Model_canDo_433 : decode prog_14_method_47_code 433 = .ok (.aload_n 0, 1) := by decide +kernel
theorem d_Model_canDo_434 : decode prog_14_method_47_code 434 = .ok (.getfield 59, 3) := by decide +kernel
theorem d_Model_canDo_437 : decode prog_14_method_47_code 437 = .ok (.iload 7, 2) := by decide +kernel
theorem d_Model_canDo_439 : decode prog_14_method_47_code 439 = .ok (.iaload, 1) := by decide +kernel
theorem d_Model_canDo_440 : decode prog_14_method_47_code 440 = .ok (.if_icmp .lt 42, 3) := by decide +kernel
theorem d_Model_canDo_443 : decode prog_14_method_47_code 443 = .ok (.iload_n 3, 1) := by decide +kernel
theorem d_Model_canDo_444 : decode prog_14_method_47_code 444 = .ok (.aload_n 0, 1) := by decide +kernel
theorem d_Model_canDo_445 : decode prog_14_method_47_code 445 = .ok (.getfield 62, 3) := by decide +kernel
theorem d_Model_canDo_448 : decode prog_14_method_47_code 448 = .ok (.iload 7, 2) := by decide +kernel
theorem d_Model_canDo_450 : decode prog_14_method_47_code 450 = .ok (.iaload, 1) := by decide +kernel
theorem d_Model_canDo_451 : decode prog_14_method_47_code 451 = .ok (.if_icmp .gt 31, 3) := by decide +kernel
theorem d_Model_canDo_454 : decode prog_14_method_47_code 454 = .ok (.iload 4, 2) := by decide +kernel
theorem d_Model_canDo_456 : decode prog_14_method_47_code 456 = .ok (.aload_n 0, 1) := by decide +kernel
theorem d_Model_canDo_457 : decode prog_14_method_47_code 457 = .ok (.getfield 59, 3) := by decide +kernel
theorem d_Model_canDo_460 : decode prog_14_method_47_code 460 = .ok (.iload 7, 2) := by decide +kernel
theorem d_Model_canDo_462 : decode prog_14_method_47_code 462 = .ok (.iaload, 1) := by decide +kernel
theorem d_Model_canDo_463 : decode prog_14_method_47_code 463 = .ok (.if_icmp .lt 19, 3) := by decide +kernel
theorem d_Model_canDo_466 : decode prog_14_method_47_code 466 = .ok (.iload 4, 2) := by decide +kernel
theorem d_Model_canDo_468 : decode prog_14_method_47_code 468 = .ok (.aload_n 0, 1) := by decide +kernel
theorem d_Model_canDo_469 : decode prog_14_method_47_code 469 = .ok (.getfield 62, 3) := by decide +kernel
theorem d_Model_canDo_472 : decode prog_14_method_47_code 472 = .ok (.iload 7, 2) := by decide +kernel
theorem d_Model_canDo_474 : decode prog_14_method_47_code 474 = .ok (.iaload, 1) := by decide +kernel
theorem d_Model_canDo_475 : decode prog_14_method_47_code 475 = .ok (.if_icmp .gt 7, 3) := by decide +kernel
theorem d_Model_canDo_478 : decode prog_14_method_47_code 478 = .ok (.iconst 1, 1) := by decide +kernel
theorem d_Model_canDo_479 : decode prog_14_method_47_code 479 = .ok (.goto 4, 3) := by decide +kernel
theorem d_Model_canDo_482 : decode prog_14_method_47_code 482 = .ok (.iconst 0, 1) := by decide +kernel
theorem d_Model_canDo_483 : decode prog_14_method_47_code 483 = .ok (.ireturn, 1) := by decide +kernel
theorem d_Model_canDo_484 : decode prog_14_method_47_code 484 = .ok (.aload_n 0, 1) := by decide +kernel
theorem d_Model_canDo_485 : decode prog_14_method_47_code 485 = .ok (.getfield 56, 3) := by decide +kernel
theorem d_Model_canDo_488 : decode prog_14_method_47_code 488 = .ok (.iload 7, 2) := by decide +kernel
theorem d_Model_canDo_490 : decode prog_14_method_47_code 490 = .ok (.iaload, 1) := by decide +kernel
theorem d_Model_canDo_491 : decode prog_14_method_47_code 491 = .ok (.iconst 1, 1) := by decide +kernel
theorem d_Model_canDo_492 : decode prog_14_method_47_code 492 = .ok (.if_icmp .ne 7, 3) := by decide +kernel
theorem d_Model_canDo_495 : decode prog_14_method_47_code 495 = .ok (.iconst 1, 1) := by decide +kernel
theorem d_Model_canDo_496 : decode prog_14_method_47_code 496 = .ok (.goto 4, 3) := by decide +kernel
theorem d_Model_canDo_499 : decode prog_14_method_47_code 499 = .ok (.iconst 0, 1) := by decide +kernel
theorem d_Model_canDo_500 : decode prog_14_method_47_code 500 = .ok (.ireturn, 1) := by decide +kernel
theorem d_Model_canDo_501 : decode prog_14_method_47_code 501 = .ok (.iconst 0, 1) := by decide +kernel
theorem d_Model_canDo_502 : decode prog_14_method_47_code 502 = .ok (.ireturn, 1) := by decide +kernel
section CanDo
variable {g : q_G} {sz m : Nat} {T : q_T} {I : q_I} {R : q_R} {J : q_J} {S : KA}
theorem z_ge0 {o : Option Nat} (h : ∀ i, o = some i → i < 2 ^ 31) : (0 : Int32) ≤ p_idx o ↔ o.isSome = true := by
  cases o with
  | none => exact ⟨fun z => absurd (show (0 : Int32) ≤ -1 from z) (by decide), fun z => by cases z⟩
  | some i => exact ⟨fun _ => rfl, fun _ => nI_pos' (h i rfl)⟩
theorem k_fi_31 {M : List KF} (h : M.length ≤ 26) {l : List Nat} : ∀ i, k_fi M l = some i → i < 2 ^ 31 := fun i hi => by have := (k_fi_some hi).1; omega
set_option maxHeartbeats 4000000 in
theorem c_Model_canDoK {k i : Nat} {M : List KF} {f : KF} {a b c nm inn : Int32} (hL : q_L 11 t_Model m T R) (hM : k_mw m M I) (hw : k_wfL M) (hf : M[i]? = some f) (hk : k ≤ 8) (hk1 : k ≠ 1) (hnm : nm = p_b (decide (0 ≤ a ∧ a ≤ 99))) (hinn : inn = p_b (decide (k_cin M f.1 ≠ 0))) : q_V g M_Model_canDo 0 0 0 0 (sz, T, I, R, J) (fun o h' => ∃ r : Int32, o = .inl (some (.int r)) ∧ (r = p_b (b_knd M f k a b) ∧ h' = (sz, T, I, R, J))) 135 [some (.ref m), some (.int (nI k)), some (.int (nI (k_path f.1))), some (.int a), some (.int b), some (.int c), some (.int (nI f.1.length)), some (.int (nI i)), some (.int nm), some (.int inn), some (.int (nI M.length))] [] := by
  have hok := hw.2.1
  have h26 := hM.2.1
  have hfk := hok f (List.mem_of_getElem? hf)
  have h4 := hfk.1.1
  have hil := (List.getElem?_eq_some_iff.mp hf).1
  obtain ⟨w1, w2, w3, w4⟩ := hM.2.2 i f hf
  have kt : (nI k).toInt = k := nI_toInt (by omega)
  have fnd : ∀ l, k_fo M (k_of (nI (k_path l))) = k_fo M (k_of (nI (k_path l))) := fun _ => rfl
  refine q_iload_n d_Model_canDo_135 rfl rfl ?_
  rcases (by omega : k = 0 ∨ k = 2 ∨ k = 3 ∨ k = 4 ∨ k = 5 ∨ k = 6 ∨ k = 7 ∨ k = 8) with rfl | rfl | rfl | rfl | rfl | rfl | rfl | rfl

  · -- rename
    have yes : ∀ mcc msc : Nat, mcc = 0 → msc = 0 → b_knd M f 0 a b = true → q_V g M_Model_canDo 0 0 mcc msc (sz, T, I, R, J) (fun o h' => ∃ r : Int32, o = .inl (some (.int r)) ∧ (r = p_b (b_knd M f 0 a b) ∧ h' = (sz, T, I, R, J))) 207 [some (.ref m), some (.int (nI 0)), some (.int (nI (k_path f.1))), some (.int a), some (.int b), some (.int c), some (.int (nI f.1.length)), some (.int (nI i)), some (.int nm), some (.int inn), some (.int (nI M.length))] [] := by
      intro mcc msc e1 e2 hz
      subst e1 e2
      refine q_iconst (v := nI 1) d_Model_canDo_207 (by decide) ?_
      refine q_goto (tgt := 212) d_Model_canDo_208 rfl ?_
      refine q_zret d_Model_canDo_212 rfl (by first | exact Or.inl rfl | exact Or.inr rfl | assumption) (by omega) (by omega) ?_
      exact ⟨_, rfl, by rw [hz]; rfl, rfl⟩
    have no : ∀ mcc msc : Nat, mcc = 0 → msc = 0 → b_knd M f 0 a b = false → q_V g M_Model_canDo 0 0 mcc msc (sz, T, I, R, J) (fun o h' => ∃ r : Int32, o = .inl (some (.int r)) ∧ (r = p_b (b_knd M f 0 a b) ∧ h' = (sz, T, I, R, J))) 211 [some (.ref m), some (.int (nI 0)), some (.int (nI (k_path f.1))), some (.int a), some (.int b), some (.int c), some (.int (nI f.1.length)), some (.int (nI i)), some (.int nm), some (.int inn), some (.int (nI M.length))] [] := by
      intro mcc msc e1 e2 hz
      subst e1 e2
      refine q_iconst (v := nI 0) d_Model_canDo_211 (by decide) ?_
      refine q_zret d_Model_canDo_212 rfl (by first | exact Or.inl rfl | exact Or.inr rfl | assumption) (by omega) (by omega) ?_
      exact ⟨_, rfl, by rw [hz]; rfl, rfl⟩
    refine q_tableIn (tgt := 188) (off := 52) d_Model_canDo_136 (by omega) (by omega) (by rw [kt]; rfl) (by omega) ?_
    by_cases hna : 0 ≤ a ∧ a ≤ 99
    · rw [hnm, decide_eq_true hna] at *
      obtain ⟨n, n1, hn⟩ := nI_of (Int32.not_lt.mpr hna.1)
      have n99 : n ≤ 99 := by have := hna.2; rw [hn, show (99 : Int32) = nI 99 from rfl, nI_leI n1 (by decide)] at this; exact this
      have hbs : k_bsd f.1 a = f.1.dropLast ++ [n + 1] := by unfold k_bsd; rw [hn, nI_clamp n1]
      have hbk := k_bsd_ok hfk.1 hfk.2 n99
      have hz : b_knd M f 0 a b = (k_fi M (f.1.dropLast ++ [n + 1])).isNone := by
        show b_ren M f.1 a = _
        unfold b_ren
        rw [hbs, decide_eq_true hna, Bool.true_and]
      refine q_iload d_Model_canDo_188 rfl ?_
      refine q_if_eq (tgt := 211) d_Model_canDo_190 rfl (fun hc => ?_) (fun hc => ?_)
      · exact absurd hc (by decide)
      refine q_aload_n d_Model_canDo_193 rfl rfl ?_
      refine q_aload_n d_Model_canDo_194 rfl rfl ?_
      refine q_iload_n d_Model_canDo_195 rfl rfl ?_
      refine q_iload_n d_Model_canDo_196 rfl rfl ?_
      refine q_iload_n d_Model_canDo_197 rfl rfl ?_
      rw [hn]
      refine q_callVi (M2 := M_Model_pathBehind) d_Model_canDo_198 ⟨(Nat.le_of_ble_eq_true rfl), (Nat.le_of_ble_eq_true rfl), w_1301, w_10, ⟨by decide, by decide⟩, show _ = some 3 by decide +kernel⟩ w_1298 w_1300 (ci := 11) rfl s_59 hL.1 rfl (Nat.le_of_ble_eq_true rfl) (by omega) (by omega) (c_Model_pathBehind0 hfk.1 hfk.2) ?_
      rintro _ _ ⟨rfl, rfl⟩
      rw [← hn]
      refine q_callVi (M2 := M_Model_find) d_Model_canDo_201 ⟨(Nat.le_of_ble_eq_true rfl), (Nat.le_of_ble_eq_true rfl), w_1266, w_10, ⟨by decide, by decide⟩, show _ = some 1 by decide +kernel⟩ w_1263 w_1265 (ci := 11) rfl s_53 hL.1 rfl (Nat.le_of_ble_eq_true rfl) (by omega) (by omega) (c_Model_findF hL hM hok _) ?_
      rintro _ _ ⟨rfl, rfl⟩
      rw [k_of_path hbk, show k_fo M (some (f.1.dropLast ++ [n + 1])) = k_fi M (f.1.dropLast ++ [n + 1]) from rfl]
      have hge := z_ge0 (k_fi_31 h26 (l := f.1.dropLast ++ [n + 1]))
      refine q_if_ge (tgt := 211) d_Model_canDo_204 rfl (fun hc => ?_) (fun hc => ?_)
      · exact no _ _ rfl rfl (by rw [hz]; have := hge.mp hc; cases hq : k_fi M (f.1.dropLast ++ [n + 1]) with | none => rw [hq] at this; cases this | some q => rfl)
      · exact yes _ _ rfl rfl (by rw [hz]; cases hq : k_fi M (f.1.dropLast ++ [n + 1]) with | none => rfl | some q => rw [hq] at hge hc; exact absurd (hge.mpr rfl) hc)
    · rw [hnm, decide_eq_false hna] at *
      refine q_iload d_Model_canDo_188 rfl ?_
      refine q_if_eq (tgt := 211) d_Model_canDo_190 rfl (fun hc => ?_) (fun hc => ?_)
      rotate_left
      · exact absurd rfl hc
      exact no _ _ rfl rfl (by show b_ren M f.1 a = false; unfold b_ren; rw [decide_eq_false hna]; rfl)

  · -- remove
    have yes : ∀ mcc msc : Nat, mcc = 0 → msc = 0 → b_knd M f 2 a b = true → q_V g M_Model_canDo 0 0 mcc msc (sz, T, I, R, J) (fun o h' => ∃ r : Int32, o = .inl (some (.int r)) ∧ (r = p_b (b_knd M f 2 a b) ∧ h' = (sz, T, I, R, J))) 218 [some (.ref m), some (.int (nI 2)), some (.int (nI (k_path f.1))), some (.int a), some (.int b), some (.int c), some (.int (nI f.1.length)), some (.int (nI i)), some (.int nm), some (.int inn), some (.int (nI M.length))] [] := by
      intro mcc msc e1 e2 hz
      subst e1 e2
      refine q_iconst (v := nI 1) d_Model_canDo_218 (by decide) ?_
      refine q_goto (tgt := 223) d_Model_canDo_219 rfl ?_
      refine q_zret d_Model_canDo_223 rfl (by first | exact Or.inl rfl | exact Or.inr rfl | assumption) (by omega) (by omega) ?_
      exact ⟨_, rfl, by rw [hz]; rfl, rfl⟩
    have no : ∀ mcc msc : Nat, mcc = 0 → msc = 0 → b_knd M f 2 a b = false → q_V g M_Model_canDo 0 0 mcc msc (sz, T, I, R, J) (fun o h' => ∃ r : Int32, o = .inl (some (.int r)) ∧ (r = p_b (b_knd M f 2 a b) ∧ h' = (sz, T, I, R, J))) 222 [some (.ref m), some (.int (nI 2)), some (.int (nI (k_path f.1))), some (.int a), some (.int b), some (.int c), some (.int (nI f.1.length)), some (.int (nI i)), some (.int nm), some (.int inn), some (.int (nI M.length))] [] := by
      intro mcc msc e1 e2 hz
      subst e1 e2
      refine q_iconst (v := nI 0) d_Model_canDo_222 (by decide) ?_
      refine q_zret d_Model_canDo_223 rfl (by first | exact Or.inl rfl | exact Or.inr rfl | assumption) (by omega) (by omega) ?_
      exact ⟨_, rfl, by rw [hz]; rfl, rfl⟩
    refine q_tableIn (tgt := 213) (off := 77) d_Model_canDo_136 (by omega) (by omega) (by rw [kt]; rfl) (by omega) ?_
    by_cases h0 : k_cin M f.1 = 0
    · have hv : inn = nI 0 := by rw [hinn, decide_eq_false (fun z : k_cin M f.1 ≠ 0 => z h0)]; rfl
      clear hinn
      subst hv
      refine q_iload d_Model_canDo_213 rfl ?_
      refine q_if_ne (tgt := 222) d_Model_canDo_215 rfl (fun hc => ?_) (fun hc => ?_)
      · exact absurd rfl hc
      exact yes _ _ rfl rfl (decide_eq_true h0)
    · have hv : inn = nI 1 := by rw [hinn, decide_eq_true (show k_cin M f.1 ≠ 0 from h0)]; rfl
      clear hinn
      subst hv
      refine q_iload d_Model_canDo_213 rfl ?_
      refine q_if_ne (tgt := 222) d_Model_canDo_215 rfl (fun hc => ?_) (fun hc => ?_)
      · exact no _ _ rfl rfl (decide_eq_false h0)
      · exact absurd hc (by decide)

  · -- wrap
    have yes : ∀ mcc msc : Nat, mcc = 0 → msc = 0 → b_knd M f 3 a b = true → q_V g M_Model_canDo 0 0 mcc msc (sz, T, I, R, J) (fun o h' => ∃ r : Int32, o = .inl (some (.int r)) ∧ (r = p_b (b_knd M f 3 a b) ∧ h' = (sz, T, I, R, J))) 234 [some (.ref m), some (.int (nI 3)), some (.int (nI (k_path f.1))), some (.int a), some (.int b), some (.int c), some (.int (nI f.1.length)), some (.int (nI i)), some (.int nm), some (.int inn), some (.int (nI M.length))] [] := by
      intro mcc msc e1 e2 hz
      subst e1 e2
      refine q_iconst (v := nI 1) d_Model_canDo_234 (by decide) ?_
      refine q_goto (tgt := 239) d_Model_canDo_235 rfl ?_
      refine q_zret d_Model_canDo_239 rfl (by first | exact Or.inl rfl | exact Or.inr rfl | assumption) (by omega) (by omega) ?_
      exact ⟨_, rfl, by rw [hz]; rfl, rfl⟩
    have no : ∀ mcc msc : Nat, mcc = 0 → msc = 0 → b_knd M f 3 a b = false → q_V g M_Model_canDo 0 0 mcc msc (sz, T, I, R, J) (fun o h' => ∃ r : Int32, o = .inl (some (.int r)) ∧ (r = p_b (b_knd M f 3 a b) ∧ h' = (sz, T, I, R, J))) 238 [some (.ref m), some (.int (nI 3)), some (.int (nI (k_path f.1))), some (.int a), some (.int b), some (.int c), some (.int (nI f.1.length)), some (.int (nI i)), some (.int nm), some (.int inn), some (.int (nI M.length))] [] := by
      intro mcc msc e1 e2 hz
      subst e1 e2
      refine q_iconst (v := nI 0) d_Model_canDo_238 (by decide) ?_
      refine q_zret d_Model_canDo_239 rfl (by first | exact Or.inl rfl | exact Or.inr rfl | assumption) (by omega) (by omega) ?_
      exact ⟨_, rfl, by rw [hz]; rfl, rfl⟩
    refine q_tableIn (tgt := 224) (off := 88) d_Model_canDo_136 (by omega) (by omega) (by rw [kt]; rfl) (by omega) ?_
    refine q_aload_n d_Model_canDo_224 rfl rfl ?_
    refine q_getR (ci := 11) (fk := 20) d_Model_canDo_225 rfl (Nat.le_of_ble_eq_true rfl) w_1124 (fun _ _ => rfl) hL.1 (hL.2 20 _ _ _ rfl).1 ?_
    refine q_iload d_Model_canDo_228 rfl ?_
    refine q_iald d_Model_canDo_230 (hL.2 20 _ _ _ rfl).2 (by first | assumption | exact vp_in_nI (by omega) (by omega)) ?_
    rw [w2]
    refine q_if_ne (tgt := 238) d_Model_canDo_231 rfl (fun hc => ?_) (fun hc => ?_)
    · exact no _ _ rfl rfl (decide_eq_false (show ¬ f.2.1 = 0 from hc))
    · exact yes _ _ rfl rfl (decide_eq_true (show f.2.1 = 0 by have := hc; simpa using this))

  · -- lift
    have yes : ∀ mcc msc : Nat, mcc = 0 → msc = 0 → b_knd M f 4 a b = true → q_V g M_Model_canDo 0 0 mcc msc (sz, T, I, R, J) (fun o h' => ∃ r : Int32, o = .inl (some (.int r)) ∧ (r = p_b (b_knd M f 4 a b) ∧ h' = (sz, T, I, R, J))) 260 [some (.ref m), some (.int (nI 4)), some (.int (nI (k_path f.1))), some (.int a), some (.int b), some (.int c), some (.int (nI f.1.length)), some (.int (nI i)), some (.int nm), some (.int inn), some (.int (nI M.length))] [] := by
      intro mcc msc e1 e2 hz
      subst e1 e2
      refine q_iconst (v := nI 1) d_Model_canDo_260 (by decide) ?_
      refine q_goto (tgt := 265) d_Model_canDo_261 rfl ?_
      refine q_zret d_Model_canDo_265 rfl (by first | exact Or.inl rfl | exact Or.inr rfl | assumption) (by omega) (by omega) ?_
      exact ⟨_, rfl, by rw [hz]; rfl, rfl⟩
    have no : ∀ mcc msc : Nat, mcc = 0 → msc = 0 → b_knd M f 4 a b = false → q_V g M_Model_canDo 0 0 mcc msc (sz, T, I, R, J) (fun o h' => ∃ r : Int32, o = .inl (some (.int r)) ∧ (r = p_b (b_knd M f 4 a b) ∧ h' = (sz, T, I, R, J))) 264 [some (.ref m), some (.int (nI 4)), some (.int (nI (k_path f.1))), some (.int a), some (.int b), some (.int c), some (.int (nI f.1.length)), some (.int (nI i)), some (.int nm), some (.int inn), some (.int (nI M.length))] [] := by
      intro mcc msc e1 e2 hz
      subst e1 e2
      refine q_iconst (v := nI 0) d_Model_canDo_264 (by decide) ?_
      refine q_zret d_Model_canDo_265 rfl (by first | exact Or.inl rfl | exact Or.inr rfl | assumption) (by omega) (by omega) ?_
      exact ⟨_, rfl, by rw [hz]; rfl, rfl⟩
    refine q_tableIn (tgt := 240) (off := 104) d_Model_canDo_136 (by omega) (by omega) (by rw [kt]; rfl) (by omega) ?_
    by_cases h2 : 2 ≤ f.1.length
    · have hz : b_knd M f 4 a b = (k_fi M (k_lif f.1)).isNone := by
        show b_lif M f.1 = _
        unfold b_lif
        rw [decide_eq_true h2, Bool.true_and]
      have hlk : k_ok 4 (k_lif f.1) := by rw [k_lif_eq hfk.2]; exact k_lif_ok hfk.1 hfk.2
      refine q_iload d_Model_canDo_240 rfl ?_
      refine q_iconst (v := nI 1) d_Model_canDo_242 (by decide) ?_
      refine q_icmp_le (tgt := 264) d_Model_canDo_243 rfl (fun hc => ?_) (fun hc => ?_)
      · rw [nI_leI (by omega) (by omega)] at hc
        omega
      refine q_aload_n d_Model_canDo_246 rfl rfl ?_
      refine q_aload_n d_Model_canDo_247 rfl rfl ?_
      refine q_iload_n d_Model_canDo_248 rfl rfl ?_
      refine q_iload_n d_Model_canDo_249 rfl rfl ?_
      refine q_iload_n d_Model_canDo_250 rfl rfl ?_
      refine q_callVi (M2 := M_Model_pathBehind) d_Model_canDo_251 ⟨(Nat.le_of_ble_eq_true rfl), (Nat.le_of_ble_eq_true rfl), w_1301, w_10, ⟨by decide, by decide⟩, show _ = some 3 by decide +kernel⟩ w_1298 w_1300 (ci := 11) rfl s_59 hL.1 rfl (Nat.le_of_ble_eq_true rfl) (by omega) (by omega) (c_Model_pathBehind4 hfk.1 h2) ?_
      rintro _ _ ⟨rfl, rfl⟩
      refine q_callVi (M2 := M_Model_find) d_Model_canDo_254 ⟨(Nat.le_of_ble_eq_true rfl), (Nat.le_of_ble_eq_true rfl), w_1266, w_10, ⟨by decide, by decide⟩, show _ = some 1 by decide +kernel⟩ w_1263 w_1265 (ci := 11) rfl s_53 hL.1 rfl (Nat.le_of_ble_eq_true rfl) (by omega) (by omega) (c_Model_findF hL hM hok _) ?_
      rintro _ _ ⟨rfl, rfl⟩
      rw [k_of_path hlk, show k_fo M (some (k_lif f.1)) = k_fi M (k_lif f.1) from rfl]
      have hge := z_ge0 (k_fi_31 h26 (l := k_lif f.1))
      refine q_if_ge (tgt := 264) d_Model_canDo_257 rfl (fun hc => ?_) (fun hc => ?_)
      · exact no _ _ rfl rfl (by rw [hz]; have := hge.mp hc; cases hq : k_fi M (k_lif f.1) with | none => rw [hq] at this; cases this | some q => rfl)
      · exact yes _ _ rfl rfl (by rw [hz]; cases hq : k_fi M (k_lif f.1) with | none => rfl | some q => rw [hq] at hge hc; exact absurd (hge.mpr rfl) hc)
    · refine q_iload d_Model_canDo_240 rfl ?_
      refine q_iconst (v := nI 1) d_Model_canDo_242 (by decide) ?_
      refine q_icmp_le (tgt := 264) d_Model_canDo_243 rfl (fun hc => ?_) (fun hc => ?_)
      rotate_left
      · exact absurd (by rw [nI_leI (by omega) (by omega)]; omega) hc
      exact no _ _ rfl rfl (by show b_lif M f.1 = false; unfold b_lif; rw [decide_eq_false h2]; rfl)

  · -- split
    have yes : ∀ mcc msc : Nat, mcc = 0 → msc = 0 → b_knd M f 5 a b = true → q_V g M_Model_canDo 0 0 mcc msc (sz, T, I, R, J) (fun o h' => ∃ r : Int32, o = .inl (some (.int r)) ∧ (r = p_b (b_knd M f 5 a b) ∧ h' = (sz, T, I, R, J))) 322 [some (.ref m), some (.int (nI 5)), some (.int (nI (k_path f.1))), some (.int a), some (.int b), some (.int c), some (.int (nI f.1.length)), some (.int (nI i)), some (.int nm), some (.int inn), some (.int (nI M.length))] [] := by
      intro mcc msc e1 e2 hz
      subst e1 e2
      refine q_iconst (v := nI 1) d_Model_canDo_322 (by decide) ?_
      refine q_goto (tgt := 327) d_Model_canDo_323 rfl ?_
      refine q_zret d_Model_canDo_327 rfl (by first | exact Or.inl rfl | exact Or.inr rfl | assumption) (by omega) (by omega) ?_
      exact ⟨_, rfl, by rw [hz]; rfl, rfl⟩
    have no : ∀ mcc msc : Nat, mcc = 0 → msc = 0 → b_knd M f 5 a b = false → q_V g M_Model_canDo 0 0 mcc msc (sz, T, I, R, J) (fun o h' => ∃ r : Int32, o = .inl (some (.int r)) ∧ (r = p_b (b_knd M f 5 a b) ∧ h' = (sz, T, I, R, J))) 326 [some (.ref m), some (.int (nI 5)), some (.int (nI (k_path f.1))), some (.int a), some (.int b), some (.int c), some (.int (nI f.1.length)), some (.int (nI i)), some (.int nm), some (.int inn), some (.int (nI M.length))] [] := by
      intro mcc msc e1 e2 hz
      subst e1 e2
      refine q_iconst (v := nI 0) d_Model_canDo_326 (by decide) ?_
      refine q_zret d_Model_canDo_327 rfl (by first | exact Or.inl rfl | exact Or.inr rfl | assumption) (by omega) (by omega) ?_
      exact ⟨_, rfl, by rw [hz]; rfl, rfl⟩
    refine q_tableIn (tgt := 266) (off := 130) d_Model_canDo_136 (by omega) (by omega) (by rw [kt]; rfl) (by omega) ?_
    have no1 : ¬ (f.2.1 = 0 ∧ (nI 2 ≤ a ∧ a ≤ nI 1000) ∧ (0 ≤ b ∧ b ≤ 99)) → b_knd M f 5 a b = false := fun z => by show b_spl M f a b = false; unfold b_spl; rw [decide_eq_false z]; rfl
    refine q_aload_n d_Model_canDo_266 rfl rfl ?_
    refine q_getR (ci := 11) (fk := 20) d_Model_canDo_267 rfl (Nat.le_of_ble_eq_true rfl) w_1124 (fun _ _ => rfl) hL.1 (hL.2 20 _ _ _ rfl).1 ?_
    refine q_iload d_Model_canDo_270 rfl ?_
    refine q_iald d_Model_canDo_272 (hL.2 20 _ _ _ rfl).2 (by first | assumption | exact vp_in_nI (by omega) (by omega)) ?_
    rw [w2]
    refine q_if_ne (tgt := 326) d_Model_canDo_273 rfl (fun hc => ?_) (fun hc => ?_)
    · exact no _ _ rfl rfl (no1 (fun z => hc z.1))
    have h0 : f.2.1 = 0 := by have := hc; simpa using this
    refine q_iload_n d_Model_canDo_276 rfl rfl ?_
    refine q_iconst (v := nI 2) d_Model_canDo_277 (by decide) ?_
    refine q_icmp_lt (tgt := 326) d_Model_canDo_278 rfl (fun hc => ?_) (fun hc => ?_)
    · exact no _ _ rfl rfl (no1 (fun z => absurd hc (Int32.not_lt.mpr z.2.1.1)))
    have h1 : nI 2 ≤ a := Int32.not_lt.mp hc
    refine q_iload_n d_Model_canDo_281 rfl rfl ?_
    refine q_sipush (v := nI 1000) d_Model_canDo_282 (by decide) ?_
    refine q_icmp_gt (tgt := 326) d_Model_canDo_285 rfl (fun hc => ?_) (fun hc => ?_)
    · exact no _ _ rfl rfl (no1 (fun z => absurd hc (Int32.not_lt.mpr z.2.1.2)))
    have h2 : a ≤ nI 1000 := Int32.not_lt.mp hc
    refine q_iload d_Model_canDo_288 rfl ?_
    refine q_if_lt (tgt := 326) d_Model_canDo_290 rfl (fun hc => ?_) (fun hc => ?_)
    · exact no _ _ rfl rfl (no1 (fun z => absurd hc (Int32.not_lt.mpr z.2.2.1)))
    have h3 : 0 ≤ b := Int32.not_lt.mp hc
    refine q_iload d_Model_canDo_293 rfl ?_
    refine q_bipush (v := nI 99) d_Model_canDo_295 (by decide) ?_
    refine q_icmp_gt (tgt := 326) d_Model_canDo_297 rfl (fun hc => ?_) (fun hc => ?_)
    · exact no _ _ rfl rfl (no1 (fun z => absurd hc (Int32.not_lt.mpr z.2.2.2)))
    have h5 : b ≤ 99 := Int32.not_lt.mp hc
    obtain ⟨n, n1, hn⟩ := nI_of (Int32.not_lt.mpr h3)
    have n99 : n ≤ 99 := by have := h5; rw [hn, show (99 : Int32) = nI 99 from rfl, nI_leI n1 (by decide)] at this; exact this
    have hbs : k_bsd f.1 b = f.1.dropLast ++ [n + 1] := by unfold k_bsd; rw [hn, nI_clamp n1]
    have hbk := k_bsd_ok hfk.1 hfk.2 n99
    have hz : b_knd M f 5 a b = ((k_fi M (f.1.dropLast ++ [n + 1])).isNone && decide (M.length < 24)) := by
      show b_spl M f a b = _
      unfold b_spl
      rw [hbs, decide_eq_true ⟨h0, ⟨h1, h2⟩, h3, h5⟩, Bool.true_and]
    refine q_aload_n d_Model_canDo_300 rfl rfl ?_
    refine q_iload_n d_Model_canDo_301 rfl rfl ?_
    refine q_iload d_Model_canDo_302 rfl ?_
    rw [hn]
    refine q_callSi (M2 := M_Model_besides) d_Model_canDo_304 ⟨(Nat.le_of_ble_eq_true rfl), (Nat.le_of_ble_eq_true rfl), w_1347, w_10, ⟨by decide, by decide⟩, show _ = some 2 by decide +kernel⟩ w_1345 w_1346 rfl (Nat.le_of_ble_eq_true rfl) (by omega) (by omega) (c_Model_besides hfk.1 hfk.2) ?_
    rintro _ _ ⟨rfl, rfl⟩
    rw [← hn]
    refine q_callVi (M2 := M_Model_find) d_Model_canDo_307 ⟨(Nat.le_of_ble_eq_true rfl), (Nat.le_of_ble_eq_true rfl), w_1266, w_10, ⟨by decide, by decide⟩, show _ = some 1 by decide +kernel⟩ w_1263 w_1265 (ci := 11) rfl s_53 hL.1 rfl (Nat.le_of_ble_eq_true rfl) (by omega) (by omega) (c_Model_findF hL hM hok _) ?_
    rintro _ _ ⟨rfl, rfl⟩
    rw [k_of_path hbk, show k_fo M (some (f.1.dropLast ++ [n + 1])) = k_fi M (f.1.dropLast ++ [n + 1]) from rfl]
    have hge := z_ge0 (k_fi_31 h26 (l := f.1.dropLast ++ [n + 1]))
    refine q_if_ge (tgt := 326) d_Model_canDo_310 rfl (fun hc => ?_) (fun hc => ?_)
    · exact no _ _ rfl rfl (by rw [hz]; have := hge.mp hc; cases hq : k_fi M (f.1.dropLast ++ [n + 1]) with | none => rw [hq] at this; cases this | some q => rfl)
    have hnone : k_fi M (f.1.dropLast ++ [n + 1]) = none := by cases hq : k_fi M (f.1.dropLast ++ [n + 1]) with | none => rfl | some q => rw [hq] at hge hc; exact absurd (hge.mpr rfl) hc
    refine q_aload_n d_Model_canDo_313 rfl rfl ?_
    refine q_getI (ci := 11) (fk := 18) d_Model_canDo_314 rfl (Nat.le_of_ble_eq_true rfl) w_1122 (fun _ _ => rfl) hL.1 ?_
    rw [hM.1]
    refine q_bipush (v := nI 24) d_Model_canDo_317 (by decide) ?_
    refine q_icmp_ge (tgt := 326) d_Model_canDo_319 rfl (fun hc => ?_) (fun hc => ?_)
    · rw [nI_leI (by omega) (by omega)] at hc
      exact no _ _ rfl rfl (by rw [hz, decide_eq_false (by omega), Bool.and_false])
    · have : M.length < 24 := Classical.byContradiction fun z => hc (by rw [nI_leI (by omega) (by omega)]; omega)
      exact yes _ _ rfl rfl (by rw [hz, hnone, decide_eq_true this]; rfl)

  · -- scale
    have yes : ∀ mcc msc : Nat, mcc = 0 → msc = 0 → b_knd M f 6 a b = true → q_V g M_Model_canDo 0 0 mcc msc (sz, T, I, R, J) (fun o h' => ∃ r : Int32, o = .inl (some (.int r)) ∧ (r = p_b (b_knd M f 6 a b) ∧ h' = (sz, T, I, R, J))) 410 [some (.ref m), some (.int (nI 6)), some (.int (nI (k_path f.1))), some (.int a), some (.int b), some (.int c), some (.int (nI f.1.length)), some (.int (nI i)), some (.int nm), some (.int inn), some (.int (nI M.length))] [] := by
      intro mcc msc e1 e2 hz
      subst e1 e2
      refine q_iconst (v := nI 1) d_Model_canDo_410 (by decide) ?_
      refine q_goto (tgt := 415) d_Model_canDo_411 rfl ?_
      refine q_zret d_Model_canDo_415 rfl (by first | exact Or.inl rfl | exact Or.inr rfl | assumption) (by omega) (by omega) ?_
      exact ⟨_, rfl, by rw [hz]; rfl, rfl⟩
    have no : ∀ mcc msc : Nat, mcc = 0 → msc = 0 → b_knd M f 6 a b = false → q_V g M_Model_canDo 0 0 mcc msc (sz, T, I, R, J) (fun o h' => ∃ r : Int32, o = .inl (some (.int r)) ∧ (r = p_b (b_knd M f 6 a b) ∧ h' = (sz, T, I, R, J))) 414 [some (.ref m), some (.int (nI 6)), some (.int (nI (k_path f.1))), some (.int a), some (.int b), some (.int c), some (.int (nI f.1.length)), some (.int (nI i)), some (.int nm), some (.int inn), some (.int (nI M.length))] [] := by
      intro mcc msc e1 e2 hz
      subst e1 e2
      refine q_iconst (v := nI 0) d_Model_canDo_414 (by decide) ?_
      refine q_zret d_Model_canDo_415 rfl (by first | exact Or.inl rfl | exact Or.inr rfl | assumption) (by omega) (by omega) ?_
      exact ⟨_, rfl, by rw [hz]; rfl, rfl⟩
    refine q_tableIn (tgt := 328) (off := 192) d_Model_canDo_136 (by omega) (by omega) (by rw [kt]; rfl) (by omega) ?_
    have no1 : ¬ (f.2.1 = 0 ∧ (nI 1 ≤ a ∧ a ≤ nI 1000) ∧ (nI 1 ≤ b ∧ b ≤ nI 1000)) → b_knd M f 6 a b = false := fun z => by show b_scl f a b = false; unfold b_scl; rw [decide_eq_false z]; rfl
    refine q_aload_n d_Model_canDo_328 rfl rfl ?_
    refine q_getR (ci := 11) (fk := 20) d_Model_canDo_329 rfl (Nat.le_of_ble_eq_true rfl) w_1124 (fun _ _ => rfl) hL.1 (hL.2 20 _ _ _ rfl).1 ?_
    refine q_iload d_Model_canDo_332 rfl ?_
    refine q_iald d_Model_canDo_334 (hL.2 20 _ _ _ rfl).2 (by first | assumption | exact vp_in_nI (by omega) (by omega)) ?_
    rw [w2]
    refine q_if_ne (tgt := 414) d_Model_canDo_335 rfl (fun hc => ?_) (fun hc => ?_)
    · exact no _ _ rfl rfl (no1 (fun z => hc z.1))
    have h0 : f.2.1 = 0 := by have := hc; simpa using this
    refine q_iload_n d_Model_canDo_338 rfl rfl ?_
    refine q_iconst (v := nI 1) d_Model_canDo_339 (by decide) ?_
    refine q_icmp_lt (tgt := 414) d_Model_canDo_340 rfl (fun hc => ?_) (fun hc => ?_)
    · exact no _ _ rfl rfl (no1 (fun z => absurd hc (Int32.not_lt.mpr z.2.1.1)))
    have h1 : nI 1 ≤ a := Int32.not_lt.mp hc
    refine q_iload_n d_Model_canDo_343 rfl rfl ?_
    refine q_sipush (v := nI 1000) d_Model_canDo_344 (by decide) ?_
    refine q_icmp_gt (tgt := 414) d_Model_canDo_347 rfl (fun hc => ?_) (fun hc => ?_)
    · exact no _ _ rfl rfl (no1 (fun z => absurd hc (Int32.not_lt.mpr z.2.1.2)))
    have h2 : a ≤ nI 1000 := Int32.not_lt.mp hc
    refine q_iload d_Model_canDo_350 rfl ?_
    refine q_iconst (v := nI 1) d_Model_canDo_352 (by decide) ?_
    refine q_icmp_lt (tgt := 414) d_Model_canDo_353 rfl (fun hc => ?_) (fun hc => ?_)
    · exact no _ _ rfl rfl (no1 (fun z => absurd hc (Int32.not_lt.mpr z.2.2.1)))
    have h3 : nI 1 ≤ b := Int32.not_lt.mp hc
    refine q_iload d_Model_canDo_356 rfl ?_
    refine q_sipush (v := nI 1000) d_Model_canDo_358 (by decide) ?_
    refine q_icmp_gt (tgt := 414) d_Model_canDo_361 rfl (fun hc => ?_) (fun hc => ?_)
    · exact no _ _ rfl rfl (no1 (fun z => absurd hc (Int32.not_lt.mpr z.2.2.2)))
    have h5 : b ≤ nI 1000 := Int32.not_lt.mp hc
    obtain ⟨v1, -, hnz⟩ := z_flrs (x := f.2.2.1) ⟨h1, h2⟩ h3
    obtain ⟨v2, -, -⟩ := z_flrs (x := f.2.2.2.1) ⟨h1, h2⟩ h3
    have hz : b_knd M f 6 a b = (decide (-2147483648 ≤ a.toInt * f.2.2.1.toInt / b.toInt ∧ a.toInt * f.2.2.1.toInt / b.toInt ≤ 2147483647) && decide (-2147483648 ≤ a.toInt * f.2.2.2.1.toInt / b.toInt ∧ a.toInt * f.2.2.2.1.toInt / b.toInt ≤ 2147483647)) := by
      show b_scl f a b = _
      unfold b_scl
      rw [decide_eq_true ⟨h0, ⟨h1, h2⟩, h3, h5⟩, Bool.true_and]
    refine q_iload_n d_Model_canDo_364 rfl rfl ?_
    refine q_i2l d_Model_canDo_365 rfl ?_
    refine q_aload_n d_Model_canDo_366 rfl rfl ?_
    refine q_getR (ci := 11) (fk := 21) d_Model_canDo_367 rfl (Nat.le_of_ble_eq_true rfl) w_1125 (fun _ _ => rfl) hL.1 (hL.2 21 _ _ _ rfl).1 ?_
    refine q_iload d_Model_canDo_370 rfl ?_
    refine q_iald d_Model_canDo_372 (hL.2 21 _ _ _ rfl).2 (by first | assumption | exact vp_in_nI (by omega) (by omega)) ?_
    rw [w3]
    refine q_i2l d_Model_canDo_373 rfl ?_
    refine q_lmul d_Model_canDo_374 ?_
    refine q_iload d_Model_canDo_375 rfl ?_
    refine q_i2l d_Model_canDo_377 rfl ?_
    refine q_callSl (M2 := M_Model_floor) d_Model_canDo_378 ⟨(Nat.le_of_ble_eq_true rfl), (Nat.le_of_ble_eq_true rfl), w_1344, w_10, ⟨by decide, by decide⟩, show _ = some 2 by decide +kernel⟩ w_1342 w_1343 rfl (Nat.le_of_ble_eq_true rfl) (by omega) (by omega) (c_Model_floor hnz) ?_
    rintro _ _ ⟨rfl, rfl⟩
    refine q_callSi (M2 := M_Model_isInt) d_Model_canDo_381 ⟨(Nat.le_of_ble_eq_true rfl), (Nat.le_of_ble_eq_true rfl), w_1379, w_10, ⟨by decide, by decide⟩, show _ = some 1 by decide +kernel⟩ w_1377 w_1378 rfl (Nat.le_of_ble_eq_true rfl) (by omega) (by omega) (c_Model_isInt _) ?_
    rintro _ _ ⟨rfl, rfl⟩
    rw [v1]
    cases hd1 : decide (-2147483648 ≤ a.toInt * f.2.2.1.toInt / b.toInt ∧ a.toInt * f.2.2.1.toInt / b.toInt ≤ 2147483647) with
    | false =>
      refine q_if_eq (tgt := 414) d_Model_canDo_384 rfl (fun hc => ?_) (fun hc => ?_)
      · exact no _ _ rfl rfl (by rw [hz, hd1]; rfl)
      · exact absurd rfl hc
    | true =>
      refine q_if_eq (tgt := 414) d_Model_canDo_384 rfl (fun hc => ?_) (fun hc => ?_)
      · exact absurd hc (by decide)
      refine q_iload_n d_Model_canDo_387 rfl rfl ?_
      refine q_i2l d_Model_canDo_388 rfl ?_
      refine q_aload_n d_Model_canDo_389 rfl rfl ?_
      refine q_getR (ci := 11) (fk := 22) d_Model_canDo_390 rfl (Nat.le_of_ble_eq_true rfl) w_1126 (fun _ _ => rfl) hL.1 (hL.2 22 _ _ _ rfl).1 ?_
      refine q_iload d_Model_canDo_393 rfl ?_
      refine q_iald d_Model_canDo_395 (hL.2 22 _ _ _ rfl).2 (by first | assumption | exact vp_in_nI (by omega) (by omega)) ?_
      rw [w4]
      refine q_i2l d_Model_canDo_396 rfl ?_
      refine q_lmul d_Model_canDo_397 ?_
      refine q_iload d_Model_canDo_398 rfl ?_
      refine q_i2l d_Model_canDo_400 rfl ?_
      refine q_callSl (M2 := M_Model_floor) d_Model_canDo_401 ⟨(Nat.le_of_ble_eq_true rfl), (Nat.le_of_ble_eq_true rfl), w_1344, w_10, ⟨by decide, by decide⟩, show _ = some 2 by decide +kernel⟩ w_1342 w_1343 rfl (Nat.le_of_ble_eq_true rfl) (by omega) (by omega) (c_Model_floor hnz) ?_
      rintro _ _ ⟨rfl, rfl⟩
      refine q_callSi (M2 := M_Model_isInt) d_Model_canDo_404 ⟨(Nat.le_of_ble_eq_true rfl), (Nat.le_of_ble_eq_true rfl), w_1379, w_10, ⟨by decide, by decide⟩, show _ = some 1 by decide +kernel⟩ w_1377 w_1378 rfl (Nat.le_of_ble_eq_true rfl) (by omega) (by omega) (c_Model_isInt _) ?_
      rintro _ _ ⟨rfl, rfl⟩
      rw [v2]
      cases hd2 : decide (-2147483648 ≤ a.toInt * f.2.2.2.1.toInt / b.toInt ∧ a.toInt * f.2.2.2.1.toInt / b.toInt ≤ 2147483647) with
      | false =>
        refine q_if_eq (tgt := 414) d_Model_canDo_407 rfl (fun hc => ?_) (fun hc => ?_)
        · exact no _ _ rfl rfl (by rw [hz, hd1, hd2]; rfl)
        · exact absurd rfl hc
      | true =>
        refine q_if_eq (tgt := 414) d_Model_canDo_407 rfl (fun hc => ?_) (fun hc => ?_)
        · exact absurd hc (by decide)
        · exact yes _ _ rfl rfl (by rw [hz, hd1, hd2]; rfl)

  · -- map
    have yes : ∀ mcc msc : Nat, mcc = 0 → msc = 0 → b_knd M f 7 a b = true → q_V g M_Model_canDo 0 0 mcc msc (sz, T, I, R, J) (fun o h' => ∃ r : Int32, o = .inl (some (.int r)) ∧ (r = p_b (b_knd M f 7 a b) ∧ h' = (sz, T, I, R, J))) 478 [some (.ref m), some (.int (nI 7)), some (.int (nI (k_path f.1))), some (.int a), some (.int b), some (.int c), some (.int (nI f.1.length)), some (.int (nI i)), some (.int nm), some (.int inn), some (.int (nI M.length))] [] := by
      intro mcc msc e1 e2 hz
      subst e1 e2
      refine q_iconst (v := nI 1) d_Model_canDo_478 (by decide) ?_
      refine q_goto (tgt := 483) d_Model_canDo_479 rfl ?_
      refine q_zret d_Model_canDo_483 rfl (by first | exact Or.inl rfl | exact Or.inr rfl | assumption) (by omega) (by omega) ?_
      exact ⟨_, rfl, by rw [hz]; rfl, rfl⟩
    have no : ∀ mcc msc : Nat, mcc = 0 → msc = 0 → b_knd M f 7 a b = false → q_V g M_Model_canDo 0 0 mcc msc (sz, T, I, R, J) (fun o h' => ∃ r : Int32, o = .inl (some (.int r)) ∧ (r = p_b (b_knd M f 7 a b) ∧ h' = (sz, T, I, R, J))) 482 [some (.ref m), some (.int (nI 7)), some (.int (nI (k_path f.1))), some (.int a), some (.int b), some (.int c), some (.int (nI f.1.length)), some (.int (nI i)), some (.int nm), some (.int inn), some (.int (nI M.length))] [] := by
      intro mcc msc e1 e2 hz
      subst e1 e2
      refine q_iconst (v := nI 0) d_Model_canDo_482 (by decide) ?_
      refine q_zret d_Model_canDo_483 rfl (by first | exact Or.inl rfl | exact Or.inr rfl | assumption) (by omega) (by omega) ?_
      exact ⟨_, rfl, by rw [hz]; rfl, rfl⟩
    refine q_tableIn (tgt := 416) (off := 280) d_Model_canDo_136 (by omega) (by omega) (by rw [kt]; rfl) (by omega) ?_
    have no1 : ¬ (f.2.1 = 0 ∧ (f.2.2.1 ≤ a ∧ a ≤ f.2.2.2.1) ∧ (f.2.2.1 ≤ b ∧ b ≤ f.2.2.2.1) ∧ a ≠ b) → b_knd M f 7 a b = false := fun z => by
      show b_map f a b = false
      rw [← Bool.not_eq_true]
      intro y
      unfold b_map at y
      rw [Bool.and_eq_true, Bool.and_eq_true, Bool.and_eq_true, Bool.and_eq_true, Bool.and_eq_true, decide_eq_true_iff, decide_eq_true_iff, decide_eq_true_iff, decide_eq_true_iff, decide_eq_true_iff, decide_eq_true_iff] at y
      exact z y
    refine q_aload_n d_Model_canDo_416 rfl rfl ?_
    refine q_getR (ci := 11) (fk := 20) d_Model_canDo_417 rfl (Nat.le_of_ble_eq_true rfl) w_1124 (fun _ _ => rfl) hL.1 (hL.2 20 _ _ _ rfl).1 ?_
    refine q_iload d_Model_canDo_420 rfl ?_
    refine q_iald d_Model_canDo_422 (hL.2 20 _ _ _ rfl).2 (by first | assumption | exact vp_in_nI (by omega) (by omega)) ?_
    rw [w2]
    refine q_if_ne (tgt := 482) d_Model_canDo_423 rfl (fun hc => ?_) (fun hc => ?_)
    · exact no _ _ rfl rfl (no1 (fun z => hc z.1))
    have h0 : f.2.1 = 0 := by have := hc; simpa using this
    refine q_iload_n d_Model_canDo_426 rfl rfl ?_
    refine q_iload d_Model_canDo_427 rfl ?_
    refine q_icmp_eq (tgt := 482) d_Model_canDo_429 rfl (fun hc => ?_) (fun hc => ?_)
    · exact no _ _ rfl rfl (no1 (fun z => z.2.2.2 hc))
    have h9 : a ≠ b := hc
    refine q_iload_n d_Model_canDo_432 rfl rfl ?_
    refine q_aload_n d_Model_canDo_433 rfl rfl ?_
    refine q_getR (ci := 11) (fk := 21) d_Model_canDo_434 rfl (Nat.le_of_ble_eq_true rfl) w_1125 (fun _ _ => rfl) hL.1 (hL.2 21 _ _ _ rfl).1 ?_
    refine q_iload d_Model_canDo_437 rfl ?_
    refine q_iald d_Model_canDo_439 (hL.2 21 _ _ _ rfl).2 (by first | assumption | exact vp_in_nI (by omega) (by omega)) ?_
    rw [w3]
    refine q_icmp_lt (tgt := 482) d_Model_canDo_440 rfl (fun hc => ?_) (fun hc => ?_)
    · exact no _ _ rfl rfl (no1 (fun z => absurd hc (Int32.not_lt.mpr z.2.1.1)))
    have h1 : f.2.2.1 ≤ a := Int32.not_lt.mp hc
    refine q_iload_n d_Model_canDo_443 rfl rfl ?_
    refine q_aload_n d_Model_canDo_444 rfl rfl ?_
    refine q_getR (ci := 11) (fk := 22) d_Model_canDo_445 rfl (Nat.le_of_ble_eq_true rfl) w_1126 (fun _ _ => rfl) hL.1 (hL.2 22 _ _ _ rfl).1 ?_
    refine q_iload d_Model_canDo_448 rfl ?_
    refine q_iald d_Model_canDo_450 (hL.2 22 _ _ _ rfl).2 (by first | assumption | exact vp_in_nI (by omega) (by omega)) ?_
    rw [w4]
    refine q_icmp_gt (tgt := 482) d_Model_canDo_451 rfl (fun hc => ?_) (fun hc => ?_)
    · exact no _ _ rfl rfl (no1 (fun z => absurd hc (Int32.not_lt.mpr z.2.1.2)))
    have h2 : a ≤ f.2.2.2.1 := Int32.not_lt.mp hc
    refine q_iload d_Model_canDo_454 rfl ?_
    refine q_aload_n d_Model_canDo_456 rfl rfl ?_
    refine q_getR (ci := 11) (fk := 21) d_Model_canDo_457 rfl (Nat.le_of_ble_eq_true rfl) w_1125 (fun _ _ => rfl) hL.1 (hL.2 21 _ _ _ rfl).1 ?_
    refine q_iload d_Model_canDo_460 rfl ?_
    refine q_iald d_Model_canDo_462 (hL.2 21 _ _ _ rfl).2 (by first | assumption | exact vp_in_nI (by omega) (by omega)) ?_
    rw [w3]
    refine q_icmp_lt (tgt := 482) d_Model_canDo_463 rfl (fun hc => ?_) (fun hc => ?_)
    · exact no _ _ rfl rfl (no1 (fun z => absurd hc (Int32.not_lt.mpr z.2.2.1.1)))
    have h3 : f.2.2.1 ≤ b := Int32.not_lt.mp hc
    refine q_iload d_Model_canDo_466 rfl ?_
    refine q_aload_n d_Model_canDo_468 rfl rfl ?_
    refine q_getR (ci := 11) (fk := 22) d_Model_canDo_469 rfl (Nat.le_of_ble_eq_true rfl) w_1126 (fun _ _ => rfl) hL.1 (hL.2 22 _ _ _ rfl).1 ?_
    refine q_iload d_Model_canDo_472 rfl ?_
    refine q_iald d_Model_canDo_474 (hL.2 22 _ _ _ rfl).2 (by first | assumption | exact vp_in_nI (by omega) (by omega)) ?_
    rw [w4]
    refine q_icmp_gt (tgt := 482) d_Model_canDo_475 rfl (fun hc => ?_) (fun hc => ?_)
    · exact no _ _ rfl rfl (no1 (fun z => absurd hc (Int32.not_lt.mpr z.2.2.1.2)))
    have h5 : b ≤ f.2.2.2.1 := Int32.not_lt.mp hc
    exact yes _ _ rfl rfl (by show b_map f a b = true; unfold b_map; rw [decide_eq_true h0, decide_eq_true h1, decide_eq_true h2, decide_eq_true h3, decide_eq_true h5, decide_eq_true h9]; rfl)

  · -- sort
    have yes : ∀ mcc msc : Nat, mcc = 0 → msc = 0 → b_knd M f 8 a b = true → q_V g M_Model_canDo 0 0 mcc msc (sz, T, I, R, J) (fun o h' => ∃ r : Int32, o = .inl (some (.int r)) ∧ (r = p_b (b_knd M f 8 a b) ∧ h' = (sz, T, I, R, J))) 495 [some (.ref m), some (.int (nI 8)), some (.int (nI (k_path f.1))), some (.int a), some (.int b), some (.int c), some (.int (nI f.1.length)), some (.int (nI i)), some (.int nm), some (.int inn), some (.int (nI M.length))] [] := by
      intro mcc msc e1 e2 hz
      subst e1 e2
      refine q_iconst (v := nI 1) d_Model_canDo_495 (by decide) ?_
      refine q_goto (tgt := 500) d_Model_canDo_496 rfl ?_
      refine q_zret d_Model_canDo_500 rfl (by first | exact Or.inl rfl | exact Or.inr rfl | assumption) (by omega) (by omega) ?_
      exact ⟨_, rfl, by rw [hz]; rfl, rfl⟩
    have no : ∀ mcc msc : Nat, mcc = 0 → msc = 0 → b_knd M f 8 a b = false → q_V g M_Model_canDo 0 0 mcc msc (sz, T, I, R, J) (fun o h' => ∃ r : Int32, o = .inl (some (.int r)) ∧ (r = p_b (b_knd M f 8 a b) ∧ h' = (sz, T, I, R, J))) 499 [some (.ref m), some (.int (nI 8)), some (.int (nI (k_path f.1))), some (.int a), some (.int b), some (.int c), some (.int (nI f.1.length)), some (.int (nI i)), some (.int nm), some (.int inn), some (.int (nI M.length))] [] := by
      intro mcc msc e1 e2 hz
      subst e1 e2
      refine q_iconst (v := nI 0) d_Model_canDo_499 (by decide) ?_
      refine q_zret d_Model_canDo_500 rfl (by first | exact Or.inl rfl | exact Or.inr rfl | assumption) (by omega) (by omega) ?_
      exact ⟨_, rfl, by rw [hz]; rfl, rfl⟩
    refine q_tableIn (tgt := 484) (off := 348) d_Model_canDo_136 (by omega) (by omega) (by rw [kt]; rfl) (by omega) ?_
    refine q_aload_n d_Model_canDo_484 rfl rfl ?_
    refine q_getR (ci := 11) (fk := 20) d_Model_canDo_485 rfl (Nat.le_of_ble_eq_true rfl) w_1124 (fun _ _ => rfl) hL.1 (hL.2 20 _ _ _ rfl).1 ?_
    refine q_iload d_Model_canDo_488 rfl ?_
    refine q_iald d_Model_canDo_490 (hL.2 20 _ _ _ rfl).2 (by first | assumption | exact vp_in_nI (by omega) (by omega)) ?_
    rw [w2]
    refine q_iconst (v := nI 1) d_Model_canDo_491 (by decide) ?_
    refine q_icmp_ne (tgt := 499) d_Model_canDo_492 rfl (fun hc => ?_) (fun hc => ?_)
    · exact no _ _ rfl rfl (decide_eq_false (show ¬ f.2.1 = 1 from hc))
    · exact yes _ _ rfl rfl (decide_eq_true (show f.2.1 = 1 by have := hc; exact this))

end CanDo

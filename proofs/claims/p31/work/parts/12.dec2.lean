theorem dL_cell_8 : decode cL_cell 8 = .ok (.iaload, 1) := by decide +kernel
theorem dL_cell_9 : decode cL_cell 9 = .ok (.goto 9, 3) := by decide +kernel
theorem dL_cell_12 : decode cL_cell 12 = .ok (.ldc 8, 2) := by decide +kernel
theorem dL_cell_14 : decode cL_cell 14 = .ok (.iload_n 1, 1) := by decide +kernel
theorem dL_cell_15 : decode cL_cell 15 = .ok (.iconst 3, 1) := by decide +kernel
theorem dL_cell_16 : decode cL_cell 16 = .ok (.iadd, 1) := by decide +kernel
theorem dL_cell_17 : decode cL_cell 17 = .ok (.imul, 1) := by decide +kernel
theorem dL_cell_18 : decode cL_cell 18 = .ok (.ireturn, 1) := by decide +kernel
theorem dL_law_0 : decode cL_law 0 = .ok (.new 9, 3) := by decide +kernel
theorem dL_law_3 : decode cL_law 3 = .ok (.dup, 1) := by decide +kernel
theorem dL_law_4 : decode cL_law 4 = .ok (.invokespecial 11, 3) := by decide +kernel
theorem dL_law_7 : decode cL_law 7 = .ok (.astore_n 1, 1) := by decide +kernel
theorem dL_law_8 : decode cL_law 8 = .ok (.iconst 3, 1) := by decide +kernel
theorem dL_law_9 : decode cL_law 9 = .ok (.istore_n 2, 1) := by decide +kernel
theorem dL_law_10 : decode cL_law 10 = .ok (.bipush 8, 2) := by decide +kernel
theorem dL_law_12 : decode cL_law 12 = .ok (.newarray .int, 2) := by decide +kernel
theorem dL_law_14 : decode cL_law 14 = .ok (.astore_n 3, 1) := by decide +kernel
theorem dL_law_15 : decode cL_law 15 = .ok (.bipush 8, 2) := by decide +kernel
theorem dL_law_17 : decode cL_law 17 = .ok (.newarray .int, 2) := by decide +kernel
theorem dL_law_19 : decode cL_law 19 = .ok (.astore 4, 2) := by decide +kernel
theorem dL_law_21 : decode cL_law 21 = .ok (.iconst 0, 1) := by decide +kernel
theorem dL_law_22 : decode cL_law 22 = .ok (.istore 5, 2) := by decide +kernel
theorem dL_law_24 : decode cL_law 24 = .ok (.iload 5, 2) := by decide +kernel
theorem dL_law_26 : decode cL_law 26 = .ok (.bipush 40, 2) := by decide +kernel
theorem dL_law_28 : decode cL_law 28 = .ok (.if_icmp .ge 657, 3) := by decide +kernel
theorem dL_law_31 : decode cL_law 31 = .ok (.aload_n 0, 1) := by decide +kernel
theorem dL_law_32 : decode cL_law 32 = .ok (.iload 5, 2) := by decide +kernel
theorem dL_law_34 : decode cL_law 34 = .ok (.bipush 16, 2) := by decide +kernel
theorem dL_law_36 : decode cL_law 36 = .ok (.irem, 1) := by decide +kernel
theorem dL_law_37 : decode cL_law 37 = .ok (.invokestatic 12, 3) := by decide +kernel
theorem dL_law_40 : decode cL_law 40 = .ok (.bipush 31, 2) := by decide +kernel
theorem dL_law_42 : decode cL_law 42 = .ok (.iload 5, 2) := by decide +kernel
theorem dL_law_44 : decode cL_law 44 = .ok (.imul, 1) := by decide +kernel
theorem dL_law_45 : decode cL_law 45 = .ok (.iadd, 1) := by decide +kernel
theorem dL_law_46 : decode cL_law 46 = .ok (.istore 6, 2) := by decide +kernel
theorem dL_law_48 : decode cL_law 48 = .ok (.aload_n 0, 1) := by decide +kernel
theorem dL_law_49 : decode cL_law 49 = .ok (.bipush 7, 2) := by decide +kernel
theorem dL_law_51 : decode cL_law 51 = .ok (.iload 5, 2) := by decide +kernel
theorem dL_law_53 : decode cL_law 53 = .ok (.imul, 1) := by decide +kernel
theorem dL_law_54 : decode cL_law 54 = .ok (.iconst 3, 1) := by decide +kernel
theorem dL_law_55 : decode cL_law 55 = .ok (.iadd, 1) := by decide +kernel
theorem dL_law_56 : decode cL_law 56 = .ok (.bipush 16, 2) := by decide +kernel
theorem dL_law_58 : decode cL_law 58 = .ok (.irem, 1) := by decide +kernel
theorem dL_law_59 : decode cL_law 59 = .ok (.invokestatic 12, 3) := by decide +kernel
theorem dL_law_62 : decode cL_law 62 = .ok (.iconst 5, 1) := by decide +kernel
theorem dL_law_63 : decode cL_law 63 = .ok (.iload 5, 2) := by decide +kernel
theorem dL_law_65 : decode cL_law 65 = .ok (.imul, 1) := by decide +kernel
theorem dL_law_66 : decode cL_law 66 = .ok (.iadd, 1) := by decide +kernel
theorem dL_law_67 : decode cL_law 67 = .ok (.istore 7, 2) := by decide +kernel
theorem dL_law_69 : decode cL_law 69 = .ok (.aload_n 1, 1) := by decide +kernel
theorem dL_law_70 : decode cL_law 70 = .ok (.iconst 1, 1) := by decide +kernel
theorem dL_law_71 : decode cL_law 71 = .ok (.invokevirtual 18, 3) := by decide +kernel
theorem dL_law_74 : decode cL_law 74 = .ok (.istore 8, 2) := by decide +kernel
theorem dL_law_76 : decode cL_law 76 = .ok (.aload_n 1, 1) := by decide +kernel
theorem dL_law_77 : decode cL_law 77 = .ok (.iconst 3, 1) := by decide +kernel
theorem dL_law_78 : decode cL_law 78 = .ok (.invokevirtual 18, 3) := by decide +kernel
theorem dL_law_81 : decode cL_law 81 = .ok (.istore 9, 2) := by decide +kernel
theorem dL_law_83 : decode cL_law 83 = .ok (.aload_n 1, 1) := by decide +kernel
theorem dL_law_84 : decode cL_law 84 = .ok (.iconst 2, 1) := by decide +kernel
theorem dL_law_85 : decode cL_law 85 = .ok (.invokevirtual 18, 3) := by decide +kernel
theorem dL_law_88 : decode cL_law 88 = .ok (.istore 10, 2) := by decide +kernel
theorem dL_law_90 : decode cL_law 90 = .ok (.iload 7, 2) := by decide +kernel
theorem dL_law_92 : decode cL_law 92 = .ok (.iconst 1, 1) := by decide +kernel
theorem dL_law_93 : decode cL_law 93 = .ok (.iload 8, 2) := by decide +kernel
theorem dL_law_95 : decode cL_law 95 = .ok (.invokestatic 22, 3) := by decide +kernel
theorem dL_law_98 : decode cL_law 98 = .ok (.invokestatic 28, 3) := by decide +kernel
theorem dL_law_101 : decode cL_law 101 = .ok (.istore 11, 2) := by decide +kernel
theorem dL_law_103 : decode cL_law 103 = .ok (.iload 6, 2) := by decide +kernel
theorem dL_law_105 : decode cL_law 105 = .ok (.bipush 11, 2) := by decide +kernel
theorem dL_law_107 : decode cL_law 107 = .ok (.invokestatic 28, 3) := by decide +kernel
theorem dL_law_110 : decode cL_law 110 = .ok (.tableswitch 501 0 9 #[54, 92, 92, 128, 128, 128, 214, 268, 298, 401], 54) := by decide +kernel
theorem dL_law_164 : decode cL_law 164 = .ok (.iconst 1, 1) := by decide +kernel
theorem dL_law_165 : decode cL_law 165 = .ok (.iload 7, 2) := by decide +kernel
theorem dL_law_167 : decode cL_law 167 = .ok (.iconst 5, 1) := by decide +kernel
theorem dL_law_168 : decode cL_law 168 = .ok (.invokestatic 28, 3) := by decide +kernel
theorem dL_law_171 : decode cL_law 171 = .ok (.iadd, 1) := by decide +kernel
theorem dL_law_172 : decode cL_law 172 = .ok (.istore_n 2, 1) := by decide +kernel
theorem dL_law_173 : decode cL_law 173 = .ok (.aload_n 1, 1) := by decide +kernel
theorem dL_law_174 : decode cL_law 174 = .ok (.iload_n 2, 1) := by decide +kernel
theorem dL_law_175 : decode cL_law 175 = .ok (.invokevirtual 31, 3) := by decide +kernel
theorem dL_law_178 : decode cL_law 178 = .ok (.iload 10, 2) := by decide +kernel
theorem dL_law_180 : decode cL_law 180 = .ok (.if_icmp .ne 20, 3) := by decide +kernel
theorem dL_law_183 : decode cL_law 183 = .ok (.aload_n 1, 1) := by decide +kernel
theorem dL_law_184 : decode cL_law 184 = .ok (.iconst 2, 1) := by decide +kernel
theorem dL_law_185 : decode cL_law 185 = .ok (.invokevirtual 18, 3) := by decide +kernel
theorem dL_law_188 : decode cL_law 188 = .ok (.ifCond .ne 12, 3) := by decide +kernel
theorem dL_law_191 : decode cL_law 191 = .ok (.aload_n 1, 1) := by decide +kernel
theorem dL_law_192 : decode cL_law 192 = .ok (.iconst 0, 1) := by decide +kernel
theorem dL_law_193 : decode cL_law 193 = .ok (.invokevirtual 18, 3) := by decide +kernel
theorem dL_law_196 : decode cL_law 196 = .ok (.iload_n 2, 1) := by decide +kernel
theorem dL_law_197 : decode cL_law 197 = .ok (.if_icmp .eq 432, 3) := by decide +kernel
theorem dL_law_200 : decode cL_law 200 = .ok (.iconst 0, 1) := by decide +kernel
theorem dL_law_201 : decode cL_law 201 = .ok (.ireturn, 1) := by decide +kernel
theorem dL_law_202 : decode cL_law 202 = .ok (.iload 8, 2) := by decide +kernel
theorem dL_law_204 : decode cL_law 204 = .ok (.bipush 8, 2) := by decide +kernel
theorem dL_law_206 : decode cL_law 206 = .ok (.if_icmp .ge 423, 3) := by decide +kernel
theorem dL_law_209 : decode cL_law 209 = .ok (.aload_n 1, 1) := by decide +kernel
theorem dL_law_210 : decode cL_law 210 = .ok (.iload 7, 2) := by decide +kernel
theorem dL_law_212 : decode cL_law 212 = .ok (.bipush 11, 2) := by decide +kernel
theorem dL_law_214 : decode cL_law 214 = .ok (.invokestatic 28, 3) := by decide +kernel
theorem dL_law_217 : decode cL_law 217 = .ok (.invokevirtual 34, 3) := by decide +kernel
theorem dL_law_220 : decode cL_law 220 = .ok (.iload 8, 2) := by decide +kernel
theorem dL_law_222 : decode cL_law 222 = .ok (.if_icmp .ne 14, 3) := by decide +kernel
theorem dL_law_225 : decode cL_law 225 = .ok (.aload_n 1, 1) := by decide +kernel
theorem dL_law_226 : decode cL_law 226 = .ok (.iload 8, 2) := by decide +kernel
theorem dL_law_228 : decode cL_law 228 = .ok (.iconst 2, 1) := by decide +kernel
theorem dL_law_229 : decode cL_law 229 = .ok (.invokevirtual 37, 3) := by decide +kernel
theorem dL_law_232 : decode cL_law 232 = .ok (.iconst 1, 1) := by decide +kernel
theorem dL_law_233 : decode cL_law 233 = .ok (.if_icmp .eq 396, 3) := by decide +kernel
theorem dL_law_236 : decode cL_law 236 = .ok (.iconst 0, 1) := by decide +kernel
theorem dL_law_237 : decode cL_law 237 = .ok (.ireturn, 1) := by decide +kernel
theorem dL_law_238 : decode cL_law 238 = .ok (.iload 8, 2) := by decide +kernel
theorem dL_law_240 : decode cL_law 240 = .ok (.ifCond .le 389, 3) := by decide +kernel
theorem dL_law_243 : decode cL_law 243 = .ok (.aload_n 1, 1) := by decide +kernel
theorem dL_law_244 : decode cL_law 244 = .ok (.iload 11, 2) := by decide +kernel
theorem dL_law_246 : decode cL_law 246 = .ok (.iconst 2, 1) := by decide +kernel
theorem dL_law_247 : decode cL_law 247 = .ok (.invokevirtual 37, 3) := by decide +kernel
theorem dL_law_250 : decode cL_law 250 = .ok (.bipush 6, 2) := by decide +kernel
theorem dL_law_252 : decode cL_law 252 = .ok (.if_icmp .ge 377, 3) := by decide +kernel
theorem dL_law_255 : decode cL_law 255 = .ok (.aload_n 1, 1) := by decide +kernel
theorem dL_law_256 : decode cL_law 256 = .ok (.iload 11, 2) := by decide +kernel
theorem dL_law_258 : decode cL_law 258 = .ok (.bipush 7, 2) := by decide +kernel
theorem dL_law_260 : decode cL_law 260 = .ok (.invokevirtual 37, 3) := by decide +kernel
theorem dL_law_263 : decode cL_law 263 = .ok (.ifCond .ne 366, 3) := by decide +kernel
theorem dL_law_266 : decode cL_law 266 = .ok (.iconst 3, 1) := by decide +kernel
theorem dL_law_267 : decode cL_law 267 = .ok (.newarray .int, 2) := by decide +kernel
theorem dL_law_269 : decode cL_law 269 = .ok (.dup, 1) := by decide +kernel
theorem dL_law_270 : decode cL_law 270 = .ok (.iconst 0, 1) := by decide +kernel
theorem dL_law_271 : decode cL_law 271 = .ok (.iconst 0, 1) := by decide +kernel
theorem dL_law_272 : decode cL_law 272 = .ok (.iastore, 1) := by decide +kernel
theorem dL_law_273 : decode cL_law 273 = .ok (.dup, 1) := by decide +kernel
theorem dL_law_274 : decode cL_law 274 = .ok (.iconst 1, 1) := by decide +kernel
theorem dL_law_275 : decode cL_law 275 = .ok (.iconst 2, 1) := by decide +kernel
theorem dL_law_276 : decode cL_law 276 = .ok (.iastore, 1) := by decide +kernel
theorem dL_law_277 : decode cL_law 277 = .ok (.dup, 1) := by decide +kernel
theorem dL_law_278 : decode cL_law 278 = .ok (.iconst 2, 1) := by decide +kernel
theorem dL_law_279 : decode cL_law 279 = .ok (.bipush 8, 2) := by decide +kernel
theorem dL_law_281 : decode cL_law 281 = .ok (.iastore, 1) := by decide +kernel
theorem dL_law_282 : decode cL_law 282 = .ok (.aload_n 1, 1) := by decide +kernel
theorem dL_law_283 : decode cL_law 283 = .ok (.iload 11, 2) := by decide +kernel
theorem dL_law_285 : decode cL_law 285 = .ok (.iconst 1, 1) := by decide +kernel
theorem dL_law_286 : decode cL_law 286 = .ok (.invokevirtual 37, 3) := by decide +kernel
theorem dL_law_289 : decode cL_law 289 = .ok (.iaload, 1) := by decide +kernel
theorem dL_law_290 : decode cL_law 290 = .ok (.iload 6, 2) := by decide +kernel
theorem dL_law_292 : decode cL_law 292 = .ok (.iconst 3, 1) := by decide +kernel
theorem dL_law_293 : decode cL_law 293 = .ok (.idiv, 1) := by decide +kernel
theorem dL_law_294 : decode cL_law 294 = .ok (.iconst 2, 1) := by decide +kernel
theorem dL_law_295 : decode cL_law 295 = .ok (.invokestatic 28, 3) := by decide +kernel
theorem dL_law_298 : decode cL_law 298 = .ok (.iadd, 1) := by decide +kernel
theorem dL_law_299 : decode cL_law 299 = .ok (.istore 12, 2) := by decide +kernel
theorem dL_law_301 : decode cL_law 301 = .ok (.aload_n 1, 1) := by decide +kernel
theorem dL_law_302 : decode cL_law 302 = .ok (.iload 11, 2) := by decide +kernel
theorem dL_law_304 : decode cL_law 304 = .ok (.iload 12, 2) := by decide +kernel
theorem dL_law_306 : decode cL_law 306 = .ok (.invokevirtual 40, 3) := by decide +kernel
theorem dL_law_309 : decode cL_law 309 = .ok (.aload_n 1, 1) := by decide +kernel
theorem dL_law_310 : decode cL_law 310 = .ok (.iload 11, 2) := by decide +kernel
theorem dL_law_312 : decode cL_law 312 = .ok (.iconst 2, 1) := by decide +kernel
theorem dL_law_313 : decode cL_law 313 = .ok (.invokevirtual 37, 3) := by decide +kernel
theorem dL_law_316 : decode cL_law 316 = .ok (.if_icmp .eq 5, 3) := by decide +kernel
theorem dL_law_319 : decode cL_law 319 = .ok (.iconst 0, 1) := by decide +kernel
theorem dL_law_320 : decode cL_law 320 = .ok (.ireturn, 1) := by decide +kernel
theorem dL_law_321 : decode cL_law 321 = .ok (.goto 308, 3) := by decide +kernel
theorem dL_law_324 : decode cL_law 324 = .ok (.iload 10, 2) := by decide +kernel
theorem dL_law_326 : decode cL_law 326 = .ok (.iconst 4, 1) := by decide +kernel
theorem dL_law_327 : decode cL_law 327 = .ok (.if_icmp .ge 302, 3) := by decide +kernel
theorem dL_law_330 : decode cL_law 330 = .ok (.aload_n 1, 1) := by decide +kernel
theorem dL_law_331 : decode cL_law 331 = .ok (.iload 6, 2) := by decide +kernel
theorem dL_law_333 : decode cL_law 333 = .ok (.iconst 3, 1) := by decide +kernel
theorem dL_law_334 : decode cL_law 334 = .ok (.idiv, 1) := by decide +kernel
theorem dL_law_335 : decode cL_law 335 = .ok (.iconst 3, 1) := by decide +kernel
theorem dL_law_336 : decode cL_law 336 = .ok (.invokestatic 28, 3) := by decide +kernel
theorem dL_law_339 : decode cL_law 339 = .ok (.aload_n 1, 1) := by decide +kernel
theorem dL_law_340 : decode cL_law 340 = .ok (.iload 6, 2) := by decide +kernel
theorem dL_law_342 : decode cL_law 342 = .ok (.iconst 3, 1) := by decide +kernel
theorem dL_law_343 : decode cL_law 343 = .ok (.idiv, 1) := by decide +kernel
theorem dL_law_344 : decode cL_law 344 = .ok (.iconst 3, 1) := by decide +kernel
theorem dL_law_345 : decode cL_law 345 = .ok (.invokestatic 28, 3) := by decide +kernel
theorem dL_law_348 : decode cL_law 348 = .ok (.iload 7, 2) := by decide +kernel
theorem dL_law_350 : decode cL_law 350 = .ok (.aload_n 1, 1) := by decide +kernel
theorem dL_law_351 : decode cL_law 351 = .ok (.iload 6, 2) := by decide +kernel
theorem dL_law_353 : decode cL_law 353 = .ok (.iconst 3, 1) := by decide +kernel
theorem dL_law_354 : decode cL_law 354 = .ok (.idiv, 1) := by decide +kernel
theorem dL_law_355 : decode cL_law 355 = .ok (.iconst 3, 1) := by decide +kernel
theorem dL_law_356 : decode cL_law 356 = .ok (.invokestatic 28, 3) := by decide +kernel
theorem dL_law_359 : decode cL_law 359 = .ok (.invokevirtual 43, 3) := by decide +kernel
theorem dL_law_362 : decode cL_law 362 = .ok (.invokestatic 28, 3) := by decide +kernel
theorem dL_law_365 : decode cL_law 365 = .ok (.invokevirtual 46, 3) := by decide +kernel
theorem dL_law_368 : decode cL_law 368 = .ok (.invokevirtual 49, 3) := by decide +kernel
theorem dL_law_371 : decode cL_law 371 = .ok (.iload 10, 2) := by decide +kernel
theorem dL_law_373 : decode cL_law 373 = .ok (.if_icmp .eq 256, 3) := by decide +kernel
theorem dL_law_376 : decode cL_law 376 = .ok (.iconst 0, 1) := by decide +kernel
theorem dL_law_377 : decode cL_law 377 = .ok (.ireturn, 1) := by decide +kernel
theorem dL_law_378 : decode cL_law 378 = .ok (.iload 10, 2) := by decide +kernel
theorem dL_law_380 : decode cL_law 380 = .ok (.ifCond .le 249, 3) := by decide +kernel
theorem dL_law_383 : decode cL_law 383 = .ok (.iload 8, 2) := by decide +kernel
theorem dL_law_385 : decode cL_law 385 = .ok (.ifCond .le 244, 3) := by decide +kernel
theorem dL_law_388 : decode cL_law 388 = .ok (.aload_n 1, 1) := by decide +kernel
theorem dL_law_389 : decode cL_law 389 = .ok (.iload 6, 2) := by decide +kernel
theorem dL_law_391 : decode cL_law 391 = .ok (.iconst 5, 1) := by decide +kernel
theorem dL_law_392 : decode cL_law 392 = .ok (.idiv, 1) := by decide +kernel
theorem dL_law_393 : decode cL_law 393 = .ok (.iload 10, 2) := by decide +kernel
theorem dL_law_395 : decode cL_law 395 = .ok (.invokestatic 28, 3) := by decide +kernel
theorem dL_law_398 : decode cL_law 398 = .ok (.iload 11, 2) := by decide +kernel
theorem dL_law_400 : decode cL_law 400 = .ok (.invokestatic 52, 3) := by decide +kernel
theorem dL_law_403 : decode cL_law 403 = .ok (.ifCond .ne 226, 3) := by decide +kernel
theorem dL_law_406 : decode cL_law 406 = .ok (.iconst 0, 1) := by decide +kernel
theorem dL_law_407 : decode cL_law 407 = .ok (.ireturn, 1) := by decide +kernel
theorem dL_law_408 : decode cL_law 408 = .ok (.iload 9, 2) := by decide +kernel
theorem dL_law_410 : decode cL_law 410 = .ok (.bipush 8, 2) := by decide +kernel
theorem dL_law_412 : decode cL_law 412 = .ok (.if_icmp .eq 217, 3) := by decide +kernel
theorem dL_law_415 : decode cL_law 415 = .ok (.iload 8, 2) := by decide +kernel
theorem dL_law_417 : decode cL_law 417 = .ok (.ifCond .ne 6, 3) := by decide +kernel
theorem dL_law_420 : decode cL_law 420 = .ok (.goto 209, 3) := by decide +kernel
theorem dL_law_423 : decode cL_law 423 = .ok (.aload_n 1, 1) := by decide +kernel
theorem dL_law_424 : decode cL_law 424 = .ok (.iload 11, 2) := by decide +kernel
theorem dL_law_426 : decode cL_law 426 = .ok (.iload 6, 2) := by decide +kernel
theorem dL_law_428 : decode cL_law 428 = .ok (.iconst 3, 1) := by decide +kernel
theorem dL_law_429 : decode cL_law 429 = .ok (.idiv, 1) := by decide +kernel
theorem dL_law_430 : decode cL_law 430 = .ok (.iconst 4, 1) := by decide +kernel
theorem dL_law_431 : decode cL_law 431 = .ok (.invokestatic 28, 3) := by decide +kernel
theorem dL_law_434 : decode cL_law 434 = .ok (.iload 6, 2) := by decide +kernel
theorem dL_law_436 : decode cL_law 436 = .ok (.iconst 5, 1) := by decide +kernel
theorem dL_law_437 : decode cL_law 437 = .ok (.idiv, 1) := by decide +kernel
theorem dL_law_438 : decode cL_law 438 = .ok (.iconst 4, 1) := by decide +kernel
theorem dL_law_439 : decode cL_law 439 = .ok (.invokestatic 28, 3) := by decide +kernel
theorem dL_law_442 : decode cL_law 442 = .ok (.invokevirtual 56, 3) := by decide +kernel
theorem dL_law_445 : decode cL_law 445 = .ok (.iload 9, 2) := by decide +kernel
theorem dL_law_447 : decode cL_law 447 = .ok (.if_icmp .ne 15, 3) := by decide +kernel
theorem dL_law_450 : decode cL_law 450 = .ok (.aload_n 1, 1) := by decide +kernel
theorem dL_law_451 : decode cL_law 451 = .ok (.iload 11, 2) := by decide +kernel
theorem dL_law_453 : decode cL_law 453 = .ok (.bipush 7, 2) := by decide +kernel
theorem dL_law_455 : decode cL_law 455 = .ok (.invokevirtual 37, 3) := by decide +kernel
theorem dL_law_458 : decode cL_law 458 = .ok (.iconst 1, 1) := by decide +kernel
theorem dL_law_459 : decode cL_law 459 = .ok (.if_icmp .eq 5, 3) := by decide +kernel
theorem dL_law_462 : decode cL_law 462 = .ok (.iconst 0, 1) := by decide +kernel
theorem dL_law_463 : decode cL_law 463 = .ok (.ireturn, 1) := by decide +kernel
theorem dL_law_464 : decode cL_law 464 = .ok (.aload 4, 2) := by decide +kernel
theorem dL_law_466 : decode cL_law 466 = .ok (.iload 9, 2) := by decide +kernel
theorem dL_law_468 : decode cL_law 468 = .ok (.iconst 1, 1) := by decide +kernel
theorem dL_law_469 : decode cL_law 469 = .ok (.iload_n 2, 1) := by decide +kernel
theorem dL_law_470 : decode cL_law 470 = .ok (.ishl, 1) := by decide +kernel
theorem dL_law_471 : decode cL_law 471 = .ok (.iastore, 1) := by decide +kernel
theorem dL_law_472 : decode cL_law 472 = .ok (.aload_n 3, 1) := by decide +kernel
theorem dL_law_473 : decode cL_law 473 = .ok (.iload 9, 2) := by decide +kernel
theorem dL_law_475 : decode cL_law 475 = .ok (.aload_n 1, 1) := by decide +kernel
theorem dL_law_476 : decode cL_law 476 = .ok (.iload 11, 2) := by decide +kernel
theorem dL_law_478 : decode cL_law 478 = .ok (.iload 6, 2) := by decide +kernel
theorem dL_law_480 : decode cL_law 480 = .ok (.iconst 3, 1) := by decide +kernel
theorem dL_law_481 : decode cL_law 481 = .ok (.idiv, 1) := by decide +kernel
theorem dL_law_482 : decode cL_law 482 = .ok (.iconst 4, 1) := by decide +kernel
theorem dL_law_483 : decode cL_law 483 = .ok (.invokestatic 28, 3) := by decide +kernel
theorem dL_law_486 : decode cL_law 486 = .ok (.iload 6, 2) := by decide +kernel
theorem dL_law_488 : decode cL_law 488 = .ok (.iconst 5, 1) := by decide +kernel
theorem dL_law_489 : decode cL_law 489 = .ok (.idiv, 1) := by decide +kernel
theorem dL_law_490 : decode cL_law 490 = .ok (.iconst 4, 1) := by decide +kernel
theorem dL_law_491 : decode cL_law 491 = .ok (.invokestatic 28, 3) := by decide +kernel
theorem dL_law_494 : decode cL_law 494 = .ok (.invokevirtual 60, 3) := by decide +kernel
theorem dL_law_497 : decode cL_law 497 = .ok (.ifCond .ge 7, 3) := by decide +kernel
theorem dL_law_500 : decode cL_law 500 = .ok (.iconst 0, 1) := by decide +kernel
theorem dL_law_501 : decode cL_law 501 = .ok (.goto 6, 3) := by decide +kernel
theorem dL_law_504 : decode cL_law 504 = .ok (.iconst 1, 1) := by decide +kernel
theorem dL_law_505 : decode cL_law 505 = .ok (.iload_n 2, 1) := by decide +kernel
theorem dL_law_506 : decode cL_law 506 = .ok (.ishl, 1) := by decide +kernel
theorem dL_law_507 : decode cL_law 507 = .ok (.iastore, 1) := by decide +kernel
theorem dL_law_508 : decode cL_law 508 = .ok (.goto 121, 3) := by decide +kernel
theorem dL_law_511 : decode cL_law 511 = .ok (.iload 9, 2) := by decide +kernel
theorem dL_law_513 : decode cL_law 513 = .ok (.ifCond .ne 6, 3) := by decide +kernel
theorem dL_law_516 : decode cL_law 516 = .ok (.goto 113, 3) := by decide +kernel
theorem dL_law_519 : decode cL_law 519 = .ok (.iload 6, 2) := by decide +kernel
theorem dL_law_521 : decode cL_law 521 = .ok (.iconst 5, 1) := by decide +kernel
theorem dL_law_522 : decode cL_law 522 = .ok (.idiv, 1) := by decide +kernel
theorem dL_law_523 : decode cL_law 523 = .ok (.iload 9, 2) := by decide +kernel
theorem dL_law_525 : decode cL_law 525 = .ok (.invokestatic 28, 3) := by decide +kernel
theorem dL_law_528 : decode cL_law 528 = .ok (.istore 12, 2) := by decide +kernel
theorem dL_law_530 : decode cL_law 530 = .ok (.aload_n 1, 1) := by decide +kernel
theorem dL_law_531 : decode cL_law 531 = .ok (.iload 12, 2) := by decide +kernel
theorem dL_law_533 : decode cL_law 533 = .ok (.invokevirtual 63, 3) := by decide +kernel
theorem dL_law_536 : decode cL_law 536 = .ok (.istore 13, 2) := by decide +kernel
theorem dL_law_538 : decode cL_law 538 = .ok (.iload 13, 2) := by decide +kernel
theorem dL_law_540 : decode cL_law 540 = .ok (.aload_n 1, 1) := by decide +kernel
theorem dL_law_541 : decode cL_law 541 = .ok (.aload_n 1, 1) := by decide +kernel
theorem dL_law_542 : decode cL_law 542 = .ok (.iload 12, 2) := by decide +kernel
theorem dL_law_544 : decode cL_law 544 = .ok (.iconst 0, 1) := by decide +kernel
theorem dL_law_545 : decode cL_law 545 = .ok (.invokevirtual 67, 3) := by decide +kernel
theorem dL_law_548 : decode cL_law 548 = .ok (.aload_n 1, 1) := by decide +kernel
theorem dL_law_549 : decode cL_law 549 = .ok (.iload 12, 2) := by decide +kernel
theorem dL_law_551 : decode cL_law 551 = .ok (.iconst 1, 1) := by decide +kernel
theorem dL_law_552 : decode cL_law 552 = .ok (.invokevirtual 67, 3) := by decide +kernel
theorem dL_law_555 : decode cL_law 555 = .ok (.aload_n 1, 1) := by decide +kernel
theorem dL_law_556 : decode cL_law 556 = .ok (.iload 12, 2) := by decide +kernel
theorem dL_law_558 : decode cL_law 558 = .ok (.iconst 2, 1) := by decide +kernel
theorem dL_law_559 : decode cL_law 559 = .ok (.invokevirtual 67, 3) := by decide +kernel
theorem dL_law_562 : decode cL_law 562 = .ok (.invokevirtual 60, 3) := by decide +kernel
theorem dL_law_565 : decode cL_law 565 = .ok (.ifCond .ge 7, 3) := by decide +kernel
theorem dL_law_568 : decode cL_law 568 = .ok (.iconst 1, 1) := by decide +kernel
theorem dL_law_569 : decode cL_law 569 = .ok (.goto 4, 3) := by decide +kernel
theorem dL_law_572 : decode cL_law 572 = .ok (.iconst 0, 1) := by decide +kernel
theorem dL_law_573 : decode cL_law 573 = .ok (.if_icmp .eq 5, 3) := by decide +kernel
theorem dL_law_576 : decode cL_law 576 = .ok (.iconst 0, 1) := by decide +kernel
theorem dL_law_577 : decode cL_law 577 = .ok (.ireturn, 1) := by decide +kernel
theorem dL_law_578 : decode cL_law 578 = .ok (.aload 4, 2) := by decide +kernel
theorem dL_law_580 : decode cL_law 580 = .ok (.iload 12, 2) := by decide +kernel
theorem dL_law_582 : decode cL_law 582 = .ok (.dup2, 1) := by decide +kernel
theorem dL_law_583 : decode cL_law 583 = .ok (.iaload, 1) := by decide +kernel
theorem dL_law_584 : decode cL_law 584 = .ok (.iconst 1, 1) := by decide +kernel
theorem dL_law_585 : decode cL_law 585 = .ok (.iload_n 2, 1) := by decide +kernel
theorem dL_law_586 : decode cL_law 586 = .ok (.ishl, 1) := by decide +kernel
theorem dL_law_587 : decode cL_law 587 = .ok (.ior, 1) := by decide +kernel
theorem dL_law_588 : decode cL_law 588 = .ok (.iastore, 1) := by decide +kernel
theorem dL_law_589 : decode cL_law 589 = .ok (.aload_n 3, 1) := by decide +kernel
theorem dL_law_590 : decode cL_law 590 = .ok (.iload 12, 2) := by decide +kernel
theorem dL_law_592 : decode cL_law 592 = .ok (.dup2, 1) := by decide +kernel
theorem dL_law_593 : decode cL_law 593 = .ok (.iaload, 1) := by decide +kernel
theorem dL_law_594 : decode cL_law 594 = .ok (.iload 13, 2) := by decide +kernel
theorem dL_law_596 : decode cL_law 596 = .ok (.ifCond .eq 7, 3) := by decide +kernel
theorem dL_law_599 : decode cL_law 599 = .ok (.iconst 0, 1) := by decide +kernel
theorem dL_law_600 : decode cL_law 600 = .ok (.goto 6, 3) := by decide +kernel
theorem dL_law_603 : decode cL_law 603 = .ok (.iconst 1, 1) := by decide +kernel
theorem dL_law_604 : decode cL_law 604 = .ok (.iload_n 2, 1) := by decide +kernel
theorem dL_law_605 : decode cL_law 605 = .ok (.ishl, 1) := by decide +kernel
theorem dL_law_606 : decode cL_law 606 = .ok (.ior, 1) := by decide +kernel
theorem dL_law_607 : decode cL_law 607 = .ok (.iastore, 1) := by decide +kernel
theorem dL_law_608 : decode cL_law 608 = .ok (.goto 21, 3) := by decide +kernel
theorem dL_law_611 : decode cL_law 611 = .ok (.iload 8, 2) := by decide +kernel
theorem dL_law_613 : decode cL_law 613 = .ok (.ifCond .le 16, 3) := by decide +kernel
theorem dL_law_616 : decode cL_law 616 = .ok (.aload_n 1, 1) := by decide +kernel
theorem dL_law_617 : decode cL_law 617 = .ok (.iload 11, 2) := by decide +kernel
theorem dL_law_619 : decode cL_law 619 = .ok (.iload 7, 2) := by decide +kernel
theorem dL_law_621 : decode cL_law 621 = .ok (.invokestatic 70, 3) := by decide +kernel
theorem dL_law_624 : decode cL_law 624 = .ok (.ifCond .ne 5, 3) := by decide +kernel
theorem dL_law_627 : decode cL_law 627 = .ok (.iconst 0, 1) := by decide +kernel
theorem dL_law_628 : decode cL_law 628 = .ok (.ireturn, 1) := by decide +kernel
theorem dL_law_629 : decode cL_law 629 = .ok (.iconst 0, 1) := by decide +kernel
theorem dL_law_630 : decode cL_law 630 = .ok (.istore 12, 2) := by decide +kernel
theorem dL_law_632 : decode cL_law 632 = .ok (.iload 12, 2) := by decide +kernel
theorem dL_law_634 : decode cL_law 634 = .ok (.aload_n 1, 1) := by decide +kernel
theorem dL_law_635 : decode cL_law 635 = .ok (.iconst 3, 1) := by decide +kernel
theorem dL_law_636 : decode cL_law 636 = .ok (.invokevirtual 18, 3) := by decide +kernel
theorem dL_law_639 : decode cL_law 639 = .ok (.if_icmp .ge 40, 3) := by decide +kernel
theorem dL_law_642 : decode cL_law 642 = .ok (.aload_n 1, 1) := by decide +kernel
theorem dL_law_643 : decode cL_law 643 = .ok (.iload 12, 2) := by decide +kernel
theorem dL_law_645 : decode cL_law 645 = .ok (.iconst 3, 1) := by decide +kernel
theorem dL_law_646 : decode cL_law 646 = .ok (.invokevirtual 67, 3) := by decide +kernel
theorem dL_law_649 : decode cL_law 649 = .ok (.aload 4, 2) := by decide +kernel
theorem dL_law_651 : decode cL_law 651 = .ok (.iload 12, 2) := by decide +kernel
theorem dL_law_653 : decode cL_law 653 = .ok (.iaload, 1) := by decide +kernel
theorem dL_law_654 : decode cL_law 654 = .ok (.if_icmp .ne 17, 3) := by decide +kernel
theorem dL_law_657 : decode cL_law 657 = .ok (.aload_n 1, 1) := by decide +kernel
theorem dL_law_658 : decode cL_law 658 = .ok (.iload 12, 2) := by decide +kernel
theorem dL_law_660 : decode cL_law 660 = .ok (.iconst 4, 1) := by decide +kernel
theorem dL_law_661 : decode cL_law 661 = .ok (.invokevirtual 67, 3) := by decide +kernel
theorem dL_law_664 : decode cL_law 664 = .ok (.aload_n 3, 1) := by decide +kernel
theorem dL_law_665 : decode cL_law 665 = .ok (.iload 12, 2) := by decide +kernel
theorem dL_law_667 : decode cL_law 667 = .ok (.iaload, 1) := by decide +kernel
theorem dL_law_668 : decode cL_law 668 = .ok (.if_icmp .eq 5, 3) := by decide +kernel
theorem dL_law_671 : decode cL_law 671 = .ok (.iconst 0, 1) := by decide +kernel
theorem dL_law_672 : decode cL_law 672 = .ok (.ireturn, 1) := by decide +kernel
theorem dL_law_673 : decode cL_law 673 = .ok (.iinc 12 1, 3) := by decide +kernel
theorem dL_law_676 : decode cL_law 676 = .ok (.goto (-44), 3) := by decide +kernel
theorem dL_law_679 : decode cL_law 679 = .ok (.iinc 5 1, 3) := by decide +kernel
theorem dL_law_682 : decode cL_law 682 = .ok (.goto (-658), 3) := by decide +kernel
theorem dL_law_685 : decode cL_law 685 = .ok (.aload_n 1, 1) := by decide +kernel
theorem dL_law_686 : decode cL_law 686 = .ok (.invokevirtual 73, 3) := by decide +kernel
theorem dL_law_689 : decode cL_law 689 = .ok (.lstore 5, 2) := by decide +kernel
theorem dL_law_691 : decode cL_law 691 = .ok (.iconst 0, 1) := by decide +kernel
theorem dL_law_692 : decode cL_law 692 = .ok (.istore 7, 2) := by decide +kernel
theorem dL_law_694 : decode cL_law 694 = .ok (.iload 7, 2) := by decide +kernel
theorem dL_law_696 : decode cL_law 696 = .ok (.iconst 3, 1) := by decide +kernel
theorem dL_law_697 : decode cL_law 697 = .ok (.if_icmp .ge 47, 3) := by decide +kernel
theorem dL_law_700 : decode cL_law 700 = .ok (.aload_n 0, 1) := by decide +kernel
theorem dL_law_701 : decode cL_law 701 = .ok (.iload 7, 2) := by decide +kernel
theorem dL_law_703 : decode cL_law 703 = .ok (.invokestatic 12, 3) := by decide +kernel
theorem dL_law_706 : decode cL_law 706 = .ok (.aload_n 1, 1) := by decide +kernel
theorem dL_law_707 : decode cL_law 707 = .ok (.iload 7, 2) := by decide +kernel
theorem dL_law_709 : decode cL_law 709 = .ok (.invokevirtual 43, 3) := by decide +kernel
theorem dL_law_712 : decode cL_law 712 = .ok (.invokestatic 28, 3) := by decide +kernel
theorem dL_law_715 : decode cL_law 715 = .ok (.istore 8, 2) := by decide +kernel
theorem dL_law_717 : decode cL_law 717 = .ok (.aload_n 1, 1) := by decide +kernel
theorem dL_law_718 : decode cL_law 718 = .ok (.iload 7, 2) := by decide +kernel
theorem dL_law_720 : decode cL_law 720 = .ok (.aload_n 1, 1) := by decide +kernel
theorem dL_law_721 : decode cL_law 721 = .ok (.iload 7, 2) := by decide +kernel
theorem dL_law_723 : decode cL_law 723 = .ok (.iload 8, 2) := by decide +kernel
theorem dL_law_725 : decode cL_law 725 = .ok (.invokevirtual 46, 3) := by decide +kernel
theorem dL_law_728 : decode cL_law 728 = .ok (.invokevirtual 77, 3) := by decide +kernel
theorem dL_law_731 : decode cL_law 731 = .ok (.iload 8, 2) := by decide +kernel
theorem dL_law_733 : decode cL_law 733 = .ok (.if_icmp .eq 5, 3) := by decide +kernel
theorem dL_law_736 : decode cL_law 736 = .ok (.iconst 0, 1) := by decide +kernel
theorem dL_law_737 : decode cL_law 737 = .ok (.ireturn, 1) := by decide +kernel
theorem dL_law_738 : decode cL_law 738 = .ok (.iinc 7 1, 3) := by decide +kernel
theorem dL_law_741 : decode cL_law 741 = .ok (.goto (-47), 3) := by decide +kernel
theorem dL_law_744 : decode cL_law 744 = .ok (.aload_n 1, 1) := by decide +kernel
theorem dL_law_745 : decode cL_law 745 = .ok (.bipush 6, 2) := by decide +kernel
theorem dL_law_747 : decode cL_law 747 = .ok (.invokevirtual 80, 3) := by decide +kernel
theorem dL_law_750 : decode cL_law 750 = .ok (.aload_n 1, 1) := by decide +kernel
theorem dL_law_751 : decode cL_law 751 = .ok (.iconst 2, 1) := by decide +kernel
theorem dL_law_752 : decode cL_law 752 = .ok (.invokevirtual 43, 3) := by decide +kernel
theorem dL_law_755 : decode cL_law 755 = .ok (.if_icmp .ne 39, 3) := by decide +kernel
theorem dL_law_758 : decode cL_law 758 = .ok (.aload_n 1, 1) := by decide +kernel
theorem dL_law_759 : decode cL_law 759 = .ok (.iconst 0, 1) := by decide +kernel
theorem dL_law_760 : decode cL_law 760 = .ok (.invokevirtual 80, 3) := by decide +kernel
theorem dL_law_763 : decode cL_law 763 = .ok (.iconst 1, 1) := by decide +kernel
theorem dL_law_764 : decode cL_law 764 = .ok (.if_icmp .ne 30, 3) := by decide +kernel
theorem dL_law_767 : decode cL_law 767 = .ok (.aload_n 1, 1) := by decide +kernel
theorem dL_law_768 : decode cL_law 768 = .ok (.iconst 1, 1) := by decide +kernel
theorem dL_law_769 : decode cL_law 769 = .ok (.invokevirtual 80, 3) := by decide +kernel
theorem dL_law_772 : decode cL_law 772 = .ok (.aload_n 1, 1) := by decide +kernel
theorem dL_law_773 : decode cL_law 773 = .ok (.iconst 0, 1) := by decide +kernel
theorem dL_law_774 : decode cL_law 774 = .ok (.invokevirtual 43, 3) := by decide +kernel
theorem dL_law_777 : decode cL_law 777 = .ok (.if_icmp .ne 17, 3) := by decide +kernel
theorem dL_law_780 : decode cL_law 780 = .ok (.aload_n 1, 1) := by decide +kernel
theorem dL_law_781 : decode cL_law 781 = .ok (.invokevirtual 73, 3) := by decide +kernel
theorem dL_law_784 : decode cL_law 784 = .ok (.lload 5, 2) := by decide +kernel
theorem dL_law_786 : decode cL_law 786 = .ok (.lcmp, 1) := by decide +kernel
theorem dL_law_787 : decode cL_law 787 = .ok (.ifCond .ne 7, 3) := by decide +kernel
theorem dL_law_790 : decode cL_law 790 = .ok (.iconst 1, 1) := by decide +kernel
theorem dL_law_791 : decode cL_law 791 = .ok (.goto 4, 3) := by decide +kernel
theorem dL_law_794 : decode cL_law 794 = .ok (.iconst 0, 1) := by decide +kernel
theorem dL_law_795 : decode cL_law 795 = .ok (.ireturn, 1) := by decide +kernel
theorem dL_isSent_0 : decode cL_isSent 0 = .ok (.aload_n 0, 1) := by decide +kernel
theorem dL_isSent_1 : decode cL_isSent 1 = .ok (.iload_n 2, 1) := by decide +kernel
theorem dL_isSent_2 : decode cL_isSent 2 = .ok (.iconst 0, 1) := by decide +kernel
theorem dL_isSent_3 : decode cL_isSent 3 = .ok (.invokevirtual 37, 3) := by decide +kernel
theorem dL_isSent_6 : decode cL_isSent 6 = .ok (.aload_n 0, 1) := by decide +kernel
theorem dL_isSent_7 : decode cL_isSent 7 = .ok (.iload_n 1, 1) := by decide +kernel
theorem dL_isSent_8 : decode cL_isSent 8 = .ok (.iconst 0, 1) := by decide +kernel
theorem dL_isSent_9 : decode cL_isSent 9 = .ok (.invokevirtual 83, 3) := by decide +kernel
theorem dL_isSent_12 : decode cL_isSent 12 = .ok (.if_icmp .eq 5, 3) := by decide +kernel
theorem dL_isSent_15 : decode cL_isSent 15 = .ok (.iconst 1, 1) := by decide +kernel
theorem dL_isSent_16 : decode cL_isSent 16 = .ok (.ireturn, 1) := by decide +kernel
theorem dL_isSent_17 : decode cL_isSent 17 = .ok (.aload_n 0, 1) := by decide +kernel
theorem dL_isSent_18 : decode cL_isSent 18 = .ok (.aload_n 0, 1) := by decide +kernel
theorem dL_isSent_19 : decode cL_isSent 19 = .ok (.iload_n 1, 1) := by decide +kernel
theorem dL_isSent_20 : decode cL_isSent 20 = .ok (.iconst 0, 1) := by decide +kernel
theorem dL_isSent_21 : decode cL_isSent 21 = .ok (.invokevirtual 83, 3) := by decide +kernel
theorem dL_isSent_24 : decode cL_isSent 24 = .ok (.aload_n 0, 1) := by decide +kernel
theorem dL_isSent_25 : decode cL_isSent 25 = .ok (.iload_n 1, 1) := by decide +kernel
theorem dL_isSent_26 : decode cL_isSent 26 = .ok (.iconst 1, 1) := by decide +kernel
theorem dL_isSent_27 : decode cL_isSent 27 = .ok (.invokevirtual 83, 3) := by decide +kernel
theorem dL_isSent_30 : decode cL_isSent 30 = .ok (.invokevirtual 77, 3) := by decide +kernel
theorem dL_isSent_33 : decode cL_isSent 33 = .ok (.istore_n 3, 1) := by decide +kernel
theorem dL_isSent_34 : decode cL_isSent 34 = .ok (.aload_n 0, 1) := by decide +kernel
theorem dL_isSent_35 : decode cL_isSent 35 = .ok (.iload_n 2, 1) := by decide +kernel
theorem dL_isSent_36 : decode cL_isSent 36 = .ok (.iconst 1, 1) := by decide +kernel
theorem dL_isSent_37 : decode cL_isSent 37 = .ok (.invokevirtual 37, 3) := by decide +kernel
theorem dL_isSent_40 : decode cL_isSent 40 = .ok (.istore 4, 2) := by decide +kernel
theorem dL_isSent_42 : decode cL_isSent 42 = .ok (.aload_n 0, 1) := by decide +kernel
theorem dL_isSent_43 : decode cL_isSent 43 = .ok (.iload_n 1, 1) := by decide +kernel
theorem dL_isSent_44 : decode cL_isSent 44 = .ok (.iconst 3, 1) := by decide +kernel
theorem dL_isSent_45 : decode cL_isSent 45 = .ok (.invokevirtual 83, 3) := by decide +kernel
theorem dL_isSent_48 : decode cL_isSent 48 = .ok (.istore 5, 2) := by decide +kernel
theorem dL_isSent_50 : decode cL_isSent 50 = .ok (.aload_n 0, 1) := by decide +kernel
theorem dL_isSent_51 : decode cL_isSent 51 = .ok (.iconst 5, 1) := by decide +kernel
theorem dL_isSent_52 : decode cL_isSent 52 = .ok (.invokevirtual 18, 3) := by decide +kernel
theorem dL_isSent_55 : decode cL_isSent 55 = .ok (.istore 6, 2) := by decide +kernel
theorem dL_isSent_57 : decode cL_isSent 57 = .ok (.aload_n 0, 1) := by decide +kernel
theorem dL_isSent_58 : decode cL_isSent 58 = .ok (.iload_n 1, 1) := by decide +kernel
theorem dL_isSent_59 : decode cL_isSent 59 = .ok (.iload_n 2, 1) := by decide +kernel
theorem dL_isSent_60 : decode cL_isSent 60 = .ok (.iconst 1, 1) := by decide +kernel
theorem dL_isSent_61 : decode cL_isSent 61 = .ok (.invokevirtual 86, 3) := by decide +kernel
theorem dL_isSent_64 : decode cL_isSent 64 = .ok (.istore 7, 2) := by decide +kernel
theorem dL_isSent_66 : decode cL_isSent 66 = .ok (.aload_n 0, 1) := by decide +kernel
theorem dL_isSent_67 : decode cL_isSent 67 = .ok (.iload 4, 2) := by decide +kernel
theorem dL_isSent_69 : decode cL_isSent 69 = .ok (.iload 7, 2) := by decide +kernel
theorem dL_isSent_71 : decode cL_isSent 71 = .ok (.invokevirtual 77, 3) := by decide +kernel
theorem dL_isSent_74 : decode cL_isSent 74 = .ok (.aload_n 0, 1) := by decide +kernel
theorem dL_isSent_75 : decode cL_isSent 75 = .ok (.iload_n 2, 1) := by decide +kernel
theorem dL_isSent_76 : decode cL_isSent 76 = .ok (.iload_n 3, 1) := by decide +kernel
theorem dL_isSent_77 : decode cL_isSent 77 = .ok (.invokevirtual 89, 3) := by decide +kernel
theorem dL_isSent_80 : decode cL_isSent 80 = .ok (.if_icmp .ne 69, 3) := by decide +kernel
theorem dL_isSent_83 : decode cL_isSent 83 = .ok (.aload_n 0, 1) := by decide +kernel
theorem dL_isSent_84 : decode cL_isSent 84 = .ok (.iload_n 1, 1) := by decide +kernel
theorem dL_isSent_85 : decode cL_isSent 85 = .ok (.iconst 0, 1) := by decide +kernel
theorem dL_isSent_86 : decode cL_isSent 86 = .ok (.invokevirtual 83, 3) := by decide +kernel
theorem dL_isSent_89 : decode cL_isSent 89 = .ok (.iload 4, 2) := by decide +kernel
theorem dL_isSent_91 : decode cL_isSent 91 = .ok (.if_icmp .ne 58, 3) := by decide +kernel
theorem dL_isSent_94 : decode cL_isSent 94 = .ok (.aload_n 0, 1) := by decide +kernel
theorem dL_isSent_95 : decode cL_isSent 95 = .ok (.iload_n 1, 1) := by decide +kernel
theorem dL_isSent_96 : decode cL_isSent 96 = .ok (.iconst 1, 1) := by decide +kernel
theorem dL_isSent_97 : decode cL_isSent 97 = .ok (.invokevirtual 83, 3) := by decide +kernel
theorem dL_isSent_100 : decode cL_isSent 100 = .ok (.iload 7, 2) := by decide +kernel
theorem dL_isSent_102 : decode cL_isSent 102 = .ok (.if_icmp .ne 47, 3) := by decide +kernel
theorem dL_isSent_105 : decode cL_isSent 105 = .ok (.aload_n 0, 1) := by decide +kernel
theorem dL_isSent_106 : decode cL_isSent 106 = .ok (.iload_n 1, 1) := by decide +kernel
theorem dL_isSent_107 : decode cL_isSent 107 = .ok (.iconst 3, 1) := by decide +kernel
theorem dL_isSent_108 : decode cL_isSent 108 = .ok (.invokevirtual 83, 3) := by decide +kernel
theorem dL_isSent_111 : decode cL_isSent 111 = .ok (.iload 5, 2) := by decide +kernel
theorem dL_isSent_113 : decode cL_isSent 113 = .ok (.iconst 1, 1) := by decide +kernel
theorem dL_isSent_114 : decode cL_isSent 114 = .ok (.iadd, 1) := by decide +kernel
theorem dL_isSent_115 : decode cL_isSent 115 = .ok (.if_icmp .ne 34, 3) := by decide +kernel
theorem dL_isSent_118 : decode cL_isSent 118 = .ok (.aload_n 0, 1) := by decide +kernel
theorem dL_isSent_119 : decode cL_isSent 119 = .ok (.iconst 5, 1) := by decide +kernel
theorem dL_isSent_120 : decode cL_isSent 120 = .ok (.invokevirtual 18, 3) := by decide +kernel
theorem dL_isSent_123 : decode cL_isSent 123 = .ok (.iload 6, 2) := by decide +kernel
theorem dL_isSent_125 : decode cL_isSent 125 = .ok (.iconst 1, 1) := by decide +kernel
theorem dL_isSent_126 : decode cL_isSent 126 = .ok (.iadd, 1) := by decide +kernel
theorem dL_isSent_127 : decode cL_isSent 127 = .ok (.if_icmp .ne 22, 3) := by decide +kernel
theorem dL_isSent_130 : decode cL_isSent 130 = .ok (.aload_n 0, 1) := by decide +kernel
theorem dL_isSent_131 : decode cL_isSent 131 = .ok (.iload_n 1, 1) := by decide +kernel
theorem dL_isSent_132 : decode cL_isSent 132 = .ok (.iconst 4, 1) := by decide +kernel
theorem dL_isSent_133 : decode cL_isSent 133 = .ok (.invokevirtual 83, 3) := by decide +kernel
theorem dL_isSent_136 : decode cL_isSent 136 = .ok (.aload_n 0, 1) := by decide +kernel
theorem dL_isSent_137 : decode cL_isSent 137 = .ok (.iload_n 1, 1) := by decide +kernel
theorem dL_isSent_138 : decode cL_isSent 138 = .ok (.iconst 3, 1) := by decide +kernel
theorem dL_isSent_139 : decode cL_isSent 139 = .ok (.invokevirtual 83, 3) := by decide +kernel
theorem dL_isSent_142 : decode cL_isSent 142 = .ok (.if_icmp .gt 7, 3) := by decide +kernel
theorem dL_isSent_145 : decode cL_isSent 145 = .ok (.iconst 1, 1) := by decide +kernel
theorem dL_isSent_146 : decode cL_isSent 146 = .ok (.goto 4, 3) := by decide +kernel
theorem dL_isSent_149 : decode cL_isSent 149 = .ok (.iconst 0, 1) := by decide +kernel
theorem dL_isSent_150 : decode cL_isSent 150 = .ok (.ireturn, 1) := by decide +kernel
theorem dL_isMap_0 : decode cL_isMap 0 = .ok (.aload_n 0, 1) := by decide +kernel
theorem dL_isMap_1 : decode cL_isMap 1 = .ok (.iload_n 1, 1) := by decide +kernel
theorem dL_isMap_2 : decode cL_isMap 2 = .ok (.iconst 0, 1) := by decide +kernel
theorem dL_isMap_3 : decode cL_isMap 3 = .ok (.invokevirtual 37, 3) := by decide +kernel
theorem dL_isMap_6 : decode cL_isMap 6 = .ok (.istore_n 3, 1) := by decide +kernel
theorem dL_isMap_7 : decode cL_isMap 7 = .ok (.aload_n 0, 1) := by decide +kernel
theorem dL_isMap_8 : decode cL_isMap 8 = .ok (.iload_n 1, 1) := by decide +kernel
theorem dL_isMap_9 : decode cL_isMap 9 = .ok (.iconst 1, 1) := by decide +kernel
theorem dL_isMap_10 : decode cL_isMap 10 = .ok (.invokevirtual 37, 3) := by decide +kernel
theorem dL_isMap_13 : decode cL_isMap 13 = .ok (.istore 4, 2) := by decide +kernel
theorem dL_isMap_15 : decode cL_isMap 15 = .ok (.aload_n 0, 1) := by decide +kernel
theorem dL_isMap_16 : decode cL_isMap 16 = .ok (.iload_n 3, 1) := by decide +kernel
theorem dL_isMap_17 : decode cL_isMap 17 = .ok (.invokevirtual 43, 3) := by decide +kernel
theorem dL_isMap_20 : decode cL_isMap 20 = .ok (.istore 5, 2) := by decide +kernel
theorem dL_isMap_22 : decode cL_isMap 22 = .ok (.iload_n 2, 1) := by decide +kernel
theorem dL_isMap_23 : decode cL_isMap 23 = .ok (.iload 5, 2) := by decide +kernel
theorem dL_isMap_25 : decode cL_isMap 25 = .ok (.invokestatic 28, 3) := by decide +kernel
theorem dL_isMap_28 : decode cL_isMap 28 = .ok (.istore 6, 2) := by decide +kernel
theorem dL_isMap_30 : decode cL_isMap 30 = .ok (.aload_n 0, 1) := by decide +kernel
theorem dL_isMap_31 : decode cL_isMap 31 = .ok (.iload_n 1, 1) := by decide +kernel
theorem dL_isMap_32 : decode cL_isMap 32 = .ok (.iload 6, 2) := by decide +kernel
theorem dL_isMap_34 : decode cL_isMap 34 = .ok (.invokevirtual 89, 3) := by decide +kernel
theorem dL_isMap_37 : decode cL_isMap 37 = .ok (.istore 7, 2) := by decide +kernel
theorem dL_isMap_39 : decode cL_isMap 39 = .ok (.aload_n 0, 1) := by decide +kernel
theorem dL_isMap_40 : decode cL_isMap 40 = .ok (.iload_n 1, 1) := by decide +kernel
theorem dL_isMap_41 : decode cL_isMap 41 = .ok (.iconst 3, 1) := by decide +kernel
theorem dL_isMap_42 : decode cL_isMap 42 = .ok (.invokevirtual 37, 3) := by decide +kernel
theorem dL_isMap_45 : decode cL_isMap 45 = .ok (.aload_n 0, 1) := by decide +kernel
theorem dL_isMap_46 : decode cL_isMap 46 = .ok (.iload_n 1, 1) := by decide +kernel
theorem dL_isMap_47 : decode cL_isMap 47 = .ok (.iconst 4, 1) := by decide +kernel
theorem dL_isMap_48 : decode cL_isMap 48 = .ok (.invokevirtual 37, 3) := by decide +kernel
theorem dL_isMap_51 : decode cL_isMap 51 = .ok (.iadd, 1) := by decide +kernel
theorem dL_isMap_52 : decode cL_isMap 52 = .ok (.iconst 2, 1) := by decide +kernel
theorem dL_isMap_53 : decode cL_isMap 53 = .ok (.if_icmp .ne 7, 3) := by decide +kernel
theorem dL_isMap_56 : decode cL_isMap 56 = .ok (.iconst 1, 1) := by decide +kernel
theorem dL_isMap_57 : decode cL_isMap 57 = .ok (.goto 4, 3) := by decide +kernel
theorem dL_isMap_60 : decode cL_isMap 60 = .ok (.iconst 0, 1) := by decide +kernel
theorem dL_isMap_61 : decode cL_isMap 61 = .ok (.istore 8, 2) := by decide +kernel
theorem dL_isMap_63 : decode cL_isMap 63 = .ok (.aload_n 0, 1) := by decide +kernel
theorem dL_isMap_64 : decode cL_isMap 64 = .ok (.iload_n 1, 1) := by decide +kernel
theorem dL_isMap_65 : decode cL_isMap 65 = .ok (.iload 7, 2) := by decide +kernel
theorem dL_isMap_67 : decode cL_isMap 67 = .ok (.invokevirtual 92, 3) := by decide +kernel
theorem dL_isMap_70 : decode cL_isMap 70 = .ok (.istore 9, 2) := by decide +kernel
theorem dL_isMap_72 : decode cL_isMap 72 = .ok (.iload 9, 2) := by decide +kernel
theorem dL_isMap_74 : decode cL_isMap 74 = .ok (.iload 6, 2) := by decide +kernel
theorem dL_isMap_76 : decode cL_isMap 76 = .ok (.if_icmp .gt 63, 3) := by decide +kernel
theorem dL_isMap_79 : decode cL_isMap 79 = .ok (.iload 9, 2) := by decide +kernel
theorem dL_isMap_81 : decode cL_isMap 81 = .ok (.ifCond .lt 58, 3) := by decide +kernel
theorem dL_isMap_84 : decode cL_isMap 84 = .ok (.aload_n 0, 1) := by decide +kernel
theorem dL_isMap_85 : decode cL_isMap 85 = .ok (.iload_n 1, 1) := by decide +kernel
theorem dL_isMap_86 : decode cL_isMap 86 = .ok (.iload 9, 2) := by decide +kernel
theorem dL_isMap_88 : decode cL_isMap 88 = .ok (.invokevirtual 89, 3) := by decide +kernel
theorem dL_isMap_91 : decode cL_isMap 91 = .ok (.iload 7, 2) := by decide +kernel
theorem dL_isMap_93 : decode cL_isMap 93 = .ok (.if_icmp .ne 46, 3) := by decide +kernel
theorem dL_isMap_96 : decode cL_isMap 96 = .ok (.iload 8, 2) := by decide +kernel
theorem dL_isMap_98 : decode cL_isMap 98 = .ok (.ifCond .eq 21, 3) := by decide +kernel
theorem dL_isMap_101 : decode cL_isMap 101 = .ok (.iload 9, 2) := by decide +kernel
theorem dL_isMap_103 : decode cL_isMap 103 = .ok (.iload 6, 2) := by decide +kernel
theorem dL_isMap_105 : decode cL_isMap 105 = .ok (.if_icmp .ne 34, 3) := by decide +kernel
theorem dL_isMap_108 : decode cL_isMap 108 = .ok (.iload 5, 2) := by decide +kernel
theorem dL_isMap_110 : decode cL_isMap 110 = .ok (.aload_n 0, 1) := by decide +kernel
theorem dL_isMap_111 : decode cL_isMap 111 = .ok (.iload 4, 2) := by decide +kernel
theorem dL_isMap_113 : decode cL_isMap 113 = .ok (.invokevirtual 43, 3) := by decide +kernel
theorem dL_isMap_116 : decode cL_isMap 116 = .ok (.if_icmp .ne 23, 3) := by decide +kernel
theorem dL_isMap_119 : decode cL_isMap 119 = .ok (.aload_n 0, 1) := by decide +kernel
theorem dL_isMap_120 : decode cL_isMap 120 = .ok (.iload_n 1, 1) := by decide +kernel
theorem dL_isMap_121 : decode cL_isMap 121 = .ok (.iconst 5, 1) := by decide +kernel
theorem dL_isMap_122 : decode cL_isMap 122 = .ok (.invokevirtual 37, 3) := by decide +kernel
theorem dL_isMap_125 : decode cL_isMap 125 = .ok (.iload 5, 2) := by decide +kernel
theorem dL_isMap_127 : decode cL_isMap 127 = .ok (.aload_n 0, 1) := by decide +kernel
theorem dL_isMap_128 : decode cL_isMap 128 = .ok (.iload 4, 2) := by decide +kernel
theorem dL_isMap_130 : decode cL_isMap 130 = .ok (.invokevirtual 43, 3) := by decide +kernel
theorem dL_isMap_133 : decode cL_isMap 133 = .ok (.invokestatic 95, 3) := by decide +kernel
theorem dL_isMap_136 : decode cL_isMap 136 = .ok (.if_icmp .le 5, 3) := by decide +kernel
theorem dL_isMap_139 : decode cL_isMap 139 = .ok (.iconst 0, 1) := by decide +kernel
theorem dL_isMap_140 : decode cL_isMap 140 = .ok (.ireturn, 1) := by decide +kernel
theorem dL_isMap_141 : decode cL_isMap 141 = .ok (.iconst 0, 1) := by decide +kernel
theorem dL_isMap_142 : decode cL_isMap 142 = .ok (.istore 10, 2) := by decide +kernel
theorem dL_isMap_144 : decode cL_isMap 144 = .ok (.iload 10, 2) := by decide +kernel
theorem dL_isMap_146 : decode cL_isMap 146 = .ok (.iconst 2, 1) := by decide +kernel
theorem dL_isMap_147 : decode cL_isMap 147 = .ok (.if_icmp .ge 117, 3) := by decide +kernel
theorem dL_isMap_150 : decode cL_isMap 150 = .ok (.iconst 0, 1) := by decide +kernel
theorem dL_isMap_151 : decode cL_isMap 151 = .ok (.istore 11, 2) := by decide +kernel
theorem dL_isMap_153 : decode cL_isMap 153 = .ok (.iload 11, 2) := by decide +kernel
theorem dL_isMap_155 : decode cL_isMap 155 = .ok (.iconst 4, 1) := by decide +kernel
theorem dL_isMap_156 : decode cL_isMap 156 = .ok (.if_icmp .ge 102, 3) := by decide +kernel
theorem dL_isMap_159 : decode cL_isMap 159 = .ok (.aload_n 0, 1) := by decide +kernel
theorem dL_isMap_160 : decode cL_isMap 160 = .ok (.iload_n 1, 1) := by decide +kernel
theorem dL_isMap_161 : decode cL_isMap 161 = .ok (.iload 10, 2) := by decide +kernel
theorem dL_isMap_163 : decode cL_isMap 163 = .ok (.iload 11, 2) := by decide +kernel
theorem dL_isMap_165 : decode cL_isMap 165 = .ok (.invokevirtual 60, 3) := by decide +kernel
theorem dL_isMap_168 : decode cL_isMap 168 = .ok (.istore 12, 2) := by decide +kernel
theorem dL_isMap_170 : decode cL_isMap 170 = .ok (.iload 12, 2) := by decide +kernel
theorem dL_isMap_172 : decode cL_isMap 172 = .ok (.ifCond .ge 46, 3) := by decide +kernel
theorem dL_isMap_175 : decode cL_isMap 175 = .ok (.iload 8, 2) := by decide +kernel
theorem dL_isMap_177 : decode cL_isMap 177 = .ok (.ifCond .eq 17, 3) := by decide +kernel
theorem dL_isMap_180 : decode cL_isMap 180 = .ok (.aload_n 0, 1) := by decide +kernel
theorem dL_isMap_181 : decode cL_isMap 181 = .ok (.iload_n 3, 1) := by decide +kernel
theorem dL_isMap_182 : decode cL_isMap 182 = .ok (.iload 10, 2) := by decide +kernel
theorem dL_isMap_184 : decode cL_isMap 184 = .ok (.iload 4, 2) := by decide +kernel
theorem dL_isMap_186 : decode cL_isMap 186 = .ok (.iload 11, 2) := by decide +kernel
theorem dL_isMap_188 : decode cL_isMap 188 = .ok (.invokevirtual 98, 3) := by decide +kernel
theorem dL_isMap_191 : decode cL_isMap 191 = .ok (.ifCond .eq 25, 3) := by decide +kernel
theorem dL_isMap_194 : decode cL_isMap 194 = .ok (.aload_n 0, 1) := by decide +kernel
theorem dL_isMap_195 : decode cL_isMap 195 = .ok (.iload_n 3, 1) := by decide +kernel
theorem dL_isMap_196 : decode cL_isMap 196 = .ok (.iload 10, 2) := by decide +kernel
theorem dL_isMap_198 : decode cL_isMap 198 = .ok (.iload 6, 2) := by decide +kernel
theorem dL_isMap_200 : decode cL_isMap 200 = .ok (.invokevirtual 102, 3) := by decide +kernel
theorem dL_isMap_203 : decode cL_isMap 203 = .ok (.aload_n 0, 1) := by decide +kernel
theorem dL_isMap_204 : decode cL_isMap 204 = .ok (.iload 4, 2) := by decide +kernel
theorem dL_isMap_206 : decode cL_isMap 206 = .ok (.iload 11, 2) := by decide +kernel
theorem dL_isMap_208 : decode cL_isMap 208 = .ok (.iload 7, 2) := by decide +kernel
theorem dL_isMap_210 : decode cL_isMap 210 = .ok (.invokevirtual 102, 3) := by decide +kernel
theorem dL_isMap_213 : decode cL_isMap 213 = .ok (.if_icmp .eq 5, 3) := by decide +kernel
theorem dL_isMap_216 : decode cL_isMap 216 = .ok (.iconst 0, 1) := by decide +kernel
theorem dL_isMap_217 : decode cL_isMap 217 = .ok (.ireturn, 1) := by decide +kernel
theorem dL_isMap_218 : decode cL_isMap 218 = .ok (.iload 12, 2) := by decide +kernel
theorem dL_isMap_220 : decode cL_isMap 220 = .ok (.ifCond .lt 32, 3) := by decide +kernel
theorem dL_isMap_223 : decode cL_isMap 223 = .ok (.aload_n 0, 1) := by decide +kernel
theorem dL_isMap_224 : decode cL_isMap 224 = .ok (.iload_n 3, 1) := by decide +kernel
theorem dL_isMap_225 : decode cL_isMap 225 = .ok (.iload 10, 2) := by decide +kernel
theorem dL_isMap_227 : decode cL_isMap 227 = .ok (.iload 12, 2) := by decide +kernel
theorem dL_isMap_229 : decode cL_isMap 229 = .ok (.invokevirtual 102, 3) := by decide +kernel
theorem dL_isMap_232 : decode cL_isMap 232 = .ok (.aload_n 0, 1) := by decide +kernel
theorem dL_isMap_233 : decode cL_isMap 233 = .ok (.iload 4, 2) := by decide +kernel
theorem dL_isMap_235 : decode cL_isMap 235 = .ok (.iload 11, 2) := by decide +kernel
theorem dL_isMap_237 : decode cL_isMap 237 = .ok (.aload_n 0, 1) := by decide +kernel
theorem dL_isMap_238 : decode cL_isMap 238 = .ok (.iload_n 1, 1) := by decide +kernel
theorem dL_isMap_239 : decode cL_isMap 239 = .ok (.iload 12, 2) := by decide +kernel
theorem dL_isMap_241 : decode cL_isMap 241 = .ok (.invokevirtual 89, 3) := by decide +kernel
theorem dL_isMap_244 : decode cL_isMap 244 = .ok (.invokevirtual 102, 3) := by decide +kernel
theorem dL_isMap_247 : decode cL_isMap 247 = .ok (.if_icmp .ne 5, 3) := by decide +kernel
theorem dL_isMap_250 : decode cL_isMap 250 = .ok (.iconst 0, 1) := by decide +kernel
theorem dL_isMap_251 : decode cL_isMap 251 = .ok (.ireturn, 1) := by decide +kernel
theorem dL_isMap_252 : decode cL_isMap 252 = .ok (.iinc 11 1, 3) := by decide +kernel
theorem dL_isMap_255 : decode cL_isMap 255 = .ok (.goto (-102), 3) := by decide +kernel
theorem dL_isMap_258 : decode cL_isMap 258 = .ok (.iinc 10 1, 3) := by decide +kernel
theorem dL_isMap_261 : decode cL_isMap 261 = .ok (.goto (-117), 3) := by decide +kernel
theorem dL_isMap_264 : decode cL_isMap 264 = .ok (.aload_n 0, 1) := by decide +kernel
theorem dL_isMap_265 : decode cL_isMap 265 = .ok (.iload_n 1, 1) := by decide +kernel
theorem dL_isMap_266 : decode cL_isMap 266 = .ok (.invokevirtual 105, 3) := by decide +kernel
theorem dL_isMap_269 : decode cL_isMap 269 = .ok (.lstore 10, 2) := by decide +kernel
theorem dL_isMap_271 : decode cL_isMap 271 = .ok (.iload_n 3, 1) := by decide +kernel
theorem dL_isMap_272 : decode cL_isMap 272 = .ok (.iload 4, 2) := by decide +kernel
theorem dL_isMap_274 : decode cL_isMap 274 = .ok (.if_icmp .ne 8, 3) := by decide +kernel
theorem dL_isMap_277 : decode cL_isMap 277 = .ok (.iload 8, 2) := by decide +kernel
theorem dL_isMap_279 : decode cL_isMap 279 = .ok (.ifCond .ne 36, 3) := by decide +kernel
theorem dL_isMap_282 : decode cL_isMap 282 = .ok (.lload 10, 2) := by decide +kernel
theorem dL_isMap_284 : decode cL_isMap 284 = .ok (.ldc2_w 109, 3) := by decide +kernel
theorem dL_isMap_287 : decode cL_isMap 287 = .ok (.lcmp, 1) := by decide +kernel
theorem dL_isMap_288 : decode cL_isMap 288 = .ok (.ifCond .ne 25, 3) := by decide +kernel
theorem dL_isMap_291 : decode cL_isMap 291 = .ok (.aload_n 0, 1) := by decide +kernel
theorem dL_isMap_292 : decode cL_isMap 292 = .ok (.iload_n 1, 1) := by decide +kernel
theorem dL_isMap_293 : decode cL_isMap 293 = .ok (.invokevirtual 111, 3) := by decide +kernel
theorem dL_isMap_296 : decode cL_isMap 296 = .ok (.iconst (-1), 1) := by decide +kernel
theorem dL_isMap_297 : decode cL_isMap 297 = .ok (.if_icmp .ne 16, 3) := by decide +kernel
theorem dL_isMap_300 : decode cL_isMap 300 = .ok (.aload_n 0, 1) := by decide +kernel
theorem dL_isMap_301 : decode cL_isMap 301 = .ok (.iload_n 1, 1) := by decide +kernel
theorem dL_isMap_302 : decode cL_isMap 302 = .ok (.iconst 0, 1) := by decide +kernel
theorem dL_isMap_303 : decode cL_isMap 303 = .ok (.invokevirtual 114, 3) := by decide +kernel
theorem dL_isMap_306 : decode cL_isMap 306 = .ok (.ifCond .ne 7, 3) := by decide +kernel
theorem dL_isMap_309 : decode cL_isMap 309 = .ok (.iconst 1, 1) := by decide +kernel
theorem dL_isMap_310 : decode cL_isMap 310 = .ok (.goto 4, 3) := by decide +kernel
theorem dL_isMap_313 : decode cL_isMap 313 = .ok (.iconst 0, 1) := by decide +kernel
theorem dL_isMap_314 : decode cL_isMap 314 = .ok (.ireturn, 1) := by decide +kernel
theorem dL_isMap_315 : decode cL_isMap 315 = .ok (.iconst 0, 1) := by decide +kernel
theorem dL_isMap_316 : decode cL_isMap 316 = .ok (.istore 12, 2) := by decide +kernel
theorem dL_isMap_318 : decode cL_isMap 318 = .ok (.iload 6, 2) := by decide +kernel
theorem dL_isMap_320 : decode cL_isMap 320 = .ok (.istore 13, 2) := by decide +kernel
theorem dL_isMap_322 : decode cL_isMap 322 = .ok (.aload_n 0, 1) := by decide +kernel
theorem dL_isMap_323 : decode cL_isMap 323 = .ok (.iload_n 1, 1) := by decide +kernel
theorem dL_isMap_324 : decode cL_isMap 324 = .ok (.iload 13, 2) := by decide +kernel
theorem dL_isMap_326 : decode cL_isMap 326 = .ok (.invokevirtual 89, 3) := by decide +kernel
theorem dL_isMap_329 : decode cL_isMap 329 = .ok (.istore 13, 2) := by decide +kernel
theorem dL_isMap_331 : decode cL_isMap 331 = .ok (.iinc 12 1, 3) := by decide +kernel
theorem dL_isMap_334 : decode cL_isMap 334 = .ok (.iload 13, 2) := by decide +kernel
theorem dL_isMap_336 : decode cL_isMap 336 = .ok (.iload 6, 2) := by decide +kernel
theorem dL_isMap_338 : decode cL_isMap 338 = .ok (.if_icmp .ne (-16), 3) := by decide +kernel
theorem dL_isMap_341 : decode cL_isMap 341 = .ok (.lload 10, 2) := by decide +kernel
theorem dL_isMap_343 : decode cL_isMap 343 = .ok (.iload 12, 2) := by decide +kernel
theorem dL_isMap_345 : decode cL_isMap 345 = .ok (.i2l, 1) := by decide +kernel
theorem dL_isMap_346 : decode cL_isMap 346 = .ok (.lrem, 1) := by decide +kernel
theorem dL_isMap_347 : decode cL_isMap 347 = .ok (.lconst 0, 1) := by decide +kernel
theorem dL_isMap_348 : decode cL_isMap 348 = .ok (.lcmp, 1) := by decide +kernel
theorem dL_isMap_349 : decode cL_isMap 349 = .ok (.ifCond .ne 72, 3) := by decide +kernel
theorem dL_isMap_352 : decode cL_isMap 352 = .ok (.lload 10, 2) := by decide +kernel
theorem dL_isMap_354 : decode cL_isMap 354 = .ok (.lconst 1, 1) := by decide +kernel
theorem dL_isMap_355 : decode cL_isMap 355 = .ok (.lcmp, 1) := by decide +kernel
theorem dL_isMap_356 : decode cL_isMap 356 = .ok (.ifCond .ne 7, 3) := by decide +kernel
theorem dL_isMap_359 : decode cL_isMap 359 = .ok (.iconst 1, 1) := by decide +kernel
theorem dL_isMap_360 : decode cL_isMap 360 = .ok (.goto 4, 3) := by decide +kernel
theorem dL_isMap_363 : decode cL_isMap 363 = .ok (.iconst 0, 1) := by decide +kernel
theorem dL_isMap_364 : decode cL_isMap 364 = .ok (.aload_n 0, 1) := by decide +kernel
theorem dL_isMap_365 : decode cL_isMap 365 = .ok (.iload_n 1, 1) := by decide +kernel
theorem dL_isMap_366 : decode cL_isMap 366 = .ok (.bipush 6, 2) := by decide +kernel
theorem dL_isMap_368 : decode cL_isMap 368 = .ok (.invokevirtual 37, 3) := by decide +kernel
theorem dL_isMap_371 : decode cL_isMap 371 = .ok (.iload 5, 2) := by decide +kernel
theorem dL_isMap_373 : decode cL_isMap 373 = .ok (.if_icmp .ne 7, 3) := by decide +kernel
theorem dL_isMap_376 : decode cL_isMap 376 = .ok (.iconst 1, 1) := by decide +kernel
theorem dL_isMap_377 : decode cL_isMap 377 = .ok (.goto 4, 3) := by decide +kernel
theorem dL_isMap_380 : decode cL_isMap 380 = .ok (.iconst 0, 1) := by decide +kernel
theorem dL_isMap_381 : decode cL_isMap 381 = .ok (.if_icmp .ne 40, 3) := by decide +kernel
theorem dL_isMap_384 : decode cL_isMap 384 = .ok (.aload_n 0, 1) := by decide +kernel
theorem dL_isMap_385 : decode cL_isMap 385 = .ok (.iload_n 1, 1) := by decide +kernel
theorem dL_isMap_386 : decode cL_isMap 386 = .ok (.invokevirtual 111, 3) := by decide +kernel
theorem dL_isMap_389 : decode cL_isMap 389 = .ok (.aload_n 0, 1) := by decide +kernel
theorem dL_isMap_390 : decode cL_isMap 390 = .ok (.iload_n 1, 1) := by decide +kernel
theorem dL_isMap_391 : decode cL_isMap 391 = .ok (.bipush 6, 2) := by decide +kernel
theorem dL_isMap_393 : decode cL_isMap 393 = .ok (.invokevirtual 37, 3) := by decide +kernel
theorem dL_isMap_396 : decode cL_isMap 396 = .ok (.if_icmp .lt 25, 3) := by decide +kernel
theorem dL_isMap_399 : decode cL_isMap 399 = .ok (.aload_n 0, 1) := by decide +kernel
theorem dL_isMap_400 : decode cL_isMap 400 = .ok (.iload_n 1, 1) := by decide +kernel
theorem dL_isMap_401 : decode cL_isMap 401 = .ok (.iconst 1, 1) := by decide +kernel
theorem dL_isMap_402 : decode cL_isMap 402 = .ok (.invokevirtual 114, 3) := by decide +kernel
theorem dL_isMap_405 : decode cL_isMap 405 = .ok (.ifCond .eq 12, 3) := by decide +kernel
theorem dL_isMap_408 : decode cL_isMap 408 = .ok (.lload 10, 2) := by decide +kernel
theorem dL_isMap_410 : decode cL_isMap 410 = .ok (.ldc2_w 118, 3) := by decide +kernel
theorem dL_isMap_413 : decode cL_isMap 413 = .ok (.lcmp, 1) := by decide +kernel
theorem dL_isMap_414 : decode cL_isMap 414 = .ok (.ifCond .gt 7, 3) := by decide +kernel
theorem dL_isMap_417 : decode cL_isMap 417 = .ok (.iconst 1, 1) := by decide +kernel
theorem dL_isMap_418 : decode cL_isMap 418 = .ok (.goto 4, 3) := by decide +kernel
theorem dL_isMap_421 : decode cL_isMap 421 = .ok (.iconst 0, 1) := by decide +kernel
theorem dL_isMap_422 : decode cL_isMap 422 = .ok (.ireturn, 1) := by decide +kernel

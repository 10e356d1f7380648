theorem dX5_under_0 : decode cX5_under 0 = .ok (.aload_n 0, 1) := by decide +kernel
theorem dX5_under_1 : decode cX5_under 1 = .ok (.dup, 1) := by decide +kernel
theorem dX5_under_2 : decode cX5_under 2 = .ok (.getfield 71, 3) := by decide +kernel
theorem dX5_under_5 : decode cX5_under 5 = .ok (.iconst 1, 1) := by decide +kernel
theorem dX5_under_6 : decode cX5_under 6 = .ok (.iadd, 1) := by decide +kernel
theorem dX5_under_7 : decode cX5_under 7 = .ok (.putfield 71, 3) := by decide +kernel
theorem dX5_under_10 : decode cX5_under 10 = .ok (.aload_n 0, 1) := by decide +kernel
theorem dX5_under_11 : decode cX5_under 11 = .ok (.getfield 71, 3) := by decide +kernel
theorem dX5_under_14 : decode cX5_under 14 = .ok (.sipush 1500, 3) := by decide +kernel
theorem dX5_under_17 : decode cX5_under 17 = .ok (.if_icmp .gt 9, 3) := by decide +kernel
theorem dX5_under_26 : decode cX5_under 26 = .ok (.bipush (-6), 2) := by decide +kernel
theorem dX5_under_28 : decode cX5_under 28 = .ok (.ireturn, 1) := by decide +kernel
theorem dX5_under_20 : decode cX5_under 20 = .ok (.iload_n 3, 1) := by decide +kernel
theorem dX5_under_21 : decode cX5_under 21 = .ok (.bipush 60, 2) := by decide +kernel
theorem dX5_under_23 : decode cX5_under 23 = .ok (.if_icmp .le 6, 3) := by decide +kernel
theorem dX5_under_29 : decode cX5_under 29 = .ok (.aload_n 0, 1) := by decide +kernel
theorem dX5_under_30 : decode cX5_under 30 = .ok (.getfield 12, 3) := by decide +kernel
theorem dX5_under_33 : decode cX5_under 33 = .ok (.iload_n 1, 1) := by decide +kernel
theorem dX5_under_34 : decode cX5_under 34 = .ok (.iload_n 2, 1) := by decide +kernel
theorem dX5_under_35 : decode cX5_under 35 = .ok (.invokevirtual 171, 3) := by decide +kernel
theorem dX5_under_38 : decode cX5_under 38 = .ok (.ifCond .eq 5, 3) := by decide +kernel
theorem dX5_under_41 : decode cX5_under 41 = .ok (.iconst 0, 1) := by decide +kernel
theorem dX5_under_42 : decode cX5_under 42 = .ok (.ireturn, 1) := by decide +kernel
theorem dX5_under_43 : decode cX5_under 43 = .ok (.iconst 0, 1) := by decide +kernel
theorem dX5_under_44 : decode cX5_under 44 = .ok (.istore 4, 2) := by decide +kernel
theorem dX5_under_46 : decode cX5_under 46 = .ok (.aload_n 0, 1) := by decide +kernel
theorem dX5_under_47 : decode cX5_under 47 = .ok (.iload_n 1, 1) := by decide +kernel
theorem dX5_under_48 : decode cX5_under 48 = .ok (.iload_n 2, 1) := by decide +kernel
theorem dX5_under_49 : decode cX5_under 49 = .ok (.invokevirtual 175, 3) := by decide +kernel
theorem dX5_under_52 : decode cX5_under 52 = .ok (.tableswitch 436 0 6 #[44, 46, 105, 192, 264, 336, 386], 44) := by decide +kernel
theorem dX5_under_96 : decode cX5_under 96 = .ok (.iconst 0, 1) := by decide +kernel
theorem dX5_under_97 : decode cX5_under 97 = .ok (.ireturn, 1) := by decide +kernel
theorem dX5_under_98 : decode cX5_under 98 = .ok (.aload_n 0, 1) := by decide +kernel
theorem dX5_under_99 : decode cX5_under 99 = .ok (.aload_n 0, 1) := by decide +kernel
theorem dX5_under_100 : decode cX5_under 100 = .ok (.getfield 12, 3) := by decide +kernel
theorem dX5_under_103 : decode cX5_under 103 = .ok (.iload_n 2, 1) := by decide +kernel
theorem dX5_under_104 : decode cX5_under 104 = .ok (.invokevirtual 178, 3) := by decide +kernel
theorem dX5_under_107 : decode cX5_under 107 = .ok (.aload_n 0, 1) := by decide +kernel
theorem dX5_under_108 : decode cX5_under 108 = .ok (.getfield 12, 3) := by decide +kernel
theorem dX5_under_111 : decode cX5_under 111 = .ok (.iload_n 1, 1) := by decide +kernel
theorem dX5_under_112 : decode cX5_under 112 = .ok (.invokevirtual 178, 3) := by decide +kernel
theorem dX5_under_115 : decode cX5_under 115 = .ok (.iload_n 3, 1) := by decide +kernel
theorem dX5_under_116 : decode cX5_under 116 = .ok (.iconst 1, 1) := by decide +kernel
theorem dX5_under_117 : decode cX5_under 117 = .ok (.iadd, 1) := by decide +kernel
theorem dX5_under_118 : decode cX5_under 118 = .ok (.invokevirtual 150, 3) := by decide +kernel
theorem dX5_under_121 : decode cX5_under 121 = .ok (.istore 4, 2) := by decide +kernel
theorem dX5_under_123 : decode cX5_under 123 = .ok (.iload 4, 2) := by decide +kernel
theorem dX5_under_125 : decode cX5_under 125 = .ok (.ifCond .ge 8, 3) := by decide +kernel
theorem dX5_under_133 : decode cX5_under 133 = .ok (.aload_n 0, 1) := by decide +kernel
theorem dX5_under_134 : decode cX5_under 134 = .ok (.aload_n 0, 1) := by decide +kernel
theorem dX5_under_135 : decode cX5_under 135 = .ok (.getfield 12, 3) := by decide +kernel
theorem dX5_under_138 : decode cX5_under 138 = .ok (.iload_n 1, 1) := by decide +kernel
theorem dX5_under_139 : decode cX5_under 139 = .ok (.invokevirtual 181, 3) := by decide +kernel
theorem dX5_under_142 : decode cX5_under 142 = .ok (.aload_n 0, 1) := by decide +kernel
theorem dX5_under_143 : decode cX5_under 143 = .ok (.getfield 12, 3) := by decide +kernel
theorem dX5_under_146 : decode cX5_under 146 = .ok (.iload_n 2, 1) := by decide +kernel
theorem dX5_under_147 : decode cX5_under 147 = .ok (.invokevirtual 181, 3) := by decide +kernel
theorem dX5_under_150 : decode cX5_under 150 = .ok (.iload_n 3, 1) := by decide +kernel
theorem dX5_under_151 : decode cX5_under 151 = .ok (.iconst 1, 1) := by decide +kernel
theorem dX5_under_152 : decode cX5_under 152 = .ok (.iadd, 1) := by decide +kernel
theorem dX5_under_153 : decode cX5_under 153 = .ok (.invokevirtual 150, 3) := by decide +kernel
theorem dX5_under_156 : decode cX5_under 156 = .ok (.ireturn, 1) := by decide +kernel
theorem dX5_under_128 : decode cX5_under 128 = .ok (.iload 4, 2) := by decide +kernel
theorem dX5_under_130 : decode cX5_under 130 = .ok (.goto 26, 3) := by decide +kernel
theorem dX5_under_157 : decode cX5_under 157 = .ok (.aload_n 0, 1) := by decide +kernel
theorem dX5_under_158 : decode cX5_under 158 = .ok (.getfield 12, 3) := by decide +kernel
theorem dX5_under_161 : decode cX5_under 161 = .ok (.iload_n 2, 1) := by decide +kernel
theorem dX5_under_162 : decode cX5_under 162 = .ok (.invokevirtual 184, 3) := by decide +kernel
theorem dX5_under_165 : decode cX5_under 165 = .ok (.istore 5, 2) := by decide +kernel
theorem dX5_under_167 : decode cX5_under 167 = .ok (.iconst 0, 1) := by decide +kernel
theorem dX5_under_168 : decode cX5_under 168 = .ok (.istore 6, 2) := by decide +kernel
theorem dX5_under_170 : decode cX5_under 170 = .ok (.iload 6, 2) := by decide +kernel
theorem dX5_under_172 : decode cX5_under 172 = .ok (.iload 5, 2) := by decide +kernel
theorem dX5_under_174 : decode cX5_under 174 = .ok (.if_icmp .ge 67, 3) := by decide +kernel
theorem dX5_under_241 : decode cX5_under 241 = .ok (.iload 4, 2) := by decide +kernel
theorem dX5_under_243 : decode cX5_under 243 = .ok (.ireturn, 1) := by decide +kernel
theorem dX5_under_177 : decode cX5_under 177 = .ok (.iload 4, 2) := by decide +kernel
theorem dX5_under_179 : decode cX5_under 179 = .ok (.ifCond .ne 62, 3) := by decide +kernel
theorem dX5_under_182 : decode cX5_under 182 = .ok (.aload_n 0, 1) := by decide +kernel
theorem dX5_under_183 : decode cX5_under 183 = .ok (.getfield 12, 3) := by decide +kernel
theorem dX5_under_186 : decode cX5_under 186 = .ok (.iload_n 1, 1) := by decide +kernel
theorem dX5_under_187 : decode cX5_under 187 = .ok (.aload_n 0, 1) := by decide +kernel
theorem dX5_under_188 : decode cX5_under 188 = .ok (.getfield 12, 3) := by decide +kernel
theorem dX5_under_191 : decode cX5_under 191 = .ok (.iload_n 2, 1) := by decide +kernel
theorem dX5_under_192 : decode cX5_under 192 = .ok (.iload 6, 2) := by decide +kernel
theorem dX5_under_194 : decode cX5_under 194 = .ok (.invokevirtual 187, 3) := by decide +kernel
theorem dX5_under_197 : decode cX5_under 197 = .ok (.invokevirtual 190, 3) := by decide +kernel
theorem dX5_under_200 : decode cX5_under 200 = .ok (.istore 7, 2) := by decide +kernel
theorem dX5_under_202 : decode cX5_under 202 = .ok (.iload 7, 2) := by decide +kernel
theorem dX5_under_204 : decode cX5_under 204 = .ok (.bipush (-9), 2) := by decide +kernel
theorem dX5_under_206 : decode cX5_under 206 = .ok (.if_icmp .ne 8, 3) := by decide +kernel
theorem dX5_under_214 : decode cX5_under 214 = .ok (.aload_n 0, 1) := by decide +kernel
theorem dX5_under_215 : decode cX5_under 215 = .ok (.iload 7, 2) := by decide +kernel
theorem dX5_under_217 : decode cX5_under 217 = .ok (.aload_n 0, 1) := by decide +kernel
theorem dX5_under_218 : decode cX5_under 218 = .ok (.getfield 12, 3) := by decide +kernel
theorem dX5_under_221 : decode cX5_under 221 = .ok (.iload_n 2, 1) := by decide +kernel
theorem dX5_under_222 : decode cX5_under 222 = .ok (.iload 6, 2) := by decide +kernel
theorem dX5_under_224 : decode cX5_under 224 = .ok (.invokevirtual 193, 3) := by decide +kernel
theorem dX5_under_227 : decode cX5_under 227 = .ok (.iload_n 3, 1) := by decide +kernel
theorem dX5_under_228 : decode cX5_under 228 = .ok (.iconst 1, 1) := by decide +kernel
theorem dX5_under_229 : decode cX5_under 229 = .ok (.iadd, 1) := by decide +kernel
theorem dX5_under_230 : decode cX5_under 230 = .ok (.invokevirtual 150, 3) := by decide +kernel
theorem dX5_under_233 : decode cX5_under 233 = .ok (.istore 4, 2) := by decide +kernel
theorem dX5_under_235 : decode cX5_under 235 = .ok (.iinc 6 1, 3) := by decide +kernel
theorem dX5_under_238 : decode cX5_under 238 = .ok (.goto (-68), 3) := by decide +kernel
theorem dX5_under_209 : decode cX5_under 209 = .ok (.bipush (-7), 2) := by decide +kernel
theorem dX5_under_211 : decode cX5_under 211 = .ok (.goto 22, 3) := by decide +kernel
theorem dX5_under_488 : decode cX5_under 488 = .ok (.bipush (-7), 2) := by decide +kernel
theorem dX5_under_490 : decode cX5_under 490 = .ok (.ireturn, 1) := by decide +kernel
theorem dX5_under_244 : decode cX5_under 244 = .ok (.aload_n 0, 1) := by decide +kernel
theorem dX5_under_245 : decode cX5_under 245 = .ok (.getfield 12, 3) := by decide +kernel
theorem dX5_under_248 : decode cX5_under 248 = .ok (.iload_n 1, 1) := by decide +kernel
theorem dX5_under_249 : decode cX5_under 249 = .ok (.iconst 1, 1) := by decide +kernel
theorem dX5_under_250 : decode cX5_under 250 = .ok (.invokevirtual 196, 3) := by decide +kernel
theorem dX5_under_253 : decode cX5_under 253 = .ok (.iload_n 2, 1) := by decide +kernel
theorem dX5_under_254 : decode cX5_under 254 = .ok (.invokevirtual 200, 3) := by decide +kernel
theorem dX5_under_257 : decode cX5_under 257 = .ok (.aload_n 0, 1) := by decide +kernel
theorem dX5_under_258 : decode cX5_under 258 = .ok (.getfield 12, 3) := by decide +kernel
theorem dX5_under_261 : decode cX5_under 261 = .ok (.iload_n 1, 1) := by decide +kernel
theorem dX5_under_262 : decode cX5_under 262 = .ok (.iconst 0, 1) := by decide +kernel
theorem dX5_under_263 : decode cX5_under 263 = .ok (.invokevirtual 196, 3) := by decide +kernel
theorem dX5_under_266 : decode cX5_under 266 = .ok (.astore 5, 2) := by decide +kernel
theorem dX5_under_268 : decode cX5_under 268 = .ok (.aload 5, 2) := by decide +kernel
theorem dX5_under_270 : decode cX5_under 270 = .ok (.getfield 203, 3) := by decide +kernel
theorem dX5_under_273 : decode cX5_under 273 = .ok (.istore 6, 2) := by decide +kernel
theorem dX5_under_275 : decode cX5_under 275 = .ok (.iconst 0, 1) := by decide +kernel
theorem dX5_under_276 : decode cX5_under 276 = .ok (.istore 7, 2) := by decide +kernel
theorem dX5_under_278 : decode cX5_under 278 = .ok (.iload 7, 2) := by decide +kernel
theorem dX5_under_280 : decode cX5_under 280 = .ok (.iload 6, 2) := by decide +kernel
theorem dX5_under_282 : decode cX5_under 282 = .ok (.if_icmp .ge 31, 3) := by decide +kernel
theorem dX5_under_313 : decode cX5_under 313 = .ok (.iload 4, 2) := by decide +kernel
theorem dX5_under_315 : decode cX5_under 315 = .ok (.ireturn, 1) := by decide +kernel
theorem dX5_under_285 : decode cX5_under 285 = .ok (.iload 4, 2) := by decide +kernel
theorem dX5_under_287 : decode cX5_under 287 = .ok (.ifCond .ne 26, 3) := by decide +kernel
theorem dX5_under_290 : decode cX5_under 290 = .ok (.aload_n 0, 1) := by decide +kernel
theorem dX5_under_291 : decode cX5_under 291 = .ok (.aload 5, 2) := by decide +kernel
theorem dX5_under_293 : decode cX5_under 293 = .ok (.iload 7, 2) := by decide +kernel
theorem dX5_under_295 : decode cX5_under 295 = .ok (.invokevirtual 124, 3) := by decide +kernel
theorem dX5_under_298 : decode cX5_under 298 = .ok (.iload_n 2, 1) := by decide +kernel
theorem dX5_under_299 : decode cX5_under 299 = .ok (.iload_n 3, 1) := by decide +kernel
theorem dX5_under_300 : decode cX5_under 300 = .ok (.iconst 1, 1) := by decide +kernel
theorem dX5_under_301 : decode cX5_under 301 = .ok (.iadd, 1) := by decide +kernel
theorem dX5_under_302 : decode cX5_under 302 = .ok (.invokevirtual 150, 3) := by decide +kernel
theorem dX5_under_305 : decode cX5_under 305 = .ok (.istore 4, 2) := by decide +kernel
theorem dX5_under_307 : decode cX5_under 307 = .ok (.iinc 7 1, 3) := by decide +kernel
theorem dX5_under_310 : decode cX5_under 310 = .ok (.goto (-32), 3) := by decide +kernel
theorem dX5_under_316 : decode cX5_under 316 = .ok (.aload_n 0, 1) := by decide +kernel
theorem dX5_under_317 : decode cX5_under 317 = .ok (.getfield 12, 3) := by decide +kernel
theorem dX5_under_320 : decode cX5_under 320 = .ok (.iload_n 2, 1) := by decide +kernel
theorem dX5_under_321 : decode cX5_under 321 = .ok (.iconst 0, 1) := by decide +kernel
theorem dX5_under_322 : decode cX5_under 322 = .ok (.invokevirtual 196, 3) := by decide +kernel
theorem dX5_under_325 : decode cX5_under 325 = .ok (.iload_n 1, 1) := by decide +kernel
theorem dX5_under_326 : decode cX5_under 326 = .ok (.invokevirtual 200, 3) := by decide +kernel
theorem dX5_under_329 : decode cX5_under 329 = .ok (.aload_n 0, 1) := by decide +kernel
theorem dX5_under_330 : decode cX5_under 330 = .ok (.getfield 12, 3) := by decide +kernel
theorem dX5_under_333 : decode cX5_under 333 = .ok (.iload_n 2, 1) := by decide +kernel
theorem dX5_under_334 : decode cX5_under 334 = .ok (.iconst 1, 1) := by decide +kernel
theorem dX5_under_335 : decode cX5_under 335 = .ok (.invokevirtual 196, 3) := by decide +kernel
theorem dX5_under_338 : decode cX5_under 338 = .ok (.astore 5, 2) := by decide +kernel
theorem dX5_under_340 : decode cX5_under 340 = .ok (.aload 5, 2) := by decide +kernel
theorem dX5_under_342 : decode cX5_under 342 = .ok (.getfield 203, 3) := by decide +kernel
theorem dX5_under_345 : decode cX5_under 345 = .ok (.istore 6, 2) := by decide +kernel
theorem dX5_under_347 : decode cX5_under 347 = .ok (.iconst 0, 1) := by decide +kernel
theorem dX5_under_348 : decode cX5_under 348 = .ok (.istore 7, 2) := by decide +kernel
theorem dX5_under_350 : decode cX5_under 350 = .ok (.iload 7, 2) := by decide +kernel
theorem dX5_under_352 : decode cX5_under 352 = .ok (.iload 6, 2) := by decide +kernel
theorem dX5_under_354 : decode cX5_under 354 = .ok (.if_icmp .ge 31, 3) := by decide +kernel
theorem dX5_under_385 : decode cX5_under 385 = .ok (.iload 4, 2) := by decide +kernel
theorem dX5_under_387 : decode cX5_under 387 = .ok (.ireturn, 1) := by decide +kernel
theorem dX5_under_357 : decode cX5_under 357 = .ok (.iload 4, 2) := by decide +kernel
theorem dX5_under_359 : decode cX5_under 359 = .ok (.ifCond .ne 26, 3) := by decide +kernel
theorem dX5_under_362 : decode cX5_under 362 = .ok (.aload_n 0, 1) := by decide +kernel
theorem dX5_under_363 : decode cX5_under 363 = .ok (.iload_n 1, 1) := by decide +kernel
theorem dX5_under_364 : decode cX5_under 364 = .ok (.aload 5, 2) := by decide +kernel
theorem dX5_under_366 : decode cX5_under 366 = .ok (.iload 7, 2) := by decide +kernel
theorem dX5_under_368 : decode cX5_under 368 = .ok (.invokevirtual 124, 3) := by decide +kernel
theorem dX5_under_371 : decode cX5_under 371 = .ok (.iload_n 3, 1) := by decide +kernel
theorem dX5_under_372 : decode cX5_under 372 = .ok (.iconst 1, 1) := by decide +kernel
theorem dX5_under_373 : decode cX5_under 373 = .ok (.iadd, 1) := by decide +kernel
theorem dX5_under_374 : decode cX5_under 374 = .ok (.invokevirtual 150, 3) := by decide +kernel
theorem dX5_under_377 : decode cX5_under 377 = .ok (.istore 4, 2) := by decide +kernel
theorem dX5_under_379 : decode cX5_under 379 = .ok (.iinc 7 1, 3) := by decide +kernel
theorem dX5_under_382 : decode cX5_under 382 = .ok (.goto (-32), 3) := by decide +kernel
theorem dX5_under_388 : decode cX5_under 388 = .ok (.aload_n 0, 1) := by decide +kernel
theorem dX5_under_389 : decode cX5_under 389 = .ok (.aload_n 0, 1) := by decide +kernel
theorem dX5_under_390 : decode cX5_under 390 = .ok (.getfield 12, 3) := by decide +kernel
theorem dX5_under_393 : decode cX5_under 393 = .ok (.iload_n 1, 1) := by decide +kernel
theorem dX5_under_394 : decode cX5_under 394 = .ok (.invokevirtual 206, 3) := by decide +kernel
theorem dX5_under_397 : decode cX5_under 397 = .ok (.aload_n 0, 1) := by decide +kernel
theorem dX5_under_398 : decode cX5_under 398 = .ok (.getfield 12, 3) := by decide +kernel
theorem dX5_under_401 : decode cX5_under 401 = .ok (.iload_n 1, 1) := by decide +kernel
theorem dX5_under_402 : decode cX5_under 402 = .ok (.invokevirtual 206, 3) := by decide +kernel
theorem dX5_under_405 : decode cX5_under 405 = .ok (.invokevirtual 127, 3) := by decide +kernel
theorem dX5_under_408 : decode cX5_under 408 = .ok (.aload_n 0, 1) := by decide +kernel
theorem dX5_under_409 : decode cX5_under 409 = .ok (.iload_n 2, 1) := by decide +kernel
theorem dX5_under_410 : decode cX5_under 410 = .ok (.iconst 1, 1) := by decide +kernel
theorem dX5_under_411 : decode cX5_under 411 = .ok (.iconst 1, 1) := by decide +kernel
theorem dX5_under_412 : decode cX5_under 412 = .ok (.invokevirtual 131, 3) := by decide +kernel
theorem dX5_under_415 : decode cX5_under 415 = .ok (.istore 5, 2) := by decide +kernel
theorem dX5_under_417 : decode cX5_under 417 = .ok (.iload 5, 2) := by decide +kernel
theorem dX5_under_419 : decode cX5_under 419 = .ok (.ifCond .ge 8, 3) := by decide +kernel
theorem dX5_under_427 : decode cX5_under 427 = .ok (.aload_n 0, 1) := by decide +kernel
theorem dX5_under_428 : decode cX5_under 428 = .ok (.iload_n 1, 1) := by decide +kernel
theorem dX5_under_429 : decode cX5_under 429 = .ok (.iload 5, 2) := by decide +kernel
theorem dX5_under_431 : decode cX5_under 431 = .ok (.iload_n 3, 1) := by decide +kernel
theorem dX5_under_432 : decode cX5_under 432 = .ok (.iconst 1, 1) := by decide +kernel
theorem dX5_under_433 : decode cX5_under 433 = .ok (.iadd, 1) := by decide +kernel
theorem dX5_under_434 : decode cX5_under 434 = .ok (.invokevirtual 150, 3) := by decide +kernel
theorem dX5_under_437 : decode cX5_under 437 = .ok (.ireturn, 1) := by decide +kernel
theorem dX5_under_422 : decode cX5_under 422 = .ok (.iload 5, 2) := by decide +kernel
theorem dX5_under_424 : decode cX5_under 424 = .ok (.goto 13, 3) := by decide +kernel
theorem dX5_under_438 : decode cX5_under 438 = .ok (.aload_n 0, 1) := by decide +kernel
theorem dX5_under_439 : decode cX5_under 439 = .ok (.aload_n 0, 1) := by decide +kernel
theorem dX5_under_440 : decode cX5_under 440 = .ok (.getfield 12, 3) := by decide +kernel
theorem dX5_under_443 : decode cX5_under 443 = .ok (.iload_n 2, 1) := by decide +kernel
theorem dX5_under_444 : decode cX5_under 444 = .ok (.invokevirtual 206, 3) := by decide +kernel
theorem dX5_under_447 : decode cX5_under 447 = .ok (.aload_n 0, 1) := by decide +kernel
theorem dX5_under_448 : decode cX5_under 448 = .ok (.getfield 12, 3) := by decide +kernel
theorem dX5_under_451 : decode cX5_under 451 = .ok (.iload_n 2, 1) := by decide +kernel
theorem dX5_under_452 : decode cX5_under 452 = .ok (.invokevirtual 206, 3) := by decide +kernel
theorem dX5_under_455 : decode cX5_under 455 = .ok (.invokevirtual 127, 3) := by decide +kernel
theorem dX5_under_458 : decode cX5_under 458 = .ok (.aload_n 0, 1) := by decide +kernel
theorem dX5_under_459 : decode cX5_under 459 = .ok (.iload_n 1, 1) := by decide +kernel
theorem dX5_under_460 : decode cX5_under 460 = .ok (.iconst 0, 1) := by decide +kernel
theorem dX5_under_461 : decode cX5_under 461 = .ok (.iconst 1, 1) := by decide +kernel
theorem dX5_under_462 : decode cX5_under 462 = .ok (.invokevirtual 131, 3) := by decide +kernel
theorem dX5_under_465 : decode cX5_under 465 = .ok (.istore 5, 2) := by decide +kernel
theorem dX5_under_467 : decode cX5_under 467 = .ok (.iload 5, 2) := by decide +kernel
theorem dX5_under_469 : decode cX5_under 469 = .ok (.ifCond .ge 8, 3) := by decide +kernel
theorem dX5_under_477 : decode cX5_under 477 = .ok (.aload_n 0, 1) := by decide +kernel
theorem dX5_under_478 : decode cX5_under 478 = .ok (.iload 5, 2) := by decide +kernel
theorem dX5_under_480 : decode cX5_under 480 = .ok (.iload_n 2, 1) := by decide +kernel
theorem dX5_under_481 : decode cX5_under 481 = .ok (.iload_n 3, 1) := by decide +kernel
theorem dX5_under_482 : decode cX5_under 482 = .ok (.iconst 1, 1) := by decide +kernel
theorem dX5_under_483 : decode cX5_under 483 = .ok (.iadd, 1) := by decide +kernel
theorem dX5_under_484 : decode cX5_under 484 = .ok (.invokevirtual 150, 3) := by decide +kernel
theorem dX5_under_487 : decode cX5_under 487 = .ok (.ireturn, 1) := by decide +kernel
theorem dX5_under_472 : decode cX5_under 472 = .ok (.iload 5, 2) := by decide +kernel
theorem dX5_under_474 : decode cX5_under 474 = .ok (.goto 13, 3) := by decide +kernel
theorem g_copied_all : ∀ fu, cCopiedAt fu := by
  intro fu
  induction fu with
  | zero => exact fun l G S T V X Y Z K g dp wy t hC hY hBD hKK h15 hg hwy hdp hY2 hlev hab Hs => g_copied_0 l G S T V X Y Z K g dp wy t hC hY hBD hKK h15 hg hwy hdp hY2 hlev hab Hs
  | succ fu ih =>
    intro l G S T V X Y Z K g dp wy t hC hY hBD hKK h15 hg hwy hdp hY2 hlev hab Hs
    rcases hg with ⟨e, f⟩ | ⟨e, f⟩
    · subst e; subst f
      exact g_copied_s2 l G S fu T V X Y Z K dp t hC ih hY hBD hKK h15 hdp hY2 hlev hab Hs
    · subst f
      rcases (by omega : wy = 0 ∨ wy = 1) with e | e
      · subst e
        exact g_copied_s0 l G S fu T V X Y Z K dp t hC ih hY hBD hKK h15 hdp hY2 hlev hab Hs
      · subst e
        exact g_copied_s1 l G S fu T V X Y Z K dp t hC ih hY hBD hKK h15 hdp hY2 hlev hab Hs
/-! ===== asking ===== -/
def US (S : cS) (T V X Y Z q : Nat) : Prop := TY S T V V X Y Z ∧ S.1 12 = nI q ∧ Z ≤ q ∧ ∀ j, j < 2 * V → kK S (35 + j) ≤ q + V
def UR (u : cS) (T V Y q T1 V1 X1 Y1 Z1 q1 : Nat) (v : Int32) : Prop := US u T1 V1 X1 Y1 Z1 q1 ∧ (T ≤ T1 ∧ V ≤ V1 ∧ q ≤ q1 ∧ q1 ≤ 1501 ∧ Y ≤ Y1 ∧ Y1 ≤ Y + 366) ∧ (v = 0 ∨ v < 0) ∧ (v = 0 → q1 ≤ 1500 ∧ Y1 = Y)
def UX (u : cS) (T V Y q : Nat) (v : Int32) : Prop := ∃ T1 V1 X1 Y1 Z1 q1, UR u T V Y q T1 V1 X1 Y1 Z1 q1 v
theorem UR.tr {S u : cS} {T V Y q T1 V1 X1 Z1 q1 : Nat} {v : Int32} (h : UR S T V Y q T1 V1 X1 Y Z1 q1 0) (h' : UX u T1 V1 Y q1 v) : UX u T V Y q v := by
  obtain ⟨-, ⟨a1, a2, a3, -, -, -⟩, -, -⟩ := h
  obtain ⟨T2, V2, X2, Y2, Z2, q2, b, ⟨c1, c2, c3, c4, c5, c6⟩, d, e⟩ := h'
  exact ⟨T2, V2, X2, Y2, Z2, q2, b, ⟨Nat.le_trans a1 c1, Nat.le_trans a2 c2, Nat.le_trans a3 c3, c4, c5, c6⟩, d, e⟩
theorem UR.ok {S : cS} {T V Y q T1 V1 X1 Y1 Z1 q1 : Nat} {v : Int32} (h : UR S T V Y q T1 V1 X1 Y1 Z1 q1 v) (e : v = 0) : UR S T V Y q T1 V1 X1 Y Z1 q1 0 ∧ q1 ≤ 1500 := by
  subst e
  obtain ⟨e1, e2⟩ := h.2.2.2 rfl
  subst e2
  exact ⟨h, e1⟩
theorem UR.bad {S : cS} {T V Y q T1 V1 X1 Y1 Z1 q1 : Nat} {v w : Int32} (h : UR S T V Y q T1 V1 X1 Y1 Z1 q1 v) (e : w < 0) : UR S T V Y q T1 V1 X1 Y1 Z1 q1 w := ⟨h.1, h.2.1, Or.inr e, fun z => by rw [z] at e; exact absurd e (by decide)⟩
theorem UR.z {S : cS} {T V Y q T1 V1 X1 Y1 Z1 q1 : Nat} {v : Int32} (h : UR S T V Y q T1 V1 X1 Y1 Z1 q1 v) (e : 0 ≤ v) : v = 0 := by
  rcases h.2.2.1 with z | z
  · exact z
  · exact absurd z (Int32.not_lt.mpr e)
theorem US.aw {rs is : List Nat} {S u : cS} {T V X Y Z q : Nat} (h : US S T V X Y Z q) (a : AW rs is S u) (h1 : ∀ r ∈ [6, 7, 8, 9, 10, 11, 12, 13, 14, 16, 17, 18, 35], r ∉ rs) (h2 : 12 ∉ is) : US u T V X Y Z q := by
  obtain ⟨b1, b2, b3, b4⟩ := h
  exact ⟨b1.aw a (fun r hr => h1 r (by revert r; decide)), (a.1 12 h2).trans b2, b3, fun j hj => by rw [a.bnd (h1 35 (by decide)) b1.2.1.2.2.1 j hj]; exact b4 j hj⟩
/-- one more asking; a row of bounds grows by it -/
theorem US.push {S u : cS} {T V X Y Z q q1 r j0 n p : Nat} {gg : Nat → Int32} (h : TY S T V V X Y Z) (h12 : S.1 12 = nI q1) (hZ : Z ≤ q1) (hb : ∀ j, j < 2 * V → kK S (35 + j) ≤ q + V) (hq : q1 = q + 1) (hu : u = uR S r (kK S r + 1) n p gg) (hr : r = 35 + j0) (hj : j0 < 2 * V) (hr4 : r < 400 := by omega) : US u T V X Y Z q1 := by
  have a : AW [35] [] S u := by rw [hu]; exact AW.u (by rw [hr, Nat.min_eq_right (Nat.le_add_right 35 j0)]; exact List.mem_cons_self) hr4
  refine ⟨h.aw a (by decide), (a.1 12 (by decide)).trans h12, hZ, fun j hj1 => ?_⟩
  by_cases e : 35 + j = r
  · rw [e, hu, uR_K, hr]
    have := hb j0 hj
    omega
  · rw [hu, uR_Ko e]
    have := hb j hj1
    omega
theorem US.one {S u : cS} {rs is : List Nat} {T V X Y Z q : Nat} (h : TY u T V V X Y Z) (a : AW rs is S u) (hr : 35 ∉ rs) (hB : 2 * V ≤ kB S) (hb : ∀ j, j < 2 * V → kK S (35 + j) ≤ q + V) : ∀ j, j < 2 * V → kK u (35 + j) ≤ q + V := fun j hj => by rw [a.bnd hr hB j hj]; exact hb j hj
theorem lev_var {S : cS} {T V VP X Y Z : Nat} {t : Int32} (h : TY S T V VP X Y Z) (h4 : rget (kF S 6) (kK S 6) t = 4) : 0 ≤ rget (kF S 7) (kK S 7) t := by
  have k7 := h.1.2.1
  have k6 := h.1.1
  have t6 := h.2.1.1
  obtain ⟨j, q1, q2, q3⟩ := rget_in (v := 4) h4 (by decide) (by omega)
  rw [q2, rget_at (by omega) (by omega)]
  exact (h.2.2.1 j (by omega) q3).2

def cUnderAt (fu : Nat) : Prop := ∀ (l : Launch) (G : cG) (S : cS) (T : Nat) (V : Nat) (X : Nat) (Y : Nat) (Z : Nat) (q : Nat) (dp : Nat) (a : Int32) (b : Int32) (hC : CL S) (hU : US S T V X Y Z q) (hq : q ≤ 1500) (h15 : kK S 15 = 0) (hdp : dp + fu = 61) (hY2 : Y + 366 ≤ 900) (Hs : Heap), Met l yX5_under (wC yX5_under cX5_under 8 (some .int)) (cRm S (fu + 70) (40 * fu + 3000)) (cPc G S Hs [.ref (ga G 4), .int a, .int b, .int (nI dp)]) (cQi G S Hs (fun v u => AW [6, 7, 8, 9, 16, 14, 10, 11, 12, 13, 17, 18, 25, 26, 35] [8, 9, 10, 12] S u ∧ (UX u T V Y q v))) (CC - PT S) (12 * (CC - PT S)) (cA G S Hs.size)

set_option maxHeartbeats 4000000 in
set_option maxRecDepth 100000 in
/-- under, too deep -/
theorem g_under_0 (l : Launch) (G : cG) (S : cS) (T : Nat) (V : Nat) (X : Nat) (Y : Nat) (Z : Nat) (q : Nat) (dp : Nat) (a : Int32) (b : Int32) (hC : CL S) (hU : US S T V X Y Z q) (hq : q ≤ 1500) (h15 : kK S 15 = 0) (hdp : dp + 0 = 61) (hY2 : Y + 366 ≤ 900) (Hs : Heap) : Met l yX5_under (wC yX5_under cX5_under 8 (some .int)) (cRm S (0 + 70) (40 * 0 + 3000)) (cPc G S Hs [.ref (ga G 4), .int a, .int b, .int (nI dp)]) (cQi G S Hs (fun v u => AW [6, 7, 8, 9, 16, 14, 10, 11, 12, 13, 17, 18, 25, 26, 35] [8, 9, 10, 12] S u ∧ (UX u T V Y q v))) (CC - PT S) (12 * (CC - PT S)) (cA G S Hs.size) := by
  refine Met.ofW (cc := cX5_under) (maxL := 8) (ret := (some .int)) (by decide) rfl ?_
  intro p e s m args below meth c s₁ B hml hv
  obtain ⟨rfl, hsz, hP, hK, hD0, -⟩ := hv
  have hx := B.exec
  have hb := B.bytes
  have hr := B.returns
  have htu : ∀ w ∈ CU, w.before _ s = true := fun w h => atoms_spec (ws := (wC yX5_under cX5_under 8 (some .int))) B.pre w (List.mem_cons_of_mem _ h)
  have hown : s.vm.findClass RX5 = some m.cls := findClass_of_methodNamed B.named
  have hlocks := B.notSynchronized
  subst hsz
  have hD : cD (cA G S s.heap.size) G S := cD_self hD0
  have hl := lv_entry ([.ref (ga G 4), .int a, .int b, .int (nI dp)]) (n := 8) (Nat.le_of_ble_eq_true rfl)
  rw [lg_entry_eq]
  generalize (lg_sl ([.ref (ga G 4), .int a, .int b, .int (nI dp)]) ++ List.replicate (8 - (lg_sl ([.ref (ga G 4), .int a, .int b, .int (nI dp)])).length) Slot.unset).toArray = ls at hl ⊢
  have hl : lv_has ls 8 [(0, .ref (ga G 4)), (1, .int a), (2, .int b), (3, .int (nI dp))] := hl
  obtain ⟨H, hHe⟩ : ∃ H : Heap, H = s.heap := ⟨_, rfl⟩
  rw [← hHe] at hP
  have hS : va_S (cA G S s.heap.size) s.heap H [] := by rw [hHe]; exact va_S.rf
  have hh : HS S S := HS.rf
  have hpp : PT S ≤ PT S := Nat.le_refl _
  have hB9 := hC.1
  refine W.heq hHe ?_
  refine c_ent (S := S) ?_
  obtain ⟨hY, h12, hZq, hBD⟩ := id hU
  obtain ⟨tT, tV, tB, tX⟩ := id hY.2.1
  refine lv_aload_n hx hb dX5_under_0 rfl (lv_at hl 0 rfl) ?_
  refine lv_dup hx hb dX5_under_1 rfl ?_
  refine va_get (D := gD G) (ci := 5) (v := .int (nI q)) (C := RX5) (T := TX5) (N := 15) hx hb htu cu_in5 hown hK hP 4 cw_4 rfl 12 (by decide) (htu _ C_262) (fun _ h9 => h9) (m_v h12) dX5_under_2 ?_
  refine lv_iconst (v := 1) hx hb dX5_under_5 (by decide) ?_
  refine lv_iadd hx hb dX5_under_6 ?_
  refine m_top (y := nI (q + 1)) (nI_add q 1) ?_
  refine c_put4_12 (x := (nI (q + 1))) hx hb htu hown hK hP hD hS (htu _ C_262) dX5_under_7 (fun H locs hP hD hS => ?_)
  have S_1h : HS S (cO S 12 (nI (q + 1))) := hh
  have S_1c : CL (cO S 12 (nI (q + 1))) := hC
  have S_1p : PT S ≤ PT (cO S 12 (nI (q + 1))) := hpp
  refine c_eq (S1 := S) (S2 := cO S 12 (nI (q + 1))) rfl ?_
  have S_1w : AW [6, 7, 8, 9, 16, 14, 10, 11, 12, 13, 17, 18, 25, 26, 35] [8, 9, 10, 12] S (cO S 12 (nI (q + 1))) := (AW.o AW.rf (by decide))
  have hh := S_1h
  have hC := S_1c
  have hpp := S_1p
  have ty1 : TY (cO S 12 (nI (q + 1))) T V V X Y Z := hY
  have tb1 : ∀ j, j < 2 * V → kK (cO S 12 (nI (q + 1))) (35 + j) ≤ q + V := hBD
  have e12 : (cO S 12 (nI (q + 1))).1 12 = nI (q + 1) := cO_s
  have ur1 : UR (cO S 12 (nI (q + 1))) T V Y q T V X Y Z (q + 1) (-6) := ⟨⟨ty1, e12, Nat.le_succ_of_le hZq, fun j hj => Nat.le_trans (tb1 j hj) (by omega)⟩, ⟨Nat.le_refl _, Nat.le_refl _, Nat.le_succ _, Nat.succ_le_succ hq, Nat.le_refl _, Nat.le_add_right _ _⟩, Or.inr (by decide), fun h => absurd h (by decide)⟩
  refine lv_aload_n hx hb dX5_under_10 rfl (lv_at hl 0 rfl) ?_
  refine va_get (D := gD G) (ci := 5) (v := .int (nI (q + 1))) (C := RX5) (T := TX5) (N := 15) hx hb htu cu_in5 hown hK hP 4 cw_4 rfl 12 (by decide) (htu _ C_262) (fun _ h9 => h9) (m_v cO_s) dX5_under_11 ?_
  refine lv_sipush (v := 1500) hx hb dX5_under_14 (by decide) ?_
  refine lv_icmp_gt (tgt := 26) hx hb dX5_under_17 (by decide) (fun c_2 => ?_) (fun c_2 => ?_)
  · skip
    have nc_2 : 1500 < q + 1 := (nI_ltI (a := 1500) (b := q + 1) (by omega) (by omega)).mp c_2
    refine lv_bipush (v := (-6)) hx hb dX5_under_26 (by decide) ?_
    exact c_iret (v := (-6)) hx hb hr hK hP hD hS hC hh hpp ⟨S_1w, ⟨_, _, _, _, _, _, ur1⟩⟩ dX5_under_28 hlocks
  · skip
    have nc_2 : ¬ 1500 < q + 1 := fun h9 => c_2 ((nI_ltI (a := 1500) (b := q + 1) (by omega) (by omega)).mpr h9)
    refine lv_iload_n hx hb dX5_under_20 rfl (lv_at hl 3 rfl) ?_
    refine lv_bipush (v := 60) hx hb dX5_under_21 (by decide) ?_
    refine lv_icmp_le (tgt := 29) hx hb dX5_under_23 (by decide) (fun c_3 => absurd c_3 (fun h => by have h2 := (nI_leI (a := dp) (b := 60) (by omega) (by omega)).mp h; omega)) (fun c_3 => ?_)
    refine lv_bipush (v := (-6)) hx hb dX5_under_26 (by decide) ?_
    exact c_iret (v := (-6)) hx hb hr hK hP hD hS hC hh hpp ⟨S_1w, ⟨_, _, _, _, _, _, ur1⟩⟩ dX5_under_28 hlocks

theorem kK_lt {S : cS} {r : Nat} (hC : CL S) (hr : r < 35 + kB S) : kK S r < 5000 := by
  have h1 := (hC.2 r hr).2.2
  have h2 := lim_le r
  omega

set_option maxHeartbeats 4000000 in
set_option maxRecDepth 100000 in
/-- under -/
theorem g_under_s (l : Launch) (G : cG) (S : cS) (fu : Nat) (T : Nat) (V : Nat) (X : Nat) (Y : Nat) (Z : Nat) (q : Nat) (dp : Nat) (a : Int32) (b : Int32) (hC : CL S) (ih : cUnderAt fu) (hU : US S T V X Y Z q) (hq : q ≤ 1500) (h15 : kK S 15 = 0) (hdp : dp + (fu + 1) = 61) (hY2 : Y + 366 ≤ 900) (Hs : Heap) : Met l yX5_under (wC yX5_under cX5_under 8 (some .int)) (cRm S ((fu + 1) + 70) (40 * (fu + 1) + 3000)) (cPc G S Hs [.ref (ga G 4), .int a, .int b, .int (nI dp)]) (cQi G S Hs (fun v u => AW [6, 7, 8, 9, 16, 14, 10, 11, 12, 13, 17, 18, 25, 26, 35] [8, 9, 10, 12] S u ∧ (UX u T V Y q v))) (CC - PT S) (12 * (CC - PT S)) (cA G S Hs.size) := by
  refine Met.ofW (cc := cX5_under) (maxL := 8) (ret := (some .int)) (by decide) rfl ?_
  intro p e s m args below meth c s₁ B hml hv
  obtain ⟨rfl, hsz, hP, hK, hD0, -⟩ := hv
  have hx := B.exec
  have hb := B.bytes
  have hr := B.returns
  have htu : ∀ w ∈ CU, w.before _ s = true := fun w h => atoms_spec (ws := (wC yX5_under cX5_under 8 (some .int))) B.pre w (List.mem_cons_of_mem _ h)
  have hown : s.vm.findClass RX5 = some m.cls := findClass_of_methodNamed B.named
  have hlocks := B.notSynchronized
  subst hsz
  have hD : cD (cA G S s.heap.size) G S := cD_self hD0
  have hl := lv_entry ([.ref (ga G 4), .int a, .int b, .int (nI dp)]) (n := 8) (Nat.le_of_ble_eq_true rfl)
  rw [lg_entry_eq]
  generalize (lg_sl ([.ref (ga G 4), .int a, .int b, .int (nI dp)]) ++ List.replicate (8 - (lg_sl ([.ref (ga G 4), .int a, .int b, .int (nI dp)])).length) Slot.unset).toArray = ls at hl ⊢
  have hl : lv_has ls 8 [(0, .ref (ga G 4)), (1, .int a), (2, .int b), (3, .int (nI dp))] := hl
  obtain ⟨H, hHe⟩ : ∃ H : Heap, H = s.heap := ⟨_, rfl⟩
  rw [← hHe] at hP
  have hS : va_S (cA G S s.heap.size) s.heap H [] := by rw [hHe]; exact va_S.rf
  have hh : HS S S := HS.rf
  have hpp : PT S ≤ PT S := Nat.le_refl _
  have hB9 := hC.1
  refine W.heq hHe ?_
  refine c_ent (S := S) ?_
  obtain ⟨hY, h12, hZq, hBD⟩ := id hU
  obtain ⟨tT, tV, tB, tX⟩ := id hY.2.1
  refine lv_aload_n hx hb dX5_under_0 rfl (lv_at hl 0 rfl) ?_
  refine lv_dup hx hb dX5_under_1 rfl ?_
  refine va_get (D := gD G) (ci := 5) (v := .int (nI q)) (C := RX5) (T := TX5) (N := 15) hx hb htu cu_in5 hown hK hP 4 cw_4 rfl 12 (by decide) (htu _ C_262) (fun _ h9 => h9) (m_v h12) dX5_under_2 ?_
  refine lv_iconst (v := 1) hx hb dX5_under_5 (by decide) ?_
  refine lv_iadd hx hb dX5_under_6 ?_
  refine m_top (y := nI (q + 1)) (nI_add q 1) ?_
  refine c_put4_12 (x := (nI (q + 1))) hx hb htu hown hK hP hD hS (htu _ C_262) dX5_under_7 (fun H locs hP hD hS => ?_)
  have S_1h : HS S (cO S 12 (nI (q + 1))) := hh
  have S_1c : CL (cO S 12 (nI (q + 1))) := hC
  have S_1p : PT S ≤ PT (cO S 12 (nI (q + 1))) := hpp
  refine c_eq (S1 := S) (S2 := cO S 12 (nI (q + 1))) rfl ?_
  have S_1w : AW [6, 7, 8, 9, 16, 14, 10, 11, 12, 13, 17, 18, 25, 26, 35] [8, 9, 10, 12] S (cO S 12 (nI (q + 1))) := (AW.o AW.rf (by decide))
  have hh := S_1h
  have hC := S_1c
  have hpp := S_1p
  have ty1 : TY (cO S 12 (nI (q + 1))) T V V X Y Z := hY
  have tb1 : ∀ j, j < 2 * V → kK (cO S 12 (nI (q + 1))) (35 + j) ≤ q + V := hBD
  have e12 : (cO S 12 (nI (q + 1))).1 12 = nI (q + 1) := cO_s
  have ur1 : UR (cO S 12 (nI (q + 1))) T V Y q T V X Y Z (q + 1) (-6) := ⟨⟨ty1, e12, Nat.le_succ_of_le hZq, fun j hj => Nat.le_trans (tb1 j hj) (by omega)⟩, ⟨Nat.le_refl _, Nat.le_refl _, Nat.le_succ _, Nat.succ_le_succ hq, Nat.le_refl _, Nat.le_add_right _ _⟩, Or.inr (by decide), fun h => absurd h (by decide)⟩
  refine lv_aload_n hx hb dX5_under_10 rfl (lv_at hl 0 rfl) ?_
  refine va_get (D := gD G) (ci := 5) (v := .int (nI (q + 1))) (C := RX5) (T := TX5) (N := 15) hx hb htu cu_in5 hown hK hP 4 cw_4 rfl 12 (by decide) (htu _ C_262) (fun _ h9 => h9) (m_v cO_s) dX5_under_11 ?_
  refine lv_sipush (v := 1500) hx hb dX5_under_14 (by decide) ?_
  refine lv_icmp_gt (tgt := 26) hx hb dX5_under_17 (by decide) (fun c_2 => ?_) (fun c_2 => ?_)
  · skip
    have nc_2 : 1500 < q + 1 := (nI_ltI (a := 1500) (b := q + 1) (by omega) (by omega)).mp c_2
    refine lv_bipush (v := (-6)) hx hb dX5_under_26 (by decide) ?_
    exact c_iret (v := (-6)) hx hb hr hK hP hD hS hC hh hpp ⟨S_1w, ⟨_, _, _, _, _, _, ur1⟩⟩ dX5_under_28 hlocks
  · skip
    have nc_2 : ¬ 1500 < q + 1 := fun h9 => c_2 ((nI_ltI (a := 1500) (b := q + 1) (by omega) (by omega)).mpr h9)
    refine lv_iload_n hx hb dX5_under_20 rfl (lv_at hl 3 rfl) ?_
    refine lv_bipush (v := 60) hx hb dX5_under_21 (by decide) ?_
    refine lv_icmp_le (tgt := 29) hx hb dX5_under_23 (by decide) (fun c_3 => ?_) (fun c_3 => absurd ((nI_leI (a := dp) (b := 60) (by omega) (by omega)).mpr (by omega)) c_3)
    refine lv_aload_n hx hb dX5_under_29 rfl (lv_at hl 0 rfl) ?_
    refine va_get (D := gD G) (ci := 5) (v := .ref (ga G 2)) (C := RX5) (T := TX5) (N := 15) hx hb htu cu_in5 hown hK hP 4 cw_4 rfl 1 (by decide) (htu _ C_45) (fun _ h9 => h9) rfl dX5_under_30 ?_
    refine lv_iload_n hx hb dX5_under_33 rfl (lv_at hl 1 rfl) ?_
    refine lv_iload_n hx hb dX5_under_34 rfl (lv_at hl 2 rfl) ?_
    have hC0 := hC
    refine c_ci (c_runV (As := [.int a, .int b]) (rest := []) (q0 := 2) (ci := 4) ⟨hx, hb, hml, hown, htu⟩ (y_wasAsked l G (cO S 12 (nI (q + 1))) T V V X Y Z a b hC ty1 ((by omega)) H) (cwV 2 htu hU_X5_171 rfl rfl rfl (by decide +kernel) ⟨show 3 + 1 ≤ (fu + 1) + 70 by omega, show 8 + (7 + 11) + 103 ≤ 40 * (fu + 1) + 3000 by omega⟩) hP hK hD hC hpp cw_2 rfl rfl hl.1 rfl (lv_room (Nat.le_of_ble_eq_true rfl)) dX5_under_35) hS hD hh hpp (fun r_4 S_5 H locs hw_6 hP hD hS hC hh hs_7 hpp => ?_)
    try dsimp only at hw_6
    have aw_8 : AW [16, 17, 18] [] (cO S 12 (nI (q + 1))) S_5 := hw_6.1
    have aw_8t : AW [6, 7, 8, 9, 16, 14, 10, 11, 12, 13, 17, 18, 25, 26, 35] [8, 9, 10, 12] S S_5 := S_1w.tr (aw_8.mono (by decide) (by decide))
    have kk_9 : kK S_5 15 = 0 := (aw_8.2.1 15 (lt35 (by decide)) (by decide)).2.trans h15
    have ii_10 : S_5.1 12 = nI (q + 1) := (aw_8.1 12 (by decide)).trans cO_s
    rcases hw_6.2 with ⟨ty_11v, ty_11s⟩ | ⟨ty_11v, ty_11⟩
    · skip
      subst ty_11v
      refine lv_if_eq (tgt := 43) hx hb dX5_under_38 (by decide) (fun c_12 => absurd c_12 (by decide)) (fun c_12 => ?_)
      refine lv_iconst (v := 0) hx hb dX5_under_41 (by decide) ?_
      exact c_iret (v := 0) hx hb hr hK hP hD hS hC hh hpp ⟨aw_8t, (by rw [ty_11s]; exact ⟨_, _, _, _, _, _, ur1.1, ur1.2.1, Or.inl rfl, fun _ => ⟨by omega, rfl⟩⟩)⟩ dX5_under_42 hlocks
    · skip
      subst ty_11v
      refine lv_if_eq (tgt := 43) hx hb dX5_under_38 (by decide) (fun c_13 => ?_) (fun c_13 => absurd (by decide) c_13)
      have tb2 : ∀ j, j < 2 * V → kK S_5 (35 + j) ≤ q + V := US.one ty_11 aw_8 (by decide) (show 2 * V ≤ kB S from tB) tb1
      have e12b : S_5.1 12 = nI (q + 1) := ii_10
      have q15 : q + 1 ≤ 1500 := by omega
      have ur2 : UR S_5 T V Y q T V X Y (Z + 1) (q + 1) 0 := ⟨⟨ty_11, e12b, Nat.succ_le_succ hZq, fun j hj => Nat.le_trans (tb2 j hj) (by omega)⟩, ⟨Nat.le_refl _, Nat.le_refl _, Nat.le_succ _, Nat.succ_le_succ hq, Nat.le_refl _, Nat.le_add_right _ _⟩, Or.inl rfl, fun _ => ⟨q15, rfl⟩⟩
      refine lv_iconst (v := 0) hx hb dX5_under_43 (by decide) ?_
      refine lv_istore (lv' := [(4, .int 0), (0, .ref (ga G 4)), (1, .int a), (2, .int b), (3, .int (nI dp))]) hx hb dX5_under_44 hl (by decide) rfl (fun ls hl => ?_)
      refine lv_aload_n hx hb dX5_under_46 rfl (lv_at hl 1 rfl) ?_
      refine lv_iload_n hx hb dX5_under_47 rfl (lv_at hl 2 rfl) ?_
      refine lv_iload_n hx hb dX5_under_48 rfl (lv_at hl 3 rfl) ?_
      have hC0 := hC
      refine c_ci (c_runV (As := [.int a, .int b]) (rest := []) (q0 := 4) (ci := 5) ⟨hx, hb, hml, hown, htu⟩ (g_whatIsDue l G S_5 a b hC  H) (cwV 2 htu hU_X5_175 rfl rfl rfl (by decide +kernel) ⟨show 2 + 1 ≤ (fu + 1) + 70 by omega, show 8 + (5 + 11) + 42 ≤ 40 * (fu + 1) + 3000 by omega⟩) hP hK hD hC hpp cw_4 rfl rfl hl.1 rfl (lv_room (Nat.le_of_ble_eq_true rfl)) dX5_under_49) hS hD hh hpp (fun r_14 S_15 H locs hw_16 hP hD hS hC hh hs_17 hpp => ?_)
      obtain ⟨-, hu9, hw_16⟩ := hw_16
      have hu9 := hu9.symm
      subst hu9
      rcases hw_16 with (wd_18 | wd_18 | wd_18 | wd_18) | ⟨wd_18, wd_18s⟩ | ⟨wd_18, wd_18s⟩ | ⟨wd_18, wd_18s⟩ | ⟨wd_18, wd_18s⟩
      · skip
        subst wd_18
        refine lv_tableIn (tgt := 96) hx hb dX5_under_52 (by decide) (by decide) (by rfl) (by decide) ?_
        refine lv_iconst (v := 0) hx hb dX5_under_96 (by decide) ?_
        exact c_iret (v := 0) hx hb hr hK hP hD hS hC hh hpp ⟨aw_8t, ⟨_, _, _, _, _, _, ur2⟩⟩ dX5_under_97 hlocks
      · skip
        subst wd_18
        refine lv_tableIn (tgt := 98) hx hb dX5_under_52 (by decide) (by decide) (by rfl) (by decide) ?_
        refine lv_aload_n hx hb dX5_under_98 rfl (lv_at hl 1 rfl) ?_
        refine lv_aload_n hx hb dX5_under_99 rfl (lv_at hl 1 rfl) ?_
        refine va_get (D := gD G) (ci := 5) (v := .ref (ga G 2)) (C := RX5) (T := TX5) (N := 15) hx hb htu cu_in5 hown hK hP 4 cw_4 rfl 1 (by decide) (htu _ C_45) (fun _ h9 => h9) rfl dX5_under_100 ?_
        refine lv_iload_n hx hb dX5_under_103 rfl (lv_at hl 3 rfl) ?_
        have hC0 := hC
        refine c_ci (c_runV (As := [.int b]) (rest := [.ref (ga G 4)]) (q0 := 2) (ci := 4) ⟨hx, hb, hml, hown, htu⟩ (y_firstOf l G S_5 b hC  H) (cwV 1 htu hU_X5_178 rfl rfl rfl (by decide +kernel) ⟨show 1 + 1 ≤ (fu + 1) + 70 by omega, show 8 + (2 + 11) + 21 ≤ 40 * (fu + 1) + 3000 by omega⟩) hP hK hD hC hpp cw_2 rfl rfl hl.1 rfl (lv_room (Nat.le_of_ble_eq_true rfl)) dX5_under_104) hS hD hh hpp (fun r_19 S_20 H locs hw_21 hP hD hS hC hh hs_22 hpp => ?_)
        obtain ⟨-, hu9, hw_21⟩ := hw_21
        have hu9 := hu9.symm
        subst hu9
        refine lv_aload_n hx hb dX5_under_107 rfl (lv_at hl 1 rfl) ?_
        refine va_get (D := gD G) (ci := 5) (v := .ref (ga G 2)) (C := RX5) (T := TX5) (N := 15) hx hb htu cu_in5 hown hK hP 4 cw_4 rfl 1 (by decide) (htu _ C_45) (fun _ h9 => h9) rfl dX5_under_108 ?_
        refine lv_iload_n hx hb dX5_under_111 rfl (lv_at hl 2 rfl) ?_
        have hC0 := hC
        refine c_ci (c_runV (As := [.int a]) (rest := [.int r_19, .ref (ga G 4)]) (q0 := 2) (ci := 4) ⟨hx, hb, hml, hown, htu⟩ (y_firstOf l G S_5 a hC  H) (cwV 1 htu hU_X5_178 rfl rfl rfl (by decide +kernel) ⟨show 1 + 1 ≤ (fu + 1) + 70 by omega, show 8 + (2 + 11) + 21 ≤ 40 * (fu + 1) + 3000 by omega⟩) hP hK hD hC hpp cw_2 rfl rfl hl.1 rfl (lv_room (Nat.le_of_ble_eq_true rfl)) dX5_under_112) hS hD hh hpp (fun r_23 S_24 H locs hw_25 hP hD hS hC hh hs_26 hpp => ?_)
        obtain ⟨-, hu9, hw_25⟩ := hw_25
        have hu9 := hu9.symm
        subst hu9
        refine lv_iload_n hx hb dX5_under_115 rfl (lv_at hl 4 rfl) ?_
        refine lv_iconst (v := 1) hx hb dX5_under_116 (by decide) ?_
        refine lv_iadd hx hb dX5_under_117 ?_
        refine m_top (y := nI (dp + 1)) (nI_add dp 1) ?_
        have hC0 := hC
        refine c_ci (c_runV (As := [.int r_19, .int r_23, .int (nI (dp + 1))]) (rest := []) (q0 := 4) (ci := 5) ⟨hx, hb, hml, hown, htu⟩ (ih l G S_5 T V X Y ((Z + 1)) ((q + 1)) (dp + 1) r_19 r_23 hC ur2.1 ((by omega)) kk_9 ((by omega)) hY2 H) (cwV 3 htu hU_X5_150 rfl rfl rfl (by decide +kernel) ⟨show (fu + 70) + 1 ≤ (fu + 1) + 70 by omega, show 8 + (8 + 11) + (40 * fu + 3000) ≤ 40 * (fu + 1) + 3000 by omega⟩) hP hK hD hC hpp cw_4 rfl rfl hl.1 rfl (lv_room (Nat.le_of_ble_eq_true rfl)) dX5_under_118) hS hD hh hpp (fun r_27 S_28 H locs hw_29 hP hD hS hC hh hs_30 hpp => ?_)
        try dsimp only at hw_29
        have aw_31 : AW [6, 7, 8, 9, 16, 14, 10, 11, 12, 13, 17, 18, 25, 26, 35] [8, 9, 10, 12] S_5 S_28 := hw_29.1
        have aw_31t : AW [6, 7, 8, 9, 16, 14, 10, 11, 12, 13, 17, 18, 25, 26, 35] [8, 9, 10, 12] S S_28 := aw_8t.tr (aw_31.mono (by decide) (by decide))
        have kk_32 : kK S_28 15 = 0 := (aw_31.2.1 15 (lt35 (by decide)) (by decide)).2.trans kk_9
        have ux_33x := ur2.tr hw_29.2
        obtain ⟨ux_33T, ux_33V, ux_33X, ux_33Y, ux_33Z, ux_33q, ux_33⟩ := id ux_33x
        refine lv_istore (lv' := [(4, .int r_27), (0, .ref (ga G 4)), (1, .int a), (2, .int b), (3, .int (nI dp))]) hx hb dX5_under_121 hl (by decide) rfl (fun ls hl => ?_)
        refine lv_iload hx hb dX5_under_123 (lv_at hl 0 rfl) ?_
        refine lv_if_ge (tgt := 133) hx hb dX5_under_125 (by decide) (fun c_34 => ?_) (fun c_34 => ?_)
        · skip
          obtain ⟨ux_33k, ux_33l⟩ := ux_33.ok (ux_33.z c_34)
          refine lv_aload_n hx hb dX5_under_133 rfl (lv_at hl 1 rfl) ?_
          refine lv_aload_n hx hb dX5_under_134 rfl (lv_at hl 1 rfl) ?_
          refine va_get (D := gD G) (ci := 5) (v := .ref (ga G 2)) (C := RX5) (T := TX5) (N := 15) hx hb htu cu_in5 hown hK hP 4 cw_4 rfl 1 (by decide) (htu _ C_45) (fun _ h9 => h9) rfl dX5_under_135 ?_
          refine lv_iload_n hx hb dX5_under_138 rfl (lv_at hl 2 rfl) ?_
          have hC0 := hC
          refine c_ci (c_runV (As := [.int a]) (rest := [.ref (ga G 4)]) (q0 := 2) (ci := 4) ⟨hx, hb, hml, hown, htu⟩ (y_secondOf l G S_28 a hC  H) (cwV 1 htu hU_X5_181 rfl rfl rfl (by decide +kernel) ⟨show 1 + 1 ≤ (fu + 1) + 70 by omega, show 8 + (2 + 11) + 21 ≤ 40 * (fu + 1) + 3000 by omega⟩) hP hK hD hC hpp cw_2 rfl rfl hl.1 rfl (lv_room (Nat.le_of_ble_eq_true rfl)) dX5_under_139) hS hD hh hpp (fun r_35 S_36 H locs hw_37 hP hD hS hC hh hs_38 hpp => ?_)
          obtain ⟨-, hu9, hw_37⟩ := hw_37
          have hu9 := hu9.symm
          subst hu9
          refine lv_aload_n hx hb dX5_under_142 rfl (lv_at hl 1 rfl) ?_
          refine va_get (D := gD G) (ci := 5) (v := .ref (ga G 2)) (C := RX5) (T := TX5) (N := 15) hx hb htu cu_in5 hown hK hP 4 cw_4 rfl 1 (by decide) (htu _ C_45) (fun _ h9 => h9) rfl dX5_under_143 ?_
          refine lv_iload_n hx hb dX5_under_146 rfl (lv_at hl 3 rfl) ?_
          have hC0 := hC
          refine c_ci (c_runV (As := [.int b]) (rest := [.int r_35, .ref (ga G 4)]) (q0 := 2) (ci := 4) ⟨hx, hb, hml, hown, htu⟩ (y_secondOf l G S_28 b hC  H) (cwV 1 htu hU_X5_181 rfl rfl rfl (by decide +kernel) ⟨show 1 + 1 ≤ (fu + 1) + 70 by omega, show 8 + (2 + 11) + 21 ≤ 40 * (fu + 1) + 3000 by omega⟩) hP hK hD hC hpp cw_2 rfl rfl hl.1 rfl (lv_room (Nat.le_of_ble_eq_true rfl)) dX5_under_147) hS hD hh hpp (fun r_39 S_40 H locs hw_41 hP hD hS hC hh hs_42 hpp => ?_)
          obtain ⟨-, hu9, hw_41⟩ := hw_41
          have hu9 := hu9.symm
          subst hu9
          refine lv_iload_n hx hb dX5_under_150 rfl (lv_at hl 4 rfl) ?_
          refine lv_iconst (v := 1) hx hb dX5_under_151 (by decide) ?_
          refine lv_iadd hx hb dX5_under_152 ?_
          refine m_top (y := nI (dp + 1)) (nI_add dp 1) ?_
          have hC0 := hC
          refine c_ci (c_runV (As := [.int r_35, .int r_39, .int (nI (dp + 1))]) (rest := []) (q0 := 4) (ci := 5) ⟨hx, hb, hml, hown, htu⟩ (ih l G S_28 ux_33T ux_33V ux_33X Y ux_33Z ux_33q (dp + 1) r_35 r_39 hC ux_33k.1 ((by omega)) kk_32 ((by omega)) hY2 H) (cwV 3 htu hU_X5_150 rfl rfl rfl (by decide +kernel) ⟨show (fu + 70) + 1 ≤ (fu + 1) + 70 by omega, show 8 + (8 + 11) + (40 * fu + 3000) ≤ 40 * (fu + 1) + 3000 by omega⟩) hP hK hD hC hpp cw_4 rfl rfl hl.1 rfl (lv_room (Nat.le_of_ble_eq_true rfl)) dX5_under_153) hS hD hh hpp (fun r_43 S_44 H locs hw_45 hP hD hS hC hh hs_46 hpp => ?_)
          try dsimp only at hw_45
          have aw_47 : AW [6, 7, 8, 9, 16, 14, 10, 11, 12, 13, 17, 18, 25, 26, 35] [8, 9, 10, 12] S_28 S_44 := hw_45.1
          have aw_47t : AW [6, 7, 8, 9, 16, 14, 10, 11, 12, 13, 17, 18, 25, 26, 35] [8, 9, 10, 12] S S_44 := aw_31t.tr (aw_47.mono (by decide) (by decide))
          have kk_48 : kK S_44 15 = 0 := (aw_47.2.1 15 (lt35 (by decide)) (by decide)).2.trans kk_32
          have ux_49x := ux_33k.tr hw_45.2
          obtain ⟨ux_49T, ux_49V, ux_49X, ux_49Y, ux_49Z, ux_49q, ux_49⟩ := id ux_49x
          exact c_iret (v := r_43) hx hb hr hK hP hD hS hC hh hpp ⟨aw_47t, ux_49x⟩ dX5_under_156 hlocks
        · skip
          refine lv_iload hx hb dX5_under_128 (lv_at hl 0 rfl) ?_
          refine lv_goto (tgt := 156) hx hb dX5_under_130 (by decide) ?_
          exact c_iret (v := r_27) hx hb hr hK hP hD hS hC hh hpp ⟨aw_31t, ux_33x⟩ dX5_under_156 hlocks
      · skip
        subst wd_18
        refine lv_tableIn (tgt := 157) hx hb dX5_under_52 (by decide) (by decide) (by rfl) (by decide) ?_
        refine lv_aload_n hx hb dX5_under_157 rfl (lv_at hl 1 rfl) ?_
        refine va_get (D := gD G) (ci := 5) (v := .ref (ga G 2)) (C := RX5) (T := TX5) (N := 15) hx hb htu cu_in5 hown hK hP 4 cw_4 rfl 1 (by decide) (htu _ C_45) (fun _ h9 => h9) rfl dX5_under_158 ?_
        refine lv_iload_n hx hb dX5_under_161 rfl (lv_at hl 3 rfl) ?_
        have hC0 := hC
        refine c_ci (c_runV (As := [.int b]) (rest := []) (q0 := 2) (ci := 4) ⟨hx, hb, hml, hown, htu⟩ (y_fieldCount l G S_5 T V V X Y (Z + 1) b hC ty_11 H) (cwV 1 htu hU_X5_184 rfl rfl rfl (by decide +kernel) ⟨show 1 + 1 ≤ (fu + 1) + 70 by omega, show 8 + (2 + 11) + 21 ≤ 40 * (fu + 1) + 3000 by omega⟩) hP hK hD hC hpp cw_2 rfl rfl hl.1 rfl (lv_room (Nat.le_of_ble_eq_true rfl)) dX5_under_162) hS hD hh hpp (fun r_50 S_51 H locs hw_52 hP hD hS hC hh hs_53 hpp => ?_)
        obtain ⟨-, hu9, hw_52⟩ := hw_52
        have hu9 := hu9.symm
        subst hu9
        refine lv_istore (lv' := [(5, .int r_50), (4, .int 0), (0, .ref (ga G 4)), (1, .int a), (2, .int b), (3, .int (nI dp))]) hx hb dX5_under_165 hl (by decide) rfl (fun ls hl => ?_)
        refine lv_iconst (v := 0) hx hb dX5_under_167 (by decide) ?_
        refine lv_istore (lv' := [(6, .int 0), (5, .int r_50), (4, .int 0), (0, .ref (ga G 4)), (1, .int a), (2, .int b), (3, .int (nI dp))]) hx hb dX5_under_168 hl (by decide) rfl (fun ls hl => ?_)
        refine w_loop (fun j H locs k sl g => ∃ (S1 : cS) (T1 : Nat) (V1 : Nat) (X1 : Nat) (Y1 : Nat) (Z1 : Nat) (q1 : Nat) (mt : Int32) (i : Nat) (ls : Array Slot), CL S1 ∧ HS S S1 ∧ PT S ≤ PT S1 ∧ AW [6, 7, 8, 9, 16, 14, 10, 11, 12, 13, 17, 18, 25, 26, 35] [8, 9, 10, 12] S S1 ∧ i + j = 6 ∧ UR S1 T V Y q T1 V1 X1 Y1 Z1 q1 mt ∧ k = PT S1 - PT S ∧ sl = 12 * (PT S1 - PT S) ∧ cP G S1 H ∧ cD (cA G S s.heap.size) G S1 ∧ va_S (cA G S s.heap.size) s.heap H locs ∧ lv_has ls 8 [(0, .ref (ga G 4)), (1, .int a), (2, .int b), (3, .int (nI dp)), (4, .int mt), (5, .int r_50), (6, .int (nI i))] ∧ g = F0 m 170 ls []) ?_ ?_ 6 _ _ _ _ _ ⟨S_5, T, V, X, Y, (Z + 1), (q + 1), 0, 0, ls, hC, hh, hpp, aw_8t, by omega, ur2, rfl, rfl, hP, hD, hS, lv_sub hl [3, 4, 5, 6, 2, 1, 0] rfl, rfl⟩
        · intro H locs k sl g hI
          obtain ⟨S1, T1, V1, X1, Y1, Z1, q1, mt, i, ls, hC, hh, hpp, hAW, hp0, hp1, rfl, rfl, hP, hD, hS, hl, rfl⟩ := hI
          have x15 : kK S1 15 = 0 := (hAW.2.1 15 (lt35 (by decide)) (by decide)).2.trans h15
          refine lv_iload hx hb dX5_under_170 (lv_at hl 6 rfl) ?_
          refine lv_iload hx hb dX5_under_172 (lv_at hl 5 rfl) ?_
          refine lv_icmp_ge (tgt := 241) hx hb dX5_under_174 (by decide) (fun c_54 => ?_) (fun c_54 => absurd (Int32.le_trans hw_52 (show (6 : Int32) ≤ nI i by rw [show i = 6 by omega]; decide)) c_54)
          refine lv_iload hx hb dX5_under_241 (lv_at hl 4 rfl) ?_
          exact c_iret (v := mt) hx hb hr hK hP hD hS hC hh hpp ⟨hAW, ⟨_, _, _, _, _, _, hp1⟩⟩ dX5_under_243 hlocks
        · intro j ih9 H locs k sl g hI
          obtain ⟨S1, T1, V1, X1, Y1, Z1, q1, mt, i, ls, hC, hh, hpp, hAW, hp0, hp1, rfl, rfl, hP, hD, hS, hl, rfl⟩ := hI
          have x15 : kK S1 15 = 0 := (hAW.2.1 15 (lt35 (by decide)) (by decide)).2.trans h15
          have i5 : i ≤ 5 := by omega
          refine lv_iload hx hb dX5_under_170 (lv_at hl 6 rfl) ?_
          refine lv_iload hx hb dX5_under_172 (lv_at hl 5 rfl) ?_
          refine lv_icmp_ge (tgt := 241) hx hb dX5_under_174 (by decide) (fun c_55 => ?_) (fun c_55 => ?_)
          · skip
            refine lv_iload hx hb dX5_under_241 (lv_at hl 4 rfl) ?_
            exact c_iret (v := mt) hx hb hr hK hP hD hS hC hh hpp ⟨hAW, ⟨_, _, _, _, _, _, hp1⟩⟩ dX5_under_243 hlocks
          · skip
            refine lv_iload hx hb dX5_under_177 (lv_at hl 4 rfl) ?_
            refine lv_if_ne (tgt := 241) hx hb dX5_under_179 (by decide) (fun c_56 => ?_) (fun c_56 => ?_)
            · skip
              refine lv_iload hx hb dX5_under_241 (lv_at hl 4 rfl) ?_
              exact c_iret (v := mt) hx hb hr hK hP hD hS hC hh hpp ⟨hAW, ⟨_, _, _, _, _, _, hp1⟩⟩ dX5_under_243 hlocks
            · skip
              obtain ⟨hok, hokl⟩ := hp1.ok c_56
              refine lv_aload_n hx hb dX5_under_182 rfl (lv_at hl 0 rfl) ?_
              refine va_get (D := gD G) (ci := 5) (v := .ref (ga G 2)) (C := RX5) (T := TX5) (N := 15) hx hb htu cu_in5 hown hK hP 4 cw_4 rfl 1 (by decide) (htu _ C_45) (fun _ h9 => h9) rfl dX5_under_183 ?_
              refine lv_iload_n hx hb dX5_under_186 rfl (lv_at hl 1 rfl) ?_
              refine lv_aload_n hx hb dX5_under_187 rfl (lv_at hl 0 rfl) ?_
              refine va_get (D := gD G) (ci := 5) (v := .ref (ga G 2)) (C := RX5) (T := TX5) (N := 15) hx hb htu cu_in5 hown hK hP 4 cw_4 rfl 1 (by decide) (htu _ C_45) (fun _ h9 => h9) rfl dX5_under_188 ?_
              refine lv_iload_n hx hb dX5_under_191 rfl (lv_at hl 2 rfl) ?_
              refine lv_iload hx hb dX5_under_192 (lv_at hl 6 rfl) ?_
              have hC0 := hC
              refine c_ci (c_runV (As := [.int b, .int (nI i)]) (rest := [.int a, .ref (ga G 2)]) (q0 := 2) (ci := 4) ⟨hx, hb, hml, hown, htu⟩ (y_labelAt l G S1 b (nI i) hC  H) (cwV 2 htu hU_X5_187 rfl rfl rfl (by decide +kernel) ⟨show 1 + 1 ≤ (fu + 1) + 70 by omega, show 8 + (3 + 11) + 21 ≤ 40 * (fu + 1) + 3000 by omega⟩) hP hK hD hC hpp cw_2 rfl rfl hl.1 rfl (lv_room (Nat.le_of_ble_eq_true rfl)) dX5_under_194) hS hD hh hpp (fun r_57 S_58 H locs hw_59 hP hD hS hC hh hs_60 hpp => ?_)
              obtain ⟨-, hu9⟩ := hw_59
              have hu9 := hu9.symm
              subst hu9
              have hC0 := hC
              refine c_ci (c_runV (As := [.int a, .int r_57]) (rest := []) (q0 := 2) (ci := 4) ⟨hx, hb, hml, hown, htu⟩ (y_partBy l G S1 T1 V1 V1 X1 Y Z1 a r_57 hC hok.1.1 H) (cwV 2 htu hU_X5_190 rfl rfl rfl (by decide +kernel) ⟨show 2 + 1 ≤ (fu + 1) + 70 by omega, show 8 + (5 + 11) + 43 ≤ 40 * (fu + 1) + 3000 by omega⟩) hP hK hD hC hpp cw_2 rfl rfl hl.1 rfl (lv_room (Nat.le_of_ble_eq_true rfl)) dX5_under_197) hS hD hh hpp (fun r_61 S_62 H locs hw_63 hP hD hS hC hh hs_64 hpp => ?_)
              obtain ⟨-, hu9⟩ := hw_63
              have hu9 := hu9.symm
              subst hu9
              refine lv_istore (lv' := [(7, .int r_61), (0, .ref (ga G 4)), (1, .int a), (2, .int b), (3, .int (nI dp)), (4, .int mt), (5, .int r_50), (6, .int (nI i))]) hx hb dX5_under_200 hl (by decide) rfl (fun ls hl => ?_)
              refine lv_iload hx hb dX5_under_202 (lv_at hl 0 rfl) ?_
              refine lv_bipush (v := (-9)) hx hb dX5_under_204 (by decide) ?_
              refine lv_icmp_ne (tgt := 214) hx hb dX5_under_206 (by decide) (fun c_65 => ?_) (fun c_65 => ?_)
              · skip
                refine lv_aload_n hx hb dX5_under_214 rfl (lv_at hl 1 rfl) ?_
                refine lv_iload hx hb dX5_under_215 (lv_at hl 0 rfl) ?_
                refine lv_aload_n hx hb dX5_under_217 rfl (lv_at hl 1 rfl) ?_
                refine va_get (D := gD G) (ci := 5) (v := .ref (ga G 2)) (C := RX5) (T := TX5) (N := 15) hx hb htu cu_in5 hown hK hP 4 cw_4 rfl 1 (by decide) (htu _ C_45) (fun _ h9 => h9) rfl dX5_under_218 ?_
                refine lv_iload_n hx hb dX5_under_221 rfl (lv_at hl 3 rfl) ?_
                refine lv_iload hx hb dX5_under_222 (lv_at hl 7 rfl) ?_
                have hC0 := hC
                refine c_ci (c_runV (As := [.int b, .int (nI i)]) (rest := [.int r_61, .ref (ga G 4)]) (q0 := 2) (ci := 4) ⟨hx, hb, hml, hown, htu⟩ (y_partAt l G S1 b (nI i) hC  H) (cwV 2 htu hU_X5_193 rfl rfl rfl (by decide +kernel) ⟨show 1 + 1 ≤ (fu + 1) + 70 by omega, show 8 + (3 + 11) + 21 ≤ 40 * (fu + 1) + 3000 by omega⟩) hP hK hD hC hpp cw_2 rfl rfl hl.1 rfl (lv_room (Nat.le_of_ble_eq_true rfl)) dX5_under_224) hS hD hh hpp (fun r_66 S_67 H locs hw_68 hP hD hS hC hh hs_69 hpp => ?_)
                obtain ⟨-, hu9⟩ := hw_68
                have hu9 := hu9.symm
                subst hu9
                refine lv_iload_n hx hb dX5_under_227 rfl (lv_at hl 4 rfl) ?_
                refine lv_iconst (v := 1) hx hb dX5_under_228 (by decide) ?_
                refine lv_iadd hx hb dX5_under_229 ?_
                refine m_top (y := nI (dp + 1)) (nI_add dp 1) ?_
                have hC0 := hC
                refine c_ci (c_runV (As := [.int r_61, .int r_66, .int (nI (dp + 1))]) (rest := []) (q0 := 4) (ci := 5) ⟨hx, hb, hml, hown, htu⟩ (ih l G S1 T1 V1 X1 Y Z1 q1 (dp + 1) r_61 r_66 hC hok.1 ((by omega)) x15 ((by omega)) hY2 H) (cwV 3 htu hU_X5_150 rfl rfl rfl (by decide +kernel) ⟨show (fu + 70) + 1 ≤ (fu + 1) + 70 by omega, show 8 + (8 + 11) + (40 * fu + 3000) ≤ 40 * (fu + 1) + 3000 by omega⟩) hP hK hD hC hpp cw_4 rfl rfl hl.1 rfl (lv_room (Nat.le_of_ble_eq_true rfl)) dX5_under_230) hS hD hh hpp (fun r_70 S_71 H locs hw_72 hP hD hS hC hh hs_73 hpp => ?_)
                try dsimp only at hw_72
                have aw_74 : AW [6, 7, 8, 9, 16, 14, 10, 11, 12, 13, 17, 18, 25, 26, 35] [8, 9, 10, 12] S1 S_71 := hw_72.1
                have aw_74t : AW [6, 7, 8, 9, 16, 14, 10, 11, 12, 13, 17, 18, 25, 26, 35] [8, 9, 10, 12] S S_71 := hAW.tr (aw_74.mono (by decide) (by decide))
                have kk_75 : kK S_71 15 = 0 := (aw_74.2.1 15 (lt35 (by decide)) (by decide)).2.trans x15
                have ux_76x := hok.tr hw_72.2
                obtain ⟨ux_76T, ux_76V, ux_76X, ux_76Y, ux_76Z, ux_76q, ux_76⟩ := id ux_76x
                refine lv_istore (lv' := [(4, .int r_70), (7, .int r_61), (0, .ref (ga G 4)), (1, .int a), (2, .int b), (3, .int (nI dp)), (5, .int r_50), (6, .int (nI i))]) hx hb dX5_under_233 hl (by decide) rfl (fun ls hl => ?_)
                refine lv_iinc (v := nI (i + 1)) (lv' := [(6, .int (nI (i + 1))), (4, .int r_70), (7, .int r_61), (0, .ref (ga G 4)), (1, .int a), (2, .int b), (3, .int (nI dp)), (5, .int r_50)]) hx hb dX5_under_235 hl (k := 7) rfl (nI_1 i) (by decide) rfl (fun ls hl => ?_)
                refine lv_goto (tgt := 170) hx hb dX5_under_238 (by decide) ?_
                exact ih9 _ _ _ _ _ ⟨S_71, ux_76T, ux_76V, ux_76X, ux_76Y, ux_76Z, ux_76q, r_70, i + 1, ls, hC, hh, hpp, aw_74t, by omega, ux_76, rfl, rfl, hP, hD, hS, lv_sub hl [3, 4, 5, 6, 1, 7, 0] rfl, rfl⟩
              · skip
                refine lv_bipush (v := (-7)) hx hb dX5_under_209 (by decide) ?_
                refine lv_goto (tgt := 233) hx hb dX5_under_211 (by decide) ?_
                refine lv_istore (lv' := [(4, .int ((-7))), (7, .int r_61), (0, .ref (ga G 4)), (1, .int a), (2, .int b), (3, .int (nI dp)), (5, .int r_50), (6, .int (nI i))]) hx hb dX5_under_233 hl (by decide) rfl (fun ls hl => ?_)
                refine lv_iinc (v := nI (i + 1)) (lv' := [(6, .int (nI (i + 1))), (4, .int ((-7))), (7, .int r_61), (0, .ref (ga G 4)), (1, .int a), (2, .int b), (3, .int (nI dp)), (5, .int r_50)]) hx hb dX5_under_235 hl (k := 7) rfl (nI_1 i) (by decide) rfl (fun ls hl => ?_)
                refine lv_goto (tgt := 170) hx hb dX5_under_238 (by decide) ?_
                exact ih9 _ _ _ _ _ ⟨S1, T1, V1, X1, Y, Z1, q1, (-7), i + 1, ls, hC, hh, hpp, hAW, by omega, hok.bad (by decide), rfl, rfl, hP, hD, hS, lv_sub hl [3, 4, 5, 6, 1, 7, 0] rfl, rfl⟩
      · skip
        subst wd_18
        refine lv_tableOut (tgt := 488) hx hb dX5_under_52 (by decide) (by decide) ?_
        refine lv_bipush (v := (-7)) hx hb dX5_under_488 (by decide) ?_
        exact c_iret (v := (-7)) hx hb hr hK hP hD hS hC hh hpp ⟨aw_8t, ⟨_, _, _, _, _, _, ur2.bad (by decide)⟩⟩ dX5_under_490 hlocks
      · skip
        subst wd_18
        refine lv_tableIn (tgt := 244) hx hb dX5_under_52 (by decide) (by decide) (by rfl) (by decide) ?_
        refine lv_aload_n hx hb dX5_under_244 rfl (lv_at hl 1 rfl) ?_
        refine va_get (D := gD G) (ci := 5) (v := .ref (ga G 2)) (C := RX5) (T := TX5) (N := 15) hx hb htu cu_in5 hown hK hP 4 cw_4 rfl 1 (by decide) (htu _ C_45) (fun _ h9 => h9) rfl dX5_under_245 ?_
        refine lv_iload_n hx hb dX5_under_248 rfl (lv_at hl 2 rfl) ?_
        refine lv_iconst (v := 1) hx hb dX5_under_249 (by decide) ?_
        have hC0 := hC
        refine c_cr (c_runV (As := [.int a, .int 1]) (rest := []) (q0 := 2) (ci := 4) ⟨hx, hb, hml, hown, htu⟩ (y_boundsOf l G S_5 T V V X Y (Z + 1) a 1 hC ty_11 ((Nat.le_refl _)) ((by decide)) H) (cwV 2 htu hU_X5_196 rfl rfl rfl (by decide +kernel) ⟨show 1 + 1 ≤ (fu + 1) + 70 by omega, show 8 + (5 + 11) + 21 ≤ 40 * (fu + 1) + 3000 by omega⟩) hP hK hD hC hpp cw_2 rfl rfl hl.1 rfl (lv_room (Nat.le_of_ble_eq_true rfl)) dX5_under_250) hS hD hh hpp (fun r_77 S_78 H locs hw_79 hP hD hS hC hh hs_80 hpp => ?_)
        obtain ⟨-, hu9, hw_79⟩ := hw_79
        have hu9 := hu9.symm
        subst hu9
        obtain ⟨br_81r, br_81e, br_811⟩ := hw_79
        have br_81b := ty_11.2.1.2.2.1
        have br_81l : br_81r < 35 + kB S_5 := bnd_lt br_811 br_81b (by decide)
        have br_81h : kH S_5 br_81r = r_77 := br_81e.symm
        refine lv_iload_n hx hb dX5_under_253 rfl (lv_at hl 3 rfl) ?_
        obtain ⟨lk_82w, lk_821, lk_822⟩ := bnd_of br_811 wd_18s
        have lk_82b := tb2 (2 * lk_82w + 1) (by omega)
        have hC0 := hC
        refine c_cv (c_runV (As := [.int b]) (rest := []) (q0 := (2 * br_81r + 13)) (ci := 0) ⟨hx, hb, hml, hown, htu⟩ (c_addA l G S_5 br_81r br_81l hC r_77 br_81h b (by rw [lk_822, lim_b (Nat.le_add_right 35 _)]; omega) H) (cwV 1 htu hU_X5_200 rfl rfl rfl (by decide +kernel) ⟨show 2 + 1 ≤ (fu + 1) + 70 by omega, show 8 + (2 + 11) + 82 ≤ 40 * (fu + 1) + 3000 by omega⟩) hP hK hD hC hpp (c_hd br_81h (cw_row br_81l)) rfl rfl hl.1 rfl (lv_room (Nat.le_of_ble_eq_true rfl)) dX5_under_254) hS hD hh hpp (fun S_84 H locs hw_85 hP hD hS hC hh hs_86 hpp => ?_)
        try dsimp only at hw_85
        have aw_87 : AW [35] [] S_5 S_84 := (by obtain ⟨_, _, _, h9, -, -⟩ := hw_85; rw [h9]; exact AW.u (by first | (simp; omega) | simp))
        have aw_87t : AW [6, 7, 8, 9, 16, 14, 10, 11, 12, 13, 17, 18, 25, 26, 35] [8, 9, 10, 12] S S_84 := aw_8t.tr (aw_87.mono (by decide) (by decide))
        have kk_88 : kK S_84 15 = 0 := (aw_87.2.1 15 (lt35 (by decide)) (by decide)).2.trans kk_9
        have ii_89 : S_84.1 12 = nI (q + 1) := (aw_87.1 12 (by decide)).trans ii_10
        have ha_90r : br_81r < 35 + kB S_84 := by have := hs_86.1; have := br_81l; omega
        have ha_90 : kH S_84 br_81r = r_77 := (hs_86.2 br_81r br_81l).trans br_81h
        have ty_91 := TY.aw ty_11 aw_87 (by decide)
        obtain ⟨ad_92n, ad_92q, ad_92g, ad_92u, ad_921, ad_922⟩ := hw_85
        have us_93 := US.push ty_11 e12b (Nat.succ_le_succ hZq) tb2 rfl ad_92u lk_822 (by omega)
        have ur3 : UR S_84 T V Y q T V X Y (Z + 1) (q + 1) 0 := ⟨us_93, ur2.2⟩
        refine lv_aload_n hx hb dX5_under_257 rfl (lv_at hl 1 rfl) ?_
        refine va_get (D := gD G) (ci := 5) (v := .ref (ga G 2)) (C := RX5) (T := TX5) (N := 15) hx hb htu cu_in5 hown hK hP 4 cw_4 rfl 1 (by decide) (htu _ C_45) (fun _ h9 => h9) rfl dX5_under_258 ?_
        refine lv_iload_n hx hb dX5_under_261 rfl (lv_at hl 2 rfl) ?_
        refine lv_iconst (v := 0) hx hb dX5_under_262 (by decide) ?_
        have hC0 := hC
        refine c_cr (c_runV (As := [.int a, .int 0]) (rest := []) (q0 := 2) (ci := 4) ⟨hx, hb, hml, hown, htu⟩ (y_boundsOf l G S_84 T V V X Y (Z + 1) a 0 hC ty_91 ((Nat.le_refl _)) ((by decide)) H) (cwV 2 htu hU_X5_196 rfl rfl rfl (by decide +kernel) ⟨show 1 + 1 ≤ (fu + 1) + 70 by omega, show 8 + (5 + 11) + 21 ≤ 40 * (fu + 1) + 3000 by omega⟩) hP hK hD hC hpp cw_2 rfl rfl hl.1 rfl (lv_room (Nat.le_of_ble_eq_true rfl)) dX5_under_263) hS hD hh hpp (fun r_94 S_95 H locs hw_96 hP hD hS hC hh hs_97 hpp => ?_)
        obtain ⟨-, hu9, hw_96⟩ := hw_96
        have hu9 := hu9.symm
        subst hu9
        obtain ⟨br_98r, br_98e, br_981⟩ := hw_96
        have br_98b := ty_91.2.1.2.2.1
        have br_98l : br_98r < 35 + kB S_84 := bnd_lt br_981 br_98b (by decide)
        have br_98h : kH S_84 br_98r = r_94 := br_98e.symm
        refine lv_astore (lv' := [(5, .ref r_94), (4, .int 0), (0, .ref (ga G 4)), (1, .int a), (2, .int b), (3, .int (nI dp))]) hx hb dX5_under_266 hl (by decide) rfl (fun ls hl => ?_)
        refine lv_aload hx hb dX5_under_268 (lv_at hl 0 rfl) ?_
        refine va_get (D := gD G) (ci := 0) (v := .int (nI (kK S_84 br_98r))) (C := RX0) (T := TX0) (N := 2) hx hb htu cu_in0 hown hK hP (2 * br_98r + 13) (c_hd br_98h (cw_row br_98l)) rfl 1 (by decide) (htu _ C_313) (fun _ h9 => h9) rfl dX5_under_270 ?_
        refine lv_istore (lv' := [(6, .int (nI (kK S_84 br_98r))), (5, .ref r_94), (4, .int 0), (0, .ref (ga G 4)), (1, .int a), (2, .int b), (3, .int (nI dp))]) hx hb dX5_under_273 hl (by decide) rfl (fun ls hl => ?_)
        refine lv_iconst (v := 0) hx hb dX5_under_275 (by decide) ?_
        refine lv_istore (lv' := [(7, .int 0), (6, .int (nI (kK S_84 br_98r))), (5, .ref r_94), (4, .int 0), (0, .ref (ga G 4)), (1, .int a), (2, .int b), (3, .int (nI dp))]) hx hb dX5_under_276 hl (by decide) rfl (fun ls hl => ?_)
        obtain ⟨ah, eah⟩ : ∃ x, x = kK S_84 br_98r := ⟨_, rfl⟩
        have hah : ah < 5000 := by rw [eah]; exact kK_lt hC br_98l
        rw [← eah] at hl
        refine w_loop (fun j H locs k sl g => ∃ (S1 : cS) (T1 : Nat) (V1 : Nat) (X1 : Nat) (Y1 : Nat) (Z1 : Nat) (q1 : Nat) (mt : Int32) (i : Nat) (ls : Array Slot), CL S1 ∧ HS S S1 ∧ PT S ≤ PT S1 ∧ AW [6, 7, 8, 9, 16, 14, 10, 11, 12, 13, 17, 18, 25, 26, 35] [8, 9, 10, 12] S S1 ∧ i + j = ah ∧ UR S1 T V Y q T1 V1 X1 Y1 Z1 q1 mt ∧ kH S1 br_98r = r_94 ∧ br_98r < 35 + kB S1 ∧ k = PT S1 - PT S ∧ sl = 12 * (PT S1 - PT S) ∧ cP G S1 H ∧ cD (cA G S s.heap.size) G S1 ∧ va_S (cA G S s.heap.size) s.heap H locs ∧ lv_has ls 8 [(0, .ref (ga G 4)), (1, .int a), (2, .int b), (3, .int (nI dp)), (4, .int mt), (5, .ref r_94), (6, .int (nI ah)), (7, .int (nI i))] ∧ g = F0 m 278 ls []) ?_ ?_ ah _ _ _ _ _ ⟨S_84, T, V, X, Y, (Z + 1), (q + 1), 0, 0, ls, hC, hh, hpp, aw_87t, by omega, ur3, br_98h, br_98l, rfl, rfl, hP, hD, hS, lv_sub hl [4, 5, 6, 7, 3, 2, 1, 0] rfl, rfl⟩
        · intro H locs k sl g hI
          obtain ⟨S1, T1, V1, X1, Y1, Z1, q1, mt, i, ls, hC, hh, hpp, hAW, hp0, hp1, hp2, hp3, rfl, rfl, hP, hD, hS, hl, rfl⟩ := hI
          have x15 : kK S1 15 = 0 := (hAW.2.1 15 (lt35 (by decide)) (by decide)).2.trans h15
          refine lv_iload hx hb dX5_under_278 (lv_at hl 7 rfl) ?_
          refine lv_iload hx hb dX5_under_280 (lv_at hl 6 rfl) ?_
          refine lv_icmp_ge (tgt := 313) hx hb dX5_under_282 (by decide) (fun c_99 => ?_) (fun c_99 => absurd (nI_le (by omega) (by omega)) c_99)
          refine lv_iload hx hb dX5_under_313 (lv_at hl 4 rfl) ?_
          exact c_iret (v := mt) hx hb hr hK hP hD hS hC hh hpp ⟨hAW, ⟨_, _, _, _, _, _, hp1⟩⟩ dX5_under_315 hlocks
        · intro j ih9 H locs k sl g hI
          obtain ⟨S1, T1, V1, X1, Y1, Z1, q1, mt, i, ls, hC, hh, hpp, hAW, hp0, hp1, hp2, hp3, rfl, rfl, hP, hD, hS, hl, rfl⟩ := hI
          have x15 : kK S1 15 = 0 := (hAW.2.1 15 (lt35 (by decide)) (by decide)).2.trans h15
          have ilt : i < ah := by omega
          refine lv_iload hx hb dX5_under_278 (lv_at hl 7 rfl) ?_
          refine lv_iload hx hb dX5_under_280 (lv_at hl 6 rfl) ?_
          refine lv_icmp_ge (tgt := 313) hx hb dX5_under_282 (by decide) (fun c_100 => absurd c_100 (nI_ge (by omega) (by omega))) (fun c_100 => ?_)
          refine lv_iload hx hb dX5_under_285 (lv_at hl 4 rfl) ?_
          refine lv_if_ne (tgt := 313) hx hb dX5_under_287 (by decide) (fun c_101 => ?_) (fun c_101 => ?_)
          · skip
            refine lv_iload hx hb dX5_under_313 (lv_at hl 4 rfl) ?_
            exact c_iret (v := mt) hx hb hr hK hP hD hS hC hh hpp ⟨hAW, ⟨_, _, _, _, _, _, hp1⟩⟩ dX5_under_315 hlocks
          · skip
            obtain ⟨hok, hokl⟩ := hp1.ok c_101
            refine lv_aload_n hx hb dX5_under_290 rfl (lv_at hl 0 rfl) ?_
            refine lv_aload hx hb dX5_under_291 (lv_at hl 5 rfl) ?_
            refine lv_iload hx hb dX5_under_293 (lv_at hl 7 rfl) ?_
            have hC0 := hC
            refine c_ci (c_runV (As := [.int (nI i)]) (rest := [.ref (ga G 4)]) (q0 := (2 * br_98r + 13)) (ci := 0) ⟨hx, hb, hml, hown, htu⟩ (c_getA l G S1 br_98r hp3 hC r_94 hp2 (nI i) H) (cwV 1 htu hU_X5_124 rfl rfl rfl (by decide +kernel) ⟨show 0 + 1 ≤ (fu + 1) + 70 by omega, show 8 + (2 + 11) + 0 ≤ 40 * (fu + 1) + 3000 by omega⟩) hP hK hD hC hpp (c_hd hp2 (cw_row hp3)) rfl rfl hl.1 rfl (lv_room (Nat.le_of_ble_eq_true rfl)) dX5_under_295) hS hD hh hpp (fun r_102 S_103 H locs hw_104 hP hD hS hC hh hs_105 hpp => ?_)
            obtain ⟨hu9, hw_104⟩ := hw_104
            have hu9 := hu9.symm
            subst hu9
            refine lv_iload_n hx hb dX5_under_298 rfl (lv_at hl 2 rfl) ?_
            refine lv_iload_n hx hb dX5_under_299 rfl (lv_at hl 3 rfl) ?_
            refine lv_iconst (v := 1) hx hb dX5_under_300 (by decide) ?_
            refine lv_iadd hx hb dX5_under_301 ?_
            refine m_top (y := nI (dp + 1)) (nI_add dp 1) ?_
            have hC0 := hC
            refine c_ci (c_runV (As := [.int r_102, .int b, .int (nI (dp + 1))]) (rest := []) (q0 := 4) (ci := 5) ⟨hx, hb, hml, hown, htu⟩ (ih l G S1 T1 V1 X1 Y Z1 q1 (dp + 1) r_102 b hC hok.1 ((by omega)) x15 ((by omega)) hY2 H) (cwV 3 htu hU_X5_150 rfl rfl rfl (by decide +kernel) ⟨show (fu + 70) + 1 ≤ (fu + 1) + 70 by omega, show 8 + (8 + 11) + (40 * fu + 3000) ≤ 40 * (fu + 1) + 3000 by omega⟩) hP hK hD hC hpp cw_4 rfl rfl hl.1 rfl (lv_room (Nat.le_of_ble_eq_true rfl)) dX5_under_302) hS hD hh hpp (fun r_106 S_107 H locs hw_108 hP hD hS hC hh hs_109 hpp => ?_)
            try dsimp only at hw_108
            have aw_110 : AW [6, 7, 8, 9, 16, 14, 10, 11, 12, 13, 17, 18, 25, 26, 35] [8, 9, 10, 12] S1 S_107 := hw_108.1
            have aw_110t : AW [6, 7, 8, 9, 16, 14, 10, 11, 12, 13, 17, 18, 25, 26, 35] [8, 9, 10, 12] S S_107 := hAW.tr (aw_110.mono (by decide) (by decide))
            have kk_111 : kK S_107 15 = 0 := (aw_110.2.1 15 (lt35 (by decide)) (by decide)).2.trans x15
            have ha_112r : br_98r < 35 + kB S_107 := by have := hs_109.1; have := hp3; omega
            have ha_112 : kH S_107 br_98r = r_94 := (hs_109.2 br_98r hp3).trans hp2
            have ux_113x := hok.tr hw_108.2
            obtain ⟨ux_113T, ux_113V, ux_113X, ux_113Y, ux_113Z, ux_113q, ux_113⟩ := id ux_113x
            refine lv_istore (lv' := [(4, .int r_106), (0, .ref (ga G 4)), (1, .int a), (2, .int b), (3, .int (nI dp)), (5, .ref r_94), (6, .int (nI ah)), (7, .int (nI i))]) hx hb dX5_under_305 hl (by decide) rfl (fun ls hl => ?_)
            refine lv_iinc (v := nI (i + 1)) (lv' := [(7, .int (nI (i + 1))), (4, .int r_106), (0, .ref (ga G 4)), (1, .int a), (2, .int b), (3, .int (nI dp)), (5, .ref r_94), (6, .int (nI ah))]) hx hb dX5_under_307 hl (k := 7) rfl (nI_1 i) (by decide) rfl (fun ls hl => ?_)
            refine lv_goto (tgt := 278) hx hb dX5_under_310 (by decide) ?_
            exact ih9 _ _ _ _ _ ⟨S_107, ux_113T, ux_113V, ux_113X, ux_113Y, ux_113Z, ux_113q, r_106, i + 1, ls, hC, hh, hpp, aw_110t, by omega, ux_113, ha_112, ha_112r, rfl, rfl, hP, hD, hS, lv_sub hl [2, 3, 4, 5, 1, 6, 7, 0] rfl, rfl⟩
      · skip
        subst wd_18
        refine lv_tableIn (tgt := 316) hx hb dX5_under_52 (by decide) (by decide) (by rfl) (by decide) ?_
        refine lv_aload_n hx hb dX5_under_316 rfl (lv_at hl 1 rfl) ?_
        refine va_get (D := gD G) (ci := 5) (v := .ref (ga G 2)) (C := RX5) (T := TX5) (N := 15) hx hb htu cu_in5 hown hK hP 4 cw_4 rfl 1 (by decide) (htu _ C_45) (fun _ h9 => h9) rfl dX5_under_317 ?_
        refine lv_iload_n hx hb dX5_under_320 rfl (lv_at hl 3 rfl) ?_
        refine lv_iconst (v := 0) hx hb dX5_under_321 (by decide) ?_
        have hC0 := hC
        refine c_cr (c_runV (As := [.int b, .int 0]) (rest := []) (q0 := 2) (ci := 4) ⟨hx, hb, hml, hown, htu⟩ (y_boundsOf l G S_5 T V V X Y (Z + 1) b 0 hC ty_11 ((Nat.le_refl _)) ((by decide)) H) (cwV 2 htu hU_X5_196 rfl rfl rfl (by decide +kernel) ⟨show 1 + 1 ≤ (fu + 1) + 70 by omega, show 8 + (5 + 11) + 21 ≤ 40 * (fu + 1) + 3000 by omega⟩) hP hK hD hC hpp cw_2 rfl rfl hl.1 rfl (lv_room (Nat.le_of_ble_eq_true rfl)) dX5_under_322) hS hD hh hpp (fun r_114 S_115 H locs hw_116 hP hD hS hC hh hs_117 hpp => ?_)
        obtain ⟨-, hu9, hw_116⟩ := hw_116
        have hu9 := hu9.symm
        subst hu9
        obtain ⟨br_118r, br_118e, br_1181⟩ := hw_116
        have br_118b := ty_11.2.1.2.2.1
        have br_118l : br_118r < 35 + kB S_5 := bnd_lt br_1181 br_118b (by decide)
        have br_118h : kH S_5 br_118r = r_114 := br_118e.symm
        refine lv_iload_n hx hb dX5_under_325 rfl (lv_at hl 2 rfl) ?_
        obtain ⟨lk_119w, lk_1191, lk_1192⟩ := bnd_of br_1181 wd_18s
        have lk_119b := tb2 (2 * lk_119w + 0) (by omega)
        have hC0 := hC
        refine c_cv (c_runV (As := [.int a]) (rest := []) (q0 := (2 * br_118r + 13)) (ci := 0) ⟨hx, hb, hml, hown, htu⟩ (c_addA l G S_5 br_118r br_118l hC r_114 br_118h a (by rw [lk_1192, lim_b (Nat.le_add_right 35 _)]; omega) H) (cwV 1 htu hU_X5_200 rfl rfl rfl (by decide +kernel) ⟨show 2 + 1 ≤ (fu + 1) + 70 by omega, show 8 + (2 + 11) + 82 ≤ 40 * (fu + 1) + 3000 by omega⟩) hP hK hD hC hpp (c_hd br_118h (cw_row br_118l)) rfl rfl hl.1 rfl (lv_room (Nat.le_of_ble_eq_true rfl)) dX5_under_326) hS hD hh hpp (fun S_121 H locs hw_122 hP hD hS hC hh hs_123 hpp => ?_)
        try dsimp only at hw_122
        have aw_124 : AW [35] [] S_5 S_121 := (by obtain ⟨_, _, _, h9, -, -⟩ := hw_122; rw [h9]; exact AW.u (by first | (simp; omega) | simp))
        have aw_124t : AW [6, 7, 8, 9, 16, 14, 10, 11, 12, 13, 17, 18, 25, 26, 35] [8, 9, 10, 12] S S_121 := aw_8t.tr (aw_124.mono (by decide) (by decide))
        have kk_125 : kK S_121 15 = 0 := (aw_124.2.1 15 (lt35 (by decide)) (by decide)).2.trans kk_9
        have ii_126 : S_121.1 12 = nI (q + 1) := (aw_124.1 12 (by decide)).trans ii_10
        have ha_127r : br_118r < 35 + kB S_121 := by have := hs_123.1; have := br_118l; omega
        have ha_127 : kH S_121 br_118r = r_114 := (hs_123.2 br_118r br_118l).trans br_118h
        have ty_128 := TY.aw ty_11 aw_124 (by decide)
        obtain ⟨ad_129n, ad_129q, ad_129g, ad_129u, ad_1291, ad_1292⟩ := hw_122
        have us_130 := US.push ty_11 e12b (Nat.succ_le_succ hZq) tb2 rfl ad_129u lk_1192 (by omega)
        have ur3 : UR S_121 T V Y q T V X Y (Z + 1) (q + 1) 0 := ⟨us_130, ur2.2⟩
        refine lv_aload_n hx hb dX5_under_329 rfl (lv_at hl 1 rfl) ?_
        refine va_get (D := gD G) (ci := 5) (v := .ref (ga G 2)) (C := RX5) (T := TX5) (N := 15) hx hb htu cu_in5 hown hK hP 4 cw_4 rfl 1 (by decide) (htu _ C_45) (fun _ h9 => h9) rfl dX5_under_330 ?_
        refine lv_iload_n hx hb dX5_under_333 rfl (lv_at hl 3 rfl) ?_
        refine lv_iconst (v := 1) hx hb dX5_under_334 (by decide) ?_
        have hC0 := hC
        refine c_cr (c_runV (As := [.int b, .int 1]) (rest := []) (q0 := 2) (ci := 4) ⟨hx, hb, hml, hown, htu⟩ (y_boundsOf l G S_121 T V V X Y (Z + 1) b 1 hC ty_128 ((Nat.le_refl _)) ((by decide)) H) (cwV 2 htu hU_X5_196 rfl rfl rfl (by decide +kernel) ⟨show 1 + 1 ≤ (fu + 1) + 70 by omega, show 8 + (5 + 11) + 21 ≤ 40 * (fu + 1) + 3000 by omega⟩) hP hK hD hC hpp cw_2 rfl rfl hl.1 rfl (lv_room (Nat.le_of_ble_eq_true rfl)) dX5_under_335) hS hD hh hpp (fun r_131 S_132 H locs hw_133 hP hD hS hC hh hs_134 hpp => ?_)
        obtain ⟨-, hu9, hw_133⟩ := hw_133
        have hu9 := hu9.symm
        subst hu9
        obtain ⟨br_135r, br_135e, br_1351⟩ := hw_133
        have br_135b := ty_128.2.1.2.2.1
        have br_135l : br_135r < 35 + kB S_121 := bnd_lt br_1351 br_135b (by decide)
        have br_135h : kH S_121 br_135r = r_131 := br_135e.symm
        refine lv_astore (lv' := [(5, .ref r_131), (4, .int 0), (0, .ref (ga G 4)), (1, .int a), (2, .int b), (3, .int (nI dp))]) hx hb dX5_under_338 hl (by decide) rfl (fun ls hl => ?_)
        refine lv_aload hx hb dX5_under_340 (lv_at hl 0 rfl) ?_
        refine va_get (D := gD G) (ci := 0) (v := .int (nI (kK S_121 br_135r))) (C := RX0) (T := TX0) (N := 2) hx hb htu cu_in0 hown hK hP (2 * br_135r + 13) (c_hd br_135h (cw_row br_135l)) rfl 1 (by decide) (htu _ C_313) (fun _ h9 => h9) rfl dX5_under_342 ?_
        refine lv_istore (lv' := [(6, .int (nI (kK S_121 br_135r))), (5, .ref r_131), (4, .int 0), (0, .ref (ga G 4)), (1, .int a), (2, .int b), (3, .int (nI dp))]) hx hb dX5_under_345 hl (by decide) rfl (fun ls hl => ?_)
        refine lv_iconst (v := 0) hx hb dX5_under_347 (by decide) ?_
        refine lv_istore (lv' := [(7, .int 0), (6, .int (nI (kK S_121 br_135r))), (5, .ref r_131), (4, .int 0), (0, .ref (ga G 4)), (1, .int a), (2, .int b), (3, .int (nI dp))]) hx hb dX5_under_348 hl (by decide) rfl (fun ls hl => ?_)
        obtain ⟨ah, eah⟩ : ∃ x, x = kK S_121 br_135r := ⟨_, rfl⟩
        have hah : ah < 5000 := by rw [eah]; exact kK_lt hC br_135l
        rw [← eah] at hl
        refine w_loop (fun j H locs k sl g => ∃ (S1 : cS) (T1 : Nat) (V1 : Nat) (X1 : Nat) (Y1 : Nat) (Z1 : Nat) (q1 : Nat) (mt : Int32) (i : Nat) (ls : Array Slot), CL S1 ∧ HS S S1 ∧ PT S ≤ PT S1 ∧ AW [6, 7, 8, 9, 16, 14, 10, 11, 12, 13, 17, 18, 25, 26, 35] [8, 9, 10, 12] S S1 ∧ i + j = ah ∧ UR S1 T V Y q T1 V1 X1 Y1 Z1 q1 mt ∧ kH S1 br_135r = r_131 ∧ br_135r < 35 + kB S1 ∧ k = PT S1 - PT S ∧ sl = 12 * (PT S1 - PT S) ∧ cP G S1 H ∧ cD (cA G S s.heap.size) G S1 ∧ va_S (cA G S s.heap.size) s.heap H locs ∧ lv_has ls 8 [(0, .ref (ga G 4)), (1, .int a), (2, .int b), (3, .int (nI dp)), (4, .int mt), (5, .ref r_131), (6, .int (nI ah)), (7, .int (nI i))] ∧ g = F0 m 350 ls []) ?_ ?_ ah _ _ _ _ _ ⟨S_121, T, V, X, Y, (Z + 1), (q + 1), 0, 0, ls, hC, hh, hpp, aw_124t, by omega, ur3, br_135h, br_135l, rfl, rfl, hP, hD, hS, lv_sub hl [4, 5, 6, 7, 3, 2, 1, 0] rfl, rfl⟩
        · intro H locs k sl g hI
          obtain ⟨S1, T1, V1, X1, Y1, Z1, q1, mt, i, ls, hC, hh, hpp, hAW, hp0, hp1, hp2, hp3, rfl, rfl, hP, hD, hS, hl, rfl⟩ := hI
          have x15 : kK S1 15 = 0 := (hAW.2.1 15 (lt35 (by decide)) (by decide)).2.trans h15
          refine lv_iload hx hb dX5_under_350 (lv_at hl 7 rfl) ?_
          refine lv_iload hx hb dX5_under_352 (lv_at hl 6 rfl) ?_
          refine lv_icmp_ge (tgt := 385) hx hb dX5_under_354 (by decide) (fun c_136 => ?_) (fun c_136 => absurd (nI_le (by omega) (by omega)) c_136)
          refine lv_iload hx hb dX5_under_385 (lv_at hl 4 rfl) ?_
          exact c_iret (v := mt) hx hb hr hK hP hD hS hC hh hpp ⟨hAW, ⟨_, _, _, _, _, _, hp1⟩⟩ dX5_under_387 hlocks
        · intro j ih9 H locs k sl g hI
          obtain ⟨S1, T1, V1, X1, Y1, Z1, q1, mt, i, ls, hC, hh, hpp, hAW, hp0, hp1, hp2, hp3, rfl, rfl, hP, hD, hS, hl, rfl⟩ := hI
          have x15 : kK S1 15 = 0 := (hAW.2.1 15 (lt35 (by decide)) (by decide)).2.trans h15
          have ilt : i < ah := by omega
          refine lv_iload hx hb dX5_under_350 (lv_at hl 7 rfl) ?_
          refine lv_iload hx hb dX5_under_352 (lv_at hl 6 rfl) ?_
          refine lv_icmp_ge (tgt := 385) hx hb dX5_under_354 (by decide) (fun c_137 => absurd c_137 (nI_ge (by omega) (by omega))) (fun c_137 => ?_)
          refine lv_iload hx hb dX5_under_357 (lv_at hl 4 rfl) ?_
          refine lv_if_ne (tgt := 385) hx hb dX5_under_359 (by decide) (fun c_138 => ?_) (fun c_138 => ?_)
          · skip
            refine lv_iload hx hb dX5_under_385 (lv_at hl 4 rfl) ?_
            exact c_iret (v := mt) hx hb hr hK hP hD hS hC hh hpp ⟨hAW, ⟨_, _, _, _, _, _, hp1⟩⟩ dX5_under_387 hlocks
          · skip
            obtain ⟨hok, hokl⟩ := hp1.ok c_138
            refine lv_aload_n hx hb dX5_under_362 rfl (lv_at hl 0 rfl) ?_
            refine lv_iload_n hx hb dX5_under_363 rfl (lv_at hl 1 rfl) ?_
            refine lv_aload hx hb dX5_under_364 (lv_at hl 5 rfl) ?_
            refine lv_iload hx hb dX5_under_366 (lv_at hl 7 rfl) ?_
            have hC0 := hC
            refine c_ci (c_runV (As := [.int (nI i)]) (rest := [.int a, .ref (ga G 4)]) (q0 := (2 * br_135r + 13)) (ci := 0) ⟨hx, hb, hml, hown, htu⟩ (c_getA l G S1 br_135r hp3 hC r_131 hp2 (nI i) H) (cwV 1 htu hU_X5_124 rfl rfl rfl (by decide +kernel) ⟨show 0 + 1 ≤ (fu + 1) + 70 by omega, show 8 + (2 + 11) + 0 ≤ 40 * (fu + 1) + 3000 by omega⟩) hP hK hD hC hpp (c_hd hp2 (cw_row hp3)) rfl rfl hl.1 rfl (lv_room (Nat.le_of_ble_eq_true rfl)) dX5_under_368) hS hD hh hpp (fun r_139 S_140 H locs hw_141 hP hD hS hC hh hs_142 hpp => ?_)
            obtain ⟨hu9, hw_141⟩ := hw_141
            have hu9 := hu9.symm
            subst hu9
            refine lv_iload_n hx hb dX5_under_371 rfl (lv_at hl 3 rfl) ?_
            refine lv_iconst (v := 1) hx hb dX5_under_372 (by decide) ?_
            refine lv_iadd hx hb dX5_under_373 ?_
            refine m_top (y := nI (dp + 1)) (nI_add dp 1) ?_
            have hC0 := hC
            refine c_ci (c_runV (As := [.int a, .int r_139, .int (nI (dp + 1))]) (rest := []) (q0 := 4) (ci := 5) ⟨hx, hb, hml, hown, htu⟩ (ih l G S1 T1 V1 X1 Y Z1 q1 (dp + 1) a r_139 hC hok.1 ((by omega)) x15 ((by omega)) hY2 H) (cwV 3 htu hU_X5_150 rfl rfl rfl (by decide +kernel) ⟨show (fu + 70) + 1 ≤ (fu + 1) + 70 by omega, show 8 + (8 + 11) + (40 * fu + 3000) ≤ 40 * (fu + 1) + 3000 by omega⟩) hP hK hD hC hpp cw_4 rfl rfl hl.1 rfl (lv_room (Nat.le_of_ble_eq_true rfl)) dX5_under_374) hS hD hh hpp (fun r_143 S_144 H locs hw_145 hP hD hS hC hh hs_146 hpp => ?_)
            try dsimp only at hw_145
            have aw_147 : AW [6, 7, 8, 9, 16, 14, 10, 11, 12, 13, 17, 18, 25, 26, 35] [8, 9, 10, 12] S1 S_144 := hw_145.1
            have aw_147t : AW [6, 7, 8, 9, 16, 14, 10, 11, 12, 13, 17, 18, 25, 26, 35] [8, 9, 10, 12] S S_144 := hAW.tr (aw_147.mono (by decide) (by decide))
            have kk_148 : kK S_144 15 = 0 := (aw_147.2.1 15 (lt35 (by decide)) (by decide)).2.trans x15
            have ha_149r : br_135r < 35 + kB S_144 := by have := hs_146.1; have := hp3; omega
            have ha_149 : kH S_144 br_135r = r_131 := (hs_146.2 br_135r hp3).trans hp2
            have ux_150x := hok.tr hw_145.2
            obtain ⟨ux_150T, ux_150V, ux_150X, ux_150Y, ux_150Z, ux_150q, ux_150⟩ := id ux_150x
            refine lv_istore (lv' := [(4, .int r_143), (0, .ref (ga G 4)), (1, .int a), (2, .int b), (3, .int (nI dp)), (5, .ref r_131), (6, .int (nI ah)), (7, .int (nI i))]) hx hb dX5_under_377 hl (by decide) rfl (fun ls hl => ?_)
            refine lv_iinc (v := nI (i + 1)) (lv' := [(7, .int (nI (i + 1))), (4, .int r_143), (0, .ref (ga G 4)), (1, .int a), (2, .int b), (3, .int (nI dp)), (5, .ref r_131), (6, .int (nI ah))]) hx hb dX5_under_379 hl (k := 7) rfl (nI_1 i) (by decide) rfl (fun ls hl => ?_)
            refine lv_goto (tgt := 350) hx hb dX5_under_382 (by decide) ?_
            exact ih9 _ _ _ _ _ ⟨S_144, ux_150T, ux_150V, ux_150X, ux_150Y, ux_150Z, ux_150q, r_143, i + 1, ls, hC, hh, hpp, aw_147t, by omega, ux_150, ha_149, ha_149r, rfl, rfl, hP, hD, hS, lv_sub hl [2, 3, 4, 5, 1, 6, 7, 0] rfl, rfl⟩
      · skip
        subst wd_18
        refine lv_tableIn (tgt := 388) hx hb dX5_under_52 (by decide) (by decide) (by rfl) (by decide) ?_
        refine lv_aload_n hx hb dX5_under_388 rfl (lv_at hl 1 rfl) ?_
        refine lv_aload_n hx hb dX5_under_389 rfl (lv_at hl 1 rfl) ?_
        refine va_get (D := gD G) (ci := 5) (v := .ref (ga G 2)) (C := RX5) (T := TX5) (N := 15) hx hb htu cu_in5 hown hK hP 4 cw_4 rfl 1 (by decide) (htu _ C_45) (fun _ h9 => h9) rfl dX5_under_390 ?_
        refine lv_iload_n hx hb dX5_under_393 rfl (lv_at hl 2 rfl) ?_
        have hC0 := hC
        refine c_ci (c_runV (As := [.int a]) (rest := [.ref (ga G 4)]) (q0 := 2) (ci := 4) ⟨hx, hb, hml, hown, htu⟩ (y_levelOf l G S_5 a hC  H) (cwV 1 htu hU_X5_206 rfl rfl rfl (by decide +kernel) ⟨show 1 + 1 ≤ (fu + 1) + 70 by omega, show 8 + (2 + 11) + 21 ≤ 40 * (fu + 1) + 3000 by omega⟩) hP hK hD hC hpp cw_2 rfl rfl hl.1 rfl (lv_room (Nat.le_of_ble_eq_true rfl)) dX5_under_394) hS hD hh hpp (fun r_151 S_152 H locs hw_153 hP hD hS hC hh hs_154 hpp => ?_)
        obtain ⟨-, hu9, hw_153⟩ := hw_153
        have hu9 := hu9.symm
        subst hu9
        have lv_155 : 0 ≤ r_151 := by rw [hw_153]; exact lev_var ty_11 wd_18s
        refine lv_aload_n hx hb dX5_under_397 rfl (lv_at hl 1 rfl) ?_
        refine va_get (D := gD G) (ci := 5) (v := .ref (ga G 2)) (C := RX5) (T := TX5) (N := 15) hx hb htu cu_in5 hown hK hP 4 cw_4 rfl 1 (by decide) (htu _ C_45) (fun _ h9 => h9) rfl dX5_under_398 ?_
        refine lv_iload_n hx hb dX5_under_401 rfl (lv_at hl 2 rfl) ?_
        have hC0 := hC
        refine c_ci (c_runV (As := [.int a]) (rest := [.int r_151, .ref (ga G 4)]) (q0 := 2) (ci := 4) ⟨hx, hb, hml, hown, htu⟩ (y_levelOf l G S_5 a hC  H) (cwV 1 htu hU_X5_206 rfl rfl rfl (by decide +kernel) ⟨show 1 + 1 ≤ (fu + 1) + 70 by omega, show 8 + (2 + 11) + 21 ≤ 40 * (fu + 1) + 3000 by omega⟩) hP hK hD hC hpp cw_2 rfl rfl hl.1 rfl (lv_room (Nat.le_of_ble_eq_true rfl)) dX5_under_402) hS hD hh hpp (fun r_156 S_157 H locs hw_158 hP hD hS hC hh hs_159 hpp => ?_)
        obtain ⟨-, hu9, hw_158⟩ := hw_158
        have hu9 := hu9.symm
        subst hu9
        have lv_160 : 0 ≤ r_156 := by rw [hw_158]; exact lev_var ty_11 wd_18s
        have hC0 := hC
        refine c_cv (c_runV (As := [.int r_151, .int r_156]) (rest := []) (q0 := 4) (ci := 5) ⟨hx, hb, hml, hown, htu⟩ (g_startCopying l G S_5 r_151 r_156 hC  H) (cwV 2 htu hU_X5_127 rfl rfl rfl (by decide +kernel) ⟨show 0 + 1 ≤ (fu + 1) + 70 by omega, show 8 + (3 + 11) + 0 ≤ 40 * (fu + 1) + 3000 by omega⟩) hP hK hD hC hpp cw_4 rfl rfl hl.1 rfl (lv_room (Nat.le_of_ble_eq_true rfl)) dX5_under_405) hS hD hh hpp (fun S_162 H locs hw_163 hP hD hS hC hh hs_164 hpp => ?_)
        try dsimp only at hw_163
        have aw_165 : AW [] [8, 9, 10] S_5 S_162 := hw_163.1
        have aw_165t : AW [6, 7, 8, 9, 16, 14, 10, 11, 12, 13, 17, 18, 25, 26, 35] [8, 9, 10, 12] S S_162 := aw_8t.tr (aw_165.mono (by decide) (by decide))
        have kk_166 : kK S_162 15 = 0 := (aw_165.2.1 15 (lt35 (by decide)) (by decide)).2.trans kk_9
        have ii_167 : S_162.1 12 = nI (q + 1) := (aw_165.1 12 (by decide)).trans ii_10
        have ty_168 := TY.aw ty_11 aw_165 (by decide)
        refine lv_aload_n hx hb dX5_under_408 rfl (lv_at hl 1 rfl) ?_
        refine lv_iload_n hx hb dX5_under_409 rfl (lv_at hl 3 rfl) ?_
        refine lv_iconst (v := 1) hx hb dX5_under_410 (by decide) ?_
        refine lv_iconst (v := 1) hx hb dX5_under_411 (by decide) ?_
        have cb_169 : ∀ j, j < 2 * V → kK S_162 (35 + j) ≤ q + 1 + V := fun j hj => by rw [AW.bnd aw_165 (by decide) (show 2 * V ≤ kB S_5 from ty_11.2.1.2.2.1) j hj]; exact Nat.le_trans (tb2 j hj) (by omega)
        have hC0 := hC
        refine c_ci (c_runV (As := [.int b, .int 1, .int 1]) (rest := []) (q0 := 4) (ci := 5) ⟨hx, hb, hml, hown, htu⟩ ((g_copied_all 60) l G S_162 T V X Y (Z + 1) (q + 1) 1 1 1 b hC ty_168 cb_169 ((by omega)) kk_166 ((Or.inr ⟨by decide, rfl⟩)) ((by decide)) ((show 1 + 60 = 61 by decide)) ((by omega)) ((by rw [hw_163.2.2]; exact lv_160)) ((fun _ => by rw [hw_163.2.1]; exact lv_155)) H) (cwV 3 htu hU_X5_131 rfl rfl rfl (by decide +kernel) ⟨show (60 + 4) + 1 ≤ (fu + 1) + 70 by omega, show 8 + (12 + 11) + (42 * 60 + 140) ≤ 40 * (fu + 1) + 3000 by omega⟩) hP hK hD hC hpp cw_4 rfl rfl hl.1 rfl (lv_room (Nat.le_of_ble_eq_true rfl)) dX5_under_412) hS hD hh hpp (fun r_170 S_171 H locs hw_172 hP hD hS hC hh hs_173 hpp => ?_)
        try dsimp only at hw_172
        have aw_174 : AW [6, 7, 8, 9, 16, 14, 10, 11, 12, 13, 25, 26, 35] [] S_162 S_171 := hw_172.1
        have aw_174t : AW [6, 7, 8, 9, 16, 14, 10, 11, 12, 13, 17, 18, 25, 26, 35] [8, 9, 10, 12] S S_171 := aw_165t.tr (aw_174.mono (by decide) (by decide))
        have kk_175 : kK S_171 15 = 0 := (aw_174.2.1 15 (lt35 (by decide)) (by decide)).2.trans kk_166
        have ii_176 : S_171.1 12 = nI (q + 1) := (aw_174.1 12 (by decide)).trans ii_167
        have ii_177 : S_171.1 9 = r_151 := (aw_174.1 9 (by decide)).trans hw_163.2.1
        have ii_178 : S_171.1 10 = r_156 := (aw_174.1 10 (by decide)).trans hw_163.2.2
        obtain ⟨cx_179T, cx_179V, cx_179X, cx_179Y, cx_179, cx_179a, cx_179b, cx_179c⟩ := hw_172.2
        have cx_17912 : S_171.1 12 = nI (q + 1) := ii_176
        have cx_179s : US S_171 cx_179T cx_179V cx_179X cx_179Y (Z + 1) (q + 1) := ⟨cx_179.1, cx_17912, Nat.succ_le_succ hZq, cx_179.2.2.2.2.2⟩
        refine lv_istore (lv' := [(5, .int r_170), (4, .int 0), (0, .ref (ga G 4)), (1, .int a), (2, .int b), (3, .int (nI dp))]) hx hb dX5_under_415 hl (by decide) rfl (fun ls hl => ?_)
        refine lv_iload hx hb dX5_under_417 (lv_at hl 0 rfl) ?_
        refine lv_if_ge (tgt := 427) hx hb dX5_under_419 (by decide) (fun c_180 => ?_) (fun c_180 => ?_)
        · skip
          have cx_179e : cx_179Y = Y := cx_179c (Int32.not_lt.mpr c_180)
          have cx_179r : UR S_171 T V Y q cx_179T cx_179V cx_179X Y (Z + 1) (q + 1) 0 := ⟨by rw [← cx_179e]; rw [cx_179e]; rw [cx_179e] at cx_179s; exact cx_179s, ⟨cx_179.2.1, cx_179.2.2.1, Nat.le_succ _, Nat.succ_le_succ hq, Nat.le_refl _, Nat.le_add_right _ _⟩, Or.inl rfl, fun _ => ⟨q15, rfl⟩⟩
          refine lv_aload_n hx hb dX5_under_427 rfl (lv_at hl 2 rfl) ?_
          refine lv_iload_n hx hb dX5_under_428 rfl (lv_at hl 3 rfl) ?_
          refine lv_iload hx hb dX5_under_429 (lv_at hl 0 rfl) ?_
          refine lv_iload_n hx hb dX5_under_431 rfl (lv_at hl 5 rfl) ?_
          refine lv_iconst (v := 1) hx hb dX5_under_432 (by decide) ?_
          refine lv_iadd hx hb dX5_under_433 ?_
          refine m_top (y := nI (dp + 1)) (nI_add dp 1) ?_
          have hC0 := hC
          refine c_ci (c_runV (As := [.int a, .int r_170, .int (nI (dp + 1))]) (rest := []) (q0 := 4) (ci := 5) ⟨hx, hb, hml, hown, htu⟩ (ih l G S_171 cx_179T cx_179V cx_179X Y ((Z + 1)) ((q + 1)) (dp + 1) a r_170 hC cx_179r.1 ((by omega)) kk_175 ((by omega)) hY2 H) (cwV 3 htu hU_X5_150 rfl rfl rfl (by decide +kernel) ⟨show (fu + 70) + 1 ≤ (fu + 1) + 70 by omega, show 8 + (8 + 11) + (40 * fu + 3000) ≤ 40 * (fu + 1) + 3000 by omega⟩) hP hK hD hC hpp cw_4 rfl rfl hl.1 rfl (lv_room (Nat.le_of_ble_eq_true rfl)) dX5_under_434) hS hD hh hpp (fun r_181 S_182 H locs hw_183 hP hD hS hC hh hs_184 hpp => ?_)
          try dsimp only at hw_183
          have aw_185 : AW [6, 7, 8, 9, 16, 14, 10, 11, 12, 13, 17, 18, 25, 26, 35] [8, 9, 10, 12] S_171 S_182 := hw_183.1
          have aw_185t : AW [6, 7, 8, 9, 16, 14, 10, 11, 12, 13, 17, 18, 25, 26, 35] [8, 9, 10, 12] S S_182 := aw_174t.tr (aw_185.mono (by decide) (by decide))
          have kk_186 : kK S_182 15 = 0 := (aw_185.2.1 15 (lt35 (by decide)) (by decide)).2.trans kk_175
          have ux_187x := cx_179r.tr hw_183.2
          obtain ⟨ux_187T, ux_187V, ux_187X, ux_187Y, ux_187Z, ux_187q, ux_187⟩ := id ux_187x
          exact c_iret (v := r_181) hx hb hr hK hP hD hS hC hh hpp ⟨aw_185t, ux_187x⟩ dX5_under_437 hlocks
        · skip
          have bdx : UX S_171 T V Y q r_170 := ⟨_, _, _, _, _, _, cx_179s, ⟨cx_179.2.1, cx_179.2.2.1, Nat.le_succ _, Nat.succ_le_succ hq, cx_179a, by omega⟩, Or.inr (Int32.not_le.mp c_180), fun h => by have := Int32.not_le.mp c_180; rw [h] at this; exact absurd this (by decide)⟩
          refine lv_iload hx hb dX5_under_422 (lv_at hl 0 rfl) ?_
          refine lv_goto (tgt := 437) hx hb dX5_under_424 (by decide) ?_
          exact c_iret (v := r_170) hx hb hr hK hP hD hS hC hh hpp ⟨aw_174t, bdx⟩ dX5_under_437 hlocks
      · skip
        subst wd_18
        refine lv_tableIn (tgt := 438) hx hb dX5_under_52 (by decide) (by decide) (by rfl) (by decide) ?_
        refine lv_aload_n hx hb dX5_under_438 rfl (lv_at hl 1 rfl) ?_
        refine lv_aload_n hx hb dX5_under_439 rfl (lv_at hl 1 rfl) ?_
        refine va_get (D := gD G) (ci := 5) (v := .ref (ga G 2)) (C := RX5) (T := TX5) (N := 15) hx hb htu cu_in5 hown hK hP 4 cw_4 rfl 1 (by decide) (htu _ C_45) (fun _ h9 => h9) rfl dX5_under_440 ?_
        refine lv_iload_n hx hb dX5_under_443 rfl (lv_at hl 3 rfl) ?_
        have hC0 := hC
        refine c_ci (c_runV (As := [.int b]) (rest := [.ref (ga G 4)]) (q0 := 2) (ci := 4) ⟨hx, hb, hml, hown, htu⟩ (y_levelOf l G S_5 b hC  H) (cwV 1 htu hU_X5_206 rfl rfl rfl (by decide +kernel) ⟨show 1 + 1 ≤ (fu + 1) + 70 by omega, show 8 + (2 + 11) + 21 ≤ 40 * (fu + 1) + 3000 by omega⟩) hP hK hD hC hpp cw_2 rfl rfl hl.1 rfl (lv_room (Nat.le_of_ble_eq_true rfl)) dX5_under_444) hS hD hh hpp (fun r_188 S_189 H locs hw_190 hP hD hS hC hh hs_191 hpp => ?_)
        obtain ⟨-, hu9, hw_190⟩ := hw_190
        have hu9 := hu9.symm
        subst hu9
        have lv_192 : 0 ≤ r_188 := by rw [hw_190]; exact lev_var ty_11 wd_18s
        refine lv_aload_n hx hb dX5_under_447 rfl (lv_at hl 1 rfl) ?_
        refine va_get (D := gD G) (ci := 5) (v := .ref (ga G 2)) (C := RX5) (T := TX5) (N := 15) hx hb htu cu_in5 hown hK hP 4 cw_4 rfl 1 (by decide) (htu _ C_45) (fun _ h9 => h9) rfl dX5_under_448 ?_
        refine lv_iload_n hx hb dX5_under_451 rfl (lv_at hl 3 rfl) ?_
        have hC0 := hC
        refine c_ci (c_runV (As := [.int b]) (rest := [.int r_188, .ref (ga G 4)]) (q0 := 2) (ci := 4) ⟨hx, hb, hml, hown, htu⟩ (y_levelOf l G S_5 b hC  H) (cwV 1 htu hU_X5_206 rfl rfl rfl (by decide +kernel) ⟨show 1 + 1 ≤ (fu + 1) + 70 by omega, show 8 + (2 + 11) + 21 ≤ 40 * (fu + 1) + 3000 by omega⟩) hP hK hD hC hpp cw_2 rfl rfl hl.1 rfl (lv_room (Nat.le_of_ble_eq_true rfl)) dX5_under_452) hS hD hh hpp (fun r_193 S_194 H locs hw_195 hP hD hS hC hh hs_196 hpp => ?_)
        obtain ⟨-, hu9, hw_195⟩ := hw_195
        have hu9 := hu9.symm
        subst hu9
        have lv_197 : 0 ≤ r_193 := by rw [hw_195]; exact lev_var ty_11 wd_18s
        have hC0 := hC
        refine c_cv (c_runV (As := [.int r_188, .int r_193]) (rest := []) (q0 := 4) (ci := 5) ⟨hx, hb, hml, hown, htu⟩ (g_startCopying l G S_5 r_188 r_193 hC  H) (cwV 2 htu hU_X5_127 rfl rfl rfl (by decide +kernel) ⟨show 0 + 1 ≤ (fu + 1) + 70 by omega, show 8 + (3 + 11) + 0 ≤ 40 * (fu + 1) + 3000 by omega⟩) hP hK hD hC hpp cw_4 rfl rfl hl.1 rfl (lv_room (Nat.le_of_ble_eq_true rfl)) dX5_under_455) hS hD hh hpp (fun S_199 H locs hw_200 hP hD hS hC hh hs_201 hpp => ?_)
        try dsimp only at hw_200
        have aw_202 : AW [] [8, 9, 10] S_5 S_199 := hw_200.1
        have aw_202t : AW [6, 7, 8, 9, 16, 14, 10, 11, 12, 13, 17, 18, 25, 26, 35] [8, 9, 10, 12] S S_199 := aw_8t.tr (aw_202.mono (by decide) (by decide))
        have kk_203 : kK S_199 15 = 0 := (aw_202.2.1 15 (lt35 (by decide)) (by decide)).2.trans kk_9
        have ii_204 : S_199.1 12 = nI (q + 1) := (aw_202.1 12 (by decide)).trans ii_10
        have ty_205 := TY.aw ty_11 aw_202 (by decide)
        refine lv_aload_n hx hb dX5_under_458 rfl (lv_at hl 1 rfl) ?_
        refine lv_iload_n hx hb dX5_under_459 rfl (lv_at hl 2 rfl) ?_
        refine lv_iconst (v := 0) hx hb dX5_under_460 (by decide) ?_
        refine lv_iconst (v := 1) hx hb dX5_under_461 (by decide) ?_
        have cb_206 : ∀ j, j < 2 * V → kK S_199 (35 + j) ≤ q + 1 + V := fun j hj => by rw [AW.bnd aw_202 (by decide) (show 2 * V ≤ kB S_5 from ty_11.2.1.2.2.1) j hj]; exact Nat.le_trans (tb2 j hj) (by omega)
        have hC0 := hC
        refine c_ci (c_runV (As := [.int a, .int 0, .int 1]) (rest := []) (q0 := 4) (ci := 5) ⟨hx, hb, hml, hown, htu⟩ ((g_copied_all 60) l G S_199 T V X Y (Z + 1) (q + 1) 1 1 0 a hC ty_205 cb_206 ((by omega)) kk_203 ((Or.inr ⟨by decide, rfl⟩)) ((by decide)) ((show 1 + 60 = 61 by decide)) ((by omega)) ((by rw [hw_200.2.2]; exact lv_197)) ((fun _ => by rw [hw_200.2.1]; exact lv_192)) H) (cwV 3 htu hU_X5_131 rfl rfl rfl (by decide +kernel) ⟨show (60 + 4) + 1 ≤ (fu + 1) + 70 by omega, show 8 + (12 + 11) + (42 * 60 + 140) ≤ 40 * (fu + 1) + 3000 by omega⟩) hP hK hD hC hpp cw_4 rfl rfl hl.1 rfl (lv_room (Nat.le_of_ble_eq_true rfl)) dX5_under_462) hS hD hh hpp (fun r_207 S_208 H locs hw_209 hP hD hS hC hh hs_210 hpp => ?_)
        try dsimp only at hw_209
        have aw_211 : AW [6, 7, 8, 9, 16, 14, 10, 11, 12, 13, 25, 26, 35] [] S_199 S_208 := hw_209.1
        have aw_211t : AW [6, 7, 8, 9, 16, 14, 10, 11, 12, 13, 17, 18, 25, 26, 35] [8, 9, 10, 12] S S_208 := aw_202t.tr (aw_211.mono (by decide) (by decide))
        have kk_212 : kK S_208 15 = 0 := (aw_211.2.1 15 (lt35 (by decide)) (by decide)).2.trans kk_203
        have ii_213 : S_208.1 12 = nI (q + 1) := (aw_211.1 12 (by decide)).trans ii_204
        have ii_214 : S_208.1 9 = r_188 := (aw_211.1 9 (by decide)).trans hw_200.2.1
        have ii_215 : S_208.1 10 = r_193 := (aw_211.1 10 (by decide)).trans hw_200.2.2
        obtain ⟨cx_216T, cx_216V, cx_216X, cx_216Y, cx_216, cx_216a, cx_216b, cx_216c⟩ := hw_209.2
        have cx_21612 : S_208.1 12 = nI (q + 1) := ii_213
        have cx_216s : US S_208 cx_216T cx_216V cx_216X cx_216Y (Z + 1) (q + 1) := ⟨cx_216.1, cx_21612, Nat.succ_le_succ hZq, cx_216.2.2.2.2.2⟩
        refine lv_istore (lv' := [(5, .int r_207), (4, .int 0), (0, .ref (ga G 4)), (1, .int a), (2, .int b), (3, .int (nI dp))]) hx hb dX5_under_465 hl (by decide) rfl (fun ls hl => ?_)
        refine lv_iload hx hb dX5_under_467 (lv_at hl 0 rfl) ?_
        refine lv_if_ge (tgt := 477) hx hb dX5_under_469 (by decide) (fun c_217 => ?_) (fun c_217 => ?_)
        · skip
          have cx_216e : cx_216Y = Y := cx_216c (Int32.not_lt.mpr c_217)
          have cx_216r : UR S_208 T V Y q cx_216T cx_216V cx_216X Y (Z + 1) (q + 1) 0 := ⟨by rw [← cx_216e]; rw [cx_216e]; rw [cx_216e] at cx_216s; exact cx_216s, ⟨cx_216.2.1, cx_216.2.2.1, Nat.le_succ _, Nat.succ_le_succ hq, Nat.le_refl _, Nat.le_add_right _ _⟩, Or.inl rfl, fun _ => ⟨q15, rfl⟩⟩
          refine lv_aload_n hx hb dX5_under_477 rfl (lv_at hl 2 rfl) ?_
          refine lv_iload hx hb dX5_under_478 (lv_at hl 0 rfl) ?_
          refine lv_iload_n hx hb dX5_under_480 rfl (lv_at hl 4 rfl) ?_
          refine lv_iload_n hx hb dX5_under_481 rfl (lv_at hl 5 rfl) ?_
          refine lv_iconst (v := 1) hx hb dX5_under_482 (by decide) ?_
          refine lv_iadd hx hb dX5_under_483 ?_
          refine m_top (y := nI (dp + 1)) (nI_add dp 1) ?_
          have hC0 := hC
          refine c_ci (c_runV (As := [.int r_207, .int b, .int (nI (dp + 1))]) (rest := []) (q0 := 4) (ci := 5) ⟨hx, hb, hml, hown, htu⟩ (ih l G S_208 cx_216T cx_216V cx_216X Y ((Z + 1)) ((q + 1)) (dp + 1) r_207 b hC cx_216r.1 ((by omega)) kk_212 ((by omega)) hY2 H) (cwV 3 htu hU_X5_150 rfl rfl rfl (by decide +kernel) ⟨show (fu + 70) + 1 ≤ (fu + 1) + 70 by omega, show 8 + (8 + 11) + (40 * fu + 3000) ≤ 40 * (fu + 1) + 3000 by omega⟩) hP hK hD hC hpp cw_4 rfl rfl hl.1 rfl (lv_room (Nat.le_of_ble_eq_true rfl)) dX5_under_484) hS hD hh hpp (fun r_218 S_219 H locs hw_220 hP hD hS hC hh hs_221 hpp => ?_)
          try dsimp only at hw_220
          have aw_222 : AW [6, 7, 8, 9, 16, 14, 10, 11, 12, 13, 17, 18, 25, 26, 35] [8, 9, 10, 12] S_208 S_219 := hw_220.1
          have aw_222t : AW [6, 7, 8, 9, 16, 14, 10, 11, 12, 13, 17, 18, 25, 26, 35] [8, 9, 10, 12] S S_219 := aw_211t.tr (aw_222.mono (by decide) (by decide))
          have kk_223 : kK S_219 15 = 0 := (aw_222.2.1 15 (lt35 (by decide)) (by decide)).2.trans kk_212
          have ux_224x := cx_216r.tr hw_220.2
          obtain ⟨ux_224T, ux_224V, ux_224X, ux_224Y, ux_224Z, ux_224q, ux_224⟩ := id ux_224x
          exact c_iret (v := r_218) hx hb hr hK hP hD hS hC hh hpp ⟨aw_222t, ux_224x⟩ dX5_under_487 hlocks
        · skip
          have bdx : UX S_208 T V Y q r_207 := ⟨_, _, _, _, _, _, cx_216s, ⟨cx_216.2.1, cx_216.2.2.1, Nat.le_succ _, Nat.succ_le_succ hq, cx_216a, by omega⟩, Or.inr (Int32.not_le.mp c_217), fun h => by have := Int32.not_le.mp c_217; rw [h] at this; exact absurd this (by decide)⟩
          refine lv_iload hx hb dX5_under_472 (lv_at hl 0 rfl) ?_
          refine lv_goto (tgt := 487) hx hb dX5_under_474 (by decide) ?_
          exact c_iret (v := r_207) hx hb hr hK hP hD hS hC hh hpp ⟨aw_211t, bdx⟩ dX5_under_487 hlocks

theorem g_under_all : ∀ fu, cUnderAt fu := by
  intro fu
  induction fu with
  | zero => exact fun l G S T V X Y Z q dp a b hC hU hq h15 hdp hY2 Hs => g_under_0 l G S T V X Y Z q dp a b hC hU hq h15 hdp hY2 Hs
  | succ fu ih => exact fun l G S T V X Y Z q dp a b hC hU hq h15 hdp hY2 Hs => g_under_s l G S fu T V X Y Z q dp a b hC ih hU hq h15 hdp hY2 Hs


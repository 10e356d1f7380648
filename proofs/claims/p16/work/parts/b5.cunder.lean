theorem dX5_under_0 : decode cX5_under 0 = .ok (.aload_n 0, 1) := by decide +kernel
theorem dX5_under_1 : decode cX5_under 1 = .ok (.dup, 1) := by decide +kernel
theorem dX5_under_2 : decode cX5_under 2 = .ok (.getfield 71, 3) := by decide +kernel
theorem dX5_under_5 : decode cX5_under 5 = .ok (.iconst 1, 1) := by decide +kernel
theorem dX5_under_6 : decode cX5_under 6 = .ok (.iadd, 1) := by decide +kernel
theorem dX5_under_7 : decode cX5_under 7 = .ok (.putfield 71, 3) := by decide +kernel
theorem dX5_under_10 : decode cX5_under 10 = .ok (.aload_n 0, 1) := by decide +kernel
theorem dX5_under_11 : decode cX5_under 11 = .ok (.getfield 71, 3) := by decide +kernel
theorem dX5_under_14 : decode cX5_under 14 = .ok (.sipush 1500, 3) := by decide +kernel
theorem dX5_under_17 : decode cX5_under 17 = .ok (.if_icmp .gt 9, 3) := by decide +kernel
theorem dX5_under_26 : decode cX5_under 26 = .ok (.bipush (-6), 2) := by decide +kernel
theorem dX5_under_28 : decode cX5_under 28 = .ok (.ireturn, 1) := by decide +kernel
theorem dX5_under_20 : decode cX5_under 20 = .ok (.iload_n 3, 1) := by decide +kernel
theorem dX5_under_21 : decode cX5_under 21 = .ok (.bipush 60, 2) := by decide +kernel
theorem dX5_under_23 : decode cX5_under 23 = .ok (.if_icmp .le 6, 3) := by decide +kernel
theorem dX5_under_29 : decode cX5_under 29 = .ok (.aload_n 0, 1) := by decide +kernel
theorem dX5_under_30 : decode cX5_under 30 = .ok (.getfield 12, 3) := by decide +kernel
theorem dX5_under_33 : decode cX5_under 33 = .ok (.iload_n 1, 1) := by decide +kernel
theorem dX5_under_34 : decode cX5_under 34 = .ok (.iload_n 2, 1) := by decide +kernel
theorem dX5_under_35 : decode cX5_under 35 = .ok (.invokevirtual 171, 3) := by decide +kernel
theorem dX5_under_38 : decode cX5_under 38 = .ok (.ifCond .eq 5, 3) := by decide +kernel
theorem dX5_under_41 : decode cX5_under 41 = .ok (.iconst 0, 1) := by decide +kernel
theorem dX5_under_42 : decode cX5_under 42 = .ok (.ireturn, 1) := by decide +kernel
theorem dX5_under_43 : decode cX5_under 43 = .ok (.iconst 0, 1) := by decide +kernel
theorem dX5_under_44 : decode cX5_under 44 = .ok (.istore 4, 2) := by decide +kernel
theorem dX5_under_46 : decode cX5_under 46 = .ok (.aload_n 0, 1) := by decide +kernel
theorem dX5_under_47 : decode cX5_under 47 = .ok (.iload_n 1, 1) := by decide +kernel
theorem dX5_under_48 : decode cX5_under 48 = .ok (.iload_n 2, 1) := by decide +kernel
theorem dX5_under_49 : decode cX5_under 49 = .ok (.invokevirtual 175, 3) := by decide +kernel
theorem dX5_under_52 : decode cX5_under 52 = .ok (.tableswitch 436 0 6 #[44, 46, 105, 192, 264, 336, 386], 44) := by decide +kernel
theorem dX5_under_96 : decode cX5_under 96 = .ok (.iconst 0, 1) := by decide +kernel
theorem dX5_under_97 : decode cX5_under 97 = .ok (.ireturn, 1) := by decide +kernel
theorem dX5_under_98 : decode cX5_under 98 = .ok (.aload_n 0, 1) := by decide +kernel
theorem dX5_under_99 : decode cX5_under 99 = .ok (.aload_n 0, 1) := by decide +kernel
theorem dX5_under_100 : decode cX5_under 100 = .ok (.getfield 12, 3) := by decide +kernel
theorem dX5_under_103 : decode cX5_under 103 = .ok (.iload_n 2, 1) := by decide +kernel
theorem dX5_under_104 : decode cX5_under 104 = .ok (.invokevirtual 178, 3) := by decide +kernel
theorem dX5_under_107 : decode cX5_under 107 = .ok (.aload_n 0, 1) := by decide +kernel
theorem dX5_under_108 : decode cX5_under 108 = .ok (.getfield 12, 3) := by decide +kernel
theorem dX5_under_111 : decode cX5_under 111 = .ok (.iload_n 1, 1) := by decide +kernel
theorem dX5_under_112 : decode cX5_under 112 = .ok (.invokevirtual 178, 3) := by decide +kernel
theorem dX5_under_115 : decode cX5_under 115 = .ok (.iload_n 3, 1) := by decide +kernel
theorem dX5_under_116 : decode cX5_under 116 = .ok (.iconst 1, 1) := by decide +kernel
theorem dX5_under_117 : decode cX5_under 117 = .ok (.iadd, 1) := by decide +kernel
theorem dX5_under_118 : decode cX5_under 118 = .ok (.invokevirtual 150, 3) := by decide +kernel
theorem dX5_under_121 : decode cX5_under 121 = .ok (.istore 4, 2) := by decide +kernel
theorem dX5_under_123 : decode cX5_under 123 = .ok (.iload 4, 2) := by decide +kernel
theorem dX5_under_125 : decode cX5_under 125 = .ok (.ifCond .ge 8, 3) := by decide +kernel
theorem dX5_under_133 : decode cX5_under 133 = .ok (.aload_n 0, 1) := by decide +kernel
theorem dX5_under_134 : decode cX5_under 134 = .ok (.aload_n 0, 1) := by decide +kernel
theorem dX5_under_135 : decode cX5_under 135 = .ok (.getfield 12, 3) := by decide +kernel
theorem dX5_under_138 : decode cX5_under 138 = .ok (.iload_n 1, 1) := by decide +kernel
theorem dX5_under_139 : decode cX5_under 139 = .ok (.invokevirtual 181, 3) := by decide +kernel
theorem dX5_under_142 : decode cX5_under 142 = .ok (.aload_n 0, 1) := by decide +kernel
theorem dX5_under_143 : decode cX5_under 143 = .ok (.getfield 12, 3) := by decide +kernel
theorem dX5_under_146 : decode cX5_under 146 = .ok (.iload_n 2, 1) := by decide +kernel
theorem dX5_under_147 : decode cX5_under 147 = .ok (.invokevirtual 181, 3) := by decide +kernel
theorem dX5_under_150 : decode cX5_under 150 = .ok (.iload_n 3, 1) := by decide +kernel
theorem dX5_under_151 : decode cX5_under 151 = .ok (.iconst 1, 1) := by decide +kernel
theorem dX5_under_152 : decode cX5_under 152 = .ok (.iadd, 1) := by decide +kernel
theorem dX5_under_153 : decode cX5_under 153 = .ok (.invokevirtual 150, 3) := by decide +kernel
theorem dX5_under_156 : decode cX5_under 156 = .ok (.ireturn, 1) := by decide +kernel
theorem dX5_under_128 : decode cX5_under 128 = .ok (.iload 4, 2) := by decide +kernel
theorem dX5_under_130 : decode cX5_under 130 = .ok (.goto 26, 3) := by decide +kernel
theorem dX5_under_157 : decode cX5_under 157 = .ok (.aload_n 0, 1) := by decide +kernel
theorem dX5_under_158 : decode cX5_under 158 = .ok (.getfield 12, 3) := by decide +kernel
theorem dX5_under_161 : decode cX5_under 161 = .ok (.iload_n 2, 1) := by decide +kernel
theorem dX5_under_162 : decode cX5_under 162 = .ok (.invokevirtual 184, 3) := by decide +kernel
theorem dX5_under_165 : decode cX5_under 165 = .ok (.istore 5, 2) := by decide +kernel
theorem dX5_under_167 : decode cX5_under 167 = .ok (.iconst 0, 1) := by decide +kernel
theorem dX5_under_168 : decode cX5_under 168 = .ok (.istore 6, 2) := by decide +kernel
theorem dX5_under_170 : decode cX5_under 170 = .ok (.iload 6, 2) := by decide +kernel
theorem dX5_under_172 : decode cX5_under 172 = .ok (.iload 5, 2) := by decide +kernel
theorem dX5_under_174 : decode cX5_under 174 = .ok (.if_icmp .ge 67, 3) := by decide +kernel
theorem dX5_under_241 : decode cX5_under 241 = .ok (.iload 4, 2) := by decide +kernel
theorem dX5_under_243 : decode cX5_under 243 = .ok (.ireturn, 1) := by decide +kernel
theorem dX5_under_177 : decode cX5_under 177 = .ok (.iload 4, 2) := by decide +kernel
theorem dX5_under_179 : decode cX5_under 179 = .ok (.ifCond .ne 62, 3) := by decide +kernel
theorem dX5_under_182 : decode cX5_under 182 = .ok (.aload_n 0, 1) := by decide +kernel
theorem dX5_under_183 : decode cX5_under 183 = .ok (.getfield 12, 3) := by decide +kernel
theorem dX5_under_186 : decode cX5_under 186 = .ok (.iload_n 1, 1) := by decide +kernel
theorem dX5_under_187 : decode cX5_under 187 = .ok (.aload_n 0, 1) := by decide +kernel
theorem dX5_under_188 : decode cX5_under 188 = .ok (.getfield 12, 3) := by decide +kernel
theorem dX5_under_191 : decode cX5_under 191 = .ok (.iload_n 2, 1) := by decide +kernel
theorem dX5_under_192 : decode cX5_under 192 = .ok (.iload 6, 2) := by decide +kernel
theorem dX5_under_194 : decode cX5_under 194 = .ok (.invokevirtual 187, 3) := by decide +kernel
theorem dX5_under_197 : decode cX5_under 197 = .ok (.invokevirtual 190, 3) := by decide +kernel
theorem dX5_under_200 : decode cX5_under 200 = .ok (.istore 7, 2) := by decide +kernel
theorem dX5_under_202 : decode cX5_under 202 = .ok (.iload 7, 2) := by decide +kernel
theorem dX5_under_204 : decode cX5_under 204 = .ok (.bipush (-9), 2) := by decide +kernel
theorem dX5_under_206 : decode cX5_under 206 = .ok (.if_icmp .ne 8, 3) := by decide +kernel
theorem dX5_under_214 : decode cX5_under 214 = .ok (.aload_n 0, 1) := by decide +kernel
theorem dX5_under_215 : decode cX5_under 215 = .ok (.iload 7, 2) := by decide +kernel
theorem dX5_under_217 : decode cX5_under 217 = .ok (.aload_n 0, 1) := by decide +kernel
theorem dX5_under_218 : decode cX5_under 218 = .ok (.getfield 12, 3) := by decide +kernel
theorem dX5_under_221 : decode cX5_under 221 = .ok (.iload_n 2, 1) := by decide +kernel
theorem dX5_under_222 : decode cX5_under 222 = .ok (.iload 6, 2) := by decide +kernel
theorem dX5_under_224 : decode cX5_under 224 = .ok (.invokevirtual 193, 3) := by decide +kernel
theorem dX5_under_227 : decode cX5_under 227 = .ok (.iload_n 3, 1) := by decide +kernel
theorem dX5_under_228 : decode cX5_under 228 = .ok (.iconst 1, 1) := by decide +kernel
theorem dX5_under_229 : decode cX5_under 229 = .ok (.iadd, 1) := by decide +kernel
theorem dX5_under_230 : decode cX5_under 230 = .ok (.invokevirtual 150, 3) := by decide +kernel
theorem dX5_under_233 : decode cX5_under 233 = .ok (.istore 4, 2) := by decide +kernel
theorem dX5_under_235 : decode cX5_under 235 = .ok (.iinc 6 1, 3) := by decide +kernel
theorem dX5_under_238 : decode cX5_under 238 = .ok (.goto (-68), 3) := by decide +kernel
theorem dX5_under_209 : decode cX5_under 209 = .ok (.bipush (-7), 2) := by decide +kernel
theorem dX5_under_211 : decode cX5_under 211 = .ok (.goto 22, 3) := by decide +kernel
theorem dX5_under_488 : decode cX5_under 488 = .ok (.bipush (-7), 2) := by decide +kernel
theorem dX5_under_490 : decode cX5_under 490 = .ok (.ireturn, 1) := by decide +kernel
theorem dX5_under_244 : decode cX5_under 244 = .ok (.aload_n 0, 1) := by decide +kernel
theorem dX5_under_245 : decode cX5_under 245 = .ok (.getfield 12, 3) := by decide +kernel
theorem dX5_under_248 : decode cX5_under 248 = .ok (.iload_n 1, 1) := by decide +kernel
theorem dX5_under_249 : decode cX5_under 249 = .ok (.iconst 1, 1) := by decide +kernel
theorem dX5_under_250 : decode cX5_under 250 = .ok (.invokevirtual 196, 3) := by decide +kernel
theorem dX5_under_253 : decode cX5_under 253 = .ok (.iload_n 2, 1) := by decide +kernel
theorem dX5_under_254 : decode cX5_under 254 = .ok (.invokevirtual 200, 3) := by decide +kernel
theorem dX5_under_257 : decode cX5_under 257 = .ok (.aload_n 0, 1) := by decide +kernel
theorem dX5_under_258 : decode cX5_under 258 = .ok (.getfield 12, 3) := by decide +kernel
theorem dX5_under_261 : decode cX5_under 261 = .ok (.iload_n 1, 1) := by decide +kernel
theorem dX5_under_262 : decode cX5_under 262 = .ok (.iconst 0, 1) := by decide +kernel
theorem dX5_under_263 : decode cX5_under 263 = .ok (.invokevirtual 196, 3) := by decide +kernel
theorem dX5_under_266 : decode cX5_under 266 = .ok (.astore 5, 2) := by decide +kernel
theorem dX5_under_268 : decode cX5_under 268 = .ok (.aload 5, 2) := by decide +kernel
theorem dX5_under_270 : decode cX5_under 270 = .ok (.getfield 203, 3) := by decide +kernel
theorem dX5_under_273 : decode cX5_under 273 = .ok (.istore 6, 2) := by decide +kernel
theorem dX5_under_275 : decode cX5_under 275 = .ok (.iconst 0, 1) := by decide +kernel
theorem dX5_under_276 : decode cX5_under 276 = .ok (.istore 7, 2) := by decide +kernel
theorem dX5_under_278 : decode cX5_under 278 = .ok (.iload 7, 2) := by decide +kernel
theorem dX5_under_280 : decode cX5_under 280 = .ok (.iload 6, 2) := by decide +kernel
theorem dX5_under_282 : decode cX5_under 282 = .ok (.if_icmp .ge 31, 3) := by decide +kernel
theorem dX5_under_313 : decode cX5_under 313 = .ok (.iload 4, 2) := by decide +kernel
theorem dX5_under_315 : decode cX5_under 315 = .ok (.ireturn, 1) := by decide +kernel
theorem dX5_under_285 : decode cX5_under 285 = .ok (.iload 4, 2) := by decide +kernel
theorem dX5_under_287 : decode cX5_under 287 = .ok (.ifCond .ne 26, 3) := by decide +kernel
theorem dX5_under_290 : decode cX5_under 290 = .ok (.aload_n 0, 1) := by decide +kernel
theorem dX5_under_291 : decode cX5_under 291 = .ok (.aload 5, 2) := by decide +kernel
theorem dX5_under_293 : decode cX5_under 293 = .ok (.iload 7, 2) := by decide +kernel
theorem dX5_under_295 : decode cX5_under 295 = .ok (.invokevirtual 124, 3) := by decide +kernel
theorem dX5_under_298 : decode cX5_under 298 = .ok (.iload_n 2, 1) := by decide +kernel
theorem dX5_under_299 : decode cX5_under 299 = .ok (.iload_n 3, 1) := by decide +kernel
theorem dX5_under_300 : decode cX5_under 300 = .ok (.iconst 1, 1) := by decide +kernel
theorem dX5_under_301 : decode cX5_under 301 = .ok (.iadd, 1) := by decide +kernel
theorem dX5_under_302 : decode cX5_under 302 = .ok (.invokevirtual 150, 3) := by decide +kernel
theorem dX5_under_305 : decode cX5_under 305 = .ok (.istore 4, 2) := by decide +kernel
theorem dX5_under_307 : decode cX5_under 307 = .ok (.iinc 7 1, 3) := by decide +kernel
theorem dX5_under_310 : decode cX5_under 310 = .ok (.goto (-32), 3) := by decide +kernel
theorem dX5_under_316 : decode cX5_under 316 = .ok (.aload_n 0, 1) := by decide +kernel
theorem dX5_under_317 : decode cX5_under 317 = .ok (.getfield 12, 3) := by decide +kernel
theorem dX5_under_320 : decode cX5_under 320 = .ok (.iload_n 2, 1) := by decide +kernel
theorem dX5_under_321 : decode cX5_under 321 = .ok (.iconst 0, 1) := by decide +kernel
theorem dX5_under_322 : decode cX5_under 322 = .ok (.invokevirtual 196, 3) := by decide +kernel
theorem dX5_under_325 : decode cX5_under 325 = .ok (.iload_n 1, 1) := by decide +kernel
theorem dX5_under_326 : decode cX5_under 326 = .ok (.invokevirtual 200, 3) := by decide +kernel
theorem dX5_under_329 : decode cX5_under 329 = .ok (.aload_n 0, 1) := by decide +kernel
theorem dX5_under_330 : decode cX5_under 330 = .ok (.getfield 12, 3) := by decide +kernel
theorem dX5_under_333 : decode cX5_under 333 = .ok (.iload_n 2, 1) := by decide +kernel
theorem dX5_under_334 : decode cX5_under 334 = .ok (.iconst 1, 1) := by decide +kernel
theorem dX5_under_335 : decode cX5_under 335 = .ok (.invokevirtual 196, 3) := by decide +kernel
theorem dX5_under_338 : decode cX5_under 338 = .ok (.astore 5, 2) := by decide +kernel
theorem dX5_under_340 : decode cX5_under 340 = .ok (.aload 5, 2) := by decide +kernel
theorem dX5_under_342 : decode cX5_under 342 = .ok (.getfield 203, 3) := by decide +kernel
theorem dX5_under_345 : decode cX5_under 345 = .ok (.istore 6, 2) := by decide +kernel
theorem dX5_under_347 : decode cX5_under 347 = .ok (.iconst 0, 1) := by decide +kernel
theorem dX5_under_348 : decode cX5_under 348 = .ok (.istore 7, 2) := by decide +kernel
theorem dX5_under_350 : decode cX5_under 350 = .ok (.iload 7, 2) := by decide +kernel
theorem dX5_under_352 : decode cX5_under 352 = .ok (.iload 6, 2) := by decide +kernel
theorem dX5_under_354 : decode cX5_under 354 = .ok (.if_icmp .ge 31, 3) := by decide +kernel
theorem dX5_under_385 : decode cX5_under 385 = .ok (.iload 4, 2) := by decide +kernel
theorem dX5_under_387 : decode cX5_under 387 = .ok (.ireturn, 1) := by decide +kernel
theorem dX5_under_357 : decode cX5_under 357 = .ok (.iload 4, 2) := by decide +kernel
theorem dX5_under_359 : decode cX5_under 359 = .ok (.ifCond .ne 26, 3) := by decide +kernel
theorem dX5_under_362 : decode cX5_under 362 = .ok (.aload_n 0, 1) := by decide +kernel
theorem dX5_under_363 : decode cX5_under 363 = .ok (.iload_n 1, 1) := by decide +kernel
theorem dX5_under_364 : decode cX5_under 364 = .ok (.aload 5, 2) := by decide +kernel
theorem dX5_under_366 : decode cX5_under 366 = .ok (.iload 7, 2) := by decide +kernel
theorem dX5_under_368 : decode cX5_under 368 = .ok (.invokevirtual 124, 3) := by decide +kernel
theorem dX5_under_371 : decode cX5_under 371 = .ok (.iload_n 3, 1) := by decide +kernel
theorem dX5_under_372 : decode cX5_under 372 = .ok (.iconst 1, 1) := by decide +kernel
theorem dX5_under_373 : decode cX5_under 373 = .ok (.iadd, 1) := by decide +kernel
theorem dX5_under_374 : decode cX5_under 374 = .ok (.invokevirtual 150, 3) := by decide +kernel
theorem dX5_under_377 : decode cX5_under 377 = .ok (.istore 4, 2) := by decide +kernel
theorem dX5_under_379 : decode cX5_under 379 = .ok (.iinc 7 1, 3) := by decide +kernel
theorem dX5_under_382 : decode cX5_under 382 = .ok (.goto (-32), 3) := by decide +kernel
theorem dX5_under_388 : decode cX5_under 388 = .ok (.aload_n 0, 1) := by decide +kernel
theorem dX5_under_389 : decode cX5_under 389 = .ok (.aload_n 0, 1) := by decide +kernel
theorem dX5_under_390 : decode cX5_under 390 = .ok (.getfield 12, 3) := by decide +kernel
theorem dX5_under_393 : decode cX5_under 393 = .ok (.iload_n 1, 1) := by decide +kernel
theorem dX5_under_394 : decode cX5_under 394 = .ok (.invokevirtual 206, 3) := by decide +kernel
theorem dX5_under_397 : decode cX5_under 397 = .ok (.aload_n 0, 1) := by decide +kernel
theorem dX5_under_398 : decode cX5_under 398 = .ok (.getfield 12, 3) := by decide +kernel
theorem dX5_under_401 : decode cX5_under 401 = .ok (.iload_n 1, 1) := by decide +kernel
theorem dX5_under_402 : decode cX5_under 402 = .ok (.invokevirtual 206, 3) := by decide +kernel
theorem dX5_under_405 : decode cX5_under 405 = .ok (.invokevirtual 127, 3) := by decide +kernel
theorem dX5_under_408 : decode cX5_under 408 = .ok (.aload_n 0, 1) := by decide +kernel
theorem dX5_under_409 : decode cX5_under 409 = .ok (.iload_n 2, 1) := by decide +kernel
theorem dX5_under_410 : decode cX5_under 410 = .ok (.iconst 1, 1) := by decide +kernel
theorem dX5_under_411 : decode cX5_under 411 = .ok (.iconst 1, 1) := by decide +kernel
theorem dX5_under_412 : decode cX5_under 412 = .ok (.invokevirtual 131, 3) := by decide +kernel
theorem dX5_under_415 : decode cX5_under 415 = .ok (.istore 5, 2) := by decide +kernel
theorem dX5_under_417 : decode cX5_under 417 = .ok (.iload 5, 2) := by decide +kernel
theorem dX5_under_419 : decode cX5_under 419 = .ok (.ifCond .ge 8, 3) := by decide +kernel
theorem dX5_under_427 : decode cX5_under 427 = .ok (.aload_n 0, 1) := by decide +kernel
theorem dX5_under_428 : decode cX5_under 428 = .ok (.iload_n 1, 1) := by decide +kernel
theorem dX5_under_429 : decode cX5_under 429 = .ok (.iload 5, 2) := by decide +kernel
theorem dX5_under_431 : decode cX5_under 431 = .ok (.iload_n 3, 1) := by decide +kernel
theorem dX5_under_432 : decode cX5_under 432 = .ok (.iconst 1, 1) := by decide +kernel
theorem dX5_under_433 : decode cX5_under 433 = .ok (.iadd, 1) := by decide +kernel
theorem dX5_under_434 : decode cX5_under 434 = .ok (.invokevirtual 150, 3) := by decide +kernel
theorem dX5_under_437 : decode cX5_under 437 = .ok (.ireturn, 1) := by decide +kernel
theorem dX5_under_422 : decode cX5_under 422 = .ok (.iload 5, 2) := by decide +kernel
theorem dX5_under_424 : decode cX5_under 424 = .ok (.goto 13, 3) := by decide +kernel
theorem dX5_under_438 : decode cX5_under 438 = .ok (.aload_n 0, 1) := by decide +kernel
theorem dX5_under_439 : decode cX5_under 439 = .ok (.aload_n 0, 1) := by decide +kernel
theorem dX5_under_440 : decode cX5_under 440 = .ok (.getfield 12, 3) := by decide +kernel
theorem dX5_under_443 : decode cX5_under 443 = .ok (.iload_n 2, 1) := by decide +kernel
theorem dX5_under_444 : decode cX5_under 444 = .ok (.invokevirtual 206, 3) := by decide +kernel
theorem dX5_under_447 : decode cX5_under 447 = .ok (.aload_n 0, 1) := by decide +kernel
theorem dX5_under_448 : decode cX5_under 448 = .ok (.getfield 12, 3) := by decide +kernel
theorem dX5_under_451 : decode cX5_under 451 = .ok (.iload_n 2, 1) := by decide +kernel
theorem dX5_under_452 : decode cX5_under 452 = .ok (.invokevirtual 206, 3) := by decide +kernel
theorem dX5_under_455 : decode cX5_under 455 = .ok (.invokevirtual 127, 3) := by decide +kernel
theorem dX5_under_458 : decode cX5_under 458 = .ok (.aload_n 0, 1) := by decide +kernel
theorem dX5_under_459 : decode cX5_under 459 = .ok (.iload_n 1, 1) := by decide +kernel
theorem dX5_under_460 : decode cX5_under 460 = .ok (.iconst 0, 1) := by decide +kernel
theorem dX5_under_461 : decode cX5_under 461 = .ok (.iconst 1, 1) := by decide +kernel
theorem dX5_under_462 : decode cX5_under 462 = .ok (.invokevirtual 131, 3) := by decide +kernel
theorem dX5_under_465 : decode cX5_under 465 = .ok (.istore 5, 2) := by decide +kernel
theorem dX5_under_467 : decode cX5_under 467 = .ok (.iload 5, 2) := by decide +kernel
theorem dX5_under_469 : decode cX5_under 469 = .ok (.ifCond .ge 8, 3) := by decide +kernel
theorem dX5_under_477 : decode cX5_under 477 = .ok (.aload_n 0, 1) := by decide +kernel
theorem dX5_under_478 : decode cX5_under 478 = .ok (.iload 5, 2) := by decide +kernel
theorem dX5_under_480 : decode cX5_under 480 = .ok (.iload_n 2, 1) := by decide +kernel
theorem dX5_under_481 : decode cX5_under 481 = .ok (.iload_n 3, 1) := by decide +kernel
theorem dX5_under_482 : decode cX5_under 482 = .ok (.iconst 1, 1) := by decide +kernel
theorem dX5_under_483 : decode cX5_under 483 = .ok (.iadd, 1) := by decide +kernel
theorem dX5_under_484 : decode cX5_under 484 = .ok (.invokevirtual 150, 3) := by decide +kernel
theorem dX5_under_487 : decode cX5_under 487 = .ok (.ireturn, 1) := by decide +kernel
theorem dX5_under_472 : decode cX5_under 472 = .ok (.iload 5, 2) := by decide +kernel
theorem dX5_under_474 : decode cX5_under 474 = .ok (.goto 13, 3) := by decide +kernel
/-! ===== asking ===== -/
def US (S : cS) (T V X Y Z q : Nat) : Prop := TY S T V V X Y Z ∧ S.1 12 = nI q ∧ Z ≤ q ∧ ∀ j, j < 2 * V → kK S (35 + j) ≤ q + V
def UR (u : cS) (T V Y q T1 V1 X1 Y1 Z1 q1 : Nat) (v : Int32) : Prop := US u T1 V1 X1 Y1 Z1 q1 ∧ (T ≤ T1 ∧ V ≤ V1 ∧ q ≤ q1 ∧ q1 ≤ 1501 ∧ Y ≤ Y1 ∧ Y1 ≤ Y + 366) ∧ (v = 0 ∨ v < 0) ∧ (v = 0 → q1 ≤ 1500 ∧ Y1 = Y)
def UX (u : cS) (T V Y q : Nat) (v : Int32) : Prop := ∃ T1 V1 X1 Y1 Z1 q1, UR u T V Y q T1 V1 X1 Y1 Z1 q1 v
theorem UR.tr {S u : cS} {T V Y q T1 V1 X1 Z1 q1 : Nat} {v : Int32} (h : UR S T V Y q T1 V1 X1 Y Z1 q1 0) (h' : UX u T1 V1 Y q1 v) : UX u T V Y q v := by
  obtain ⟨-, ⟨a1, a2, a3, -, -, -⟩, -, -⟩ := h
  obtain ⟨T2, V2, X2, Y2, Z2, q2, b, ⟨c1, c2, c3, c4, c5, c6⟩, d, e⟩ := h'
  exact ⟨T2, V2, X2, Y2, Z2, q2, b, ⟨Nat.le_trans a1 c1, Nat.le_trans a2 c2, Nat.le_trans a3 c3, c4, c5, c6⟩, d, e⟩
theorem UR.ok {S : cS} {T V Y q T1 V1 X1 Y1 Z1 q1 : Nat} {v : Int32} (h : UR S T V Y q T1 V1 X1 Y1 Z1 q1 v) (e : v = 0) : UR S T V Y q T1 V1 X1 Y Z1 q1 0 ∧ q1 ≤ 1500 := by
  subst e
  obtain ⟨e1, e2⟩ := h.2.2.2 rfl
  subst e2
  exact ⟨h, e1⟩
theorem UR.bad {S : cS} {T V Y q T1 V1 X1 Y1 Z1 q1 : Nat} {v w : Int32} (h : UR S T V Y q T1 V1 X1 Y1 Z1 q1 v) (e : w < 0) : UR S T V Y q T1 V1 X1 Y1 Z1 q1 w := ⟨h.1, h.2.1, Or.inr e, fun z => by rw [z] at e; exact absurd e (by decide)⟩
theorem UR.z {S : cS} {T V Y q T1 V1 X1 Y1 Z1 q1 : Nat} {v : Int32} (h : UR S T V Y q T1 V1 X1 Y1 Z1 q1 v) (e : 0 ≤ v) : v = 0 := by
  rcases h.2.2.1 with z | z
  · exact z
  · exact absurd z (Int32.not_lt.mpr e)
theorem US.aw {rs is : List Nat} {S u : cS} {T V X Y Z q : Nat} (h : US S T V X Y Z q) (a : AW rs is S u) (h1 : ∀ r ∈ [6, 7, 8, 9, 10, 11, 12, 13, 14, 16, 17, 18, 35], r ∉ rs) (h2 : 12 ∉ is) : US u T V X Y Z q := by
  obtain ⟨b1, b2, b3, b4⟩ := h
  exact ⟨b1.aw a (fun r hr => h1 r (by revert r; decide)), (a.1 12 h2).trans b2, b3, fun j hj => by rw [a.bnd (h1 35 (by decide)) b1.2.1.2.2.1 j hj]; exact b4 j hj⟩
/-- one more asking; a row of bounds grows by it -/
theorem US.push {S u : cS} {T V X Y Z q q1 r j0 n p : Nat} {gg : Nat → Int32} (h : TY S T V V X Y Z) (h12 : S.1 12 = nI q1) (hZ : Z ≤ q1) (hb : ∀ j, j < 2 * V → kK S (35 + j) ≤ q + V) (hq : q1 = q + 1) (hu : u = uR S r (kK S r + 1) n p gg) (hr : r = 35 + j0) (hj : j0 < 2 * V) (hr4 : r < 400 := by omega) : US u T V X Y Z q1 := by
  have a : AW [35] [] S u := by rw [hu]; exact AW.u (by rw [hr, Nat.min_eq_right (Nat.le_add_right 35 j0)]; exact List.mem_cons_self) hr4
  refine ⟨h.aw a (by decide), (a.1 12 (by decide)).trans h12, hZ, fun j hj1 => ?_⟩
  by_cases e : 35 + j = r
  · rw [e, hu, uR_K, hr]
    have := hb j0 hj
    omega
  · rw [hu, uR_Ko e]
    have := hb j hj1
    omega
theorem US.one {S u : cS} {rs is : List Nat} {T V X Y Z q : Nat} (h : TY u T V V X Y Z) (a : AW rs is S u) (hr : 35 ∉ rs) (hB : 2 * V ≤ kB S) (hb : ∀ j, j < 2 * V → kK S (35 + j) ≤ q + V) : ∀ j, j < 2 * V → kK u (35 + j) ≤ q + V := fun j hj => by rw [a.bnd hr hB j hj]; exact hb j hj
def cUnderAt (fu : Nat) : Prop := ∀ (l : Launch) (G : cG) (S : cS) (T : Nat) (V : Nat) (X : Nat) (Y : Nat) (Z : Nat) (q : Nat) (dp : Nat) (a : Int32) (b : Int32) (hC : CL S) (hU : US S T V X Y Z q) (hq : q ≤ 1500) (h15 : kK S 15 = 0) (hdp : dp + fu = 61) (hY2 : Y + 366 ≤ 900) (Hs : Heap), Met l yX5_under (wC yX5_under cX5_under 8 (some .int)) (cRm S (fu + 70) (40 * fu + 3000)) (cPc G S Hs [.ref (ga G 4), .int a, .int b, .int (nI dp)]) (cQi G S Hs (fun v u => AW [6, 7, 8, 9, 16, 14, 10, 11, 12, 13, 17, 18, 25, 26, 35] [8, 9, 10, 12] S u ∧ (UX u T V Y q v))) (CC - PT S) (12 * (CC - PT S)) (cA G S Hs.size)

theorem kK_lt {S : cS} {r : Nat} (hC : CL S) (hr : r < 35 + kB S) : kK S r < 5000 := by
  have h1 := (hC.2 r hr).2.2
  have h2 := lim_le r
  omega

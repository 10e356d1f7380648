theorem dX5_copied_9 : decode cX5_copied 9 = .ok (.aload_n 0, 1) := by decide +kernel
theorem dX5_copied_10 : decode cX5_copied 10 = .ok (.getfield 12, 3) := by decide +kernel
theorem dX5_copied_13 : decode cX5_copied 13 = .ok (.iload_n 1, 1) := by decide +kernel
theorem dX5_copied_14 : decode cX5_copied 14 = .ok (.invokevirtual 206, 3) := by decide +kernel
theorem dX5_copied_17 : decode cX5_copied 17 = .ok (.aload_n 0, 1) := by decide +kernel
theorem dX5_copied_18 : decode cX5_copied 18 = .ok (.getfield 215, 3) := by decide +kernel
theorem dX5_copied_21 : decode cX5_copied 21 = .ok (.if_icmp .gt 5, 3) := by decide +kernel
theorem dX5_copied_26 : decode cX5_copied 26 = .ok (.aload_n 0, 1) := by decide +kernel
theorem dX5_copied_27 : decode cX5_copied 27 = .ok (.getfield 12, 3) := by decide +kernel
theorem dX5_copied_30 : decode cX5_copied 30 = .ok (.iload_n 1, 1) := by decide +kernel
theorem dX5_copied_31 : decode cX5_copied 31 = .ok (.invokevirtual 209, 3) := by decide +kernel
theorem dX5_copied_34 : decode cX5_copied 34 = .ok (.istore 4, 2) := by decide +kernel
theorem dX5_copied_36 : decode cX5_copied 36 = .ok (.iload 4, 2) := by decide +kernel
theorem dX5_copied_38 : decode cX5_copied 38 = .ok (.iconst 2, 1) := by decide +kernel
theorem dX5_copied_39 : decode cX5_copied 39 = .ok (.if_icmp .ne 74, 3) := by decide +kernel
theorem dX5_copied_113 : decode cX5_copied 113 = .ok (.iload 4, 2) := by decide +kernel
theorem dX5_copied_115 : decode cX5_copied 115 = .ok (.iconst 3, 1) := by decide +kernel
theorem dX5_copied_116 : decode cX5_copied 116 = .ok (.if_icmp .ne 95, 3) := by decide +kernel
theorem dX5_copied_211 : decode cX5_copied 211 = .ok (.iconst 2, 1) := by decide +kernel
theorem dX5_copied_212 : decode cX5_copied 212 = .ok (.aload_n 0, 1) := by decide +kernel
theorem dX5_copied_213 : decode cX5_copied 213 = .ok (.getfield 12, 3) := by decide +kernel
theorem dX5_copied_216 : decode cX5_copied 216 = .ok (.iload_n 1, 1) := by decide +kernel
theorem dX5_copied_217 : decode cX5_copied 217 = .ok (.invokevirtual 224, 3) := by decide +kernel
theorem dX5_copied_220 : decode cX5_copied 220 = .ok (.imul, 1) := by decide +kernel
theorem dX5_copied_221 : decode cX5_copied 221 = .ok (.iload_n 2, 1) := by decide +kernel
theorem dX5_copied_222 : decode cX5_copied 222 = .ok (.iconst 1, 1) := by decide +kernel
theorem dX5_copied_223 : decode cX5_copied 223 = .ok (.if_icmp .ne 7, 3) := by decide +kernel
theorem dX5_copied_230 : decode cX5_copied 230 = .ok (.iconst 0, 1) := by decide +kernel
theorem dX5_copied_231 : decode cX5_copied 231 = .ok (.iadd, 1) := by decide +kernel
theorem dX5_copied_232 : decode cX5_copied 232 = .ok (.istore 5, 2) := by decide +kernel
theorem dX5_copied_234 : decode cX5_copied 234 = .ok (.aload_n 0, 1) := by decide +kernel
theorem dX5_copied_235 : decode cX5_copied 235 = .ok (.getfield 51, 3) := by decide +kernel
theorem dX5_copied_238 : decode cX5_copied 238 = .ok (.iload 5, 2) := by decide +kernel
theorem dX5_copied_240 : decode cX5_copied 240 = .ok (.invokevirtual 124, 3) := by decide +kernel
theorem dX5_copied_243 : decode cX5_copied 243 = .ok (.aload_n 0, 1) := by decide +kernel
theorem dX5_copied_244 : decode cX5_copied 244 = .ok (.getfield 212, 3) := by decide +kernel
theorem dX5_copied_247 : decode cX5_copied 247 = .ok (.if_icmp .ne 13, 3) := by decide +kernel
theorem dX5_copied_260 : decode cX5_copied 260 = .ok (.aload_n 0, 1) := by decide +kernel
theorem dX5_copied_261 : decode cX5_copied 261 = .ok (.getfield 12, 3) := by decide +kernel
theorem dX5_copied_264 : decode cX5_copied 264 = .ok (.aload_n 0, 1) := by decide +kernel
theorem dX5_copied_265 : decode cX5_copied 265 = .ok (.getfield 218, 3) := by decide +kernel
theorem dX5_copied_268 : decode cX5_copied 268 = .ok (.invokevirtual 137, 3) := by decide +kernel
theorem dX5_copied_271 : decode cX5_copied 271 = .ok (.istore 6, 2) := by decide +kernel
theorem dX5_copied_273 : decode cX5_copied 273 = .ok (.iload 6, 2) := by decide +kernel
theorem dX5_copied_275 : decode cX5_copied 275 = .ok (.ifCond .ge 6, 3) := by decide +kernel
theorem dX5_copied_278 : decode cX5_copied 278 = .ok (.iload 6, 2) := by decide +kernel
theorem dX5_copied_280 : decode cX5_copied 280 = .ok (.ireturn, 1) := by decide +kernel
theorem dX5_copied_281 : decode cX5_copied 281 = .ok (.aload_n 0, 1) := by decide +kernel
theorem dX5_copied_282 : decode cX5_copied 282 = .ok (.getfield 48, 3) := by decide +kernel
theorem dX5_copied_285 : decode cX5_copied 285 = .ok (.iload 5, 2) := by decide +kernel
theorem dX5_copied_287 : decode cX5_copied 287 = .ok (.iload 6, 2) := by decide +kernel
theorem dX5_copied_289 : decode cX5_copied 289 = .ok (.invokevirtual 134, 3) := by decide +kernel
theorem dX5_copied_292 : decode cX5_copied 292 = .ok (.aload_n 0, 1) := by decide +kernel
theorem dX5_copied_293 : decode cX5_copied 293 = .ok (.getfield 51, 3) := by decide +kernel
theorem dX5_copied_296 : decode cX5_copied 296 = .ok (.iload 5, 2) := by decide +kernel
theorem dX5_copied_298 : decode cX5_copied 298 = .ok (.aload_n 0, 1) := by decide +kernel
theorem dX5_copied_299 : decode cX5_copied 299 = .ok (.getfield 212, 3) := by decide +kernel
theorem dX5_copied_302 : decode cX5_copied 302 = .ok (.invokevirtual 134, 3) := by decide +kernel
theorem dX5_copied_305 : decode cX5_copied 305 = .ok (.iload_n 2, 1) := by decide +kernel
theorem dX5_copied_306 : decode cX5_copied 306 = .ok (.ifCond .ne 17, 3) := by decide +kernel
theorem dX5_copied_309 : decode cX5_copied 309 = .ok (.aload_n 0, 1) := by decide +kernel
theorem dX5_copied_310 : decode cX5_copied 310 = .ok (.getfield 12, 3) := by decide +kernel
theorem dX5_copied_313 : decode cX5_copied 313 = .ok (.iload_n 1, 1) := by decide +kernel
theorem dX5_copied_314 : decode cX5_copied 314 = .ok (.iconst 1, 1) := by decide +kernel
theorem dX5_copied_315 : decode cX5_copied 315 = .ok (.invokevirtual 196, 3) := by decide +kernel
theorem dX5_copied_318 : decode cX5_copied 318 = .ok (.iload 6, 2) := by decide +kernel
theorem dX5_copied_320 : decode cX5_copied 320 = .ok (.invokevirtual 200, 3) := by decide +kernel
theorem dX5_copied_323 : decode cX5_copied 323 = .ok (.iload_n 2, 1) := by decide +kernel
theorem dX5_copied_324 : decode cX5_copied 324 = .ok (.iconst 1, 1) := by decide +kernel
theorem dX5_copied_325 : decode cX5_copied 325 = .ok (.if_icmp .ne 17, 3) := by decide +kernel
theorem dX5_copied_342 : decode cX5_copied 342 = .ok (.iconst 0, 1) := by decide +kernel
theorem dX5_copied_343 : decode cX5_copied 343 = .ok (.istore 7, 2) := by decide +kernel
theorem dX5_copied_345 : decode cX5_copied 345 = .ok (.iload 7, 2) := by decide +kernel
theorem dX5_copied_347 : decode cX5_copied 347 = .ok (.iconst 1, 1) := by decide +kernel
theorem dX5_copied_348 : decode cX5_copied 348 = .ok (.if_icmp .gt 97, 3) := by decide +kernel
theorem dX5_copied_351 : decode cX5_copied 351 = .ok (.iload 7, 2) := by decide +kernel
theorem dX5_copied_353 : decode cX5_copied 353 = .ok (.iload_n 2, 1) := by decide +kernel
theorem dX5_copied_354 : decode cX5_copied 354 = .ok (.invokestatic 227, 3) := by decide +kernel
theorem dX5_copied_357 : decode cX5_copied 357 = .ok (.ifCond .ne 6, 3) := by decide +kernel
theorem dX5_copied_363 : decode cX5_copied 363 = .ok (.aload_n 0, 1) := by decide +kernel
theorem dX5_copied_364 : decode cX5_copied 364 = .ok (.getfield 12, 3) := by decide +kernel
theorem dX5_copied_367 : decode cX5_copied 367 = .ok (.iload_n 1, 1) := by decide +kernel
theorem dX5_copied_368 : decode cX5_copied 368 = .ok (.iload 7, 2) := by decide +kernel
theorem dX5_copied_370 : decode cX5_copied 370 = .ok (.invokevirtual 196, 3) := by decide +kernel
theorem dX5_copied_373 : decode cX5_copied 373 = .ok (.astore 8, 2) := by decide +kernel
theorem dX5_copied_375 : decode cX5_copied 375 = .ok (.aload 8, 2) := by decide +kernel
theorem dX5_copied_377 : decode cX5_copied 377 = .ok (.getfield 203, 3) := by decide +kernel
theorem dX5_copied_380 : decode cX5_copied 380 = .ok (.istore 9, 2) := by decide +kernel
theorem dX5_copied_382 : decode cX5_copied 382 = .ok (.iconst 0, 1) := by decide +kernel
theorem dX5_copied_383 : decode cX5_copied 383 = .ok (.istore 10, 2) := by decide +kernel
theorem dX5_copied_385 : decode cX5_copied 385 = .ok (.iload 10, 2) := by decide +kernel
theorem dX5_copied_387 : decode cX5_copied 387 = .ok (.iload 9, 2) := by decide +kernel
theorem dX5_copied_389 : decode cX5_copied 389 = .ok (.if_icmp .ge 50, 3) := by decide +kernel
theorem dX5_copied_439 : decode cX5_copied 439 = .ok (.iinc 7 1, 3) := by decide +kernel
theorem dX5_copied_442 : decode cX5_copied 442 = .ok (.goto (-97), 3) := by decide +kernel
theorem dX5_copied_360 : decode cX5_copied 360 = .ok (.goto 79, 3) := by decide +kernel
theorem dX5_copied_445 : decode cX5_copied 445 = .ok (.iload 6, 2) := by decide +kernel
theorem dX5_copied_447 : decode cX5_copied 447 = .ok (.ireturn, 1) := by decide +kernel
theorem dX5_copied_392 : decode cX5_copied 392 = .ok (.aload_n 0, 1) := by decide +kernel
theorem dX5_copied_393 : decode cX5_copied 393 = .ok (.aload 8, 2) := by decide +kernel
theorem dX5_copied_395 : decode cX5_copied 395 = .ok (.iload 10, 2) := by decide +kernel
theorem dX5_copied_397 : decode cX5_copied 397 = .ok (.invokevirtual 124, 3) := by decide +kernel
theorem dX5_copied_400 : decode cX5_copied 400 = .ok (.iload_n 2, 1) := by decide +kernel
theorem dX5_copied_401 : decode cX5_copied 401 = .ok (.iload_n 3, 1) := by decide +kernel
theorem dX5_copied_402 : decode cX5_copied 402 = .ok (.iconst 1, 1) := by decide +kernel
theorem dX5_copied_403 : decode cX5_copied 403 = .ok (.iadd, 1) := by decide +kernel
theorem dX5_copied_404 : decode cX5_copied 404 = .ok (.invokevirtual 131, 3) := by decide +kernel
theorem dX5_copied_407 : decode cX5_copied 407 = .ok (.istore 11, 2) := by decide +kernel
theorem dX5_copied_409 : decode cX5_copied 409 = .ok (.iload 11, 2) := by decide +kernel
theorem dX5_copied_411 : decode cX5_copied 411 = .ok (.ifCond .ge 6, 3) := by decide +kernel
theorem dX5_copied_417 : decode cX5_copied 417 = .ok (.aload_n 0, 1) := by decide +kernel
theorem dX5_copied_418 : decode cX5_copied 418 = .ok (.getfield 12, 3) := by decide +kernel
theorem dX5_copied_421 : decode cX5_copied 421 = .ok (.iload 6, 2) := by decide +kernel
theorem dX5_copied_423 : decode cX5_copied 423 = .ok (.iload 7, 2) := by decide +kernel
theorem dX5_copied_425 : decode cX5_copied 425 = .ok (.invokevirtual 196, 3) := by decide +kernel
theorem dX5_copied_428 : decode cX5_copied 428 = .ok (.iload 11, 2) := by decide +kernel
theorem dX5_copied_430 : decode cX5_copied 430 = .ok (.invokevirtual 200, 3) := by decide +kernel
theorem dX5_copied_433 : decode cX5_copied 433 = .ok (.iinc 10 1, 3) := by decide +kernel
theorem dX5_copied_436 : decode cX5_copied 436 = .ok (.goto (-51), 3) := by decide +kernel
theorem dX5_copied_414 : decode cX5_copied 414 = .ok (.iload 11, 2) := by decide +kernel
theorem dX5_copied_416 : decode cX5_copied 416 = .ok (.ireturn, 1) := by decide +kernel
theorem dX5_copied_250 : decode cX5_copied 250 = .ok (.aload_n 0, 1) := by decide +kernel
theorem dX5_copied_251 : decode cX5_copied 251 = .ok (.getfield 48, 3) := by decide +kernel
theorem dX5_copied_254 : decode cX5_copied 254 = .ok (.iload 5, 2) := by decide +kernel
theorem dX5_copied_256 : decode cX5_copied 256 = .ok (.invokevirtual 124, 3) := by decide +kernel
theorem dX5_copied_259 : decode cX5_copied 259 = .ok (.ireturn, 1) := by decide +kernel
theorem dX5_copied_119 : decode cX5_copied 119 = .ok (.aload_n 0, 1) := by decide +kernel
theorem dX5_copied_120 : decode cX5_copied 120 = .ok (.getfield 12, 3) := by decide +kernel
theorem dX5_copied_123 : decode cX5_copied 123 = .ok (.invokevirtual 153, 3) := by decide +kernel
theorem dX5_copied_126 : decode cX5_copied 126 = .ok (.istore 5, 2) := by decide +kernel
theorem dX5_copied_128 : decode cX5_copied 128 = .ok (.aload_n 0, 1) := by decide +kernel
theorem dX5_copied_129 : decode cX5_copied 129 = .ok (.getfield 12, 3) := by decide +kernel
theorem dX5_copied_132 : decode cX5_copied 132 = .ok (.iload_n 1, 1) := by decide +kernel
theorem dX5_copied_133 : decode cX5_copied 133 = .ok (.invokevirtual 184, 3) := by decide +kernel
theorem dX5_copied_136 : decode cX5_copied 136 = .ok (.istore 6, 2) := by decide +kernel
theorem dX5_copied_138 : decode cX5_copied 138 = .ok (.iconst 0, 1) := by decide +kernel
theorem dX5_copied_139 : decode cX5_copied 139 = .ok (.istore 7, 2) := by decide +kernel
theorem dX5_copied_141 : decode cX5_copied 141 = .ok (.iload 7, 2) := by decide +kernel
theorem dX5_copied_143 : decode cX5_copied 143 = .ok (.iload 6, 2) := by decide +kernel
theorem dX5_copied_145 : decode cX5_copied 145 = .ok (.if_icmp .ge 56, 3) := by decide +kernel
theorem dX5_copied_201 : decode cX5_copied 201 = .ok (.aload_n 0, 1) := by decide +kernel
theorem dX5_copied_202 : decode cX5_copied 202 = .ok (.getfield 12, 3) := by decide +kernel
theorem dX5_copied_205 : decode cX5_copied 205 = .ok (.iload 5, 2) := by decide +kernel
theorem dX5_copied_207 : decode cX5_copied 207 = .ok (.invokevirtual 165, 3) := by decide +kernel
theorem dX5_copied_210 : decode cX5_copied 210 = .ok (.ireturn, 1) := by decide +kernel
theorem dX5_copied_148 : decode cX5_copied 148 = .ok (.aload_n 0, 1) := by decide +kernel
theorem dX5_copied_149 : decode cX5_copied 149 = .ok (.aload_n 0, 1) := by decide +kernel
theorem dX5_copied_150 : decode cX5_copied 150 = .ok (.getfield 12, 3) := by decide +kernel
theorem dX5_copied_153 : decode cX5_copied 153 = .ok (.iload_n 1, 1) := by decide +kernel
theorem dX5_copied_154 : decode cX5_copied 154 = .ok (.iload 7, 2) := by decide +kernel
theorem dX5_copied_156 : decode cX5_copied 156 = .ok (.invokevirtual 193, 3) := by decide +kernel
theorem dX5_copied_159 : decode cX5_copied 159 = .ok (.iload_n 2, 1) := by decide +kernel
theorem dX5_copied_160 : decode cX5_copied 160 = .ok (.iload_n 3, 1) := by decide +kernel
theorem dX5_copied_161 : decode cX5_copied 161 = .ok (.iconst 1, 1) := by decide +kernel
theorem dX5_copied_162 : decode cX5_copied 162 = .ok (.iadd, 1) := by decide +kernel
theorem dX5_copied_163 : decode cX5_copied 163 = .ok (.invokevirtual 131, 3) := by decide +kernel
theorem dX5_copied_166 : decode cX5_copied 166 = .ok (.istore 8, 2) := by decide +kernel
theorem dX5_copied_168 : decode cX5_copied 168 = .ok (.iload 8, 2) := by decide +kernel
theorem dX5_copied_170 : decode cX5_copied 170 = .ok (.ifCond .ge 6, 3) := by decide +kernel
theorem dX5_copied_176 : decode cX5_copied 176 = .ok (.aload_n 0, 1) := by decide +kernel
theorem dX5_copied_177 : decode cX5_copied 177 = .ok (.getfield 12, 3) := by decide +kernel
theorem dX5_copied_180 : decode cX5_copied 180 = .ok (.aload_n 0, 1) := by decide +kernel
theorem dX5_copied_181 : decode cX5_copied 181 = .ok (.getfield 12, 3) := by decide +kernel
theorem dX5_copied_184 : decode cX5_copied 184 = .ok (.iload_n 1, 1) := by decide +kernel
theorem dX5_copied_185 : decode cX5_copied 185 = .ok (.iload 7, 2) := by decide +kernel
theorem dX5_copied_187 : decode cX5_copied 187 = .ok (.invokevirtual 187, 3) := by decide +kernel
theorem dX5_copied_190 : decode cX5_copied 190 = .ok (.iload 8, 2) := by decide +kernel
theorem dX5_copied_192 : decode cX5_copied 192 = .ok (.invokevirtual 162, 3) := by decide +kernel
theorem dX5_copied_195 : decode cX5_copied 195 = .ok (.iinc 7 1, 3) := by decide +kernel
theorem dX5_copied_198 : decode cX5_copied 198 = .ok (.goto (-57), 3) := by decide +kernel
theorem dX5_copied_173 : decode cX5_copied 173 = .ok (.iload 8, 2) := by decide +kernel
theorem dX5_copied_175 : decode cX5_copied 175 = .ok (.ireturn, 1) := by decide +kernel
theorem dX5_copied_42 : decode cX5_copied 42 = .ok (.aload_n 0, 1) := by decide +kernel
theorem dX5_copied_43 : decode cX5_copied 43 = .ok (.aload_n 0, 1) := by decide +kernel
theorem dX5_copied_44 : decode cX5_copied 44 = .ok (.getfield 12, 3) := by decide +kernel
theorem dX5_copied_47 : decode cX5_copied 47 = .ok (.iload_n 1, 1) := by decide +kernel
theorem dX5_copied_48 : decode cX5_copied 48 = .ok (.invokevirtual 178, 3) := by decide +kernel
theorem dX5_copied_51 : decode cX5_copied 51 = .ok (.iload_n 2, 1) := by decide +kernel
theorem dX5_copied_52 : decode cX5_copied 52 = .ok (.invokestatic 221, 3) := by decide +kernel
theorem dX5_copied_55 : decode cX5_copied 55 = .ok (.iload_n 3, 1) := by decide +kernel
theorem dX5_copied_56 : decode cX5_copied 56 = .ok (.iconst 1, 1) := by decide +kernel
theorem dX5_copied_57 : decode cX5_copied 57 = .ok (.iadd, 1) := by decide +kernel
theorem dX5_copied_58 : decode cX5_copied 58 = .ok (.invokevirtual 131, 3) := by decide +kernel
theorem dX5_copied_61 : decode cX5_copied 61 = .ok (.istore 5, 2) := by decide +kernel
theorem dX5_copied_63 : decode cX5_copied 63 = .ok (.iload 5, 2) := by decide +kernel
theorem dX5_copied_65 : decode cX5_copied 65 = .ok (.ifCond .ge 8, 3) := by decide +kernel
theorem dX5_copied_73 : decode cX5_copied 73 = .ok (.aload_n 0, 1) := by decide +kernel
theorem dX5_copied_74 : decode cX5_copied 74 = .ok (.aload_n 0, 1) := by decide +kernel
theorem dX5_copied_75 : decode cX5_copied 75 = .ok (.getfield 12, 3) := by decide +kernel
theorem dX5_copied_78 : decode cX5_copied 78 = .ok (.iload_n 1, 1) := by decide +kernel
theorem dX5_copied_79 : decode cX5_copied 79 = .ok (.invokevirtual 181, 3) := by decide +kernel
theorem dX5_copied_82 : decode cX5_copied 82 = .ok (.iload_n 2, 1) := by decide +kernel
theorem dX5_copied_83 : decode cX5_copied 83 = .ok (.iload_n 3, 1) := by decide +kernel
theorem dX5_copied_84 : decode cX5_copied 84 = .ok (.iconst 1, 1) := by decide +kernel
theorem dX5_copied_85 : decode cX5_copied 85 = .ok (.iadd, 1) := by decide +kernel
theorem dX5_copied_86 : decode cX5_copied 86 = .ok (.invokevirtual 131, 3) := by decide +kernel
theorem dX5_copied_89 : decode cX5_copied 89 = .ok (.istore 6, 2) := by decide +kernel
theorem dX5_copied_91 : decode cX5_copied 91 = .ok (.iload 6, 2) := by decide +kernel
theorem dX5_copied_93 : decode cX5_copied 93 = .ok (.ifCond .ge 8, 3) := by decide +kernel
theorem dX5_copied_101 : decode cX5_copied 101 = .ok (.aload_n 0, 1) := by decide +kernel
theorem dX5_copied_102 : decode cX5_copied 102 = .ok (.getfield 12, 3) := by decide +kernel
theorem dX5_copied_105 : decode cX5_copied 105 = .ok (.iload 5, 2) := by decide +kernel
theorem dX5_copied_107 : decode cX5_copied 107 = .ok (.iload 6, 2) := by decide +kernel
theorem dX5_copied_109 : decode cX5_copied 109 = .ok (.invokevirtual 147, 3) := by decide +kernel
theorem dX5_copied_112 : decode cX5_copied 112 = .ok (.ireturn, 1) := by decide +kernel
theorem dX5_copied_96 : decode cX5_copied 96 = .ok (.iload 6, 2) := by decide +kernel
theorem dX5_copied_98 : decode cX5_copied 98 = .ok (.goto 14, 3) := by decide +kernel
theorem dX5_copied_68 : decode cX5_copied 68 = .ok (.iload 5, 2) := by decide +kernel
theorem dX5_copied_70 : decode cX5_copied 70 = .ok (.goto 19, 3) := by decide +kernel
theorem dX5_copied_24 : decode cX5_copied 24 = .ok (.iload_n 1, 1) := by decide +kernel
theorem dX5_copied_25 : decode cX5_copied 25 = .ok (.ireturn, 1) := by decide +kernel

theorem dX5_copied_9 : decode cX5_copied 9 = .ok (.aload_n 0, 1) := by decide +kernel
theorem dX5_copied_10 : decode cX5_copied 10 = .ok (.getfield 12, 3) := by decide +kernel
theorem dX5_copied_13 : decode cX5_copied 13 = .ok (.iload_n 1, 1) := by decide +kernel
theorem dX5_copied_14 : decode cX5_copied 14 = .ok (.invokevirtual 206, 3) := by decide +kernel
theorem dX5_copied_17 : decode cX5_copied 17 = .ok (.aload_n 0, 1) := by decide +kernel
theorem dX5_copied_18 : decode cX5_copied 18 = .ok (.getfield 215, 3) := by decide +kernel
theorem dX5_copied_21 : decode cX5_copied 21 = .ok (.if_icmp .gt 5, 3) := by decide +kernel
theorem dX5_copied_26 : decode cX5_copied 26 = .ok (.aload_n 0, 1) := by decide +kernel
theorem dX5_copied_27 : decode cX5_copied 27 = .ok (.getfield 12, 3) := by decide +kernel
theorem dX5_copied_30 : decode cX5_copied 30 = .ok (.iload_n 1, 1) := by decide +kernel
theorem dX5_copied_31 : decode cX5_copied 31 = .ok (.invokevirtual 209, 3) := by decide +kernel
theorem dX5_copied_34 : decode cX5_copied 34 = .ok (.istore 4, 2) := by decide +kernel
theorem dX5_copied_36 : decode cX5_copied 36 = .ok (.iload 4, 2) := by decide +kernel
theorem dX5_copied_38 : decode cX5_copied 38 = .ok (.iconst 2, 1) := by decide +kernel
theorem dX5_copied_39 : decode cX5_copied 39 = .ok (.if_icmp .ne 74, 3) := by decide +kernel
theorem dX5_copied_113 : decode cX5_copied 113 = .ok (.iload 4, 2) := by decide +kernel
theorem dX5_copied_115 : decode cX5_copied 115 = .ok (.iconst 3, 1) := by decide +kernel
theorem dX5_copied_116 : decode cX5_copied 116 = .ok (.if_icmp .ne 95, 3) := by decide +kernel
theorem dX5_copied_211 : decode cX5_copied 211 = .ok (.iconst 2, 1) := by decide +kernel
theorem dX5_copied_212 : decode cX5_copied 212 = .ok (.aload_n 0, 1) := by decide +kernel
theorem dX5_copied_213 : decode cX5_copied 213 = .ok (.getfield 12, 3) := by decide +kernel
theorem dX5_copied_216 : decode cX5_copied 216 = .ok (.iload_n 1, 1) := by decide +kernel
theorem dX5_copied_217 : decode cX5_copied 217 = .ok (.invokevirtual 224, 3) := by decide +kernel
theorem dX5_copied_220 : decode cX5_copied 220 = .ok (.imul, 1) := by decide +kernel
theorem dX5_copied_221 : decode cX5_copied 221 = .ok (.iload_n 2, 1) := by decide +kernel
theorem dX5_copied_222 : decode cX5_copied 222 = .ok (.iconst 1, 1) := by decide +kernel
theorem dX5_copied_223 : decode cX5_copied 223 = .ok (.if_icmp .ne 7, 3) := by decide +kernel
theorem dX5_copied_230 : decode cX5_copied 230 = .ok (.iconst 0, 1) := by decide +kernel
theorem dX5_copied_231 : decode cX5_copied 231 = .ok (.iadd, 1) := by decide +kernel
theorem dX5_copied_232 : decode cX5_copied 232 = .ok (.istore 5, 2) := by decide +kernel
theorem dX5_copied_234 : decode cX5_copied 234 = .ok (.aload_n 0, 1) := by decide +kernel
theorem dX5_copied_235 : decode cX5_copied 235 = .ok (.getfield 51, 3) := by decide +kernel
theorem dX5_copied_238 : decode cX5_copied 238 = .ok (.iload 5, 2) := by decide +kernel
theorem dX5_copied_240 : decode cX5_copied 240 = .ok (.invokevirtual 124, 3) := by decide +kernel
theorem dX5_copied_243 : decode cX5_copied 243 = .ok (.aload_n 0, 1) := by decide +kernel
theorem dX5_copied_244 : decode cX5_copied 244 = .ok (.getfield 212, 3) := by decide +kernel
theorem dX5_copied_247 : decode cX5_copied 247 = .ok (.if_icmp .ne 13, 3) := by decide +kernel
theorem dX5_copied_260 : decode cX5_copied 260 = .ok (.aload_n 0, 1) := by decide +kernel
theorem dX5_copied_261 : decode cX5_copied 261 = .ok (.getfield 12, 3) := by decide +kernel
theorem dX5_copied_264 : decode cX5_copied 264 = .ok (.aload_n 0, 1) := by decide +kernel
theorem dX5_copied_265 : decode cX5_copied 265 = .ok (.getfield 218, 3) := by decide +kernel
theorem dX5_copied_268 : decode cX5_copied 268 = .ok (.invokevirtual 137, 3) := by decide +kernel
theorem dX5_copied_271 : decode cX5_copied 271 = .ok (.istore 6, 2) := by decide +kernel
theorem dX5_copied_273 : decode cX5_copied 273 = .ok (.iload 6, 2) := by decide +kernel
theorem dX5_copied_275 : decode cX5_copied 275 = .ok (.ifCond .ge 6, 3) := by decide +kernel
theorem dX5_copied_278 : decode cX5_copied 278 = .ok (.iload 6, 2) := by decide +kernel
theorem dX5_copied_280 : decode cX5_copied 280 = .ok (.ireturn, 1) := by decide +kernel
theorem dX5_copied_281 : decode cX5_copied 281 = .ok (.aload_n 0, 1) := by decide +kernel
theorem dX5_copied_282 : decode cX5_copied 282 = .ok (.getfield 48, 3) := by decide +kernel
theorem dX5_copied_285 : decode cX5_copied 285 = .ok (.iload 5, 2) := by decide +kernel
theorem dX5_copied_287 : decode cX5_copied 287 = .ok (.iload 6, 2) := by decide +kernel
theorem dX5_copied_289 : decode cX5_copied 289 = .ok (.invokevirtual 134, 3) := by decide +kernel
theorem dX5_copied_292 : decode cX5_copied 292 = .ok (.aload_n 0, 1) := by decide +kernel
theorem dX5_copied_293 : decode cX5_copied 293 = .ok (.getfield 51, 3) := by decide +kernel
theorem dX5_copied_296 : decode cX5_copied 296 = .ok (.iload 5, 2) := by decide +kernel
theorem dX5_copied_298 : decode cX5_copied 298 = .ok (.aload_n 0, 1) := by decide +kernel
theorem dX5_copied_299 : decode cX5_copied 299 = .ok (.getfield 212, 3) := by decide +kernel
theorem dX5_copied_302 : decode cX5_copied 302 = .ok (.invokevirtual 134, 3) := by decide +kernel
theorem dX5_copied_305 : decode cX5_copied 305 = .ok (.iload_n 2, 1) := by decide +kernel
theorem dX5_copied_306 : decode cX5_copied 306 = .ok (.ifCond .ne 17, 3) := by decide +kernel
theorem dX5_copied_309 : decode cX5_copied 309 = .ok (.aload_n 0, 1) := by decide +kernel
theorem dX5_copied_310 : decode cX5_copied 310 = .ok (.getfield 12, 3) := by decide +kernel
theorem dX5_copied_313 : decode cX5_copied 313 = .ok (.iload_n 1, 1) := by decide +kernel
theorem dX5_copied_314 : decode cX5_copied 314 = .ok (.iconst 1, 1) := by decide +kernel
theorem dX5_copied_315 : decode cX5_copied 315 = .ok (.invokevirtual 196, 3) := by decide +kernel
theorem dX5_copied_318 : decode cX5_copied 318 = .ok (.iload 6, 2) := by decide +kernel
theorem dX5_copied_320 : decode cX5_copied 320 = .ok (.invokevirtual 200, 3) := by decide +kernel
theorem dX5_copied_323 : decode cX5_copied 323 = .ok (.iload_n 2, 1) := by decide +kernel
theorem dX5_copied_324 : decode cX5_copied 324 = .ok (.iconst 1, 1) := by decide +kernel
theorem dX5_copied_325 : decode cX5_copied 325 = .ok (.if_icmp .ne 17, 3) := by decide +kernel
theorem dX5_copied_342 : decode cX5_copied 342 = .ok (.iconst 0, 1) := by decide +kernel
theorem dX5_copied_343 : decode cX5_copied 343 = .ok (.istore 7, 2) := by decide +kernel
theorem dX5_copied_345 : decode cX5_copied 345 = .ok (.iload 7, 2) := by decide +kernel
theorem dX5_copied_347 : decode cX5_copied 347 = .ok (.iconst 1, 1) := by decide +kernel
theorem dX5_copied_348 : decode cX5_copied 348 = .ok (.if_icmp .gt 97, 3) := by decide +kernel
theorem dX5_copied_351 : decode cX5_copied 351 = .ok (.iload 7, 2) := by decide +kernel
theorem dX5_copied_353 : decode cX5_copied 353 = .ok (.iload_n 2, 1) := by decide +kernel
theorem dX5_copied_354 : decode cX5_copied 354 = .ok (.invokestatic 227, 3) := by decide +kernel
theorem dX5_copied_357 : decode cX5_copied 357 = .ok (.ifCond .ne 6, 3) := by decide +kernel
theorem dX5_copied_363 : decode cX5_copied 363 = .ok (.aload_n 0, 1) := by decide +kernel
theorem dX5_copied_364 : decode cX5_copied 364 = .ok (.getfield 12, 3) := by decide +kernel
theorem dX5_copied_367 : decode cX5_copied 367 = .ok (.iload_n 1, 1) := by decide +kernel
theorem dX5_copied_368 : decode cX5_copied 368 = .ok (.iload 7, 2) := by decide +kernel
theorem dX5_copied_370 : decode cX5_copied 370 = .ok (.invokevirtual 196, 3) := by decide +kernel
theorem dX5_copied_373 : decode cX5_copied 373 = .ok (.astore 8, 2) := by decide +kernel
theorem dX5_copied_375 : decode cX5_copied 375 = .ok (.aload 8, 2) := by decide +kernel
theorem dX5_copied_377 : decode cX5_copied 377 = .ok (.getfield 203, 3) := by decide +kernel
theorem dX5_copied_380 : decode cX5_copied 380 = .ok (.istore 9, 2) := by decide +kernel
theorem dX5_copied_382 : decode cX5_copied 382 = .ok (.iconst 0, 1) := by decide +kernel
theorem dX5_copied_383 : decode cX5_copied 383 = .ok (.istore 10, 2) := by decide +kernel
theorem dX5_copied_385 : decode cX5_copied 385 = .ok (.iload 10, 2) := by decide +kernel
theorem dX5_copied_387 : decode cX5_copied 387 = .ok (.iload 9, 2) := by decide +kernel
theorem dX5_copied_389 : decode cX5_copied 389 = .ok (.if_icmp .ge 50, 3) := by decide +kernel
theorem dX5_copied_439 : decode cX5_copied 439 = .ok (.iinc 7 1, 3) := by decide +kernel
theorem dX5_copied_442 : decode cX5_copied 442 = .ok (.goto (-97), 3) := by decide +kernel
theorem dX5_copied_360 : decode cX5_copied 360 = .ok (.goto 79, 3) := by decide +kernel
theorem dX5_copied_445 : decode cX5_copied 445 = .ok (.iload 6, 2) := by decide +kernel
theorem dX5_copied_447 : decode cX5_copied 447 = .ok (.ireturn, 1) := by decide +kernel
theorem dX5_copied_392 : decode cX5_copied 392 = .ok (.aload_n 0, 1) := by decide +kernel
theorem dX5_copied_393 : decode cX5_copied 393 = .ok (.aload 8, 2) := by decide +kernel
theorem dX5_copied_395 : decode cX5_copied 395 = .ok (.iload 10, 2) := by decide +kernel
theorem dX5_copied_397 : decode cX5_copied 397 = .ok (.invokevirtual 124, 3) := by decide +kernel
theorem dX5_copied_400 : decode cX5_copied 400 = .ok (.iload_n 2, 1) := by decide +kernel
theorem dX5_copied_401 : decode cX5_copied 401 = .ok (.iload_n 3, 1) := by decide +kernel
theorem dX5_copied_402 : decode cX5_copied 402 = .ok (.iconst 1, 1) := by decide +kernel
theorem dX5_copied_403 : decode cX5_copied 403 = .ok (.iadd, 1) := by decide +kernel
theorem dX5_copied_404 : decode cX5_copied 404 = .ok (.invokevirtual 131, 3) := by decide +kernel
theorem dX5_copied_407 : decode cX5_copied 407 = .ok (.istore 11, 2) := by decide +kernel
theorem dX5_copied_409 : decode cX5_copied 409 = .ok (.iload 11, 2) := by decide +kernel
theorem dX5_copied_411 : decode cX5_copied 411 = .ok (.ifCond .ge 6, 3) := by decide +kernel
theorem dX5_copied_417 : decode cX5_copied 417 = .ok (.aload_n 0, 1) := by decide +kernel
theorem dX5_copied_418 : decode cX5_copied 418 = .ok (.getfield 12, 3) := by decide +kernel
theorem dX5_copied_421 : decode cX5_copied 421 = .ok (.iload 6, 2) := by decide +kernel
theorem dX5_copied_423 : decode cX5_copied 423 = .ok (.iload 7, 2) := by decide +kernel
theorem dX5_copied_425 : decode cX5_copied 425 = .ok (.invokevirtual 196, 3) := by decide +kernel
theorem dX5_copied_428 : decode cX5_copied 428 = .ok (.iload 11, 2) := by decide +kernel
theorem dX5_copied_430 : decode cX5_copied 430 = .ok (.invokevirtual 200, 3) := by decide +kernel
theorem dX5_copied_433 : decode cX5_copied 433 = .ok (.iinc 10 1, 3) := by decide +kernel
theorem dX5_copied_436 : decode cX5_copied 436 = .ok (.goto (-51), 3) := by decide +kernel
theorem dX5_copied_414 : decode cX5_copied 414 = .ok (.iload 11, 2) := by decide +kernel
theorem dX5_copied_416 : decode cX5_copied 416 = .ok (.ireturn, 1) := by decide +kernel
theorem dX5_copied_250 : decode cX5_copied 250 = .ok (.aload_n 0, 1) := by decide +kernel
theorem dX5_copied_251 : decode cX5_copied 251 = .ok (.getfield 48, 3) := by decide +kernel
theorem dX5_copied_254 : decode cX5_copied 254 = .ok (.iload 5, 2) := by decide +kernel
theorem dX5_copied_256 : decode cX5_copied 256 = .ok (.invokevirtual 124, 3) := by decide +kernel
theorem dX5_copied_259 : decode cX5_copied 259 = .ok (.ireturn, 1) := by decide +kernel
theorem dX5_copied_119 : decode cX5_copied 119 = .ok (.aload_n 0, 1) := by decide +kernel
theorem dX5_copied_120 : decode cX5_copied 120 = .ok (.getfield 12, 3) := by decide +kernel
theorem dX5_copied_123 : decode cX5_copied 123 = .ok (.invokevirtual 153, 3) := by decide +kernel
theorem dX5_copied_126 : decode cX5_copied 126 = .ok (.istore 5, 2) := by decide +kernel
theorem dX5_copied_128 : decode cX5_copied 128 = .ok (.aload_n 0, 1) := by decide +kernel
theorem dX5_copied_129 : decode cX5_copied 129 = .ok (.getfield 12, 3) := by decide +kernel
theorem dX5_copied_132 : decode cX5_copied 132 = .ok (.iload_n 1, 1) := by decide +kernel
theorem dX5_copied_133 : decode cX5_copied 133 = .ok (.invokevirtual 184, 3) := by decide +kernel
theorem dX5_copied_136 : decode cX5_copied 136 = .ok (.istore 6, 2) := by decide +kernel
theorem dX5_copied_138 : decode cX5_copied 138 = .ok (.iconst 0, 1) := by decide +kernel
theorem dX5_copied_139 : decode cX5_copied 139 = .ok (.istore 7, 2) := by decide +kernel
theorem dX5_copied_141 : decode cX5_copied 141 = .ok (.iload 7, 2) := by decide +kernel
theorem dX5_copied_143 : decode cX5_copied 143 = .ok (.iload 6, 2) := by decide +kernel
theorem dX5_copied_145 : decode cX5_copied 145 = .ok (.if_icmp .ge 56, 3) := by decide +kernel
theorem dX5_copied_201 : decode cX5_copied 201 = .ok (.aload_n 0, 1) := by decide +kernel
theorem dX5_copied_202 : decode cX5_copied 202 = .ok (.getfield 12, 3) := by decide +kernel
theorem dX5_copied_205 : decode cX5_copied 205 = .ok (.iload 5, 2) := by decide +kernel
theorem dX5_copied_207 : decode cX5_copied 207 = .ok (.invokevirtual 165, 3) := by decide +kernel
theorem dX5_copied_210 : decode cX5_copied 210 = .ok (.ireturn, 1) := by decide +kernel
theorem dX5_copied_148 : decode cX5_copied 148 = .ok (.aload_n 0, 1) := by decide +kernel
theorem dX5_copied_149 : decode cX5_copied 149 = .ok (.aload_n 0, 1) := by decide +kernel
theorem dX5_copied_150 : decode cX5_copied 150 = .ok (.getfield 12, 3) := by decide +kernel
theorem dX5_copied_153 : decode cX5_copied 153 = .ok (.iload_n 1, 1) := by decide +kernel
theorem dX5_copied_154 : decode cX5_copied 154 = .ok (.iload 7, 2) := by decide +kernel
theorem dX5_copied_156 : decode cX5_copied 156 = .ok (.invokevirtual 193, 3) := by decide +kernel
theorem dX5_copied_159 : decode cX5_copied 159 = .ok (.iload_n 2, 1) := by decide +kernel
theorem dX5_copied_160 : decode cX5_copied 160 = .ok (.iload_n 3, 1) := by decide +kernel
theorem dX5_copied_161 : decode cX5_copied 161 = .ok (.iconst 1, 1) := by decide +kernel
theorem dX5_copied_162 : decode cX5_copied 162 = .ok (.iadd, 1) := by decide +kernel
theorem dX5_copied_163 : decode cX5_copied 163 = .ok (.invokevirtual 131, 3) := by decide +kernel
theorem dX5_copied_166 : decode cX5_copied 166 = .ok (.istore 8, 2) := by decide +kernel
theorem dX5_copied_168 : decode cX5_copied 168 = .ok (.iload 8, 2) := by decide +kernel
theorem dX5_copied_170 : decode cX5_copied 170 = .ok (.ifCond .ge 6, 3) := by decide +kernel
theorem dX5_copied_176 : decode cX5_copied 176 = .ok (.aload_n 0, 1) := by decide +kernel
theorem dX5_copied_177 : decode cX5_copied 177 = .ok (.getfield 12, 3) := by decide +kernel
theorem dX5_copied_180 : decode cX5_copied 180 = .ok (.aload_n 0, 1) := by decide +kernel
theorem dX5_copied_181 : decode cX5_copied 181 = .ok (.getfield 12, 3) := by decide +kernel
theorem dX5_copied_184 : decode cX5_copied 184 = .ok (.iload_n 1, 1) := by decide +kernel
theorem dX5_copied_185 : decode cX5_copied 185 = .ok (.iload 7, 2) := by decide +kernel
theorem dX5_copied_187 : decode cX5_copied 187 = .ok (.invokevirtual 187, 3) := by decide +kernel
theorem dX5_copied_190 : decode cX5_copied 190 = .ok (.iload 8, 2) := by decide +kernel
theorem dX5_copied_192 : decode cX5_copied 192 = .ok (.invokevirtual 162, 3) := by decide +kernel
theorem dX5_copied_195 : decode cX5_copied 195 = .ok (.iinc 7 1, 3) := by decide +kernel
theorem dX5_copied_198 : decode cX5_copied 198 = .ok (.goto (-57), 3) := by decide +kernel
theorem dX5_copied_173 : decode cX5_copied 173 = .ok (.iload 8, 2) := by decide +kernel
theorem dX5_copied_175 : decode cX5_copied 175 = .ok (.ireturn, 1) := by decide +kernel
theorem dX5_copied_42 : decode cX5_copied 42 = .ok (.aload_n 0, 1) := by decide +kernel
theorem dX5_copied_43 : decode cX5_copied 43 = .ok (.aload_n 0, 1) := by decide +kernel
theorem dX5_copied_44 : decode cX5_copied 44 = .ok (.getfield 12, 3) := by decide +kernel
theorem dX5_copied_47 : decode cX5_copied 47 = .ok (.iload_n 1, 1) := by decide +kernel
theorem dX5_copied_48 : decode cX5_copied 48 = .ok (.invokevirtual 178, 3) := by decide +kernel
theorem dX5_copied_51 : decode cX5_copied 51 = .ok (.iload_n 2, 1) := by decide +kernel
theorem dX5_copied_52 : decode cX5_copied 52 = .ok (.invokestatic 221, 3) := by decide +kernel
theorem dX5_copied_55 : decode cX5_copied 55 = .ok (.iload_n 3, 1) := by decide +kernel
theorem dX5_copied_56 : decode cX5_copied 56 = .ok (.iconst 1, 1) := by decide +kernel
theorem dX5_copied_57 : decode cX5_copied 57 = .ok (.iadd, 1) := by decide +kernel
theorem dX5_copied_58 : decode cX5_copied 58 = .ok (.invokevirtual 131, 3) := by decide +kernel
theorem dX5_copied_61 : decode cX5_copied 61 = .ok (.istore 5, 2) := by decide +kernel
theorem dX5_copied_63 : decode cX5_copied 63 = .ok (.iload 5, 2) := by decide +kernel
theorem dX5_copied_65 : decode cX5_copied 65 = .ok (.ifCond .ge 8, 3) := by decide +kernel
theorem dX5_copied_73 : decode cX5_copied 73 = .ok (.aload_n 0, 1) := by decide +kernel
theorem dX5_copied_74 : decode cX5_copied 74 = .ok (.aload_n 0, 1) := by decide +kernel
theorem dX5_copied_75 : decode cX5_copied 75 = .ok (.getfield 12, 3) := by decide +kernel
theorem dX5_copied_78 : decode cX5_copied 78 = .ok (.iload_n 1, 1) := by decide +kernel
theorem dX5_copied_79 : decode cX5_copied 79 = .ok (.invokevirtual 181, 3) := by decide +kernel
theorem dX5_copied_82 : decode cX5_copied 82 = .ok (.iload_n 2, 1) := by decide +kernel
theorem dX5_copied_83 : decode cX5_copied 83 = .ok (.iload_n 3, 1) := by decide +kernel
theorem dX5_copied_84 : decode cX5_copied 84 = .ok (.iconst 1, 1) := by decide +kernel
theorem dX5_copied_85 : decode cX5_copied 85 = .ok (.iadd, 1) := by decide +kernel
theorem dX5_copied_86 : decode cX5_copied 86 = .ok (.invokevirtual 131, 3) := by decide +kernel
theorem dX5_copied_89 : decode cX5_copied 89 = .ok (.istore 6, 2) := by decide +kernel
theorem dX5_copied_91 : decode cX5_copied 91 = .ok (.iload 6, 2) := by decide +kernel
theorem dX5_copied_93 : decode cX5_copied 93 = .ok (.ifCond .ge 8, 3) := by decide +kernel
theorem dX5_copied_101 : decode cX5_copied 101 = .ok (.aload_n 0, 1) := by decide +kernel
theorem dX5_copied_102 : decode cX5_copied 102 = .ok (.getfield 12, 3) := by decide +kernel
theorem dX5_copied_105 : decode cX5_copied 105 = .ok (.iload 5, 2) := by decide +kernel
theorem dX5_copied_107 : decode cX5_copied 107 = .ok (.iload 6, 2) := by decide +kernel
theorem dX5_copied_109 : decode cX5_copied 109 = .ok (.invokevirtual 147, 3) := by decide +kernel
theorem dX5_copied_112 : decode cX5_copied 112 = .ok (.ireturn, 1) := by decide +kernel
theorem dX5_copied_96 : decode cX5_copied 96 = .ok (.iload 6, 2) := by decide +kernel
theorem dX5_copied_98 : decode cX5_copied 98 = .ok (.goto 14, 3) := by decide +kernel
theorem dX5_copied_68 : decode cX5_copied 68 = .ok (.iload 5, 2) := by decide +kernel
theorem dX5_copied_70 : decode cX5_copied 70 = .ok (.goto 19, 3) := by decide +kernel
theorem dX5_copied_24 : decode cX5_copied 24 = .ok (.iload_n 1, 1) := by decide +kernel
theorem dX5_copied_25 : decode cX5_copied 25 = .ok (.ireturn, 1) := by decide +kernel
set_option maxHeartbeats 4000000 in
set_option maxRecDepth 100000 in
/-- copied, way 0 -/
theorem g_copied_s0 (l : Launch) (G : cG) (S : cS) (fu : Nat) (T : Nat) (V : Nat) (X : Nat) (Y : Nat) (Z : Nat) (K : Nat) (dp : Nat) (t : Int32) (hC : CL S) (ih : cCopiedAt fu) (hY : TY S T V V X Y Z) (hBD : ∀ j, j < 2 * V → kK S (35 + j) ≤ K + V) (hKK : K ≤ 1501) (h15 : kK S 15 = 0) (hdp : dp + (fu + 1) = 61) (hY2 : Y + 6 * (fu + 1) ≤ 900) (hlev : 0 ≤ S.1 10) (hab : 0 ≠ 2 → 0 ≤ S.1 9) (Hs : Heap) : Met l yX5_copied (wC yX5_copied cX5_copied 12 (some .int)) (cRm S ((fu + 1) + 4) (42 * (fu + 1) + 140)) (cPc G S Hs [.ref (ga G 4), .int t, .int 0, .int (nI dp)]) (cQi G S Hs (fun v u => AW [6, 7, 8, 9, 16, 14, 10, 11, 12, 13, 25, 26, 35] [] S u ∧ (CX S u T V Y Z K 1 (fu + 1) v))) (CC - PT S) (12 * (CC - PT S)) (cA G S Hs.size) := by
  refine Met.ofW (cc := cX5_copied) (maxL := 12) (ret := (some .int)) (by decide) rfl ?_
  intro p e s m args below meth c s₁ B hml hv
  obtain ⟨rfl, hsz, hP, hK, hD0, -⟩ := hv
  have hx := B.exec
  have hb := B.bytes
  have hr := B.returns
  have htu : ∀ w ∈ CU, w.before _ s = true := fun w h => atoms_spec (ws := (wC yX5_copied cX5_copied 12 (some .int))) B.pre w (List.mem_cons_of_mem _ h)
  have hown : s.vm.findClass RX5 = some m.cls := findClass_of_methodNamed B.named
  have hlocks := B.notSynchronized
  subst hsz
  have hD : cD (cA G S s.heap.size) G S := cD_self hD0
  have hl := lv_entry ([.ref (ga G 4), .int t, .int 0, .int (nI dp)]) (n := 12) (Nat.le_of_ble_eq_true rfl)
  rw [lg_entry_eq]
  generalize (lg_sl ([.ref (ga G 4), .int t, .int 0, .int (nI dp)]) ++ List.replicate (12 - (lg_sl ([.ref (ga G 4), .int t, .int 0, .int (nI dp)])).length) Slot.unset).toArray = ls at hl ⊢
  have hl : lv_has ls 12 [(0, .ref (ga G 4)), (1, .int t), (2, .int 0), (3, .int (nI dp))] := hl
  obtain ⟨H, hHe⟩ : ∃ H : Heap, H = s.heap := ⟨_, rfl⟩
  rw [← hHe] at hP
  have hS : va_S (cA G S s.heap.size) s.heap H [] := by rw [hHe]; exact va_S.rf
  have hh : HS S S := HS.rf
  have hpp : PT S ≤ PT S := Nat.le_refl _
  have hB9 := hC.1
  refine W.heq hHe ?_
  refine c_ent (S := S) ?_
  obtain ⟨⟨k6, k7, k8, k9, k16, k14, k10, k11, k12, k13, k17, k18⟩, ⟨tT, tV, tB, tX⟩, tv, tr, ts⟩ := id hY
  have cr0 : CR S S T V K 1 T V X Y Z := CR.rf hY hBD
  skip
  refine lv_iload_n hx hb dX5_copied_0 rfl (lv_at hl 3 rfl) ?_
  refine lv_bipush (v := 60) hx hb dX5_copied_1 (by decide) ?_
  refine lv_icmp_le (tgt := 9) hx hb dX5_copied_3 (by decide) (fun c_1 => ?_) (fun c_1 => absurd ((nI_leI (a := dp) (b := 60) (by omega) (by omega)).mpr (by omega)) c_1)
  refine lv_aload_n hx hb dX5_copied_9 rfl (lv_at hl 0 rfl) ?_
  refine va_get (D := gD G) (ci := 5) (v := .ref (ga G 2)) (C := RX5) (T := TX5) (N := 15) hx hb htu cu_in5 hown hK hP 4 cw_4 rfl 1 (by decide) (htu _ C_45) (fun _ h9 => h9) rfl dX5_copied_10 ?_
  refine lv_iload_n hx hb dX5_copied_13 rfl (lv_at hl 1 rfl) ?_
  have hC0 := hC
  refine c_ci (c_runV (As := [.int t]) (rest := []) (q0 := 2) (ci := 4) ⟨hx, hb, hml, hown, htu⟩ (y_levelOf l G S t hC  H) (cwV 1 htu hU_X5_206 rfl rfl rfl (by decide +kernel) ⟨show 1 + 1 ≤ (fu + 1) + 4 by omega, show 8 + (2 + 11) + 21 ≤ 42 * (fu + 1) + 140 by omega⟩) hP hK hD hC hpp cw_2 rfl rfl hl.1 rfl (lv_room (Nat.le_of_ble_eq_true rfl)) dX5_copied_14) hS hD hh hpp (fun r_2 S_3 H locs hw_4 hP hD hS hC hh hs_5 hpp => ?_)
  obtain ⟨-, hu9, hw_4⟩ := hw_4
  have hu9 := hu9.symm
  subst hu9
  refine lv_aload_n hx hb dX5_copied_17 rfl (lv_at hl 0 rfl) ?_
  refine va_get (D := gD G) (ci := 5) (v := .int (S.1 9)) (C := RX5) (T := TX5) (N := 15) hx hb htu cu_in5 hown hK hP 4 cw_4 rfl 9 (by decide) (htu _ C_307) (fun _ h9 => h9) (m_v rfl) dX5_copied_18 ?_
  refine lv_icmp_gt (tgt := 26) hx hb dX5_copied_21 (by decide) (fun c_6 => ?_) (fun c_6 => ?_)
  · skip
    refine lv_aload_n hx hb dX5_copied_26 rfl (lv_at hl 0 rfl) ?_
    refine va_get (D := gD G) (ci := 5) (v := .ref (ga G 2)) (C := RX5) (T := TX5) (N := 15) hx hb htu cu_in5 hown hK hP 4 cw_4 rfl 1 (by decide) (htu _ C_45) (fun _ h9 => h9) rfl dX5_copied_27 ?_
    refine lv_iload_n hx hb dX5_copied_30 rfl (lv_at hl 1 rfl) ?_
    have hC0 := hC
    refine c_ci (c_runV (As := [.int t]) (rest := []) (q0 := 2) (ci := 4) ⟨hx, hb, hml, hown, htu⟩ (y_sortOf l G S t hC  H) (cwV 1 htu hU_X5_209 rfl rfl rfl (by decide +kernel) ⟨show 1 + 1 ≤ (fu + 1) + 4 by omega, show 8 + (2 + 11) + 21 ≤ 42 * (fu + 1) + 140 by omega⟩) hP hK hD hC hpp cw_2 rfl rfl hl.1 rfl (lv_room (Nat.le_of_ble_eq_true rfl)) dX5_copied_31) hS hD hh hpp (fun r_7 S_8 H locs hw_9 hP hD hS hC hh hs_10 hpp => ?_)
    obtain ⟨-, hu9, hw_9⟩ := hw_9
    have hu9 := hu9.symm
    subst hu9
    refine lv_istore (lv' := [(4, .int r_7), (0, .ref (ga G 4)), (1, .int t), (2, .int 0), (3, .int (nI dp))]) hx hb dX5_copied_34 hl (by decide) rfl (fun ls hl => ?_)
    refine lv_iload hx hb dX5_copied_36 (lv_at hl 0 rfl) ?_
    refine lv_iconst (v := 2) hx hb dX5_copied_38 (by decide) ?_
    refine lv_icmp_ne (tgt := 113) hx hb dX5_copied_39 (by decide) (fun c_11 => ?_) (fun c_11 => ?_)
    · skip
      refine lv_iload hx hb dX5_copied_113 (lv_at hl 0 rfl) ?_
      refine lv_iconst (v := 3) hx hb dX5_copied_115 (by decide) ?_
      refine lv_icmp_ne (tgt := 211) hx hb dX5_copied_116 (by decide) (fun c_12 => ?_) (fun c_12 => ?_)
      · skip
        refine lv_iconst (v := 2) hx hb dX5_copied_211 (by decide) ?_
        refine lv_aload_n hx hb dX5_copied_212 rfl (lv_at hl 1 rfl) ?_
        refine va_get (D := gD G) (ci := 5) (v := .ref (ga G 2)) (C := RX5) (T := TX5) (N := 15) hx hb htu cu_in5 hown hK hP 4 cw_4 rfl 1 (by decide) (htu _ C_45) (fun _ h9 => h9) rfl dX5_copied_213 ?_
        refine lv_iload_n hx hb dX5_copied_216 rfl (lv_at hl 2 rfl) ?_
        have hC0 := hC
        refine c_ci (c_runV (As := [.int t]) (rest := [.int 2]) (q0 := 2) (ci := 4) ⟨hx, hb, hml, hown, htu⟩ (y_numberOf l G S t hC  H) (cwV 1 htu hU_X5_224 rfl rfl rfl (by decide +kernel) ⟨show 1 + 1 ≤ (fu + 1) + 4 by omega, show 8 + (2 + 11) + 21 ≤ 42 * (fu + 1) + 140 by omega⟩) hP hK hD hC hpp cw_2 rfl rfl hl.1 rfl (lv_room (Nat.le_of_ble_eq_true rfl)) dX5_copied_217) hS hD hh hpp (fun r_13 S_14 H locs hw_15 hP hD hS hC hh hs_16 hpp => ?_)
        obtain ⟨-, hu9⟩ := hw_15
        have hu9 := hu9.symm
        subst hu9
        refine lv_imul hx hb dX5_copied_220 ?_
        refine m_top (y := 2 * r_13) rfl ?_
        refine lv_iload_n hx hb dX5_copied_221 rfl (lv_at hl 3 rfl) ?_
        refine lv_iconst (v := 1) hx hb dX5_copied_222 (by decide) ?_
        refine lv_icmp_ne (tgt := 230) hx hb dX5_copied_223 (by decide) (fun c_17 => ?_) (fun c_17 => absurd c_17 (by decide))
        refine lv_iconst (v := 0) hx hb dX5_copied_230 (by decide) ?_
        refine lv_iadd hx hb dX5_copied_231 ?_
        refine m_top (y := (2 * r_13) + 0) rfl ?_
        refine lv_istore (lv' := [(5, .int ((2 * r_13) + 0)), (4, .int r_7), (0, .ref (ga G 4)), (1, .int t), (2, .int 0), (3, .int (nI dp))]) hx hb dX5_copied_232 hl (by decide) rfl (fun ls hl => ?_)
        refine lv_aload_n hx hb dX5_copied_234 rfl (lv_at hl 2 rfl) ?_
        refine va_get (D := gD G) (ci := 5) (v := .ref (kH S 26)) (C := RX5) (T := TX5) (N := 15) hx hb htu cu_in5 hown hK hP 4 cw_4 rfl 7 (by decide) (htu _ C_56) (fun _ h9 => h9) rfl dX5_copied_235 ?_
        refine lv_iload hx hb dX5_copied_238 (lv_at hl 0 rfl) ?_
        have hC0 := hC
        refine c_ci (c_runV (As := [.int ((2 * r_13) + 0)]) (rest := []) (q0 := (2 * 26 + 13)) (ci := 0) ⟨hx, hb, hml, hown, htu⟩ (c_getA l G S 26 (lt35 (by decide)) hC (kH S 26) rfl ((2 * r_13) + 0) H) (cwV 1 htu hU_X5_124 rfl rfl rfl (by decide +kernel) ⟨show 0 + 1 ≤ (fu + 1) + 4 by omega, show 8 + (2 + 11) + 0 ≤ 42 * (fu + 1) + 140 by omega⟩) hP hK hD hC hpp (c_hd rfl (cw_row (lt35 (by decide)))) rfl rfl hl.1 rfl (lv_room (Nat.le_of_ble_eq_true rfl)) dX5_copied_240) hS hD hh hpp (fun r_18 S_19 H locs hw_20 hP hD hS hC hh hs_21 hpp => ?_)
        obtain ⟨hu9, hw_20⟩ := hw_20
        have hu9 := hu9.symm
        subst hu9
        refine lv_aload_n hx hb dX5_copied_243 rfl (lv_at hl 2 rfl) ?_
        refine va_get (D := gD G) (ci := 5) (v := .int (S.1 8)) (C := RX5) (T := TX5) (N := 15) hx hb htu cu_in5 hown hK hP 4 cw_4 rfl 8 (by decide) (htu _ C_306) (fun _ h9 => h9) rfl dX5_copied_244 ?_
        refine lv_icmp_ne (tgt := 260) hx hb dX5_copied_247 (by decide) (fun c_22 => ?_) (fun c_22 => ?_)
        · skip
          have t4 : rget (kF S 6) (kK S 6) t = 4 := is_var hY hw_4 c_6 (hab (by decide)) (fun h => c_11 (hw_9.trans h)) (fun h => c_12 (hw_9.trans h))
          refine lv_aload_n hx hb dX5_copied_260 rfl (lv_at hl 2 rfl) ?_
          refine va_get (D := gD G) (ci := 5) (v := .ref (ga G 2)) (C := RX5) (T := TX5) (N := 15) hx hb htu cu_in5 hown hK hP 4 cw_4 rfl 1 (by decide) (htu _ C_45) (fun _ h9 => h9) rfl dX5_copied_261 ?_
          refine lv_aload_n hx hb dX5_copied_264 rfl (lv_at hl 2 rfl) ?_
          refine va_get (D := gD G) (ci := 5) (v := .int (S.1 10)) (C := RX5) (T := TX5) (N := 15) hx hb htu cu_in5 hown hK hP 4 cw_4 rfl 10 (by decide) (htu _ C_308) (fun _ h9 => h9) (m_v rfl) dX5_copied_265 ?_
          have hC0 := hC
          refine c_ci (c_runV (As := [.int (S.1 10)]) (rest := []) (q0 := 2) (ci := 4) ⟨hx, hb, hml, hown, htu⟩ (y_addVariable l G S T V V X Y Z (S.1 10) hC hY rfl hlev H) (cwV 1 htu hU_X5_137 rfl rfl rfl (by decide +kernel) ⟨show 4 + 1 ≤ (fu + 1) + 4 by omega, show 8 + (4 + 11) + 128 ≤ 42 * (fu + 1) + 140 by omega⟩) hP hK hD hC hpp cw_2 rfl rfl hl.1 rfl (lv_room (Nat.le_of_ble_eq_true rfl)) dX5_copied_268) hS hD hh hpp (fun r_23 S_24 H locs hw_25 hP hD hS hC hh hs_26 hpp => ?_)
          try dsimp only at hw_25
          have aw_27 : AW [6, 7, 8, 9, 16, 14, 35] [] S S_24 := hw_25.1
          have aw_27t : AW [6, 7, 8, 9, 16, 14, 10, 11, 12, 13, 25, 26, 35] [] S S_24 := AW.rf.tr (aw_27.mono (by decide) (by decide))
          have kk_28 : kK S_24 15 = 0 := (aw_27.2.1 15 (lt35 (by decide)) (by decide)).2.trans h15
          have ii_29 : S_24.1 9 = S.1 9 := (aw_27.1 9 (by decide)).trans rfl
          have ii_30 : S_24.1 10 = S.1 10 := (aw_27.1 10 (by decide)).trans rfl
          rcases hw_25.2 with ⟨ty_31v, ty_31s⟩ | ⟨ty_31v, ty_31t, ty_31, ty_31o, ty_314, ty_318, ty_31r⟩
          · skip
            subst ty_31v
            refine lv_istore (lv' := [(6, .int ((-6))), (5, .int ((2 * r_13) + 0)), (4, .int r_7), (0, .ref (ga G 4)), (1, .int t), (2, .int 0), (3, .int (nI dp))]) hx hb dX5_copied_271 hl (by decide) rfl (fun ls hl => ?_)
            refine lv_iload hx hb dX5_copied_273 (lv_at hl 0 rfl) ?_
            refine lv_if_ge (tgt := 281) hx hb dX5_copied_275 (by decide) (fun c_32 => absurd c_32 (by decide)) (fun c_32 => ?_)
            refine lv_iload hx hb dX5_copied_278 (lv_at hl 0 rfl) ?_
            exact c_iret (v := (-6)) hx hb hr hK hP hD hS hC hh hpp ⟨aw_27t, ⟨T, V, X, Y, (by rw [ty_31s]; exact cr0), by omega, by omega, fun h => absurd (by decide) h⟩⟩ dX5_copied_280 hlocks
          · skip
            subst ty_31v
            refine lv_istore (lv' := [(6, .int (nI T)), (5, .int ((2 * r_13) + 0)), (4, .int r_7), (0, .ref (ga G 4)), (1, .int t), (2, .int 0), (3, .int (nI dp))]) hx hb dX5_copied_271 hl (by decide) rfl (fun ls hl => ?_)
            refine lv_iload hx hb dX5_copied_273 (lv_at hl 0 rfl) ?_
            refine lv_if_ge (tgt := 281) hx hb dX5_copied_275 (by decide) (fun c_33 => ?_) (fun c_33 => absurd (Int32.not_lt.mp (nI_n0 (by omega))) c_33)
            obtain ⟨ty_31q, ty_31w, ty_31x, ty_31y⟩ := ty_31r
            refine lv_aload_n hx hb dX5_copied_281 rfl (lv_at hl 3 rfl) ?_
            refine va_get (D := gD G) (ci := 5) (v := .ref (kH S 25)) (C := RX5) (T := TX5) (N := 15) hx hb htu cu_in5 hown hK hP 4 cw_4 rfl 6 (by decide) (htu _ C_55) (fun _ h9 => h9) (c_hv (hh.2 25 (lt35 (by decide)))) dX5_copied_282 ?_
            refine lv_iload hx hb dX5_copied_285 (lv_at hl 1 rfl) ?_
            refine lv_iload hx hb dX5_copied_287 (lv_at hl 0 rfl) ?_
            have hC0 := hC
            refine c_cv (c_runV (As := [.int ((2 * r_13) + 0), .int (nI T)]) (rest := []) (q0 := (2 * 25 + 13)) (ci := 0) ⟨hx, hb, hml, hown, htu⟩ (c_setA l G S_24 25 (lt35 (by decide)) hC (kH S 25) (hh.2 25 (lt35 (by decide))) ((2 * r_13) + 0) (nI T) H) (cwV 2 htu hU_X5_134 rfl rfl rfl (by decide +kernel) ⟨show 0 + 1 ≤ (fu + 1) + 4 by omega, show 8 + (3 + 11) + 0 ≤ 42 * (fu + 1) + 140 by omega⟩) hP hK hD hC hpp (c_hd (hh.2 25 (lt35 (by decide))) (cw_row (lt35 (by decide)))) rfl rfl hl.1 rfl (lv_room (Nat.le_of_ble_eq_true rfl)) dX5_copied_289) hS hD hh hpp (fun S_35 H locs hw_36 hP hD hS hC hh hs_37 hpp => ?_)
            try dsimp only at hw_36
            have aw_38 : AW [25] [] S_24 S_35 := (by rw [hw_36]; exact AW.u (by decide))
            have aw_38t : AW [6, 7, 8, 9, 16, 14, 10, 11, 12, 13, 25, 26, 35] [] S S_35 := aw_27t.tr (aw_38.mono (by decide) (by decide))
            have kk_39 : kK S_35 15 = 0 := (aw_38.2.1 15 (lt35 (by decide)) (by decide)).2.trans kk_28
            have ii_40 : S_35.1 9 = S.1 9 := (aw_38.1 9 (by decide)).trans ii_29
            have ii_41 : S_35.1 10 = S.1 10 := (aw_38.1 10 (by decide)).trans ii_30
            have ty_42 := TY.aw ty_31 aw_38 (by decide)
            refine lv_aload_n hx hb dX5_copied_292 rfl (lv_at hl 3 rfl) ?_
            refine va_get (D := gD G) (ci := 5) (v := .ref (kH S 26)) (C := RX5) (T := TX5) (N := 15) hx hb htu cu_in5 hown hK hP 4 cw_4 rfl 7 (by decide) (htu _ C_56) (fun _ h9 => h9) (c_hv (hh.2 26 (lt35 (by decide)))) dX5_copied_293 ?_
            refine lv_iload hx hb dX5_copied_296 (lv_at hl 1 rfl) ?_
            refine lv_aload_n hx hb dX5_copied_298 rfl (lv_at hl 3 rfl) ?_
            refine va_get (D := gD G) (ci := 5) (v := .int (S_35.1 8)) (C := RX5) (T := TX5) (N := 15) hx hb htu cu_in5 hown hK hP 4 cw_4 rfl 8 (by decide) (htu _ C_306) (fun _ h9 => h9) rfl dX5_copied_299 ?_
            have hC0 := hC
            refine c_cv (c_runV (As := [.int ((2 * r_13) + 0), .int (S_35.1 8)]) (rest := []) (q0 := (2 * 26 + 13)) (ci := 0) ⟨hx, hb, hml, hown, htu⟩ (c_setA l G S_35 26 (lt35 (by decide)) hC (kH S 26) (hh.2 26 (lt35 (by decide))) ((2 * r_13) + 0) (S_35.1 8) H) (cwV 2 htu hU_X5_134 rfl rfl rfl (by decide +kernel) ⟨show 0 + 1 ≤ (fu + 1) + 4 by omega, show 8 + (3 + 11) + 0 ≤ 42 * (fu + 1) + 140 by omega⟩) hP hK hD hC hpp (c_hd (hh.2 26 (lt35 (by decide))) (cw_row (lt35 (by decide)))) rfl rfl hl.1 rfl (lv_room (Nat.le_of_ble_eq_true rfl)) dX5_copied_302) hS hD hh hpp (fun S_44 H locs hw_45 hP hD hS hC hh hs_46 hpp => ?_)
            try dsimp only at hw_45
            have aw_47 : AW [26] [] S_35 S_44 := (by rw [hw_45]; exact AW.u (by decide))
            have aw_47t : AW [6, 7, 8, 9, 16, 14, 10, 11, 12, 13, 25, 26, 35] [] S S_44 := aw_38t.tr (aw_47.mono (by decide) (by decide))
            have kk_48 : kK S_44 15 = 0 := (aw_47.2.1 15 (lt35 (by decide)) (by decide)).2.trans kk_39
            have ii_49 : S_44.1 9 = S.1 9 := (aw_47.1 9 (by decide)).trans ii_40
            have ii_50 : S_44.1 10 = S.1 10 := (aw_47.1 10 (by decide)).trans ii_41
            have ty_51 := TY.aw ty_42 aw_47 (by decide)
            refine lv_iload_n hx hb dX5_copied_305 rfl (lv_at hl 5 rfl) ?_
            refine lv_if_ne (tgt := 323) hx hb dX5_copied_306 (by decide) (fun c_52 => absurd (by decide) c_52) (fun c_52 => ?_)
            refine lv_aload_n hx hb dX5_copied_309 rfl (lv_at hl 3 rfl) ?_
            refine va_get (D := gD G) (ci := 5) (v := .ref (ga G 2)) (C := RX5) (T := TX5) (N := 15) hx hb htu cu_in5 hown hK hP 4 cw_4 rfl 1 (by decide) (htu _ C_45) (fun _ h9 => h9) rfl dX5_copied_310 ?_
            refine lv_iload_n hx hb dX5_copied_313 rfl (lv_at hl 4 rfl) ?_
            refine lv_iconst (v := 1) hx hb dX5_copied_314 (by decide) ?_
            have hC0 := hC
            refine c_cr (c_runV (As := [.int t, .int 1]) (rest := []) (q0 := 2) (ci := 4) ⟨hx, hb, hml, hown, htu⟩ (y_boundsOf l G S_44 (T + 1) (V + 1) (V + 1) X Y Z t 1 hC ty_51 ((Nat.le_refl _)) ((by decide)) H) (cwV 2 htu hU_X5_196 rfl rfl rfl (by decide +kernel) ⟨show 1 + 1 ≤ (fu + 1) + 4 by omega, show 8 + (5 + 11) + 21 ≤ 42 * (fu + 1) + 140 by omega⟩) hP hK hD hC hpp cw_2 rfl rfl hl.1 rfl (lv_room (Nat.le_of_ble_eq_true rfl)) dX5_copied_315) hS hD hh hpp (fun r_53 S_54 H locs hw_55 hP hD hS hC hh hs_56 hpp => ?_)
            obtain ⟨-, hu9, hw_55⟩ := hw_55
            have hu9 := hu9.symm
            subst hu9
            obtain ⟨br_57r, br_57e, br_571⟩ := hw_55
            have br_57b := ty_51.2.1.2.2.1
            have br_57l : br_57r < 35 + kB S_44 := bnd_lt br_571 br_57b (by decide)
            have br_57h : kH S_44 br_57r = r_53 := br_57e.symm
            refine lv_iload hx hb dX5_copied_318 (lv_at hl 0 rfl) ?_
            have lk_58oc : OC S S_44 T := ((((ty_31o).tr (OC.aw (T := T) aw_38 (by decide)) (Nat.le_refl _))).tr (OC.aw (T := T) aw_47 (by decide)) (Nat.le_refl _))
            obtain ⟨lk_58j, lk_58p, lk_58e, lk_58f⟩ := rget_in (v := 4) t4 (by decide) (by omega)
            have lk_58t : rget (kF S_44 6) (kK S_44 6) t = 4 := by rw [lk_58e, rget_at (by have := ty_51.1.1; omega) (by have := ty_51.1.1; omega), (lk_58oc lk_58j (by omega)).1]; exact lk_58f
            obtain ⟨lk_58w, lk_581, lk_582⟩ := bnd_of br_571 lk_58t
            have lk_58w2 : lk_58w < V := by
              rcases br_571 with h | ⟨j, w, h1, h2, h3, h4, h5, h6⟩
              · exact absurd lk_58t h.2
              · have ej : j = lk_58j := (nI_eq (by omega) (by omega)).mp (h2.symm.trans lk_58e)
                obtain ⟨⟨v7, v8, v9⟩, -⟩ := tv lk_58j (by omega) lk_58f
                have ew : w = v7 := (nI_eq (by omega) (by omega)).mp (h5.symm.trans (by rw [ej, (lk_58oc lk_58j (by omega)).2]; exact v9))
                omega
            have lk_58k : kK S_44 br_57r = kK S br_57r := by rw [lk_582]; exact (((aw_47.bnd (V := V) (by decide) (Nat.le_trans (Nat.mul_le_mul_left 2 (Nat.le_succ V)) (Nat.le_trans ty_31.2.1.2.2.1 aw_38.2.2.2.1)) (2 * lk_58w + 1) (by omega)).trans ((aw_38.bnd (V := V) (by decide) (Nat.le_trans (Nat.mul_le_mul_left 2 (Nat.le_succ V)) ty_31.2.1.2.2.1) (2 * lk_58w + 1) (by omega)).trans rfl))).trans (ty_31w (2 * lk_58w + 1) (by omega))
            have lk_58l : kK S br_57r ≤ K + V := by rw [lk_582]; exact hBD _ (by omega)
            have hC0 := hC
            refine c_cv (c_runV (As := [.int (nI T)]) (rest := []) (q0 := (2 * br_57r + 13)) (ci := 0) ⟨hx, hb, hml, hown, htu⟩ (c_addA l G S_44 br_57r br_57l hC r_53 br_57h (nI T) (by rw [lk_58k, lk_582, lim_b (Nat.le_add_right 35 _), ← lk_582]; omega) H) (cwV 1 htu hU_X5_200 rfl rfl rfl (by decide +kernel) ⟨show 2 + 1 ≤ (fu + 1) + 4 by omega, show 8 + (2 + 11) + 82 ≤ 42 * (fu + 1) + 140 by omega⟩) hP hK hD hC hpp (c_hd br_57h (cw_row br_57l)) rfl rfl hl.1 rfl (lv_room (Nat.le_of_ble_eq_true rfl)) dX5_copied_320) hS hD hh hpp (fun S_60 H locs hw_61 hP hD hS hC hh hs_62 hpp => ?_)
            try dsimp only at hw_61
            have aw_63 : AW [35] [] S_44 S_60 := (by obtain ⟨_, _, _, h9, -, -⟩ := hw_61; rw [h9]; exact AW.u (by first | (simp; omega) | simp))
            have aw_63t : AW [6, 7, 8, 9, 16, 14, 10, 11, 12, 13, 25, 26, 35] [] S S_60 := aw_47t.tr (aw_63.mono (by decide) (by decide))
            have kk_64 : kK S_60 15 = 0 := (aw_63.2.1 15 (lt35 (by decide)) (by decide)).2.trans kk_48
            have ii_65 : S_60.1 9 = S.1 9 := (aw_63.1 9 (by decide)).trans ii_49
            have ii_66 : S_60.1 10 = S.1 10 := (aw_63.1 10 (by decide)).trans ii_50
            have ha_67r : br_57r < 35 + kB S_60 := by have := hs_62.1; have := br_57l; omega
            have ha_67 : kH S_60 br_57r = r_53 := (hs_62.2 br_57r br_57l).trans br_57h
            have ty_68 := TY.aw ty_51 aw_63 (by decide)
            obtain ⟨ad_69n, ad_69q, ad_69g, ad_69u, ad_691, ad_692⟩ := hw_61
            refine lv_iload_n hx hb dX5_copied_323 rfl (lv_at hl 5 rfl) ?_
            refine lv_iconst (v := 1) hx hb dX5_copied_324 (by decide) ?_
            refine lv_icmp_ne (tgt := 342) hx hb dX5_copied_325 (by decide) (fun c_70 => ?_) (fun c_70 => absurd c_70 (by decide))
            have z6 : OC S S_60 T := ((((((ty_31o).tr (OC.aw (T := T) aw_38 (by decide)) (Nat.le_refl _))).tr (OC.aw (T := T) aw_47 (by decide)) (Nat.le_refl _))).tr (OC.aw (T := T) aw_63 (by decide)) (Nat.le_refl _))
            have zb : ∀ j, j < 2 * (V + 1) → kK S_44 (35 + j) = kK S_24 (35 + j) := fun j hj => ((aw_47.bnd (V := V + 1) (by decide) (Nat.le_trans ty_31.2.1.2.2.1 aw_38.2.2.2.1) (j) hj).trans ((aw_38.bnd (V := V + 1) (by decide) ty_31.2.1.2.2.1 (j) hj).trans rfl))
            have zl : ∀ j, kK S_60 (35 + j) ≤ kK S_44 (35 + j) + 1 ∧ (35 + j ≠ br_57r → kK S_60 (35 + j) = kK S_44 (35 + j)) := fun j => by
              by_cases e : 35 + j = br_57r
              · rw [e, ad_69u, uR_K]; exact ⟨Nat.le_refl _, fun h => absurd rfl h⟩
              · rw [ad_69u, uR_Ko e]; exact ⟨Nat.le_succ _, fun _ => rfl⟩
            have cr1 : CR S S_60 T V K 1 (T + 1) (V + 1) X Y Z := CR.var hBD ty_68 z6 (Nat.le_refl _) (fun j hj => by have h1 := (zl j).1; rw [zb j (by omega), ty_31w j hj] at h1; exact h1) (((zl (2 * V)).2 (by omega)).trans ((zb (2 * V) (by omega)).trans ty_31x)) (((zl (2 * V + 1)).2 (by omega)).trans ((zb (2 * V + 1) (by omega)).trans ty_31y))
            have q6 : kF S_60 6 T = 4 := (by rw [(aw_63.2.1 6 (lt35 (by decide)) (by decide)).1]; exact (by rw [(aw_47.2.1 6 (lt35 (by decide)) (by decide)).1]; exact (by rw [(aw_38.2.1 6 (lt35 (by decide)) (by decide)).1]; exact ty_314)))
            have q8 : kF S_60 8 T = nI V := (by rw [(aw_63.2.1 8 (lt35 (by decide)) (by decide)).1]; exact (by rw [(aw_47.2.1 8 (lt35 (by decide)) (by decide)).1]; exact (by rw [(aw_38.2.1 8 (lt35 (by decide)) (by decide)).1]; exact ty_318)))
            have q0 : kK S_60 (35 + (2 * V + 0)) = 0 ∧ kK S_60 (35 + (2 * V + 1)) = 0 := ⟨((zl (2 * V)).2 (by omega)).trans ((zb (2 * V) (by omega)).trans ty_31x), ((zl (2 * V + 1)).2 (by omega)).trans ((zb (2 * V + 1) (by omega)).trans ty_31y)⟩
            have tV1 : V + 1 ≤ 150 := ty_68.2.1.2.1
            have tT1 : T + 1 ≤ 602 := ty_68.2.1.1
            refine lv_iconst (v := 0) hx hb dX5_copied_342 (by decide) ?_
            refine lv_istore (lv' := [(7, .int 0), (6, .int (nI T)), (5, .int ((2 * r_13) + 0)), (4, .int r_7), (0, .ref (ga G 4)), (1, .int t), (2, .int 0), (3, .int (nI dp))]) hx hb dX5_copied_343 hl (by decide) rfl (fun ls hl => ?_)
            refine lv_iload hx hb dX5_copied_345 (lv_at hl 0 rfl) ?_
            refine lv_iconst (v := 1) hx hb dX5_copied_347 (by decide) ?_
            refine lv_icmp_gt (tgt := 445) hx hb dX5_copied_348 (by decide) (fun c_71 => absurd c_71 (by decide)) (fun c_71 => ?_)
            refine lv_iload hx hb dX5_copied_351 (lv_at hl 0 rfl) ?_
            refine lv_iload_n hx hb dX5_copied_353 rfl (lv_at hl 6 rfl) ?_
            have hC0 := hC
            refine c_ci (c_runS (As := [.int 0, .int 0]) (rest := []) ⟨hx, hb, hml, hown, htu⟩ (g_isTaken l G S_60 0 0 hC  H) (va_cwS 2 htu hU_X5_227 rfl rfl rfl (by decide +kernel) ⟨show 0 + 1 ≤ (fu + 1) + 4 by omega, show 8 + (2 + 11) + 0 ≤ 42 * (fu + 1) + 140 by omega⟩) hP hK hD hC hpp rfl hl.1 rfl (lv_room (Nat.le_of_ble_eq_true rfl)) dX5_copied_354) hS hD hh hpp (fun r_72 S_73 H locs hw_74 hP hD hS hC hh hs_75 hpp => ?_)
            obtain ⟨-, hu9, hw_74⟩ := hw_74
            have hu9 := hu9.symm
            subst hu9
            obtain rfl : r_72 = 1 := hw_74.trans (by decide)
            refine lv_if_ne (tgt := 363) hx hb dX5_copied_357 (by decide) (fun c_76 => ?_) (fun c_76 => absurd c_76 (by decide))
            refine lv_aload_n hx hb dX5_copied_363 rfl (lv_at hl 4 rfl) ?_
            refine va_get (D := gD G) (ci := 5) (v := .ref (ga G 2)) (C := RX5) (T := TX5) (N := 15) hx hb htu cu_in5 hown hK hP 4 cw_4 rfl 1 (by decide) (htu _ C_45) (fun _ h9 => h9) rfl dX5_copied_364 ?_
            refine lv_iload_n hx hb dX5_copied_367 rfl (lv_at hl 5 rfl) ?_
            refine lv_iload hx hb dX5_copied_368 (lv_at hl 0 rfl) ?_
            have hC0 := hC
            refine c_cr (c_runV (As := [.int t, .int 0]) (rest := []) (q0 := 2) (ci := 4) ⟨hx, hb, hml, hown, htu⟩ (y_boundsOf l G S_60 (T + 1) (V + 1) (V + 1) X Y Z t 0 hC ty_68 ((Nat.le_refl _)) ((by decide)) H) (cwV 2 htu hU_X5_196 rfl rfl rfl (by decide +kernel) ⟨show 1 + 1 ≤ (fu + 1) + 4 by omega, show 8 + (5 + 11) + 21 ≤ 42 * (fu + 1) + 140 by omega⟩) hP hK hD hC hpp cw_2 rfl rfl hl.1 rfl (lv_room (Nat.le_of_ble_eq_true rfl)) dX5_copied_370) hS hD hh hpp (fun r_77 S_78 H locs hw_79 hP hD hS hC hh hs_80 hpp => ?_)
            obtain ⟨-, hu9, hw_79⟩ := hw_79
            have hu9 := hu9.symm
            subst hu9
            obtain ⟨br_81r, br_81e, br_811⟩ := hw_79
            have br_81b := ty_68.2.1.2.2.1
            have br_81l : br_81r < 35 + kB S_60 := bnd_lt br_811 br_81b (by decide)
            have br_81h : kH S_60 br_81r = r_77 := br_81e.symm
            refine lv_astore (lv' := [(8, .ref r_77), (7, .int 0), (6, .int (nI T)), (5, .int ((2 * r_13) + 0)), (4, .int r_7), (0, .ref (ga G 4)), (1, .int t), (2, .int 0), (3, .int (nI dp))]) hx hb dX5_copied_373 hl (by decide) rfl (fun ls hl => ?_)
            refine lv_aload hx hb dX5_copied_375 (lv_at hl 0 rfl) ?_
            refine va_get (D := gD G) (ci := 0) (v := .int (nI (kK S_60 br_81r))) (C := RX0) (T := TX0) (N := 2) hx hb htu cu_in0 hown hK hP (2 * br_81r + 13) (c_hd br_81h (cw_row br_81l)) rfl 1 (by decide) (htu _ C_313) (fun _ h9 => h9) rfl dX5_copied_377 ?_
            refine lv_istore (lv' := [(9, .int (nI (kK S_60 br_81r))), (8, .ref r_77), (7, .int 0), (6, .int (nI T)), (5, .int ((2 * r_13) + 0)), (4, .int r_7), (0, .ref (ga G 4)), (1, .int t), (2, .int 0), (3, .int (nI dp))]) hx hb dX5_copied_380 hl (by decide) rfl (fun ls hl => ?_)
            refine lv_iconst (v := 0) hx hb dX5_copied_382 (by decide) ?_
            refine lv_istore (lv' := [(10, .int 0), (9, .int (nI (kK S_60 br_81r))), (8, .ref r_77), (7, .int 0), (6, .int (nI T)), (5, .int ((2 * r_13) + 0)), (4, .int r_7), (0, .ref (ga G 4)), (1, .int t), (2, .int 0), (3, .int (nI dp))]) hx hb dX5_copied_383 hl (by decide) rfl (fun ls hl => ?_)
            obtain ⟨ah, eah⟩ : ∃ x, x = kK S_60 br_81r := ⟨_, rfl⟩
            have hah : ah ≤ K + (V + 1) := by
              rw [eah]
              rcases br_811 with h | ⟨j9, w9, h1, h2, h3, h4, h5, h6⟩
              · rw [h.1, kk_64]; exact Nat.zero_le _
              · rw [h6]; exact cr1.2.2.2.2.2 _ (by omega)
            rw [← eah] at hl
            refine w_loop (fun j H locs k sl g => ∃ (S1 : cS) (T1 : Nat) (V1 : Nat) (X1 : Nat) (i : Nat) (ls : Array Slot), CL S1 ∧ HS S S1 ∧ PT S ≤ PT S1 ∧ AW [6, 7, 8, 9, 16, 14, 10, 11, 12, 13, 25, 26, 35] [] S S1 ∧ i + j = ah ∧ CR S S1 T V K 1 T1 V1 X1 Y Z ∧ (V + 1) ≤ V1 ∧ T + 1 ≤ T1 ∧ kK S1 (35 + (2 * V + 0)) ≤ i + 1 * (V1 - (V + 1)) ∧ kF S1 6 T = 4 ∧ kF S1 8 T = nI V ∧ kH S1 br_81r = r_77 ∧ br_81r < 35 + kB S1 ∧ k = PT S1 - PT S ∧ sl = 12 * (PT S1 - PT S) ∧ cP G S1 H ∧ cD (cA G S s.heap.size) G S1 ∧ va_S (cA G S s.heap.size) s.heap H locs ∧ lv_has ls 12 [(0, .ref (ga G 4)), (1, .int t), (2, .int 0), (3, .int (nI dp)), (5, .int ((2 * r_13) + 0)), (6, .int (nI T)), (7, .int 0), (8, .ref r_77), (9, .int (nI ah)), (10, .int (nI i))] ∧ g = F0 m 385 ls []) ?_ ?_ ah _ _ _ _ _ ⟨S_60, (T + 1), (V + 1), X, 0, ls, hC, hh, hpp, aw_63t, by omega, cr1, Nat.le_refl _, by omega, (by rw [q0.1]; exact Nat.zero_le _), q6, q8, br_81h, br_81l, rfl, rfl, hP, hD, hS, lv_sub hl [7, 8, 9, 10, 5, 4, 3, 2, 1, 0] rfl, rfl⟩
            · intro H locs k sl g hI
              obtain ⟨S1, T1, V1, X1, i, ls, hC, hh, hpp, hAW, hp0, hp1, hp2, hp3, hp4, hp5, hp6, hp7, hp8, rfl, rfl, hP, hD, hS, hl, rfl⟩ := hI
              have x15 : kK S1 15 = 0 := (hAW.2.1 15 (lt35 (by decide)) (by decide)).2.trans h15
              have x9 : S1.1 9 = S.1 9 := hAW.1 9 (by decide)
              have x10 : S1.1 10 = S.1 10 := hAW.1 10 (by decide)
              obtain ⟨yT, yV, yB, yX⟩ := hp1.1.2.1
              refine lv_iload hx hb dX5_copied_385 (lv_at hl 9 rfl) ?_
              refine lv_iload hx hb dX5_copied_387 (lv_at hl 8 rfl) ?_
              refine lv_icmp_ge (tgt := 439) hx hb dX5_copied_389 (by decide) (fun c_82 => ?_) (fun c_82 => absurd (nI_le (by omega) (by omega)) c_82)
              refine lv_iinc (v := 1) (lv' := [(7, .int 1), (0, .ref (ga G 4)), (1, .int t), (2, .int 0), (3, .int (nI dp)), (5, .int ((2 * r_13) + 0)), (6, .int (nI T)), (8, .ref r_77), (9, .int (nI ah)), (10, .int (nI i))]) hx hb dX5_copied_439 hl (k := 6) rfl (by decide) (by decide) rfl (fun ls hl => ?_)
              refine lv_goto (tgt := 345) hx hb dX5_copied_442 (by decide) ?_
              refine lv_iload hx hb dX5_copied_345 (lv_at hl 0 rfl) ?_
              refine lv_iconst (v := 1) hx hb dX5_copied_347 (by decide) ?_
              refine lv_icmp_gt (tgt := 445) hx hb dX5_copied_348 (by decide) (fun c_83 => absurd c_83 (by decide)) (fun c_83 => ?_)
              refine lv_iload hx hb dX5_copied_351 (lv_at hl 0 rfl) ?_
              refine lv_iload_n hx hb dX5_copied_353 rfl (lv_at hl 3 rfl) ?_
              have hC0 := hC
              refine c_ci (c_runS (As := [.int 1, .int 0]) (rest := []) ⟨hx, hb, hml, hown, htu⟩ (g_isTaken l G S1 1 0 hC  H) (va_cwS 2 htu hU_X5_227 rfl rfl rfl (by decide +kernel) ⟨show 0 + 1 ≤ (fu + 1) + 4 by omega, show 8 + (2 + 11) + 0 ≤ 42 * (fu + 1) + 140 by omega⟩) hP hK hD hC hpp rfl hl.1 rfl (lv_room (Nat.le_of_ble_eq_true rfl)) dX5_copied_354) hS hD hh hpp (fun r_84 S_85 H locs hw_86 hP hD hS hC hh hs_87 hpp => ?_)
              obtain ⟨-, hu9, hw_86⟩ := hw_86
              have hu9 := hu9.symm
              subst hu9
              obtain rfl : r_84 = 0 := hw_86.trans (by decide)
              refine lv_if_ne (tgt := 363) hx hb dX5_copied_357 (by decide) (fun c_88 => absurd (by decide) c_88) (fun c_88 => ?_)
              refine lv_goto (tgt := 439) hx hb dX5_copied_360 (by decide) ?_
              refine lv_iinc (v := 2) (lv' := [(7, .int 2), (0, .ref (ga G 4)), (1, .int t), (2, .int 0), (3, .int (nI dp)), (5, .int ((2 * r_13) + 0)), (6, .int (nI T)), (8, .ref r_77), (9, .int (nI ah)), (10, .int (nI i))]) hx hb dX5_copied_439 hl (k := 0) rfl (by decide) (by decide) rfl (fun ls hl => ?_)
              refine lv_goto (tgt := 345) hx hb dX5_copied_442 (by decide) ?_
              refine lv_iload hx hb dX5_copied_345 (lv_at hl 0 rfl) ?_
              refine lv_iconst (v := 1) hx hb dX5_copied_347 (by decide) ?_
              refine lv_icmp_gt (tgt := 445) hx hb dX5_copied_348 (by decide) (fun c_89 => ?_) (fun c_89 => absurd (by decide) c_89)
              refine lv_iload hx hb dX5_copied_445 (lv_at hl 6 rfl) ?_
              exact c_iret (v := nI T) hx hb hr hK hP hD hS hC hh hpp ⟨hAW, ⟨T1, V1, X1, Y, hp1, by omega, by omega, fun _ => by omega⟩⟩ dX5_copied_447 hlocks
            · intro j ih9 H locs k sl g hI
              obtain ⟨S1, T1, V1, X1, i, ls, hC, hh, hpp, hAW, hp0, hp1, hp2, hp3, hp4, hp5, hp6, hp7, hp8, rfl, rfl, hP, hD, hS, hl, rfl⟩ := hI
              have x15 : kK S1 15 = 0 := (hAW.2.1 15 (lt35 (by decide)) (by decide)).2.trans h15
              have x9 : S1.1 9 = S.1 9 := hAW.1 9 (by decide)
              have x10 : S1.1 10 = S.1 10 := hAW.1 10 (by decide)
              obtain ⟨yT, yV, yB, yX⟩ := hp1.1.2.1
              have ni : i < ah := by omega
              refine lv_iload hx hb dX5_copied_385 (lv_at hl 9 rfl) ?_
              refine lv_iload hx hb dX5_copied_387 (lv_at hl 8 rfl) ?_
              refine lv_icmp_ge (tgt := 439) hx hb dX5_copied_389 (by decide) (fun c_90 => absurd c_90 (nI_ge (by omega) (by omega))) (fun c_90 => ?_)
              refine lv_aload_n hx hb dX5_copied_392 rfl (lv_at hl 0 rfl) ?_
              refine lv_aload hx hb dX5_copied_393 (lv_at hl 7 rfl) ?_
              refine lv_iload hx hb dX5_copied_395 (lv_at hl 9 rfl) ?_
              have hC0 := hC
              refine c_ci (c_runV (As := [.int (nI i)]) (rest := [.ref (ga G 4)]) (q0 := (2 * br_81r + 13)) (ci := 0) ⟨hx, hb, hml, hown, htu⟩ (c_getA l G S1 br_81r hp8 hC r_77 hp7 (nI i) H) (cwV 1 htu hU_X5_124 rfl rfl rfl (by decide +kernel) ⟨show 0 + 1 ≤ (fu + 1) + 4 by omega, show 8 + (2 + 11) + 0 ≤ 42 * (fu + 1) + 140 by omega⟩) hP hK hD hC hpp (c_hd hp7 (cw_row hp8)) rfl rfl hl.1 rfl (lv_room (Nat.le_of_ble_eq_true rfl)) dX5_copied_397) hS hD hh hpp (fun r_91 S_92 H locs hw_93 hP hD hS hC hh hs_94 hpp => ?_)
              obtain ⟨hu9, hw_93⟩ := hw_93
              have hu9 := hu9.symm
              subst hu9
              refine lv_iload_n hx hb dX5_copied_400 rfl (lv_at hl 2 rfl) ?_
              refine lv_iload_n hx hb dX5_copied_401 rfl (lv_at hl 3 rfl) ?_
              refine lv_iconst (v := 1) hx hb dX5_copied_402 (by decide) ?_
              refine lv_iadd hx hb dX5_copied_403 ?_
              refine m_top (y := nI (dp + 1)) (nI_1 dp) ?_
              have hC0 := hC
              refine c_ci (c_runV (As := [.int r_91, .int 0, .int (nI (dp + 1))]) (rest := []) (q0 := 4) (ci := 5) ⟨hx, hb, hml, hown, htu⟩ (ih l G S1 T1 V1 X1 Y Z K 1 (dp + 1) 0 r_91 hC hp1.1 hp1.2.2.2.2.2 hKK x15 ((Or.inr ⟨by decide, rfl⟩)) ((by decide)) ((by omega)) ((by omega)) ((by rw [x10]; exact hlev)) ((fun _ => by rw [x9]; exact hab (by decide))) H) (cwV 3 htu hU_X5_131 rfl rfl rfl (by decide +kernel) ⟨show (fu + 4) + 1 ≤ (fu + 1) + 4 by omega, show 8 + (12 + 11) + (42 * fu + 140) ≤ 42 * (fu + 1) + 140 by omega⟩) hP hK hD hC hpp cw_4 rfl rfl hl.1 rfl (lv_room (Nat.le_of_ble_eq_true rfl)) dX5_copied_404) hS hD hh hpp (fun r_95 S_96 H locs hw_97 hP hD hS hC hh hs_98 hpp => ?_)
              try dsimp only at hw_97
              have aw_99 : AW [6, 7, 8, 9, 16, 14, 10, 11, 12, 13, 25, 26, 35] [] S1 S_96 := hw_97.1
              have aw_99t : AW [6, 7, 8, 9, 16, 14, 10, 11, 12, 13, 25, 26, 35] [] S S_96 := hAW.tr (aw_99.mono (by decide) (by decide))
              have kk_100 : kK S_96 15 = 0 := (aw_99.2.1 15 (lt35 (by decide)) (by decide)).2.trans x15
              have ii_101 : S_96.1 9 = S.1 9 := (aw_99.1 9 (by decide)).trans x9
              have ii_102 : S_96.1 10 = S.1 10 := (aw_99.1 10 (by decide)).trans x10
              have ha_103r : br_81r < 35 + kB S_96 := by have := hs_98.1; have := hp8; omega
              have ha_103 : kH S_96 br_81r = r_77 := (hs_98.2 br_81r hp8).trans hp7
              obtain ⟨cx_104T, cx_104V, cx_104X, cx_104Y, cx_104R, cx_104a, cx_104b, cx_104c⟩ := hw_97.2
              have cx_104h := hp1.tr cx_104R
              obtain ⟨-, cx_104t1, cx_104t2, -⟩ := id cx_104R
              obtain ⟨cx_104u1, cx_104u2, cx_104u3, cx_104u4⟩ := cx_104R.1.2.1
              refine lv_istore (lv' := [(11, .int r_95), (0, .ref (ga G 4)), (1, .int t), (2, .int 0), (3, .int (nI dp)), (5, .int ((2 * r_13) + 0)), (6, .int (nI T)), (7, .int 0), (8, .ref r_77), (9, .int (nI ah)), (10, .int (nI i))]) hx hb dX5_copied_407 hl (by decide) rfl (fun ls hl => ?_)
              refine lv_iload hx hb dX5_copied_409 (lv_at hl 0 rfl) ?_
              refine lv_if_ge (tgt := 417) hx hb dX5_copied_411 (by decide) (fun c_105 => ?_) (fun c_105 => ?_)
              · skip
                have cx_104e : cx_104Y = Y := cx_104c (Int32.not_lt.mpr c_105)
                rw [cx_104e] at cx_104h
                refine lv_aload_n hx hb dX5_copied_417 rfl (lv_at hl 1 rfl) ?_
                refine va_get (D := gD G) (ci := 5) (v := .ref (ga G 2)) (C := RX5) (T := TX5) (N := 15) hx hb htu cu_in5 hown hK hP 4 cw_4 rfl 1 (by decide) (htu _ C_45) (fun _ h9 => h9) rfl dX5_copied_418 ?_
                refine lv_iload hx hb dX5_copied_421 (lv_at hl 6 rfl) ?_
                refine lv_iload hx hb dX5_copied_423 (lv_at hl 7 rfl) ?_
                have hC0 := hC
                refine c_cr (c_runV (As := [.int (nI T), .int 0]) (rest := []) (q0 := 2) (ci := 4) ⟨hx, hb, hml, hown, htu⟩ (y_boundsOf l G S_96 cx_104T cx_104V cx_104V cx_104X Y Z (nI T) 0 hC cx_104h.1 ((Nat.le_refl _)) ((by decide)) H) (cwV 2 htu hU_X5_196 rfl rfl rfl (by decide +kernel) ⟨show 1 + 1 ≤ (fu + 1) + 4 by omega, show 8 + (5 + 11) + 21 ≤ 42 * (fu + 1) + 140 by omega⟩) hP hK hD hC hpp cw_2 rfl rfl hl.1 rfl (lv_room (Nat.le_of_ble_eq_true rfl)) dX5_copied_425) hS hD hh hpp (fun r_106 S_107 H locs hw_108 hP hD hS hC hh hs_109 hpp => ?_)
                obtain ⟨-, hu9, hw_108⟩ := hw_108
                have hu9 := hu9.symm
                subst hu9
                obtain ⟨br_110r, br_110e, br_1101⟩ := hw_108
                have br_110b := cx_104h.1.2.1.2.2.1
                have br_110l : br_110r < 35 + kB S_96 := bnd_lt br_1101 br_110b (by decide)
                have br_110h : kH S_96 br_110r = r_106 := br_110e.symm
                refine lv_iload hx hb dX5_copied_428 (lv_at hl 0 rfl) ?_
                have pu_1116 : kF S_96 6 T = 4 := (cx_104R.2.2.2.1 T (by omega)).1.trans hp5
                have pu_1118 : kF S_96 8 T = nI V := (cx_104R.2.2.2.1 T (by omega)).2.trans hp6
                have pu_111r := bnd_at br_1101 pu_1116 pu_1118 (by have := cx_104h.1.1.1; omega) (by have := cx_104h.1.1.1; omega) (by omega) (by omega) (by omega)
                have pu_111k : kK S_96 br_110r + 1 ≤ K + cx_104V := by have h9 := cx_104R.2.2.2.2.1 (2 * V + 0) (by omega); rw [pu_111r]; omega
                have hC0 := hC
                refine c_cv (c_runV (As := [.int r_95]) (rest := []) (q0 := (2 * br_110r + 13)) (ci := 0) ⟨hx, hb, hml, hown, htu⟩ (c_addA l G S_96 br_110r br_110l hC r_106 br_110h r_95 (by rw [pu_111r, lim_b (Nat.le_add_right 35 _), ← pu_111r]; omega) H) (cwV 1 htu hU_X5_200 rfl rfl rfl (by decide +kernel) ⟨show 2 + 1 ≤ (fu + 1) + 4 by omega, show 8 + (2 + 11) + 82 ≤ 42 * (fu + 1) + 140 by omega⟩) hP hK hD hC hpp (c_hd br_110h (cw_row br_110l)) rfl rfl hl.1 rfl (lv_room (Nat.le_of_ble_eq_true rfl)) dX5_copied_430) hS hD hh hpp (fun S_113 H locs hw_114 hP hD hS hC hh hs_115 hpp => ?_)
                try dsimp only at hw_114
                have aw_116 : AW [35] [] S_96 S_113 := (by obtain ⟨_, _, _, h9, -, -⟩ := hw_114; rw [h9]; exact AW.u (by first | (simp; omega) | simp))
                have aw_116t : AW [6, 7, 8, 9, 16, 14, 10, 11, 12, 13, 25, 26, 35] [] S S_113 := aw_99t.tr (aw_116.mono (by decide) (by decide))
                have kk_117 : kK S_113 15 = 0 := (aw_116.2.1 15 (lt35 (by decide)) (by decide)).2.trans kk_100
                have ii_118 : S_113.1 9 = S.1 9 := (aw_116.1 9 (by decide)).trans ii_101
                have ii_119 : S_113.1 10 = S.1 10 := (aw_116.1 10 (by decide)).trans ii_102
                have ha_120r : br_81r < 35 + kB S_113 := by have := hs_115.1; have := ha_103r; omega
                have ha_120 : kH S_113 br_81r = r_77 := (hs_115.2 br_81r ha_103r).trans ha_103
                have ha_121r : br_110r < 35 + kB S_113 := by have := hs_115.1; have := br_110l; omega
                have ha_121 : kH S_113 br_110r = r_106 := (hs_115.2 br_110r br_110l).trans br_110h
                have ty_122 := TY.aw cx_104h.1 aw_116 (by decide)
                obtain ⟨ad_123n, ad_123q, ad_123g, ad_123u, ad_1231, ad_1232⟩ := hw_114
                have cp_124 := cx_104h.push ad_123u pu_111r (by omega) pu_111k
                have cp_1246 : kF S_113 6 T = 4 := by rw [(aw_116.2.1 6 (lt35 (by decide)) (by decide)).1]; exact pu_1116
                have cp_1248 : kF S_113 8 T = nI V := by rw [(aw_116.2.1 8 (lt35 (by decide)) (by decide)).1]; exact pu_1118
                have cp_124k : kK S_113 (35 + (2 * V + 0)) ≤ (i + 1) + 1 * (cx_104V - (V + 1)) := by have h9 := cx_104R.2.2.2.2.1 (2 * V + 0) (by omega); rw [← pu_111r, ad_123u, uR_K, pu_111r]; omega
                refine lv_iinc (v := nI (i + 1)) (lv' := [(10, .int (nI (i + 1))), (11, .int r_95), (0, .ref (ga G 4)), (1, .int t), (2, .int 0), (3, .int (nI dp)), (5, .int ((2 * r_13) + 0)), (6, .int (nI T)), (7, .int 0), (8, .ref r_77), (9, .int (nI ah))]) hx hb dX5_copied_433 hl (k := 10) rfl (nI_1 i) (by decide) rfl (fun ls hl => ?_)
                refine lv_goto (tgt := 385) hx hb dX5_copied_436 (by decide) ?_
                exact ih9 _ _ _ _ _ ⟨S_113, cx_104T, cx_104V, cx_104X, i + 1, ls, hC, hh, hpp, aw_116t, by omega, cp_124, by omega, by omega, cp_124k, cp_1246, cp_1248, ha_120, ha_120r, rfl, rfl, hP, hD, hS, lv_sub hl [2, 3, 4, 5, 6, 7, 8, 9, 10, 0] rfl, rfl⟩
              · skip
                refine lv_iload hx hb dX5_copied_414 (lv_at hl 0 rfl) ?_
                exact c_iret (v := r_95) hx hb hr hK hP hD hS hC hh hpp ⟨aw_99t, ⟨cx_104T, cx_104V, cx_104X, cx_104Y, cx_104h, by omega, by omega, fun h => absurd (Int32.not_le.mp c_105) h⟩⟩ dX5_copied_416 hlocks
        · skip
          refine lv_aload_n hx hb dX5_copied_250 rfl (lv_at hl 2 rfl) ?_
          refine va_get (D := gD G) (ci := 5) (v := .ref (kH S 25)) (C := RX5) (T := TX5) (N := 15) hx hb htu cu_in5 hown hK hP 4 cw_4 rfl 6 (by decide) (htu _ C_55) (fun _ h9 => h9) rfl dX5_copied_251 ?_
          refine lv_iload hx hb dX5_copied_254 (lv_at hl 0 rfl) ?_
          have hC0 := hC
          refine c_ci (c_runV (As := [.int ((2 * r_13) + 0)]) (rest := []) (q0 := (2 * 25 + 13)) (ci := 0) ⟨hx, hb, hml, hown, htu⟩ (c_getA l G S 25 (lt35 (by decide)) hC (kH S 25) rfl ((2 * r_13) + 0) H) (cwV 1 htu hU_X5_124 rfl rfl rfl (by decide +kernel) ⟨show 0 + 1 ≤ (fu + 1) + 4 by omega, show 8 + (2 + 11) + 0 ≤ 42 * (fu + 1) + 140 by omega⟩) hP hK hD hC hpp (c_hd rfl (cw_row (lt35 (by decide)))) rfl rfl hl.1 rfl (lv_room (Nat.le_of_ble_eq_true rfl)) dX5_copied_256) hS hD hh hpp (fun r_125 S_126 H locs hw_127 hP hD hS hC hh hs_128 hpp => ?_)
          obtain ⟨hu9, hw_127⟩ := hw_127
          have hu9 := hu9.symm
          subst hu9
          exact c_iret (v := r_125) hx hb hr hK hP hD hS hC hh hpp ⟨AW.rf, ⟨T, V, X, Y, cr0, by omega, by omega, fun _ => by omega⟩⟩ dX5_copied_259 hlocks
      · skip
        refine lv_aload_n hx hb dX5_copied_119 rfl (lv_at hl 1 rfl) ?_
        refine va_get (D := gD G) (ci := 5) (v := .ref (ga G 2)) (C := RX5) (T := TX5) (N := 15) hx hb htu cu_in5 hown hK hP 4 cw_4 rfl 1 (by decide) (htu _ C_45) (fun _ h9 => h9) rfl dX5_copied_120 ?_
        have hC0 := hC
        refine c_ci (c_runV (As := []) (rest := []) (q0 := 2) (ci := 4) ⟨hx, hb, hml, hown, htu⟩ (y_stagedCount l G S  hC  H) (cwV 0 htu hU_X5_153 rfl rfl rfl (by decide +kernel) ⟨show 0 + 1 ≤ (fu + 1) + 4 by omega, show 8 + (1 + 11) + 0 ≤ 42 * (fu + 1) + 140 by omega⟩) hP hK hD hC hpp cw_2 rfl rfl hl.1 rfl (lv_room (Nat.le_of_ble_eq_true rfl)) dX5_copied_123) hS hD hh hpp (fun r_129 S_130 H locs hw_131 hP hD hS hC hh hs_132 hpp => ?_)
        obtain ⟨-, hu9, hw_131⟩ := hw_131
        have hu9 := hu9.symm
        subst hu9
        obtain rfl : r_129 = nI Y := hw_131.trans (congrArg nI hY.1.2.2.2.2.2.2.2.2.2.1)
        refine lv_istore (lv' := [(5, .int (nI Y)), (4, .int r_7), (0, .ref (ga G 4)), (1, .int t), (2, .int 0), (3, .int (nI dp))]) hx hb dX5_copied_126 hl (by decide) rfl (fun ls hl => ?_)
        refine lv_aload_n hx hb dX5_copied_128 rfl (lv_at hl 2 rfl) ?_
        refine va_get (D := gD G) (ci := 5) (v := .ref (ga G 2)) (C := RX5) (T := TX5) (N := 15) hx hb htu cu_in5 hown hK hP 4 cw_4 rfl 1 (by decide) (htu _ C_45) (fun _ h9 => h9) rfl dX5_copied_129 ?_
        refine lv_iload_n hx hb dX5_copied_132 rfl (lv_at hl 3 rfl) ?_
        have hC0 := hC
        refine c_ci (c_runV (As := [.int t]) (rest := []) (q0 := 2) (ci := 4) ⟨hx, hb, hml, hown, htu⟩ (y_fieldCount l G S T V V X Y Z t hC hY H) (cwV 1 htu hU_X5_184 rfl rfl rfl (by decide +kernel) ⟨show 1 + 1 ≤ (fu + 1) + 4 by omega, show 8 + (2 + 11) + 21 ≤ 42 * (fu + 1) + 140 by omega⟩) hP hK hD hC hpp cw_2 rfl rfl hl.1 rfl (lv_room (Nat.le_of_ble_eq_true rfl)) dX5_copied_133) hS hD hh hpp (fun r_133 S_134 H locs hw_135 hP hD hS hC hh hs_136 hpp => ?_)
        obtain ⟨-, hu9, hw_135⟩ := hw_135
        have hu9 := hu9.symm
        subst hu9
        refine lv_istore (lv' := [(6, .int r_133), (5, .int (nI Y)), (4, .int r_7), (0, .ref (ga G 4)), (1, .int t), (2, .int 0), (3, .int (nI dp))]) hx hb dX5_copied_136 hl (by decide) rfl (fun ls hl => ?_)
        refine lv_iconst (v := 0) hx hb dX5_copied_138 (by decide) ?_
        refine lv_istore (lv' := [(7, .int 0), (6, .int r_133), (5, .int (nI Y)), (4, .int r_7), (0, .ref (ga G 4)), (1, .int t), (2, .int 0), (3, .int (nI dp))]) hx hb dX5_copied_139 hl (by decide) rfl (fun ls hl => ?_)
        refine w_loop (fun j H locs k sl g => ∃ (S1 : cS) (T1 : Nat) (V1 : Nat) (X1 : Nat) (i : Nat) (ls : Array Slot), CL S1 ∧ HS S S1 ∧ PT S ≤ PT S1 ∧ AW [6, 7, 8, 9, 16, 14, 10, 11, 12, 13, 25, 26, 35] [] S S1 ∧ i + j = 6 ∧ CR S S1 T V K 1 T1 V1 X1 (Y + i) Z ∧ k = PT S1 - PT S ∧ sl = 12 * (PT S1 - PT S) ∧ cP G S1 H ∧ cD (cA G S s.heap.size) G S1 ∧ va_S (cA G S s.heap.size) s.heap H locs ∧ lv_has ls 12 [(0, .ref (ga G 4)), (1, .int t), (2, .int 0), (3, .int (nI dp)), (5, .int (nI Y)), (6, .int r_133), (7, .int (nI i))] ∧ g = F0 m 141 ls []) ?_ ?_ 6 _ _ _ _ _ ⟨S, T, V, X, 0, ls, hC, hh, hpp, AW.rf, by omega, cr0, rfl, rfl, hP, hD, hS, lv_sub hl [4, 5, 6, 7, 2, 1, 0] rfl, rfl⟩
        · intro H locs k sl g hI
          obtain ⟨S1, T1, V1, X1, i, ls, hC, hh, hpp, hAW, hp0, hp1, rfl, rfl, hP, hD, hS, hl, rfl⟩ := hI
          have x15 : kK S1 15 = 0 := (hAW.2.1 15 (lt35 (by decide)) (by decide)).2.trans h15
          have x9 : S1.1 9 = S.1 9 := hAW.1 9 (by decide)
          have x10 : S1.1 10 = S.1 10 := hAW.1 10 (by decide)
          obtain ⟨yT, yV, yB, yX⟩ := hp1.1.2.1
          have yt1 := hp1.2.1
          refine lv_iload hx hb dX5_copied_141 (lv_at hl 6 rfl) ?_
          refine lv_iload hx hb dX5_copied_143 (lv_at hl 5 rfl) ?_
          refine lv_icmp_ge (tgt := 201) hx hb dX5_copied_145 (by decide) (fun c_137 => ?_) (fun c_137 => absurd (Int32.le_trans hw_135 (show (6 : Int32) ≤ nI i by rw [show i = 6 by omega]; decide)) c_137)
          refine lv_aload_n hx hb dX5_copied_201 rfl (lv_at hl 0 rfl) ?_
          refine va_get (D := gD G) (ci := 5) (v := .ref (ga G 2)) (C := RX5) (T := TX5) (N := 15) hx hb htu cu_in5 hown hK hP 4 cw_4 rfl 1 (by decide) (htu _ C_45) (fun _ h9 => h9) rfl dX5_copied_202 ?_
          refine lv_iload hx hb dX5_copied_205 (lv_at hl 4 rfl) ?_
          have hC0 := hC
          refine c_ci (c_runV (As := [.int (nI Y)]) (rest := []) (q0 := 2) (ci := 4) ⟨hx, hb, hml, hown, htu⟩ (y_addRecord l G S1 T1 V1 V1 X1 (Y + i) Z Y hC hp1.1 ((by omega)) ((by omega)) ((by omega)) H) (cwV 1 htu hU_X5_165 rfl rfl rfl (by decide +kernel) ⟨show 4 + 1 ≤ (fu + 1) + 4 by omega, show 8 + (6 + 11) + 128 ≤ 42 * (fu + 1) + 140 by omega⟩) hP hK hD hC hpp cw_2 rfl rfl hl.1 rfl (lv_room (Nat.le_of_ble_eq_true rfl)) dX5_copied_207) hS hD hh hpp (fun r_138 S_139 H locs hw_140 hP hD hS hC hh hs_141 hpp => ?_)
          try dsimp only at hw_140
          have aw_142 : AW [6, 7, 8, 9, 16, 10, 11, 12, 13] [] S1 S_139 := hw_140.1
          have aw_142t : AW [6, 7, 8, 9, 16, 14, 10, 11, 12, 13, 25, 26, 35] [] S S_139 := hAW.tr (aw_142.mono (by decide) (by decide))
          have kk_143 : kK S_139 15 = 0 := (aw_142.2.1 15 (lt35 (by decide)) (by decide)).2.trans x15
          have ii_144 : S_139.1 9 = S.1 9 := (aw_142.1 9 (by decide)).trans x9
          have ii_145 : S_139.1 10 = S.1 10 := (aw_142.1 10 (by decide)).trans x10
          rcases hw_140.2 with ⟨ty_146v, ty_146s⟩ | ⟨ty_146v, ty_146t, ty_146, ty_146o⟩
          · skip
            subst ty_146v
            exact c_iret (v := (-6)) hx hb hr hK hP hD hS hC hh hpp ⟨aw_142t, ⟨T1, V1, X1, Y + i, (by rw [ty_146s]; exact hp1), by omega, by omega, fun h => absurd (by decide) h⟩⟩ dX5_copied_210 hlocks
          · skip
            subst ty_146v
            exact c_iret (v := nI T1) hx hb hr hK hP hD hS hC hh hpp ⟨aw_142t, ⟨_, _, _, _, hp1.step ty_146 (Nat.le_succ _) ty_146o (aw_142.bnd (by decide) yB), Nat.le_refl _, Nat.le_add_right _ _, fun _ => rfl⟩⟩ dX5_copied_210 hlocks
        · intro j ih9 H locs k sl g hI
          obtain ⟨S1, T1, V1, X1, i, ls, hC, hh, hpp, hAW, hp0, hp1, rfl, rfl, hP, hD, hS, hl, rfl⟩ := hI
          have x15 : kK S1 15 = 0 := (hAW.2.1 15 (lt35 (by decide)) (by decide)).2.trans h15
          have x9 : S1.1 9 = S.1 9 := hAW.1 9 (by decide)
          have x10 : S1.1 10 = S.1 10 := hAW.1 10 (by decide)
          obtain ⟨yT, yV, yB, yX⟩ := hp1.1.2.1
          have yt1 := hp1.2.1
          have i5 : i ≤ 5 := by omega
          refine lv_iload hx hb dX5_copied_141 (lv_at hl 6 rfl) ?_
          refine lv_iload hx hb dX5_copied_143 (lv_at hl 5 rfl) ?_
          refine lv_icmp_ge (tgt := 201) hx hb dX5_copied_145 (by decide) (fun c_147 => ?_) (fun c_147 => ?_)
          · skip
            refine lv_aload_n hx hb dX5_copied_201 rfl (lv_at hl 0 rfl) ?_
            refine va_get (D := gD G) (ci := 5) (v := .ref (ga G 2)) (C := RX5) (T := TX5) (N := 15) hx hb htu cu_in5 hown hK hP 4 cw_4 rfl 1 (by decide) (htu _ C_45) (fun _ h9 => h9) rfl dX5_copied_202 ?_
            refine lv_iload hx hb dX5_copied_205 (lv_at hl 4 rfl) ?_
            have hC0 := hC
            refine c_ci (c_runV (As := [.int (nI Y)]) (rest := []) (q0 := 2) (ci := 4) ⟨hx, hb, hml, hown, htu⟩ (y_addRecord l G S1 T1 V1 V1 X1 (Y + i) Z Y hC hp1.1 ((by omega)) ((by omega)) ((by omega)) H) (cwV 1 htu hU_X5_165 rfl rfl rfl (by decide +kernel) ⟨show 4 + 1 ≤ (fu + 1) + 4 by omega, show 8 + (6 + 11) + 128 ≤ 42 * (fu + 1) + 140 by omega⟩) hP hK hD hC hpp cw_2 rfl rfl hl.1 rfl (lv_room (Nat.le_of_ble_eq_true rfl)) dX5_copied_207) hS hD hh hpp (fun r_148 S_149 H locs hw_150 hP hD hS hC hh hs_151 hpp => ?_)
            try dsimp only at hw_150
            have aw_152 : AW [6, 7, 8, 9, 16, 10, 11, 12, 13] [] S1 S_149 := hw_150.1
            have aw_152t : AW [6, 7, 8, 9, 16, 14, 10, 11, 12, 13, 25, 26, 35] [] S S_149 := hAW.tr (aw_152.mono (by decide) (by decide))
            have kk_153 : kK S_149 15 = 0 := (aw_152.2.1 15 (lt35 (by decide)) (by decide)).2.trans x15
            have ii_154 : S_149.1 9 = S.1 9 := (aw_152.1 9 (by decide)).trans x9
            have ii_155 : S_149.1 10 = S.1 10 := (aw_152.1 10 (by decide)).trans x10
            rcases hw_150.2 with ⟨ty_156v, ty_156s⟩ | ⟨ty_156v, ty_156t, ty_156, ty_156o⟩
            · skip
              subst ty_156v
              exact c_iret (v := (-6)) hx hb hr hK hP hD hS hC hh hpp ⟨aw_152t, ⟨T1, V1, X1, Y + i, (by rw [ty_156s]; exact hp1), by omega, by omega, fun h => absurd (by decide) h⟩⟩ dX5_copied_210 hlocks
            · skip
              subst ty_156v
              exact c_iret (v := nI T1) hx hb hr hK hP hD hS hC hh hpp ⟨aw_152t, ⟨_, _, _, _, hp1.step ty_156 (Nat.le_succ _) ty_156o (aw_152.bnd (by decide) yB), Nat.le_refl _, Nat.le_add_right _ _, fun _ => rfl⟩⟩ dX5_copied_210 hlocks
          · skip
            refine lv_aload_n hx hb dX5_copied_148 rfl (lv_at hl 0 rfl) ?_
            refine lv_aload_n hx hb dX5_copied_149 rfl (lv_at hl 0 rfl) ?_
            refine va_get (D := gD G) (ci := 5) (v := .ref (ga G 2)) (C := RX5) (T := TX5) (N := 15) hx hb htu cu_in5 hown hK hP 4 cw_4 rfl 1 (by decide) (htu _ C_45) (fun _ h9 => h9) rfl dX5_copied_150 ?_
            refine lv_iload_n hx hb dX5_copied_153 rfl (lv_at hl 1 rfl) ?_
            refine lv_iload hx hb dX5_copied_154 (lv_at hl 6 rfl) ?_
            have hC0 := hC
            refine c_ci (c_runV (As := [.int t, .int (nI i)]) (rest := [.ref (ga G 4)]) (q0 := 2) (ci := 4) ⟨hx, hb, hml, hown, htu⟩ (y_partAt l G S1 t (nI i) hC  H) (cwV 2 htu hU_X5_193 rfl rfl rfl (by decide +kernel) ⟨show 1 + 1 ≤ (fu + 1) + 4 by omega, show 8 + (3 + 11) + 21 ≤ 42 * (fu + 1) + 140 by omega⟩) hP hK hD hC hpp cw_2 rfl rfl hl.1 rfl (lv_room (Nat.le_of_ble_eq_true rfl)) dX5_copied_156) hS hD hh hpp (fun r_157 S_158 H locs hw_159 hP hD hS hC hh hs_160 hpp => ?_)
            obtain ⟨-, hu9⟩ := hw_159
            have hu9 := hu9.symm
            subst hu9
            refine lv_iload_n hx hb dX5_copied_159 rfl (lv_at hl 2 rfl) ?_
            refine lv_iload_n hx hb dX5_copied_160 rfl (lv_at hl 3 rfl) ?_
            refine lv_iconst (v := 1) hx hb dX5_copied_161 (by decide) ?_
            refine lv_iadd hx hb dX5_copied_162 ?_
            refine m_top (y := nI (dp + 1)) (nI_1 dp) ?_
            have hC0 := hC
            refine c_ci (c_runV (As := [.int r_157, .int 0, .int (nI (dp + 1))]) (rest := []) (q0 := 4) (ci := 5) ⟨hx, hb, hml, hown, htu⟩ (ih l G S1 T1 V1 X1 (Y + i) Z K 1 (dp + 1) 0 r_157 hC hp1.1 hp1.2.2.2.2.2 hKK x15 ((Or.inr ⟨by decide, rfl⟩)) ((by decide)) ((by omega)) ((by omega)) ((by rw [x10]; exact hlev)) ((fun _ => by rw [x9]; exact hab (by decide))) H) (cwV 3 htu hU_X5_131 rfl rfl rfl (by decide +kernel) ⟨show (fu + 4) + 1 ≤ (fu + 1) + 4 by omega, show 8 + (12 + 11) + (42 * fu + 140) ≤ 42 * (fu + 1) + 140 by omega⟩) hP hK hD hC hpp cw_4 rfl rfl hl.1 rfl (lv_room (Nat.le_of_ble_eq_true rfl)) dX5_copied_163) hS hD hh hpp (fun r_161 S_162 H locs hw_163 hP hD hS hC hh hs_164 hpp => ?_)
            try dsimp only at hw_163
            have aw_165 : AW [6, 7, 8, 9, 16, 14, 10, 11, 12, 13, 25, 26, 35] [] S1 S_162 := hw_163.1
            have aw_165t : AW [6, 7, 8, 9, 16, 14, 10, 11, 12, 13, 25, 26, 35] [] S S_162 := hAW.tr (aw_165.mono (by decide) (by decide))
            have kk_166 : kK S_162 15 = 0 := (aw_165.2.1 15 (lt35 (by decide)) (by decide)).2.trans x15
            have ii_167 : S_162.1 9 = S.1 9 := (aw_165.1 9 (by decide)).trans x9
            have ii_168 : S_162.1 10 = S.1 10 := (aw_165.1 10 (by decide)).trans x10
            obtain ⟨cx_169T, cx_169V, cx_169X, cx_169Y, cx_169R, cx_169a, cx_169b, cx_169c⟩ := hw_163.2
            have cx_169h := hp1.tr cx_169R
            obtain ⟨-, cx_169t1, cx_169t2, -⟩ := id cx_169R
            obtain ⟨cx_169u1, cx_169u2, cx_169u3, cx_169u4⟩ := cx_169R.1.2.1
            refine lv_istore (lv' := [(8, .int r_161), (0, .ref (ga G 4)), (1, .int t), (2, .int 0), (3, .int (nI dp)), (5, .int (nI Y)), (6, .int r_133), (7, .int (nI i))]) hx hb dX5_copied_166 hl (by decide) rfl (fun ls hl => ?_)
            refine lv_iload hx hb dX5_copied_168 (lv_at hl 0 rfl) ?_
            refine lv_if_ge (tgt := 176) hx hb dX5_copied_170 (by decide) (fun c_170 => ?_) (fun c_170 => ?_)
            · skip
              have cx_169e : cx_169Y = Y + i := cx_169c (Int32.not_lt.mpr c_170)
              rw [cx_169e] at cx_169h
              refine lv_aload_n hx hb dX5_copied_176 rfl (lv_at hl 1 rfl) ?_
              refine va_get (D := gD G) (ci := 5) (v := .ref (ga G 2)) (C := RX5) (T := TX5) (N := 15) hx hb htu cu_in5 hown hK hP 4 cw_4 rfl 1 (by decide) (htu _ C_45) (fun _ h9 => h9) rfl dX5_copied_177 ?_
              refine lv_aload_n hx hb dX5_copied_180 rfl (lv_at hl 1 rfl) ?_
              refine va_get (D := gD G) (ci := 5) (v := .ref (ga G 2)) (C := RX5) (T := TX5) (N := 15) hx hb htu cu_in5 hown hK hP 4 cw_4 rfl 1 (by decide) (htu _ C_45) (fun _ h9 => h9) rfl dX5_copied_181 ?_
              refine lv_iload_n hx hb dX5_copied_184 rfl (lv_at hl 2 rfl) ?_
              refine lv_iload hx hb dX5_copied_185 (lv_at hl 7 rfl) ?_
              have hC0 := hC
              refine c_ci (c_runV (As := [.int t, .int (nI i)]) (rest := [.ref (ga G 2)]) (q0 := 2) (ci := 4) ⟨hx, hb, hml, hown, htu⟩ (y_labelAt l G S_162 t (nI i) hC  H) (cwV 2 htu hU_X5_187 rfl rfl rfl (by decide +kernel) ⟨show 1 + 1 ≤ (fu + 1) + 4 by omega, show 8 + (3 + 11) + 21 ≤ 42 * (fu + 1) + 140 by omega⟩) hP hK hD hC hpp cw_2 rfl rfl hl.1 rfl (lv_room (Nat.le_of_ble_eq_true rfl)) dX5_copied_187) hS hD hh hpp (fun r_171 S_172 H locs hw_173 hP hD hS hC hh hs_174 hpp => ?_)
              obtain ⟨-, hu9⟩ := hw_173
              have hu9 := hu9.symm
              subst hu9
              refine lv_iload hx hb dX5_copied_190 (lv_at hl 0 rfl) ?_
              have hC0 := hC
              refine c_cv (c_runV (As := [.int r_171, .int r_161]) (rest := []) (q0 := 2) (ci := 4) ⟨hx, hb, hml, hown, htu⟩ (y_stage l G S_162 cx_169T cx_169V cx_169V cx_169X (Y + i) Z r_171 r_161 hC cx_169h.1 ((by omega)) H) (cwV 2 htu hU_X5_162 rfl rfl rfl (by decide +kernel) ⟨show 3 + 1 ≤ (fu + 1) + 4 by omega, show 8 + (3 + 11) + 103 ≤ 42 * (fu + 1) + 140 by omega⟩) hP hK hD hC hpp cw_2 rfl rfl hl.1 rfl (lv_room (Nat.le_of_ble_eq_true rfl)) dX5_copied_192) hS hD hh hpp (fun S_176 H locs hw_177 hP hD hS hC hh hs_178 hpp => ?_)
              try dsimp only at hw_177
              have aw_179 : AW [12, 13] [] S_162 S_176 := hw_177.1
              have aw_179t : AW [6, 7, 8, 9, 16, 14, 10, 11, 12, 13, 25, 26, 35] [] S S_176 := aw_165t.tr (aw_179.mono (by decide) (by decide))
              have kk_180 : kK S_176 15 = 0 := (aw_179.2.1 15 (lt35 (by decide)) (by decide)).2.trans kk_166
              have ii_181 : S_176.1 9 = S.1 9 := (aw_179.1 9 (by decide)).trans ii_167
              have ii_182 : S_176.1 10 = S.1 10 := (aw_179.1 10 (by decide)).trans ii_168
              have ty_183 := hw_177.2
              have cs_184 := cx_169h.step ty_183 (Nat.le_refl _) (OC.aw aw_179 (by decide)) (aw_179.bnd (by decide) cx_169u3)
              refine lv_iinc (v := nI (i + 1)) (lv' := [(7, .int (nI (i + 1))), (8, .int r_161), (0, .ref (ga G 4)), (1, .int t), (2, .int 0), (3, .int (nI dp)), (5, .int (nI Y)), (6, .int r_133)]) hx hb dX5_copied_195 hl (k := 7) rfl (nI_1 i) (by decide) rfl (fun ls hl => ?_)
              refine lv_goto (tgt := 141) hx hb dX5_copied_198 (by decide) ?_
              exact ih9 _ _ _ _ _ ⟨S_176, cx_169T, cx_169V, cx_169X, i + 1, ls, hC, hh, hpp, aw_179t, by omega, cs_184, rfl, rfl, hP, hD, hS, lv_sub hl [2, 3, 4, 5, 6, 7, 0] rfl, rfl⟩
            · skip
              refine lv_iload hx hb dX5_copied_173 (lv_at hl 0 rfl) ?_
              exact c_iret (v := r_161) hx hb hr hK hP hD hS hC hh hpp ⟨aw_165t, ⟨cx_169T, cx_169V, cx_169X, cx_169Y, cx_169h, by omega, by omega, fun h => absurd (Int32.not_le.mp c_170) h⟩⟩ dX5_copied_175 hlocks
    · skip
      refine lv_aload_n hx hb dX5_copied_42 rfl (lv_at hl 1 rfl) ?_
      refine lv_aload_n hx hb dX5_copied_43 rfl (lv_at hl 1 rfl) ?_
      refine va_get (D := gD G) (ci := 5) (v := .ref (ga G 2)) (C := RX5) (T := TX5) (N := 15) hx hb htu cu_in5 hown hK hP 4 cw_4 rfl 1 (by decide) (htu _ C_45) (fun _ h9 => h9) rfl dX5_copied_44 ?_
      refine lv_iload_n hx hb dX5_copied_47 rfl (lv_at hl 2 rfl) ?_
      have hC0 := hC
      refine c_ci (c_runV (As := [.int t]) (rest := [.ref (ga G 4)]) (q0 := 2) (ci := 4) ⟨hx, hb, hml, hown, htu⟩ (y_firstOf l G S t hC  H) (cwV 1 htu hU_X5_178 rfl rfl rfl (by decide +kernel) ⟨show 1 + 1 ≤ (fu + 1) + 4 by omega, show 8 + (2 + 11) + 21 ≤ 42 * (fu + 1) + 140 by omega⟩) hP hK hD hC hpp cw_2 rfl rfl hl.1 rfl (lv_room (Nat.le_of_ble_eq_true rfl)) dX5_copied_48) hS hD hh hpp (fun r_185 S_186 H locs hw_187 hP hD hS hC hh hs_188 hpp => ?_)
      obtain ⟨-, hu9, hw_187⟩ := hw_187
      have hu9 := hu9.symm
      subst hu9
      refine lv_iload_n hx hb dX5_copied_51 rfl (lv_at hl 3 rfl) ?_
      have hC0 := hC
      refine c_ci (c_runS (As := [.int 0]) (rest := [.int r_185, .ref (ga G 4)]) ⟨hx, hb, hml, hown, htu⟩ (g_otherWay l G S 0 hC  H) (va_cwS 1 htu hU_X5_221 rfl rfl rfl (by decide +kernel) ⟨show 0 + 1 ≤ (fu + 1) + 4 by omega, show 8 + (1 + 11) + 0 ≤ 42 * (fu + 1) + 140 by omega⟩) hP hK hD hC hpp rfl hl.1 rfl (lv_room (Nat.le_of_ble_eq_true rfl)) dX5_copied_52) hS hD hh hpp (fun r_189 S_190 H locs hw_191 hP hD hS hC hh hs_192 hpp => ?_)
      obtain ⟨-, hu9, hw_191⟩ := hw_191
      have hu9 := hu9.symm
      subst hu9
      obtain rfl : r_189 = 1 := hw_191.trans (by decide)
      refine lv_iload_n hx hb dX5_copied_55 rfl (lv_at hl 4 rfl) ?_
      refine lv_iconst (v := 1) hx hb dX5_copied_56 (by decide) ?_
      refine lv_iadd hx hb dX5_copied_57 ?_
      refine m_top (y := nI (dp + 1)) (nI_1 dp) ?_
      have hC0 := hC
      refine c_ci (c_runV (As := [.int r_185, .int 1, .int (nI (dp + 1))]) (rest := []) (q0 := 4) (ci := 5) ⟨hx, hb, hml, hown, htu⟩ (ih l G S T V X Y Z K 1 (dp + 1) 1 r_185 hC cr0.1 cr0.2.2.2.2.2 hKK h15 ((Or.inr ⟨by decide, rfl⟩)) ((by decide)) ((by omega)) ((by omega)) hlev ((fun _ => hab (by decide))) H) (cwV 3 htu hU_X5_131 rfl rfl rfl (by decide +kernel) ⟨show (fu + 4) + 1 ≤ (fu + 1) + 4 by omega, show 8 + (12 + 11) + (42 * fu + 140) ≤ 42 * (fu + 1) + 140 by omega⟩) hP hK hD hC hpp cw_4 rfl rfl hl.1 rfl (lv_room (Nat.le_of_ble_eq_true rfl)) dX5_copied_58) hS hD hh hpp (fun r_193 S_194 H locs hw_195 hP hD hS hC hh hs_196 hpp => ?_)
      try dsimp only at hw_195
      have aw_197 : AW [6, 7, 8, 9, 16, 14, 10, 11, 12, 13, 25, 26, 35] [] S S_194 := hw_195.1
      have aw_197t : AW [6, 7, 8, 9, 16, 14, 10, 11, 12, 13, 25, 26, 35] [] S S_194 := AW.rf.tr (aw_197.mono (by decide) (by decide))
      have kk_198 : kK S_194 15 = 0 := (aw_197.2.1 15 (lt35 (by decide)) (by decide)).2.trans h15
      have ii_199 : S_194.1 9 = S.1 9 := (aw_197.1 9 (by decide)).trans rfl
      have ii_200 : S_194.1 10 = S.1 10 := (aw_197.1 10 (by decide)).trans rfl
      obtain ⟨cx_201T, cx_201V, cx_201X, cx_201Y, cx_201R, cx_201a, cx_201b, cx_201c⟩ := hw_195.2
      have cx_201h := cr0.tr cx_201R
      obtain ⟨-, cx_201t1, cx_201t2, -⟩ := id cx_201R
      obtain ⟨cx_201u1, cx_201u2, cx_201u3, cx_201u4⟩ := cx_201R.1.2.1
      refine lv_istore (lv' := [(5, .int r_193), (4, .int r_7), (0, .ref (ga G 4)), (1, .int t), (2, .int 0), (3, .int (nI dp))]) hx hb dX5_copied_61 hl (by decide) rfl (fun ls hl => ?_)
      refine lv_iload hx hb dX5_copied_63 (lv_at hl 0 rfl) ?_
      refine lv_if_ge (tgt := 73) hx hb dX5_copied_65 (by decide) (fun c_202 => ?_) (fun c_202 => ?_)
      · skip
        have cx_201e : cx_201Y = Y := cx_201c (Int32.not_lt.mpr c_202)
        rw [cx_201e] at cx_201h
        refine lv_aload_n hx hb dX5_copied_73 rfl (lv_at hl 2 rfl) ?_
        refine lv_aload_n hx hb dX5_copied_74 rfl (lv_at hl 2 rfl) ?_
        refine va_get (D := gD G) (ci := 5) (v := .ref (ga G 2)) (C := RX5) (T := TX5) (N := 15) hx hb htu cu_in5 hown hK hP 4 cw_4 rfl 1 (by decide) (htu _ C_45) (fun _ h9 => h9) rfl dX5_copied_75 ?_
        refine lv_iload_n hx hb dX5_copied_78 rfl (lv_at hl 3 rfl) ?_
        have hC0 := hC
        refine c_ci (c_runV (As := [.int t]) (rest := [.ref (ga G 4)]) (q0 := 2) (ci := 4) ⟨hx, hb, hml, hown, htu⟩ (y_secondOf l G S_194 t hC  H) (cwV 1 htu hU_X5_181 rfl rfl rfl (by decide +kernel) ⟨show 1 + 1 ≤ (fu + 1) + 4 by omega, show 8 + (2 + 11) + 21 ≤ 42 * (fu + 1) + 140 by omega⟩) hP hK hD hC hpp cw_2 rfl rfl hl.1 rfl (lv_room (Nat.le_of_ble_eq_true rfl)) dX5_copied_79) hS hD hh hpp (fun r_203 S_204 H locs hw_205 hP hD hS hC hh hs_206 hpp => ?_)
        obtain ⟨-, hu9, hw_205⟩ := hw_205
        have hu9 := hu9.symm
        subst hu9
        refine lv_iload_n hx hb dX5_copied_82 rfl (lv_at hl 4 rfl) ?_
        refine lv_iload_n hx hb dX5_copied_83 rfl (lv_at hl 5 rfl) ?_
        refine lv_iconst (v := 1) hx hb dX5_copied_84 (by decide) ?_
        refine lv_iadd hx hb dX5_copied_85 ?_
        refine m_top (y := nI (dp + 1)) (nI_1 dp) ?_
        have hC0 := hC
        refine c_ci (c_runV (As := [.int r_203, .int 0, .int (nI (dp + 1))]) (rest := []) (q0 := 4) (ci := 5) ⟨hx, hb, hml, hown, htu⟩ (ih l G S_194 cx_201T cx_201V cx_201X Y Z K 1 (dp + 1) 0 r_203 hC cx_201h.1 cx_201h.2.2.2.2.2 hKK kk_198 ((Or.inr ⟨by decide, rfl⟩)) ((by decide)) ((by omega)) ((by omega)) ((by rw [ii_200]; exact hlev)) ((fun _ => by rw [ii_199]; exact hab (by decide))) H) (cwV 3 htu hU_X5_131 rfl rfl rfl (by decide +kernel) ⟨show (fu + 4) + 1 ≤ (fu + 1) + 4 by omega, show 8 + (12 + 11) + (42 * fu + 140) ≤ 42 * (fu + 1) + 140 by omega⟩) hP hK hD hC hpp cw_4 rfl rfl hl.1 rfl (lv_room (Nat.le_of_ble_eq_true rfl)) dX5_copied_86) hS hD hh hpp (fun r_207 S_208 H locs hw_209 hP hD hS hC hh hs_210 hpp => ?_)
        try dsimp only at hw_209
        have aw_211 : AW [6, 7, 8, 9, 16, 14, 10, 11, 12, 13, 25, 26, 35] [] S_194 S_208 := hw_209.1
        have aw_211t : AW [6, 7, 8, 9, 16, 14, 10, 11, 12, 13, 25, 26, 35] [] S S_208 := aw_197t.tr (aw_211.mono (by decide) (by decide))
        have kk_212 : kK S_208 15 = 0 := (aw_211.2.1 15 (lt35 (by decide)) (by decide)).2.trans kk_198
        have ii_213 : S_208.1 9 = S.1 9 := (aw_211.1 9 (by decide)).trans ii_199
        have ii_214 : S_208.1 10 = S.1 10 := (aw_211.1 10 (by decide)).trans ii_200
        obtain ⟨cx_215T, cx_215V, cx_215X, cx_215Y, cx_215R, cx_215a, cx_215b, cx_215c⟩ := hw_209.2
        have cx_215h := cx_201h.tr cx_215R
        obtain ⟨-, cx_215t1, cx_215t2, -⟩ := id cx_215R
        obtain ⟨cx_215u1, cx_215u2, cx_215u3, cx_215u4⟩ := cx_215R.1.2.1
        refine lv_istore (lv' := [(6, .int r_207), (5, .int r_193), (4, .int r_7), (0, .ref (ga G 4)), (1, .int t), (2, .int 0), (3, .int (nI dp))]) hx hb dX5_copied_89 hl (by decide) rfl (fun ls hl => ?_)
        refine lv_iload hx hb dX5_copied_91 (lv_at hl 0 rfl) ?_
        refine lv_if_ge (tgt := 101) hx hb dX5_copied_93 (by decide) (fun c_216 => ?_) (fun c_216 => ?_)
        · skip
          have cx_215e : cx_215Y = Y := cx_215c (Int32.not_lt.mpr c_216)
          rw [cx_215e] at cx_215h
          refine lv_aload_n hx hb dX5_copied_101 rfl (lv_at hl 3 rfl) ?_
          refine va_get (D := gD G) (ci := 5) (v := .ref (ga G 2)) (C := RX5) (T := TX5) (N := 15) hx hb htu cu_in5 hown hK hP 4 cw_4 rfl 1 (by decide) (htu _ C_45) (fun _ h9 => h9) rfl dX5_copied_102 ?_
          refine lv_iload hx hb dX5_copied_105 (lv_at hl 1 rfl) ?_
          refine lv_iload hx hb dX5_copied_107 (lv_at hl 0 rfl) ?_
          have hC0 := hC
          refine c_ci (c_runV (As := [.int r_193, .int r_207]) (rest := []) (q0 := 2) (ci := 4) ⟨hx, hb, hml, hown, htu⟩ (y_addFunction l G S_208 cx_215T cx_215V cx_215V cx_215X Y Z r_193 r_207 hC cx_215h.1 H) (cwV 2 htu hU_X5_147 rfl rfl rfl (by decide +kernel) ⟨show 4 + 1 ≤ (fu + 1) + 4 by omega, show 8 + (3 + 11) + 128 ≤ 42 * (fu + 1) + 140 by omega⟩) hP hK hD hC hpp cw_2 rfl rfl hl.1 rfl (lv_room (Nat.le_of_ble_eq_true rfl)) dX5_copied_109) hS hD hh hpp (fun r_217 S_218 H locs hw_219 hP hD hS hC hh hs_220 hpp => ?_)
          try dsimp only at hw_219
          have aw_221 : AW [6, 7, 8, 9, 16] [] S_208 S_218 := hw_219.1
          have aw_221t : AW [6, 7, 8, 9, 16, 14, 10, 11, 12, 13, 25, 26, 35] [] S S_218 := aw_211t.tr (aw_221.mono (by decide) (by decide))
          have kk_222 : kK S_218 15 = 0 := (aw_221.2.1 15 (lt35 (by decide)) (by decide)).2.trans kk_212
          have ii_223 : S_218.1 9 = S.1 9 := (aw_221.1 9 (by decide)).trans ii_213
          have ii_224 : S_218.1 10 = S.1 10 := (aw_221.1 10 (by decide)).trans ii_214
          rcases hw_219.2 with ⟨ty_225v, ty_225s⟩ | ⟨ty_225v, ty_225t, ty_225, ty_225o⟩
          · skip
            subst ty_225v
            exact c_iret (v := (-6)) hx hb hr hK hP hD hS hC hh hpp ⟨aw_221t, ⟨cx_215T, cx_215V, cx_215X, Y, (by rw [ty_225s]; exact cx_215h), by omega, by omega, fun h => absurd (by decide) h⟩⟩ dX5_copied_112 hlocks
          · skip
            subst ty_225v
            exact c_iret (v := nI cx_215T) hx hb hr hK hP hD hS hC hh hpp ⟨aw_221t, ⟨_, _, _, _, cx_215h.step ty_225 (Nat.le_succ _) ty_225o (aw_221.bnd (by decide) cx_215h.1.2.1.2.2.1), Nat.le_refl _, Nat.le_add_right _ _, fun _ => rfl⟩⟩ dX5_copied_112 hlocks
        · skip
          refine lv_iload hx hb dX5_copied_96 (lv_at hl 0 rfl) ?_
          refine lv_goto (tgt := 112) hx hb dX5_copied_98 (by decide) ?_
          exact c_iret (v := r_207) hx hb hr hK hP hD hS hC hh hpp ⟨aw_211t, ⟨cx_215T, cx_215V, cx_215X, cx_215Y, cx_215h, by omega, by omega, fun h => absurd (Int32.not_le.mp c_216) h⟩⟩ dX5_copied_112 hlocks
      · skip
        refine lv_iload hx hb dX5_copied_68 (lv_at hl 0 rfl) ?_
        refine lv_goto (tgt := 89) hx hb dX5_copied_70 (by decide) ?_
        refine lv_istore (lv' := [(6, .int r_193), (5, .int r_193), (4, .int r_7), (0, .ref (ga G 4)), (1, .int t), (2, .int 0), (3, .int (nI dp))]) hx hb dX5_copied_89 hl (by decide) rfl (fun ls hl => ?_)
        refine lv_iload hx hb dX5_copied_91 (lv_at hl 0 rfl) ?_
        refine lv_if_ge (tgt := 101) hx hb dX5_copied_93 (by decide) (fun c_226 => absurd c_226 c_202) (fun c_226 => ?_)
        refine lv_iload hx hb dX5_copied_96 (lv_at hl 0 rfl) ?_
        refine lv_goto (tgt := 112) hx hb dX5_copied_98 (by decide) ?_
        exact c_iret (v := r_193) hx hb hr hK hP hD hS hC hh hpp ⟨aw_197t, ⟨cx_201T, cx_201V, cx_201X, cx_201Y, cx_201h, by omega, by omega, fun h => absurd (Int32.not_le.mp c_202) h⟩⟩ dX5_copied_112 hlocks
  · skip
    refine lv_iload_n hx hb dX5_copied_24 rfl (lv_at hl 1 rfl) ?_
    exact c_iret (v := t) hx hb hr hK hP hD hS hC hh hpp ⟨AW.rf, ⟨T, V, X, Y, cr0, by omega, by omega, fun _ => by omega⟩⟩ dX5_copied_25 hlocks


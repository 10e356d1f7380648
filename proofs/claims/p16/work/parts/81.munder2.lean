theorem dX8_asks_0 : decode cX8_asks 0 = .ok (.aload_n 0, 1) := by decide +kernel
theorem dX8_asks_1 : decode cX8_asks 1 = .ok (.getfield 28, 3) := by decide +kernel
theorem dX8_asks_4 : decode cX8_asks 4 = .ok (.iload_n 1, 1) := by decide +kernel
theorem dX8_asks_5 : decode cX8_asks 5 = .ok (.iaload, 1) := by decide +kernel
theorem dX8_asks_6 : decode cX8_asks 6 = .ok (.istore_n 3, 1) := by decide +kernel
theorem dX8_asks_7 : decode cX8_asks 7 = .ok (.aload_n 0, 1) := by decide +kernel
theorem dX8_asks_8 : decode cX8_asks 8 = .ok (.getfield 28, 3) := by decide +kernel
theorem dX8_asks_11 : decode cX8_asks 11 = .ok (.iload_n 2, 1) := by decide +kernel
theorem dX8_asks_12 : decode cX8_asks 12 = .ok (.iaload, 1) := by decide +kernel
theorem dX8_asks_13 : decode cX8_asks 13 = .ok (.istore 4, 2) := by decide +kernel
theorem dX8_asks_15 : decode cX8_asks 15 = .ok (.iload_n 3, 1) := by decide +kernel
theorem dX8_asks_16 : decode cX8_asks 16 = .ok (.ifCond .ne 9, 3) := by decide +kernel
theorem dX8_asks_25 : decode cX8_asks 25 = .ok (.iload_n 3, 1) := by decide +kernel
theorem dX8_asks_26 : decode cX8_asks 26 = .ok (.iconst 1, 1) := by decide +kernel
theorem dX8_asks_27 : decode cX8_asks 27 = .ok (.if_icmp .ne 44, 3) := by decide +kernel
theorem dX8_asks_71 : decode cX8_asks 71 = .ok (.iload_n 3, 1) := by decide +kernel
theorem dX8_asks_72 : decode cX8_asks 72 = .ok (.iconst 2, 1) := by decide +kernel
theorem dX8_asks_73 : decode cX8_asks 73 = .ok (.if_icmp .ne 106, 3) := by decide +kernel
theorem dX8_asks_179 : decode cX8_asks 179 = .ok (.iload_n 3, 1) := by decide +kernel
theorem dX8_asks_180 : decode cX8_asks 180 = .ok (.iconst 3, 1) := by decide +kernel
theorem dX8_asks_181 : decode cX8_asks 181 = .ok (.if_icmp .ne 102, 3) := by decide +kernel
theorem dX8_asks_283 : decode cX8_asks 283 = .ok (.iload 4, 2) := by decide +kernel
theorem dX8_asks_285 : decode cX8_asks 285 = .ok (.iconst 3, 1) := by decide +kernel
theorem dX8_asks_286 : decode cX8_asks 286 = .ok (.if_icmp .ne 106, 3) := by decide +kernel
theorem dX8_asks_392 : decode cX8_asks 392 = .ok (.iload_n 3, 1) := by decide +kernel
theorem dX8_asks_393 : decode cX8_asks 393 = .ok (.iconst 3, 1) := by decide +kernel
theorem dX8_asks_394 : decode cX8_asks 394 = .ok (.if_icmp .ne 27, 3) := by decide +kernel
theorem dX8_asks_421 : decode cX8_asks 421 = .ok (.iload 4, 2) := by decide +kernel
theorem dX8_asks_423 : decode cX8_asks 423 = .ok (.iconst 3, 1) := by decide +kernel
theorem dX8_asks_424 : decode cX8_asks 424 = .ok (.if_icmp .ne 27, 3) := by decide +kernel
theorem dX8_asks_451 : decode cX8_asks 451 = .ok (.aload_n 0, 1) := by decide +kernel
theorem dX8_asks_452 : decode cX8_asks 452 = .ok (.bipush (-7), 2) := by decide +kernel
theorem dX8_asks_454 : decode cX8_asks 454 = .ok (.aload_n 0, 1) := by decide +kernel
theorem dX8_asks_455 : decode cX8_asks 455 = .ok (.getfield 202, 3) := by decide +kernel
theorem dX8_asks_458 : decode cX8_asks 458 = .ok (.invokevirtual 205, 3) := by decide +kernel
theorem dX8_asks_461 : decode cX8_asks 461 = .ok (.return_, 1) := by decide +kernel
theorem dX8_asks_289 : decode cX8_asks 289 = .ok (.aload_n 0, 1) := by decide +kernel
theorem dX8_asks_290 : decode cX8_asks 290 = .ok (.getfield 31, 3) := by decide +kernel
theorem dX8_asks_293 : decode cX8_asks 293 = .ok (.iload_n 1, 1) := by decide +kernel
theorem dX8_asks_294 : decode cX8_asks 294 = .ok (.iaload, 1) := by decide +kernel
theorem dX8_asks_295 : decode cX8_asks 295 = .ok (.aload_n 0, 1) := by decide +kernel
theorem dX8_asks_296 : decode cX8_asks 296 = .ok (.getfield 31, 3) := by decide +kernel
theorem dX8_asks_299 : decode cX8_asks 299 = .ok (.iload_n 2, 1) := by decide +kernel
theorem dX8_asks_300 : decode cX8_asks 300 = .ok (.iaload, 1) := by decide +kernel
theorem dX8_asks_301 : decode cX8_asks 301 = .ok (.if_icmp .gt 91, 3) := by decide +kernel
theorem dX8_asks_427 : decode cX8_asks 427 = .ok (.aload_n 0, 1) := by decide +kernel
theorem dX8_asks_428 : decode cX8_asks 428 = .ok (.iload_n 1, 1) := by decide +kernel
theorem dX8_asks_429 : decode cX8_asks 429 = .ok (.iconst 0, 1) := by decide +kernel
theorem dX8_asks_430 : decode cX8_asks 430 = .ok (.aload_n 0, 1) := by decide +kernel
theorem dX8_asks_431 : decode cX8_asks 431 = .ok (.getfield 31, 3) := by decide +kernel
theorem dX8_asks_434 : decode cX8_asks 434 = .ok (.iload_n 2, 1) := by decide +kernel
theorem dX8_asks_435 : decode cX8_asks 435 = .ok (.iaload, 1) := by decide +kernel
theorem dX8_asks_436 : decode cX8_asks 436 = .ok (.invokevirtual 228, 3) := by decide +kernel
theorem dX8_asks_439 : decode cX8_asks 439 = .ok (.istore 5, 2) := by decide +kernel
theorem dX8_asks_441 : decode cX8_asks 441 = .ok (.aload_n 0, 1) := by decide +kernel
theorem dX8_asks_442 : decode cX8_asks 442 = .ok (.iload 5, 2) := by decide +kernel
theorem dX8_asks_444 : decode cX8_asks 444 = .ok (.iload_n 2, 1) := by decide +kernel
theorem dX8_asks_445 : decode cX8_asks 445 = .ok (.invokevirtual 218, 3) := by decide +kernel
theorem dX8_asks_448 : decode cX8_asks 448 = .ok (.goto 13, 3) := by decide +kernel
theorem dX8_asks_304 : decode cX8_asks 304 = .ok (.aload_n 0, 1) := by decide +kernel
theorem dX8_asks_305 : decode cX8_asks 305 = .ok (.iload_n 2, 1) := by decide +kernel
theorem dX8_asks_306 : decode cX8_asks 306 = .ok (.iconst 0, 1) := by decide +kernel
theorem dX8_asks_307 : decode cX8_asks 307 = .ok (.iload_n 1, 1) := by decide +kernel
theorem dX8_asks_308 : decode cX8_asks 308 = .ok (.invokevirtual 224, 3) := by decide +kernel
theorem dX8_asks_311 : decode cX8_asks 311 = .ok (.aload_n 0, 1) := by decide +kernel
theorem dX8_asks_312 : decode cX8_asks 312 = .ok (.getfield 62, 3) := by decide +kernel
theorem dX8_asks_315 : decode cX8_asks 315 = .ok (.iconst 2, 1) := by decide +kernel
theorem dX8_asks_316 : decode cX8_asks 316 = .ok (.aload_n 0, 1) := by decide +kernel
theorem dX8_asks_317 : decode cX8_asks 317 = .ok (.getfield 34, 3) := by decide +kernel
theorem dX8_asks_320 : decode cX8_asks 320 = .ok (.iload_n 2, 1) := by decide +kernel
theorem dX8_asks_321 : decode cX8_asks 321 = .ok (.iaload, 1) := by decide +kernel
theorem dX8_asks_322 : decode cX8_asks 322 = .ok (.imul, 1) := by decide +kernel
theorem dX8_asks_323 : decode cX8_asks 323 = .ok (.iconst 1, 1) := by decide +kernel
theorem dX8_asks_324 : decode cX8_asks 324 = .ok (.iadd, 1) := by decide +kernel
theorem dX8_asks_325 : decode cX8_asks 325 = .ok (.iaload, 1) := by decide +kernel
theorem dX8_asks_326 : decode cX8_asks 326 = .ok (.istore 5, 2) := by decide +kernel
theorem dX8_asks_328 : decode cX8_asks 328 = .ok (.aload_n 0, 1) := by decide +kernel
theorem dX8_asks_329 : decode cX8_asks 329 = .ok (.getfield 56, 3) := by decide +kernel
theorem dX8_asks_332 : decode cX8_asks 332 = .ok (.iconst 2, 1) := by decide +kernel
theorem dX8_asks_333 : decode cX8_asks 333 = .ok (.aload_n 0, 1) := by decide +kernel
theorem dX8_asks_334 : decode cX8_asks 334 = .ok (.getfield 34, 3) := by decide +kernel
theorem dX8_asks_337 : decode cX8_asks 337 = .ok (.iload_n 2, 1) := by decide +kernel
theorem dX8_asks_338 : decode cX8_asks 338 = .ok (.iaload, 1) := by decide +kernel
theorem dX8_asks_339 : decode cX8_asks 339 = .ok (.imul, 1) := by decide +kernel
theorem dX8_asks_340 : decode cX8_asks 340 = .ok (.iconst 1, 1) := by decide +kernel
theorem dX8_asks_341 : decode cX8_asks 341 = .ok (.iadd, 1) := by decide +kernel
theorem dX8_asks_342 : decode cX8_asks 342 = .ok (.iaload, 1) := by decide +kernel
theorem dX8_asks_343 : decode cX8_asks 343 = .ok (.istore 6, 2) := by decide +kernel
theorem dX8_asks_345 : decode cX8_asks 345 = .ok (.iconst 0, 1) := by decide +kernel
theorem dX8_asks_346 : decode cX8_asks 346 = .ok (.istore 7, 2) := by decide +kernel
theorem dX8_asks_348 : decode cX8_asks 348 = .ok (.iload 7, 2) := by decide +kernel
theorem dX8_asks_350 : decode cX8_asks 350 = .ok (.iload 5, 2) := by decide +kernel
theorem dX8_asks_352 : decode cX8_asks 352 = .ok (.if_icmp .ge 37, 3) := by decide +kernel
theorem dX8_asks_389 : decode cX8_asks 389 = .ok (.goto 72, 3) := by decide +kernel
theorem dX8_asks_355 : decode cX8_asks 355 = .ok (.aload_n 0, 1) := by decide +kernel
theorem dX8_asks_356 : decode cX8_asks 356 = .ok (.getfield 184, 3) := by decide +kernel
theorem dX8_asks_359 : decode cX8_asks 359 = .ok (.ifCond .ne 30, 3) := by decide +kernel
theorem dX8_asks_362 : decode cX8_asks 362 = .ok (.aload_n 0, 1) := by decide +kernel
theorem dX8_asks_363 : decode cX8_asks 363 = .ok (.iload_n 1, 1) := by decide +kernel
theorem dX8_asks_364 : decode cX8_asks 364 = .ok (.aload_n 0, 1) := by decide +kernel
theorem dX8_asks_365 : decode cX8_asks 365 = .ok (.getfield 50, 3) := by decide +kernel
theorem dX8_asks_368 : decode cX8_asks 368 = .ok (.iload 6, 2) := by decide +kernel
theorem dX8_asks_370 : decode cX8_asks 370 = .ok (.iaload, 1) := by decide +kernel
theorem dX8_asks_371 : decode cX8_asks 371 = .ok (.invokevirtual 218, 3) := by decide +kernel
theorem dX8_asks_374 : decode cX8_asks 374 = .ok (.aload_n 0, 1) := by decide +kernel
theorem dX8_asks_375 : decode cX8_asks 375 = .ok (.getfield 53, 3) := by decide +kernel
theorem dX8_asks_378 : decode cX8_asks 378 = .ok (.iload 6, 2) := by decide +kernel
theorem dX8_asks_380 : decode cX8_asks 380 = .ok (.iaload, 1) := by decide +kernel
theorem dX8_asks_381 : decode cX8_asks 381 = .ok (.istore 6, 2) := by decide +kernel
theorem dX8_asks_383 : decode cX8_asks 383 = .ok (.iinc 7 1, 3) := by decide +kernel
theorem dX8_asks_386 : decode cX8_asks 386 = .ok (.goto (-38), 3) := by decide +kernel
theorem dX8_asks_184 : decode cX8_asks 184 = .ok (.aload_n 0, 1) := by decide +kernel
theorem dX8_asks_185 : decode cX8_asks 185 = .ok (.getfield 31, 3) := by decide +kernel
theorem dX8_asks_188 : decode cX8_asks 188 = .ok (.iload_n 2, 1) := by decide +kernel
theorem dX8_asks_189 : decode cX8_asks 189 = .ok (.iaload, 1) := by decide +kernel
theorem dX8_asks_190 : decode cX8_asks 190 = .ok (.aload_n 0, 1) := by decide +kernel
theorem dX8_asks_191 : decode cX8_asks 191 = .ok (.getfield 31, 3) := by decide +kernel
theorem dX8_asks_194 : decode cX8_asks 194 = .ok (.iload_n 1, 1) := by decide +kernel
theorem dX8_asks_195 : decode cX8_asks 195 = .ok (.iaload, 1) := by decide +kernel
theorem dX8_asks_196 : decode cX8_asks 196 = .ok (.if_icmp .gt 87, 3) := by decide +kernel
theorem dX8_asks_397 : decode cX8_asks 397 = .ok (.aload_n 0, 1) := by decide +kernel
theorem dX8_asks_398 : decode cX8_asks 398 = .ok (.iload_n 2, 1) := by decide +kernel
theorem dX8_asks_399 : decode cX8_asks 399 = .ok (.iconst 1, 1) := by decide +kernel
theorem dX8_asks_400 : decode cX8_asks 400 = .ok (.aload_n 0, 1) := by decide +kernel
theorem dX8_asks_401 : decode cX8_asks 401 = .ok (.getfield 31, 3) := by decide +kernel
theorem dX8_asks_404 : decode cX8_asks 404 = .ok (.iload_n 1, 1) := by decide +kernel
theorem dX8_asks_405 : decode cX8_asks 405 = .ok (.iaload, 1) := by decide +kernel
theorem dX8_asks_406 : decode cX8_asks 406 = .ok (.invokevirtual 228, 3) := by decide +kernel
theorem dX8_asks_409 : decode cX8_asks 409 = .ok (.istore 5, 2) := by decide +kernel
theorem dX8_asks_411 : decode cX8_asks 411 = .ok (.aload_n 0, 1) := by decide +kernel
theorem dX8_asks_412 : decode cX8_asks 412 = .ok (.iload_n 1, 1) := by decide +kernel
theorem dX8_asks_413 : decode cX8_asks 413 = .ok (.iload 5, 2) := by decide +kernel
theorem dX8_asks_415 : decode cX8_asks 415 = .ok (.invokevirtual 218, 3) := by decide +kernel
theorem dX8_asks_418 : decode cX8_asks 418 = .ok (.goto 43, 3) := by decide +kernel
theorem dX8_asks_199 : decode cX8_asks 199 = .ok (.aload_n 0, 1) := by decide +kernel
theorem dX8_asks_200 : decode cX8_asks 200 = .ok (.iload_n 1, 1) := by decide +kernel
theorem dX8_asks_201 : decode cX8_asks 201 = .ok (.iconst 1, 1) := by decide +kernel
theorem dX8_asks_202 : decode cX8_asks 202 = .ok (.iload_n 2, 1) := by decide +kernel
theorem dX8_asks_203 : decode cX8_asks 203 = .ok (.invokevirtual 224, 3) := by decide +kernel
theorem dX8_asks_206 : decode cX8_asks 206 = .ok (.aload_n 0, 1) := by decide +kernel
theorem dX8_asks_207 : decode cX8_asks 207 = .ok (.getfield 62, 3) := by decide +kernel
theorem dX8_asks_210 : decode cX8_asks 210 = .ok (.iconst 2, 1) := by decide +kernel
theorem dX8_asks_211 : decode cX8_asks 211 = .ok (.aload_n 0, 1) := by decide +kernel
theorem dX8_asks_212 : decode cX8_asks 212 = .ok (.getfield 34, 3) := by decide +kernel
theorem dX8_asks_215 : decode cX8_asks 215 = .ok (.iload_n 1, 1) := by decide +kernel
theorem dX8_asks_216 : decode cX8_asks 216 = .ok (.iaload, 1) := by decide +kernel
theorem dX8_asks_217 : decode cX8_asks 217 = .ok (.imul, 1) := by decide +kernel
theorem dX8_asks_218 : decode cX8_asks 218 = .ok (.iaload, 1) := by decide +kernel
theorem dX8_asks_219 : decode cX8_asks 219 = .ok (.istore 5, 2) := by decide +kernel
theorem dX8_asks_221 : decode cX8_asks 221 = .ok (.aload_n 0, 1) := by decide +kernel
theorem dX8_asks_222 : decode cX8_asks 222 = .ok (.getfield 56, 3) := by decide +kernel
theorem dX8_asks_225 : decode cX8_asks 225 = .ok (.iconst 2, 1) := by decide +kernel
theorem dX8_asks_226 : decode cX8_asks 226 = .ok (.aload_n 0, 1) := by decide +kernel
theorem dX8_asks_227 : decode cX8_asks 227 = .ok (.getfield 34, 3) := by decide +kernel
theorem dX8_asks_230 : decode cX8_asks 230 = .ok (.iload_n 1, 1) := by decide +kernel
theorem dX8_asks_231 : decode cX8_asks 231 = .ok (.iaload, 1) := by decide +kernel
theorem dX8_asks_232 : decode cX8_asks 232 = .ok (.imul, 1) := by decide +kernel
theorem dX8_asks_233 : decode cX8_asks 233 = .ok (.iaload, 1) := by decide +kernel
theorem dX8_asks_234 : decode cX8_asks 234 = .ok (.istore 6, 2) := by decide +kernel
theorem dX8_asks_236 : decode cX8_asks 236 = .ok (.iconst 0, 1) := by decide +kernel
theorem dX8_asks_237 : decode cX8_asks 237 = .ok (.istore 7, 2) := by decide +kernel
theorem dX8_asks_239 : decode cX8_asks 239 = .ok (.iload 7, 2) := by decide +kernel
theorem dX8_asks_241 : decode cX8_asks 241 = .ok (.iload 5, 2) := by decide +kernel
theorem dX8_asks_243 : decode cX8_asks 243 = .ok (.if_icmp .ge 37, 3) := by decide +kernel
theorem dX8_asks_280 : decode cX8_asks 280 = .ok (.goto 181, 3) := by decide +kernel
theorem dX8_asks_246 : decode cX8_asks 246 = .ok (.aload_n 0, 1) := by decide +kernel
theorem dX8_asks_247 : decode cX8_asks 247 = .ok (.getfield 184, 3) := by decide +kernel
theorem dX8_asks_250 : decode cX8_asks 250 = .ok (.ifCond .ne 30, 3) := by decide +kernel
theorem dX8_asks_253 : decode cX8_asks 253 = .ok (.aload_n 0, 1) := by decide +kernel
theorem dX8_asks_254 : decode cX8_asks 254 = .ok (.aload_n 0, 1) := by decide +kernel
theorem dX8_asks_255 : decode cX8_asks 255 = .ok (.getfield 50, 3) := by decide +kernel
theorem dX8_asks_258 : decode cX8_asks 258 = .ok (.iload 6, 2) := by decide +kernel
theorem dX8_asks_260 : decode cX8_asks 260 = .ok (.iaload, 1) := by decide +kernel
theorem dX8_asks_261 : decode cX8_asks 261 = .ok (.iload_n 2, 1) := by decide +kernel
theorem dX8_asks_262 : decode cX8_asks 262 = .ok (.invokevirtual 218, 3) := by decide +kernel
theorem dX8_asks_265 : decode cX8_asks 265 = .ok (.aload_n 0, 1) := by decide +kernel
theorem dX8_asks_266 : decode cX8_asks 266 = .ok (.getfield 53, 3) := by decide +kernel
theorem dX8_asks_269 : decode cX8_asks 269 = .ok (.iload 6, 2) := by decide +kernel
theorem dX8_asks_271 : decode cX8_asks 271 = .ok (.iaload, 1) := by decide +kernel
theorem dX8_asks_272 : decode cX8_asks 272 = .ok (.istore 6, 2) := by decide +kernel
theorem dX8_asks_274 : decode cX8_asks 274 = .ok (.iinc 7 1, 3) := by decide +kernel
theorem dX8_asks_277 : decode cX8_asks 277 = .ok (.goto (-38), 3) := by decide +kernel
theorem dX8_asks_76 : decode cX8_asks 76 = .ok (.iload 4, 2) := by decide +kernel
theorem dX8_asks_78 : decode cX8_asks 78 = .ok (.iconst 2, 1) := by decide +kernel
theorem dX8_asks_79 : decode cX8_asks 79 = .ok (.if_icmp .ne 100, 3) := by decide +kernel
theorem dX8_asks_82 : decode cX8_asks 82 = .ok (.iconst 0, 1) := by decide +kernel
theorem dX8_asks_83 : decode cX8_asks 83 = .ok (.istore 5, 2) := by decide +kernel
theorem dX8_asks_85 : decode cX8_asks 85 = .ok (.iload 5, 2) := by decide +kernel
theorem dX8_asks_87 : decode cX8_asks 87 = .ok (.aload_n 0, 1) := by decide +kernel
theorem dX8_asks_88 : decode cX8_asks 88 = .ok (.getfield 34, 3) := by decide +kernel
theorem dX8_asks_91 : decode cX8_asks 91 = .ok (.iload_n 2, 1) := by decide +kernel
theorem dX8_asks_92 : decode cX8_asks 92 = .ok (.iaload, 1) := by decide +kernel
theorem dX8_asks_93 : decode cX8_asks 93 = .ok (.if_icmp .ge 83, 3) := by decide +kernel
theorem dX8_asks_176 : decode cX8_asks 176 = .ok (.goto 285, 3) := by decide +kernel
theorem dX8_asks_96 : decode cX8_asks 96 = .ok (.aload_n 0, 1) := by decide +kernel
theorem dX8_asks_97 : decode cX8_asks 97 = .ok (.getfield 184, 3) := by decide +kernel
theorem dX8_asks_100 : decode cX8_asks 100 = .ok (.ifCond .ne 76, 3) := by decide +kernel
theorem dX8_asks_103 : decode cX8_asks 103 = .ok (.aload_n 0, 1) := by decide +kernel
theorem dX8_asks_104 : decode cX8_asks 104 = .ok (.iload_n 1, 1) := by decide +kernel
theorem dX8_asks_105 : decode cX8_asks 105 = .ok (.aload_n 0, 1) := by decide +kernel
theorem dX8_asks_106 : decode cX8_asks 106 = .ok (.getfield 40, 3) := by decide +kernel
theorem dX8_asks_109 : decode cX8_asks 109 = .ok (.bipush 6, 2) := by decide +kernel
theorem dX8_asks_111 : decode cX8_asks 111 = .ok (.iload_n 2, 1) := by decide +kernel
theorem dX8_asks_112 : decode cX8_asks 112 = .ok (.imul, 1) := by decide +kernel
theorem dX8_asks_113 : decode cX8_asks 113 = .ok (.iload 5, 2) := by decide +kernel
theorem dX8_asks_115 : decode cX8_asks 115 = .ok (.iadd, 1) := by decide +kernel
theorem dX8_asks_116 : decode cX8_asks 116 = .ok (.iaload, 1) := by decide +kernel
theorem dX8_asks_117 : decode cX8_asks 117 = .ok (.invokevirtual 221, 3) := by decide +kernel
theorem dX8_asks_120 : decode cX8_asks 120 = .ok (.istore 6, 2) := by decide +kernel
theorem dX8_asks_122 : decode cX8_asks 122 = .ok (.iload 6, 2) := by decide +kernel
theorem dX8_asks_124 : decode cX8_asks 124 = .ok (.bipush (-9), 2) := by decide +kernel
theorem dX8_asks_126 : decode cX8_asks 126 = .ok (.if_icmp .ne 16, 3) := by decide +kernel
theorem dX8_asks_129 : decode cX8_asks 129 = .ok (.aload_n 0, 1) := by decide +kernel
theorem dX8_asks_130 : decode cX8_asks 130 = .ok (.bipush (-7), 2) := by decide +kernel
theorem dX8_asks_132 : decode cX8_asks 132 = .ok (.aload_n 0, 1) := by decide +kernel
theorem dX8_asks_133 : decode cX8_asks 133 = .ok (.getfield 202, 3) := by decide +kernel
theorem dX8_asks_136 : decode cX8_asks 136 = .ok (.invokevirtual 205, 3) := by decide +kernel
theorem dX8_asks_139 : decode cX8_asks 139 = .ok (.goto 31, 3) := by decide +kernel
theorem dX8_asks_170 : decode cX8_asks 170 = .ok (.iinc 5 1, 3) := by decide +kernel
theorem dX8_asks_173 : decode cX8_asks 173 = .ok (.goto (-88), 3) := by decide +kernel
theorem dX8_asks_142 : decode cX8_asks 142 = .ok (.aload_n 0, 1) := by decide +kernel
theorem dX8_asks_143 : decode cX8_asks 143 = .ok (.aload_n 0, 1) := by decide +kernel
theorem dX8_asks_144 : decode cX8_asks 144 = .ok (.getfield 43, 3) := by decide +kernel
theorem dX8_asks_147 : decode cX8_asks 147 = .ok (.bipush 6, 2) := by decide +kernel
theorem dX8_asks_149 : decode cX8_asks 149 = .ok (.iload_n 1, 1) := by decide +kernel
theorem dX8_asks_150 : decode cX8_asks 150 = .ok (.imul, 1) := by decide +kernel
theorem dX8_asks_151 : decode cX8_asks 151 = .ok (.iload 6, 2) := by decide +kernel
theorem dX8_asks_153 : decode cX8_asks 153 = .ok (.iadd, 1) := by decide +kernel
theorem dX8_asks_154 : decode cX8_asks 154 = .ok (.iaload, 1) := by decide +kernel
theorem dX8_asks_155 : decode cX8_asks 155 = .ok (.aload_n 0, 1) := by decide +kernel
theorem dX8_asks_156 : decode cX8_asks 156 = .ok (.getfield 43, 3) := by decide +kernel
theorem dX8_asks_159 : decode cX8_asks 159 = .ok (.bipush 6, 2) := by decide +kernel
theorem dX8_asks_161 : decode cX8_asks 161 = .ok (.iload_n 2, 1) := by decide +kernel
theorem dX8_asks_162 : decode cX8_asks 162 = .ok (.imul, 1) := by decide +kernel
theorem dX8_asks_163 : decode cX8_asks 163 = .ok (.iload 5, 2) := by decide +kernel
theorem dX8_asks_165 : decode cX8_asks 165 = .ok (.iadd, 1) := by decide +kernel
theorem dX8_asks_166 : decode cX8_asks 166 = .ok (.iaload, 1) := by decide +kernel
theorem dX8_asks_167 : decode cX8_asks 167 = .ok (.invokevirtual 218, 3) := by decide +kernel
theorem dX8_asks_30 : decode cX8_asks 30 = .ok (.iload 4, 2) := by decide +kernel
theorem dX8_asks_32 : decode cX8_asks 32 = .ok (.iconst 1, 1) := by decide +kernel
theorem dX8_asks_33 : decode cX8_asks 33 = .ok (.if_icmp .ne 38, 3) := by decide +kernel
theorem dX8_asks_36 : decode cX8_asks 36 = .ok (.aload_n 0, 1) := by decide +kernel
theorem dX8_asks_37 : decode cX8_asks 37 = .ok (.aload_n 0, 1) := by decide +kernel
theorem dX8_asks_38 : decode cX8_asks 38 = .ok (.getfield 34, 3) := by decide +kernel
theorem dX8_asks_41 : decode cX8_asks 41 = .ok (.iload_n 2, 1) := by decide +kernel
theorem dX8_asks_42 : decode cX8_asks 42 = .ok (.iaload, 1) := by decide +kernel
theorem dX8_asks_43 : decode cX8_asks 43 = .ok (.aload_n 0, 1) := by decide +kernel
theorem dX8_asks_44 : decode cX8_asks 44 = .ok (.getfield 34, 3) := by decide +kernel
theorem dX8_asks_47 : decode cX8_asks 47 = .ok (.iload_n 1, 1) := by decide +kernel
theorem dX8_asks_48 : decode cX8_asks 48 = .ok (.iaload, 1) := by decide +kernel
theorem dX8_asks_49 : decode cX8_asks 49 = .ok (.invokevirtual 218, 3) := by decide +kernel
theorem dX8_asks_52 : decode cX8_asks 52 = .ok (.aload_n 0, 1) := by decide +kernel
theorem dX8_asks_53 : decode cX8_asks 53 = .ok (.aload_n 0, 1) := by decide +kernel
theorem dX8_asks_54 : decode cX8_asks 54 = .ok (.getfield 37, 3) := by decide +kernel
theorem dX8_asks_57 : decode cX8_asks 57 = .ok (.iload_n 1, 1) := by decide +kernel
theorem dX8_asks_58 : decode cX8_asks 58 = .ok (.iaload, 1) := by decide +kernel
theorem dX8_asks_59 : decode cX8_asks 59 = .ok (.aload_n 0, 1) := by decide +kernel
theorem dX8_asks_60 : decode cX8_asks 60 = .ok (.getfield 37, 3) := by decide +kernel
theorem dX8_asks_63 : decode cX8_asks 63 = .ok (.iload_n 2, 1) := by decide +kernel
theorem dX8_asks_64 : decode cX8_asks 64 = .ok (.iaload, 1) := by decide +kernel
theorem dX8_asks_65 : decode cX8_asks 65 = .ok (.invokevirtual 218, 3) := by decide +kernel
theorem dX8_asks_68 : decode cX8_asks 68 = .ok (.goto 393, 3) := by decide +kernel
theorem dX8_asks_19 : decode cX8_asks 19 = .ok (.iload_n 1, 1) := by decide +kernel
theorem dX8_asks_20 : decode cX8_asks 20 = .ok (.iload_n 2, 1) := by decide +kernel
theorem dX8_asks_21 : decode cX8_asks 21 = .ok (.if_icmp .ne 4, 3) := by decide +kernel
theorem dX8_asks_24 : decode cX8_asks 24 = .ok (.return_, 1) := by decide +kernel
set_option maxHeartbeats 4000000 in
set_option maxRecDepth 100000 in
/-- asks -/
theorem m_asks (l : Launch) (G : mG) (hDD : mDD G) (o : Nat → Int32) (F : Nat → Nat → Int32) (fu : Nat) (z : aS) (ix : Nat → Nat → Nat) (lf : Nat) (a : Nat) (b : Nat) (hm : Nat) (ih : mUnderAt fu) (hR : MR z ix o F) (hM0 : M0 lf F) (hl0 : o 35 = nI lf) (hh : o 39 = nI hm) (hhm : hm ≤ 100000) (hh2 : sto z = 0 → hm + 360 ≤ 8000) (hd2 : o 32 = nI 0) (hb0 : bnd (asks (un fu) z a b) ≤ 200000) (hlf : lf + 1 ≤ stp z) (hd : o 31 = nI (60 - fu)) (hfu : fu ≤ 60) (h0 : sto z = 0) (ha1 : a < nT z) (hb1 : b < nT z) (sz : Nat) : Met l yX8_asks (wU yX8_asks cX8_asks 8 none) { frames := 2 * fu + 191, cells := 0, slots := 0, locals := 60 * fu + 5330 } (mPc G o F sz [.ref (mh G), .int (nI a), .int (nI b)]) (mQv G sz (fun u => UQ [7, 8, 9, 10, 11, 12, 13, 14, 15, 16, 17, 18, 19, 20, 21, 24, 26, 27, 28, 29, 30, 31, 32, 35, 36, 37, 38, 39] z ix hm o F (asks (un fu) z a b) u)) 0 0 (mA G sz) := by
  refine Met.ofW (cc := cX8_asks) (maxL := 8) (ret := none) (by decide) rfl ?_
  intro p e s m args below meth c s₁ B hml hv
  obtain ⟨rfl, hsz, hP, hK⟩ := hv
  have hx := B.exec
  have hb := B.bytes
  have hr := B.returns
  have htu : ∀ w ∈ WU, w.before _ s = true := fun w h => atoms_spec (ws := (wU yX8_asks cX8_asks 8 none)) B.pre w (List.mem_cons_of_mem _ h)
  have hown : s.vm.findClass RX8 = some m.cls := findClass_of_methodNamed B.named
  have hlocks := B.notSynchronized
  subst hsz
  have hS : va_S (mA G s.heap.size) s.heap s.heap [] := va_S.rf
  have hl := lv_entry ([.ref (mh G), .int (nI a), .int (nI b)]) (n := 8) (Nat.le_of_ble_eq_true rfl)
  rw [lg_entry_eq]
  generalize (lg_sl ([.ref (mh G), .int (nI a), .int (nI b)]) ++ List.replicate (8 - (lg_sl ([.ref (mh G), .int (nI a), .int (nI b)])).length) Slot.unset).toArray = ls at hl ⊢
  have hl : lv_has ls 8 [(0, .ref (mh G)), (1, .int (nI a)), (2, .int (nI b))] := hl
  obtain ⟨H, hHe⟩ : ∃ H : Heap, H = s.heap := ⟨_, rfl⟩
  rw [← hHe] at hP
  have hS : va_S (mA G s.heap.size) s.heap H [] := by rw [hHe]; exact va_S.rf
  refine W.heq hHe ?_
  obtain ⟨b1, b2, b3, b4, b5, b6, b7, b8⟩ := hR.2.1
  have ta := hR.2.2.1 a ha1
  have tb := hR.2.2.1 b hb1
  have tas := ta.2.2.1.1
  have tbs := tb.2.2.1.1
  have tal := ta.2.2.2
  have tbl := tb.2.2.2
  refine lv_aload_n hx hb dX8_asks_0 rfl (lv_at hl 0 rfl) ?_
  refine m_get (v := .ref (md G 8)) hx hb htu wu_in hown hK hP 8 (by decide) (htu _ U_53) rfl rfl dX8_asks_1 ?_
  refine lv_iload_n hx hb dX8_asks_4 rfl (lv_at hl 1 rfl) ?_
  refine m_ald (j := a) (v := nI (srt z a)) hx hb hK hP 7 8 rfl (by omega) (by decide) ta.1 dX8_asks_5 ?_
  refine lv_istore_n (lv' := [(3, .int (nI (srt z a))), (0, .ref (mh G)), (1, .int (nI a)), (2, .int (nI b))]) hx hb dX8_asks_6 rfl hl (by decide) rfl (fun ls hl => ?_)
  refine lv_aload_n hx hb dX8_asks_7 rfl (lv_at hl 1 rfl) ?_
  refine m_get (v := .ref (md G 8)) hx hb htu wu_in hown hK hP 8 (by decide) (htu _ U_53) rfl rfl dX8_asks_8 ?_
  refine lv_iload_n hx hb dX8_asks_11 rfl (lv_at hl 3 rfl) ?_
  refine m_ald (j := b) (v := nI (srt z b)) hx hb hK hP 7 8 rfl (by omega) (by decide) tb.1 dX8_asks_12 ?_
  refine lv_istore (lv' := [(4, .int (nI (srt z b))), (3, .int (nI (srt z a))), (0, .ref (mh G)), (1, .int (nI a)), (2, .int (nI b))]) hx hb dX8_asks_13 hl (by decide) rfl (fun ls hl => ?_)
  refine lv_iload_n hx hb dX8_asks_15 rfl (lv_at hl 1 rfl) ?_
  refine lv_if_ne (tgt := 25) hx hb dX8_asks_16 (by decide) (fun c_1 => ?_) (fun c_1 => ?_)
  · skip
    have nc_1 : ¬ srt z a = 0 := fun h9 => c_1 ((nI_eq (a := srt z a) (b := 0) (by omega) (by omega)).mpr h9)
    refine lv_iload_n hx hb dX8_asks_25 rfl (lv_at hl 1 rfl) ?_
    refine lv_iconst (v := 1) hx hb dX8_asks_26 (by decide) ?_
    refine lv_icmp_ne (tgt := 71) hx hb dX8_asks_27 (by decide) (fun c_2 => ?_) (fun c_2 => ?_)
    · skip
      have nc_2 : ¬ srt z a = 1 := fun h9 => c_2 ((nI_eq (a := srt z a) (b := 1) (by omega) (by omega)).mpr h9)
      refine lv_iload_n hx hb dX8_asks_71 rfl (lv_at hl 1 rfl) ?_
      refine lv_iconst (v := 2) hx hb dX8_asks_72 (by decide) ?_
      refine lv_icmp_ne (tgt := 179) hx hb dX8_asks_73 (by decide) (fun c_3 => ?_) (fun c_3 => ?_)
      · skip
        have nc_3 : ¬ srt z a = 2 := fun h9 => c_3 ((nI_eq (a := srt z a) (b := 2) (by omega) (by omega)).mpr h9)
        refine lv_iload_n hx hb dX8_asks_179 rfl (lv_at hl 1 rfl) ?_
        refine lv_iconst (v := 3) hx hb dX8_asks_180 (by decide) ?_
        refine lv_icmp_ne (tgt := 283) hx hb dX8_asks_181 (by decide) (fun c_4 => ?_) (fun c_4 => ?_)
        · skip
          have nc_4 : ¬ srt z a = 3 := fun h9 => c_4 ((nI_eq (a := srt z a) (b := 3) (by omega) (by omega)).mpr h9)
          refine lv_iload hx hb dX8_asks_283 (lv_at hl 0 rfl) ?_
          refine lv_iconst (v := 3) hx hb dX8_asks_285 (by decide) ?_
          refine lv_icmp_ne (tgt := 392) hx hb dX8_asks_286 (by decide) (fun c_5 => ?_) (fun c_5 => ?_)
          · skip
            have nc_5 : ¬ srt z b = 3 := fun h9 => c_5 ((nI_eq (a := srt z b) (b := 3) (by omega) (by omega)).mpr h9)
            refine lv_iload_n hx hb dX8_asks_392 rfl (lv_at hl 1 rfl) ?_
            refine lv_iconst (v := 3) hx hb dX8_asks_393 (by decide) ?_
            refine lv_icmp_ne (tgt := 421) hx hb dX8_asks_394 (by decide) (fun c_6 => ?_) (fun c_6 => absurd c_6 (fun h9 => absurd ((nI_eq (b := 3) (by omega) (by omega)).mp h9) (by omega)))
            refine lv_iload hx hb dX8_asks_421 (lv_at hl 0 rfl) ?_
            refine lv_iconst (v := 3) hx hb dX8_asks_423 (by decide) ?_
            refine lv_icmp_ne (tgt := 451) hx hb dX8_asks_424 (by decide) (fun c_7 => ?_) (fun c_7 => absurd c_7 (fun h9 => absurd ((nI_eq (b := 3) (by omega) (by omega)).mp h9) (by omega)))
            refine lv_aload_n hx hb dX8_asks_451 rfl (lv_at hl 2 rfl) ?_
            refine lv_bipush (v := (-7)) hx hb dX8_asks_452 (by decide) ?_
            refine lv_aload_n hx hb dX8_asks_454 rfl (lv_at hl 2 rfl) ?_
            refine m_get (v := .int (nI (askn z))) hx hb htu wu_in hown hK hP 25 (by decide) (htu _ U_61) rfl (m_v hR.1.2.2.2.2.2.2.1) dX8_asks_455 ?_
            refine m_cv (m_runV (As := [.int ((-7)), .int (nI (askn z))]) (rest := []) ⟨hx, hb, hml, hown, htu⟩ (m_stops l G hDD o F z ix 2 ((askn z)) hR ((Or.inr rfl)) ((by omega)) H.size) (cwV 2 htu gU_X8_stops rfl rfl rfl (by decide +kernel) ⟨show 0 + 1 ≤ 2 * fu + 191 by omega, show 8 + (3 + 11) + 0 ≤ 60 * fu + 5330 by omega⟩) hP hK rfl hl.1 rfl (lv_room (Nat.le_of_ble_eq_true rfl)) dX8_asks_458) hS (fun o_9 F_10 H locs hw_11 hP hS => ?_)
            try dsimp only at hw_11
            exact m_vret hx hb hr hK hP hS (by rw [show asks (un fu) z a b = stops z 2 (askn z) by unfold asks; rw [if_neg (by omega), if_neg (by omega), if_neg (by omega), if_neg (by omega), if_neg (by omega), if_neg (by omega), if_neg (by omega)]]; exact ⟨⟨ix, lf, hw_11.1, Px.rf, hM0.to (hw_11.2 36 (by decide)).2, (hw_11.2 35 (by decide)).1.trans hl0, Nat.le_trans (show lf ≤ stp z by omega) (x_stops _ _ _).2.2.2.2.2⟩, fun h => absurd h0 h, HM.own hh (hw_11.2 39 (by decide)).1 (hw_11.2 38 (by decide)).2, (hw_11.2 31 (by decide)).1, (hw_11.2 32 (by decide)).1, hw_11.2.mono (by decide)⟩) dX8_asks_461 hlocks
          · skip
            have nc_5 : srt z b = 3 := (nI_eq (a := srt z b) (b := 3) (by omega) (by omega)).mp c_5
            refine lv_aload_n hx hb dX8_asks_289 rfl (lv_at hl 2 rfl) ?_
            refine m_get (v := .ref (md G 9)) hx hb htu wu_in hown hK hP 9 (by decide) (htu _ U_54) rfl rfl dX8_asks_290 ?_
            refine lv_iload_n hx hb dX8_asks_293 rfl (lv_at hl 3 rfl) ?_
            refine m_ald (j := a) (v := nI (lev z a)) hx hb hK hP 8 9 rfl (by omega) (by decide) ta.2.1 dX8_asks_294 ?_
            refine lv_aload_n hx hb dX8_asks_295 rfl (lv_at hl 2 rfl) ?_
            refine m_get (v := .ref (md G 9)) hx hb htu wu_in hown hK hP 9 (by decide) (htu _ U_54) rfl rfl dX8_asks_296 ?_
            refine lv_iload_n hx hb dX8_asks_299 rfl (lv_at hl 4 rfl) ?_
            refine m_ald (j := b) (v := nI (lev z b)) hx hb hK hP 8 9 rfl (by omega) (by decide) tb.2.1 dX8_asks_300 ?_
            refine lv_icmp_gt (tgt := 392) hx hb dX8_asks_301 (by decide) (fun c_12 => ?_) (fun c_12 => ?_)
            · skip
              have nc_12 : lev z b < lev z a := (nI_ltI (a := lev z b) (b := lev z a) (by omega) (by omega)).mp c_12
              refine lv_iload_n hx hb dX8_asks_392 rfl (lv_at hl 1 rfl) ?_
              refine lv_iconst (v := 3) hx hb dX8_asks_393 (by decide) ?_
              refine lv_icmp_ne (tgt := 421) hx hb dX8_asks_394 (by decide) (fun c_13 => ?_) (fun c_13 => absurd c_13 (fun h9 => absurd ((nI_eq (b := 3) (by omega) (by omega)).mp h9) (by omega)))
              refine lv_iload hx hb dX8_asks_421 (lv_at hl 0 rfl) ?_
              refine lv_iconst (v := 3) hx hb dX8_asks_423 (by decide) ?_
              refine lv_icmp_ne (tgt := 451) hx hb dX8_asks_424 (by decide) (fun c_14 => absurd (congrArg nI (show srt z b = 3 by omega)) c_14) (fun c_14 => ?_)
              have ca : asks (un fu) z a b = un fu (startCp z a 0 (lev z b) (lev z b)).1 (startCp z a 0 (lev z b) (lev z b)).2 b := by unfold asks; rw [if_neg (by omega), if_neg (by omega), if_neg (by omega), if_neg (by omega), if_neg (by omega), if_neg (by omega), if_pos (by omega)]
              obtain ⟨S, eS⟩ : ∃ y, y = startCp z a 0 (lev z b) (lev z b) := ⟨_, rfl⟩
              rw [← eS] at ca
              rw [ca] at hb0
              have hbS : bnd S.1 ≤ 200000 := Nat.le_trans (b_un fu _ _ _) hb0
              have xS : Lx z S.1 := by rw [eS]; exact x_start _ _ _ _ _
              refine lv_aload_n hx hb dX8_asks_427 rfl (lv_at hl 2 rfl) ?_
              refine lv_iload_n hx hb dX8_asks_428 rfl (lv_at hl 3 rfl) ?_
              refine lv_iconst (v := 0) hx hb dX8_asks_429 (by decide) ?_
              refine lv_aload_n hx hb dX8_asks_430 rfl (lv_at hl 2 rfl) ?_
              refine m_get (v := .ref (md G 9)) hx hb htu wu_in hown hK hP 9 (by decide) (htu _ U_54) rfl rfl dX8_asks_431 ?_
              refine lv_iload_n hx hb dX8_asks_434 rfl (lv_at hl 4 rfl) ?_
              refine m_ald (j := b) (v := nI (lev z b)) hx hb hK hP 8 9 rfl (by omega) (by decide) tb.2.1 dX8_asks_435 ?_
              refine m_ci (m_runV (As := [.int (nI a), .int 0, .int (nI (lev z b))]) (rest := []) ⟨hx, hb, hml, hown, htu⟩ (m_beginLift l G hDD o F z ix lf a 0 (lev z b) hm hR hM0 ((by omega)) ((by omega)) tbl hh ((by rw [← eS]; exact hbS)) hd2 hl0 ((hh2 h0)) h0 ha1 H.size) (cwV 3 htu gU_X8_beginLift rfl rfl rfl (by decide +kernel) ⟨show 187 + 1 ≤ 2 * fu + 191 by omega, show 8 + (4 + 11) + 5145 ≤ 60 * fu + 5330 by omega⟩) hP hK rfl hl.1 rfl (lv_room (Nat.le_of_ble_eq_true rfl)) dX8_asks_436) hS (fun r_15 o_16 F_17 H locs hw_18 hP hS => ?_)
              try dsimp only at hw_18
              rw [← eS] at hw_18
              obtain ⟨⟨⟨ix1, hR1, hP1⟩, hM1, hv1, hs1, hH1, hK1⟩, he1, hl1⟩ := hw_18
              obtain ⟨hm1, hh1, hq1, hx1⟩ := hH1.at hh (by have := hh2 h0; omega)
              have xn := xS.1
              have xs := xS.2.2.2.2.2
              refine lv_istore (lv' := [(5, .int r_15), (4, .int (nI (srt z b))), (3, .int (nI (srt z a))), (0, .ref (mh G)), (1, .int (nI a)), (2, .int (nI b))]) hx hb dX8_asks_439 hl (by decide) rfl (fun ls hl => ?_)
              refine lv_aload_n hx hb dX8_asks_441 rfl (lv_at hl 3 rfl) ?_
              refine lv_iload hx hb dX8_asks_442 (lv_at hl 0 rfl) ?_
              refine lv_iload_n hx hb dX8_asks_444 rfl (lv_at hl 5 rfl) ?_
              refine m_cv (m_runV (As := [.int r_15, .int (nI b)]) (rest := []) ⟨hx, hb, hml, hown, htu⟩ (ih l G hDD o_16 F_17 S.1 ix1 (lf + 1) S.2 b hm1 r_15 (nI b) hR1 hM1.m0 hl1 hh1 ((by have := hh2 h0; omega)) ((fun h => by have := hh2 h0; have := hq1 h; omega)) ((he1.trans hd2)) hb0 ((by omega)) (((hK1 31 (by decide)).1.trans hd)) hfu ((fun h => ⟨(hv1 h).1, rfl, (hv1 h).2, by omega⟩)) H.size) (cwV 2 htu gU_X8_under rfl rfl rfl (by decide +kernel) ⟨show (2 * fu + 190) + 1 ≤ 2 * fu + 191 by omega, show 8 + (3 + 11) + (60 * fu + 5300) ≤ 60 * fu + 5330 by omega⟩) hP hK rfl hl.1 rfl (lv_room (Nat.le_of_ble_eq_true rfl)) dX8_asks_445) hS (fun o_20 F_21 H locs hw_22 hP hS => ?_)
              try dsimp only at hw_22
              obtain ⟨⟨ix2, lf2, hR2, hP2, hM2, hl2, hf2⟩, hs2, hH2, hd2b, he2, hK2⟩ := hw_22
              refine lv_goto (tgt := 461) hx hb dX8_asks_448 (by decide) ?_
              exact m_vret hx hb hr hK hP hS (by rw [ca]; exact ⟨⟨ix2, lf2, hR2, Px.tr hR hP1 xS hP2, hM2, hl2, hf2⟩, fun h => absurd h0 h, HM.tr hH1 hh hq1 hH2 hs2 un_sto, hd2b.trans (hK1 31 (by decide)).1, he2.trans he1, Kq.tr (hK1.mono (by decide)) hK2⟩) dX8_asks_461 hlocks
            · skip
              have nc_12 : ¬ lev z b < lev z a := fun h9 => c_12 ((nI_ltI (a := lev z b) (b := lev z a) (by omega) (by omega)).mpr h9)
              have ca : asks (un fu) z a b = (row z 1 b).foldl (fun s x => un fu s a x) (bind z b 0 a) := by unfold asks; rw [if_neg (by omega), if_neg (by omega), if_neg (by omega), if_neg (by omega), if_pos (by omega)]
              obtain ⟨Z0, eZ⟩ : ∃ y, y = bind z b 0 a := ⟨_, rfl⟩
              rw [← eZ] at ca
              obtain ⟨L, eL⟩ : ∃ y, y = row Z0 1 b := ⟨_, rfl⟩
              have eL2 : row z 1 b = L := by rw [eL, eZ]; rfl
              rw [eL2] at ca
              rw [ca] at hb0
              have hbz : bnd Z0 ≤ 200000 := Nat.le_trans (b_fold (fun s x => b_un fu s a x) L Z0) hb0
              have bz1 : bnd z + 1 ≤ 200000 := by rw [eZ, b_bind] at hbz; exact hbz
              have xZ : Lx z Z0 := by rw [eZ]; exact x_bind _ _ _ _ (by omega)
              have hZ : b < nT Z0 := Nat.lt_of_lt_of_le hb1 xZ.1
              obtain ⟨s1, s2, s3, -⟩ := xZ.2.2.1 b hb1
              have hZ3 : srt Z0 b = 3 := s1.trans (by omega)
              have v2 := (hR.rw (sd := 0) hb1 (by omega) (by omega)).2
              refine lv_aload_n hx hb dX8_asks_304 rfl (lv_at hl 2 rfl) ?_
              refine lv_iload_n hx hb dX8_asks_305 rfl (lv_at hl 4 rfl) ?_
              refine lv_iconst (v := 0) hx hb dX8_asks_306 (by decide) ?_
              refine lv_iload_n hx hb dX8_asks_307 rfl (lv_at hl 3 rfl) ?_
              refine m_cv (m_runV (As := [.int (nI b), .int 0, .int (nI a)]) (rest := []) ⟨hx, hb, hml, hown, htu⟩ (m_bind l G hDD o F z ix b 0 a hR hb1 ((by omega)) ((by omega)) ha1 ((by omega)) H.size) (cwV 3 htu gU_X8_bind rfl rfl rfl (by decide +kernel) ⟨show 0 + 1 ≤ 2 * fu + 191 by omega, show 8 + (5 + 11) + 0 ≤ 60 * fu + 5330 by omega⟩) hP hK rfl hl.1 rfl (lv_room (Nat.le_of_ble_eq_true rfl)) dX8_asks_308) hS (fun o_24 F_25 H locs hw_26 hP hS => ?_)
              try dsimp only at hw_26
              obtain ⟨⟨ix2, gR2, gP2⟩, gK2⟩ := hw_26
              rw [← eZ] at gR2
              obtain ⟨gw, gv⟩ := gR2.rw (sd := 1) hZ hZ3 (by omega)
              rw [s3, ← eL] at gw
              have hw1 := (gR2.2.2.2.2.2.1.1 b hZ hZ3).1
              have hwo := s3
              refine lv_aload_n hx hb dX8_asks_311 rfl (lv_at hl 2 rfl) ?_
              refine m_get (v := .ref (md G 21)) hx hb htu wu_in hown hK hP 21 (by decide) (htu _ U_116) rfl rfl dX8_asks_312 ?_
              refine lv_iconst (v := 2) hx hb dX8_asks_315 (by decide) ?_
              refine lv_aload_n hx hb dX8_asks_316 rfl (lv_at hl 2 rfl) ?_
              refine m_get (v := .ref (md G 10)) hx hb htu wu_in hown hK hP 10 (by decide) (htu _ U_80) rfl rfl dX8_asks_317 ?_
              refine lv_iload_n hx hb dX8_asks_320 rfl (lv_at hl 4 rfl) ?_
              refine m_ald (j := b) (v := nI (one z b)) hx hb hK hP 9 10 rfl (by omega) (by decide) (hw1.trans (congrArg nI hwo)) dX8_asks_321 ?_
              refine lv_imul hx hb dX8_asks_322 ?_
              refine m_top (y := nI (2 * (one z b))) (pk_mul 2 (one z b)) ?_
              refine lv_iconst (v := 1) hx hb dX8_asks_323 (by decide) ?_
              refine lv_iadd hx hb dX8_asks_324 ?_
              refine m_top (y := nI (2 * (one z b) + 1)) (nI_add (2 * (one z b)) 1) ?_
              refine m_ald (j := 2 * (one z b) + 1) (v := nI L.length) hx hb hK hP 18 21 rfl (by omega) (by decide) gw.1 dX8_asks_325 ?_
              refine lv_istore (lv' := [(5, .int (nI L.length)), (4, .int (nI (srt z b))), (3, .int (nI (srt z a))), (0, .ref (mh G)), (1, .int (nI a)), (2, .int (nI b))]) hx hb dX8_asks_326 hl (by decide) rfl (fun ls hl => ?_)
              refine lv_aload_n hx hb dX8_asks_328 rfl (lv_at hl 3 rfl) ?_
              refine m_get (v := .ref (md G 19)) hx hb htu wu_in hown hK hP 19 (by decide) (htu _ U_117) rfl rfl dX8_asks_329 ?_
              refine lv_iconst (v := 2) hx hb dX8_asks_332 (by decide) ?_
              refine lv_aload_n hx hb dX8_asks_333 rfl (lv_at hl 3 rfl) ?_
              refine m_get (v := .ref (md G 10)) hx hb htu wu_in hown hK hP 10 (by decide) (htu _ U_80) rfl rfl dX8_asks_334 ?_
              refine lv_iload_n hx hb dX8_asks_337 rfl (lv_at hl 5 rfl) ?_
              refine m_ald (j := b) (v := nI (one z b)) hx hb hK hP 9 10 rfl (by omega) (by decide) (hw1.trans (congrArg nI hwo)) dX8_asks_338 ?_
              refine lv_imul hx hb dX8_asks_339 ?_
              refine m_top (y := nI (2 * (one z b))) (pk_mul 2 (one z b)) ?_
              refine lv_iconst (v := 1) hx hb dX8_asks_340 (by decide) ?_
              refine lv_iadd hx hb dX8_asks_341 ?_
              refine m_top (y := nI (2 * (one z b) + 1)) (nI_add (2 * (one z b)) 1) ?_
              refine m_ald (j := 2 * (one z b) + 1) (v := F_25 19 (2 * (one z b) + 1)) hx hb hK hP 16 19 rfl (by omega) (by decide) rfl dX8_asks_342 ?_
              refine lv_istore (lv' := [(6, .int (F_25 19 (2 * (one z b) + 1))), (5, .int (nI L.length)), (4, .int (nI (srt z b))), (3, .int (nI (srt z a))), (0, .ref (mh G)), (1, .int (nI a)), (2, .int (nI b))]) hx hb dX8_asks_343 hl (by decide) rfl (fun ls hl => ?_)
              refine lv_iconst (v := 0) hx hb dX8_asks_345 (by decide) ?_
              refine lv_istore (lv' := [(7, .int 0), (6, .int (F_25 19 (2 * (one z b) + 1))), (5, .int (nI L.length)), (4, .int (nI (srt z b))), (3, .int (nI (srt z a))), (0, .ref (mh G)), (1, .int (nI a)), (2, .int (nI b))]) hx hb dX8_asks_346 hl (by decide) rfl (fun ls hl => ?_)
              refine w_loop (fun j H locs k sl g => ∃ (i : Nat) (zi : aS) (ix1 : Nat → Nat → Nat) (lf1 : Nat) (o1 : Nat → Int32) (F1 : Nat → Nat → Int32) (kv : Int32) (ls : Array Slot), i + j = L.length ∧ L.foldl (fun s x => un fu s a x) Z0 = (L.drop i).foldl (fun s x => un fu s a x) zi ∧ MR zi ix1 o1 F1 ∧ Px z ix ix1 ∧ Lx Z0 zi ∧ M0 lf1 F1 ∧ o1 35 = nI lf1 ∧ lf1 ≤ stp zi ∧ o1 31 = o 31 ∧ o1 32 = o 32 ∧ Kq [7, 8, 9, 10, 11, 12, 13, 14, 15, 16, 17, 18, 19, 20, 21, 24, 26, 27, 28, 29, 30, 31, 32, 35, 36, 37, 38, 39] o F (o1, F1) ∧ HM zi hm 60 o F (o1, F1) ∧ (i < L.length → kv = nI (ix1 (2 * one z b + 1) i)) ∧ k = 0 ∧ sl = 0 ∧ mP G o1 F1 H ∧ va_S (mA G s.heap.size) s.heap H locs ∧ lv_has ls 8 [(7, .int (nI i)), (0, .ref (mh G)), (1, .int (nI a)), (2, .int (nI b)), (5, .int (nI L.length)), (6, .int kv)] ∧ g = F0 m 348 ls []) ?_ ?_ L.length _ _ _ _ _ ⟨0, Z0, ix2, lf, o_24, F_25, (F_25 19 (2 * one z b + 1)), ls, by omega, rfl, gR2, gP2, Lx.rf, (hM0.to (gK2 36 (by decide)).2), ((gK2 35 (by decide)).1.trans hl0), (by have := xZ.2.2.2.2.2; omega), (gK2 31 (by decide)).1, (gK2 32 (by decide)).1, (gK2.mono (by decide)), (HM.own hh (gK2 39 (by decide)).1 (gK2 38 (by decide)).2), (fun h => (gw.2.2.1 h).1), rfl, rfl, hP, hS, lv_sub hl [0, 5, 6, 7, 2, 1] rfl, rfl⟩
              · intro H locs k sl g hI
                obtain ⟨i, zi, ix1, lf1, o1, F1, kv, ls, hp0, hp1, hp2, hp3, hp4, hp5, hp6, hp7, hp8, hp9, hp10, hp11, hp12, rfl, rfl, hP, hS, hl, rfl⟩ := hI
                obtain ⟨m1, m2, m3, m4, m5, m6, m7, m8⟩ := hp2.2.1
                have lb : L.length ≤ 200000 := Nat.le_trans gw.2.2.2.1 hbz
                refine lv_iload hx hb dX8_asks_348 (lv_at hl 0 rfl) ?_
                refine lv_iload hx hb dX8_asks_350 (lv_at hl 4 rfl) ?_
                refine lv_icmp_ge (tgt := 389) hx hb dX8_asks_352 (by decide) (fun c_27 => ?_) (fun c_27 => absurd (nI_le (by omega) (by omega)) c_27)
                refine lv_goto (tgt := 461) hx hb dX8_asks_389 (by decide) ?_
                have hend : L.foldl (fun s x => un fu s a x) Z0 = zi := by rw [hp1, List.drop_eq_nil_of_le (by omega)]; rfl
                exact m_vret hx hb hr hK hP hS (by rw [ca, hend]; exact ⟨⟨ix1, lf1, hp2, hp3, hp5, hp6, hp7⟩, fun h => absurd h0 h, hp11, hp8, hp9, hp10⟩) dX8_asks_461 hlocks
              · intro j ih9 H locs k sl g hI
                obtain ⟨i, zi, ix1, lf1, o1, F1, kv, ls, hp0, hp1, hp2, hp3, hp4, hp5, hp6, hp7, hp8, hp9, hp10, hp11, hp12, rfl, rfl, hP, hS, hl, rfl⟩ := hI
                obtain ⟨m1, m2, m3, m4, m5, m6, m7, m8⟩ := hp2.2.1
                have lb : L.length ≤ 200000 := Nat.le_trans gw.2.2.2.1 hbz
                have ni : i < L.length := by omega
                refine lv_iload hx hb dX8_asks_348 (lv_at hl 0 rfl) ?_
                refine lv_iload hx hb dX8_asks_350 (lv_at hl 4 rfl) ?_
                refine lv_icmp_ge (tgt := 389) hx hb dX8_asks_352 (by decide) (fun c_28 => absurd c_28 (nI_ge ni (by omega))) (fun c_28 => ?_)
                refine lv_aload_n hx hb dX8_asks_355 rfl (lv_at hl 1 rfl) ?_
                refine m_get (v := .int (sc (sto zi))) hx hb htu wu_in hown hK hP 27 (by decide) (htu _ U_45) rfl (m_v hp2.1.2.2.2.2.1) dX8_asks_356 ?_
                refine lv_if_ne (tgt := 389) hx hb dX8_asks_359 (by decide) (fun c_29 => ?_) (fun c_29 => ?_)
                · skip
                  refine lv_goto (tgt := 461) hx hb dX8_asks_389 (by decide) ?_
                  have hend : L.foldl (fun s x => un fu s a x) Z0 = zi := by rw [hp1, fold_stop (fun s y h => un_st h) (fun h => c_29 (sc_0.mpr h))]
                  exact m_vret hx hb hr hK hP hS (by rw [ca, hend]; exact ⟨⟨ix1, lf1, hp2, hp3, hp5, hp6, hp7⟩, fun h => absurd h0 h, hp11, hp8, hp9, hp10⟩) dX8_asks_461 hlocks
                · skip
                  have g0 : sto zi = 0 := sc_0.mp c_29
                  obtain rfl := hp12 ni
                  obtain ⟨l1, l2, l3, l4, l5, l6, l7, l8⟩ := hp2.pl (sd := 1) hp4 hZ hZ3 (by omega) (by rw [← eL]; exact ni)
                  rw [s3, ← eL] at l3
                  rw [s3] at l2
                  have l2 : ix1 (2 * one z b + 1) i < bnd zi := l2
                  rw [← eL] at l4
                  rw [s3] at l7
                  have hst := hp1.trans (fold_step (g := (fun s x => un fu s a x)) ni)
                  have hbi : bnd (un fu zi a (L.getD i 0)) ≤ 200000 := by refine Nat.le_trans ?_ hb0; rw [hst]; exact b_fold (fun s x => b_un fu s a x) _ _
                  have x9 : Lx zi (un fu zi a (L.getD i 0)) := x_un fu _ _ _
                  have xn := xZ.1
                  have xm := hp4.1
                  refine lv_aload_n hx hb dX8_asks_362 rfl (lv_at hl 1 rfl) ?_
                  refine lv_iload_n hx hb dX8_asks_363 rfl (lv_at hl 2 rfl) ?_
                  refine lv_aload_n hx hb dX8_asks_364 rfl (lv_at hl 1 rfl) ?_
                  refine m_get (v := .ref (md G 17)) hx hb htu wu_in hown hK hP 17 (by decide) (htu _ U_118) rfl rfl dX8_asks_365 ?_
                  refine lv_iload hx hb dX8_asks_368 (lv_at hl 5 rfl) ?_
                  refine m_ald (j := ix1 (2 * one z b + 1) i) (v := nI (L.getD i 0)) hx hb hK hP 14 17 rfl (by omega) (by decide) l3 dX8_asks_370 ?_
                  refine m_cv (m_runV (As := [.int (nI a), .int (nI (L.getD i 0))]) (rest := []) ⟨hx, hb, hml, hown, htu⟩ (ih l G hDD o1 F1 zi ix1 lf1 a (L.getD i 0) hm (nI a) (nI (L.getD i 0)) hp2 hp5 hp6 (((hp11.1 g0).trans hh)) hhm ((fun _ => hh2 h0)) ((hp9.trans hd2)) hbi hp7 ((hp8.trans hd)) hfu ((fun _ => ⟨rfl, rfl, by omega, l4⟩)) H.size) (cwV 2 htu gU_X8_under rfl rfl rfl (by decide +kernel) ⟨show (2 * fu + 190) + 1 ≤ 2 * fu + 191 by omega, show 8 + (3 + 11) + (60 * fu + 5300) ≤ 60 * fu + 5330 by omega⟩) hP hK rfl hl.1 rfl (lv_room (Nat.le_of_ble_eq_true rfl)) dX8_asks_371) hS (fun o_31 F_32 H locs hw_33 hP hS => ?_)
                  try dsimp only at hw_33
                  obtain ⟨⟨ix3, lf2, hR2, hP2, hM2, hl2, hf2⟩, hs2, hH2, hd2b, he2, hK2⟩ := hw_33
                  have q3 : ix3 (2 * one z b + 1) i = ix1 (2 * one z b + 1) i := by have := hP2.at (sd := 1) hp2 l5 l6 (by omega) l1; rw [l7] at this; exact this
                  refine lv_aload_n hx hb dX8_asks_374 rfl (lv_at hl 1 rfl) ?_
                  refine m_get (v := .ref (md G 18)) hx hb htu wu_in hown hK hP 18 (by decide) (htu _ U_119) rfl rfl dX8_asks_375 ?_
                  refine lv_iload hx hb dX8_asks_378 (lv_at hl 5 rfl) ?_
                  refine m_ald (j := ix1 (2 * one z b + 1) i) (v := F_32 18 (ix1 (2 * one z b + 1) i)) hx hb hK hP 15 18 rfl (by omega) (by decide) rfl dX8_asks_380 ?_
                  refine lv_istore (lv' := [(6, .int (F_32 18 (ix1 (2 * one z b + 1) i))), (7, .int (nI i)), (0, .ref (mh G)), (1, .int (nI a)), (2, .int (nI b)), (5, .int (nI L.length))]) hx hb dX8_asks_381 hl (by decide) rfl (fun ls hl => ?_)
                  refine lv_iinc (v := nI (i + 1)) (lv' := [(7, .int (nI (i + 1))), (6, .int (F_32 18 (ix1 (2 * one z b + 1) i))), (0, .ref (mh G)), (1, .int (nI a)), (2, .int (nI b)), (5, .int (nI L.length))]) hx hb dX8_asks_383 hl (k := 1) rfl (nI_1 i) (by decide) rfl (fun ls hl => ?_)
                  refine lv_goto (tgt := 348) hx hb dX8_asks_386 (by decide) ?_
                  exact ih9 _ _ _ _ _ ⟨i + 1, (un fu zi a (L.getD i 0)), ix3, lf2, o_31, F_32, (F_32 18 (ix1 (2 * one z b + 1) i)), ls, by omega, hst, hR2, (Px.tr hR hp3 (xZ.tr hp4) hP2), (hp4.tr x9), hM2, hl2, hf2, (hd2b.trans hp8), (he2.trans hp9), (Kq.tr hp10 hK2), (HM.tr hp11 hh (h1 := hm) (fun _ => rfl) hH2 (fun h => absurd g0 h) (fun _ => g0)), (fun h => by have h6 := (hR2.pl (sd := 1) (hp4.tr x9) hZ hZ3 (by omega) (i := i) (by rw [← eL]; exact ni)).2.2.2.2.2.2.2 (by rw [← eL]; exact h); rw [s3] at h6; rw [← q3]; exact h6), rfl, rfl, hP, hS, lv_sub hl [0, 2, 3, 4, 5, 1] rfl, rfl⟩
        · skip
          have nc_4 : srt z a = 3 := (nI_eq (a := srt z a) (b := 3) (by omega) (by omega)).mp c_4
          refine lv_aload_n hx hb dX8_asks_184 rfl (lv_at hl 2 rfl) ?_
          refine m_get (v := .ref (md G 9)) hx hb htu wu_in hown hK hP 9 (by decide) (htu _ U_54) rfl rfl dX8_asks_185 ?_
          refine lv_iload_n hx hb dX8_asks_188 rfl (lv_at hl 4 rfl) ?_
          refine m_ald (j := b) (v := nI (lev z b)) hx hb hK hP 8 9 rfl (by omega) (by decide) tb.2.1 dX8_asks_189 ?_
          refine lv_aload_n hx hb dX8_asks_190 rfl (lv_at hl 2 rfl) ?_
          refine m_get (v := .ref (md G 9)) hx hb htu wu_in hown hK hP 9 (by decide) (htu _ U_54) rfl rfl dX8_asks_191 ?_
          refine lv_iload_n hx hb dX8_asks_194 rfl (lv_at hl 3 rfl) ?_
          refine m_ald (j := a) (v := nI (lev z a)) hx hb hK hP 8 9 rfl (by omega) (by decide) ta.2.1 dX8_asks_195 ?_
          refine lv_icmp_gt (tgt := 283) hx hb dX8_asks_196 (by decide) (fun c_34 => ?_) (fun c_34 => ?_)
          · skip
            have nc_34 : lev z a < lev z b := (nI_ltI (a := lev z a) (b := lev z b) (by omega) (by omega)).mp c_34
            refine lv_iload hx hb dX8_asks_283 (lv_at hl 0 rfl) ?_
            refine lv_iconst (v := 3) hx hb dX8_asks_285 (by decide) ?_
            refine lv_icmp_ne (tgt := 392) hx hb dX8_asks_286 (by decide) (fun c_35 => ?_) (fun c_35 => ?_)
            · skip
              have nc_35 : ¬ srt z b = 3 := fun h9 => c_35 ((nI_eq (a := srt z b) (b := 3) (by omega) (by omega)).mpr h9)
              refine lv_iload_n hx hb dX8_asks_392 rfl (lv_at hl 1 rfl) ?_
              refine lv_iconst (v := 3) hx hb dX8_asks_393 (by decide) ?_
              refine lv_icmp_ne (tgt := 421) hx hb dX8_asks_394 (by decide) (fun c_36 => absurd (congrArg nI (show srt z a = 3 by omega)) c_36) (fun c_36 => ?_)
              have ca : asks (un fu) z a b = un fu (startCp z b 1 (lev z a) (lev z a)).1 a (startCp z b 1 (lev z a) (lev z a)).2 := by unfold asks; rw [if_neg (by omega), if_neg (by omega), if_neg (by omega), if_neg (by omega), if_neg (by omega), if_pos (by omega)]
              obtain ⟨S, eS⟩ : ∃ y, y = startCp z b 1 (lev z a) (lev z a) := ⟨_, rfl⟩
              rw [← eS] at ca
              rw [ca] at hb0
              have hbS : bnd S.1 ≤ 200000 := Nat.le_trans (b_un fu _ _ _) hb0
              have xS : Lx z S.1 := by rw [eS]; exact x_start _ _ _ _ _
              refine lv_aload_n hx hb dX8_asks_397 rfl (lv_at hl 2 rfl) ?_
              refine lv_iload_n hx hb dX8_asks_398 rfl (lv_at hl 4 rfl) ?_
              refine lv_iconst (v := 1) hx hb dX8_asks_399 (by decide) ?_
              refine lv_aload_n hx hb dX8_asks_400 rfl (lv_at hl 2 rfl) ?_
              refine m_get (v := .ref (md G 9)) hx hb htu wu_in hown hK hP 9 (by decide) (htu _ U_54) rfl rfl dX8_asks_401 ?_
              refine lv_iload_n hx hb dX8_asks_404 rfl (lv_at hl 3 rfl) ?_
              refine m_ald (j := a) (v := nI (lev z a)) hx hb hK hP 8 9 rfl (by omega) (by decide) ta.2.1 dX8_asks_405 ?_
              refine m_ci (m_runV (As := [.int (nI b), .int 1, .int (nI (lev z a))]) (rest := []) ⟨hx, hb, hml, hown, htu⟩ (m_beginLift l G hDD o F z ix lf b 1 (lev z a) hm hR hM0 ((by omega)) ((by omega)) tal hh ((by rw [← eS]; exact hbS)) hd2 hl0 ((hh2 h0)) h0 hb1 H.size) (cwV 3 htu gU_X8_beginLift rfl rfl rfl (by decide +kernel) ⟨show 187 + 1 ≤ 2 * fu + 191 by omega, show 8 + (4 + 11) + 5145 ≤ 60 * fu + 5330 by omega⟩) hP hK rfl hl.1 rfl (lv_room (Nat.le_of_ble_eq_true rfl)) dX8_asks_406) hS (fun r_37 o_38 F_39 H locs hw_40 hP hS => ?_)
              try dsimp only at hw_40
              rw [← eS] at hw_40
              obtain ⟨⟨⟨ix1, hR1, hP1⟩, hM1, hv1, hs1, hH1, hK1⟩, he1, hl1⟩ := hw_40
              obtain ⟨hm1, hh1, hq1, hx1⟩ := hH1.at hh (by have := hh2 h0; omega)
              have xn := xS.1
              have xs := xS.2.2.2.2.2
              refine lv_istore (lv' := [(5, .int r_37), (4, .int (nI (srt z b))), (3, .int (nI (srt z a))), (0, .ref (mh G)), (1, .int (nI a)), (2, .int (nI b))]) hx hb dX8_asks_409 hl (by decide) rfl (fun ls hl => ?_)
              refine lv_aload_n hx hb dX8_asks_411 rfl (lv_at hl 3 rfl) ?_
              refine lv_iload_n hx hb dX8_asks_412 rfl (lv_at hl 4 rfl) ?_
              refine lv_iload hx hb dX8_asks_413 (lv_at hl 0 rfl) ?_
              refine m_cv (m_runV (As := [.int (nI a), .int r_37]) (rest := []) ⟨hx, hb, hml, hown, htu⟩ (ih l G hDD o_38 F_39 S.1 ix1 (lf + 1) a S.2 hm1 (nI a) r_37 hR1 hM1.m0 hl1 hh1 ((by have := hh2 h0; omega)) ((fun h => by have := hh2 h0; have := hq1 h; omega)) ((he1.trans hd2)) hb0 ((by omega)) (((hK1 31 (by decide)).1.trans hd)) hfu ((fun h => ⟨rfl, (hv1 h).1, by omega, (hv1 h).2⟩)) H.size) (cwV 2 htu gU_X8_under rfl rfl rfl (by decide +kernel) ⟨show (2 * fu + 190) + 1 ≤ 2 * fu + 191 by omega, show 8 + (3 + 11) + (60 * fu + 5300) ≤ 60 * fu + 5330 by omega⟩) hP hK rfl hl.1 rfl (lv_room (Nat.le_of_ble_eq_true rfl)) dX8_asks_415) hS (fun o_42 F_43 H locs hw_44 hP hS => ?_)
              try dsimp only at hw_44
              obtain ⟨⟨ix2, lf2, hR2, hP2, hM2, hl2, hf2⟩, hs2, hH2, hd2b, he2, hK2⟩ := hw_44
              refine lv_goto (tgt := 461) hx hb dX8_asks_418 (by decide) ?_
              exact m_vret hx hb hr hK hP hS (by rw [ca]; exact ⟨⟨ix2, lf2, hR2, Px.tr hR hP1 xS hP2, hM2, hl2, hf2⟩, fun h => absurd h0 h, HM.tr hH1 hh hq1 hH2 hs2 un_sto, hd2b.trans (hK1 31 (by decide)).1, he2.trans he1, Kq.tr (hK1.mono (by decide)) hK2⟩) dX8_asks_461 hlocks
            · skip
              have nc_35 : srt z b = 3 := (nI_eq (a := srt z b) (b := 3) (by omega) (by omega)).mp c_35
              refine lv_aload_n hx hb dX8_asks_289 rfl (lv_at hl 2 rfl) ?_
              refine m_get (v := .ref (md G 9)) hx hb htu wu_in hown hK hP 9 (by decide) (htu _ U_54) rfl rfl dX8_asks_290 ?_
              refine lv_iload_n hx hb dX8_asks_293 rfl (lv_at hl 3 rfl) ?_
              refine m_ald (j := a) (v := nI (lev z a)) hx hb hK hP 8 9 rfl (by omega) (by decide) ta.2.1 dX8_asks_294 ?_
              refine lv_aload_n hx hb dX8_asks_295 rfl (lv_at hl 2 rfl) ?_
              refine m_get (v := .ref (md G 9)) hx hb htu wu_in hown hK hP 9 (by decide) (htu _ U_54) rfl rfl dX8_asks_296 ?_
              refine lv_iload_n hx hb dX8_asks_299 rfl (lv_at hl 4 rfl) ?_
              refine m_ald (j := b) (v := nI (lev z b)) hx hb hK hP 8 9 rfl (by omega) (by decide) tb.2.1 dX8_asks_300 ?_
              refine lv_icmp_gt (tgt := 392) hx hb dX8_asks_301 (by decide) (fun c_45 => ?_) (fun c_45 => ?_)
              · skip
                have nc_45 : lev z b < lev z a := (nI_ltI (a := lev z b) (b := lev z a) (by omega) (by omega)).mp c_45
                refine lv_iload_n hx hb dX8_asks_392 rfl (lv_at hl 1 rfl) ?_
                refine lv_iconst (v := 3) hx hb dX8_asks_393 (by decide) ?_
                refine lv_icmp_ne (tgt := 421) hx hb dX8_asks_394 (by decide) (fun c_46 => absurd (congrArg nI (show srt z a = 3 by omega)) c_46) (fun c_46 => ?_)
                have ca : asks (un fu) z a b = un fu (startCp z b 1 (lev z a) (lev z a)).1 a (startCp z b 1 (lev z a) (lev z a)).2 := by unfold asks; rw [if_neg (by omega), if_neg (by omega), if_neg (by omega), if_neg (by omega), if_neg (by omega), if_pos (by omega)]
                obtain ⟨S, eS⟩ : ∃ y, y = startCp z b 1 (lev z a) (lev z a) := ⟨_, rfl⟩
                rw [← eS] at ca
                rw [ca] at hb0
                have hbS : bnd S.1 ≤ 200000 := Nat.le_trans (b_un fu _ _ _) hb0
                have xS : Lx z S.1 := by rw [eS]; exact x_start _ _ _ _ _
                refine lv_aload_n hx hb dX8_asks_397 rfl (lv_at hl 2 rfl) ?_
                refine lv_iload_n hx hb dX8_asks_398 rfl (lv_at hl 4 rfl) ?_
                refine lv_iconst (v := 1) hx hb dX8_asks_399 (by decide) ?_
                refine lv_aload_n hx hb dX8_asks_400 rfl (lv_at hl 2 rfl) ?_
                refine m_get (v := .ref (md G 9)) hx hb htu wu_in hown hK hP 9 (by decide) (htu _ U_54) rfl rfl dX8_asks_401 ?_
                refine lv_iload_n hx hb dX8_asks_404 rfl (lv_at hl 3 rfl) ?_
                refine m_ald (j := a) (v := nI (lev z a)) hx hb hK hP 8 9 rfl (by omega) (by decide) ta.2.1 dX8_asks_405 ?_
                refine m_ci (m_runV (As := [.int (nI b), .int 1, .int (nI (lev z a))]) (rest := []) ⟨hx, hb, hml, hown, htu⟩ (m_beginLift l G hDD o F z ix lf b 1 (lev z a) hm hR hM0 ((by omega)) ((by omega)) tal hh ((by rw [← eS]; exact hbS)) hd2 hl0 ((hh2 h0)) h0 hb1 H.size) (cwV 3 htu gU_X8_beginLift rfl rfl rfl (by decide +kernel) ⟨show 187 + 1 ≤ 2 * fu + 191 by omega, show 8 + (4 + 11) + 5145 ≤ 60 * fu + 5330 by omega⟩) hP hK rfl hl.1 rfl (lv_room (Nat.le_of_ble_eq_true rfl)) dX8_asks_406) hS (fun r_47 o_48 F_49 H locs hw_50 hP hS => ?_)
                try dsimp only at hw_50
                rw [← eS] at hw_50
                obtain ⟨⟨⟨ix1, hR1, hP1⟩, hM1, hv1, hs1, hH1, hK1⟩, he1, hl1⟩ := hw_50
                obtain ⟨hm1, hh1, hq1, hx1⟩ := hH1.at hh (by have := hh2 h0; omega)
                have xn := xS.1
                have xs := xS.2.2.2.2.2
                refine lv_istore (lv' := [(5, .int r_47), (4, .int (nI (srt z b))), (3, .int (nI (srt z a))), (0, .ref (mh G)), (1, .int (nI a)), (2, .int (nI b))]) hx hb dX8_asks_409 hl (by decide) rfl (fun ls hl => ?_)
                refine lv_aload_n hx hb dX8_asks_411 rfl (lv_at hl 3 rfl) ?_
                refine lv_iload_n hx hb dX8_asks_412 rfl (lv_at hl 4 rfl) ?_
                refine lv_iload hx hb dX8_asks_413 (lv_at hl 0 rfl) ?_
                refine m_cv (m_runV (As := [.int (nI a), .int r_47]) (rest := []) ⟨hx, hb, hml, hown, htu⟩ (ih l G hDD o_48 F_49 S.1 ix1 (lf + 1) a S.2 hm1 (nI a) r_47 hR1 hM1.m0 hl1 hh1 ((by have := hh2 h0; omega)) ((fun h => by have := hh2 h0; have := hq1 h; omega)) ((he1.trans hd2)) hb0 ((by omega)) (((hK1 31 (by decide)).1.trans hd)) hfu ((fun h => ⟨rfl, (hv1 h).1, by omega, (hv1 h).2⟩)) H.size) (cwV 2 htu gU_X8_under rfl rfl rfl (by decide +kernel) ⟨show (2 * fu + 190) + 1 ≤ 2 * fu + 191 by omega, show 8 + (3 + 11) + (60 * fu + 5300) ≤ 60 * fu + 5330 by omega⟩) hP hK rfl hl.1 rfl (lv_room (Nat.le_of_ble_eq_true rfl)) dX8_asks_415) hS (fun o_52 F_53 H locs hw_54 hP hS => ?_)
                try dsimp only at hw_54
                obtain ⟨⟨ix2, lf2, hR2, hP2, hM2, hl2, hf2⟩, hs2, hH2, hd2b, he2, hK2⟩ := hw_54
                refine lv_goto (tgt := 461) hx hb dX8_asks_418 (by decide) ?_
                exact m_vret hx hb hr hK hP hS (by rw [ca]; exact ⟨⟨ix2, lf2, hR2, Px.tr hR hP1 xS hP2, hM2, hl2, hf2⟩, fun h => absurd h0 h, HM.tr hH1 hh hq1 hH2 hs2 un_sto, hd2b.trans (hK1 31 (by decide)).1, he2.trans he1, Kq.tr (hK1.mono (by decide)) hK2⟩) dX8_asks_461 hlocks
              · skip
                have nc_45 : ¬ lev z b < lev z a := fun h9 => c_45 ((nI_ltI (a := lev z b) (b := lev z a) (by omega) (by omega)).mpr h9)
                have ca : asks (un fu) z a b = (row z 1 b).foldl (fun s x => un fu s a x) (bind z b 0 a) := by unfold asks; rw [if_neg (by omega), if_neg (by omega), if_neg (by omega), if_neg (by omega), if_pos (by omega)]
                obtain ⟨Z0, eZ⟩ : ∃ y, y = bind z b 0 a := ⟨_, rfl⟩
                rw [← eZ] at ca
                obtain ⟨L, eL⟩ : ∃ y, y = row Z0 1 b := ⟨_, rfl⟩
                have eL2 : row z 1 b = L := by rw [eL, eZ]; rfl
                rw [eL2] at ca
                rw [ca] at hb0
                have hbz : bnd Z0 ≤ 200000 := Nat.le_trans (b_fold (fun s x => b_un fu s a x) L Z0) hb0
                have bz1 : bnd z + 1 ≤ 200000 := by rw [eZ, b_bind] at hbz; exact hbz
                have xZ : Lx z Z0 := by rw [eZ]; exact x_bind _ _ _ _ (by omega)
                have hZ : b < nT Z0 := Nat.lt_of_lt_of_le hb1 xZ.1
                obtain ⟨s1, s2, s3, -⟩ := xZ.2.2.1 b hb1
                have hZ3 : srt Z0 b = 3 := s1.trans (by omega)
                have v2 := (hR.rw (sd := 0) hb1 (by omega) (by omega)).2
                refine lv_aload_n hx hb dX8_asks_304 rfl (lv_at hl 2 rfl) ?_
                refine lv_iload_n hx hb dX8_asks_305 rfl (lv_at hl 4 rfl) ?_
                refine lv_iconst (v := 0) hx hb dX8_asks_306 (by decide) ?_
                refine lv_iload_n hx hb dX8_asks_307 rfl (lv_at hl 3 rfl) ?_
                refine m_cv (m_runV (As := [.int (nI b), .int 0, .int (nI a)]) (rest := []) ⟨hx, hb, hml, hown, htu⟩ (m_bind l G hDD o F z ix b 0 a hR hb1 ((by omega)) ((by omega)) ha1 ((by omega)) H.size) (cwV 3 htu gU_X8_bind rfl rfl rfl (by decide +kernel) ⟨show 0 + 1 ≤ 2 * fu + 191 by omega, show 8 + (5 + 11) + 0 ≤ 60 * fu + 5330 by omega⟩) hP hK rfl hl.1 rfl (lv_room (Nat.le_of_ble_eq_true rfl)) dX8_asks_308) hS (fun o_56 F_57 H locs hw_58 hP hS => ?_)
                try dsimp only at hw_58
                obtain ⟨⟨ix2, gR2, gP2⟩, gK2⟩ := hw_58
                rw [← eZ] at gR2
                obtain ⟨gw, gv⟩ := gR2.rw (sd := 1) hZ hZ3 (by omega)
                rw [s3, ← eL] at gw
                have hw1 := (gR2.2.2.2.2.2.1.1 b hZ hZ3).1
                have hwo := s3
                refine lv_aload_n hx hb dX8_asks_311 rfl (lv_at hl 2 rfl) ?_
                refine m_get (v := .ref (md G 21)) hx hb htu wu_in hown hK hP 21 (by decide) (htu _ U_116) rfl rfl dX8_asks_312 ?_
                refine lv_iconst (v := 2) hx hb dX8_asks_315 (by decide) ?_
                refine lv_aload_n hx hb dX8_asks_316 rfl (lv_at hl 2 rfl) ?_
                refine m_get (v := .ref (md G 10)) hx hb htu wu_in hown hK hP 10 (by decide) (htu _ U_80) rfl rfl dX8_asks_317 ?_
                refine lv_iload_n hx hb dX8_asks_320 rfl (lv_at hl 4 rfl) ?_
                refine m_ald (j := b) (v := nI (one z b)) hx hb hK hP 9 10 rfl (by omega) (by decide) (hw1.trans (congrArg nI hwo)) dX8_asks_321 ?_
                refine lv_imul hx hb dX8_asks_322 ?_
                refine m_top (y := nI (2 * (one z b))) (pk_mul 2 (one z b)) ?_
                refine lv_iconst (v := 1) hx hb dX8_asks_323 (by decide) ?_
                refine lv_iadd hx hb dX8_asks_324 ?_
                refine m_top (y := nI (2 * (one z b) + 1)) (nI_add (2 * (one z b)) 1) ?_
                refine m_ald (j := 2 * (one z b) + 1) (v := nI L.length) hx hb hK hP 18 21 rfl (by omega) (by decide) gw.1 dX8_asks_325 ?_
                refine lv_istore (lv' := [(5, .int (nI L.length)), (4, .int (nI (srt z b))), (3, .int (nI (srt z a))), (0, .ref (mh G)), (1, .int (nI a)), (2, .int (nI b))]) hx hb dX8_asks_326 hl (by decide) rfl (fun ls hl => ?_)
                refine lv_aload_n hx hb dX8_asks_328 rfl (lv_at hl 3 rfl) ?_
                refine m_get (v := .ref (md G 19)) hx hb htu wu_in hown hK hP 19 (by decide) (htu _ U_117) rfl rfl dX8_asks_329 ?_
                refine lv_iconst (v := 2) hx hb dX8_asks_332 (by decide) ?_
                refine lv_aload_n hx hb dX8_asks_333 rfl (lv_at hl 3 rfl) ?_
                refine m_get (v := .ref (md G 10)) hx hb htu wu_in hown hK hP 10 (by decide) (htu _ U_80) rfl rfl dX8_asks_334 ?_
                refine lv_iload_n hx hb dX8_asks_337 rfl (lv_at hl 5 rfl) ?_
                refine m_ald (j := b) (v := nI (one z b)) hx hb hK hP 9 10 rfl (by omega) (by decide) (hw1.trans (congrArg nI hwo)) dX8_asks_338 ?_
                refine lv_imul hx hb dX8_asks_339 ?_
                refine m_top (y := nI (2 * (one z b))) (pk_mul 2 (one z b)) ?_
                refine lv_iconst (v := 1) hx hb dX8_asks_340 (by decide) ?_
                refine lv_iadd hx hb dX8_asks_341 ?_
                refine m_top (y := nI (2 * (one z b) + 1)) (nI_add (2 * (one z b)) 1) ?_
                refine m_ald (j := 2 * (one z b) + 1) (v := F_57 19 (2 * (one z b) + 1)) hx hb hK hP 16 19 rfl (by omega) (by decide) rfl dX8_asks_342 ?_
                refine lv_istore (lv' := [(6, .int (F_57 19 (2 * (one z b) + 1))), (5, .int (nI L.length)), (4, .int (nI (srt z b))), (3, .int (nI (srt z a))), (0, .ref (mh G)), (1, .int (nI a)), (2, .int (nI b))]) hx hb dX8_asks_343 hl (by decide) rfl (fun ls hl => ?_)
                refine lv_iconst (v := 0) hx hb dX8_asks_345 (by decide) ?_
                refine lv_istore (lv' := [(7, .int 0), (6, .int (F_57 19 (2 * (one z b) + 1))), (5, .int (nI L.length)), (4, .int (nI (srt z b))), (3, .int (nI (srt z a))), (0, .ref (mh G)), (1, .int (nI a)), (2, .int (nI b))]) hx hb dX8_asks_346 hl (by decide) rfl (fun ls hl => ?_)
                refine w_loop (fun j H locs k sl g => ∃ (i : Nat) (zi : aS) (ix1 : Nat → Nat → Nat) (lf1 : Nat) (o1 : Nat → Int32) (F1 : Nat → Nat → Int32) (kv : Int32) (ls : Array Slot), i + j = L.length ∧ L.foldl (fun s x => un fu s a x) Z0 = (L.drop i).foldl (fun s x => un fu s a x) zi ∧ MR zi ix1 o1 F1 ∧ Px z ix ix1 ∧ Lx Z0 zi ∧ M0 lf1 F1 ∧ o1 35 = nI lf1 ∧ lf1 ≤ stp zi ∧ o1 31 = o 31 ∧ o1 32 = o 32 ∧ Kq [7, 8, 9, 10, 11, 12, 13, 14, 15, 16, 17, 18, 19, 20, 21, 24, 26, 27, 28, 29, 30, 31, 32, 35, 36, 37, 38, 39] o F (o1, F1) ∧ HM zi hm 60 o F (o1, F1) ∧ (i < L.length → kv = nI (ix1 (2 * one z b + 1) i)) ∧ k = 0 ∧ sl = 0 ∧ mP G o1 F1 H ∧ va_S (mA G s.heap.size) s.heap H locs ∧ lv_has ls 8 [(7, .int (nI i)), (0, .ref (mh G)), (1, .int (nI a)), (2, .int (nI b)), (5, .int (nI L.length)), (6, .int kv)] ∧ g = F0 m 348 ls []) ?_ ?_ L.length _ _ _ _ _ ⟨0, Z0, ix2, lf, o_56, F_57, (F_57 19 (2 * one z b + 1)), ls, by omega, rfl, gR2, gP2, Lx.rf, (hM0.to (gK2 36 (by decide)).2), ((gK2 35 (by decide)).1.trans hl0), (by have := xZ.2.2.2.2.2; omega), (gK2 31 (by decide)).1, (gK2 32 (by decide)).1, (gK2.mono (by decide)), (HM.own hh (gK2 39 (by decide)).1 (gK2 38 (by decide)).2), (fun h => (gw.2.2.1 h).1), rfl, rfl, hP, hS, lv_sub hl [0, 5, 6, 7, 2, 1] rfl, rfl⟩
                · intro H locs k sl g hI
                  obtain ⟨i, zi, ix1, lf1, o1, F1, kv, ls, hp0, hp1, hp2, hp3, hp4, hp5, hp6, hp7, hp8, hp9, hp10, hp11, hp12, rfl, rfl, hP, hS, hl, rfl⟩ := hI
                  obtain ⟨m1, m2, m3, m4, m5, m6, m7, m8⟩ := hp2.2.1
                  have lb : L.length ≤ 200000 := Nat.le_trans gw.2.2.2.1 hbz
                  refine lv_iload hx hb dX8_asks_348 (lv_at hl 0 rfl) ?_
                  refine lv_iload hx hb dX8_asks_350 (lv_at hl 4 rfl) ?_
                  refine lv_icmp_ge (tgt := 389) hx hb dX8_asks_352 (by decide) (fun c_59 => ?_) (fun c_59 => absurd (nI_le (by omega) (by omega)) c_59)
                  refine lv_goto (tgt := 461) hx hb dX8_asks_389 (by decide) ?_
                  have hend : L.foldl (fun s x => un fu s a x) Z0 = zi := by rw [hp1, List.drop_eq_nil_of_le (by omega)]; rfl
                  exact m_vret hx hb hr hK hP hS (by rw [ca, hend]; exact ⟨⟨ix1, lf1, hp2, hp3, hp5, hp6, hp7⟩, fun h => absurd h0 h, hp11, hp8, hp9, hp10⟩) dX8_asks_461 hlocks
                · intro j ih9 H locs k sl g hI
                  obtain ⟨i, zi, ix1, lf1, o1, F1, kv, ls, hp0, hp1, hp2, hp3, hp4, hp5, hp6, hp7, hp8, hp9, hp10, hp11, hp12, rfl, rfl, hP, hS, hl, rfl⟩ := hI
                  obtain ⟨m1, m2, m3, m4, m5, m6, m7, m8⟩ := hp2.2.1
                  have lb : L.length ≤ 200000 := Nat.le_trans gw.2.2.2.1 hbz
                  have ni : i < L.length := by omega
                  refine lv_iload hx hb dX8_asks_348 (lv_at hl 0 rfl) ?_
                  refine lv_iload hx hb dX8_asks_350 (lv_at hl 4 rfl) ?_
                  refine lv_icmp_ge (tgt := 389) hx hb dX8_asks_352 (by decide) (fun c_60 => absurd c_60 (nI_ge ni (by omega))) (fun c_60 => ?_)
                  refine lv_aload_n hx hb dX8_asks_355 rfl (lv_at hl 1 rfl) ?_
                  refine m_get (v := .int (sc (sto zi))) hx hb htu wu_in hown hK hP 27 (by decide) (htu _ U_45) rfl (m_v hp2.1.2.2.2.2.1) dX8_asks_356 ?_
                  refine lv_if_ne (tgt := 389) hx hb dX8_asks_359 (by decide) (fun c_61 => ?_) (fun c_61 => ?_)
                  · skip
                    refine lv_goto (tgt := 461) hx hb dX8_asks_389 (by decide) ?_
                    have hend : L.foldl (fun s x => un fu s a x) Z0 = zi := by rw [hp1, fold_stop (fun s y h => un_st h) (fun h => c_61 (sc_0.mpr h))]
                    exact m_vret hx hb hr hK hP hS (by rw [ca, hend]; exact ⟨⟨ix1, lf1, hp2, hp3, hp5, hp6, hp7⟩, fun h => absurd h0 h, hp11, hp8, hp9, hp10⟩) dX8_asks_461 hlocks
                  · skip
                    have g0 : sto zi = 0 := sc_0.mp c_61
                    obtain rfl := hp12 ni
                    obtain ⟨l1, l2, l3, l4, l5, l6, l7, l8⟩ := hp2.pl (sd := 1) hp4 hZ hZ3 (by omega) (by rw [← eL]; exact ni)
                    rw [s3, ← eL] at l3
                    rw [s3] at l2
                    have l2 : ix1 (2 * one z b + 1) i < bnd zi := l2
                    rw [← eL] at l4
                    rw [s3] at l7
                    have hst := hp1.trans (fold_step (g := (fun s x => un fu s a x)) ni)
                    have hbi : bnd (un fu zi a (L.getD i 0)) ≤ 200000 := by refine Nat.le_trans ?_ hb0; rw [hst]; exact b_fold (fun s x => b_un fu s a x) _ _
                    have x9 : Lx zi (un fu zi a (L.getD i 0)) := x_un fu _ _ _
                    have xn := xZ.1
                    have xm := hp4.1
                    refine lv_aload_n hx hb dX8_asks_362 rfl (lv_at hl 1 rfl) ?_
                    refine lv_iload_n hx hb dX8_asks_363 rfl (lv_at hl 2 rfl) ?_
                    refine lv_aload_n hx hb dX8_asks_364 rfl (lv_at hl 1 rfl) ?_
                    refine m_get (v := .ref (md G 17)) hx hb htu wu_in hown hK hP 17 (by decide) (htu _ U_118) rfl rfl dX8_asks_365 ?_
                    refine lv_iload hx hb dX8_asks_368 (lv_at hl 5 rfl) ?_
                    refine m_ald (j := ix1 (2 * one z b + 1) i) (v := nI (L.getD i 0)) hx hb hK hP 14 17 rfl (by omega) (by decide) l3 dX8_asks_370 ?_
                    refine m_cv (m_runV (As := [.int (nI a), .int (nI (L.getD i 0))]) (rest := []) ⟨hx, hb, hml, hown, htu⟩ (ih l G hDD o1 F1 zi ix1 lf1 a (L.getD i 0) hm (nI a) (nI (L.getD i 0)) hp2 hp5 hp6 (((hp11.1 g0).trans hh)) hhm ((fun _ => hh2 h0)) ((hp9.trans hd2)) hbi hp7 ((hp8.trans hd)) hfu ((fun _ => ⟨rfl, rfl, by omega, l4⟩)) H.size) (cwV 2 htu gU_X8_under rfl rfl rfl (by decide +kernel) ⟨show (2 * fu + 190) + 1 ≤ 2 * fu + 191 by omega, show 8 + (3 + 11) + (60 * fu + 5300) ≤ 60 * fu + 5330 by omega⟩) hP hK rfl hl.1 rfl (lv_room (Nat.le_of_ble_eq_true rfl)) dX8_asks_371) hS (fun o_63 F_64 H locs hw_65 hP hS => ?_)
                    try dsimp only at hw_65
                    obtain ⟨⟨ix3, lf2, hR2, hP2, hM2, hl2, hf2⟩, hs2, hH2, hd2b, he2, hK2⟩ := hw_65
                    have q3 : ix3 (2 * one z b + 1) i = ix1 (2 * one z b + 1) i := by have := hP2.at (sd := 1) hp2 l5 l6 (by omega) l1; rw [l7] at this; exact this
                    refine lv_aload_n hx hb dX8_asks_374 rfl (lv_at hl 1 rfl) ?_
                    refine m_get (v := .ref (md G 18)) hx hb htu wu_in hown hK hP 18 (by decide) (htu _ U_119) rfl rfl dX8_asks_375 ?_
                    refine lv_iload hx hb dX8_asks_378 (lv_at hl 5 rfl) ?_
                    refine m_ald (j := ix1 (2 * one z b + 1) i) (v := F_64 18 (ix1 (2 * one z b + 1) i)) hx hb hK hP 15 18 rfl (by omega) (by decide) rfl dX8_asks_380 ?_
                    refine lv_istore (lv' := [(6, .int (F_64 18 (ix1 (2 * one z b + 1) i))), (7, .int (nI i)), (0, .ref (mh G)), (1, .int (nI a)), (2, .int (nI b)), (5, .int (nI L.length))]) hx hb dX8_asks_381 hl (by decide) rfl (fun ls hl => ?_)
                    refine lv_iinc (v := nI (i + 1)) (lv' := [(7, .int (nI (i + 1))), (6, .int (F_64 18 (ix1 (2 * one z b + 1) i))), (0, .ref (mh G)), (1, .int (nI a)), (2, .int (nI b)), (5, .int (nI L.length))]) hx hb dX8_asks_383 hl (k := 1) rfl (nI_1 i) (by decide) rfl (fun ls hl => ?_)
                    refine lv_goto (tgt := 348) hx hb dX8_asks_386 (by decide) ?_
                    exact ih9 _ _ _ _ _ ⟨i + 1, (un fu zi a (L.getD i 0)), ix3, lf2, o_63, F_64, (F_64 18 (ix1 (2 * one z b + 1) i)), ls, by omega, hst, hR2, (Px.tr hR hp3 (xZ.tr hp4) hP2), (hp4.tr x9), hM2, hl2, hf2, (hd2b.trans hp8), (he2.trans hp9), (Kq.tr hp10 hK2), (HM.tr hp11 hh (h1 := hm) (fun _ => rfl) hH2 (fun h => absurd g0 h) (fun _ => g0)), (fun h => by have h6 := (hR2.pl (sd := 1) (hp4.tr x9) hZ hZ3 (by omega) (i := i) (by rw [← eL]; exact ni)).2.2.2.2.2.2.2 (by rw [← eL]; exact h); rw [s3] at h6; rw [← q3]; exact h6), rfl, rfl, hP, hS, lv_sub hl [0, 2, 3, 4, 5, 1] rfl, rfl⟩
          · skip
            have nc_34 : ¬ lev z a < lev z b := fun h9 => c_34 ((nI_ltI (a := lev z a) (b := lev z b) (by omega) (by omega)).mpr h9)
            have ca : asks (un fu) z a b = (row z 0 a).foldl (fun s x => un fu s x b) (bind z a 1 b) := by unfold asks; rw [if_neg (by omega), if_neg (by omega), if_neg (by omega), if_pos (by omega)]
            obtain ⟨Z0, eZ⟩ : ∃ y, y = bind z a 1 b := ⟨_, rfl⟩
            rw [← eZ] at ca
            obtain ⟨L, eL⟩ : ∃ y, y = row Z0 0 a := ⟨_, rfl⟩
            have eL2 : row z 0 a = L := by rw [eL, eZ]; rfl
            rw [eL2] at ca
            rw [ca] at hb0
            have hbz : bnd Z0 ≤ 200000 := Nat.le_trans (b_fold (fun s x => b_un fu s x b) L Z0) hb0
            have bz1 : bnd z + 1 ≤ 200000 := by rw [eZ, b_bind] at hbz; exact hbz
            have xZ : Lx z Z0 := by rw [eZ]; exact x_bind _ _ _ _ (by omega)
            have hZ : a < nT Z0 := Nat.lt_of_lt_of_le ha1 xZ.1
            obtain ⟨s1, s2, s3, -⟩ := xZ.2.2.1 a ha1
            have hZ3 : srt Z0 a = 3 := s1.trans (by omega)
            have v2 := (hR.rw (sd := 0) ha1 (by omega) (by omega)).2
            refine lv_aload_n hx hb dX8_asks_199 rfl (lv_at hl 2 rfl) ?_
            refine lv_iload_n hx hb dX8_asks_200 rfl (lv_at hl 3 rfl) ?_
            refine lv_iconst (v := 1) hx hb dX8_asks_201 (by decide) ?_
            refine lv_iload_n hx hb dX8_asks_202 rfl (lv_at hl 4 rfl) ?_
            refine m_cv (m_runV (As := [.int (nI a), .int 1, .int (nI b)]) (rest := []) ⟨hx, hb, hml, hown, htu⟩ (m_bind l G hDD o F z ix a 1 b hR ha1 ((by omega)) ((by omega)) hb1 ((by omega)) H.size) (cwV 3 htu gU_X8_bind rfl rfl rfl (by decide +kernel) ⟨show 0 + 1 ≤ 2 * fu + 191 by omega, show 8 + (5 + 11) + 0 ≤ 60 * fu + 5330 by omega⟩) hP hK rfl hl.1 rfl (lv_room (Nat.le_of_ble_eq_true rfl)) dX8_asks_203) hS (fun o_67 F_68 H locs hw_69 hP hS => ?_)
            try dsimp only at hw_69
            obtain ⟨⟨ix2, gR2, gP2⟩, gK2⟩ := hw_69
            rw [← eZ] at gR2
            obtain ⟨gw, gv⟩ := gR2.rw (sd := 0) hZ hZ3 (by omega)
            rw [s3, ← eL] at gw
            have hw1 := (gR2.2.2.2.2.2.1.1 a hZ hZ3).1
            have hwo := s3
            refine lv_aload_n hx hb dX8_asks_206 rfl (lv_at hl 2 rfl) ?_
            refine m_get (v := .ref (md G 21)) hx hb htu wu_in hown hK hP 21 (by decide) (htu _ U_116) rfl rfl dX8_asks_207 ?_
            refine lv_iconst (v := 2) hx hb dX8_asks_210 (by decide) ?_
            refine lv_aload_n hx hb dX8_asks_211 rfl (lv_at hl 2 rfl) ?_
            refine m_get (v := .ref (md G 10)) hx hb htu wu_in hown hK hP 10 (by decide) (htu _ U_80) rfl rfl dX8_asks_212 ?_
            refine lv_iload_n hx hb dX8_asks_215 rfl (lv_at hl 3 rfl) ?_
            refine m_ald (j := a) (v := nI (one z a)) hx hb hK hP 9 10 rfl (by omega) (by decide) (hw1.trans (congrArg nI hwo)) dX8_asks_216 ?_
            refine lv_imul hx hb dX8_asks_217 ?_
            refine m_top (y := nI (2 * (one z a))) (pk_mul 2 (one z a)) ?_
            refine m_ald (j := 2 * (one z a)) (v := nI L.length) hx hb hK hP 18 21 rfl (by omega) (by decide) gw.1 dX8_asks_218 ?_
            refine lv_istore (lv' := [(5, .int (nI L.length)), (4, .int (nI (srt z b))), (3, .int (nI (srt z a))), (0, .ref (mh G)), (1, .int (nI a)), (2, .int (nI b))]) hx hb dX8_asks_219 hl (by decide) rfl (fun ls hl => ?_)
            refine lv_aload_n hx hb dX8_asks_221 rfl (lv_at hl 3 rfl) ?_
            refine m_get (v := .ref (md G 19)) hx hb htu wu_in hown hK hP 19 (by decide) (htu _ U_117) rfl rfl dX8_asks_222 ?_
            refine lv_iconst (v := 2) hx hb dX8_asks_225 (by decide) ?_
            refine lv_aload_n hx hb dX8_asks_226 rfl (lv_at hl 3 rfl) ?_
            refine m_get (v := .ref (md G 10)) hx hb htu wu_in hown hK hP 10 (by decide) (htu _ U_80) rfl rfl dX8_asks_227 ?_
            refine lv_iload_n hx hb dX8_asks_230 rfl (lv_at hl 4 rfl) ?_
            refine m_ald (j := a) (v := nI (one z a)) hx hb hK hP 9 10 rfl (by omega) (by decide) (hw1.trans (congrArg nI hwo)) dX8_asks_231 ?_
            refine lv_imul hx hb dX8_asks_232 ?_
            refine m_top (y := nI (2 * (one z a))) (pk_mul 2 (one z a)) ?_
            refine m_ald (j := 2 * (one z a)) (v := F_68 19 (2 * (one z a))) hx hb hK hP 16 19 rfl (by omega) (by decide) rfl dX8_asks_233 ?_
            refine lv_istore (lv' := [(6, .int (F_68 19 (2 * (one z a)))), (5, .int (nI L.length)), (4, .int (nI (srt z b))), (3, .int (nI (srt z a))), (0, .ref (mh G)), (1, .int (nI a)), (2, .int (nI b))]) hx hb dX8_asks_234 hl (by decide) rfl (fun ls hl => ?_)
            refine lv_iconst (v := 0) hx hb dX8_asks_236 (by decide) ?_
            refine lv_istore (lv' := [(7, .int 0), (6, .int (F_68 19 (2 * (one z a)))), (5, .int (nI L.length)), (4, .int (nI (srt z b))), (3, .int (nI (srt z a))), (0, .ref (mh G)), (1, .int (nI a)), (2, .int (nI b))]) hx hb dX8_asks_237 hl (by decide) rfl (fun ls hl => ?_)
            refine w_loop (fun j H locs k sl g => ∃ (i : Nat) (zi : aS) (ix1 : Nat → Nat → Nat) (lf1 : Nat) (o1 : Nat → Int32) (F1 : Nat → Nat → Int32) (kv : Int32) (ls : Array Slot), i + j = L.length ∧ L.foldl (fun s x => un fu s x b) Z0 = (L.drop i).foldl (fun s x => un fu s x b) zi ∧ MR zi ix1 o1 F1 ∧ Px z ix ix1 ∧ Lx Z0 zi ∧ M0 lf1 F1 ∧ o1 35 = nI lf1 ∧ lf1 ≤ stp zi ∧ o1 31 = o 31 ∧ o1 32 = o 32 ∧ Kq [7, 8, 9, 10, 11, 12, 13, 14, 15, 16, 17, 18, 19, 20, 21, 24, 26, 27, 28, 29, 30, 31, 32, 35, 36, 37, 38, 39] o F (o1, F1) ∧ HM zi hm 60 o F (o1, F1) ∧ (i < L.length → kv = nI (ix1 (2 * one z a) i)) ∧ k = 0 ∧ sl = 0 ∧ mP G o1 F1 H ∧ va_S (mA G s.heap.size) s.heap H locs ∧ lv_has ls 8 [(7, .int (nI i)), (0, .ref (mh G)), (1, .int (nI a)), (2, .int (nI b)), (5, .int (nI L.length)), (6, .int kv)] ∧ g = F0 m 239 ls []) ?_ ?_ L.length _ _ _ _ _ ⟨0, Z0, ix2, lf, o_67, F_68, (F_68 19 (2 * one z a)), ls, by omega, rfl, gR2, gP2, Lx.rf, (hM0.to (gK2 36 (by decide)).2), ((gK2 35 (by decide)).1.trans hl0), (by have := xZ.2.2.2.2.2; omega), (gK2 31 (by decide)).1, (gK2 32 (by decide)).1, (gK2.mono (by decide)), (HM.own hh (gK2 39 (by decide)).1 (gK2 38 (by decide)).2), (fun h => (gw.2.2.1 h).1), rfl, rfl, hP, hS, lv_sub hl [0, 5, 6, 7, 2, 1] rfl, rfl⟩
            · intro H locs k sl g hI
              obtain ⟨i, zi, ix1, lf1, o1, F1, kv, ls, hp0, hp1, hp2, hp3, hp4, hp5, hp6, hp7, hp8, hp9, hp10, hp11, hp12, rfl, rfl, hP, hS, hl, rfl⟩ := hI
              obtain ⟨m1, m2, m3, m4, m5, m6, m7, m8⟩ := hp2.2.1
              have lb : L.length ≤ 200000 := Nat.le_trans gw.2.2.2.1 hbz
              refine lv_iload hx hb dX8_asks_239 (lv_at hl 0 rfl) ?_
              refine lv_iload hx hb dX8_asks_241 (lv_at hl 4 rfl) ?_
              refine lv_icmp_ge (tgt := 280) hx hb dX8_asks_243 (by decide) (fun c_70 => ?_) (fun c_70 => absurd (nI_le (by omega) (by omega)) c_70)
              refine lv_goto (tgt := 461) hx hb dX8_asks_280 (by decide) ?_
              have hend : L.foldl (fun s x => un fu s x b) Z0 = zi := by rw [hp1, List.drop_eq_nil_of_le (by omega)]; rfl
              exact m_vret hx hb hr hK hP hS (by rw [ca, hend]; exact ⟨⟨ix1, lf1, hp2, hp3, hp5, hp6, hp7⟩, fun h => absurd h0 h, hp11, hp8, hp9, hp10⟩) dX8_asks_461 hlocks
            · intro j ih9 H locs k sl g hI
              obtain ⟨i, zi, ix1, lf1, o1, F1, kv, ls, hp0, hp1, hp2, hp3, hp4, hp5, hp6, hp7, hp8, hp9, hp10, hp11, hp12, rfl, rfl, hP, hS, hl, rfl⟩ := hI
              obtain ⟨m1, m2, m3, m4, m5, m6, m7, m8⟩ := hp2.2.1
              have lb : L.length ≤ 200000 := Nat.le_trans gw.2.2.2.1 hbz
              have ni : i < L.length := by omega
              refine lv_iload hx hb dX8_asks_239 (lv_at hl 0 rfl) ?_
              refine lv_iload hx hb dX8_asks_241 (lv_at hl 4 rfl) ?_
              refine lv_icmp_ge (tgt := 280) hx hb dX8_asks_243 (by decide) (fun c_71 => absurd c_71 (nI_ge ni (by omega))) (fun c_71 => ?_)
              refine lv_aload_n hx hb dX8_asks_246 rfl (lv_at hl 1 rfl) ?_
              refine m_get (v := .int (sc (sto zi))) hx hb htu wu_in hown hK hP 27 (by decide) (htu _ U_45) rfl (m_v hp2.1.2.2.2.2.1) dX8_asks_247 ?_
              refine lv_if_ne (tgt := 280) hx hb dX8_asks_250 (by decide) (fun c_72 => ?_) (fun c_72 => ?_)
              · skip
                refine lv_goto (tgt := 461) hx hb dX8_asks_280 (by decide) ?_
                have hend : L.foldl (fun s x => un fu s x b) Z0 = zi := by rw [hp1, fold_stop (fun s y h => un_st h) (fun h => c_72 (sc_0.mpr h))]
                exact m_vret hx hb hr hK hP hS (by rw [ca, hend]; exact ⟨⟨ix1, lf1, hp2, hp3, hp5, hp6, hp7⟩, fun h => absurd h0 h, hp11, hp8, hp9, hp10⟩) dX8_asks_461 hlocks
              · skip
                have g0 : sto zi = 0 := sc_0.mp c_72
                obtain rfl := hp12 ni
                obtain ⟨l1, l2, l3, l4, l5, l6, l7, l8⟩ := hp2.pl (sd := 0) hp4 hZ hZ3 (by omega) (by rw [← eL]; exact ni)
                rw [s3, ← eL] at l3
                rw [s3] at l2
                have l2 : ix1 (2 * one z a) i < bnd zi := l2
                rw [← eL] at l4
                rw [s3] at l7
                have hst := hp1.trans (fold_step (g := (fun s x => un fu s x b)) ni)
                have hbi : bnd (un fu zi (L.getD i 0) b) ≤ 200000 := by refine Nat.le_trans ?_ hb0; rw [hst]; exact b_fold (fun s x => b_un fu s x b) _ _
                have x9 : Lx zi (un fu zi (L.getD i 0) b) := x_un fu _ _ _
                have xn := xZ.1
                have xm := hp4.1
                refine lv_aload_n hx hb dX8_asks_253 rfl (lv_at hl 1 rfl) ?_
                refine lv_aload_n hx hb dX8_asks_254 rfl (lv_at hl 1 rfl) ?_
                refine m_get (v := .ref (md G 17)) hx hb htu wu_in hown hK hP 17 (by decide) (htu _ U_118) rfl rfl dX8_asks_255 ?_
                refine lv_iload hx hb dX8_asks_258 (lv_at hl 5 rfl) ?_
                refine m_ald (j := ix1 (2 * one z a) i) (v := nI (L.getD i 0)) hx hb hK hP 14 17 rfl (by omega) (by decide) l3 dX8_asks_260 ?_
                refine lv_iload_n hx hb dX8_asks_261 rfl (lv_at hl 3 rfl) ?_
                refine m_cv (m_runV (As := [.int (nI (L.getD i 0)), .int (nI b)]) (rest := []) ⟨hx, hb, hml, hown, htu⟩ (ih l G hDD o1 F1 zi ix1 lf1 (L.getD i 0) b hm (nI (L.getD i 0)) (nI b) hp2 hp5 hp6 (((hp11.1 g0).trans hh)) hhm ((fun _ => hh2 h0)) ((hp9.trans hd2)) hbi hp7 ((hp8.trans hd)) hfu ((fun _ => ⟨rfl, rfl, l4, by omega⟩)) H.size) (cwV 2 htu gU_X8_under rfl rfl rfl (by decide +kernel) ⟨show (2 * fu + 190) + 1 ≤ 2 * fu + 191 by omega, show 8 + (3 + 11) + (60 * fu + 5300) ≤ 60 * fu + 5330 by omega⟩) hP hK rfl hl.1 rfl (lv_room (Nat.le_of_ble_eq_true rfl)) dX8_asks_262) hS (fun o_74 F_75 H locs hw_76 hP hS => ?_)
                try dsimp only at hw_76
                obtain ⟨⟨ix3, lf2, hR2, hP2, hM2, hl2, hf2⟩, hs2, hH2, hd2b, he2, hK2⟩ := hw_76
                have q3 : ix3 (2 * one z a) i = ix1 (2 * one z a) i := by have := hP2.at (sd := 0) hp2 l5 l6 (by omega) l1; rw [l7] at this; exact this
                refine lv_aload_n hx hb dX8_asks_265 rfl (lv_at hl 1 rfl) ?_
                refine m_get (v := .ref (md G 18)) hx hb htu wu_in hown hK hP 18 (by decide) (htu _ U_119) rfl rfl dX8_asks_266 ?_
                refine lv_iload hx hb dX8_asks_269 (lv_at hl 5 rfl) ?_
                refine m_ald (j := ix1 (2 * one z a) i) (v := F_75 18 (ix1 (2 * one z a) i)) hx hb hK hP 15 18 rfl (by omega) (by decide) rfl dX8_asks_271 ?_
                refine lv_istore (lv' := [(6, .int (F_75 18 (ix1 (2 * one z a) i))), (7, .int (nI i)), (0, .ref (mh G)), (1, .int (nI a)), (2, .int (nI b)), (5, .int (nI L.length))]) hx hb dX8_asks_272 hl (by decide) rfl (fun ls hl => ?_)
                refine lv_iinc (v := nI (i + 1)) (lv' := [(7, .int (nI (i + 1))), (6, .int (F_75 18 (ix1 (2 * one z a) i))), (0, .ref (mh G)), (1, .int (nI a)), (2, .int (nI b)), (5, .int (nI L.length))]) hx hb dX8_asks_274 hl (k := 1) rfl (nI_1 i) (by decide) rfl (fun ls hl => ?_)
                refine lv_goto (tgt := 239) hx hb dX8_asks_277 (by decide) ?_
                exact ih9 _ _ _ _ _ ⟨i + 1, (un fu zi (L.getD i 0) b), ix3, lf2, o_74, F_75, (F_75 18 (ix1 (2 * one z a) i)), ls, by omega, hst, hR2, (Px.tr hR hp3 (xZ.tr hp4) hP2), (hp4.tr x9), hM2, hl2, hf2, (hd2b.trans hp8), (he2.trans hp9), (Kq.tr hp10 hK2), (HM.tr hp11 hh (h1 := hm) (fun _ => rfl) hH2 (fun h => absurd g0 h) (fun _ => g0)), (fun h => by have h6 := (hR2.pl (sd := 0) (hp4.tr x9) hZ hZ3 (by omega) (i := i) (by rw [← eL]; exact ni)).2.2.2.2.2.2.2 (by rw [← eL]; exact h); rw [s3] at h6; rw [← q3]; exact h6), rfl, rfl, hP, hS, lv_sub hl [0, 2, 3, 4, 5, 1] rfl, rfl⟩
      · skip
        have nc_3 : srt z a = 2 := (nI_eq (a := srt z a) (b := 2) (by omega) (by omega)).mp c_3
        refine lv_iload hx hb dX8_asks_76 (lv_at hl 0 rfl) ?_
        refine lv_iconst (v := 2) hx hb dX8_asks_78 (by decide) ?_
        refine lv_icmp_ne (tgt := 179) hx hb dX8_asks_79 (by decide) (fun c_77 => ?_) (fun c_77 => ?_)
        · skip
          have nc_77 : ¬ srt z b = 2 := fun h9 => c_77 ((nI_eq (a := srt z b) (b := 2) (by omega) (by omega)).mpr h9)
          refine lv_iload_n hx hb dX8_asks_179 rfl (lv_at hl 1 rfl) ?_
          refine lv_iconst (v := 3) hx hb dX8_asks_180 (by decide) ?_
          refine lv_icmp_ne (tgt := 283) hx hb dX8_asks_181 (by decide) (fun c_78 => ?_) (fun c_78 => absurd c_78 (fun h9 => absurd ((nI_eq (b := 3) (by omega) (by omega)).mp h9) (by omega)))
          refine lv_iload hx hb dX8_asks_283 (lv_at hl 0 rfl) ?_
          refine lv_iconst (v := 3) hx hb dX8_asks_285 (by decide) ?_
          refine lv_icmp_ne (tgt := 392) hx hb dX8_asks_286 (by decide) (fun c_79 => ?_) (fun c_79 => ?_)
          · skip
            have nc_79 : ¬ srt z b = 3 := fun h9 => c_79 ((nI_eq (a := srt z b) (b := 3) (by omega) (by omega)).mpr h9)
            refine lv_iload_n hx hb dX8_asks_392 rfl (lv_at hl 1 rfl) ?_
            refine lv_iconst (v := 3) hx hb dX8_asks_393 (by decide) ?_
            refine lv_icmp_ne (tgt := 421) hx hb dX8_asks_394 (by decide) (fun c_80 => ?_) (fun c_80 => absurd c_80 (fun h9 => absurd ((nI_eq (b := 3) (by omega) (by omega)).mp h9) (by omega)))
            refine lv_iload hx hb dX8_asks_421 (lv_at hl 0 rfl) ?_
            refine lv_iconst (v := 3) hx hb dX8_asks_423 (by decide) ?_
            refine lv_icmp_ne (tgt := 451) hx hb dX8_asks_424 (by decide) (fun c_81 => ?_) (fun c_81 => absurd c_81 (fun h9 => absurd ((nI_eq (b := 3) (by omega) (by omega)).mp h9) (by omega)))
            refine lv_aload_n hx hb dX8_asks_451 rfl (lv_at hl 2 rfl) ?_
            refine lv_bipush (v := (-7)) hx hb dX8_asks_452 (by decide) ?_
            refine lv_aload_n hx hb dX8_asks_454 rfl (lv_at hl 2 rfl) ?_
            refine m_get (v := .int (nI (askn z))) hx hb htu wu_in hown hK hP 25 (by decide) (htu _ U_61) rfl (m_v hR.1.2.2.2.2.2.2.1) dX8_asks_455 ?_
            refine m_cv (m_runV (As := [.int ((-7)), .int (nI (askn z))]) (rest := []) ⟨hx, hb, hml, hown, htu⟩ (m_stops l G hDD o F z ix 2 ((askn z)) hR ((Or.inr rfl)) ((by omega)) H.size) (cwV 2 htu gU_X8_stops rfl rfl rfl (by decide +kernel) ⟨show 0 + 1 ≤ 2 * fu + 191 by omega, show 8 + (3 + 11) + 0 ≤ 60 * fu + 5330 by omega⟩) hP hK rfl hl.1 rfl (lv_room (Nat.le_of_ble_eq_true rfl)) dX8_asks_458) hS (fun o_83 F_84 H locs hw_85 hP hS => ?_)
            try dsimp only at hw_85
            exact m_vret hx hb hr hK hP hS (by rw [show asks (un fu) z a b = stops z 2 (askn z) by unfold asks; rw [if_neg (by omega), if_neg (by omega), if_neg (by omega), if_neg (by omega), if_neg (by omega), if_neg (by omega), if_neg (by omega)]]; exact ⟨⟨ix, lf, hw_85.1, Px.rf, hM0.to (hw_85.2 36 (by decide)).2, (hw_85.2 35 (by decide)).1.trans hl0, Nat.le_trans (show lf ≤ stp z by omega) (x_stops _ _ _).2.2.2.2.2⟩, fun h => absurd h0 h, HM.own hh (hw_85.2 39 (by decide)).1 (hw_85.2 38 (by decide)).2, (hw_85.2 31 (by decide)).1, (hw_85.2 32 (by decide)).1, hw_85.2.mono (by decide)⟩) dX8_asks_461 hlocks
          · skip
            have nc_79 : srt z b = 3 := (nI_eq (a := srt z b) (b := 3) (by omega) (by omega)).mp c_79
            refine lv_aload_n hx hb dX8_asks_289 rfl (lv_at hl 2 rfl) ?_
            refine m_get (v := .ref (md G 9)) hx hb htu wu_in hown hK hP 9 (by decide) (htu _ U_54) rfl rfl dX8_asks_290 ?_
            refine lv_iload_n hx hb dX8_asks_293 rfl (lv_at hl 3 rfl) ?_
            refine m_ald (j := a) (v := nI (lev z a)) hx hb hK hP 8 9 rfl (by omega) (by decide) ta.2.1 dX8_asks_294 ?_
            refine lv_aload_n hx hb dX8_asks_295 rfl (lv_at hl 2 rfl) ?_
            refine m_get (v := .ref (md G 9)) hx hb htu wu_in hown hK hP 9 (by decide) (htu _ U_54) rfl rfl dX8_asks_296 ?_
            refine lv_iload_n hx hb dX8_asks_299 rfl (lv_at hl 4 rfl) ?_
            refine m_ald (j := b) (v := nI (lev z b)) hx hb hK hP 8 9 rfl (by omega) (by decide) tb.2.1 dX8_asks_300 ?_
            refine lv_icmp_gt (tgt := 392) hx hb dX8_asks_301 (by decide) (fun c_86 => ?_) (fun c_86 => ?_)
            · skip
              have nc_86 : lev z b < lev z a := (nI_ltI (a := lev z b) (b := lev z a) (by omega) (by omega)).mp c_86
              refine lv_iload_n hx hb dX8_asks_392 rfl (lv_at hl 1 rfl) ?_
              refine lv_iconst (v := 3) hx hb dX8_asks_393 (by decide) ?_
              refine lv_icmp_ne (tgt := 421) hx hb dX8_asks_394 (by decide) (fun c_87 => ?_) (fun c_87 => absurd c_87 (fun h9 => absurd ((nI_eq (b := 3) (by omega) (by omega)).mp h9) (by omega)))
              refine lv_iload hx hb dX8_asks_421 (lv_at hl 0 rfl) ?_
              refine lv_iconst (v := 3) hx hb dX8_asks_423 (by decide) ?_
              refine lv_icmp_ne (tgt := 451) hx hb dX8_asks_424 (by decide) (fun c_88 => absurd (congrArg nI (show srt z b = 3 by omega)) c_88) (fun c_88 => ?_)
              have ca : asks (un fu) z a b = un fu (startCp z a 0 (lev z b) (lev z b)).1 (startCp z a 0 (lev z b) (lev z b)).2 b := by unfold asks; rw [if_neg (by omega), if_neg (by omega), if_neg (by omega), if_neg (by omega), if_neg (by omega), if_neg (by omega), if_pos (by omega)]
              obtain ⟨S, eS⟩ : ∃ y, y = startCp z a 0 (lev z b) (lev z b) := ⟨_, rfl⟩
              rw [← eS] at ca
              rw [ca] at hb0
              have hbS : bnd S.1 ≤ 200000 := Nat.le_trans (b_un fu _ _ _) hb0
              have xS : Lx z S.1 := by rw [eS]; exact x_start _ _ _ _ _
              refine lv_aload_n hx hb dX8_asks_427 rfl (lv_at hl 2 rfl) ?_
              refine lv_iload_n hx hb dX8_asks_428 rfl (lv_at hl 3 rfl) ?_
              refine lv_iconst (v := 0) hx hb dX8_asks_429 (by decide) ?_
              refine lv_aload_n hx hb dX8_asks_430 rfl (lv_at hl 2 rfl) ?_
              refine m_get (v := .ref (md G 9)) hx hb htu wu_in hown hK hP 9 (by decide) (htu _ U_54) rfl rfl dX8_asks_431 ?_
              refine lv_iload_n hx hb dX8_asks_434 rfl (lv_at hl 4 rfl) ?_
              refine m_ald (j := b) (v := nI (lev z b)) hx hb hK hP 8 9 rfl (by omega) (by decide) tb.2.1 dX8_asks_435 ?_
              refine m_ci (m_runV (As := [.int (nI a), .int 0, .int (nI (lev z b))]) (rest := []) ⟨hx, hb, hml, hown, htu⟩ (m_beginLift l G hDD o F z ix lf a 0 (lev z b) hm hR hM0 ((by omega)) ((by omega)) tbl hh ((by rw [← eS]; exact hbS)) hd2 hl0 ((hh2 h0)) h0 ha1 H.size) (cwV 3 htu gU_X8_beginLift rfl rfl rfl (by decide +kernel) ⟨show 187 + 1 ≤ 2 * fu + 191 by omega, show 8 + (4 + 11) + 5145 ≤ 60 * fu + 5330 by omega⟩) hP hK rfl hl.1 rfl (lv_room (Nat.le_of_ble_eq_true rfl)) dX8_asks_436) hS (fun r_89 o_90 F_91 H locs hw_92 hP hS => ?_)
              try dsimp only at hw_92
              rw [← eS] at hw_92
              obtain ⟨⟨⟨ix1, hR1, hP1⟩, hM1, hv1, hs1, hH1, hK1⟩, he1, hl1⟩ := hw_92
              obtain ⟨hm1, hh1, hq1, hx1⟩ := hH1.at hh (by have := hh2 h0; omega)
              have xn := xS.1
              have xs := xS.2.2.2.2.2
              refine lv_istore (lv' := [(5, .int r_89), (4, .int (nI (srt z b))), (3, .int (nI (srt z a))), (0, .ref (mh G)), (1, .int (nI a)), (2, .int (nI b))]) hx hb dX8_asks_439 hl (by decide) rfl (fun ls hl => ?_)
              refine lv_aload_n hx hb dX8_asks_441 rfl (lv_at hl 3 rfl) ?_
              refine lv_iload hx hb dX8_asks_442 (lv_at hl 0 rfl) ?_
              refine lv_iload_n hx hb dX8_asks_444 rfl (lv_at hl 5 rfl) ?_
              refine m_cv (m_runV (As := [.int r_89, .int (nI b)]) (rest := []) ⟨hx, hb, hml, hown, htu⟩ (ih l G hDD o_90 F_91 S.1 ix1 (lf + 1) S.2 b hm1 r_89 (nI b) hR1 hM1.m0 hl1 hh1 ((by have := hh2 h0; omega)) ((fun h => by have := hh2 h0; have := hq1 h; omega)) ((he1.trans hd2)) hb0 ((by omega)) (((hK1 31 (by decide)).1.trans hd)) hfu ((fun h => ⟨(hv1 h).1, rfl, (hv1 h).2, by omega⟩)) H.size) (cwV 2 htu gU_X8_under rfl rfl rfl (by decide +kernel) ⟨show (2 * fu + 190) + 1 ≤ 2 * fu + 191 by omega, show 8 + (3 + 11) + (60 * fu + 5300) ≤ 60 * fu + 5330 by omega⟩) hP hK rfl hl.1 rfl (lv_room (Nat.le_of_ble_eq_true rfl)) dX8_asks_445) hS (fun o_94 F_95 H locs hw_96 hP hS => ?_)
              try dsimp only at hw_96
              obtain ⟨⟨ix2, lf2, hR2, hP2, hM2, hl2, hf2⟩, hs2, hH2, hd2b, he2, hK2⟩ := hw_96
              refine lv_goto (tgt := 461) hx hb dX8_asks_448 (by decide) ?_
              exact m_vret hx hb hr hK hP hS (by rw [ca]; exact ⟨⟨ix2, lf2, hR2, Px.tr hR hP1 xS hP2, hM2, hl2, hf2⟩, fun h => absurd h0 h, HM.tr hH1 hh hq1 hH2 hs2 un_sto, hd2b.trans (hK1 31 (by decide)).1, he2.trans he1, Kq.tr (hK1.mono (by decide)) hK2⟩) dX8_asks_461 hlocks
            · skip
              have nc_86 : ¬ lev z b < lev z a := fun h9 => c_86 ((nI_ltI (a := lev z b) (b := lev z a) (by omega) (by omega)).mpr h9)
              have ca : asks (un fu) z a b = (row z 1 b).foldl (fun s x => un fu s a x) (bind z b 0 a) := by unfold asks; rw [if_neg (by omega), if_neg (by omega), if_neg (by omega), if_neg (by omega), if_pos (by omega)]
              obtain ⟨Z0, eZ⟩ : ∃ y, y = bind z b 0 a := ⟨_, rfl⟩
              rw [← eZ] at ca
              obtain ⟨L, eL⟩ : ∃ y, y = row Z0 1 b := ⟨_, rfl⟩
              have eL2 : row z 1 b = L := by rw [eL, eZ]; rfl
              rw [eL2] at ca
              rw [ca] at hb0
              have hbz : bnd Z0 ≤ 200000 := Nat.le_trans (b_fold (fun s x => b_un fu s a x) L Z0) hb0
              have bz1 : bnd z + 1 ≤ 200000 := by rw [eZ, b_bind] at hbz; exact hbz
              have xZ : Lx z Z0 := by rw [eZ]; exact x_bind _ _ _ _ (by omega)
              have hZ : b < nT Z0 := Nat.lt_of_lt_of_le hb1 xZ.1
              obtain ⟨s1, s2, s3, -⟩ := xZ.2.2.1 b hb1
              have hZ3 : srt Z0 b = 3 := s1.trans (by omega)
              have v2 := (hR.rw (sd := 0) hb1 (by omega) (by omega)).2
              refine lv_aload_n hx hb dX8_asks_304 rfl (lv_at hl 2 rfl) ?_
              refine lv_iload_n hx hb dX8_asks_305 rfl (lv_at hl 4 rfl) ?_
              refine lv_iconst (v := 0) hx hb dX8_asks_306 (by decide) ?_
              refine lv_iload_n hx hb dX8_asks_307 rfl (lv_at hl 3 rfl) ?_
              refine m_cv (m_runV (As := [.int (nI b), .int 0, .int (nI a)]) (rest := []) ⟨hx, hb, hml, hown, htu⟩ (m_bind l G hDD o F z ix b 0 a hR hb1 ((by omega)) ((by omega)) ha1 ((by omega)) H.size) (cwV 3 htu gU_X8_bind rfl rfl rfl (by decide +kernel) ⟨show 0 + 1 ≤ 2 * fu + 191 by omega, show 8 + (5 + 11) + 0 ≤ 60 * fu + 5330 by omega⟩) hP hK rfl hl.1 rfl (lv_room (Nat.le_of_ble_eq_true rfl)) dX8_asks_308) hS (fun o_98 F_99 H locs hw_100 hP hS => ?_)
              try dsimp only at hw_100
              obtain ⟨⟨ix2, gR2, gP2⟩, gK2⟩ := hw_100
              rw [← eZ] at gR2
              obtain ⟨gw, gv⟩ := gR2.rw (sd := 1) hZ hZ3 (by omega)
              rw [s3, ← eL] at gw
              have hw1 := (gR2.2.2.2.2.2.1.1 b hZ hZ3).1
              have hwo := s3
              refine lv_aload_n hx hb dX8_asks_311 rfl (lv_at hl 2 rfl) ?_
              refine m_get (v := .ref (md G 21)) hx hb htu wu_in hown hK hP 21 (by decide) (htu _ U_116) rfl rfl dX8_asks_312 ?_
              refine lv_iconst (v := 2) hx hb dX8_asks_315 (by decide) ?_
              refine lv_aload_n hx hb dX8_asks_316 rfl (lv_at hl 2 rfl) ?_
              refine m_get (v := .ref (md G 10)) hx hb htu wu_in hown hK hP 10 (by decide) (htu _ U_80) rfl rfl dX8_asks_317 ?_
              refine lv_iload_n hx hb dX8_asks_320 rfl (lv_at hl 4 rfl) ?_
              refine m_ald (j := b) (v := nI (one z b)) hx hb hK hP 9 10 rfl (by omega) (by decide) (hw1.trans (congrArg nI hwo)) dX8_asks_321 ?_
              refine lv_imul hx hb dX8_asks_322 ?_
              refine m_top (y := nI (2 * (one z b))) (pk_mul 2 (one z b)) ?_
              refine lv_iconst (v := 1) hx hb dX8_asks_323 (by decide) ?_
              refine lv_iadd hx hb dX8_asks_324 ?_
              refine m_top (y := nI (2 * (one z b) + 1)) (nI_add (2 * (one z b)) 1) ?_
              refine m_ald (j := 2 * (one z b) + 1) (v := nI L.length) hx hb hK hP 18 21 rfl (by omega) (by decide) gw.1 dX8_asks_325 ?_
              refine lv_istore (lv' := [(5, .int (nI L.length)), (4, .int (nI (srt z b))), (3, .int (nI (srt z a))), (0, .ref (mh G)), (1, .int (nI a)), (2, .int (nI b))]) hx hb dX8_asks_326 hl (by decide) rfl (fun ls hl => ?_)
              refine lv_aload_n hx hb dX8_asks_328 rfl (lv_at hl 3 rfl) ?_
              refine m_get (v := .ref (md G 19)) hx hb htu wu_in hown hK hP 19 (by decide) (htu _ U_117) rfl rfl dX8_asks_329 ?_
              refine lv_iconst (v := 2) hx hb dX8_asks_332 (by decide) ?_
              refine lv_aload_n hx hb dX8_asks_333 rfl (lv_at hl 3 rfl) ?_
              refine m_get (v := .ref (md G 10)) hx hb htu wu_in hown hK hP 10 (by decide) (htu _ U_80) rfl rfl dX8_asks_334 ?_
              refine lv_iload_n hx hb dX8_asks_337 rfl (lv_at hl 5 rfl) ?_
              refine m_ald (j := b) (v := nI (one z b)) hx hb hK hP 9 10 rfl (by omega) (by decide) (hw1.trans (congrArg nI hwo)) dX8_asks_338 ?_
              refine lv_imul hx hb dX8_asks_339 ?_
              refine m_top (y := nI (2 * (one z b))) (pk_mul 2 (one z b)) ?_
              refine lv_iconst (v := 1) hx hb dX8_asks_340 (by decide) ?_
              refine lv_iadd hx hb dX8_asks_341 ?_
              refine m_top (y := nI (2 * (one z b) + 1)) (nI_add (2 * (one z b)) 1) ?_
              refine m_ald (j := 2 * (one z b) + 1) (v := F_99 19 (2 * (one z b) + 1)) hx hb hK hP 16 19 rfl (by omega) (by decide) rfl dX8_asks_342 ?_
              refine lv_istore (lv' := [(6, .int (F_99 19 (2 * (one z b) + 1))), (5, .int (nI L.length)), (4, .int (nI (srt z b))), (3, .int (nI (srt z a))), (0, .ref (mh G)), (1, .int (nI a)), (2, .int (nI b))]) hx hb dX8_asks_343 hl (by decide) rfl (fun ls hl => ?_)
              refine lv_iconst (v := 0) hx hb dX8_asks_345 (by decide) ?_
              refine lv_istore (lv' := [(7, .int 0), (6, .int (F_99 19 (2 * (one z b) + 1))), (5, .int (nI L.length)), (4, .int (nI (srt z b))), (3, .int (nI (srt z a))), (0, .ref (mh G)), (1, .int (nI a)), (2, .int (nI b))]) hx hb dX8_asks_346 hl (by decide) rfl (fun ls hl => ?_)
              refine w_loop (fun j H locs k sl g => ∃ (i : Nat) (zi : aS) (ix1 : Nat → Nat → Nat) (lf1 : Nat) (o1 : Nat → Int32) (F1 : Nat → Nat → Int32) (kv : Int32) (ls : Array Slot), i + j = L.length ∧ L.foldl (fun s x => un fu s a x) Z0 = (L.drop i).foldl (fun s x => un fu s a x) zi ∧ MR zi ix1 o1 F1 ∧ Px z ix ix1 ∧ Lx Z0 zi ∧ M0 lf1 F1 ∧ o1 35 = nI lf1 ∧ lf1 ≤ stp zi ∧ o1 31 = o 31 ∧ o1 32 = o 32 ∧ Kq [7, 8, 9, 10, 11, 12, 13, 14, 15, 16, 17, 18, 19, 20, 21, 24, 26, 27, 28, 29, 30, 31, 32, 35, 36, 37, 38, 39] o F (o1, F1) ∧ HM zi hm 60 o F (o1, F1) ∧ (i < L.length → kv = nI (ix1 (2 * one z b + 1) i)) ∧ k = 0 ∧ sl = 0 ∧ mP G o1 F1 H ∧ va_S (mA G s.heap.size) s.heap H locs ∧ lv_has ls 8 [(7, .int (nI i)), (0, .ref (mh G)), (1, .int (nI a)), (2, .int (nI b)), (5, .int (nI L.length)), (6, .int kv)] ∧ g = F0 m 348 ls []) ?_ ?_ L.length _ _ _ _ _ ⟨0, Z0, ix2, lf, o_98, F_99, (F_99 19 (2 * one z b + 1)), ls, by omega, rfl, gR2, gP2, Lx.rf, (hM0.to (gK2 36 (by decide)).2), ((gK2 35 (by decide)).1.trans hl0), (by have := xZ.2.2.2.2.2; omega), (gK2 31 (by decide)).1, (gK2 32 (by decide)).1, (gK2.mono (by decide)), (HM.own hh (gK2 39 (by decide)).1 (gK2 38 (by decide)).2), (fun h => (gw.2.2.1 h).1), rfl, rfl, hP, hS, lv_sub hl [0, 5, 6, 7, 2, 1] rfl, rfl⟩
              · intro H locs k sl g hI
                obtain ⟨i, zi, ix1, lf1, o1, F1, kv, ls, hp0, hp1, hp2, hp3, hp4, hp5, hp6, hp7, hp8, hp9, hp10, hp11, hp12, rfl, rfl, hP, hS, hl, rfl⟩ := hI
                obtain ⟨m1, m2, m3, m4, m5, m6, m7, m8⟩ := hp2.2.1
                have lb : L.length ≤ 200000 := Nat.le_trans gw.2.2.2.1 hbz
                refine lv_iload hx hb dX8_asks_348 (lv_at hl 0 rfl) ?_
                refine lv_iload hx hb dX8_asks_350 (lv_at hl 4 rfl) ?_
                refine lv_icmp_ge (tgt := 389) hx hb dX8_asks_352 (by decide) (fun c_101 => ?_) (fun c_101 => absurd (nI_le (by omega) (by omega)) c_101)
                refine lv_goto (tgt := 461) hx hb dX8_asks_389 (by decide) ?_
                have hend : L.foldl (fun s x => un fu s a x) Z0 = zi := by rw [hp1, List.drop_eq_nil_of_le (by omega)]; rfl
                exact m_vret hx hb hr hK hP hS (by rw [ca, hend]; exact ⟨⟨ix1, lf1, hp2, hp3, hp5, hp6, hp7⟩, fun h => absurd h0 h, hp11, hp8, hp9, hp10⟩) dX8_asks_461 hlocks
              · intro j ih9 H locs k sl g hI
                obtain ⟨i, zi, ix1, lf1, o1, F1, kv, ls, hp0, hp1, hp2, hp3, hp4, hp5, hp6, hp7, hp8, hp9, hp10, hp11, hp12, rfl, rfl, hP, hS, hl, rfl⟩ := hI
                obtain ⟨m1, m2, m3, m4, m5, m6, m7, m8⟩ := hp2.2.1
                have lb : L.length ≤ 200000 := Nat.le_trans gw.2.2.2.1 hbz
                have ni : i < L.length := by omega
                refine lv_iload hx hb dX8_asks_348 (lv_at hl 0 rfl) ?_
                refine lv_iload hx hb dX8_asks_350 (lv_at hl 4 rfl) ?_
                refine lv_icmp_ge (tgt := 389) hx hb dX8_asks_352 (by decide) (fun c_102 => absurd c_102 (nI_ge ni (by omega))) (fun c_102 => ?_)
                refine lv_aload_n hx hb dX8_asks_355 rfl (lv_at hl 1 rfl) ?_
                refine m_get (v := .int (sc (sto zi))) hx hb htu wu_in hown hK hP 27 (by decide) (htu _ U_45) rfl (m_v hp2.1.2.2.2.2.1) dX8_asks_356 ?_
                refine lv_if_ne (tgt := 389) hx hb dX8_asks_359 (by decide) (fun c_103 => ?_) (fun c_103 => ?_)
                · skip
                  refine lv_goto (tgt := 461) hx hb dX8_asks_389 (by decide) ?_
                  have hend : L.foldl (fun s x => un fu s a x) Z0 = zi := by rw [hp1, fold_stop (fun s y h => un_st h) (fun h => c_103 (sc_0.mpr h))]
                  exact m_vret hx hb hr hK hP hS (by rw [ca, hend]; exact ⟨⟨ix1, lf1, hp2, hp3, hp5, hp6, hp7⟩, fun h => absurd h0 h, hp11, hp8, hp9, hp10⟩) dX8_asks_461 hlocks
                · skip
                  have g0 : sto zi = 0 := sc_0.mp c_103
                  obtain rfl := hp12 ni
                  obtain ⟨l1, l2, l3, l4, l5, l6, l7, l8⟩ := hp2.pl (sd := 1) hp4 hZ hZ3 (by omega) (by rw [← eL]; exact ni)
                  rw [s3, ← eL] at l3
                  rw [s3] at l2
                  have l2 : ix1 (2 * one z b + 1) i < bnd zi := l2
                  rw [← eL] at l4
                  rw [s3] at l7
                  have hst := hp1.trans (fold_step (g := (fun s x => un fu s a x)) ni)
                  have hbi : bnd (un fu zi a (L.getD i 0)) ≤ 200000 := by refine Nat.le_trans ?_ hb0; rw [hst]; exact b_fold (fun s x => b_un fu s a x) _ _
                  have x9 : Lx zi (un fu zi a (L.getD i 0)) := x_un fu _ _ _
                  have xn := xZ.1
                  have xm := hp4.1
                  refine lv_aload_n hx hb dX8_asks_362 rfl (lv_at hl 1 rfl) ?_
                  refine lv_iload_n hx hb dX8_asks_363 rfl (lv_at hl 2 rfl) ?_
                  refine lv_aload_n hx hb dX8_asks_364 rfl (lv_at hl 1 rfl) ?_
                  refine m_get (v := .ref (md G 17)) hx hb htu wu_in hown hK hP 17 (by decide) (htu _ U_118) rfl rfl dX8_asks_365 ?_
                  refine lv_iload hx hb dX8_asks_368 (lv_at hl 5 rfl) ?_
                  refine m_ald (j := ix1 (2 * one z b + 1) i) (v := nI (L.getD i 0)) hx hb hK hP 14 17 rfl (by omega) (by decide) l3 dX8_asks_370 ?_
                  refine m_cv (m_runV (As := [.int (nI a), .int (nI (L.getD i 0))]) (rest := []) ⟨hx, hb, hml, hown, htu⟩ (ih l G hDD o1 F1 zi ix1 lf1 a (L.getD i 0) hm (nI a) (nI (L.getD i 0)) hp2 hp5 hp6 (((hp11.1 g0).trans hh)) hhm ((fun _ => hh2 h0)) ((hp9.trans hd2)) hbi hp7 ((hp8.trans hd)) hfu ((fun _ => ⟨rfl, rfl, by omega, l4⟩)) H.size) (cwV 2 htu gU_X8_under rfl rfl rfl (by decide +kernel) ⟨show (2 * fu + 190) + 1 ≤ 2 * fu + 191 by omega, show 8 + (3 + 11) + (60 * fu + 5300) ≤ 60 * fu + 5330 by omega⟩) hP hK rfl hl.1 rfl (lv_room (Nat.le_of_ble_eq_true rfl)) dX8_asks_371) hS (fun o_105 F_106 H locs hw_107 hP hS => ?_)
                  try dsimp only at hw_107
                  obtain ⟨⟨ix3, lf2, hR2, hP2, hM2, hl2, hf2⟩, hs2, hH2, hd2b, he2, hK2⟩ := hw_107
                  have q3 : ix3 (2 * one z b + 1) i = ix1 (2 * one z b + 1) i := by have := hP2.at (sd := 1) hp2 l5 l6 (by omega) l1; rw [l7] at this; exact this
                  refine lv_aload_n hx hb dX8_asks_374 rfl (lv_at hl 1 rfl) ?_
                  refine m_get (v := .ref (md G 18)) hx hb htu wu_in hown hK hP 18 (by decide) (htu _ U_119) rfl rfl dX8_asks_375 ?_
                  refine lv_iload hx hb dX8_asks_378 (lv_at hl 5 rfl) ?_
                  refine m_ald (j := ix1 (2 * one z b + 1) i) (v := F_106 18 (ix1 (2 * one z b + 1) i)) hx hb hK hP 15 18 rfl (by omega) (by decide) rfl dX8_asks_380 ?_
                  refine lv_istore (lv' := [(6, .int (F_106 18 (ix1 (2 * one z b + 1) i))), (7, .int (nI i)), (0, .ref (mh G)), (1, .int (nI a)), (2, .int (nI b)), (5, .int (nI L.length))]) hx hb dX8_asks_381 hl (by decide) rfl (fun ls hl => ?_)
                  refine lv_iinc (v := nI (i + 1)) (lv' := [(7, .int (nI (i + 1))), (6, .int (F_106 18 (ix1 (2 * one z b + 1) i))), (0, .ref (mh G)), (1, .int (nI a)), (2, .int (nI b)), (5, .int (nI L.length))]) hx hb dX8_asks_383 hl (k := 1) rfl (nI_1 i) (by decide) rfl (fun ls hl => ?_)
                  refine lv_goto (tgt := 348) hx hb dX8_asks_386 (by decide) ?_
                  exact ih9 _ _ _ _ _ ⟨i + 1, (un fu zi a (L.getD i 0)), ix3, lf2, o_105, F_106, (F_106 18 (ix1 (2 * one z b + 1) i)), ls, by omega, hst, hR2, (Px.tr hR hp3 (xZ.tr hp4) hP2), (hp4.tr x9), hM2, hl2, hf2, (hd2b.trans hp8), (he2.trans hp9), (Kq.tr hp10 hK2), (HM.tr hp11 hh (h1 := hm) (fun _ => rfl) hH2 (fun h => absurd g0 h) (fun _ => g0)), (fun h => by have h6 := (hR2.pl (sd := 1) (hp4.tr x9) hZ hZ3 (by omega) (i := i) (by rw [← eL]; exact ni)).2.2.2.2.2.2.2 (by rw [← eL]; exact h); rw [s3] at h6; rw [← q3]; exact h6), rfl, rfl, hP, hS, lv_sub hl [0, 2, 3, 4, 5, 1] rfl, rfl⟩
        · skip
          have nc_77 : srt z b = 2 := (nI_eq (a := srt z b) (b := 2) (by omega) (by omega)).mp c_77
          refine lv_iconst (v := 0) hx hb dX8_asks_82 (by decide) ?_
          refine lv_istore (lv' := [(5, .int 0), (4, .int (nI (srt z b))), (3, .int (nI (srt z a))), (0, .ref (mh G)), (1, .int (nI a)), (2, .int (nI b))]) hx hb dX8_asks_83 hl (by decide) rfl (fun ls hl => ?_)
          have Z0e : True := trivial
          obtain ⟨ra1, ra2, ra3, ra4⟩ := hR.2.2.2.2.1 a ha1 (by omega)
          obtain ⟨rb1, rb2, rb3, rb4⟩ := hR.2.2.2.2.1 b hb1 (by omega)
          have ca : asks (un fu) z a b = unR (un fu) a z (labs z b) (parts z b) := by unfold asks; rw [if_neg (by omega), if_neg (by omega), if_pos (by omega)]
          obtain ⟨Z0, eZ0⟩ : ∃ y, y = z := ⟨_, rfl⟩
          rw [ca] at hb0
          refine w_loop (fun j H locs k sl g => ∃ (i : Nat) (zi : aS) (ix1 : Nat → Nat → Nat) (lf1 : Nat) (o1 : Nat → Int32) (F1 : Nat → Nat → Int32) (ls : Array Slot), i + j = (parts z b).length ∧ unR (un fu) a z (labs z b) (parts z b) = unR (un fu) a zi ((labs z b).drop i) ((parts z b).drop i) ∧ MR zi ix1 o1 F1 ∧ Px z ix ix1 ∧ Lx Z0 zi ∧ M0 lf1 F1 ∧ o1 35 = nI lf1 ∧ lf1 ≤ stp zi ∧ o1 31 = o 31 ∧ o1 32 = o 32 ∧ Kq [7, 8, 9, 10, 11, 12, 13, 14, 15, 16, 17, 18, 19, 20, 21, 24, 26, 27, 28, 29, 30, 31, 32, 35, 36, 37, 38, 39] o F (o1, F1) ∧ HM zi hm 60 o F (o1, F1) ∧ k = 0 ∧ sl = 0 ∧ mP G o1 F1 H ∧ va_S (mA G s.heap.size) s.heap H locs ∧ lv_has ls 8 [(5, .int (nI i)), (0, .ref (mh G)), (1, .int (nI a)), (2, .int (nI b))] ∧ g = F0 m 85 ls []) ?_ ?_ ((parts z b).length) _ _ _ _ _ ⟨0, z, ix, lf, o, F, ls, by omega, rfl, hR, Px.rf, (by rw [eZ0]; exact Lx.rf), hM0, hl0, (by omega), rfl, rfl, Kq.rf, (HM.rf hh), rfl, rfl, hP, hS, lv_sub hl [0, 3, 4, 5] rfl, rfl⟩
          · intro H locs k sl g hI
            obtain ⟨i, zi, ix1, lf1, o1, F1, ls, hp0, hp1, hp2, hp3, hp4, hp5, hp6, hp7, hp8, hp9, hp10, hp11, rfl, rfl, hP, hS, hl, rfl⟩ := hI
            obtain ⟨m1, m2, m3, m4, m5, m6, m7, m8⟩ := hp2.2.1
            have hp4 := hp4
            rw [eZ0] at hp4
            have xa := hp4.2.2.1 a ha1
            have xb := hp4.2.2.1 b hb1
            have xn := hp4.1
            have q0 := hp2.2.2.2.2.1 b (Nat.lt_of_lt_of_le hb1 hp4.1) (xb.1.trans (by omega))
            rw [xb.2.2.2.2.1, xb.2.2.2.2.2] at q0
            obtain ⟨q1, q2, q3, q4⟩ := q0
            have p0 := hp2.2.2.2.2.1 a (Nat.lt_of_lt_of_le ha1 hp4.1) (xa.1.trans (by omega))
            rw [xa.2.2.2.2.1, xa.2.2.2.2.2] at p0
            obtain ⟨p1, p2, p3, p4⟩ := p0
            refine lv_iload hx hb dX8_asks_85 (lv_at hl 0 rfl) ?_
            refine lv_aload_n hx hb dX8_asks_87 rfl (lv_at hl 1 rfl) ?_
            refine m_get (v := .ref (md G 10)) hx hb htu wu_in hown hK hP 10 (by decide) (htu _ U_80) rfl rfl dX8_asks_88 ?_
            refine lv_iload_n hx hb dX8_asks_91 rfl (lv_at hl 3 rfl) ?_
            refine m_ald (j := b) (v := nI ((parts z b).length)) hx hb hK hP 9 10 rfl (by omega) (by decide) q1 dX8_asks_92 ?_
            refine lv_icmp_ge (tgt := 176) hx hb dX8_asks_93 (by decide) (fun c_108 => ?_) (fun c_108 => absurd (nI_le (by omega) (by omega)) c_108)
            refine lv_goto (tgt := 461) hx hb dX8_asks_176 (by decide) ?_
            have hend : unR (un fu) a z (labs z b) (parts z b) = zi := by rw [hp1, List.drop_eq_nil_of_le (show (parts z b).length ≤ i by omega), unR_end]
            exact m_vret hx hb hr hK hP hS (by rw [ca, hend]; exact ⟨⟨ix1, lf1, hp2, hp3, hp5, hp6, hp7⟩, fun h => absurd h0 h, hp11, hp8, hp9, hp10⟩) dX8_asks_461 hlocks
          · intro j ih9 H locs k sl g hI
            obtain ⟨i, zi, ix1, lf1, o1, F1, ls, hp0, hp1, hp2, hp3, hp4, hp5, hp6, hp7, hp8, hp9, hp10, hp11, rfl, rfl, hP, hS, hl, rfl⟩ := hI
            obtain ⟨m1, m2, m3, m4, m5, m6, m7, m8⟩ := hp2.2.1
            have hp4 := hp4
            rw [eZ0] at hp4
            have xa := hp4.2.2.1 a ha1
            have xb := hp4.2.2.1 b hb1
            have xn := hp4.1
            have q0 := hp2.2.2.2.2.1 b (Nat.lt_of_lt_of_le hb1 hp4.1) (xb.1.trans (by omega))
            rw [xb.2.2.2.2.1, xb.2.2.2.2.2] at q0
            obtain ⟨q1, q2, q3, q4⟩ := q0
            have p0 := hp2.2.2.2.2.1 a (Nat.lt_of_lt_of_le ha1 hp4.1) (xa.1.trans (by omega))
            rw [xa.2.2.2.2.1, xa.2.2.2.2.2] at p0
            obtain ⟨p1, p2, p3, p4⟩ := p0
            have ni : i < (parts z b).length := by omega
            refine lv_iload hx hb dX8_asks_85 (lv_at hl 0 rfl) ?_
            refine lv_aload_n hx hb dX8_asks_87 rfl (lv_at hl 1 rfl) ?_
            refine m_get (v := .ref (md G 10)) hx hb htu wu_in hown hK hP 10 (by decide) (htu _ U_80) rfl rfl dX8_asks_88 ?_
            refine lv_iload_n hx hb dX8_asks_91 rfl (lv_at hl 3 rfl) ?_
            refine m_ald (j := b) (v := nI ((parts z b).length)) hx hb hK hP 9 10 rfl (by omega) (by decide) q1 dX8_asks_92 ?_
            refine lv_icmp_ge (tgt := 176) hx hb dX8_asks_93 (by decide) (fun c_109 => absurd c_109 (nI_ge ni (by omega))) (fun c_109 => ?_)
            refine lv_aload_n hx hb dX8_asks_96 rfl (lv_at hl 1 rfl) ?_
            refine m_get (v := .int (sc (sto zi))) hx hb htu wu_in hown hK hP 27 (by decide) (htu _ U_45) rfl (m_v hp2.1.2.2.2.2.1) dX8_asks_97 ?_
            refine lv_if_ne (tgt := 176) hx hb dX8_asks_100 (by decide) (fun c_110 => ?_) (fun c_110 => ?_)
            · skip
              refine lv_goto (tgt := 461) hx hb dX8_asks_176 (by decide) ?_
              have hend : unR (un fu) a z (labs z b) (parts z b) = zi := by rw [hp1, unR_stop (fun h => c_110 (sc_0.mpr h))]
              exact m_vret hx hb hr hK hP hS (by rw [ca, hend]; exact ⟨⟨ix1, lf1, hp2, hp3, hp5, hp6, hp7⟩, fun h => absurd h0 h, hp11, hp8, hp9, hp10⟩) dX8_asks_461 hlocks
            · skip
              have g0 : sto zi = 0 := sc_0.mp c_110
              obtain ⟨w12, w13, w14, w15⟩ := q4 i ni
              refine lv_aload_n hx hb dX8_asks_103 rfl (lv_at hl 1 rfl) ?_
              refine lv_iload_n hx hb dX8_asks_104 rfl (lv_at hl 2 rfl) ?_
              refine lv_aload_n hx hb dX8_asks_105 rfl (lv_at hl 1 rfl) ?_
              refine m_get (v := .ref (md G 12)) hx hb htu wu_in hown hK hP 12 (by decide) (htu _ U_89) rfl rfl dX8_asks_106 ?_
              refine lv_bipush (v := 6) hx hb dX8_asks_109 (by decide) ?_
              refine lv_iload_n hx hb dX8_asks_111 rfl (lv_at hl 3 rfl) ?_
              refine lv_imul hx hb dX8_asks_112 ?_
              refine m_top (y := nI (6 * b)) (pk_mul 6 b) ?_
              refine lv_iload hx hb dX8_asks_113 (lv_at hl 0 rfl) ?_
              refine lv_iadd hx hb dX8_asks_115 ?_
              refine m_top (y := nI (6 * b + i)) (nI_add (6 * b) i) ?_
              refine m_ald (j := 6 * b + i) (v := nI ((labs z b).getD i 0)) hx hb hK hP 11 12 rfl (by omega) (by decide) w12 dX8_asks_116 ?_
              refine m_ci (m_runV (As := [.int (nI a), .int (nI ((labs z b).getD i 0))]) (rest := []) ⟨hx, hb, hml, hown, htu⟩ (m_labelAt l G hDD o1 F1 zi ix1 a ((labs z b).getD i 0) hp2 ((by omega)) ((xa.1.trans (by omega))) w15 H.size) (cwV 2 htu gU_X8_labelAt rfl rfl rfl (by decide +kernel) ⟨show 0 + 1 ≤ 2 * fu + 191 by omega, show 8 + (4 + 11) + 0 ≤ 60 * fu + 5330 by omega⟩) hP hK rfl hl.1 rfl (lv_room (Nat.le_of_ble_eq_true rfl)) dX8_asks_117) hS (fun r_111 o_112 F_113 H locs hw_114 hP hS => ?_)
              try dsimp only at hw_114
              obtain ⟨hu, hc⟩ := hw_114
              rw [xa.2.2.2.2.1, xa.2.2.2.2.2] at hc
              rcases hc with ⟨g1, g2⟩ | ⟨at9, g2, g1, g3, g4⟩
              · skip
                subst g1
                obtain ⟨h91, h92⟩ := Prod.mk.inj hu
                have h91 := h91.symm
                subst h91
                have h92 := h92.symm
                subst h92
                have hst := hp1.trans (unR_none ni rb2 g0 (by rw [xa.2.2.2.2.1, xa.2.2.2.2.2]; exact partBy_none p2 g2))
                refine lv_istore (lv' := [(6, .int ((-9))), (5, .int (nI i)), (0, .ref (mh G)), (1, .int (nI a)), (2, .int (nI b))]) hx hb dX8_asks_120 hl (by decide) rfl (fun ls hl => ?_)
                refine lv_iload hx hb dX8_asks_122 (lv_at hl 0 rfl) ?_
                refine lv_bipush (v := (-9)) hx hb dX8_asks_124 (by decide) ?_
                refine lv_icmp_ne (tgt := 142) hx hb dX8_asks_126 (by decide) (fun c_115 => absurd (by decide) c_115) (fun c_115 => ?_)
                refine lv_aload_n hx hb dX8_asks_129 rfl (lv_at hl 2 rfl) ?_
                refine lv_bipush (v := (-7)) hx hb dX8_asks_130 (by decide) ?_
                refine lv_aload_n hx hb dX8_asks_132 rfl (lv_at hl 2 rfl) ?_
                refine m_get (v := .int (nI (askn zi))) hx hb htu wu_in hown hK hP 25 (by decide) (htu _ U_61) rfl (m_v hp2.1.2.2.2.2.2.2.1) dX8_asks_133 ?_
                refine m_cv (m_runV (As := [.int ((-7)), .int (nI (askn zi))]) (rest := []) ⟨hx, hb, hml, hown, htu⟩ (m_stops l G hDD o1 F1 zi ix1 2 ((askn zi)) hp2 ((Or.inr rfl)) ((by omega)) H.size) (cwV 2 htu gU_X8_stops rfl rfl rfl (by decide +kernel) ⟨show 0 + 1 ≤ 2 * fu + 191 by omega, show 8 + (3 + 11) + 0 ≤ 60 * fu + 5330 by omega⟩) hP hK rfl hl.1 rfl (lv_room (Nat.le_of_ble_eq_true rfl)) dX8_asks_136) hS (fun o_117 F_118 H locs hw_119 hP hS => ?_)
                try dsimp only at hw_119
                refine lv_goto (tgt := 170) hx hb dX8_asks_139 (by decide) ?_
                refine lv_iinc (v := nI (i + 1)) (lv' := [(5, .int (nI (i + 1))), (6, .int ((-9))), (0, .ref (mh G)), (1, .int (nI a)), (2, .int (nI b))]) hx hb dX8_asks_170 hl (k := 1) rfl (nI_1 i) (by decide) rfl (fun ls hl => ?_)
                refine lv_goto (tgt := 85) hx hb dX8_asks_173 (by decide) ?_
                exact ih9 _ _ _ _ _ ⟨i + 1, (stops zi 2 (askn zi)), ix1, lf1, o_117, F_118, ls, by omega, hst, hw_119.1, hp3, (by rw [eZ0]; exact hp4.tr (x_stops _ _ _)), (hp5.to (hw_119.2 36 (by decide)).2), ((hw_119.2 35 (by decide)).1.trans hp6), (Nat.le_trans hp7 (x_stops _ _ _).2.2.2.2.2), ((hw_119.2 31 (by decide)).1.trans hp8), ((hw_119.2 32 (by decide)).1.trans hp9), (Kq.tr hp10 (hw_119.2.mono (by decide))), (HM.next hp11 (hw_119.2 39 (by decide)).1 (hw_119.2 38 (by decide)).2 (Nat.le_refl _) (fun _ => g0)), rfl, rfl, hP, hS, lv_sub hl [0, 2, 3, 4] rfl, rfl⟩
              · skip
                subst g1
                obtain ⟨h91, h92⟩ := Prod.mk.inj hu
                have h91 := h91.symm
                subst h91
                have h92 := h92.symm
                subst h92
                have hst := hp1.trans (unR_some (q := (parts z a).getD at9 0) ni rb2 g0 (by rw [xa.2.2.2.2.1, xa.2.2.2.2.2]; exact partBy_some p2 g2 g3 g4))
                obtain ⟨u12, u13, u14, u15⟩ := p4 at9 g2
                have hbi : bnd (un fu zi ((parts z a).getD at9 0) ((parts z b).getD i 0)) ≤ 200000 := by refine Nat.le_trans ?_ hb0; rw [hst]; exact b_unR (b_un fu) _ _ _ _
                have x9 := x_un fu zi ((parts z a).getD at9 0) ((parts z b).getD i 0)
                refine lv_istore (lv' := [(6, .int (nI at9)), (5, .int (nI i)), (0, .ref (mh G)), (1, .int (nI a)), (2, .int (nI b))]) hx hb dX8_asks_120 hl (by decide) rfl (fun ls hl => ?_)
                refine lv_iload hx hb dX8_asks_122 (lv_at hl 0 rfl) ?_
                refine lv_bipush (v := (-9)) hx hb dX8_asks_124 (by decide) ?_
                refine lv_icmp_ne (tgt := 142) hx hb dX8_asks_126 (by decide) (fun c_120 => ?_) (fun c_120 => absurd c_120 (nI_neg (by decide) (by omega)))
                refine lv_aload_n hx hb dX8_asks_142 rfl (lv_at hl 2 rfl) ?_
                refine lv_aload_n hx hb dX8_asks_143 rfl (lv_at hl 2 rfl) ?_
                refine m_get (v := .ref (md G 13)) hx hb htu wu_in hown hK hP 13 (by decide) (htu _ U_90) rfl rfl dX8_asks_144 ?_
                refine lv_bipush (v := 6) hx hb dX8_asks_147 (by decide) ?_
                refine lv_iload_n hx hb dX8_asks_149 rfl (lv_at hl 3 rfl) ?_
                refine lv_imul hx hb dX8_asks_150 ?_
                refine m_top (y := nI (6 * a)) (pk_mul 6 a) ?_
                refine lv_iload hx hb dX8_asks_151 (lv_at hl 0 rfl) ?_
                refine lv_iadd hx hb dX8_asks_153 ?_
                refine m_top (y := nI (6 * a + at9)) (nI_add (6 * a) at9) ?_
                refine m_ald (j := 6 * a + at9) (v := nI ((parts z a).getD at9 0)) hx hb hK hP 12 13 rfl (by omega) (by decide) u13 dX8_asks_154 ?_
                refine lv_aload_n hx hb dX8_asks_155 rfl (lv_at hl 2 rfl) ?_
                refine m_get (v := .ref (md G 13)) hx hb htu wu_in hown hK hP 13 (by decide) (htu _ U_90) rfl rfl dX8_asks_156 ?_
                refine lv_bipush (v := 6) hx hb dX8_asks_159 (by decide) ?_
                refine lv_iload_n hx hb dX8_asks_161 rfl (lv_at hl 4 rfl) ?_
                refine lv_imul hx hb dX8_asks_162 ?_
                refine m_top (y := nI (6 * b)) (pk_mul 6 b) ?_
                refine lv_iload hx hb dX8_asks_163 (lv_at hl 1 rfl) ?_
                refine lv_iadd hx hb dX8_asks_165 ?_
                refine m_top (y := nI (6 * b + i)) (nI_add (6 * b) i) ?_
                refine m_ald (j := 6 * b + i) (v := nI ((parts z b).getD i 0)) hx hb hK hP 12 13 rfl (by omega) (by decide) w13 dX8_asks_166 ?_
                refine m_cv (m_runV (As := [.int (nI ((parts z a).getD at9 0)), .int (nI ((parts z b).getD i 0))]) (rest := []) ⟨hx, hb, hml, hown, htu⟩ (ih l G hDD o1 F1 zi ix1 lf1 ((parts z a).getD at9 0) ((parts z b).getD i 0) hm (nI ((parts z a).getD at9 0)) (nI ((parts z b).getD i 0)) hp2 hp5 hp6 (((hp11.1 g0).trans hh)) hhm ((fun _ => hh2 h0)) ((hp9.trans hd2)) hbi hp7 ((hp8.trans hd)) hfu ((fun _ => ⟨rfl, rfl, u14, w14⟩)) H.size) (cwV 2 htu gU_X8_under rfl rfl rfl (by decide +kernel) ⟨show (2 * fu + 190) + 1 ≤ 2 * fu + 191 by omega, show 8 + (3 + 11) + (60 * fu + 5300) ≤ 60 * fu + 5330 by omega⟩) hP hK rfl hl.1 rfl (lv_room (Nat.le_of_ble_eq_true rfl)) dX8_asks_167) hS (fun o_122 F_123 H locs hw_124 hP hS => ?_)
                try dsimp only at hw_124
                obtain ⟨⟨ix2, lf2, hR2, hP2, hM2, hl2, hf2⟩, hs2, hH2, hd2b, he2, hK2⟩ := hw_124
                refine lv_iinc (v := nI (i + 1)) (lv' := [(5, .int (nI (i + 1))), (6, .int (nI at9)), (0, .ref (mh G)), (1, .int (nI a)), (2, .int (nI b))]) hx hb dX8_asks_170 hl (k := 1) rfl (nI_1 i) (by decide) rfl (fun ls hl => ?_)
                refine lv_goto (tgt := 85) hx hb dX8_asks_173 (by decide) ?_
                exact ih9 _ _ _ _ _ ⟨i + 1, (un fu zi ((parts z a).getD at9 0) ((parts z b).getD i 0)), ix2, lf2, o_122, F_123, ls, by omega, hst, hR2, (Px.tr hR hp3 hp4 hP2), (by rw [eZ0]; exact hp4.tr x9), hM2, hl2, hf2, (hd2b.trans hp8), (he2.trans hp9), (Kq.tr hp10 hK2), (HM.tr hp11 hh (h1 := hm) (fun _ => rfl) hH2 (fun h => absurd g0 h) (fun _ => g0)), rfl, rfl, hP, hS, lv_sub hl [0, 2, 3, 4] rfl, rfl⟩
    · skip
      have nc_2 : srt z a = 1 := (nI_eq (a := srt z a) (b := 1) (by omega) (by omega)).mp c_2
      refine lv_iload hx hb dX8_asks_30 (lv_at hl 0 rfl) ?_
      refine lv_iconst (v := 1) hx hb dX8_asks_32 (by decide) ?_
      refine lv_icmp_ne (tgt := 71) hx hb dX8_asks_33 (by decide) (fun c_125 => ?_) (fun c_125 => ?_)
      · skip
        have nc_125 : ¬ srt z b = 1 := fun h9 => c_125 ((nI_eq (a := srt z b) (b := 1) (by omega) (by omega)).mpr h9)
        refine lv_iload_n hx hb dX8_asks_71 rfl (lv_at hl 1 rfl) ?_
        refine lv_iconst (v := 2) hx hb dX8_asks_72 (by decide) ?_
        refine lv_icmp_ne (tgt := 179) hx hb dX8_asks_73 (by decide) (fun c_126 => ?_) (fun c_126 => absurd c_126 (fun h9 => absurd ((nI_eq (b := 2) (by omega) (by omega)).mp h9) (by omega)))
        refine lv_iload_n hx hb dX8_asks_179 rfl (lv_at hl 1 rfl) ?_
        refine lv_iconst (v := 3) hx hb dX8_asks_180 (by decide) ?_
        refine lv_icmp_ne (tgt := 283) hx hb dX8_asks_181 (by decide) (fun c_127 => ?_) (fun c_127 => absurd c_127 (fun h9 => absurd ((nI_eq (b := 3) (by omega) (by omega)).mp h9) (by omega)))
        refine lv_iload hx hb dX8_asks_283 (lv_at hl 0 rfl) ?_
        refine lv_iconst (v := 3) hx hb dX8_asks_285 (by decide) ?_
        refine lv_icmp_ne (tgt := 392) hx hb dX8_asks_286 (by decide) (fun c_128 => ?_) (fun c_128 => ?_)
        · skip
          have nc_128 : ¬ srt z b = 3 := fun h9 => c_128 ((nI_eq (a := srt z b) (b := 3) (by omega) (by omega)).mpr h9)
          refine lv_iload_n hx hb dX8_asks_392 rfl (lv_at hl 1 rfl) ?_
          refine lv_iconst (v := 3) hx hb dX8_asks_393 (by decide) ?_
          refine lv_icmp_ne (tgt := 421) hx hb dX8_asks_394 (by decide) (fun c_129 => ?_) (fun c_129 => absurd c_129 (fun h9 => absurd ((nI_eq (b := 3) (by omega) (by omega)).mp h9) (by omega)))
          refine lv_iload hx hb dX8_asks_421 (lv_at hl 0 rfl) ?_
          refine lv_iconst (v := 3) hx hb dX8_asks_423 (by decide) ?_
          refine lv_icmp_ne (tgt := 451) hx hb dX8_asks_424 (by decide) (fun c_130 => ?_) (fun c_130 => absurd c_130 (fun h9 => absurd ((nI_eq (b := 3) (by omega) (by omega)).mp h9) (by omega)))
          refine lv_aload_n hx hb dX8_asks_451 rfl (lv_at hl 2 rfl) ?_
          refine lv_bipush (v := (-7)) hx hb dX8_asks_452 (by decide) ?_
          refine lv_aload_n hx hb dX8_asks_454 rfl (lv_at hl 2 rfl) ?_
          refine m_get (v := .int (nI (askn z))) hx hb htu wu_in hown hK hP 25 (by decide) (htu _ U_61) rfl (m_v hR.1.2.2.2.2.2.2.1) dX8_asks_455 ?_
          refine m_cv (m_runV (As := [.int ((-7)), .int (nI (askn z))]) (rest := []) ⟨hx, hb, hml, hown, htu⟩ (m_stops l G hDD o F z ix 2 ((askn z)) hR ((Or.inr rfl)) ((by omega)) H.size) (cwV 2 htu gU_X8_stops rfl rfl rfl (by decide +kernel) ⟨show 0 + 1 ≤ 2 * fu + 191 by omega, show 8 + (3 + 11) + 0 ≤ 60 * fu + 5330 by omega⟩) hP hK rfl hl.1 rfl (lv_room (Nat.le_of_ble_eq_true rfl)) dX8_asks_458) hS (fun o_132 F_133 H locs hw_134 hP hS => ?_)
          try dsimp only at hw_134
          exact m_vret hx hb hr hK hP hS (by rw [show asks (un fu) z a b = stops z 2 (askn z) by unfold asks; rw [if_neg (by omega), if_neg (by omega), if_neg (by omega), if_neg (by omega), if_neg (by omega), if_neg (by omega), if_neg (by omega)]]; exact ⟨⟨ix, lf, hw_134.1, Px.rf, hM0.to (hw_134.2 36 (by decide)).2, (hw_134.2 35 (by decide)).1.trans hl0, Nat.le_trans (show lf ≤ stp z by omega) (x_stops _ _ _).2.2.2.2.2⟩, fun h => absurd h0 h, HM.own hh (hw_134.2 39 (by decide)).1 (hw_134.2 38 (by decide)).2, (hw_134.2 31 (by decide)).1, (hw_134.2 32 (by decide)).1, hw_134.2.mono (by decide)⟩) dX8_asks_461 hlocks
        · skip
          have nc_128 : srt z b = 3 := (nI_eq (a := srt z b) (b := 3) (by omega) (by omega)).mp c_128
          refine lv_aload_n hx hb dX8_asks_289 rfl (lv_at hl 2 rfl) ?_
          refine m_get (v := .ref (md G 9)) hx hb htu wu_in hown hK hP 9 (by decide) (htu _ U_54) rfl rfl dX8_asks_290 ?_
          refine lv_iload_n hx hb dX8_asks_293 rfl (lv_at hl 3 rfl) ?_
          refine m_ald (j := a) (v := nI (lev z a)) hx hb hK hP 8 9 rfl (by omega) (by decide) ta.2.1 dX8_asks_294 ?_
          refine lv_aload_n hx hb dX8_asks_295 rfl (lv_at hl 2 rfl) ?_
          refine m_get (v := .ref (md G 9)) hx hb htu wu_in hown hK hP 9 (by decide) (htu _ U_54) rfl rfl dX8_asks_296 ?_
          refine lv_iload_n hx hb dX8_asks_299 rfl (lv_at hl 4 rfl) ?_
          refine m_ald (j := b) (v := nI (lev z b)) hx hb hK hP 8 9 rfl (by omega) (by decide) tb.2.1 dX8_asks_300 ?_
          refine lv_icmp_gt (tgt := 392) hx hb dX8_asks_301 (by decide) (fun c_135 => ?_) (fun c_135 => ?_)
          · skip
            have nc_135 : lev z b < lev z a := (nI_ltI (a := lev z b) (b := lev z a) (by omega) (by omega)).mp c_135
            refine lv_iload_n hx hb dX8_asks_392 rfl (lv_at hl 1 rfl) ?_
            refine lv_iconst (v := 3) hx hb dX8_asks_393 (by decide) ?_
            refine lv_icmp_ne (tgt := 421) hx hb dX8_asks_394 (by decide) (fun c_136 => ?_) (fun c_136 => absurd c_136 (fun h9 => absurd ((nI_eq (b := 3) (by omega) (by omega)).mp h9) (by omega)))
            refine lv_iload hx hb dX8_asks_421 (lv_at hl 0 rfl) ?_
            refine lv_iconst (v := 3) hx hb dX8_asks_423 (by decide) ?_
            refine lv_icmp_ne (tgt := 451) hx hb dX8_asks_424 (by decide) (fun c_137 => absurd (congrArg nI (show srt z b = 3 by omega)) c_137) (fun c_137 => ?_)
            have ca : asks (un fu) z a b = un fu (startCp z a 0 (lev z b) (lev z b)).1 (startCp z a 0 (lev z b) (lev z b)).2 b := by unfold asks; rw [if_neg (by omega), if_neg (by omega), if_neg (by omega), if_neg (by omega), if_neg (by omega), if_neg (by omega), if_pos (by omega)]
            obtain ⟨S, eS⟩ : ∃ y, y = startCp z a 0 (lev z b) (lev z b) := ⟨_, rfl⟩
            rw [← eS] at ca
            rw [ca] at hb0
            have hbS : bnd S.1 ≤ 200000 := Nat.le_trans (b_un fu _ _ _) hb0
            have xS : Lx z S.1 := by rw [eS]; exact x_start _ _ _ _ _
            refine lv_aload_n hx hb dX8_asks_427 rfl (lv_at hl 2 rfl) ?_
            refine lv_iload_n hx hb dX8_asks_428 rfl (lv_at hl 3 rfl) ?_
            refine lv_iconst (v := 0) hx hb dX8_asks_429 (by decide) ?_
            refine lv_aload_n hx hb dX8_asks_430 rfl (lv_at hl 2 rfl) ?_
            refine m_get (v := .ref (md G 9)) hx hb htu wu_in hown hK hP 9 (by decide) (htu _ U_54) rfl rfl dX8_asks_431 ?_
            refine lv_iload_n hx hb dX8_asks_434 rfl (lv_at hl 4 rfl) ?_
            refine m_ald (j := b) (v := nI (lev z b)) hx hb hK hP 8 9 rfl (by omega) (by decide) tb.2.1 dX8_asks_435 ?_
            refine m_ci (m_runV (As := [.int (nI a), .int 0, .int (nI (lev z b))]) (rest := []) ⟨hx, hb, hml, hown, htu⟩ (m_beginLift l G hDD o F z ix lf a 0 (lev z b) hm hR hM0 ((by omega)) ((by omega)) tbl hh ((by rw [← eS]; exact hbS)) hd2 hl0 ((hh2 h0)) h0 ha1 H.size) (cwV 3 htu gU_X8_beginLift rfl rfl rfl (by decide +kernel) ⟨show 187 + 1 ≤ 2 * fu + 191 by omega, show 8 + (4 + 11) + 5145 ≤ 60 * fu + 5330 by omega⟩) hP hK rfl hl.1 rfl (lv_room (Nat.le_of_ble_eq_true rfl)) dX8_asks_436) hS (fun r_138 o_139 F_140 H locs hw_141 hP hS => ?_)
            try dsimp only at hw_141
            rw [← eS] at hw_141
            obtain ⟨⟨⟨ix1, hR1, hP1⟩, hM1, hv1, hs1, hH1, hK1⟩, he1, hl1⟩ := hw_141
            obtain ⟨hm1, hh1, hq1, hx1⟩ := hH1.at hh (by have := hh2 h0; omega)
            have xn := xS.1
            have xs := xS.2.2.2.2.2
            refine lv_istore (lv' := [(5, .int r_138), (4, .int (nI (srt z b))), (3, .int (nI (srt z a))), (0, .ref (mh G)), (1, .int (nI a)), (2, .int (nI b))]) hx hb dX8_asks_439 hl (by decide) rfl (fun ls hl => ?_)
            refine lv_aload_n hx hb dX8_asks_441 rfl (lv_at hl 3 rfl) ?_
            refine lv_iload hx hb dX8_asks_442 (lv_at hl 0 rfl) ?_
            refine lv_iload_n hx hb dX8_asks_444 rfl (lv_at hl 5 rfl) ?_
            refine m_cv (m_runV (As := [.int r_138, .int (nI b)]) (rest := []) ⟨hx, hb, hml, hown, htu⟩ (ih l G hDD o_139 F_140 S.1 ix1 (lf + 1) S.2 b hm1 r_138 (nI b) hR1 hM1.m0 hl1 hh1 ((by have := hh2 h0; omega)) ((fun h => by have := hh2 h0; have := hq1 h; omega)) ((he1.trans hd2)) hb0 ((by omega)) (((hK1 31 (by decide)).1.trans hd)) hfu ((fun h => ⟨(hv1 h).1, rfl, (hv1 h).2, by omega⟩)) H.size) (cwV 2 htu gU_X8_under rfl rfl rfl (by decide +kernel) ⟨show (2 * fu + 190) + 1 ≤ 2 * fu + 191 by omega, show 8 + (3 + 11) + (60 * fu + 5300) ≤ 60 * fu + 5330 by omega⟩) hP hK rfl hl.1 rfl (lv_room (Nat.le_of_ble_eq_true rfl)) dX8_asks_445) hS (fun o_143 F_144 H locs hw_145 hP hS => ?_)
            try dsimp only at hw_145
            obtain ⟨⟨ix2, lf2, hR2, hP2, hM2, hl2, hf2⟩, hs2, hH2, hd2b, he2, hK2⟩ := hw_145
            refine lv_goto (tgt := 461) hx hb dX8_asks_448 (by decide) ?_
            exact m_vret hx hb hr hK hP hS (by rw [ca]; exact ⟨⟨ix2, lf2, hR2, Px.tr hR hP1 xS hP2, hM2, hl2, hf2⟩, fun h => absurd h0 h, HM.tr hH1 hh hq1 hH2 hs2 un_sto, hd2b.trans (hK1 31 (by decide)).1, he2.trans he1, Kq.tr (hK1.mono (by decide)) hK2⟩) dX8_asks_461 hlocks
          · skip
            have nc_135 : ¬ lev z b < lev z a := fun h9 => c_135 ((nI_ltI (a := lev z b) (b := lev z a) (by omega) (by omega)).mpr h9)
            have ca : asks (un fu) z a b = (row z 1 b).foldl (fun s x => un fu s a x) (bind z b 0 a) := by unfold asks; rw [if_neg (by omega), if_neg (by omega), if_neg (by omega), if_neg (by omega), if_pos (by omega)]
            obtain ⟨Z0, eZ⟩ : ∃ y, y = bind z b 0 a := ⟨_, rfl⟩
            rw [← eZ] at ca
            obtain ⟨L, eL⟩ : ∃ y, y = row Z0 1 b := ⟨_, rfl⟩
            have eL2 : row z 1 b = L := by rw [eL, eZ]; rfl
            rw [eL2] at ca
            rw [ca] at hb0
            have hbz : bnd Z0 ≤ 200000 := Nat.le_trans (b_fold (fun s x => b_un fu s a x) L Z0) hb0
            have bz1 : bnd z + 1 ≤ 200000 := by rw [eZ, b_bind] at hbz; exact hbz
            have xZ : Lx z Z0 := by rw [eZ]; exact x_bind _ _ _ _ (by omega)
            have hZ : b < nT Z0 := Nat.lt_of_lt_of_le hb1 xZ.1
            obtain ⟨s1, s2, s3, -⟩ := xZ.2.2.1 b hb1
            have hZ3 : srt Z0 b = 3 := s1.trans (by omega)
            have v2 := (hR.rw (sd := 0) hb1 (by omega) (by omega)).2
            refine lv_aload_n hx hb dX8_asks_304 rfl (lv_at hl 2 rfl) ?_
            refine lv_iload_n hx hb dX8_asks_305 rfl (lv_at hl 4 rfl) ?_
            refine lv_iconst (v := 0) hx hb dX8_asks_306 (by decide) ?_
            refine lv_iload_n hx hb dX8_asks_307 rfl (lv_at hl 3 rfl) ?_
            refine m_cv (m_runV (As := [.int (nI b), .int 0, .int (nI a)]) (rest := []) ⟨hx, hb, hml, hown, htu⟩ (m_bind l G hDD o F z ix b 0 a hR hb1 ((by omega)) ((by omega)) ha1 ((by omega)) H.size) (cwV 3 htu gU_X8_bind rfl rfl rfl (by decide +kernel) ⟨show 0 + 1 ≤ 2 * fu + 191 by omega, show 8 + (5 + 11) + 0 ≤ 60 * fu + 5330 by omega⟩) hP hK rfl hl.1 rfl (lv_room (Nat.le_of_ble_eq_true rfl)) dX8_asks_308) hS (fun o_147 F_148 H locs hw_149 hP hS => ?_)
            try dsimp only at hw_149
            obtain ⟨⟨ix2, gR2, gP2⟩, gK2⟩ := hw_149
            rw [← eZ] at gR2
            obtain ⟨gw, gv⟩ := gR2.rw (sd := 1) hZ hZ3 (by omega)
            rw [s3, ← eL] at gw
            have hw1 := (gR2.2.2.2.2.2.1.1 b hZ hZ3).1
            have hwo := s3
            refine lv_aload_n hx hb dX8_asks_311 rfl (lv_at hl 2 rfl) ?_
            refine m_get (v := .ref (md G 21)) hx hb htu wu_in hown hK hP 21 (by decide) (htu _ U_116) rfl rfl dX8_asks_312 ?_
            refine lv_iconst (v := 2) hx hb dX8_asks_315 (by decide) ?_
            refine lv_aload_n hx hb dX8_asks_316 rfl (lv_at hl 2 rfl) ?_
            refine m_get (v := .ref (md G 10)) hx hb htu wu_in hown hK hP 10 (by decide) (htu _ U_80) rfl rfl dX8_asks_317 ?_
            refine lv_iload_n hx hb dX8_asks_320 rfl (lv_at hl 4 rfl) ?_
            refine m_ald (j := b) (v := nI (one z b)) hx hb hK hP 9 10 rfl (by omega) (by decide) (hw1.trans (congrArg nI hwo)) dX8_asks_321 ?_
            refine lv_imul hx hb dX8_asks_322 ?_
            refine m_top (y := nI (2 * (one z b))) (pk_mul 2 (one z b)) ?_
            refine lv_iconst (v := 1) hx hb dX8_asks_323 (by decide) ?_
            refine lv_iadd hx hb dX8_asks_324 ?_
            refine m_top (y := nI (2 * (one z b) + 1)) (nI_add (2 * (one z b)) 1) ?_
            refine m_ald (j := 2 * (one z b) + 1) (v := nI L.length) hx hb hK hP 18 21 rfl (by omega) (by decide) gw.1 dX8_asks_325 ?_
            refine lv_istore (lv' := [(5, .int (nI L.length)), (4, .int (nI (srt z b))), (3, .int (nI (srt z a))), (0, .ref (mh G)), (1, .int (nI a)), (2, .int (nI b))]) hx hb dX8_asks_326 hl (by decide) rfl (fun ls hl => ?_)
            refine lv_aload_n hx hb dX8_asks_328 rfl (lv_at hl 3 rfl) ?_
            refine m_get (v := .ref (md G 19)) hx hb htu wu_in hown hK hP 19 (by decide) (htu _ U_117) rfl rfl dX8_asks_329 ?_
            refine lv_iconst (v := 2) hx hb dX8_asks_332 (by decide) ?_
            refine lv_aload_n hx hb dX8_asks_333 rfl (lv_at hl 3 rfl) ?_
            refine m_get (v := .ref (md G 10)) hx hb htu wu_in hown hK hP 10 (by decide) (htu _ U_80) rfl rfl dX8_asks_334 ?_
            refine lv_iload_n hx hb dX8_asks_337 rfl (lv_at hl 5 rfl) ?_
            refine m_ald (j := b) (v := nI (one z b)) hx hb hK hP 9 10 rfl (by omega) (by decide) (hw1.trans (congrArg nI hwo)) dX8_asks_338 ?_
            refine lv_imul hx hb dX8_asks_339 ?_
            refine m_top (y := nI (2 * (one z b))) (pk_mul 2 (one z b)) ?_
            refine lv_iconst (v := 1) hx hb dX8_asks_340 (by decide) ?_
            refine lv_iadd hx hb dX8_asks_341 ?_
            refine m_top (y := nI (2 * (one z b) + 1)) (nI_add (2 * (one z b)) 1) ?_
            refine m_ald (j := 2 * (one z b) + 1) (v := F_148 19 (2 * (one z b) + 1)) hx hb hK hP 16 19 rfl (by omega) (by decide) rfl dX8_asks_342 ?_
            refine lv_istore (lv' := [(6, .int (F_148 19 (2 * (one z b) + 1))), (5, .int (nI L.length)), (4, .int (nI (srt z b))), (3, .int (nI (srt z a))), (0, .ref (mh G)), (1, .int (nI a)), (2, .int (nI b))]) hx hb dX8_asks_343 hl (by decide) rfl (fun ls hl => ?_)
            refine lv_iconst (v := 0) hx hb dX8_asks_345 (by decide) ?_
            refine lv_istore (lv' := [(7, .int 0), (6, .int (F_148 19 (2 * (one z b) + 1))), (5, .int (nI L.length)), (4, .int (nI (srt z b))), (3, .int (nI (srt z a))), (0, .ref (mh G)), (1, .int (nI a)), (2, .int (nI b))]) hx hb dX8_asks_346 hl (by decide) rfl (fun ls hl => ?_)
            refine w_loop (fun j H locs k sl g => ∃ (i : Nat) (zi : aS) (ix1 : Nat → Nat → Nat) (lf1 : Nat) (o1 : Nat → Int32) (F1 : Nat → Nat → Int32) (kv : Int32) (ls : Array Slot), i + j = L.length ∧ L.foldl (fun s x => un fu s a x) Z0 = (L.drop i).foldl (fun s x => un fu s a x) zi ∧ MR zi ix1 o1 F1 ∧ Px z ix ix1 ∧ Lx Z0 zi ∧ M0 lf1 F1 ∧ o1 35 = nI lf1 ∧ lf1 ≤ stp zi ∧ o1 31 = o 31 ∧ o1 32 = o 32 ∧ Kq [7, 8, 9, 10, 11, 12, 13, 14, 15, 16, 17, 18, 19, 20, 21, 24, 26, 27, 28, 29, 30, 31, 32, 35, 36, 37, 38, 39] o F (o1, F1) ∧ HM zi hm 60 o F (o1, F1) ∧ (i < L.length → kv = nI (ix1 (2 * one z b + 1) i)) ∧ k = 0 ∧ sl = 0 ∧ mP G o1 F1 H ∧ va_S (mA G s.heap.size) s.heap H locs ∧ lv_has ls 8 [(7, .int (nI i)), (0, .ref (mh G)), (1, .int (nI a)), (2, .int (nI b)), (5, .int (nI L.length)), (6, .int kv)] ∧ g = F0 m 348 ls []) ?_ ?_ L.length _ _ _ _ _ ⟨0, Z0, ix2, lf, o_147, F_148, (F_148 19 (2 * one z b + 1)), ls, by omega, rfl, gR2, gP2, Lx.rf, (hM0.to (gK2 36 (by decide)).2), ((gK2 35 (by decide)).1.trans hl0), (by have := xZ.2.2.2.2.2; omega), (gK2 31 (by decide)).1, (gK2 32 (by decide)).1, (gK2.mono (by decide)), (HM.own hh (gK2 39 (by decide)).1 (gK2 38 (by decide)).2), (fun h => (gw.2.2.1 h).1), rfl, rfl, hP, hS, lv_sub hl [0, 5, 6, 7, 2, 1] rfl, rfl⟩
            · intro H locs k sl g hI
              obtain ⟨i, zi, ix1, lf1, o1, F1, kv, ls, hp0, hp1, hp2, hp3, hp4, hp5, hp6, hp7, hp8, hp9, hp10, hp11, hp12, rfl, rfl, hP, hS, hl, rfl⟩ := hI
              obtain ⟨m1, m2, m3, m4, m5, m6, m7, m8⟩ := hp2.2.1
              have lb : L.length ≤ 200000 := Nat.le_trans gw.2.2.2.1 hbz
              refine lv_iload hx hb dX8_asks_348 (lv_at hl 0 rfl) ?_
              refine lv_iload hx hb dX8_asks_350 (lv_at hl 4 rfl) ?_
              refine lv_icmp_ge (tgt := 389) hx hb dX8_asks_352 (by decide) (fun c_150 => ?_) (fun c_150 => absurd (nI_le (by omega) (by omega)) c_150)
              refine lv_goto (tgt := 461) hx hb dX8_asks_389 (by decide) ?_
              have hend : L.foldl (fun s x => un fu s a x) Z0 = zi := by rw [hp1, List.drop_eq_nil_of_le (by omega)]; rfl
              exact m_vret hx hb hr hK hP hS (by rw [ca, hend]; exact ⟨⟨ix1, lf1, hp2, hp3, hp5, hp6, hp7⟩, fun h => absurd h0 h, hp11, hp8, hp9, hp10⟩) dX8_asks_461 hlocks
            · intro j ih9 H locs k sl g hI
              obtain ⟨i, zi, ix1, lf1, o1, F1, kv, ls, hp0, hp1, hp2, hp3, hp4, hp5, hp6, hp7, hp8, hp9, hp10, hp11, hp12, rfl, rfl, hP, hS, hl, rfl⟩ := hI
              obtain ⟨m1, m2, m3, m4, m5, m6, m7, m8⟩ := hp2.2.1
              have lb : L.length ≤ 200000 := Nat.le_trans gw.2.2.2.1 hbz
              have ni : i < L.length := by omega
              refine lv_iload hx hb dX8_asks_348 (lv_at hl 0 rfl) ?_
              refine lv_iload hx hb dX8_asks_350 (lv_at hl 4 rfl) ?_
              refine lv_icmp_ge (tgt := 389) hx hb dX8_asks_352 (by decide) (fun c_151 => absurd c_151 (nI_ge ni (by omega))) (fun c_151 => ?_)
              refine lv_aload_n hx hb dX8_asks_355 rfl (lv_at hl 1 rfl) ?_
              refine m_get (v := .int (sc (sto zi))) hx hb htu wu_in hown hK hP 27 (by decide) (htu _ U_45) rfl (m_v hp2.1.2.2.2.2.1) dX8_asks_356 ?_
              refine lv_if_ne (tgt := 389) hx hb dX8_asks_359 (by decide) (fun c_152 => ?_) (fun c_152 => ?_)
              · skip
                refine lv_goto (tgt := 461) hx hb dX8_asks_389 (by decide) ?_
                have hend : L.foldl (fun s x => un fu s a x) Z0 = zi := by rw [hp1, fold_stop (fun s y h => un_st h) (fun h => c_152 (sc_0.mpr h))]
                exact m_vret hx hb hr hK hP hS (by rw [ca, hend]; exact ⟨⟨ix1, lf1, hp2, hp3, hp5, hp6, hp7⟩, fun h => absurd h0 h, hp11, hp8, hp9, hp10⟩) dX8_asks_461 hlocks
              · skip
                have g0 : sto zi = 0 := sc_0.mp c_152
                obtain rfl := hp12 ni
                obtain ⟨l1, l2, l3, l4, l5, l6, l7, l8⟩ := hp2.pl (sd := 1) hp4 hZ hZ3 (by omega) (by rw [← eL]; exact ni)
                rw [s3, ← eL] at l3
                rw [s3] at l2
                have l2 : ix1 (2 * one z b + 1) i < bnd zi := l2
                rw [← eL] at l4
                rw [s3] at l7
                have hst := hp1.trans (fold_step (g := (fun s x => un fu s a x)) ni)
                have hbi : bnd (un fu zi a (L.getD i 0)) ≤ 200000 := by refine Nat.le_trans ?_ hb0; rw [hst]; exact b_fold (fun s x => b_un fu s a x) _ _
                have x9 : Lx zi (un fu zi a (L.getD i 0)) := x_un fu _ _ _
                have xn := xZ.1
                have xm := hp4.1
                refine lv_aload_n hx hb dX8_asks_362 rfl (lv_at hl 1 rfl) ?_
                refine lv_iload_n hx hb dX8_asks_363 rfl (lv_at hl 2 rfl) ?_
                refine lv_aload_n hx hb dX8_asks_364 rfl (lv_at hl 1 rfl) ?_
                refine m_get (v := .ref (md G 17)) hx hb htu wu_in hown hK hP 17 (by decide) (htu _ U_118) rfl rfl dX8_asks_365 ?_
                refine lv_iload hx hb dX8_asks_368 (lv_at hl 5 rfl) ?_
                refine m_ald (j := ix1 (2 * one z b + 1) i) (v := nI (L.getD i 0)) hx hb hK hP 14 17 rfl (by omega) (by decide) l3 dX8_asks_370 ?_
                refine m_cv (m_runV (As := [.int (nI a), .int (nI (L.getD i 0))]) (rest := []) ⟨hx, hb, hml, hown, htu⟩ (ih l G hDD o1 F1 zi ix1 lf1 a (L.getD i 0) hm (nI a) (nI (L.getD i 0)) hp2 hp5 hp6 (((hp11.1 g0).trans hh)) hhm ((fun _ => hh2 h0)) ((hp9.trans hd2)) hbi hp7 ((hp8.trans hd)) hfu ((fun _ => ⟨rfl, rfl, by omega, l4⟩)) H.size) (cwV 2 htu gU_X8_under rfl rfl rfl (by decide +kernel) ⟨show (2 * fu + 190) + 1 ≤ 2 * fu + 191 by omega, show 8 + (3 + 11) + (60 * fu + 5300) ≤ 60 * fu + 5330 by omega⟩) hP hK rfl hl.1 rfl (lv_room (Nat.le_of_ble_eq_true rfl)) dX8_asks_371) hS (fun o_154 F_155 H locs hw_156 hP hS => ?_)
                try dsimp only at hw_156
                obtain ⟨⟨ix3, lf2, hR2, hP2, hM2, hl2, hf2⟩, hs2, hH2, hd2b, he2, hK2⟩ := hw_156
                have q3 : ix3 (2 * one z b + 1) i = ix1 (2 * one z b + 1) i := by have := hP2.at (sd := 1) hp2 l5 l6 (by omega) l1; rw [l7] at this; exact this
                refine lv_aload_n hx hb dX8_asks_374 rfl (lv_at hl 1 rfl) ?_
                refine m_get (v := .ref (md G 18)) hx hb htu wu_in hown hK hP 18 (by decide) (htu _ U_119) rfl rfl dX8_asks_375 ?_
                refine lv_iload hx hb dX8_asks_378 (lv_at hl 5 rfl) ?_
                refine m_ald (j := ix1 (2 * one z b + 1) i) (v := F_155 18 (ix1 (2 * one z b + 1) i)) hx hb hK hP 15 18 rfl (by omega) (by decide) rfl dX8_asks_380 ?_
                refine lv_istore (lv' := [(6, .int (F_155 18 (ix1 (2 * one z b + 1) i))), (7, .int (nI i)), (0, .ref (mh G)), (1, .int (nI a)), (2, .int (nI b)), (5, .int (nI L.length))]) hx hb dX8_asks_381 hl (by decide) rfl (fun ls hl => ?_)
                refine lv_iinc (v := nI (i + 1)) (lv' := [(7, .int (nI (i + 1))), (6, .int (F_155 18 (ix1 (2 * one z b + 1) i))), (0, .ref (mh G)), (1, .int (nI a)), (2, .int (nI b)), (5, .int (nI L.length))]) hx hb dX8_asks_383 hl (k := 1) rfl (nI_1 i) (by decide) rfl (fun ls hl => ?_)
                refine lv_goto (tgt := 348) hx hb dX8_asks_386 (by decide) ?_
                exact ih9 _ _ _ _ _ ⟨i + 1, (un fu zi a (L.getD i 0)), ix3, lf2, o_154, F_155, (F_155 18 (ix1 (2 * one z b + 1) i)), ls, by omega, hst, hR2, (Px.tr hR hp3 (xZ.tr hp4) hP2), (hp4.tr x9), hM2, hl2, hf2, (hd2b.trans hp8), (he2.trans hp9), (Kq.tr hp10 hK2), (HM.tr hp11 hh (h1 := hm) (fun _ => rfl) hH2 (fun h => absurd g0 h) (fun _ => g0)), (fun h => by have h6 := (hR2.pl (sd := 1) (hp4.tr x9) hZ hZ3 (by omega) (i := i) (by rw [← eL]; exact ni)).2.2.2.2.2.2.2 (by rw [← eL]; exact h); rw [s3] at h6; rw [← q3]; exact h6), rfl, rfl, hP, hS, lv_sub hl [0, 2, 3, 4, 5, 1] rfl, rfl⟩
      · skip
        have nc_125 : srt z b = 1 := (nI_eq (a := srt z b) (b := 1) (by omega) (by omega)).mp c_125
        have fa := hR.2.2.2.1 a ha1 (by omega)
        have fb := hR.2.2.2.1 b hb1 (by omega)
        have ca : asks (un fu) z a b = un fu (un fu z (one z b) (one z a)) (two z a) (two z b) := by unfold asks; rw [if_neg (by omega), if_pos (by omega)]
        obtain ⟨Z1, eZ1⟩ : ∃ y, y = un fu z (one z b) (one z a) := ⟨_, rfl⟩
        rw [← eZ1] at ca
        have hb2 : bnd (un fu Z1 (two z a) (two z b)) ≤ 200000 := by rw [← ca]; exact hb0
        have hb3 : bnd Z1 ≤ 200000 := Nat.le_trans (b_un fu _ _ _) hb2
        have x1 : Lx z Z1 := by rw [eZ1]; exact x_un fu _ _ _
        refine lv_aload_n hx hb dX8_asks_36 rfl (lv_at hl 2 rfl) ?_
        refine lv_aload_n hx hb dX8_asks_37 rfl (lv_at hl 2 rfl) ?_
        refine m_get (v := .ref (md G 10)) hx hb htu wu_in hown hK hP 10 (by decide) (htu _ U_80) rfl rfl dX8_asks_38 ?_
        refine lv_iload_n hx hb dX8_asks_41 rfl (lv_at hl 4 rfl) ?_
        refine m_ald (j := b) (v := nI (one z b)) hx hb hK hP 9 10 rfl (by omega) (by decide) fb.1 dX8_asks_42 ?_
        refine lv_aload_n hx hb dX8_asks_43 rfl (lv_at hl 2 rfl) ?_
        refine m_get (v := .ref (md G 10)) hx hb htu wu_in hown hK hP 10 (by decide) (htu _ U_80) rfl rfl dX8_asks_44 ?_
        refine lv_iload_n hx hb dX8_asks_47 rfl (lv_at hl 3 rfl) ?_
        refine m_ald (j := a) (v := nI (one z a)) hx hb hK hP 9 10 rfl (by omega) (by decide) fa.1 dX8_asks_48 ?_
        refine m_cv (m_runV (As := [.int (nI (one z b)), .int (nI (one z a))]) (rest := []) ⟨hx, hb, hml, hown, htu⟩ (ih l G hDD o F z ix lf (one z b) (one z a) hm (nI (one z b)) (nI (one z a)) hR hM0 hl0 hh hhm hh2 hd2 ((by rw [← eZ1]; exact hb3)) ((by omega)) hd hfu ((fun _ => ⟨rfl, rfl, fb.2.2.1, fa.2.2.1⟩)) H.size) (cwV 2 htu gU_X8_under rfl rfl rfl (by decide +kernel) ⟨show (2 * fu + 190) + 1 ≤ 2 * fu + 191 by omega, show 8 + (3 + 11) + (60 * fu + 5300) ≤ 60 * fu + 5330 by omega⟩) hP hK rfl hl.1 rfl (lv_room (Nat.le_of_ble_eq_true rfl)) dX8_asks_49) hS (fun o_158 F_159 H locs hw_160 hP hS => ?_)
        try dsimp only at hw_160
        rw [← eZ1] at hw_160
        obtain ⟨⟨ix1, lf1, hR1, hP1, hM1, hl1, hf1⟩, hs1, hH1, hd1, he1, hK1⟩ := hw_160
        obtain ⟨hm1, hh1, hq1, hx1⟩ := hH1.at hh (by have := hh2 h0; omega)
        have ga := hR1.2.2.2.1 a (Nat.lt_of_lt_of_le ha1 x1.1) ((x1.2.2.1 a ha1).1.trans (by omega))
        rw [(x1.2.2.1 a ha1).2.2.2.1] at ga
        have gb := hR1.2.2.2.1 b (Nat.lt_of_lt_of_le hb1 x1.1) ((x1.2.2.1 b hb1).1.trans (by omega))
        rw [(x1.2.2.1 b hb1).2.2.2.1] at gb
        have b1N := hR1.2.1.1
        have xn := x1.1
        refine lv_aload_n hx hb dX8_asks_52 rfl (lv_at hl 2 rfl) ?_
        refine lv_aload_n hx hb dX8_asks_53 rfl (lv_at hl 2 rfl) ?_
        refine m_get (v := .ref (md G 11)) hx hb htu wu_in hown hK hP 11 (by decide) (htu _ U_114) rfl rfl dX8_asks_54 ?_
        refine lv_iload_n hx hb dX8_asks_57 rfl (lv_at hl 3 rfl) ?_
        refine m_ald (j := a) (v := nI (two z a)) hx hb hK hP 10 11 rfl (by omega) (by decide) ga.2.1 dX8_asks_58 ?_
        refine lv_aload_n hx hb dX8_asks_59 rfl (lv_at hl 2 rfl) ?_
        refine m_get (v := .ref (md G 11)) hx hb htu wu_in hown hK hP 11 (by decide) (htu _ U_114) rfl rfl dX8_asks_60 ?_
        refine lv_iload_n hx hb dX8_asks_63 rfl (lv_at hl 4 rfl) ?_
        refine m_ald (j := b) (v := nI (two z b)) hx hb hK hP 10 11 rfl (by omega) (by decide) gb.2.1 dX8_asks_64 ?_
        refine m_cv (m_runV (As := [.int (nI (two z a)), .int (nI (two z b))]) (rest := []) ⟨hx, hb, hml, hown, htu⟩ (ih l G hDD o_158 F_159 Z1 ix1 lf1 (two z a) (two z b) hm1 (nI (two z a)) (nI (two z b)) hR1 hM1 hl1 hh1 ((by have := hh2 h0; omega)) ((fun h => by have := hh2 h0; have := hq1 h; omega)) ((he1.trans hd2)) hb2 hf1 ((hd1.trans hd)) hfu ((fun _ => ⟨rfl, rfl, ga.2.2.2, gb.2.2.2⟩)) H.size) (cwV 2 htu gU_X8_under rfl rfl rfl (by decide +kernel) ⟨show (2 * fu + 190) + 1 ≤ 2 * fu + 191 by omega, show 8 + (3 + 11) + (60 * fu + 5300) ≤ 60 * fu + 5330 by omega⟩) hP hK rfl hl.1 rfl (lv_room (Nat.le_of_ble_eq_true rfl)) dX8_asks_65) hS (fun o_162 F_163 H locs hw_164 hP hS => ?_)
        try dsimp only at hw_164
        obtain ⟨⟨ix2, lf2, hR2, hP2, hM2, hl2, hf2⟩, hs2, hH2, hd2b, he2, hK2⟩ := hw_164
        refine lv_goto (tgt := 461) hx hb dX8_asks_68 (by decide) ?_
        exact m_vret hx hb hr hK hP hS (by rw [ca]; exact ⟨⟨ix2, lf2, hR2, Px.tr hR hP1 x1 hP2, hM2, hl2, hf2⟩, fun h => absurd h0 h, HM.tr hH1 hh hq1 hH2 hs2 un_sto, hd2b.trans hd1, he2.trans he1, Kq.tr hK1 hK2⟩) dX8_asks_461 hlocks
  · skip
    have nc_1 : srt z a = 0 := (nI_eq (a := srt z a) (b := 0) (by omega) (by omega)).mp c_1
    refine lv_iload_n hx hb dX8_asks_19 rfl (lv_at hl 3 rfl) ?_
    refine lv_iload_n hx hb dX8_asks_20 rfl (lv_at hl 4 rfl) ?_
    refine lv_icmp_ne (tgt := 25) hx hb dX8_asks_21 (by decide) (fun c_165 => ?_) (fun c_165 => ?_)
    · skip
      have nc_165 : ¬ a = b := fun h9 => c_165 ((nI_eq (a := a) (b := b) (by omega) (by omega)).mpr h9)
      refine lv_iload_n hx hb dX8_asks_25 rfl (lv_at hl 1 rfl) ?_
      refine lv_iconst (v := 1) hx hb dX8_asks_26 (by decide) ?_
      refine lv_icmp_ne (tgt := 71) hx hb dX8_asks_27 (by decide) (fun c_166 => ?_) (fun c_166 => absurd c_166 (fun h9 => absurd ((nI_eq (b := 1) (by omega) (by omega)).mp h9) (by omega)))
      refine lv_iload_n hx hb dX8_asks_71 rfl (lv_at hl 1 rfl) ?_
      refine lv_iconst (v := 2) hx hb dX8_asks_72 (by decide) ?_
      refine lv_icmp_ne (tgt := 179) hx hb dX8_asks_73 (by decide) (fun c_167 => ?_) (fun c_167 => absurd c_167 (fun h9 => absurd ((nI_eq (b := 2) (by omega) (by omega)).mp h9) (by omega)))
      refine lv_iload_n hx hb dX8_asks_179 rfl (lv_at hl 1 rfl) ?_
      refine lv_iconst (v := 3) hx hb dX8_asks_180 (by decide) ?_
      refine lv_icmp_ne (tgt := 283) hx hb dX8_asks_181 (by decide) (fun c_168 => ?_) (fun c_168 => absurd c_168 (fun h9 => absurd ((nI_eq (b := 3) (by omega) (by omega)).mp h9) (by omega)))
      refine lv_iload hx hb dX8_asks_283 (lv_at hl 0 rfl) ?_
      refine lv_iconst (v := 3) hx hb dX8_asks_285 (by decide) ?_
      refine lv_icmp_ne (tgt := 392) hx hb dX8_asks_286 (by decide) (fun c_169 => ?_) (fun c_169 => ?_)
      · skip
        have nc_169 : ¬ srt z b = 3 := fun h9 => c_169 ((nI_eq (a := srt z b) (b := 3) (by omega) (by omega)).mpr h9)
        refine lv_iload_n hx hb dX8_asks_392 rfl (lv_at hl 1 rfl) ?_
        refine lv_iconst (v := 3) hx hb dX8_asks_393 (by decide) ?_
        refine lv_icmp_ne (tgt := 421) hx hb dX8_asks_394 (by decide) (fun c_170 => ?_) (fun c_170 => absurd c_170 (fun h9 => absurd ((nI_eq (b := 3) (by omega) (by omega)).mp h9) (by omega)))
        refine lv_iload hx hb dX8_asks_421 (lv_at hl 0 rfl) ?_
        refine lv_iconst (v := 3) hx hb dX8_asks_423 (by decide) ?_
        refine lv_icmp_ne (tgt := 451) hx hb dX8_asks_424 (by decide) (fun c_171 => ?_) (fun c_171 => absurd c_171 (fun h9 => absurd ((nI_eq (b := 3) (by omega) (by omega)).mp h9) (by omega)))
        refine lv_aload_n hx hb dX8_asks_451 rfl (lv_at hl 2 rfl) ?_
        refine lv_bipush (v := (-7)) hx hb dX8_asks_452 (by decide) ?_
        refine lv_aload_n hx hb dX8_asks_454 rfl (lv_at hl 2 rfl) ?_
        refine m_get (v := .int (nI (askn z))) hx hb htu wu_in hown hK hP 25 (by decide) (htu _ U_61) rfl (m_v hR.1.2.2.2.2.2.2.1) dX8_asks_455 ?_
        refine m_cv (m_runV (As := [.int ((-7)), .int (nI (askn z))]) (rest := []) ⟨hx, hb, hml, hown, htu⟩ (m_stops l G hDD o F z ix 2 ((askn z)) hR ((Or.inr rfl)) ((by omega)) H.size) (cwV 2 htu gU_X8_stops rfl rfl rfl (by decide +kernel) ⟨show 0 + 1 ≤ 2 * fu + 191 by omega, show 8 + (3 + 11) + 0 ≤ 60 * fu + 5330 by omega⟩) hP hK rfl hl.1 rfl (lv_room (Nat.le_of_ble_eq_true rfl)) dX8_asks_458) hS (fun o_173 F_174 H locs hw_175 hP hS => ?_)
        try dsimp only at hw_175
        exact m_vret hx hb hr hK hP hS (by rw [show asks (un fu) z a b = stops z 2 (askn z) by unfold asks; rw [if_neg (by omega), if_neg (by omega), if_neg (by omega), if_neg (by omega), if_neg (by omega), if_neg (by omega), if_neg (by omega)]]; exact ⟨⟨ix, lf, hw_175.1, Px.rf, hM0.to (hw_175.2 36 (by decide)).2, (hw_175.2 35 (by decide)).1.trans hl0, Nat.le_trans (show lf ≤ stp z by omega) (x_stops _ _ _).2.2.2.2.2⟩, fun h => absurd h0 h, HM.own hh (hw_175.2 39 (by decide)).1 (hw_175.2 38 (by decide)).2, (hw_175.2 31 (by decide)).1, (hw_175.2 32 (by decide)).1, hw_175.2.mono (by decide)⟩) dX8_asks_461 hlocks
      · skip
        have nc_169 : srt z b = 3 := (nI_eq (a := srt z b) (b := 3) (by omega) (by omega)).mp c_169
        refine lv_aload_n hx hb dX8_asks_289 rfl (lv_at hl 2 rfl) ?_
        refine m_get (v := .ref (md G 9)) hx hb htu wu_in hown hK hP 9 (by decide) (htu _ U_54) rfl rfl dX8_asks_290 ?_
        refine lv_iload_n hx hb dX8_asks_293 rfl (lv_at hl 3 rfl) ?_
        refine m_ald (j := a) (v := nI (lev z a)) hx hb hK hP 8 9 rfl (by omega) (by decide) ta.2.1 dX8_asks_294 ?_
        refine lv_aload_n hx hb dX8_asks_295 rfl (lv_at hl 2 rfl) ?_
        refine m_get (v := .ref (md G 9)) hx hb htu wu_in hown hK hP 9 (by decide) (htu _ U_54) rfl rfl dX8_asks_296 ?_
        refine lv_iload_n hx hb dX8_asks_299 rfl (lv_at hl 4 rfl) ?_
        refine m_ald (j := b) (v := nI (lev z b)) hx hb hK hP 8 9 rfl (by omega) (by decide) tb.2.1 dX8_asks_300 ?_
        refine lv_icmp_gt (tgt := 392) hx hb dX8_asks_301 (by decide) (fun c_176 => ?_) (fun c_176 => ?_)
        · skip
          have nc_176 : lev z b < lev z a := (nI_ltI (a := lev z b) (b := lev z a) (by omega) (by omega)).mp c_176
          refine lv_iload_n hx hb dX8_asks_392 rfl (lv_at hl 1 rfl) ?_
          refine lv_iconst (v := 3) hx hb dX8_asks_393 (by decide) ?_
          refine lv_icmp_ne (tgt := 421) hx hb dX8_asks_394 (by decide) (fun c_177 => ?_) (fun c_177 => absurd c_177 (fun h9 => absurd ((nI_eq (b := 3) (by omega) (by omega)).mp h9) (by omega)))
          refine lv_iload hx hb dX8_asks_421 (lv_at hl 0 rfl) ?_
          refine lv_iconst (v := 3) hx hb dX8_asks_423 (by decide) ?_
          refine lv_icmp_ne (tgt := 451) hx hb dX8_asks_424 (by decide) (fun c_178 => absurd (congrArg nI (show srt z b = 3 by omega)) c_178) (fun c_178 => ?_)
          have ca : asks (un fu) z a b = un fu (startCp z a 0 (lev z b) (lev z b)).1 (startCp z a 0 (lev z b) (lev z b)).2 b := by unfold asks; rw [if_neg (by omega), if_neg (by omega), if_neg (by omega), if_neg (by omega), if_neg (by omega), if_neg (by omega), if_pos (by omega)]
          obtain ⟨S, eS⟩ : ∃ y, y = startCp z a 0 (lev z b) (lev z b) := ⟨_, rfl⟩
          rw [← eS] at ca
          rw [ca] at hb0
          have hbS : bnd S.1 ≤ 200000 := Nat.le_trans (b_un fu _ _ _) hb0
          have xS : Lx z S.1 := by rw [eS]; exact x_start _ _ _ _ _
          refine lv_aload_n hx hb dX8_asks_427 rfl (lv_at hl 2 rfl) ?_
          refine lv_iload_n hx hb dX8_asks_428 rfl (lv_at hl 3 rfl) ?_
          refine lv_iconst (v := 0) hx hb dX8_asks_429 (by decide) ?_
          refine lv_aload_n hx hb dX8_asks_430 rfl (lv_at hl 2 rfl) ?_
          refine m_get (v := .ref (md G 9)) hx hb htu wu_in hown hK hP 9 (by decide) (htu _ U_54) rfl rfl dX8_asks_431 ?_
          refine lv_iload_n hx hb dX8_asks_434 rfl (lv_at hl 4 rfl) ?_
          refine m_ald (j := b) (v := nI (lev z b)) hx hb hK hP 8 9 rfl (by omega) (by decide) tb.2.1 dX8_asks_435 ?_
          refine m_ci (m_runV (As := [.int (nI a), .int 0, .int (nI (lev z b))]) (rest := []) ⟨hx, hb, hml, hown, htu⟩ (m_beginLift l G hDD o F z ix lf a 0 (lev z b) hm hR hM0 ((by omega)) ((by omega)) tbl hh ((by rw [← eS]; exact hbS)) hd2 hl0 ((hh2 h0)) h0 ha1 H.size) (cwV 3 htu gU_X8_beginLift rfl rfl rfl (by decide +kernel) ⟨show 187 + 1 ≤ 2 * fu + 191 by omega, show 8 + (4 + 11) + 5145 ≤ 60 * fu + 5330 by omega⟩) hP hK rfl hl.1 rfl (lv_room (Nat.le_of_ble_eq_true rfl)) dX8_asks_436) hS (fun r_179 o_180 F_181 H locs hw_182 hP hS => ?_)
          try dsimp only at hw_182
          rw [← eS] at hw_182
          obtain ⟨⟨⟨ix1, hR1, hP1⟩, hM1, hv1, hs1, hH1, hK1⟩, he1, hl1⟩ := hw_182
          obtain ⟨hm1, hh1, hq1, hx1⟩ := hH1.at hh (by have := hh2 h0; omega)
          have xn := xS.1
          have xs := xS.2.2.2.2.2
          refine lv_istore (lv' := [(5, .int r_179), (4, .int (nI (srt z b))), (3, .int (nI (srt z a))), (0, .ref (mh G)), (1, .int (nI a)), (2, .int (nI b))]) hx hb dX8_asks_439 hl (by decide) rfl (fun ls hl => ?_)
          refine lv_aload_n hx hb dX8_asks_441 rfl (lv_at hl 3 rfl) ?_
          refine lv_iload hx hb dX8_asks_442 (lv_at hl 0 rfl) ?_
          refine lv_iload_n hx hb dX8_asks_444 rfl (lv_at hl 5 rfl) ?_
          refine m_cv (m_runV (As := [.int r_179, .int (nI b)]) (rest := []) ⟨hx, hb, hml, hown, htu⟩ (ih l G hDD o_180 F_181 S.1 ix1 (lf + 1) S.2 b hm1 r_179 (nI b) hR1 hM1.m0 hl1 hh1 ((by have := hh2 h0; omega)) ((fun h => by have := hh2 h0; have := hq1 h; omega)) ((he1.trans hd2)) hb0 ((by omega)) (((hK1 31 (by decide)).1.trans hd)) hfu ((fun h => ⟨(hv1 h).1, rfl, (hv1 h).2, by omega⟩)) H.size) (cwV 2 htu gU_X8_under rfl rfl rfl (by decide +kernel) ⟨show (2 * fu + 190) + 1 ≤ 2 * fu + 191 by omega, show 8 + (3 + 11) + (60 * fu + 5300) ≤ 60 * fu + 5330 by omega⟩) hP hK rfl hl.1 rfl (lv_room (Nat.le_of_ble_eq_true rfl)) dX8_asks_445) hS (fun o_184 F_185 H locs hw_186 hP hS => ?_)
          try dsimp only at hw_186
          obtain ⟨⟨ix2, lf2, hR2, hP2, hM2, hl2, hf2⟩, hs2, hH2, hd2b, he2, hK2⟩ := hw_186
          refine lv_goto (tgt := 461) hx hb dX8_asks_448 (by decide) ?_
          exact m_vret hx hb hr hK hP hS (by rw [ca]; exact ⟨⟨ix2, lf2, hR2, Px.tr hR hP1 xS hP2, hM2, hl2, hf2⟩, fun h => absurd h0 h, HM.tr hH1 hh hq1 hH2 hs2 un_sto, hd2b.trans (hK1 31 (by decide)).1, he2.trans he1, Kq.tr (hK1.mono (by decide)) hK2⟩) dX8_asks_461 hlocks
        · skip
          have nc_176 : ¬ lev z b < lev z a := fun h9 => c_176 ((nI_ltI (a := lev z b) (b := lev z a) (by omega) (by omega)).mpr h9)
          have ca : asks (un fu) z a b = (row z 1 b).foldl (fun s x => un fu s a x) (bind z b 0 a) := by unfold asks; rw [if_neg (by omega), if_neg (by omega), if_neg (by omega), if_neg (by omega), if_pos (by omega)]
          obtain ⟨Z0, eZ⟩ : ∃ y, y = bind z b 0 a := ⟨_, rfl⟩
          rw [← eZ] at ca
          obtain ⟨L, eL⟩ : ∃ y, y = row Z0 1 b := ⟨_, rfl⟩
          have eL2 : row z 1 b = L := by rw [eL, eZ]; rfl
          rw [eL2] at ca
          rw [ca] at hb0
          have hbz : bnd Z0 ≤ 200000 := Nat.le_trans (b_fold (fun s x => b_un fu s a x) L Z0) hb0
          have bz1 : bnd z + 1 ≤ 200000 := by rw [eZ, b_bind] at hbz; exact hbz
          have xZ : Lx z Z0 := by rw [eZ]; exact x_bind _ _ _ _ (by omega)
          have hZ : b < nT Z0 := Nat.lt_of_lt_of_le hb1 xZ.1
          obtain ⟨s1, s2, s3, -⟩ := xZ.2.2.1 b hb1
          have hZ3 : srt Z0 b = 3 := s1.trans (by omega)
          have v2 := (hR.rw (sd := 0) hb1 (by omega) (by omega)).2
          refine lv_aload_n hx hb dX8_asks_304 rfl (lv_at hl 2 rfl) ?_
          refine lv_iload_n hx hb dX8_asks_305 rfl (lv_at hl 4 rfl) ?_
          refine lv_iconst (v := 0) hx hb dX8_asks_306 (by decide) ?_
          refine lv_iload_n hx hb dX8_asks_307 rfl (lv_at hl 3 rfl) ?_
          refine m_cv (m_runV (As := [.int (nI b), .int 0, .int (nI a)]) (rest := []) ⟨hx, hb, hml, hown, htu⟩ (m_bind l G hDD o F z ix b 0 a hR hb1 ((by omega)) ((by omega)) ha1 ((by omega)) H.size) (cwV 3 htu gU_X8_bind rfl rfl rfl (by decide +kernel) ⟨show 0 + 1 ≤ 2 * fu + 191 by omega, show 8 + (5 + 11) + 0 ≤ 60 * fu + 5330 by omega⟩) hP hK rfl hl.1 rfl (lv_room (Nat.le_of_ble_eq_true rfl)) dX8_asks_308) hS (fun o_188 F_189 H locs hw_190 hP hS => ?_)
          try dsimp only at hw_190
          obtain ⟨⟨ix2, gR2, gP2⟩, gK2⟩ := hw_190
          rw [← eZ] at gR2
          obtain ⟨gw, gv⟩ := gR2.rw (sd := 1) hZ hZ3 (by omega)
          rw [s3, ← eL] at gw
          have hw1 := (gR2.2.2.2.2.2.1.1 b hZ hZ3).1
          have hwo := s3
          refine lv_aload_n hx hb dX8_asks_311 rfl (lv_at hl 2 rfl) ?_
          refine m_get (v := .ref (md G 21)) hx hb htu wu_in hown hK hP 21 (by decide) (htu _ U_116) rfl rfl dX8_asks_312 ?_
          refine lv_iconst (v := 2) hx hb dX8_asks_315 (by decide) ?_
          refine lv_aload_n hx hb dX8_asks_316 rfl (lv_at hl 2 rfl) ?_
          refine m_get (v := .ref (md G 10)) hx hb htu wu_in hown hK hP 10 (by decide) (htu _ U_80) rfl rfl dX8_asks_317 ?_
          refine lv_iload_n hx hb dX8_asks_320 rfl (lv_at hl 4 rfl) ?_
          refine m_ald (j := b) (v := nI (one z b)) hx hb hK hP 9 10 rfl (by omega) (by decide) (hw1.trans (congrArg nI hwo)) dX8_asks_321 ?_
          refine lv_imul hx hb dX8_asks_322 ?_
          refine m_top (y := nI (2 * (one z b))) (pk_mul 2 (one z b)) ?_
          refine lv_iconst (v := 1) hx hb dX8_asks_323 (by decide) ?_
          refine lv_iadd hx hb dX8_asks_324 ?_
          refine m_top (y := nI (2 * (one z b) + 1)) (nI_add (2 * (one z b)) 1) ?_
          refine m_ald (j := 2 * (one z b) + 1) (v := nI L.length) hx hb hK hP 18 21 rfl (by omega) (by decide) gw.1 dX8_asks_325 ?_
          refine lv_istore (lv' := [(5, .int (nI L.length)), (4, .int (nI (srt z b))), (3, .int (nI (srt z a))), (0, .ref (mh G)), (1, .int (nI a)), (2, .int (nI b))]) hx hb dX8_asks_326 hl (by decide) rfl (fun ls hl => ?_)
          refine lv_aload_n hx hb dX8_asks_328 rfl (lv_at hl 3 rfl) ?_
          refine m_get (v := .ref (md G 19)) hx hb htu wu_in hown hK hP 19 (by decide) (htu _ U_117) rfl rfl dX8_asks_329 ?_
          refine lv_iconst (v := 2) hx hb dX8_asks_332 (by decide) ?_
          refine lv_aload_n hx hb dX8_asks_333 rfl (lv_at hl 3 rfl) ?_
          refine m_get (v := .ref (md G 10)) hx hb htu wu_in hown hK hP 10 (by decide) (htu _ U_80) rfl rfl dX8_asks_334 ?_
          refine lv_iload_n hx hb dX8_asks_337 rfl (lv_at hl 5 rfl) ?_
          refine m_ald (j := b) (v := nI (one z b)) hx hb hK hP 9 10 rfl (by omega) (by decide) (hw1.trans (congrArg nI hwo)) dX8_asks_338 ?_
          refine lv_imul hx hb dX8_asks_339 ?_
          refine m_top (y := nI (2 * (one z b))) (pk_mul 2 (one z b)) ?_
          refine lv_iconst (v := 1) hx hb dX8_asks_340 (by decide) ?_
          refine lv_iadd hx hb dX8_asks_341 ?_
          refine m_top (y := nI (2 * (one z b) + 1)) (nI_add (2 * (one z b)) 1) ?_
          refine m_ald (j := 2 * (one z b) + 1) (v := F_189 19 (2 * (one z b) + 1)) hx hb hK hP 16 19 rfl (by omega) (by decide) rfl dX8_asks_342 ?_
          refine lv_istore (lv' := [(6, .int (F_189 19 (2 * (one z b) + 1))), (5, .int (nI L.length)), (4, .int (nI (srt z b))), (3, .int (nI (srt z a))), (0, .ref (mh G)), (1, .int (nI a)), (2, .int (nI b))]) hx hb dX8_asks_343 hl (by decide) rfl (fun ls hl => ?_)
          refine lv_iconst (v := 0) hx hb dX8_asks_345 (by decide) ?_
          refine lv_istore (lv' := [(7, .int 0), (6, .int (F_189 19 (2 * (one z b) + 1))), (5, .int (nI L.length)), (4, .int (nI (srt z b))), (3, .int (nI (srt z a))), (0, .ref (mh G)), (1, .int (nI a)), (2, .int (nI b))]) hx hb dX8_asks_346 hl (by decide) rfl (fun ls hl => ?_)
          refine w_loop (fun j H locs k sl g => ∃ (i : Nat) (zi : aS) (ix1 : Nat → Nat → Nat) (lf1 : Nat) (o1 : Nat → Int32) (F1 : Nat → Nat → Int32) (kv : Int32) (ls : Array Slot), i + j = L.length ∧ L.foldl (fun s x => un fu s a x) Z0 = (L.drop i).foldl (fun s x => un fu s a x) zi ∧ MR zi ix1 o1 F1 ∧ Px z ix ix1 ∧ Lx Z0 zi ∧ M0 lf1 F1 ∧ o1 35 = nI lf1 ∧ lf1 ≤ stp zi ∧ o1 31 = o 31 ∧ o1 32 = o 32 ∧ Kq [7, 8, 9, 10, 11, 12, 13, 14, 15, 16, 17, 18, 19, 20, 21, 24, 26, 27, 28, 29, 30, 31, 32, 35, 36, 37, 38, 39] o F (o1, F1) ∧ HM zi hm 60 o F (o1, F1) ∧ (i < L.length → kv = nI (ix1 (2 * one z b + 1) i)) ∧ k = 0 ∧ sl = 0 ∧ mP G o1 F1 H ∧ va_S (mA G s.heap.size) s.heap H locs ∧ lv_has ls 8 [(7, .int (nI i)), (0, .ref (mh G)), (1, .int (nI a)), (2, .int (nI b)), (5, .int (nI L.length)), (6, .int kv)] ∧ g = F0 m 348 ls []) ?_ ?_ L.length _ _ _ _ _ ⟨0, Z0, ix2, lf, o_188, F_189, (F_189 19 (2 * one z b + 1)), ls, by omega, rfl, gR2, gP2, Lx.rf, (hM0.to (gK2 36 (by decide)).2), ((gK2 35 (by decide)).1.trans hl0), (by have := xZ.2.2.2.2.2; omega), (gK2 31 (by decide)).1, (gK2 32 (by decide)).1, (gK2.mono (by decide)), (HM.own hh (gK2 39 (by decide)).1 (gK2 38 (by decide)).2), (fun h => (gw.2.2.1 h).1), rfl, rfl, hP, hS, lv_sub hl [0, 5, 6, 7, 2, 1] rfl, rfl⟩
          · intro H locs k sl g hI
            obtain ⟨i, zi, ix1, lf1, o1, F1, kv, ls, hp0, hp1, hp2, hp3, hp4, hp5, hp6, hp7, hp8, hp9, hp10, hp11, hp12, rfl, rfl, hP, hS, hl, rfl⟩ := hI
            obtain ⟨m1, m2, m3, m4, m5, m6, m7, m8⟩ := hp2.2.1
            have lb : L.length ≤ 200000 := Nat.le_trans gw.2.2.2.1 hbz
            refine lv_iload hx hb dX8_asks_348 (lv_at hl 0 rfl) ?_
            refine lv_iload hx hb dX8_asks_350 (lv_at hl 4 rfl) ?_
            refine lv_icmp_ge (tgt := 389) hx hb dX8_asks_352 (by decide) (fun c_191 => ?_) (fun c_191 => absurd (nI_le (by omega) (by omega)) c_191)
            refine lv_goto (tgt := 461) hx hb dX8_asks_389 (by decide) ?_
            have hend : L.foldl (fun s x => un fu s a x) Z0 = zi := by rw [hp1, List.drop_eq_nil_of_le (by omega)]; rfl
            exact m_vret hx hb hr hK hP hS (by rw [ca, hend]; exact ⟨⟨ix1, lf1, hp2, hp3, hp5, hp6, hp7⟩, fun h => absurd h0 h, hp11, hp8, hp9, hp10⟩) dX8_asks_461 hlocks
          · intro j ih9 H locs k sl g hI
            obtain ⟨i, zi, ix1, lf1, o1, F1, kv, ls, hp0, hp1, hp2, hp3, hp4, hp5, hp6, hp7, hp8, hp9, hp10, hp11, hp12, rfl, rfl, hP, hS, hl, rfl⟩ := hI
            obtain ⟨m1, m2, m3, m4, m5, m6, m7, m8⟩ := hp2.2.1
            have lb : L.length ≤ 200000 := Nat.le_trans gw.2.2.2.1 hbz
            have ni : i < L.length := by omega
            refine lv_iload hx hb dX8_asks_348 (lv_at hl 0 rfl) ?_
            refine lv_iload hx hb dX8_asks_350 (lv_at hl 4 rfl) ?_
            refine lv_icmp_ge (tgt := 389) hx hb dX8_asks_352 (by decide) (fun c_192 => absurd c_192 (nI_ge ni (by omega))) (fun c_192 => ?_)
            refine lv_aload_n hx hb dX8_asks_355 rfl (lv_at hl 1 rfl) ?_
            refine m_get (v := .int (sc (sto zi))) hx hb htu wu_in hown hK hP 27 (by decide) (htu _ U_45) rfl (m_v hp2.1.2.2.2.2.1) dX8_asks_356 ?_
            refine lv_if_ne (tgt := 389) hx hb dX8_asks_359 (by decide) (fun c_193 => ?_) (fun c_193 => ?_)
            · skip
              refine lv_goto (tgt := 461) hx hb dX8_asks_389 (by decide) ?_
              have hend : L.foldl (fun s x => un fu s a x) Z0 = zi := by rw [hp1, fold_stop (fun s y h => un_st h) (fun h => c_193 (sc_0.mpr h))]
              exact m_vret hx hb hr hK hP hS (by rw [ca, hend]; exact ⟨⟨ix1, lf1, hp2, hp3, hp5, hp6, hp7⟩, fun h => absurd h0 h, hp11, hp8, hp9, hp10⟩) dX8_asks_461 hlocks
            · skip
              have g0 : sto zi = 0 := sc_0.mp c_193
              obtain rfl := hp12 ni
              obtain ⟨l1, l2, l3, l4, l5, l6, l7, l8⟩ := hp2.pl (sd := 1) hp4 hZ hZ3 (by omega) (by rw [← eL]; exact ni)
              rw [s3, ← eL] at l3
              rw [s3] at l2
              have l2 : ix1 (2 * one z b + 1) i < bnd zi := l2
              rw [← eL] at l4
              rw [s3] at l7
              have hst := hp1.trans (fold_step (g := (fun s x => un fu s a x)) ni)
              have hbi : bnd (un fu zi a (L.getD i 0)) ≤ 200000 := by refine Nat.le_trans ?_ hb0; rw [hst]; exact b_fold (fun s x => b_un fu s a x) _ _
              have x9 : Lx zi (un fu zi a (L.getD i 0)) := x_un fu _ _ _
              have xn := xZ.1
              have xm := hp4.1
              refine lv_aload_n hx hb dX8_asks_362 rfl (lv_at hl 1 rfl) ?_
              refine lv_iload_n hx hb dX8_asks_363 rfl (lv_at hl 2 rfl) ?_
              refine lv_aload_n hx hb dX8_asks_364 rfl (lv_at hl 1 rfl) ?_
              refine m_get (v := .ref (md G 17)) hx hb htu wu_in hown hK hP 17 (by decide) (htu _ U_118) rfl rfl dX8_asks_365 ?_
              refine lv_iload hx hb dX8_asks_368 (lv_at hl 5 rfl) ?_
              refine m_ald (j := ix1 (2 * one z b + 1) i) (v := nI (L.getD i 0)) hx hb hK hP 14 17 rfl (by omega) (by decide) l3 dX8_asks_370 ?_
              refine m_cv (m_runV (As := [.int (nI a), .int (nI (L.getD i 0))]) (rest := []) ⟨hx, hb, hml, hown, htu⟩ (ih l G hDD o1 F1 zi ix1 lf1 a (L.getD i 0) hm (nI a) (nI (L.getD i 0)) hp2 hp5 hp6 (((hp11.1 g0).trans hh)) hhm ((fun _ => hh2 h0)) ((hp9.trans hd2)) hbi hp7 ((hp8.trans hd)) hfu ((fun _ => ⟨rfl, rfl, by omega, l4⟩)) H.size) (cwV 2 htu gU_X8_under rfl rfl rfl (by decide +kernel) ⟨show (2 * fu + 190) + 1 ≤ 2 * fu + 191 by omega, show 8 + (3 + 11) + (60 * fu + 5300) ≤ 60 * fu + 5330 by omega⟩) hP hK rfl hl.1 rfl (lv_room (Nat.le_of_ble_eq_true rfl)) dX8_asks_371) hS (fun o_195 F_196 H locs hw_197 hP hS => ?_)
              try dsimp only at hw_197
              obtain ⟨⟨ix3, lf2, hR2, hP2, hM2, hl2, hf2⟩, hs2, hH2, hd2b, he2, hK2⟩ := hw_197
              have q3 : ix3 (2 * one z b + 1) i = ix1 (2 * one z b + 1) i := by have := hP2.at (sd := 1) hp2 l5 l6 (by omega) l1; rw [l7] at this; exact this
              refine lv_aload_n hx hb dX8_asks_374 rfl (lv_at hl 1 rfl) ?_
              refine m_get (v := .ref (md G 18)) hx hb htu wu_in hown hK hP 18 (by decide) (htu _ U_119) rfl rfl dX8_asks_375 ?_
              refine lv_iload hx hb dX8_asks_378 (lv_at hl 5 rfl) ?_
              refine m_ald (j := ix1 (2 * one z b + 1) i) (v := F_196 18 (ix1 (2 * one z b + 1) i)) hx hb hK hP 15 18 rfl (by omega) (by decide) rfl dX8_asks_380 ?_
              refine lv_istore (lv' := [(6, .int (F_196 18 (ix1 (2 * one z b + 1) i))), (7, .int (nI i)), (0, .ref (mh G)), (1, .int (nI a)), (2, .int (nI b)), (5, .int (nI L.length))]) hx hb dX8_asks_381 hl (by decide) rfl (fun ls hl => ?_)
              refine lv_iinc (v := nI (i + 1)) (lv' := [(7, .int (nI (i + 1))), (6, .int (F_196 18 (ix1 (2 * one z b + 1) i))), (0, .ref (mh G)), (1, .int (nI a)), (2, .int (nI b)), (5, .int (nI L.length))]) hx hb dX8_asks_383 hl (k := 1) rfl (nI_1 i) (by decide) rfl (fun ls hl => ?_)
              refine lv_goto (tgt := 348) hx hb dX8_asks_386 (by decide) ?_
              exact ih9 _ _ _ _ _ ⟨i + 1, (un fu zi a (L.getD i 0)), ix3, lf2, o_195, F_196, (F_196 18 (ix1 (2 * one z b + 1) i)), ls, by omega, hst, hR2, (Px.tr hR hp3 (xZ.tr hp4) hP2), (hp4.tr x9), hM2, hl2, hf2, (hd2b.trans hp8), (he2.trans hp9), (Kq.tr hp10 hK2), (HM.tr hp11 hh (h1 := hm) (fun _ => rfl) hH2 (fun h => absurd g0 h) (fun _ => g0)), (fun h => by have h6 := (hR2.pl (sd := 1) (hp4.tr x9) hZ hZ3 (by omega) (i := i) (by rw [← eL]; exact ni)).2.2.2.2.2.2.2 (by rw [← eL]; exact h); rw [s3] at h6; rw [← q3]; exact h6), rfl, rfl, hP, hS, lv_sub hl [0, 2, 3, 4, 5, 1] rfl, rfl⟩
    · skip
      have nc_165 : a = b := (nI_eq (a := a) (b := b) (by omega) (by omega)).mp c_165
      exact m_vret hx hb hr hK hP hS (by rw [show asks (un fu) z a b = z by unfold asks; rw [if_pos (by omega)]]; exact ⟨⟨ix, lf, hR, Px.rf, hM0, hl0, by omega⟩, fun _ => rfl, HM.rf hh, rfl, rfl, Kq.rf⟩) dX8_asks_24 hlocks


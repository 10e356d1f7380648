theorem dX8_doing_0 : decode cX8_doing 0 = .ok (.aload_n 0, 1) := by decide +kernel
theorem dX8_doing_1 : decode cX8_doing 1 = .ok (.getfield 19, 3) := by decide +kernel
theorem dX8_doing_4 : decode cX8_doing 4 = .ok (.bipush 6, 2) := by decide +kernel
theorem dX8_doing_6 : decode cX8_doing 6 = .ok (.iload_n 1, 1) := by decide +kernel
theorem dX8_doing_7 : decode cX8_doing 7 = .ok (.imul, 1) := by decide +kernel
theorem dX8_doing_8 : decode cX8_doing 8 = .ok (.iaload, 1) := by decide +kernel
theorem dX8_doing_9 : decode cX8_doing 9 = .ok (.istore_n 3, 1) := by decide +kernel
theorem dX8_doing_10 : decode cX8_doing 10 = .ok (.aload_n 0, 1) := by decide +kernel
theorem dX8_doing_11 : decode cX8_doing 11 = .ok (.getfield 19, 3) := by decide +kernel
theorem dX8_doing_14 : decode cX8_doing 14 = .ok (.bipush 6, 2) := by decide +kernel
theorem dX8_doing_16 : decode cX8_doing 16 = .ok (.iload_n 1, 1) := by decide +kernel
theorem dX8_doing_17 : decode cX8_doing 17 = .ok (.imul, 1) := by decide +kernel
theorem dX8_doing_18 : decode cX8_doing 18 = .ok (.iconst 1, 1) := by decide +kernel
theorem dX8_doing_19 : decode cX8_doing 19 = .ok (.iadd, 1) := by decide +kernel
theorem dX8_doing_20 : decode cX8_doing 20 = .ok (.iaload, 1) := by decide +kernel
theorem dX8_doing_21 : decode cX8_doing 21 = .ok (.istore 4, 2) := by decide +kernel
theorem dX8_doing_23 : decode cX8_doing 23 = .ok (.aload_n 0, 1) := by decide +kernel
theorem dX8_doing_24 : decode cX8_doing 24 = .ok (.getfield 7, 3) := by decide +kernel
theorem dX8_doing_27 : decode cX8_doing 27 = .ok (.iload_n 1, 1) := by decide +kernel
theorem dX8_doing_28 : decode cX8_doing 28 = .ok (.iaload, 1) := by decide +kernel
theorem dX8_doing_29 : decode cX8_doing 29 = .ok (.tableswitch 488 0 9 #[55, 69, 83, 90, 98, 190, 264, 356, 398, 419], 55) := by decide +kernel
theorem dX8_doing_84 : decode cX8_doing 84 = .ok (.aload_n 0, 1) := by decide +kernel
theorem dX8_doing_85 : decode cX8_doing 85 = .ok (.iconst 0, 1) := by decide +kernel
theorem dX8_doing_86 : decode cX8_doing 86 = .ok (.aload_n 0, 1) := by decide +kernel
theorem dX8_doing_87 : decode cX8_doing 87 = .ok (.getfield 13, 3) := by decide +kernel
theorem dX8_doing_90 : decode cX8_doing 90 = .ok (.iload_n 1, 1) := by decide +kernel
theorem dX8_doing_91 : decode cX8_doing 91 = .ok (.iaload, 1) := by decide +kernel
theorem dX8_doing_92 : decode cX8_doing 92 = .ok (.bipush (-9), 2) := by decide +kernel
theorem dX8_doing_94 : decode cX8_doing 94 = .ok (.invokevirtual 349, 3) := by decide +kernel
theorem dX8_doing_97 : decode cX8_doing 97 = .ok (.ireturn, 1) := by decide +kernel
theorem dX8_doing_98 : decode cX8_doing 98 = .ok (.aload_n 0, 1) := by decide +kernel
theorem dX8_doing_99 : decode cX8_doing 99 = .ok (.iconst 1, 1) := by decide +kernel
theorem dX8_doing_100 : decode cX8_doing 100 = .ok (.aload_n 0, 1) := by decide +kernel
theorem dX8_doing_101 : decode cX8_doing 101 = .ok (.getfield 13, 3) := by decide +kernel
theorem dX8_doing_104 : decode cX8_doing 104 = .ok (.iload_n 1, 1) := by decide +kernel
theorem dX8_doing_105 : decode cX8_doing 105 = .ok (.iaload, 1) := by decide +kernel
theorem dX8_doing_106 : decode cX8_doing 106 = .ok (.bipush (-9), 2) := by decide +kernel
theorem dX8_doing_108 : decode cX8_doing 108 = .ok (.invokevirtual 349, 3) := by decide +kernel
theorem dX8_doing_111 : decode cX8_doing 111 = .ok (.ireturn, 1) := by decide +kernel
theorem dX8_doing_112 : decode cX8_doing 112 = .ok (.aload_n 0, 1) := by decide +kernel
theorem dX8_doing_113 : decode cX8_doing 113 = .ok (.iload_n 1, 1) := by decide +kernel
theorem dX8_doing_114 : decode cX8_doing 114 = .ok (.iload_n 2, 1) := by decide +kernel
theorem dX8_doing_115 : decode cX8_doing 115 = .ok (.invokevirtual 352, 3) := by decide +kernel
theorem dX8_doing_118 : decode cX8_doing 118 = .ok (.ireturn, 1) := by decide +kernel
theorem dX8_doing_119 : decode cX8_doing 119 = .ok (.aload_n 0, 1) := by decide +kernel
theorem dX8_doing_120 : decode cX8_doing 120 = .ok (.iconst 2, 1) := by decide +kernel
theorem dX8_doing_121 : decode cX8_doing 121 = .ok (.iload_n 1, 1) := by decide +kernel
theorem dX8_doing_122 : decode cX8_doing 122 = .ok (.iload_n 2, 1) := by decide +kernel
theorem dX8_doing_123 : decode cX8_doing 123 = .ok (.invokevirtual 349, 3) := by decide +kernel
theorem dX8_doing_126 : decode cX8_doing 126 = .ok (.ireturn, 1) := by decide +kernel
theorem dX8_doing_127 : decode cX8_doing 127 = .ok (.aload_n 0, 1) := by decide +kernel
theorem dX8_doing_128 : decode cX8_doing 128 = .ok (.iload_n 3, 1) := by decide +kernel
theorem dX8_doing_129 : decode cX8_doing 129 = .ok (.iload_n 2, 1) := by decide +kernel
theorem dX8_doing_130 : decode cX8_doing 130 = .ok (.invokevirtual 355, 3) := by decide +kernel
theorem dX8_doing_133 : decode cX8_doing 133 = .ok (.istore 5, 2) := by decide +kernel
theorem dX8_doing_135 : decode cX8_doing 135 = .ok (.aload_n 0, 1) := by decide +kernel
theorem dX8_doing_136 : decode cX8_doing 136 = .ok (.iload 4, 2) := by decide +kernel
theorem dX8_doing_138 : decode cX8_doing 138 = .ok (.iload_n 2, 1) := by decide +kernel
theorem dX8_doing_139 : decode cX8_doing 139 = .ok (.invokevirtual 355, 3) := by decide +kernel
theorem dX8_doing_142 : decode cX8_doing 142 = .ok (.istore 6, 2) := by decide +kernel
theorem dX8_doing_144 : decode cX8_doing 144 = .ok (.aload_n 0, 1) := by decide +kernel
theorem dX8_doing_145 : decode cX8_doing 145 = .ok (.getfield 331, 3) := by decide +kernel
theorem dX8_doing_148 : decode cX8_doing 148 = .ok (.ifCond .ne 6, 3) := by decide +kernel
theorem dX8_doing_154 : decode cX8_doing 154 = .ok (.aload_n 0, 1) := by decide +kernel
theorem dX8_doing_155 : decode cX8_doing 155 = .ok (.getfield 103, 3) := by decide +kernel
theorem dX8_doing_158 : decode cX8_doing 158 = .ok (.iload 5, 2) := by decide +kernel
theorem dX8_doing_160 : decode cX8_doing 160 = .ok (.iaload, 1) := by decide +kernel
theorem dX8_doing_161 : decode cX8_doing 161 = .ok (.iconst 2, 1) := by decide +kernel
theorem dX8_doing_162 : decode cX8_doing 162 = .ok (.if_icmp .eq 10, 3) := by decide +kernel
theorem dX8_doing_172 : decode cX8_doing 172 = .ok (.aload_n 0, 1) := by decide +kernel
theorem dX8_doing_173 : decode cX8_doing 173 = .ok (.aload_n 0, 1) := by decide +kernel
theorem dX8_doing_174 : decode cX8_doing 174 = .ok (.getfield 19, 3) := by decide +kernel
theorem dX8_doing_177 : decode cX8_doing 177 = .ok (.bipush 6, 2) := by decide +kernel
theorem dX8_doing_179 : decode cX8_doing 179 = .ok (.aload_n 0, 1) := by decide +kernel
theorem dX8_doing_180 : decode cX8_doing 180 = .ok (.getfield 106, 3) := by decide +kernel
theorem dX8_doing_183 : decode cX8_doing 183 = .ok (.iload 5, 2) := by decide +kernel
theorem dX8_doing_185 : decode cX8_doing 185 = .ok (.iaload, 1) := by decide +kernel
theorem dX8_doing_186 : decode cX8_doing 186 = .ok (.imul, 1) := by decide +kernel
theorem dX8_doing_187 : decode cX8_doing 187 = .ok (.iaload, 1) := by decide +kernel
theorem dX8_doing_188 : decode cX8_doing 188 = .ok (.aload_n 0, 1) := by decide +kernel
theorem dX8_doing_189 : decode cX8_doing 189 = .ok (.aload_n 0, 1) := by decide +kernel
theorem dX8_doing_190 : decode cX8_doing 190 = .ok (.getfield 13, 3) := by decide +kernel
theorem dX8_doing_193 : decode cX8_doing 193 = .ok (.aload_n 0, 1) := by decide +kernel
theorem dX8_doing_194 : decode cX8_doing 194 = .ok (.getfield 106, 3) := by decide +kernel
theorem dX8_doing_197 : decode cX8_doing 197 = .ok (.iload 5, 2) := by decide +kernel
theorem dX8_doing_199 : decode cX8_doing 199 = .ok (.iaload, 1) := by decide +kernel
theorem dX8_doing_200 : decode cX8_doing 200 = .ok (.iaload, 1) := by decide +kernel
theorem dX8_doing_201 : decode cX8_doing 201 = .ok (.iload 6, 2) := by decide +kernel
theorem dX8_doing_203 : decode cX8_doing 203 = .ok (.bipush (-9), 2) := by decide +kernel
theorem dX8_doing_205 : decode cX8_doing 205 = .ok (.aload_n 0, 1) := by decide +kernel
theorem dX8_doing_206 : decode cX8_doing 206 = .ok (.getfield 109, 3) := by decide +kernel
theorem dX8_doing_209 : decode cX8_doing 209 = .ok (.iload 5, 2) := by decide +kernel
theorem dX8_doing_211 : decode cX8_doing 211 = .ok (.iaload, 1) := by decide +kernel
theorem dX8_doing_212 : decode cX8_doing 212 = .ok (.invokevirtual 358, 3) := by decide +kernel
theorem dX8_doing_215 : decode cX8_doing 215 = .ok (.invokevirtual 355, 3) := by decide +kernel
theorem dX8_doing_218 : decode cX8_doing 218 = .ok (.ireturn, 1) := by decide +kernel
theorem dX8_doing_165 : decode cX8_doing 165 = .ok (.aload_n 0, 1) := by decide +kernel
theorem dX8_doing_166 : decode cX8_doing 166 = .ok (.iconst 1, 1) := by decide +kernel
theorem dX8_doing_167 : decode cX8_doing 167 = .ok (.iload_n 1, 1) := by decide +kernel
theorem dX8_doing_168 : decode cX8_doing 168 = .ok (.invokevirtual 343, 3) := by decide +kernel
theorem dX8_doing_171 : decode cX8_doing 171 = .ok (.ireturn, 1) := by decide +kernel
theorem dX8_doing_151 : decode cX8_doing 151 = .ok (.bipush (-9), 2) := by decide +kernel
theorem dX8_doing_153 : decode cX8_doing 153 = .ok (.ireturn, 1) := by decide +kernel
theorem dX8_doing_219 : decode cX8_doing 219 = .ok (.aload_n 0, 1) := by decide +kernel
theorem dX8_doing_220 : decode cX8_doing 220 = .ok (.iconst 3, 1) := by decide +kernel
theorem dX8_doing_221 : decode cX8_doing 221 = .ok (.iload_n 1, 1) := by decide +kernel
theorem dX8_doing_222 : decode cX8_doing 222 = .ok (.aload_n 0, 1) := by decide +kernel
theorem dX8_doing_223 : decode cX8_doing 223 = .ok (.getfield 16, 3) := by decide +kernel
theorem dX8_doing_226 : decode cX8_doing 226 = .ok (.iload_n 1, 1) := by decide +kernel
theorem dX8_doing_227 : decode cX8_doing 227 = .ok (.iaload, 1) := by decide +kernel
theorem dX8_doing_228 : decode cX8_doing 228 = .ok (.invokevirtual 349, 3) := by decide +kernel
theorem dX8_doing_231 : decode cX8_doing 231 = .ok (.istore 5, 2) := by decide +kernel
theorem dX8_doing_233 : decode cX8_doing 233 = .ok (.iconst 0, 1) := by decide +kernel
theorem dX8_doing_234 : decode cX8_doing 234 = .ok (.istore 6, 2) := by decide +kernel
theorem dX8_doing_236 : decode cX8_doing 236 = .ok (.iload 6, 2) := by decide +kernel
theorem dX8_doing_238 : decode cX8_doing 238 = .ok (.aload_n 0, 1) := by decide +kernel
theorem dX8_doing_239 : decode cX8_doing 239 = .ok (.getfield 16, 3) := by decide +kernel
theorem dX8_doing_242 : decode cX8_doing 242 = .ok (.iload_n 1, 1) := by decide +kernel
theorem dX8_doing_243 : decode cX8_doing 243 = .ok (.iaload, 1) := by decide +kernel
theorem dX8_doing_244 : decode cX8_doing 244 = .ok (.if_icmp .ge 46, 3) := by decide +kernel
theorem dX8_doing_290 : decode cX8_doing 290 = .ok (.iload 5, 2) := by decide +kernel
theorem dX8_doing_292 : decode cX8_doing 292 = .ok (.ireturn, 1) := by decide +kernel
theorem dX8_doing_247 : decode cX8_doing 247 = .ok (.aload_n 0, 1) := by decide +kernel
theorem dX8_doing_248 : decode cX8_doing 248 = .ok (.getfield 331, 3) := by decide +kernel
theorem dX8_doing_251 : decode cX8_doing 251 = .ok (.ifCond .eq 39, 3) := by decide +kernel
theorem dX8_doing_254 : decode cX8_doing 254 = .ok (.aload_n 0, 1) := by decide +kernel
theorem dX8_doing_255 : decode cX8_doing 255 = .ok (.getfield 112, 3) := by decide +kernel
theorem dX8_doing_258 : decode cX8_doing 258 = .ok (.bipush 6, 2) := by decide +kernel
theorem dX8_doing_260 : decode cX8_doing 260 = .ok (.iload 5, 2) := by decide +kernel
theorem dX8_doing_262 : decode cX8_doing 262 = .ok (.imul, 1) := by decide +kernel
theorem dX8_doing_263 : decode cX8_doing 263 = .ok (.iload 6, 2) := by decide +kernel
theorem dX8_doing_265 : decode cX8_doing 265 = .ok (.iadd, 1) := by decide +kernel
theorem dX8_doing_266 : decode cX8_doing 266 = .ok (.aload_n 0, 1) := by decide +kernel
theorem dX8_doing_267 : decode cX8_doing 267 = .ok (.aload_n 0, 1) := by decide +kernel
theorem dX8_doing_268 : decode cX8_doing 268 = .ok (.getfield 19, 3) := by decide +kernel
theorem dX8_doing_271 : decode cX8_doing 271 = .ok (.bipush 6, 2) := by decide +kernel
theorem dX8_doing_273 : decode cX8_doing 273 = .ok (.iload_n 1, 1) := by decide +kernel
theorem dX8_doing_274 : decode cX8_doing 274 = .ok (.imul, 1) := by decide +kernel
theorem dX8_doing_275 : decode cX8_doing 275 = .ok (.iload 6, 2) := by decide +kernel
theorem dX8_doing_277 : decode cX8_doing 277 = .ok (.iadd, 1) := by decide +kernel
theorem dX8_doing_278 : decode cX8_doing 278 = .ok (.iaload, 1) := by decide +kernel
theorem dX8_doing_279 : decode cX8_doing 279 = .ok (.iload_n 2, 1) := by decide +kernel
theorem dX8_doing_280 : decode cX8_doing 280 = .ok (.invokevirtual 355, 3) := by decide +kernel
theorem dX8_doing_283 : decode cX8_doing 283 = .ok (.iastore, 1) := by decide +kernel
theorem dX8_doing_284 : decode cX8_doing 284 = .ok (.iinc 6 1, 3) := by decide +kernel
theorem dX8_doing_287 : decode cX8_doing 287 = .ok (.goto (-51), 3) := by decide +kernel
theorem dX8_doing_293 : decode cX8_doing 293 = .ok (.aload_n 0, 1) := by decide +kernel
theorem dX8_doing_294 : decode cX8_doing 294 = .ok (.iload_n 3, 1) := by decide +kernel
theorem dX8_doing_295 : decode cX8_doing 295 = .ok (.iload_n 2, 1) := by decide +kernel
theorem dX8_doing_296 : decode cX8_doing 296 = .ok (.invokevirtual 355, 3) := by decide +kernel
theorem dX8_doing_299 : decode cX8_doing 299 = .ok (.istore 5, 2) := by decide +kernel
theorem dX8_doing_301 : decode cX8_doing 301 = .ok (.aload_n 0, 1) := by decide +kernel
theorem dX8_doing_302 : decode cX8_doing 302 = .ok (.getfield 331, 3) := by decide +kernel
theorem dX8_doing_305 : decode cX8_doing 305 = .ok (.ifCond .eq 34, 3) := by decide +kernel
theorem dX8_doing_339 : decode cX8_doing 339 = .ok (.bipush (-9), 2) := by decide +kernel
theorem dX8_doing_341 : decode cX8_doing 341 = .ok (.istore 6, 2) := by decide +kernel
theorem dX8_doing_343 : decode cX8_doing 343 = .ok (.aload_n 0, 1) := by decide +kernel
theorem dX8_doing_344 : decode cX8_doing 344 = .ok (.getfield 331, 3) := by decide +kernel
theorem dX8_doing_347 : decode cX8_doing 347 = .ok (.ifCond .ne 8, 3) := by decide +kernel
theorem dX8_doing_350 : decode cX8_doing 350 = .ok (.bipush (-9), 2) := by decide +kernel
theorem dX8_doing_352 : decode cX8_doing 352 = .ok (.goto 32, 3) := by decide +kernel
theorem dX8_doing_384 : decode cX8_doing 384 = .ok (.ireturn, 1) := by decide +kernel
theorem dX8_doing_308 : decode cX8_doing 308 = .ok (.aload_n 0, 1) := by decide +kernel
theorem dX8_doing_309 : decode cX8_doing 309 = .ok (.getfield 103, 3) := by decide +kernel
theorem dX8_doing_312 : decode cX8_doing 312 = .ok (.iload 5, 2) := by decide +kernel
theorem dX8_doing_314 : decode cX8_doing 314 = .ok (.iaload, 1) := by decide +kernel
theorem dX8_doing_315 : decode cX8_doing 315 = .ok (.iconst 3, 1) := by decide +kernel
theorem dX8_doing_316 : decode cX8_doing 316 = .ok (.if_icmp .ne 23, 3) := by decide +kernel
theorem dX8_doing_355 : decode cX8_doing 355 = .ok (.iload 6, 2) := by decide +kernel
theorem dX8_doing_357 : decode cX8_doing 357 = .ok (.bipush (-9), 2) := by decide +kernel
theorem dX8_doing_359 : decode cX8_doing 359 = .ok (.if_icmp .ne 12, 3) := by decide +kernel
theorem dX8_doing_362 : decode cX8_doing 362 = .ok (.aload_n 0, 1) := by decide +kernel
theorem dX8_doing_363 : decode cX8_doing 363 = .ok (.iconst 1, 1) := by decide +kernel
theorem dX8_doing_364 : decode cX8_doing 364 = .ok (.iload_n 1, 1) := by decide +kernel
theorem dX8_doing_365 : decode cX8_doing 365 = .ok (.invokevirtual 343, 3) := by decide +kernel
theorem dX8_doing_368 : decode cX8_doing 368 = .ok (.goto 16, 3) := by decide +kernel
theorem dX8_doing_319 : decode cX8_doing 319 = .ok (.aload_n 0, 1) := by decide +kernel
theorem dX8_doing_320 : decode cX8_doing 320 = .ok (.aload_n 0, 1) := by decide +kernel
theorem dX8_doing_321 : decode cX8_doing 321 = .ok (.getfield 106, 3) := by decide +kernel
theorem dX8_doing_324 : decode cX8_doing 324 = .ok (.iload 5, 2) := by decide +kernel
theorem dX8_doing_326 : decode cX8_doing 326 = .ok (.iaload, 1) := by decide +kernel
theorem dX8_doing_327 : decode cX8_doing 327 = .ok (.aload_n 0, 1) := by decide +kernel
theorem dX8_doing_328 : decode cX8_doing 328 = .ok (.getfield 13, 3) := by decide +kernel
theorem dX8_doing_331 : decode cX8_doing 331 = .ok (.iload_n 1, 1) := by decide +kernel
theorem dX8_doing_332 : decode cX8_doing 332 = .ok (.iaload, 1) := by decide +kernel
theorem dX8_doing_333 : decode cX8_doing 333 = .ok (.invokevirtual 161, 3) := by decide +kernel
theorem dX8_doing_336 : decode cX8_doing 336 = .ok (.goto 5, 3) := by decide +kernel
theorem dX8_doing_371 : decode cX8_doing 371 = .ok (.aload_n 0, 1) := by decide +kernel
theorem dX8_doing_372 : decode cX8_doing 372 = .ok (.getfield 112, 3) := by decide +kernel
theorem dX8_doing_375 : decode cX8_doing 375 = .ok (.bipush 6, 2) := by decide +kernel
theorem dX8_doing_377 : decode cX8_doing 377 = .ok (.iload 5, 2) := by decide +kernel
theorem dX8_doing_379 : decode cX8_doing 379 = .ok (.imul, 1) := by decide +kernel
theorem dX8_doing_380 : decode cX8_doing 380 = .ok (.iload 6, 2) := by decide +kernel
theorem dX8_doing_382 : decode cX8_doing 382 = .ok (.iadd, 1) := by decide +kernel
theorem dX8_doing_383 : decode cX8_doing 383 = .ok (.iaload, 1) := by decide +kernel
theorem dX8_doing_385 : decode cX8_doing 385 = .ok (.aload_n 0, 1) := by decide +kernel
theorem dX8_doing_386 : decode cX8_doing 386 = .ok (.iload_n 3, 1) := by decide +kernel
theorem dX8_doing_387 : decode cX8_doing 387 = .ok (.iload_n 2, 1) := by decide +kernel
theorem dX8_doing_388 : decode cX8_doing 388 = .ok (.invokevirtual 355, 3) := by decide +kernel
theorem dX8_doing_391 : decode cX8_doing 391 = .ok (.istore 5, 2) := by decide +kernel
theorem dX8_doing_393 : decode cX8_doing 393 = .ok (.aload_n 0, 1) := by decide +kernel
theorem dX8_doing_394 : decode cX8_doing 394 = .ok (.getfield 331, 3) := by decide +kernel
theorem dX8_doing_397 : decode cX8_doing 397 = .ok (.ifCond .eq 27, 3) := by decide +kernel
theorem dX8_doing_424 : decode cX8_doing 424 = .ok (.bipush (-9), 2) := by decide +kernel
theorem dX8_doing_426 : decode cX8_doing 426 = .ok (.ireturn, 1) := by decide +kernel
theorem dX8_doing_400 : decode cX8_doing 400 = .ok (.aload_n 0, 1) := by decide +kernel
theorem dX8_doing_401 : decode cX8_doing 401 = .ok (.iload 4, 2) := by decide +kernel
theorem dX8_doing_403 : decode cX8_doing 403 = .ok (.aload_n 0, 1) := by decide +kernel
theorem dX8_doing_404 : decode cX8_doing 404 = .ok (.aload_n 0, 1) := by decide +kernel
theorem dX8_doing_405 : decode cX8_doing 405 = .ok (.getfield 13, 3) := by decide +kernel
theorem dX8_doing_408 : decode cX8_doing 408 = .ok (.iload_n 1, 1) := by decide +kernel
theorem dX8_doing_409 : decode cX8_doing 409 = .ok (.iaload, 1) := by decide +kernel
theorem dX8_doing_410 : decode cX8_doing 410 = .ok (.iload 5, 2) := by decide +kernel
theorem dX8_doing_412 : decode cX8_doing 412 = .ok (.bipush (-9), 2) := by decide +kernel
theorem dX8_doing_414 : decode cX8_doing 414 = .ok (.iload_n 2, 1) := by decide +kernel
theorem dX8_doing_415 : decode cX8_doing 415 = .ok (.invokevirtual 358, 3) := by decide +kernel
theorem dX8_doing_418 : decode cX8_doing 418 = .ok (.invokevirtual 355, 3) := by decide +kernel
theorem dX8_doing_421 : decode cX8_doing 421 = .ok (.goto 5, 3) := by decide +kernel
theorem dX8_doing_427 : decode cX8_doing 427 = .ok (.aload_n 0, 1) := by decide +kernel
theorem dX8_doing_428 : decode cX8_doing 428 = .ok (.iload 4, 2) := by decide +kernel
theorem dX8_doing_430 : decode cX8_doing 430 = .ok (.aload_n 0, 1) := by decide +kernel
theorem dX8_doing_431 : decode cX8_doing 431 = .ok (.aload_n 0, 1) := by decide +kernel
theorem dX8_doing_432 : decode cX8_doing 432 = .ok (.getfield 13, 3) := by decide +kernel
theorem dX8_doing_435 : decode cX8_doing 435 = .ok (.iload_n 1, 1) := by decide +kernel
theorem dX8_doing_436 : decode cX8_doing 436 = .ok (.iaload, 1) := by decide +kernel
theorem dX8_doing_437 : decode cX8_doing 437 = .ok (.bipush (-9), 2) := by decide +kernel
theorem dX8_doing_439 : decode cX8_doing 439 = .ok (.iload_n 1, 1) := by decide +kernel
theorem dX8_doing_440 : decode cX8_doing 440 = .ok (.iload_n 2, 1) := by decide +kernel
theorem dX8_doing_441 : decode cX8_doing 441 = .ok (.invokevirtual 358, 3) := by decide +kernel
theorem dX8_doing_444 : decode cX8_doing 444 = .ok (.invokevirtual 355, 3) := by decide +kernel
theorem dX8_doing_447 : decode cX8_doing 447 = .ok (.ireturn, 1) := by decide +kernel
theorem dX8_doing_448 : decode cX8_doing 448 = .ok (.aload_n 0, 1) := by decide +kernel
theorem dX8_doing_449 : decode cX8_doing 449 = .ok (.iload_n 3, 1) := by decide +kernel
theorem dX8_doing_450 : decode cX8_doing 450 = .ok (.iload_n 2, 1) := by decide +kernel
theorem dX8_doing_451 : decode cX8_doing 451 = .ok (.invokevirtual 355, 3) := by decide +kernel
theorem dX8_doing_454 : decode cX8_doing 454 = .ok (.istore 5, 2) := by decide +kernel
theorem dX8_doing_456 : decode cX8_doing 456 = .ok (.aload_n 0, 1) := by decide +kernel
theorem dX8_doing_457 : decode cX8_doing 457 = .ok (.getfield 331, 3) := by decide +kernel
theorem dX8_doing_460 : decode cX8_doing 460 = .ok (.ifCond .ne 6, 3) := by decide +kernel
theorem dX8_doing_466 : decode cX8_doing 466 = .ok (.aload_n 0, 1) := by decide +kernel
theorem dX8_doing_467 : decode cX8_doing 467 = .ok (.getfield 103, 3) := by decide +kernel
theorem dX8_doing_470 : decode cX8_doing 470 = .ok (.iload 5, 2) := by decide +kernel
theorem dX8_doing_472 : decode cX8_doing 472 = .ok (.iaload, 1) := by decide +kernel
theorem dX8_doing_473 : decode cX8_doing 473 = .ok (.iconst 1, 1) := by decide +kernel
theorem dX8_doing_474 : decode cX8_doing 474 = .ok (.if_icmp .eq 10, 3) := by decide +kernel
theorem dX8_doing_484 : decode cX8_doing 484 = .ok (.aload_n 0, 1) := by decide +kernel
theorem dX8_doing_485 : decode cX8_doing 485 = .ok (.aload_n 0, 1) := by decide +kernel
theorem dX8_doing_486 : decode cX8_doing 486 = .ok (.getfield 106, 3) := by decide +kernel
theorem dX8_doing_489 : decode cX8_doing 489 = .ok (.iload 5, 2) := by decide +kernel
theorem dX8_doing_491 : decode cX8_doing 491 = .ok (.iaload, 1) := by decide +kernel
theorem dX8_doing_492 : decode cX8_doing 492 = .ok (.iconst 1, 1) := by decide +kernel
theorem dX8_doing_493 : decode cX8_doing 493 = .ok (.if_icmp .ne 8, 3) := by decide +kernel
theorem dX8_doing_501 : decode cX8_doing 501 = .ok (.aload_n 0, 1) := by decide +kernel
theorem dX8_doing_502 : decode cX8_doing 502 = .ok (.getfield 19, 3) := by decide +kernel
theorem dX8_doing_505 : decode cX8_doing 505 = .ok (.bipush 6, 2) := by decide +kernel
theorem dX8_doing_507 : decode cX8_doing 507 = .ok (.iload_n 1, 1) := by decide +kernel
theorem dX8_doing_508 : decode cX8_doing 508 = .ok (.imul, 1) := by decide +kernel
theorem dX8_doing_509 : decode cX8_doing 509 = .ok (.iconst 2, 1) := by decide +kernel
theorem dX8_doing_510 : decode cX8_doing 510 = .ok (.iadd, 1) := by decide +kernel
theorem dX8_doing_511 : decode cX8_doing 511 = .ok (.iaload, 1) := by decide +kernel
theorem dX8_doing_512 : decode cX8_doing 512 = .ok (.iload_n 2, 1) := by decide +kernel
theorem dX8_doing_513 : decode cX8_doing 513 = .ok (.invokevirtual 355, 3) := by decide +kernel
theorem dX8_doing_516 : decode cX8_doing 516 = .ok (.ireturn, 1) := by decide +kernel
theorem dX8_doing_496 : decode cX8_doing 496 = .ok (.iload 4, 2) := by decide +kernel
theorem dX8_doing_498 : decode cX8_doing 498 = .ok (.goto 14, 3) := by decide +kernel
theorem dX8_doing_477 : decode cX8_doing 477 = .ok (.aload_n 0, 1) := by decide +kernel
theorem dX8_doing_478 : decode cX8_doing 478 = .ok (.iconst 1, 1) := by decide +kernel
theorem dX8_doing_479 : decode cX8_doing 479 = .ok (.iload_n 1, 1) := by decide +kernel
theorem dX8_doing_480 : decode cX8_doing 480 = .ok (.invokevirtual 343, 3) := by decide +kernel
theorem dX8_doing_483 : decode cX8_doing 483 = .ok (.ireturn, 1) := by decide +kernel
theorem dX8_doing_463 : decode cX8_doing 463 = .ok (.bipush (-9), 2) := by decide +kernel
theorem dX8_doing_465 : decode cX8_doing 465 = .ok (.ireturn, 1) := by decide +kernel
theorem dX8_doing_517 : decode cX8_doing 517 = .ok (.aload_n 0, 1) := by decide +kernel
theorem dX8_doing_518 : decode cX8_doing 518 = .ok (.iload_n 3, 1) := by decide +kernel
theorem dX8_doing_519 : decode cX8_doing 519 = .ok (.iload_n 2, 1) := by decide +kernel
theorem dX8_doing_520 : decode cX8_doing 520 = .ok (.invokevirtual 355, 3) := by decide +kernel
theorem dX8_doing_523 : decode cX8_doing 523 = .ok (.istore 5, 2) := by decide +kernel
theorem dX8_doing_525 : decode cX8_doing 525 = .ok (.aload_n 0, 1) := by decide +kernel
theorem dX8_doing_526 : decode cX8_doing 526 = .ok (.iload 4, 2) := by decide +kernel
theorem dX8_doing_528 : decode cX8_doing 528 = .ok (.iload_n 2, 1) := by decide +kernel
theorem dX8_doing_529 : decode cX8_doing 529 = .ok (.invokevirtual 355, 3) := by decide +kernel
theorem dX8_doing_532 : decode cX8_doing 532 = .ok (.istore 6, 2) := by decide +kernel
theorem dX8_doing_534 : decode cX8_doing 534 = .ok (.aload_n 0, 1) := by decide +kernel
theorem dX8_doing_535 : decode cX8_doing 535 = .ok (.getfield 331, 3) := by decide +kernel
theorem dX8_doing_538 : decode cX8_doing 538 = .ok (.ifCond .ne 6, 3) := by decide +kernel
theorem dX8_doing_544 : decode cX8_doing 544 = .ok (.aload_n 0, 1) := by decide +kernel
theorem dX8_doing_545 : decode cX8_doing 545 = .ok (.getfield 103, 3) := by decide +kernel
theorem dX8_doing_548 : decode cX8_doing 548 = .ok (.iload 5, 2) := by decide +kernel
theorem dX8_doing_550 : decode cX8_doing 550 = .ok (.iaload, 1) := by decide +kernel
theorem dX8_doing_551 : decode cX8_doing 551 = .ok (.ifCond .ne 13, 3) := by decide +kernel
theorem dX8_doing_564 : decode cX8_doing 564 = .ok (.aload_n 0, 1) := by decide +kernel
theorem dX8_doing_565 : decode cX8_doing 565 = .ok (.iconst 1, 1) := by decide +kernel
theorem dX8_doing_566 : decode cX8_doing 566 = .ok (.iload_n 1, 1) := by decide +kernel
theorem dX8_doing_567 : decode cX8_doing 567 = .ok (.invokevirtual 343, 3) := by decide +kernel
theorem dX8_doing_570 : decode cX8_doing 570 = .ok (.ireturn, 1) := by decide +kernel
theorem dX8_doing_554 : decode cX8_doing 554 = .ok (.aload_n 0, 1) := by decide +kernel
theorem dX8_doing_555 : decode cX8_doing 555 = .ok (.getfield 103, 3) := by decide +kernel
theorem dX8_doing_558 : decode cX8_doing 558 = .ok (.iload 6, 2) := by decide +kernel
theorem dX8_doing_560 : decode cX8_doing 560 = .ok (.iaload, 1) := by decide +kernel
theorem dX8_doing_561 : decode cX8_doing 561 = .ok (.ifCond .eq 10, 3) := by decide +kernel
theorem dX8_doing_571 : decode cX8_doing 571 = .ok (.aload_n 0, 1) := by decide +kernel
theorem dX8_doing_572 : decode cX8_doing 572 = .ok (.getfield 7, 3) := by decide +kernel
theorem dX8_doing_575 : decode cX8_doing 575 = .ok (.iload_n 1, 1) := by decide +kernel
theorem dX8_doing_576 : decode cX8_doing 576 = .ok (.iaload, 1) := by decide +kernel
theorem dX8_doing_577 : decode cX8_doing 577 = .ok (.bipush 10, 2) := by decide +kernel
theorem dX8_doing_579 : decode cX8_doing 579 = .ok (.if_icmp .ne 28, 3) := by decide +kernel
theorem dX8_doing_607 : decode cX8_doing 607 = .ok (.aload_n 0, 1) := by decide +kernel
theorem dX8_doing_608 : decode cX8_doing 608 = .ok (.iconst 1, 1) := by decide +kernel
theorem dX8_doing_609 : decode cX8_doing 609 = .ok (.aload_n 0, 1) := by decide +kernel
theorem dX8_doing_610 : decode cX8_doing 610 = .ok (.getfield 106, 3) := by decide +kernel
theorem dX8_doing_613 : decode cX8_doing 613 = .ok (.iload 5, 2) := by decide +kernel
theorem dX8_doing_615 : decode cX8_doing 615 = .ok (.iaload, 1) := by decide +kernel
theorem dX8_doing_616 : decode cX8_doing 616 = .ok (.aload_n 0, 1) := by decide +kernel
theorem dX8_doing_617 : decode cX8_doing 617 = .ok (.getfield 106, 3) := by decide +kernel
theorem dX8_doing_620 : decode cX8_doing 620 = .ok (.iload 6, 2) := by decide +kernel
theorem dX8_doing_622 : decode cX8_doing 622 = .ok (.iaload, 1) := by decide +kernel
theorem dX8_doing_623 : decode cX8_doing 623 = .ok (.if_icmp .ge 7, 3) := by decide +kernel
theorem dX8_doing_630 : decode cX8_doing 630 = .ok (.iconst 0, 1) := by decide +kernel
theorem dX8_doing_631 : decode cX8_doing 631 = .ok (.bipush (-9), 2) := by decide +kernel
theorem dX8_doing_633 : decode cX8_doing 633 = .ok (.invokevirtual 349, 3) := by decide +kernel
theorem dX8_doing_636 : decode cX8_doing 636 = .ok (.ireturn, 1) := by decide +kernel
theorem dX8_doing_626 : decode cX8_doing 626 = .ok (.iconst 1, 1) := by decide +kernel
theorem dX8_doing_627 : decode cX8_doing 627 = .ok (.goto 4, 3) := by decide +kernel
theorem dX8_doing_582 : decode cX8_doing 582 = .ok (.aload_n 0, 1) := by decide +kernel
theorem dX8_doing_583 : decode cX8_doing 583 = .ok (.iconst 0, 1) := by decide +kernel
theorem dX8_doing_584 : decode cX8_doing 584 = .ok (.aload_n 0, 1) := by decide +kernel
theorem dX8_doing_585 : decode cX8_doing 585 = .ok (.getfield 106, 3) := by decide +kernel
theorem dX8_doing_588 : decode cX8_doing 588 = .ok (.iload 5, 2) := by decide +kernel
theorem dX8_doing_590 : decode cX8_doing 590 = .ok (.iaload, 1) := by decide +kernel
theorem dX8_doing_591 : decode cX8_doing 591 = .ok (.aload_n 0, 1) := by decide +kernel
theorem dX8_doing_592 : decode cX8_doing 592 = .ok (.getfield 106, 3) := by decide +kernel
theorem dX8_doing_595 : decode cX8_doing 595 = .ok (.iload 6, 2) := by decide +kernel
theorem dX8_doing_597 : decode cX8_doing 597 = .ok (.iaload, 1) := by decide +kernel
theorem dX8_doing_598 : decode cX8_doing 598 = .ok (.iadd, 1) := by decide +kernel
theorem dX8_doing_599 : decode cX8_doing 599 = .ok (.bipush (-9), 2) := by decide +kernel
theorem dX8_doing_601 : decode cX8_doing 601 = .ok (.invokevirtual 349, 3) := by decide +kernel
theorem dX8_doing_604 : decode cX8_doing 604 = .ok (.goto 32, 3) := by decide +kernel
theorem dX8_doing_541 : decode cX8_doing 541 = .ok (.bipush (-9), 2) := by decide +kernel
theorem dX8_doing_543 : decode cX8_doing 543 = .ok (.ireturn, 1) := by decide +kernel
set_option maxHeartbeats 4000000 in
set_option maxRecDepth 100000 in
/-- doing -/
theorem m_doing (l : Launch) (G : mG) (hDD : mDD G) (o : Nat → Int32) (F : Nat → Nat → Int32) (fu : Nat) (tr : aM) (N : Nat) (gd : Nat → Prop) (vs : Nat) (es : Nat) (wk : Nat) (ms : Nat) (n : Nat) (ev : Int32) (ih : mDoesAt fu) (ihs : mSeenAt fu) (hT : TRm tr N o F) (hW : WS tr N gd vs es wk ms o F) (hvs : vs + 1 ≤ wk) (hes : es + 1 ≤ wk) (hn : n < N) (he : EO es ev) (hd : o 64 = nI (60 - fu)) (hfu : fu ≤ 60) (sz : Nat) : Met l yX8_doing (wU yX8_doing cX8_doing 7 (some .int)) { frames := 3 * fu + 5, cells := 0, slots := 0, locals := 80 * fu + 146 } (mPc G o F sz [.ref (mh G), .int (nI n), .int ev]) (mQi G sz (fun r u => WQ tr N gd vs es wk ms 1 o F r u)) 0 0 (mA G sz) := by
  refine Met.ofW (cc := cX8_doing) (maxL := 7) (ret := (some .int)) (by decide) rfl ?_
  intro p e s m args below meth c s₁ B hml hv
  obtain ⟨rfl, hsz, hP, hK⟩ := hv
  have hx := B.exec
  have hb := B.bytes
  have hr := B.returns
  have htu : ∀ w ∈ WU, w.before _ s = true := fun w h => atoms_spec (ws := (wU yX8_doing cX8_doing 7 (some .int))) B.pre w (List.mem_cons_of_mem _ h)
  have hown : s.vm.findClass RX8 = some m.cls := findClass_of_methodNamed B.named
  have hlocks := B.notSynchronized
  subst hsz
  have hS : va_S (mA G s.heap.size) s.heap s.heap [] := va_S.rf
  have hl := lv_entry ([.ref (mh G), .int (nI n), .int ev]) (n := 7) (Nat.le_of_ble_eq_true rfl)
  rw [lg_entry_eq]
  generalize (lg_sl ([.ref (mh G), .int (nI n), .int ev]) ++ List.replicate (7 - (lg_sl ([.ref (mh G), .int (nI n), .int ev])).length) Slot.unset).toArray = ls at hl ⊢
  have hl : lv_has ls 7 [(0, .ref (mh G)), (1, .int (nI n)), (2, .int ev)] := hl
  obtain ⟨H, hHe⟩ : ∃ H : Heap, H = s.heap := ⟨_, rfl⟩
  rw [← hHe] at hP
  have hS : va_S (mA G s.heap.size) s.heap H [] := by rw [hHe]; exact va_S.rf
  refine W.heq hHe ?_
  have hN := hT.2.1
  obtain ⟨a1_, a2_, a3_, a4_, a5_, a6_⟩ := hW.1
  have tn := hT.2.2 n hn
  have tn3 := tn.2.2.2.2.1
  have tnk := tn.2.1
  refine lv_aload_n hx hb dX8_doing_0 rfl (lv_at hl 0 rfl) ?_
  refine m_get (v := .ref (md G 4)) hx hb htu wu_in hown hK hP 4 (by decide) (htu _ U_6) rfl rfl dX8_doing_1 ?_
  refine lv_bipush (v := 6) hx hb dX8_doing_4 (by decide) ?_
  refine lv_iload_n hx hb dX8_doing_6 rfl (lv_at hl 1 rfl) ?_
  refine lv_imul hx hb dX8_doing_7 ?_
  refine m_top (y := nI (6 * n)) (pk_mul 6 n) ?_
  refine m_ald (j := 6 * n) (v := F 4 (6 * n)) hx hb hK hP 4 4 rfl (by omega) (by decide) rfl dX8_doing_8 ?_
  refine lv_istore_n (lv' := [(3, .int (F 4 (6 * n))), (0, .ref (mh G)), (1, .int (nI n)), (2, .int ev)]) hx hb dX8_doing_9 rfl hl (by decide) rfl (fun ls hl => ?_)
  refine lv_aload_n hx hb dX8_doing_10 rfl (lv_at hl 1 rfl) ?_
  refine m_get (v := .ref (md G 4)) hx hb htu wu_in hown hK hP 4 (by decide) (htu _ U_6) rfl rfl dX8_doing_11 ?_
  refine lv_bipush (v := 6) hx hb dX8_doing_14 (by decide) ?_
  refine lv_iload_n hx hb dX8_doing_16 rfl (lv_at hl 2 rfl) ?_
  refine lv_imul hx hb dX8_doing_17 ?_
  refine m_top (y := nI (6 * n)) (pk_mul 6 n) ?_
  refine lv_iconst (v := 1) hx hb dX8_doing_18 (by decide) ?_
  refine lv_iadd hx hb dX8_doing_19 ?_
  refine m_top (y := nI (6 * n + 1)) (nI_add (6 * n) 1) ?_
  refine m_ald (j := 6 * n + 1) (v := F 4 (6 * n + 1)) hx hb hK hP 4 4 rfl (by omega) (by decide) rfl dX8_doing_20 ?_
  refine lv_istore (lv' := [(4, .int (F 4 (6 * n + 1))), (3, .int (F 4 (6 * n))), (0, .ref (mh G)), (1, .int (nI n)), (2, .int ev)]) hx hb dX8_doing_21 hl (by decide) rfl (fun ls hl => ?_)
  refine lv_aload_n hx hb dX8_doing_23 rfl (lv_at hl 2 rfl) ?_
  refine m_get (v := .ref (md G 1)) hx hb htu wu_in hown hK hP 1 (by decide) (htu _ U_2) rfl rfl dX8_doing_24 ?_
  refine lv_iload_n hx hb dX8_doing_27 rfl (lv_at hl 3 rfl) ?_
  refine m_ald (j := n) (v := nI (tr 0 n)) hx hb hK hP 1 1 rfl (by omega) (by decide) tn.1 dX8_doing_28 ?_
  rcases Decidable.em (nI (tr 0 n) = 0) with c_1 | c_1
  · skip
    refine lv_tableIn (tgt := 84) hx hb dX8_doing_29 (by rw [c_1]; decide) (by rw [c_1]; decide) (by rw [c_1]; rfl) (by decide) ?_
    have hs9 : tr 0 n = 0 := (nI_eq (b := 0) (by omega) (by omega)).mp c_1
    refine lv_aload_n hx hb dX8_doing_84 rfl (lv_at hl 2 rfl) ?_
    refine lv_iconst (v := 0) hx hb dX8_doing_85 (by decide) ?_
    refine lv_aload_n hx hb dX8_doing_86 rfl (lv_at hl 2 rfl) ?_
    refine m_get (v := .ref (md G 2)) hx hb htu wu_in hown hK hP 2 (by decide) (htu _ U_3) rfl rfl dX8_doing_87 ?_
    refine lv_iload_n hx hb dX8_doing_90 rfl (lv_at hl 3 rfl) ?_
    refine m_ald (j := n) (v := F 2 n) hx hb hK hP 2 2 rfl (by omega) (by decide) rfl dX8_doing_91 ?_
    refine lv_bipush (v := (-9)) hx hb dX8_doing_92 (by decide) ?_
    refine m_ci (m_runV (As := [.int 0, .int (F 2 n), .int ((-9))]) (rest := []) ⟨hx, hb, hml, hown, htu⟩ (m_made l G hDD o F vs 0 (F 2 n) ((-9)) ((WK.rf hW).2.2.2.2.2.1.1.1) ((by omega)) H.size) (cwV 3 htu gU_X8_made rfl rfl rfl (by decide +kernel) ⟨show 0 + 1 ≤ 3 * fu + 5 by omega, show 8 + (4 + 11) + 0 ≤ 80 * fu + 146 by omega⟩) hP hK rfl hl.1 rfl (lv_room (Nat.le_of_ble_eq_true rfl)) dX8_doing_94) hS (fun r_2 o_3 F_4 H locs hw_5 hP hS => ?_)
    try dsimp only at hw_5
    have m_6K := (WK.rf hW).made (fun m h => (hT.2.2 m h).2.2.2.2.1) (gd2 := (fun v => gd v ∨ v = vs)) (fun v h => Or.inl h) (fun v h => h) (fun _ => Or.inl (Or.inl rfl)) hw_5.2
    exact m_iret (v := r_2) hx hb hr hK hP hS ⟨_, _, _, _, _, _, by omega, by omega, m_6K, (fun _ => ⟨vs, Or.inr rfl, hw_5.1⟩)⟩ dX8_doing_97 hlocks
  rcases Decidable.em (nI (tr 0 n) = 1) with c_7 | c_7
  · skip
    refine lv_tableIn (tgt := 98) hx hb dX8_doing_29 (by rw [c_7]; decide) (by rw [c_7]; decide) (by rw [c_7]; rfl) (by decide) ?_
    have hs9 : tr 0 n = 1 := (nI_eq (b := 1) (by omega) (by omega)).mp c_7
    refine lv_aload_n hx hb dX8_doing_98 rfl (lv_at hl 2 rfl) ?_
    refine lv_iconst (v := 1) hx hb dX8_doing_99 (by decide) ?_
    refine lv_aload_n hx hb dX8_doing_100 rfl (lv_at hl 2 rfl) ?_
    refine m_get (v := .ref (md G 2)) hx hb htu wu_in hown hK hP 2 (by decide) (htu _ U_3) rfl rfl dX8_doing_101 ?_
    refine lv_iload_n hx hb dX8_doing_104 rfl (lv_at hl 3 rfl) ?_
    refine m_ald (j := n) (v := F 2 n) hx hb hK hP 2 2 rfl (by omega) (by decide) rfl dX8_doing_105 ?_
    refine lv_bipush (v := (-9)) hx hb dX8_doing_106 (by decide) ?_
    refine m_ci (m_runV (As := [.int 1, .int (F 2 n), .int ((-9))]) (rest := []) ⟨hx, hb, hml, hown, htu⟩ (m_made l G hDD o F vs 1 (F 2 n) ((-9)) ((WK.rf hW).2.2.2.2.2.1.1.1) ((by omega)) H.size) (cwV 3 htu gU_X8_made rfl rfl rfl (by decide +kernel) ⟨show 0 + 1 ≤ 3 * fu + 5 by omega, show 8 + (4 + 11) + 0 ≤ 80 * fu + 146 by omega⟩) hP hK rfl hl.1 rfl (lv_room (Nat.le_of_ble_eq_true rfl)) dX8_doing_108) hS (fun r_8 o_9 F_10 H locs hw_11 hP hS => ?_)
    try dsimp only at hw_11
    have m_12K := (WK.rf hW).made (fun m h => (hT.2.2 m h).2.2.2.2.1) (gd2 := (fun v => gd v ∨ v = vs)) (fun v h => Or.inl h) (fun v h => h) (fun _ => Or.inl (Or.inr rfl)) hw_11.2
    exact m_iret (v := r_8) hx hb hr hK hP hS ⟨_, _, _, _, _, _, by omega, by omega, m_12K, (fun _ => ⟨vs, Or.inr rfl, hw_11.1⟩)⟩ dX8_doing_111 hlocks
  rcases Decidable.em (nI (tr 0 n) = 2) with c_13 | c_13
  · skip
    refine lv_tableIn (tgt := 112) hx hb dX8_doing_29 (by rw [c_13]; decide) (by rw [c_13]; decide) (by rw [c_13]; rfl) (by decide) ?_
    have hs9 : tr 0 n = 2 := (nI_eq (b := 2) (by omega) (by omega)).mp c_13
    refine lv_aload_n hx hb dX8_doing_112 rfl (lv_at hl 2 rfl) ?_
    refine lv_iload_n hx hb dX8_doing_113 rfl (lv_at hl 3 rfl) ?_
    refine lv_iload_n hx hb dX8_doing_114 rfl (lv_at hl 4 rfl) ?_
    refine m_ci (m_runV (As := [.int (nI n), .int ev]) (rest := []) ⟨hx, hb, hml, hown, htu⟩ (ihs l G hDD o F tr N gd vs es (wk + (0)) ms n ev ((hT.keep (u := (o, F)) (fun k hk => (WK.rf hW).2.2.2.2.2.2.2.2.1 k (LW7 hk)))) ((WK.rf hW).2.2.2.2.2.1) ((by omega)) ((by omega)) hn he ((((WK.rf hW).2.2.2.2.2.2.1).trans hd)) ((by omega)) H.size) (cwV 2 htu gU_X8_seen rfl rfl rfl (by decide +kernel) ⟨show (3 * fu + 4) + 1 ≤ 3 * fu + 5 by omega, show 8 + (4 + 11) + (80 * fu + 123) ≤ 80 * fu + 146 by omega⟩) hP hK rfl hl.1 rfl (lv_room (Nat.le_of_ble_eq_true rfl)) dX8_doing_115) hS (fun r_14 o_15 F_16 H locs hw_17 hP hS => ?_)
    try dsimp only at hw_17
    obtain ⟨m_18gd, m_18vs, m_18es, m_18d, m_18cv, m_18ce, m_18c1, m_18c2, m_18W, m_18r⟩ := hw_17
    obtain rfl : m_18cv = 0 := by omega
    obtain rfl : m_18ce = 0 := by omega
    have m_18K := (WK.rf hW).tr m_18W
    obtain ⟨-, m_18x1, m_18x2, m_18x3, m_18x4, -⟩ := id m_18W
    obtain ⟨m_18y1, m_18y2⟩ := m_18W.2.2.2.2.2.1.1.2.2.2.2
    exact m_iret (v := r_14) hx hb hr hK hP hS ⟨_, _, _, _, _, _, by omega, by omega, m_18K, m_18r⟩ dX8_doing_118 hlocks
  rcases Decidable.em (nI (tr 0 n) = 3) with c_19 | c_19
  · skip
    refine lv_tableIn (tgt := 119) hx hb dX8_doing_29 (by rw [c_19]; decide) (by rw [c_19]; decide) (by rw [c_19]; rfl) (by decide) ?_
    have hs9 : tr 0 n = 3 := (nI_eq (b := 3) (by omega) (by omega)).mp c_19
    have tp := tn.2.2.2.2.2.2.1
    rw [hs9] at tp
    obtain ⟨ea_, p0_, -⟩ := tp 0 (show 0 < 1 by decide)
    rw [show F 4 (6 * n) = nI (tr 10 n) from ea_] at hl
    refine lv_aload_n hx hb dX8_doing_119 rfl (lv_at hl 2 rfl) ?_
    refine lv_iconst (v := 2) hx hb dX8_doing_120 (by decide) ?_
    refine lv_iload_n hx hb dX8_doing_121 rfl (lv_at hl 3 rfl) ?_
    refine lv_iload_n hx hb dX8_doing_122 rfl (lv_at hl 4 rfl) ?_
    refine m_ci (m_runV (As := [.int 2, .int (nI n), .int ev]) (rest := []) ⟨hx, hb, hml, hown, htu⟩ (m_made l G hDD o F vs 2 (nI n) ev ((WK.rf hW).2.2.2.2.2.1.1.1) ((by omega)) H.size) (cwV 3 htu gU_X8_made rfl rfl rfl (by decide +kernel) ⟨show 0 + 1 ≤ 3 * fu + 5 by omega, show 8 + (4 + 11) + 0 ≤ 80 * fu + 146 by omega⟩) hP hK rfl hl.1 rfl (lv_room (Nat.le_of_ble_eq_true rfl)) dX8_doing_123) hS (fun r_20 o_21 F_22 H locs hw_23 hP hS => ?_)
    try dsimp only at hw_23
    have m_24K := (WK.rf hW).made (fun m h => (hT.2.2 m h).2.2.2.2.1) (gd2 := (fun v => gd v ∨ v = vs)) (fun v h => Or.inl h) (fun v h => h) (fun _ => Or.inr ⟨rfl, n, hn, hs9, rfl, he⟩) hw_23.2
    exact m_iret (v := r_20) hx hb hr hK hP hS ⟨_, _, _, _, _, _, by omega, by omega, m_24K, (fun _ => ⟨vs, Or.inr rfl, hw_23.1⟩)⟩ dX8_doing_126 hlocks
  rcases Decidable.em (nI (tr 0 n) = 4) with c_25 | c_25
  · skip
    refine lv_tableIn (tgt := 127) hx hb dX8_doing_29 (by rw [c_25]; decide) (by rw [c_25]; decide) (by rw [c_25]; rfl) (by decide) ?_
    have hs9 : tr 0 n = 4 := (nI_eq (b := 4) (by omega) (by omega)).mp c_25
    have tp := tn.2.2.2.2.2.2.1
    rw [hs9] at tp
    obtain ⟨ea_, p0_, -⟩ := tp 0 (show 0 < 2 by decide)
    rw [show F 4 (6 * n) = nI (tr 10 n) from ea_] at hl
    obtain ⟨eb_, p1_, -⟩ := tp 1 (show 1 < 2 by decide)
    rw [show F 4 (6 * n + 1) = nI (tr 11 n) from eb_] at hl
    refine lv_aload_n hx hb dX8_doing_127 rfl (lv_at hl 2 rfl) ?_
    refine lv_iload_n hx hb dX8_doing_128 rfl (lv_at hl 1 rfl) ?_
    refine lv_iload_n hx hb dX8_doing_129 rfl (lv_at hl 4 rfl) ?_
    refine m_ci (m_runV (As := [.int (nI (tr 10 n)), .int ev]) (rest := []) ⟨hx, hb, hml, hown, htu⟩ (ih l G hDD o F tr N gd vs es (wk + (0)) ms (tr 10 n) ev ((hT.keep (u := (o, F)) (fun k hk => (WK.rf hW).2.2.2.2.2.2.2.2.1 k (LW7 hk)))) ((WK.rf hW).2.2.2.2.2.1) ((by omega)) ((by omega)) p0_ ((he.mono (by omega))) ((((WK.rf hW).2.2.2.2.2.2.1).trans hd)) ((by omega)) H.size) (cwV 2 htu gU_X8_does rfl rfl rfl (by decide +kernel) ⟨show (3 * fu + 3) + 1 ≤ 3 * fu + 5 by omega, show 8 + (4 + 11) + (80 * fu + 100) ≤ 80 * fu + 146 by omega⟩) hP hK rfl hl.1 rfl (lv_room (Nat.le_of_ble_eq_true rfl)) dX8_doing_130) hS (fun r_26 o_27 F_28 H locs hw_29 hP hS => ?_)
    try dsimp only at hw_29
    obtain ⟨m_30gd, m_30vs, m_30es, m_30d, m_30cv, m_30ce, m_30c1, m_30c2, m_30W, m_30r⟩ := hw_29
    obtain rfl : m_30cv = 0 := by omega
    obtain rfl : m_30ce = 0 := by omega
    have m_30K := (WK.rf hW).tr m_30W
    obtain ⟨-, m_30x1, m_30x2, m_30x3, m_30x4, -⟩ := id m_30W
    obtain ⟨m_30y1, m_30y2⟩ := m_30W.2.2.2.2.2.1.1.2.2.2.2
    refine lv_istore (lv' := [(5, .int r_26), (4, .int (nI (tr 11 n))), (3, .int (nI (tr 10 n))), (0, .ref (mh G)), (1, .int (nI n)), (2, .int ev)]) hx hb dX8_doing_133 hl (by decide) rfl (fun ls hl => ?_)
    refine lv_aload_n hx hb dX8_doing_135 rfl (lv_at hl 3 rfl) ?_
    refine lv_iload hx hb dX8_doing_136 (lv_at hl 1 rfl) ?_
    refine lv_iload_n hx hb dX8_doing_138 rfl (lv_at hl 5 rfl) ?_
    refine m_ci (m_runV (As := [.int (nI (tr 11 n)), .int ev]) (rest := []) ⟨hx, hb, hml, hown, htu⟩ (ih l G hDD o_27 F_28 tr N m_30gd m_30vs m_30es (wk + (0 + m_30d)) ms (tr 11 n) ev ((hT.keep (u := (o_27, F_28)) (fun k hk => m_30K.2.2.2.2.2.2.2.2.1 k (LW7 hk)))) m_30K.2.2.2.2.2.1 ((by omega)) ((by omega)) p1_ ((he.mono (by omega))) (((m_30K.2.2.2.2.2.2.1).trans hd)) ((by omega)) H.size) (cwV 2 htu gU_X8_does rfl rfl rfl (by decide +kernel) ⟨show (3 * fu + 3) + 1 ≤ 3 * fu + 5 by omega, show 8 + (4 + 11) + (80 * fu + 100) ≤ 80 * fu + 146 by omega⟩) hP hK rfl hl.1 rfl (lv_room (Nat.le_of_ble_eq_true rfl)) dX8_doing_139) hS (fun r_31 o_32 F_33 H locs hw_34 hP hS => ?_)
    try dsimp only at hw_34
    obtain ⟨m_35gd, m_35vs, m_35es, m_35d, m_35cv, m_35ce, m_35c1, m_35c2, m_35W, m_35r⟩ := hw_34
    obtain rfl : m_35cv = 0 := by omega
    obtain rfl : m_35ce = 0 := by omega
    have m_35K := m_30K.tr m_35W
    obtain ⟨-, m_35x1, m_35x2, m_35x3, m_35x4, -⟩ := id m_35W
    obtain ⟨m_35y1, m_35y2⟩ := m_35W.2.2.2.2.2.1.1.2.2.2.2
    refine lv_istore (lv' := [(6, .int r_31), (5, .int r_26), (4, .int (nI (tr 11 n))), (3, .int (nI (tr 10 n))), (0, .ref (mh G)), (1, .int (nI n)), (2, .int ev)]) hx hb dX8_doing_142 hl (by decide) rfl (fun ls hl => ?_)
    refine lv_aload_n hx hb dX8_doing_144 rfl (lv_at hl 4 rfl) ?_
    refine m_get (v := .int (o_32 67)) hx hb htu wu_in hown hK hP 67 (by decide) (htu _ U_221) rfl rfl dX8_doing_145 ?_
    refine lv_if_ne (tgt := 154) hx hb dX8_doing_148 (by decide) (fun c_36 => ?_) (fun c_36 => ?_)
    · skip
      obtain ⟨w6, g6, e6⟩ := m_35r c_36
      obtain ⟨w5, g5, e5⟩ := m_30r (m_35W.2.2.2.2.2.2.2.1 c_36)
      have g5 := m_35W.1.1 w5 g5
      subst e5
      subst e6
      obtain ⟨l5, vo5⟩ := m_35K.2.2.2.2.2.1.2.2.1 w5 g5
      obtain ⟨l6, vo6⟩ := m_35K.2.2.2.2.2.1.2.2.1 w6 g6
      refine lv_aload_n hx hb dX8_doing_154 rfl (lv_at hl 4 rfl) ?_
      refine m_get (v := .ref (md G 52)) hx hb htu wu_in hown hK hP 52 (by decide) (htu _ U_237) rfl rfl dX8_doing_155 ?_
      refine lv_iload hx hb dX8_doing_158 (lv_at hl 1 rfl) ?_
      refine m_ald (j := w5) (v := F_33 52 w5) hx hb hK hP 31 52 rfl (by omega) (by decide) rfl dX8_doing_160 ?_
      refine lv_iconst (v := 2) hx hb dX8_doing_161 (by decide) ?_
      refine lv_icmp_eq (tgt := 172) hx hb dX8_doing_162 (by decide) (fun c_37 => ?_) (fun c_37 => ?_)
      · skip
        obtain ⟨m9, x1_, x2_, x3_, x4_⟩ := vo5.fn c_37
        have tm := (hT.2.2 m9 x1_).2.2.2.2.2.2.1
        rw [x2_] at tm
        obtain ⟨tm0, tm1, -⟩ := tm 0 (show 0 < 1 by decide)
        refine lv_aload_n hx hb dX8_doing_172 rfl (lv_at hl 4 rfl) ?_
        refine lv_aload_n hx hb dX8_doing_173 rfl (lv_at hl 4 rfl) ?_
        refine m_get (v := .ref (md G 4)) hx hb htu wu_in hown hK hP 4 (by decide) (htu _ U_6) rfl rfl dX8_doing_174 ?_
        refine lv_bipush (v := 6) hx hb dX8_doing_177 (by decide) ?_
        refine lv_aload_n hx hb dX8_doing_179 rfl (lv_at hl 4 rfl) ?_
        refine m_get (v := .ref (md G 53)) hx hb htu wu_in hown hK hP 53 (by decide) (htu _ U_238) rfl rfl dX8_doing_180 ?_
        refine lv_iload hx hb dX8_doing_183 (lv_at hl 1 rfl) ?_
        refine m_ald (j := w5) (v := nI m9) hx hb hK hP 32 53 rfl (by omega) (by decide) x3_ dX8_doing_185 ?_
        refine lv_imul hx hb dX8_doing_186 ?_
        refine m_top (y := nI (6 * m9)) (pk_mul 6 m9) ?_
        refine m_ald (j := 6 * m9) (v := nI (tr 10 m9)) hx hb hK hP 4 4 rfl (by omega) (by decide) ((congrFun (m_35K.2.2.2.2.2.2.2.2.1 4 (by decide)).2 _).trans tm0) dX8_doing_187 ?_
        refine lv_aload_n hx hb dX8_doing_188 rfl (lv_at hl 4 rfl) ?_
        refine lv_aload_n hx hb dX8_doing_189 rfl (lv_at hl 4 rfl) ?_
        refine m_get (v := .ref (md G 2)) hx hb htu wu_in hown hK hP 2 (by decide) (htu _ U_3) rfl rfl dX8_doing_190 ?_
        refine lv_aload_n hx hb dX8_doing_193 rfl (lv_at hl 4 rfl) ?_
        refine m_get (v := .ref (md G 53)) hx hb htu wu_in hown hK hP 53 (by decide) (htu _ U_238) rfl rfl dX8_doing_194 ?_
        refine lv_iload hx hb dX8_doing_197 (lv_at hl 1 rfl) ?_
        refine m_ald (j := w5) (v := nI m9) hx hb hK hP 32 53 rfl (by omega) (by decide) x3_ dX8_doing_199 ?_
        refine m_ald (j := m9) (v := F_33 2 m9) hx hb hK hP 2 2 rfl (by omega) (by decide) rfl dX8_doing_200 ?_
        refine lv_iload hx hb dX8_doing_201 (lv_at hl 0 rfl) ?_
        refine lv_bipush (v := (-9)) hx hb dX8_doing_203 (by decide) ?_
        refine lv_aload_n hx hb dX8_doing_205 rfl (lv_at hl 4 rfl) ?_
        refine m_get (v := .ref (md G 54)) hx hb htu wu_in hown hK hP 54 (by decide) (htu _ U_239) rfl rfl dX8_doing_206 ?_
        refine lv_iload hx hb dX8_doing_209 (lv_at hl 1 rfl) ?_
        refine m_ald (j := w5) (v := F_33 54 w5) hx hb hK hP 33 54 rfl (by omega) (by decide) rfl dX8_doing_211 ?_
        refine m_ci (m_runV (As := [.int (F_33 2 m9), .int (nI w6), .int ((-9)), .int (F_33 54 w5)]) (rest := [.int (nI (tr 10 m9)), .ref (mh G)]) ⟨hx, hb, hml, hown, htu⟩ (m_env l G hDD o_32 F_33 m_35es (F_33 2 m9) (nI w6) ((-9)) (F_33 54 w5) m_35K.2.2.2.2.2.1.1.2.1 ((by omega)) H.size) (cwV 4 htu gU_X8_env rfl rfl rfl (by decide +kernel) ⟨show 0 + 1 ≤ 3 * fu + 5 by omega, show 8 + (5 + 11) + 0 ≤ 80 * fu + 146 by omega⟩) hP hK rfl hl.1 rfl (lv_room (Nat.le_of_ble_eq_true rfl)) dX8_doing_212) hS (fun r_38 o_39 F_40 H locs hw_41 hP hS => ?_)
        try dsimp only at hw_41
        obtain ⟨m_42r, m_42u⟩ := hw_41
        subst m_42r
        have m_42K := m_35K.env (fun m h => (hT.2.2 m h).2.2.2.2.1) x4_ (Or.inl ⟨rfl, w6, g6, rfl⟩) m_42u
        refine m_ci (m_runV (As := [.int (nI (tr 10 m9)), .int (nI m_35es)]) (rest := []) ⟨hx, hb, hml, hown, htu⟩ (ih l G hDD o_39 F_40 tr N m_35gd m_35vs (m_35es + 1) (wk + (0 + m_30d + m_35d)) ms (tr 10 m9) ((nI (m_35es))) ((hT.keep (u := (o_39, F_40)) (fun k hk => m_42K.2.2.2.2.2.2.2.2.1 k (LW7 hk)))) m_42K.2.2.2.2.2.1 ((by omega)) ((by omega)) tm1 ((Or.inr ⟨m_35es, Nat.lt_succ_self _, rfl⟩)) (((m_42K.2.2.2.2.2.2.1).trans hd)) ((by omega)) H.size) (cwV 2 htu gU_X8_does rfl rfl rfl (by decide +kernel) ⟨show (3 * fu + 3) + 1 ≤ 3 * fu + 5 by omega, show 8 + (4 + 11) + (80 * fu + 100) ≤ 80 * fu + 146 by omega⟩) hP hK rfl hl.1 rfl (lv_room (Nat.le_of_ble_eq_true rfl)) dX8_doing_215) hS (fun r_43 o_44 F_45 H locs hw_46 hP hS => ?_)
        try dsimp only at hw_46
        obtain ⟨m_47gd, m_47vs, m_47es, m_47d, m_47cv, m_47ce, m_47c1, m_47c2, m_47W, m_47r⟩ := hw_46
        obtain rfl : m_47cv = 0 := by omega
        obtain rfl : m_47ce = 0 := by omega
        have m_47K := m_42K.tr m_47W
        obtain ⟨-, m_47x1, m_47x2, m_47x3, m_47x4, -⟩ := id m_47W
        obtain ⟨m_47y1, m_47y2⟩ := m_47W.2.2.2.2.2.1.1.2.2.2.2
        exact m_iret (v := r_43) hx hb hr hK hP hS ⟨_, _, _, _, _, _, by omega, by omega, m_47K, m_47r⟩ dX8_doing_218 hlocks
      · skip
        refine lv_aload_n hx hb dX8_doing_165 rfl (lv_at hl 4 rfl) ?_
        refine lv_iconst (v := 1) hx hb dX8_doing_166 (by decide) ?_
        refine lv_iload_n hx hb dX8_doing_167 rfl (lv_at hl 5 rfl) ?_
        refine m_ci (m_runV (As := [.int 1, .int (nI n)]) (rest := []) ⟨hx, hb, hml, hown, htu⟩ (m_halts l G hDD o_32 F_33 1 (nI n) H.size) (cwV 2 htu gU_X8_halts rfl rfl rfl (by decide +kernel) ⟨show 0 + 1 ≤ 3 * fu + 5 by omega, show 8 + (3 + 11) + 0 ≤ 80 * fu + 146 by omega⟩) hP hK rfl hl.1 rfl (lv_room (Nat.le_of_ble_eq_true rfl)) dX8_doing_168) hS (fun r_48 o_49 F_50 H locs hw_51 hP hS => ?_)
        try dsimp only at hw_51
        obtain ⟨m_52K, m_52z⟩ := m_35K.halt (by decide) hw_51.2
        exact m_iret (v := r_48) hx hb hr hK hP hS ⟨_, _, _, _, _, _, by omega, by omega, m_52K, (fun h => absurd m_52z h)⟩ dX8_doing_171 hlocks
    · skip
      refine lv_bipush (v := (-9)) hx hb dX8_doing_151 (by decide) ?_
      exact m_iret (v := (-9)) hx hb hr hK hP hS ⟨_, _, _, _, _, _, by omega, by omega, m_35K, (fun h => absurd c_36 h)⟩ dX8_doing_153 hlocks
  rcases Decidable.em (nI (tr 0 n) = 5) with c_53 | c_53
  · skip
    refine lv_tableIn (tgt := 219) hx hb dX8_doing_29 (by rw [c_53]; decide) (by rw [c_53]; decide) (by rw [c_53]; rfl) (by decide) ?_
    have hs9 : tr 0 n = 5 := (nI_eq (b := 5) (by omega) (by omega)).mp c_53
    have tp := tn.2.2.2.2.2.2.1
    rw [hs9] at tp
    refine lv_aload_n hx hb dX8_doing_219 rfl (lv_at hl 2 rfl) ?_
    refine lv_iconst (v := 3) hx hb dX8_doing_220 (by decide) ?_
    refine lv_iload_n hx hb dX8_doing_221 rfl (lv_at hl 3 rfl) ?_
    refine lv_aload_n hx hb dX8_doing_222 rfl (lv_at hl 2 rfl) ?_
    refine m_get (v := .ref (md G 3)) hx hb htu wu_in hown hK hP 3 (by decide) (htu _ U_4) rfl rfl dX8_doing_223 ?_
    refine lv_iload_n hx hb dX8_doing_226 rfl (lv_at hl 3 rfl) ?_
    refine m_ald (j := n) (v := nI (tr 2 n)) hx hb hK hP 3 3 rfl (by omega) (by decide) tn.2.2.2.1 dX8_doing_227 ?_
    refine m_ci (m_runV (As := [.int 3, .int (nI n), .int (nI (tr 2 n))]) (rest := []) ⟨hx, hb, hml, hown, htu⟩ (m_made l G hDD o F vs 3 (nI n) (nI (tr 2 n)) ((WK.rf hW).2.2.2.2.2.1.1.1) ((by omega)) H.size) (cwV 3 htu gU_X8_made rfl rfl rfl (by decide +kernel) ⟨show 0 + 1 ≤ 3 * fu + 5 by omega, show 8 + (4 + 11) + 0 ≤ 80 * fu + 146 by omega⟩) hP hK rfl hl.1 rfl (lv_room (Nat.le_of_ble_eq_true rfl)) dX8_doing_228) hS (fun r_54 o_55 F_56 H locs hw_57 hP hS => ?_)
    try dsimp only at hw_57
    have m_58K := (WK.rf hW).made (fun m h => (hT.2.2 m h).2.2.2.2.1) (gd2 := gd) (fun v h => h) (fun v h => Or.inl h) (fun h => absurd ((WK.rf hW).2.2.2.2.2.1.2.2.1 _ h).1 (Nat.lt_irrefl _)) hw_57.2
    have hm5 := mk3 hw_57.2
    have hr5 := hw_57.1
    subst hr5
    refine lv_istore (lv' := [(5, .int (nI vs)), (4, .int (F 4 (6 * n + 1))), (3, .int (F 4 (6 * n))), (0, .ref (mh G)), (1, .int (nI n)), (2, .int ev)]) hx hb dX8_doing_231 hl (by decide) rfl (fun ls hl => ?_)
    refine lv_iconst (v := 0) hx hb dX8_doing_233 (by decide) ?_
    refine lv_istore (lv' := [(6, .int 0), (5, .int (nI vs)), (4, .int (F 4 (6 * n + 1))), (3, .int (F 4 (6 * n))), (0, .ref (mh G)), (1, .int (nI n)), (2, .int ev)]) hx hb dX8_doing_234 hl (by decide) rfl (fun ls hl => ?_)
    refine w_loop (fun j H locs k sl g => ∃ (o1 : Nat → Int32) (F1 : Nat → Nat → Int32) (gd1 : Nat → Prop) (vs1 : Nat) (es1 : Nat) (d : Nat) (i : Nat) (ls : Array Slot), i + j = tr 2 n ∧ WK tr N gd vs es wk ms 1 0 o F gd1 vs1 es1 d (o1, F1) ∧ ¬ gd1 vs ∧ vs < vs1 ∧ (F1 52 vs = 3 ∧ F1 53 vs = nI n ∧ F1 54 vs = nI (tr 2 n)) ∧ (o1 67 ≠ 0 → ∀ k, k < i → ∃ w, gd1 w ∧ F1 55 (6 * vs + k) = nI w) ∧ k = 0 ∧ sl = 0 ∧ mP G o1 F1 H ∧ va_S (mA G s.heap.size) s.heap H locs ∧ lv_has ls 7 [(0, .ref (mh G)), (1, .int (nI n)), (2, .int ev), (5, .int (nI vs)), (6, .int (nI i))] ∧ g = F0 m 236 ls []) ?_ ?_ ((tr 2 n)) _ _ _ _ _ ⟨o_55, F_56, gd, (vs + 1), es, (0), 0, ls, by omega, m_58K, (fun h => absurd (hW.2.2.1 _ h).1 (Nat.lt_irrefl _)), by omega, hm5, (fun _ k hk => absurd hk (by omega)), rfl, rfl, hP, hS, lv_sub hl [4, 5, 6, 1, 0] rfl, rfl⟩
    · intro H locs k sl g hI
      obtain ⟨o1, F1, gd1, vs1, es1, d, i, ls, hp0, hp1, hp2, hp3, hp4, hp5, rfl, rfl, hP, hS, hl, rfl⟩ := hI
      obtain ⟨-, x1_, x2_, x3_, x4_, -⟩ := id hp1
      obtain ⟨y1_, y2_⟩ := hp1.2.2.2.2.2.1.1.2.2.2.2
      refine lv_iload hx hb dX8_doing_236 (lv_at hl 4 rfl) ?_
      refine lv_aload_n hx hb dX8_doing_238 rfl (lv_at hl 0 rfl) ?_
      refine m_get (v := .ref (md G 3)) hx hb htu wu_in hown hK hP 3 (by decide) (htu _ U_4) rfl rfl dX8_doing_239 ?_
      refine lv_iload_n hx hb dX8_doing_242 rfl (lv_at hl 1 rfl) ?_
      refine m_ald (j := n) (v := nI (tr 2 n)) hx hb hK hP 3 3 rfl (by omega) (by decide) ((congrFun (hp1.2.2.2.2.2.2.2.2.1 3 (by decide)).2 _).trans tn.2.2.2.1) dX8_doing_243 ?_
      refine lv_icmp_ge (tgt := 290) hx hb dX8_doing_244 (by decide) (fun c_59 => ?_) (fun c_59 => absurd (nI_le (by omega) (by omega)) c_59)
      refine lv_iload hx hb dX8_doing_290 (lv_at hl 3 rfl) ?_
      exact m_iret (v := nI vs) hx hb hr hK hP hS (WQ.rec hp1 (Nat.le_refl _) (Nat.zero_le _) (fun m h => (hT.2.2 m h).2.2.2.2.1) hp3 (Nat.le_refl _) hn hs9 hp4 (fun _ => (by omega)) hp5) dX8_doing_292 hlocks
    · intro j ih9 H locs k sl g hI
      obtain ⟨o1, F1, gd1, vs1, es1, d, i, ls, hp0, hp1, hp2, hp3, hp4, hp5, rfl, rfl, hP, hS, hl, rfl⟩ := hI
      obtain ⟨-, x1_, x2_, x3_, x4_, -⟩ := id hp1
      obtain ⟨y1_, y2_⟩ := hp1.2.2.2.2.2.1.1.2.2.2.2
      have ni : i < tr 2 n := by omega
      obtain ⟨t1_, t2_, -⟩ := tp i ni
      refine lv_iload hx hb dX8_doing_236 (lv_at hl 4 rfl) ?_
      refine lv_aload_n hx hb dX8_doing_238 rfl (lv_at hl 0 rfl) ?_
      refine m_get (v := .ref (md G 3)) hx hb htu wu_in hown hK hP 3 (by decide) (htu _ U_4) rfl rfl dX8_doing_239 ?_
      refine lv_iload_n hx hb dX8_doing_242 rfl (lv_at hl 1 rfl) ?_
      refine m_ald (j := n) (v := nI (tr 2 n)) hx hb hK hP 3 3 rfl (by omega) (by decide) ((congrFun (hp1.2.2.2.2.2.2.2.2.1 3 (by decide)).2 _).trans tn.2.2.2.1) dX8_doing_243 ?_
      refine lv_icmp_ge (tgt := 290) hx hb dX8_doing_244 (by decide) (fun c_60 => absurd c_60 (nI_ge ni (by omega))) (fun c_60 => ?_)
      refine lv_aload_n hx hb dX8_doing_247 rfl (lv_at hl 0 rfl) ?_
      refine m_get (v := .int (o1 67)) hx hb htu wu_in hown hK hP 67 (by decide) (htu _ U_221) rfl rfl dX8_doing_248 ?_
      refine lv_if_eq (tgt := 290) hx hb dX8_doing_251 (by decide) (fun c_61 => ?_) (fun c_61 => ?_)
      · skip
        refine lv_iload hx hb dX8_doing_290 (lv_at hl 3 rfl) ?_
        exact m_iret (v := nI vs) hx hb hr hK hP hS (WQ.rec hp1 (Nat.le_refl _) (Nat.zero_le _) (fun m h => (hT.2.2 m h).2.2.2.2.1) hp3 (Nat.le_refl _) hn hs9 hp4 (fun h => absurd c_61 h) hp5) dX8_doing_292 hlocks
      · skip
        refine lv_aload_n hx hb dX8_doing_254 rfl (lv_at hl 0 rfl) ?_
        refine m_get (v := .ref (md G 55)) hx hb htu wu_in hown hK hP 55 (by decide) (htu _ U_240) rfl rfl dX8_doing_255 ?_
        refine lv_bipush (v := 6) hx hb dX8_doing_258 (by decide) ?_
        refine lv_iload hx hb dX8_doing_260 (lv_at hl 3 rfl) ?_
        refine lv_imul hx hb dX8_doing_262 ?_
        refine m_top (y := nI (6 * vs)) (pk_mul 6 vs) ?_
        refine lv_iload hx hb dX8_doing_263 (lv_at hl 4 rfl) ?_
        refine lv_iadd hx hb dX8_doing_265 ?_
        refine m_top (y := nI (6 * vs + i)) (nI_add (6 * vs) i) ?_
        refine lv_aload_n hx hb dX8_doing_266 rfl (lv_at hl 0 rfl) ?_
        refine lv_aload_n hx hb dX8_doing_267 rfl (lv_at hl 0 rfl) ?_
        refine m_get (v := .ref (md G 4)) hx hb htu wu_in hown hK hP 4 (by decide) (htu _ U_6) rfl rfl dX8_doing_268 ?_
        refine lv_bipush (v := 6) hx hb dX8_doing_271 (by decide) ?_
        refine lv_iload_n hx hb dX8_doing_273 rfl (lv_at hl 1 rfl) ?_
        refine lv_imul hx hb dX8_doing_274 ?_
        refine m_top (y := nI (6 * n)) (pk_mul 6 n) ?_
        refine lv_iload hx hb dX8_doing_275 (lv_at hl 4 rfl) ?_
        refine lv_iadd hx hb dX8_doing_277 ?_
        refine m_top (y := nI (6 * n + i)) (nI_add (6 * n) i) ?_
        refine m_ald (j := 6 * n + i) (v := nI (tr (10 + i) n)) hx hb hK hP 4 4 rfl (by omega) (by decide) ((congrFun (hp1.2.2.2.2.2.2.2.2.1 4 (by decide)).2 _).trans t1_) dX8_doing_278 ?_
        refine lv_iload_n hx hb dX8_doing_279 rfl (lv_at hl 2 rfl) ?_
        refine m_ci (m_runV (As := [.int (nI (tr (10 + i) n)), .int ev]) (rest := [.int (nI (6 * vs + i)), .ref (md G 55)]) ⟨hx, hb, hml, hown, htu⟩ (ih l G hDD o1 F1 tr N gd1 vs1 es1 (wk + (d)) ms (tr (10 + i) n) ev ((hT.keep (u := (o1, F1)) (fun k hk => hp1.2.2.2.2.2.2.2.2.1 k (LW7 hk)))) hp1.2.2.2.2.2.1 ((by omega)) ((by omega)) t2_ ((he.mono (by omega))) (((hp1.2.2.2.2.2.2.1).trans hd)) ((by omega)) H.size) (cwV 2 htu gU_X8_does rfl rfl rfl (by decide +kernel) ⟨show (3 * fu + 3) + 1 ≤ 3 * fu + 5 by omega, show 8 + (4 + 11) + (80 * fu + 100) ≤ 80 * fu + 146 by omega⟩) hP hK rfl hl.1 rfl (lv_room (Nat.le_of_ble_eq_true rfl)) dX8_doing_280) hS (fun r_62 o_63 F_64 H locs hw_65 hP hS => ?_)
        try dsimp only at hw_65
        obtain ⟨m_66gd, m_66vs, m_66es, m_66d, m_66cv, m_66ce, m_66c1, m_66c2, m_66W, m_66r⟩ := hw_65
        obtain rfl : m_66cv = 0 := by omega
        obtain rfl : m_66ce = 0 := by omega
        have m_66K := hp1.tr m_66W
        obtain ⟨-, m_66x1, m_66x2, m_66x3, m_66x4, -⟩ := id m_66W
        obtain ⟨m_66y1, m_66y2⟩ := m_66W.2.2.2.2.2.1.1.2.2.2.2
        refine m_ast (j := 6 * vs + i) (x := r_62) hx hb hK hP hDD hS 34 55 rfl (by omega) (by decide) (mW_a55 _ _ _ _ _) dX8_doing_283 (fun H locs hP hS => ?_)
        refine lv_iinc (v := nI (i + 1)) (lv' := [(6, .int (nI (i + 1))), (0, .ref (mh G)), (1, .int (nI n)), (2, .int ev), (5, .int (nI vs))]) hx hb dX8_doing_284 hl (k := 4) rfl (nI_1 i) (by decide) rfl (fun ls hl => ?_)
        refine lv_goto (tgt := 236) hx hb dX8_doing_287 (by decide) ?_
        have hng : ¬ m_66gd vs := (fun h => (m_66W.1.2 vs h).elim hp2 (fun h => absurd hp3 (Nat.not_lt.mpr h)))
        have hfv := m_66W.2.2.2.2.2.2.2.2.2 vs hp3
        have hz : o_63 67 ≠ 0 → ∀ k, k < i + 1 → ∃ w, m_66gd w ∧ fput F_64 55 (6 * vs + i) r_62 55 (6 * vs + k) = nI w := by
          intro h k hk
          rcases Nat.lt_or_ge k i with h1 | h1
          · obtain ⟨w, h2, h3⟩ := hp5 (m_66W.2.2.2.2.2.2.2.1 h) k h1
            exact ⟨w, m_66W.1.1 w h2, (fput_j (by omega)).trans ((hfv.2.2.2 k (by omega)).trans h3)⟩
          · obtain rfl : k = i := by omega
            obtain ⟨w, h2, h3⟩ := m_66r h
            exact ⟨w, h2, by rw [fput_s]; exact h3⟩
        exact ih9 _ _ _ _ _ ⟨o_63, (fput F_64 55 (6 * vs + i) r_62), m_66gd, m_66vs, m_66es, d + m_66d, i + 1, ls, by omega, (m_66K.prt (fun m h => (hT.2.2 m h).2.2.2.2.1) (Nat.le_refl _) (by omega) hng), hng, by omega, ⟨hfv.1.trans hp4.1, hfv.2.1.trans hp4.2.1, hfv.2.2.1.trans hp4.2.2⟩, hz, rfl, rfl, hP, hS, lv_sub hl [1, 2, 3, 4, 0] rfl, rfl⟩
  rcases Decidable.em (nI (tr 0 n) = 6) with c_67 | c_67
  · skip
    refine lv_tableIn (tgt := 293) hx hb dX8_doing_29 (by rw [c_67]; decide) (by rw [c_67]; decide) (by rw [c_67]; rfl) (by decide) ?_
    have hs9 : tr 0 n = 6 := (nI_eq (b := 6) (by omega) (by omega)).mp c_67
    have tp := tn.2.2.2.2.2.2.1
    rw [hs9] at tp
    obtain ⟨ea_, p0_, -⟩ := tp 0 (show 0 < 1 by decide)
    rw [show F 4 (6 * n) = nI (tr 10 n) from ea_] at hl
    refine lv_aload_n hx hb dX8_doing_293 rfl (lv_at hl 2 rfl) ?_
    refine lv_iload_n hx hb dX8_doing_294 rfl (lv_at hl 1 rfl) ?_
    refine lv_iload_n hx hb dX8_doing_295 rfl (lv_at hl 4 rfl) ?_
    refine m_ci (m_runV (As := [.int (nI (tr 10 n)), .int ev]) (rest := []) ⟨hx, hb, hml, hown, htu⟩ (ih l G hDD o F tr N gd vs es (wk + (0)) ms (tr 10 n) ev ((hT.keep (u := (o, F)) (fun k hk => (WK.rf hW).2.2.2.2.2.2.2.2.1 k (LW7 hk)))) ((WK.rf hW).2.2.2.2.2.1) ((by omega)) ((by omega)) p0_ ((he.mono (by omega))) ((((WK.rf hW).2.2.2.2.2.2.1).trans hd)) ((by omega)) H.size) (cwV 2 htu gU_X8_does rfl rfl rfl (by decide +kernel) ⟨show (3 * fu + 3) + 1 ≤ 3 * fu + 5 by omega, show 8 + (4 + 11) + (80 * fu + 100) ≤ 80 * fu + 146 by omega⟩) hP hK rfl hl.1 rfl (lv_room (Nat.le_of_ble_eq_true rfl)) dX8_doing_296) hS (fun r_68 o_69 F_70 H locs hw_71 hP hS => ?_)
    try dsimp only at hw_71
    obtain ⟨m_72gd, m_72vs, m_72es, m_72d, m_72cv, m_72ce, m_72c1, m_72c2, m_72W, m_72r⟩ := hw_71
    obtain rfl : m_72cv = 0 := by omega
    obtain rfl : m_72ce = 0 := by omega
    have m_72K := (WK.rf hW).tr m_72W
    obtain ⟨-, m_72x1, m_72x2, m_72x3, m_72x4, -⟩ := id m_72W
    obtain ⟨m_72y1, m_72y2⟩ := m_72W.2.2.2.2.2.1.1.2.2.2.2
    refine lv_istore (lv' := [(5, .int r_68), (4, .int (F 4 (6 * n + 1))), (3, .int (nI (tr 10 n))), (0, .ref (mh G)), (1, .int (nI n)), (2, .int ev)]) hx hb dX8_doing_299 hl (by decide) rfl (fun ls hl => ?_)
    refine lv_aload_n hx hb dX8_doing_301 rfl (lv_at hl 3 rfl) ?_
    refine m_get (v := .int (o_69 67)) hx hb htu wu_in hown hK hP 67 (by decide) (htu _ U_221) rfl rfl dX8_doing_302 ?_
    refine lv_if_eq (tgt := 339) hx hb dX8_doing_305 (by decide) (fun c_73 => ?_) (fun c_73 => ?_)
    · skip
      refine lv_bipush (v := (-9)) hx hb dX8_doing_339 (by decide) ?_
      refine lv_istore (lv' := [(6, .int ((-9))), (5, .int r_68), (4, .int (F 4 (6 * n + 1))), (3, .int (nI (tr 10 n))), (0, .ref (mh G)), (1, .int (nI n)), (2, .int ev)]) hx hb dX8_doing_341 hl (by decide) rfl (fun ls hl => ?_)
      refine lv_aload_n hx hb dX8_doing_343 rfl (lv_at hl 4 rfl) ?_
      refine m_get (v := .int (o_69 67)) hx hb htu wu_in hown hK hP 67 (by decide) (htu _ U_221) rfl rfl dX8_doing_344 ?_
      refine lv_if_ne (tgt := 355) hx hb dX8_doing_347 (by decide) (fun c_74 => absurd c_73 c_74) (fun c_74 => ?_)
      refine lv_bipush (v := (-9)) hx hb dX8_doing_350 (by decide) ?_
      refine lv_goto (tgt := 384) hx hb dX8_doing_352 (by decide) ?_
      exact m_iret (v := (-9)) hx hb hr hK hP hS ⟨_, _, _, _, _, _, by omega, by omega, m_72K, (fun h => absurd c_74 h)⟩ dX8_doing_384 hlocks
    · skip
      obtain ⟨w5, g5, e5⟩ := m_72r c_73
      subst e5
      obtain ⟨l5, vo5⟩ := m_72K.2.2.2.2.2.1.2.2.1 w5 g5
      refine lv_aload_n hx hb dX8_doing_308 rfl (lv_at hl 3 rfl) ?_
      refine m_get (v := .ref (md G 52)) hx hb htu wu_in hown hK hP 52 (by decide) (htu _ U_237) rfl rfl dX8_doing_309 ?_
      refine lv_iload hx hb dX8_doing_312 (lv_at hl 0 rfl) ?_
      refine m_ald (j := w5) (v := F_70 52 w5) hx hb hK hP 31 52 rfl (by omega) (by decide) rfl dX8_doing_314 ?_
      refine lv_iconst (v := 3) hx hb dX8_doing_315 (by decide) ?_
      refine lv_icmp_ne (tgt := 339) hx hb dX8_doing_316 (by decide) (fun c_75 => ?_) (fun c_75 => ?_)
      · skip
        refine lv_bipush (v := (-9)) hx hb dX8_doing_339 (by decide) ?_
        refine lv_istore (lv' := [(6, .int ((-9))), (5, .int (nI w5)), (4, .int (F 4 (6 * n + 1))), (3, .int (nI (tr 10 n))), (0, .ref (mh G)), (1, .int (nI n)), (2, .int ev)]) hx hb dX8_doing_341 hl (by decide) rfl (fun ls hl => ?_)
        refine lv_aload_n hx hb dX8_doing_343 rfl (lv_at hl 4 rfl) ?_
        refine m_get (v := .int (o_69 67)) hx hb htu wu_in hown hK hP 67 (by decide) (htu _ U_221) rfl rfl dX8_doing_344 ?_
        refine lv_if_ne (tgt := 355) hx hb dX8_doing_347 (by decide) (fun c_76 => ?_) (fun c_76 => absurd c_76 c_73)
        refine lv_iload hx hb dX8_doing_355 (lv_at hl 0 rfl) ?_
        refine lv_bipush (v := (-9)) hx hb dX8_doing_357 (by decide) ?_
        refine lv_icmp_ne (tgt := 371) hx hb dX8_doing_359 (by decide) (fun c_77 => absurd (by decide) c_77) (fun c_77 => ?_)
        refine lv_aload_n hx hb dX8_doing_362 rfl (lv_at hl 4 rfl) ?_
        refine lv_iconst (v := 1) hx hb dX8_doing_363 (by decide) ?_
        refine lv_iload_n hx hb dX8_doing_364 rfl (lv_at hl 5 rfl) ?_
        refine m_ci (m_runV (As := [.int 1, .int (nI n)]) (rest := []) ⟨hx, hb, hml, hown, htu⟩ (m_halts l G hDD o_69 F_70 1 (nI n) H.size) (cwV 2 htu gU_X8_halts rfl rfl rfl (by decide +kernel) ⟨show 0 + 1 ≤ 3 * fu + 5 by omega, show 8 + (3 + 11) + 0 ≤ 80 * fu + 146 by omega⟩) hP hK rfl hl.1 rfl (lv_room (Nat.le_of_ble_eq_true rfl)) dX8_doing_365) hS (fun r_78 o_79 F_80 H locs hw_81 hP hS => ?_)
        try dsimp only at hw_81
        obtain ⟨m_82K, m_82z⟩ := m_72K.halt (by decide) hw_81.2
        refine lv_goto (tgt := 384) hx hb dX8_doing_368 (by decide) ?_
        exact m_iret (v := r_78) hx hb hr hK hP hS ⟨_, _, _, _, _, _, by omega, by omega, m_82K, (fun h => absurd m_82z h)⟩ dX8_doing_384 hlocks
      · skip
        obtain ⟨m9, x1_, x2_, x3_, x4_, x5_⟩ := vo5.rc c_75
        have tm3 := (hT.2.2 m9 x1_).2.2.2.2.1
        refine lv_aload_n hx hb dX8_doing_319 rfl (lv_at hl 3 rfl) ?_
        refine lv_aload_n hx hb dX8_doing_320 rfl (lv_at hl 3 rfl) ?_
        refine m_get (v := .ref (md G 53)) hx hb htu wu_in hown hK hP 53 (by decide) (htu _ U_238) rfl rfl dX8_doing_321 ?_
        refine lv_iload hx hb dX8_doing_324 (lv_at hl 0 rfl) ?_
        refine m_ald (j := w5) (v := nI m9) hx hb hK hP 32 53 rfl (by omega) (by decide) x3_ dX8_doing_326 ?_
        refine lv_aload_n hx hb dX8_doing_327 rfl (lv_at hl 3 rfl) ?_
        refine m_get (v := .ref (md G 2)) hx hb htu wu_in hown hK hP 2 (by decide) (htu _ U_3) rfl rfl dX8_doing_328 ?_
        refine lv_iload_n hx hb dX8_doing_331 rfl (lv_at hl 4 rfl) ?_
        refine m_ald (j := n) (v := F_70 2 n) hx hb hK hP 2 2 rfl (by omega) (by decide) rfl dX8_doing_332 ?_
        refine m_ci (m_runV (As := [.int (nI m9), .int (F_70 2 n)]) (rest := []) ⟨hx, hb, hml, hown, htu⟩ (m_placeOf l G hDD o_69 F_70 N m9 (tr 2 m9) (F_70 2 n) hN x1_ (((congrFun (m_72K.2.2.2.2.2.2.2.2.1 3 (by decide)).2 _).trans (hT.2.2 m9 x1_).2.2.2.1)) tm3 H.size) (cwV 2 htu gU_X8_placeOf rfl rfl rfl (by decide +kernel) ⟨show 0 + 1 ≤ 3 * fu + 5 by omega, show 8 + (4 + 11) + 0 ≤ 80 * fu + 146 by omega⟩) hP hK rfl hl.1 rfl (lv_room (Nat.le_of_ble_eq_true rfl)) dX8_doing_333) hS (fun r_83 o_84 F_85 H locs hw_86 hP hS => ?_)
        try dsimp only at hw_86
        obtain ⟨hu, hc⟩ := hw_86
        obtain ⟨h91, h92⟩ := Prod.mk.inj hu
        have h91 := h91.symm
        subst h91
        have h92 := h92.symm
        subst h92
        rcases hc with ⟨z1, z2⟩ | ⟨i9, i9a, z1, z2⟩
        · skip
          subst z1
          refine lv_goto (tgt := 341) hx hb dX8_doing_336 (by decide) ?_
          refine lv_istore (lv' := [(6, .int ((-9))), (5, .int (nI w5)), (4, .int (F 4 (6 * n + 1))), (3, .int (nI (tr 10 n))), (0, .ref (mh G)), (1, .int (nI n)), (2, .int ev)]) hx hb dX8_doing_341 hl (by decide) rfl (fun ls hl => ?_)
          refine lv_aload_n hx hb dX8_doing_343 rfl (lv_at hl 4 rfl) ?_
          refine m_get (v := .int (o_69 67)) hx hb htu wu_in hown hK hP 67 (by decide) (htu _ U_221) rfl rfl dX8_doing_344 ?_
          refine lv_if_ne (tgt := 355) hx hb dX8_doing_347 (by decide) (fun c_87 => ?_) (fun c_87 => absurd c_87 c_73)
          refine lv_iload hx hb dX8_doing_355 (lv_at hl 0 rfl) ?_
          refine lv_bipush (v := (-9)) hx hb dX8_doing_357 (by decide) ?_
          refine lv_icmp_ne (tgt := 371) hx hb dX8_doing_359 (by decide) (fun c_88 => absurd (by decide) c_88) (fun c_88 => ?_)
          refine lv_aload_n hx hb dX8_doing_362 rfl (lv_at hl 4 rfl) ?_
          refine lv_iconst (v := 1) hx hb dX8_doing_363 (by decide) ?_
          refine lv_iload_n hx hb dX8_doing_364 rfl (lv_at hl 5 rfl) ?_
          refine m_ci (m_runV (As := [.int 1, .int (nI n)]) (rest := []) ⟨hx, hb, hml, hown, htu⟩ (m_halts l G hDD o_69 F_70 1 (nI n) H.size) (cwV 2 htu gU_X8_halts rfl rfl rfl (by decide +kernel) ⟨show 0 + 1 ≤ 3 * fu + 5 by omega, show 8 + (3 + 11) + 0 ≤ 80 * fu + 146 by omega⟩) hP hK rfl hl.1 rfl (lv_room (Nat.le_of_ble_eq_true rfl)) dX8_doing_365) hS (fun r_89 o_90 F_91 H locs hw_92 hP hS => ?_)
          try dsimp only at hw_92
          obtain ⟨m_93K, m_93z⟩ := m_72K.halt (by decide) hw_92.2
          refine lv_goto (tgt := 384) hx hb dX8_doing_368 (by decide) ?_
          exact m_iret (v := r_89) hx hb hr hK hP hS ⟨_, _, _, _, _, _, by omega, by omega, m_93K, (fun h => absurd m_93z h)⟩ dX8_doing_384 hlocks
        · skip
          subst z1
          refine lv_goto (tgt := 341) hx hb dX8_doing_336 (by decide) ?_
          refine lv_istore (lv' := [(6, .int (nI i9)), (5, .int (nI w5)), (4, .int (F 4 (6 * n + 1))), (3, .int (nI (tr 10 n))), (0, .ref (mh G)), (1, .int (nI n)), (2, .int ev)]) hx hb dX8_doing_341 hl (by decide) rfl (fun ls hl => ?_)
          refine lv_aload_n hx hb dX8_doing_343 rfl (lv_at hl 4 rfl) ?_
          refine m_get (v := .int (o_69 67)) hx hb htu wu_in hown hK hP 67 (by decide) (htu _ U_221) rfl rfl dX8_doing_344 ?_
          refine lv_if_ne (tgt := 355) hx hb dX8_doing_347 (by decide) (fun c_94 => ?_) (fun c_94 => absurd c_94 c_73)
          refine lv_iload hx hb dX8_doing_355 (lv_at hl 0 rfl) ?_
          refine lv_bipush (v := (-9)) hx hb dX8_doing_357 (by decide) ?_
          refine lv_icmp_ne (tgt := 371) hx hb dX8_doing_359 (by decide) (fun c_95 => ?_) (fun c_95 => absurd c_95 (nI_neg (by decide) (by omega)))
          refine lv_aload_n hx hb dX8_doing_371 rfl (lv_at hl 4 rfl) ?_
          refine m_get (v := .ref (md G 55)) hx hb htu wu_in hown hK hP 55 (by decide) (htu _ U_240) rfl rfl dX8_doing_372 ?_
          refine lv_bipush (v := 6) hx hb dX8_doing_375 (by decide) ?_
          refine lv_iload hx hb dX8_doing_377 (lv_at hl 1 rfl) ?_
          refine lv_imul hx hb dX8_doing_379 ?_
          refine m_top (y := nI (6 * w5)) (pk_mul 6 w5) ?_
          refine lv_iload hx hb dX8_doing_380 (lv_at hl 0 rfl) ?_
          refine lv_iadd hx hb dX8_doing_382 ?_
          refine m_top (y := nI (6 * w5 + i9)) (nI_add (6 * w5) i9) ?_
          refine m_ald (j := 6 * w5 + i9) (v := F_70 55 (6 * w5 + i9)) hx hb hK hP 34 55 rfl (by omega) (by decide) rfl dX8_doing_383 ?_
          exact m_iret (v := F_70 55 (6 * w5 + i9)) hx hb hr hK hP hS ⟨_, _, _, _, _, _, by omega, by omega, m_72K, (fun _ => x5_ i9 i9a)⟩ dX8_doing_384 hlocks
  rcases Decidable.em (nI (tr 0 n) = 7) with c_96 | c_96
  · skip
    refine lv_tableIn (tgt := 385) hx hb dX8_doing_29 (by rw [c_96]; decide) (by rw [c_96]; decide) (by rw [c_96]; rfl) (by decide) ?_
    have hs9 : tr 0 n = 7 := (nI_eq (b := 7) (by omega) (by omega)).mp c_96
    have tp := tn.2.2.2.2.2.2.1
    rw [hs9] at tp
    obtain ⟨ea_, p0_, -⟩ := tp 0 (show 0 < 2 by decide)
    rw [show F 4 (6 * n) = nI (tr 10 n) from ea_] at hl
    obtain ⟨eb_, p1_, -⟩ := tp 1 (show 1 < 2 by decide)
    rw [show F 4 (6 * n + 1) = nI (tr 11 n) from eb_] at hl
    refine lv_aload_n hx hb dX8_doing_385 rfl (lv_at hl 2 rfl) ?_
    refine lv_iload_n hx hb dX8_doing_386 rfl (lv_at hl 1 rfl) ?_
    refine lv_iload_n hx hb dX8_doing_387 rfl (lv_at hl 4 rfl) ?_
    refine m_ci (m_runV (As := [.int (nI (tr 10 n)), .int ev]) (rest := []) ⟨hx, hb, hml, hown, htu⟩ (ih l G hDD o F tr N gd vs es (wk + (0)) ms (tr 10 n) ev ((hT.keep (u := (o, F)) (fun k hk => (WK.rf hW).2.2.2.2.2.2.2.2.1 k (LW7 hk)))) ((WK.rf hW).2.2.2.2.2.1) ((by omega)) ((by omega)) p0_ ((he.mono (by omega))) ((((WK.rf hW).2.2.2.2.2.2.1).trans hd)) ((by omega)) H.size) (cwV 2 htu gU_X8_does rfl rfl rfl (by decide +kernel) ⟨show (3 * fu + 3) + 1 ≤ 3 * fu + 5 by omega, show 8 + (4 + 11) + (80 * fu + 100) ≤ 80 * fu + 146 by omega⟩) hP hK rfl hl.1 rfl (lv_room (Nat.le_of_ble_eq_true rfl)) dX8_doing_388) hS (fun r_97 o_98 F_99 H locs hw_100 hP hS => ?_)
    try dsimp only at hw_100
    obtain ⟨m_101gd, m_101vs, m_101es, m_101d, m_101cv, m_101ce, m_101c1, m_101c2, m_101W, m_101r⟩ := hw_100
    obtain rfl : m_101cv = 0 := by omega
    obtain rfl : m_101ce = 0 := by omega
    have m_101K := (WK.rf hW).tr m_101W
    obtain ⟨-, m_101x1, m_101x2, m_101x3, m_101x4, -⟩ := id m_101W
    obtain ⟨m_101y1, m_101y2⟩ := m_101W.2.2.2.2.2.1.1.2.2.2.2
    refine lv_istore (lv' := [(5, .int r_97), (4, .int (nI (tr 11 n))), (3, .int (nI (tr 10 n))), (0, .ref (mh G)), (1, .int (nI n)), (2, .int ev)]) hx hb dX8_doing_391 hl (by decide) rfl (fun ls hl => ?_)
    refine lv_aload_n hx hb dX8_doing_393 rfl (lv_at hl 3 rfl) ?_
    refine m_get (v := .int (o_98 67)) hx hb htu wu_in hown hK hP 67 (by decide) (htu _ U_221) rfl rfl dX8_doing_394 ?_
    refine lv_if_eq (tgt := 424) hx hb dX8_doing_397 (by decide) (fun c_102 => ?_) (fun c_102 => ?_)
    · skip
      refine lv_bipush (v := (-9)) hx hb dX8_doing_424 (by decide) ?_
      exact m_iret (v := (-9)) hx hb hr hK hP hS ⟨_, _, _, _, _, _, by omega, by omega, m_101K, (fun h => absurd c_102 h)⟩ dX8_doing_426 hlocks
    · skip
      obtain ⟨w5, g5, e5⟩ := m_101r c_102
      subst e5
      obtain ⟨l5, vo5⟩ := m_101K.2.2.2.2.2.1.2.2.1 w5 g5
      refine lv_aload_n hx hb dX8_doing_400 rfl (lv_at hl 3 rfl) ?_
      refine lv_iload hx hb dX8_doing_401 (lv_at hl 1 rfl) ?_
      refine lv_aload_n hx hb dX8_doing_403 rfl (lv_at hl 3 rfl) ?_
      refine lv_aload_n hx hb dX8_doing_404 rfl (lv_at hl 3 rfl) ?_
      refine m_get (v := .ref (md G 2)) hx hb htu wu_in hown hK hP 2 (by decide) (htu _ U_3) rfl rfl dX8_doing_405 ?_
      refine lv_iload_n hx hb dX8_doing_408 rfl (lv_at hl 4 rfl) ?_
      refine m_ald (j := n) (v := F_99 2 n) hx hb hK hP 2 2 rfl (by omega) (by decide) rfl dX8_doing_409 ?_
      refine lv_iload hx hb dX8_doing_410 (lv_at hl 0 rfl) ?_
      refine lv_bipush (v := (-9)) hx hb dX8_doing_412 (by decide) ?_
      refine lv_iload_n hx hb dX8_doing_414 rfl (lv_at hl 5 rfl) ?_
      refine m_ci (m_runV (As := [.int (F_99 2 n), .int (nI w5), .int ((-9)), .int ev]) (rest := [.int (nI (tr 11 n)), .ref (mh G)]) ⟨hx, hb, hml, hown, htu⟩ (m_env l G hDD o_98 F_99 m_101es (F_99 2 n) (nI w5) ((-9)) ev m_101K.2.2.2.2.2.1.1.2.1 ((by omega)) H.size) (cwV 4 htu gU_X8_env rfl rfl rfl (by decide +kernel) ⟨show 0 + 1 ≤ 3 * fu + 5 by omega, show 8 + (5 + 11) + 0 ≤ 80 * fu + 146 by omega⟩) hP hK rfl hl.1 rfl (lv_room (Nat.le_of_ble_eq_true rfl)) dX8_doing_415) hS (fun r_103 o_104 F_105 H locs hw_106 hP hS => ?_)
      try dsimp only at hw_106
      obtain ⟨m_107r, m_107u⟩ := hw_106
      subst m_107r
      have m_107K := m_101K.env (fun m h => (hT.2.2 m h).2.2.2.2.1) (he.mono (by omega)) (Or.inl ⟨rfl, w5, g5, rfl⟩) m_107u
      refine m_ci (m_runV (As := [.int (nI (tr 11 n)), .int (nI m_101es)]) (rest := []) ⟨hx, hb, hml, hown, htu⟩ (ih l G hDD o_104 F_105 tr N m_101gd m_101vs (m_101es + 1) (wk + (0 + m_101d)) ms (tr 11 n) ((nI (m_101es))) ((hT.keep (u := (o_104, F_105)) (fun k hk => m_107K.2.2.2.2.2.2.2.2.1 k (LW7 hk)))) m_107K.2.2.2.2.2.1 ((by omega)) ((by omega)) p1_ ((Or.inr ⟨m_101es, Nat.lt_succ_self _, rfl⟩)) (((m_107K.2.2.2.2.2.2.1).trans hd)) ((by omega)) H.size) (cwV 2 htu gU_X8_does rfl rfl rfl (by decide +kernel) ⟨show (3 * fu + 3) + 1 ≤ 3 * fu + 5 by omega, show 8 + (4 + 11) + (80 * fu + 100) ≤ 80 * fu + 146 by omega⟩) hP hK rfl hl.1 rfl (lv_room (Nat.le_of_ble_eq_true rfl)) dX8_doing_418) hS (fun r_108 o_109 F_110 H locs hw_111 hP hS => ?_)
      try dsimp only at hw_111
      obtain ⟨m_112gd, m_112vs, m_112es, m_112d, m_112cv, m_112ce, m_112c1, m_112c2, m_112W, m_112r⟩ := hw_111
      obtain rfl : m_112cv = 0 := by omega
      obtain rfl : m_112ce = 0 := by omega
      have m_112K := m_107K.tr m_112W
      obtain ⟨-, m_112x1, m_112x2, m_112x3, m_112x4, -⟩ := id m_112W
      obtain ⟨m_112y1, m_112y2⟩ := m_112W.2.2.2.2.2.1.1.2.2.2.2
      refine lv_goto (tgt := 426) hx hb dX8_doing_421 (by decide) ?_
      exact m_iret (v := r_108) hx hb hr hK hP hS ⟨_, _, _, _, _, _, by omega, by omega, m_112K, m_112r⟩ dX8_doing_426 hlocks
  rcases Decidable.em (nI (tr 0 n) = 8) with c_113 | c_113
  · skip
    refine lv_tableIn (tgt := 427) hx hb dX8_doing_29 (by rw [c_113]; decide) (by rw [c_113]; decide) (by rw [c_113]; rfl) (by decide) ?_
    have hs9 : tr 0 n = 8 := (nI_eq (b := 8) (by omega) (by omega)).mp c_113
    have tp := tn.2.2.2.2.2.2.1
    rw [hs9] at tp
    obtain ⟨ea_, p0_, -⟩ := tp 0 (show 0 < 2 by decide)
    rw [show F 4 (6 * n) = nI (tr 10 n) from ea_] at hl
    obtain ⟨eb_, p1_, -⟩ := tp 1 (show 1 < 2 by decide)
    rw [show F 4 (6 * n + 1) = nI (tr 11 n) from eb_] at hl
    refine lv_aload_n hx hb dX8_doing_427 rfl (lv_at hl 2 rfl) ?_
    refine lv_iload hx hb dX8_doing_428 (lv_at hl 0 rfl) ?_
    refine lv_aload_n hx hb dX8_doing_430 rfl (lv_at hl 2 rfl) ?_
    refine lv_aload_n hx hb dX8_doing_431 rfl (lv_at hl 2 rfl) ?_
    refine m_get (v := .ref (md G 2)) hx hb htu wu_in hown hK hP 2 (by decide) (htu _ U_3) rfl rfl dX8_doing_432 ?_
    refine lv_iload_n hx hb dX8_doing_435 rfl (lv_at hl 3 rfl) ?_
    refine m_ald (j := n) (v := F 2 n) hx hb hK hP 2 2 rfl (by omega) (by decide) rfl dX8_doing_436 ?_
    refine lv_bipush (v := (-9)) hx hb dX8_doing_437 (by decide) ?_
    refine lv_iload_n hx hb dX8_doing_439 rfl (lv_at hl 3 rfl) ?_
    refine lv_iload_n hx hb dX8_doing_440 rfl (lv_at hl 4 rfl) ?_
    refine m_ci (m_runV (As := [.int (F 2 n), .int ((-9)), .int (nI n), .int ev]) (rest := [.int (nI (tr 11 n)), .ref (mh G)]) ⟨hx, hb, hml, hown, htu⟩ (m_env l G hDD o F es (F 2 n) ((-9)) (nI n) ev ((WK.rf hW).2.2.2.2.2.1.1.2.1) ((by omega)) H.size) (cwV 4 htu gU_X8_env rfl rfl rfl (by decide +kernel) ⟨show 0 + 1 ≤ 3 * fu + 5 by omega, show 8 + (5 + 11) + 0 ≤ 80 * fu + 146 by omega⟩) hP hK rfl hl.1 rfl (lv_room (Nat.le_of_ble_eq_true rfl)) dX8_doing_441) hS (fun r_114 o_115 F_116 H locs hw_117 hP hS => ?_)
    try dsimp only at hw_117
    obtain ⟨m_118r, m_118u⟩ := hw_117
    subst m_118r
    have m_118K := (WK.rf hW).env (fun m h => (hT.2.2 m h).2.2.2.2.1) he (Or.inr ⟨n, hn, hs9, rfl⟩) m_118u
    refine m_ci (m_runV (As := [.int (nI (tr 11 n)), .int (nI es)]) (rest := []) ⟨hx, hb, hml, hown, htu⟩ (ih l G hDD o_115 F_116 tr N gd vs (es + 1) (wk + (0)) ms (tr 11 n) ((nI (es))) ((hT.keep (u := (o_115, F_116)) (fun k hk => m_118K.2.2.2.2.2.2.2.2.1 k (LW7 hk)))) m_118K.2.2.2.2.2.1 ((by omega)) ((by omega)) p1_ ((Or.inr ⟨es, Nat.lt_succ_self _, rfl⟩)) (((m_118K.2.2.2.2.2.2.1).trans hd)) ((by omega)) H.size) (cwV 2 htu gU_X8_does rfl rfl rfl (by decide +kernel) ⟨show (3 * fu + 3) + 1 ≤ 3 * fu + 5 by omega, show 8 + (4 + 11) + (80 * fu + 100) ≤ 80 * fu + 146 by omega⟩) hP hK rfl hl.1 rfl (lv_room (Nat.le_of_ble_eq_true rfl)) dX8_doing_444) hS (fun r_119 o_120 F_121 H locs hw_122 hP hS => ?_)
    try dsimp only at hw_122
    obtain ⟨m_123gd, m_123vs, m_123es, m_123d, m_123cv, m_123ce, m_123c1, m_123c2, m_123W, m_123r⟩ := hw_122
    obtain rfl : m_123cv = 0 := by omega
    obtain rfl : m_123ce = 0 := by omega
    have m_123K := m_118K.tr m_123W
    obtain ⟨-, m_123x1, m_123x2, m_123x3, m_123x4, -⟩ := id m_123W
    obtain ⟨m_123y1, m_123y2⟩ := m_123W.2.2.2.2.2.1.1.2.2.2.2
    exact m_iret (v := r_119) hx hb hr hK hP hS ⟨_, _, _, _, _, _, by omega, by omega, m_123K, m_123r⟩ dX8_doing_447 hlocks
  rcases Decidable.em (nI (tr 0 n) = 9) with c_124 | c_124
  · skip
    refine lv_tableIn (tgt := 448) hx hb dX8_doing_29 (by rw [c_124]; decide) (by rw [c_124]; decide) (by rw [c_124]; rfl) (by decide) ?_
    have hs9 : tr 0 n = 9 := (nI_eq (b := 9) (by omega) (by omega)).mp c_124
    have tp := tn.2.2.2.2.2.2.1
    rw [hs9] at tp
    obtain ⟨ea_, p0_, -⟩ := tp 0 (show 0 < 3 by decide)
    rw [show F 4 (6 * n) = nI (tr 10 n) from ea_] at hl
    obtain ⟨eb_, p1_, -⟩ := tp 1 (show 1 < 3 by decide)
    rw [show F 4 (6 * n + 1) = nI (tr 11 n) from eb_] at hl
    obtain ⟨ec_, p2_, -⟩ := tp 2 (show 2 < 3 by decide)
    refine lv_aload_n hx hb dX8_doing_448 rfl (lv_at hl 2 rfl) ?_
    refine lv_iload_n hx hb dX8_doing_449 rfl (lv_at hl 1 rfl) ?_
    refine lv_iload_n hx hb dX8_doing_450 rfl (lv_at hl 4 rfl) ?_
    refine m_ci (m_runV (As := [.int (nI (tr 10 n)), .int ev]) (rest := []) ⟨hx, hb, hml, hown, htu⟩ (ih l G hDD o F tr N gd vs es (wk + (0)) ms (tr 10 n) ev ((hT.keep (u := (o, F)) (fun k hk => (WK.rf hW).2.2.2.2.2.2.2.2.1 k (LW7 hk)))) ((WK.rf hW).2.2.2.2.2.1) ((by omega)) ((by omega)) p0_ ((he.mono (by omega))) ((((WK.rf hW).2.2.2.2.2.2.1).trans hd)) ((by omega)) H.size) (cwV 2 htu gU_X8_does rfl rfl rfl (by decide +kernel) ⟨show (3 * fu + 3) + 1 ≤ 3 * fu + 5 by omega, show 8 + (4 + 11) + (80 * fu + 100) ≤ 80 * fu + 146 by omega⟩) hP hK rfl hl.1 rfl (lv_room (Nat.le_of_ble_eq_true rfl)) dX8_doing_451) hS (fun r_125 o_126 F_127 H locs hw_128 hP hS => ?_)
    try dsimp only at hw_128
    obtain ⟨m_129gd, m_129vs, m_129es, m_129d, m_129cv, m_129ce, m_129c1, m_129c2, m_129W, m_129r⟩ := hw_128
    obtain rfl : m_129cv = 0 := by omega
    obtain rfl : m_129ce = 0 := by omega
    have m_129K := (WK.rf hW).tr m_129W
    obtain ⟨-, m_129x1, m_129x2, m_129x3, m_129x4, -⟩ := id m_129W
    obtain ⟨m_129y1, m_129y2⟩ := m_129W.2.2.2.2.2.1.1.2.2.2.2
    refine lv_istore (lv' := [(5, .int r_125), (4, .int (nI (tr 11 n))), (3, .int (nI (tr 10 n))), (0, .ref (mh G)), (1, .int (nI n)), (2, .int ev)]) hx hb dX8_doing_454 hl (by decide) rfl (fun ls hl => ?_)
    refine lv_aload_n hx hb dX8_doing_456 rfl (lv_at hl 3 rfl) ?_
    refine m_get (v := .int (o_126 67)) hx hb htu wu_in hown hK hP 67 (by decide) (htu _ U_221) rfl rfl dX8_doing_457 ?_
    refine lv_if_ne (tgt := 466) hx hb dX8_doing_460 (by decide) (fun c_130 => ?_) (fun c_130 => ?_)
    · skip
      obtain ⟨w5, g5, e5⟩ := m_129r c_130
      subst e5
      obtain ⟨l5, vo5⟩ := m_129K.2.2.2.2.2.1.2.2.1 w5 g5
      refine lv_aload_n hx hb dX8_doing_466 rfl (lv_at hl 3 rfl) ?_
      refine m_get (v := .ref (md G 52)) hx hb htu wu_in hown hK hP 52 (by decide) (htu _ U_237) rfl rfl dX8_doing_467 ?_
      refine lv_iload hx hb dX8_doing_470 (lv_at hl 0 rfl) ?_
      refine m_ald (j := w5) (v := F_127 52 w5) hx hb hK hP 31 52 rfl (by omega) (by decide) rfl dX8_doing_472 ?_
      refine lv_iconst (v := 1) hx hb dX8_doing_473 (by decide) ?_
      refine lv_icmp_eq (tgt := 484) hx hb dX8_doing_474 (by decide) (fun c_131 => ?_) (fun c_131 => ?_)
      · skip
        refine lv_aload_n hx hb dX8_doing_484 rfl (lv_at hl 3 rfl) ?_
        refine lv_aload_n hx hb dX8_doing_485 rfl (lv_at hl 3 rfl) ?_
        refine m_get (v := .ref (md G 53)) hx hb htu wu_in hown hK hP 53 (by decide) (htu _ U_238) rfl rfl dX8_doing_486 ?_
        refine lv_iload hx hb dX8_doing_489 (lv_at hl 0 rfl) ?_
        refine m_ald (j := w5) (v := F_127 53 w5) hx hb hK hP 32 53 rfl (by omega) (by decide) rfl dX8_doing_491 ?_
        refine lv_iconst (v := 1) hx hb dX8_doing_492 (by decide) ?_
        refine lv_icmp_ne (tgt := 501) hx hb dX8_doing_493 (by decide) (fun c_132 => ?_) (fun c_132 => ?_)
        · skip
          refine lv_aload_n hx hb dX8_doing_501 rfl (lv_at hl 3 rfl) ?_
          refine m_get (v := .ref (md G 4)) hx hb htu wu_in hown hK hP 4 (by decide) (htu _ U_6) rfl rfl dX8_doing_502 ?_
          refine lv_bipush (v := 6) hx hb dX8_doing_505 (by decide) ?_
          refine lv_iload_n hx hb dX8_doing_507 rfl (lv_at hl 4 rfl) ?_
          refine lv_imul hx hb dX8_doing_508 ?_
          refine m_top (y := nI (6 * n)) (pk_mul 6 n) ?_
          refine lv_iconst (v := 2) hx hb dX8_doing_509 (by decide) ?_
          refine lv_iadd hx hb dX8_doing_510 ?_
          refine m_top (y := nI (6 * n + 2)) (nI_add (6 * n) 2) ?_
          refine m_ald (j := 6 * n + 2) (v := nI (tr 12 n)) hx hb hK hP 4 4 rfl (by omega) (by decide) ((congrFun (m_129K.2.2.2.2.2.2.2.2.1 4 (by decide)).2 _).trans ec_) dX8_doing_511 ?_
          refine lv_iload_n hx hb dX8_doing_512 rfl (lv_at hl 5 rfl) ?_
          refine m_ci (m_runV (As := [.int (nI (tr 12 n)), .int ev]) (rest := []) ⟨hx, hb, hml, hown, htu⟩ (ih l G hDD o_126 F_127 tr N m_129gd m_129vs m_129es (wk + (0 + m_129d)) ms (tr 12 n) ev ((hT.keep (u := (o_126, F_127)) (fun k hk => m_129K.2.2.2.2.2.2.2.2.1 k (LW7 hk)))) m_129K.2.2.2.2.2.1 ((by omega)) ((by omega)) p2_ ((he.mono (by omega))) (((m_129K.2.2.2.2.2.2.1).trans hd)) ((by omega)) H.size) (cwV 2 htu gU_X8_does rfl rfl rfl (by decide +kernel) ⟨show (3 * fu + 3) + 1 ≤ 3 * fu + 5 by omega, show 8 + (4 + 11) + (80 * fu + 100) ≤ 80 * fu + 146 by omega⟩) hP hK rfl hl.1 rfl (lv_room (Nat.le_of_ble_eq_true rfl)) dX8_doing_513) hS (fun r_133 o_134 F_135 H locs hw_136 hP hS => ?_)
          try dsimp only at hw_136
          obtain ⟨m_137gd, m_137vs, m_137es, m_137d, m_137cv, m_137ce, m_137c1, m_137c2, m_137W, m_137r⟩ := hw_136
          obtain rfl : m_137cv = 0 := by omega
          obtain rfl : m_137ce = 0 := by omega
          have m_137K := m_129K.tr m_137W
          obtain ⟨-, m_137x1, m_137x2, m_137x3, m_137x4, -⟩ := id m_137W
          obtain ⟨m_137y1, m_137y2⟩ := m_137W.2.2.2.2.2.1.1.2.2.2.2
          exact m_iret (v := r_133) hx hb hr hK hP hS ⟨_, _, _, _, _, _, by omega, by omega, m_137K, m_137r⟩ dX8_doing_516 hlocks
        · skip
          refine lv_iload hx hb dX8_doing_496 (lv_at hl 1 rfl) ?_
          refine lv_goto (tgt := 512) hx hb dX8_doing_498 (by decide) ?_
          refine lv_iload_n hx hb dX8_doing_512 rfl (lv_at hl 5 rfl) ?_
          refine m_ci (m_runV (As := [.int (nI (tr 11 n)), .int ev]) (rest := []) ⟨hx, hb, hml, hown, htu⟩ (ih l G hDD o_126 F_127 tr N m_129gd m_129vs m_129es (wk + (0 + m_129d)) ms (tr 11 n) ev ((hT.keep (u := (o_126, F_127)) (fun k hk => m_129K.2.2.2.2.2.2.2.2.1 k (LW7 hk)))) m_129K.2.2.2.2.2.1 ((by omega)) ((by omega)) p1_ ((he.mono (by omega))) (((m_129K.2.2.2.2.2.2.1).trans hd)) ((by omega)) H.size) (cwV 2 htu gU_X8_does rfl rfl rfl (by decide +kernel) ⟨show (3 * fu + 3) + 1 ≤ 3 * fu + 5 by omega, show 8 + (4 + 11) + (80 * fu + 100) ≤ 80 * fu + 146 by omega⟩) hP hK rfl hl.1 rfl (lv_room (Nat.le_of_ble_eq_true rfl)) dX8_doing_513) hS (fun r_138 o_139 F_140 H locs hw_141 hP hS => ?_)
          try dsimp only at hw_141
          obtain ⟨m_142gd, m_142vs, m_142es, m_142d, m_142cv, m_142ce, m_142c1, m_142c2, m_142W, m_142r⟩ := hw_141
          obtain rfl : m_142cv = 0 := by omega
          obtain rfl : m_142ce = 0 := by omega
          have m_142K := m_129K.tr m_142W
          obtain ⟨-, m_142x1, m_142x2, m_142x3, m_142x4, -⟩ := id m_142W
          obtain ⟨m_142y1, m_142y2⟩ := m_142W.2.2.2.2.2.1.1.2.2.2.2
          exact m_iret (v := r_138) hx hb hr hK hP hS ⟨_, _, _, _, _, _, by omega, by omega, m_142K, m_142r⟩ dX8_doing_516 hlocks
      · skip
        refine lv_aload_n hx hb dX8_doing_477 rfl (lv_at hl 3 rfl) ?_
        refine lv_iconst (v := 1) hx hb dX8_doing_478 (by decide) ?_
        refine lv_iload_n hx hb dX8_doing_479 rfl (lv_at hl 4 rfl) ?_
        refine m_ci (m_runV (As := [.int 1, .int (nI n)]) (rest := []) ⟨hx, hb, hml, hown, htu⟩ (m_halts l G hDD o_126 F_127 1 (nI n) H.size) (cwV 2 htu gU_X8_halts rfl rfl rfl (by decide +kernel) ⟨show 0 + 1 ≤ 3 * fu + 5 by omega, show 8 + (3 + 11) + 0 ≤ 80 * fu + 146 by omega⟩) hP hK rfl hl.1 rfl (lv_room (Nat.le_of_ble_eq_true rfl)) dX8_doing_480) hS (fun r_143 o_144 F_145 H locs hw_146 hP hS => ?_)
        try dsimp only at hw_146
        obtain ⟨m_147K, m_147z⟩ := m_129K.halt (by decide) hw_146.2
        exact m_iret (v := r_143) hx hb hr hK hP hS ⟨_, _, _, _, _, _, by omega, by omega, m_147K, (fun h => absurd m_147z h)⟩ dX8_doing_483 hlocks
    · skip
      refine lv_bipush (v := (-9)) hx hb dX8_doing_463 (by decide) ?_
      exact m_iret (v := (-9)) hx hb hr hK hP hS ⟨_, _, _, _, _, _, by omega, by omega, m_129K, (fun h => absurd c_130 h)⟩ dX8_doing_465 hlocks
  have hout : (nI (tr 0 n)).toInt < 0 ∨ 9 < (nI (tr 0 n)).toInt := tb_out (nI (tr 0 n)) 0 9 (fun z h1 h2 e => by
    rcases (show z = 0 ∨ z = 1 ∨ z = 2 ∨ z = 3 ∨ z = 4 ∨ z = 5 ∨ z = 6 ∨ z = 7 ∨ z = 8 ∨ z = 9 by omega) with rfl | rfl | rfl | rfl | rfl | rfl | rfl | rfl | rfl | rfl
    · exact c_1 (Int32.toInt_inj.mp (e.trans (by decide)))
    · exact c_7 (Int32.toInt_inj.mp (e.trans (by decide)))
    · exact c_13 (Int32.toInt_inj.mp (e.trans (by decide)))
    · exact c_19 (Int32.toInt_inj.mp (e.trans (by decide)))
    · exact c_25 (Int32.toInt_inj.mp (e.trans (by decide)))
    · exact c_53 (Int32.toInt_inj.mp (e.trans (by decide)))
    · exact c_67 (Int32.toInt_inj.mp (e.trans (by decide)))
    · exact c_96 (Int32.toInt_inj.mp (e.trans (by decide)))
    · exact c_113 (Int32.toInt_inj.mp (e.trans (by decide)))
    · exact c_124 (Int32.toInt_inj.mp (e.trans (by decide))))
  refine lv_tableOut (tgt := 517) hx hb dX8_doing_29 hout (by decide) ?_
  have s0n : tr 0 n ≠ 0 := fun h => c_1 (by rw [h]; rfl)
  have s1n : tr 0 n ≠ 1 := fun h => c_7 (by rw [h]; rfl)
  have s2n : tr 0 n ≠ 2 := fun h => c_13 (by rw [h]; rfl)
  have s3n : tr 0 n ≠ 3 := fun h => c_19 (by rw [h]; rfl)
  have s4n : tr 0 n ≠ 4 := fun h => c_25 (by rw [h]; rfl)
  have s5n : tr 0 n ≠ 5 := fun h => c_53 (by rw [h]; rfl)
  have s6n : tr 0 n ≠ 6 := fun h => c_67 (by rw [h]; rfl)
  have s7n : tr 0 n ≠ 7 := fun h => c_96 (by rw [h]; rfl)
  have s8n : tr 0 n ≠ 8 := fun h => c_113 (by rw [h]; rfl)
  have s9n : tr 0 n ≠ 9 := fun h => c_124 (by rw [h]; rfl)
  have hs9 : tr 0 n = 10 ∨ tr 0 n = 11 := by omega
  have hp2 : prts (tr 0 n) (tr 2 n) = 2 := by rcases hs9 with h | h <;> rw [h] <;> rfl
  have tp := tn.2.2.2.2.2.2.1
  rw [hp2] at tp
  obtain ⟨ea_, p0_, -⟩ := tp 0 (show 0 < 2 by decide)
  rw [show F 4 (6 * n) = nI (tr 10 n) from ea_] at hl
  obtain ⟨eb_, p1_, -⟩ := tp 1 (show 1 < 2 by decide)
  rw [show F 4 (6 * n + 1) = nI (tr 11 n) from eb_] at hl
  refine lv_aload_n hx hb dX8_doing_517 rfl (lv_at hl 2 rfl) ?_
  refine lv_iload_n hx hb dX8_doing_518 rfl (lv_at hl 1 rfl) ?_
  refine lv_iload_n hx hb dX8_doing_519 rfl (lv_at hl 4 rfl) ?_
  refine m_ci (m_runV (As := [.int (nI (tr 10 n)), .int ev]) (rest := []) ⟨hx, hb, hml, hown, htu⟩ (ih l G hDD o F tr N gd vs es (wk + (0)) ms (tr 10 n) ev ((hT.keep (u := (o, F)) (fun k hk => (WK.rf hW).2.2.2.2.2.2.2.2.1 k (LW7 hk)))) ((WK.rf hW).2.2.2.2.2.1) ((by omega)) ((by omega)) p0_ ((he.mono (by omega))) ((((WK.rf hW).2.2.2.2.2.2.1).trans hd)) ((by omega)) H.size) (cwV 2 htu gU_X8_does rfl rfl rfl (by decide +kernel) ⟨show (3 * fu + 3) + 1 ≤ 3 * fu + 5 by omega, show 8 + (4 + 11) + (80 * fu + 100) ≤ 80 * fu + 146 by omega⟩) hP hK rfl hl.1 rfl (lv_room (Nat.le_of_ble_eq_true rfl)) dX8_doing_520) hS (fun r_148 o_149 F_150 H locs hw_151 hP hS => ?_)
  try dsimp only at hw_151
  obtain ⟨m_152gd, m_152vs, m_152es, m_152d, m_152cv, m_152ce, m_152c1, m_152c2, m_152W, m_152r⟩ := hw_151
  obtain rfl : m_152cv = 0 := by omega
  obtain rfl : m_152ce = 0 := by omega
  have m_152K := (WK.rf hW).tr m_152W
  obtain ⟨-, m_152x1, m_152x2, m_152x3, m_152x4, -⟩ := id m_152W
  obtain ⟨m_152y1, m_152y2⟩ := m_152W.2.2.2.2.2.1.1.2.2.2.2
  refine lv_istore (lv' := [(5, .int r_148), (4, .int (nI (tr 11 n))), (3, .int (nI (tr 10 n))), (0, .ref (mh G)), (1, .int (nI n)), (2, .int ev)]) hx hb dX8_doing_523 hl (by decide) rfl (fun ls hl => ?_)
  refine lv_aload_n hx hb dX8_doing_525 rfl (lv_at hl 3 rfl) ?_
  refine lv_iload hx hb dX8_doing_526 (lv_at hl 1 rfl) ?_
  refine lv_iload_n hx hb dX8_doing_528 rfl (lv_at hl 5 rfl) ?_
  refine m_ci (m_runV (As := [.int (nI (tr 11 n)), .int ev]) (rest := []) ⟨hx, hb, hml, hown, htu⟩ (ih l G hDD o_149 F_150 tr N m_152gd m_152vs m_152es (wk + (0 + m_152d)) ms (tr 11 n) ev ((hT.keep (u := (o_149, F_150)) (fun k hk => m_152K.2.2.2.2.2.2.2.2.1 k (LW7 hk)))) m_152K.2.2.2.2.2.1 ((by omega)) ((by omega)) p1_ ((he.mono (by omega))) (((m_152K.2.2.2.2.2.2.1).trans hd)) ((by omega)) H.size) (cwV 2 htu gU_X8_does rfl rfl rfl (by decide +kernel) ⟨show (3 * fu + 3) + 1 ≤ 3 * fu + 5 by omega, show 8 + (4 + 11) + (80 * fu + 100) ≤ 80 * fu + 146 by omega⟩) hP hK rfl hl.1 rfl (lv_room (Nat.le_of_ble_eq_true rfl)) dX8_doing_529) hS (fun r_153 o_154 F_155 H locs hw_156 hP hS => ?_)
  try dsimp only at hw_156
  obtain ⟨m_157gd, m_157vs, m_157es, m_157d, m_157cv, m_157ce, m_157c1, m_157c2, m_157W, m_157r⟩ := hw_156
  obtain rfl : m_157cv = 0 := by omega
  obtain rfl : m_157ce = 0 := by omega
  have m_157K := m_152K.tr m_157W
  obtain ⟨-, m_157x1, m_157x2, m_157x3, m_157x4, -⟩ := id m_157W
  obtain ⟨m_157y1, m_157y2⟩ := m_157W.2.2.2.2.2.1.1.2.2.2.2
  refine lv_istore (lv' := [(6, .int r_153), (5, .int r_148), (4, .int (nI (tr 11 n))), (3, .int (nI (tr 10 n))), (0, .ref (mh G)), (1, .int (nI n)), (2, .int ev)]) hx hb dX8_doing_532 hl (by decide) rfl (fun ls hl => ?_)
  refine lv_aload_n hx hb dX8_doing_534 rfl (lv_at hl 4 rfl) ?_
  refine m_get (v := .int (o_154 67)) hx hb htu wu_in hown hK hP 67 (by decide) (htu _ U_221) rfl rfl dX8_doing_535 ?_
  refine lv_if_ne (tgt := 544) hx hb dX8_doing_538 (by decide) (fun c_158 => ?_) (fun c_158 => ?_)
  · skip
    obtain ⟨w6, g6, e6⟩ := m_157r c_158
    obtain ⟨w5, g5, e5⟩ := m_152r (m_157W.2.2.2.2.2.2.2.1 c_158)
    have g5 := m_157W.1.1 w5 g5
    subst e5
    subst e6
    obtain ⟨l5, vo5⟩ := m_157K.2.2.2.2.2.1.2.2.1 w5 g5
    obtain ⟨l6, vo6⟩ := m_157K.2.2.2.2.2.1.2.2.1 w6 g6
    refine lv_aload_n hx hb dX8_doing_544 rfl (lv_at hl 4 rfl) ?_
    refine m_get (v := .ref (md G 52)) hx hb htu wu_in hown hK hP 52 (by decide) (htu _ U_237) rfl rfl dX8_doing_545 ?_
    refine lv_iload hx hb dX8_doing_548 (lv_at hl 1 rfl) ?_
    refine m_ald (j := w5) (v := F_155 52 w5) hx hb hK hP 31 52 rfl (by omega) (by decide) rfl dX8_doing_550 ?_
    refine lv_if_ne (tgt := 564) hx hb dX8_doing_551 (by decide) (fun c_159 => ?_) (fun c_159 => ?_)
    · skip
      refine lv_aload_n hx hb dX8_doing_564 rfl (lv_at hl 4 rfl) ?_
      refine lv_iconst (v := 1) hx hb dX8_doing_565 (by decide) ?_
      refine lv_iload_n hx hb dX8_doing_566 rfl (lv_at hl 5 rfl) ?_
      refine m_ci (m_runV (As := [.int 1, .int (nI n)]) (rest := []) ⟨hx, hb, hml, hown, htu⟩ (m_halts l G hDD o_154 F_155 1 (nI n) H.size) (cwV 2 htu gU_X8_halts rfl rfl rfl (by decide +kernel) ⟨show 0 + 1 ≤ 3 * fu + 5 by omega, show 8 + (3 + 11) + 0 ≤ 80 * fu + 146 by omega⟩) hP hK rfl hl.1 rfl (lv_room (Nat.le_of_ble_eq_true rfl)) dX8_doing_567) hS (fun r_160 o_161 F_162 H locs hw_163 hP hS => ?_)
      try dsimp only at hw_163
      obtain ⟨m_164K, m_164z⟩ := m_157K.halt (by decide) hw_163.2
      exact m_iret (v := r_160) hx hb hr hK hP hS ⟨_, _, _, _, _, _, by omega, by omega, m_164K, (fun h => absurd m_164z h)⟩ dX8_doing_570 hlocks
    · skip
      refine lv_aload_n hx hb dX8_doing_554 rfl (lv_at hl 4 rfl) ?_
      refine m_get (v := .ref (md G 52)) hx hb htu wu_in hown hK hP 52 (by decide) (htu _ U_237) rfl rfl dX8_doing_555 ?_
      refine lv_iload hx hb dX8_doing_558 (lv_at hl 0 rfl) ?_
      refine m_ald (j := w6) (v := F_155 52 w6) hx hb hK hP 31 52 rfl (by omega) (by decide) rfl dX8_doing_560 ?_
      refine lv_if_eq (tgt := 571) hx hb dX8_doing_561 (by decide) (fun c_165 => ?_) (fun c_165 => ?_)
      · skip
        refine lv_aload_n hx hb dX8_doing_571 rfl (lv_at hl 4 rfl) ?_
        refine m_get (v := .ref (md G 1)) hx hb htu wu_in hown hK hP 1 (by decide) (htu _ U_2) rfl rfl dX8_doing_572 ?_
        refine lv_iload_n hx hb dX8_doing_575 rfl (lv_at hl 5 rfl) ?_
        refine m_ald (j := n) (v := nI (tr 0 n)) hx hb hK hP 1 1 rfl (by omega) (by decide) ((congrFun (m_157K.2.2.2.2.2.2.2.2.1 1 (by decide)).2 _).trans tn.1) dX8_doing_576 ?_
        refine lv_bipush (v := 10) hx hb dX8_doing_577 (by decide) ?_
        refine lv_icmp_ne (tgt := 607) hx hb dX8_doing_579 (by decide) (fun c_166 => ?_) (fun c_166 => ?_)
        · skip
          have nc_166 : ¬ tr 0 n = 10 := fun h9 => c_166 ((nI_eq (a := tr 0 n) (b := 10) (by omega) (by omega)).mpr h9)
          refine lv_aload_n hx hb dX8_doing_607 rfl (lv_at hl 4 rfl) ?_
          refine lv_iconst (v := 1) hx hb dX8_doing_608 (by decide) ?_
          refine lv_aload_n hx hb dX8_doing_609 rfl (lv_at hl 4 rfl) ?_
          refine m_get (v := .ref (md G 53)) hx hb htu wu_in hown hK hP 53 (by decide) (htu _ U_238) rfl rfl dX8_doing_610 ?_
          refine lv_iload hx hb dX8_doing_613 (lv_at hl 1 rfl) ?_
          refine m_ald (j := w5) (v := F_155 53 w5) hx hb hK hP 32 53 rfl (by omega) (by decide) rfl dX8_doing_615 ?_
          refine lv_aload_n hx hb dX8_doing_616 rfl (lv_at hl 4 rfl) ?_
          refine m_get (v := .ref (md G 53)) hx hb htu wu_in hown hK hP 53 (by decide) (htu _ U_238) rfl rfl dX8_doing_617 ?_
          refine lv_iload hx hb dX8_doing_620 (lv_at hl 0 rfl) ?_
          refine m_ald (j := w6) (v := F_155 53 w6) hx hb hK hP 32 53 rfl (by omega) (by decide) rfl dX8_doing_622 ?_
          refine lv_icmp_ge (tgt := 630) hx hb dX8_doing_623 (by decide) (fun c_167 => ?_) (fun c_167 => ?_)
          · skip
            refine lv_iconst (v := 0) hx hb dX8_doing_630 (by decide) ?_
            refine lv_bipush (v := (-9)) hx hb dX8_doing_631 (by decide) ?_
            refine m_ci (m_runV (As := [.int 1, .int 0, .int ((-9))]) (rest := []) ⟨hx, hb, hml, hown, htu⟩ (m_made l G hDD o_154 F_155 m_157vs 1 0 ((-9)) m_157K.2.2.2.2.2.1.1.1 ((by omega)) H.size) (cwV 3 htu gU_X8_made rfl rfl rfl (by decide +kernel) ⟨show 0 + 1 ≤ 3 * fu + 5 by omega, show 8 + (4 + 11) + 0 ≤ 80 * fu + 146 by omega⟩) hP hK rfl hl.1 rfl (lv_room (Nat.le_of_ble_eq_true rfl)) dX8_doing_633) hS (fun r_168 o_169 F_170 H locs hw_171 hP hS => ?_)
            try dsimp only at hw_171
            have m_172K := m_157K.made (fun m h => (hT.2.2 m h).2.2.2.2.1) (gd2 := (fun v => m_157gd v ∨ v = m_157vs)) (fun v h => Or.inl h) (fun v h => h) (fun _ => Or.inl (Or.inr rfl)) hw_171.2
            exact m_iret (v := r_168) hx hb hr hK hP hS ⟨_, _, _, _, _, _, by omega, by omega, m_172K, (fun _ => ⟨m_157vs, Or.inr rfl, hw_171.1⟩)⟩ dX8_doing_636 hlocks
          · skip
            refine lv_iconst (v := 1) hx hb dX8_doing_626 (by decide) ?_
            refine lv_goto (tgt := 631) hx hb dX8_doing_627 (by decide) ?_
            refine lv_bipush (v := (-9)) hx hb dX8_doing_631 (by decide) ?_
            refine m_ci (m_runV (As := [.int 1, .int 1, .int ((-9))]) (rest := []) ⟨hx, hb, hml, hown, htu⟩ (m_made l G hDD o_154 F_155 m_157vs 1 1 ((-9)) m_157K.2.2.2.2.2.1.1.1 ((by omega)) H.size) (cwV 3 htu gU_X8_made rfl rfl rfl (by decide +kernel) ⟨show 0 + 1 ≤ 3 * fu + 5 by omega, show 8 + (4 + 11) + 0 ≤ 80 * fu + 146 by omega⟩) hP hK rfl hl.1 rfl (lv_room (Nat.le_of_ble_eq_true rfl)) dX8_doing_633) hS (fun r_173 o_174 F_175 H locs hw_176 hP hS => ?_)
            try dsimp only at hw_176
            have m_177K := m_157K.made (fun m h => (hT.2.2 m h).2.2.2.2.1) (gd2 := (fun v => m_157gd v ∨ v = m_157vs)) (fun v h => Or.inl h) (fun v h => h) (fun _ => Or.inl (Or.inr rfl)) hw_176.2
            exact m_iret (v := r_173) hx hb hr hK hP hS ⟨_, _, _, _, _, _, by omega, by omega, m_177K, (fun _ => ⟨m_157vs, Or.inr rfl, hw_176.1⟩)⟩ dX8_doing_636 hlocks
        · skip
          have nc_166 : tr 0 n = 10 := (nI_eq (a := tr 0 n) (b := 10) (by omega) (by omega)).mp c_166
          refine lv_aload_n hx hb dX8_doing_582 rfl (lv_at hl 4 rfl) ?_
          refine lv_iconst (v := 0) hx hb dX8_doing_583 (by decide) ?_
          refine lv_aload_n hx hb dX8_doing_584 rfl (lv_at hl 4 rfl) ?_
          refine m_get (v := .ref (md G 53)) hx hb htu wu_in hown hK hP 53 (by decide) (htu _ U_238) rfl rfl dX8_doing_585 ?_
          refine lv_iload hx hb dX8_doing_588 (lv_at hl 1 rfl) ?_
          refine m_ald (j := w5) (v := F_155 53 w5) hx hb hK hP 32 53 rfl (by omega) (by decide) rfl dX8_doing_590 ?_
          refine lv_aload_n hx hb dX8_doing_591 rfl (lv_at hl 4 rfl) ?_
          refine m_get (v := .ref (md G 53)) hx hb htu wu_in hown hK hP 53 (by decide) (htu _ U_238) rfl rfl dX8_doing_592 ?_
          refine lv_iload hx hb dX8_doing_595 (lv_at hl 0 rfl) ?_
          refine m_ald (j := w6) (v := F_155 53 w6) hx hb hK hP 32 53 rfl (by omega) (by decide) rfl dX8_doing_597 ?_
          refine lv_iadd hx hb dX8_doing_598 ?_
          refine m_top (y := (F_155 53 w5) + (F_155 53 w6)) rfl ?_
          refine lv_bipush (v := (-9)) hx hb dX8_doing_599 (by decide) ?_
          refine m_ci (m_runV (As := [.int 0, .int ((F_155 53 w5) + (F_155 53 w6)), .int ((-9))]) (rest := []) ⟨hx, hb, hml, hown, htu⟩ (m_made l G hDD o_154 F_155 m_157vs 0 ((F_155 53 w5) + (F_155 53 w6)) ((-9)) m_157K.2.2.2.2.2.1.1.1 ((by omega)) H.size) (cwV 3 htu gU_X8_made rfl rfl rfl (by decide +kernel) ⟨show 0 + 1 ≤ 3 * fu + 5 by omega, show 8 + (4 + 11) + 0 ≤ 80 * fu + 146 by omega⟩) hP hK rfl hl.1 rfl (lv_room (Nat.le_of_ble_eq_true rfl)) dX8_doing_601) hS (fun r_178 o_179 F_180 H locs hw_181 hP hS => ?_)
          try dsimp only at hw_181
          have m_182K := m_157K.made (fun m h => (hT.2.2 m h).2.2.2.2.1) (gd2 := (fun v => m_157gd v ∨ v = m_157vs)) (fun v h => Or.inl h) (fun v h => h) (fun _ => Or.inl (Or.inl rfl)) hw_181.2
          refine lv_goto (tgt := 636) hx hb dX8_doing_604 (by decide) ?_
          exact m_iret (v := r_178) hx hb hr hK hP hS ⟨_, _, _, _, _, _, by omega, by omega, m_182K, (fun _ => ⟨m_157vs, Or.inr rfl, hw_181.1⟩)⟩ dX8_doing_636 hlocks
      · skip
        refine lv_aload_n hx hb dX8_doing_564 rfl (lv_at hl 4 rfl) ?_
        refine lv_iconst (v := 1) hx hb dX8_doing_565 (by decide) ?_
        refine lv_iload_n hx hb dX8_doing_566 rfl (lv_at hl 5 rfl) ?_
        refine m_ci (m_runV (As := [.int 1, .int (nI n)]) (rest := []) ⟨hx, hb, hml, hown, htu⟩ (m_halts l G hDD o_154 F_155 1 (nI n) H.size) (cwV 2 htu gU_X8_halts rfl rfl rfl (by decide +kernel) ⟨show 0 + 1 ≤ 3 * fu + 5 by omega, show 8 + (3 + 11) + 0 ≤ 80 * fu + 146 by omega⟩) hP hK rfl hl.1 rfl (lv_room (Nat.le_of_ble_eq_true rfl)) dX8_doing_567) hS (fun r_183 o_184 F_185 H locs hw_186 hP hS => ?_)
        try dsimp only at hw_186
        obtain ⟨m_187K, m_187z⟩ := m_157K.halt (by decide) hw_186.2
        exact m_iret (v := r_183) hx hb hr hK hP hS ⟨_, _, _, _, _, _, by omega, by omega, m_187K, (fun h => absurd m_187z h)⟩ dX8_doing_570 hlocks
  · skip
    refine lv_bipush (v := (-9)) hx hb dX8_doing_541 (by decide) ?_
    exact m_iret (v := (-9)) hx hb hr hK hP hS ⟨_, _, _, _, _, _, by omega, by omega, m_157K, (fun h => absurd c_158 h)⟩ dX8_doing_543 hlocks


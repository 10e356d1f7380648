theorem dX8_doing_0 : decode cX8_doing 0 = .ok (.aload_n 0, 1) := by decide +kernel
theorem dX8_doing_1 : decode cX8_doing 1 = .ok (.getfield 19, 3) := by decide +kernel
theorem dX8_doing_4 : decode cX8_doing 4 = .ok (.bipush 6, 2) := by decide +kernel
theorem dX8_doing_6 : decode cX8_doing 6 = .ok (.iload_n 1, 1) := by decide +kernel
theorem dX8_doing_7 : decode cX8_doing 7 = .ok (.imul, 1) := by decide +kernel
theorem dX8_doing_8 : decode cX8_doing 8 = .ok (.iaload, 1) := by decide +kernel
theorem dX8_doing_9 : decode cX8_doing 9 = .ok (.istore_n 3, 1) := by decide +kernel
theorem dX8_doing_10 : decode cX8_doing 10 = .ok (.aload_n 0, 1) := by decide +kernel
theorem dX8_doing_11 : decode cX8_doing 11 = .ok (.getfield 19, 3) := by decide +kernel
theorem dX8_doing_14 : decode cX8_doing 14 = .ok (.bipush 6, 2) := by decide +kernel
theorem dX8_doing_16 : decode cX8_doing 16 = .ok (.iload_n 1, 1) := by decide +kernel
theorem dX8_doing_17 : decode cX8_doing 17 = .ok (.imul, 1) := by decide +kernel
theorem dX8_doing_18 : decode cX8_doing 18 = .ok (.iconst 1, 1) := by decide +kernel
theorem dX8_doing_19 : decode cX8_doing 19 = .ok (.iadd, 1) := by decide +kernel
theorem dX8_doing_20 : decode cX8_doing 20 = .ok (.iaload, 1) := by decide +kernel
theorem dX8_doing_21 : decode cX8_doing 21 = .ok (.istore 4, 2) := by decide +kernel
theorem dX8_doing_23 : decode cX8_doing 23 = .ok (.aload_n 0, 1) := by decide +kernel
theorem dX8_doing_24 : decode cX8_doing 24 = .ok (.getfield 7, 3) := by decide +kernel
theorem dX8_doing_27 : decode cX8_doing 27 = .ok (.iload_n 1, 1) := by decide +kernel
theorem dX8_doing_28 : decode cX8_doing 28 = .ok (.iaload, 1) := by decide +kernel
theorem dX8_doing_29 : decode cX8_doing 29 = .ok (.tableswitch 488 0 9 #[55, 69, 83, 90, 98, 190, 264, 356, 398, 419], 55) := by decide +kernel
theorem dX8_doing_84 : decode cX8_doing 84 = .ok (.aload_n 0, 1) := by decide +kernel
theorem dX8_doing_85 : decode cX8_doing 85 = .ok (.iconst 0, 1) := by decide +kernel
theorem dX8_doing_86 : decode cX8_doing 86 = .ok (.aload_n 0, 1) := by decide +kernel
theorem dX8_doing_87 : decode cX8_doing 87 = .ok (.getfield 13, 3) := by decide +kernel
theorem dX8_doing_90 : decode cX8_doing 90 = .ok (.iload_n 1, 1) := by decide +kernel
theorem dX8_doing_91 : decode cX8_doing 91 = .ok (.iaload, 1) := by decide +kernel
theorem dX8_doing_92 : decode cX8_doing 92 = .ok (.bipush (-9), 2) := by decide +kernel
theorem dX8_doing_94 : decode cX8_doing 94 = .ok (.invokevirtual 349, 3) := by decide +kernel
theorem dX8_doing_97 : decode cX8_doing 97 = .ok (.ireturn, 1) := by decide +kernel
theorem dX8_doing_98 : decode cX8_doing 98 = .ok (.aload_n 0, 1) := by decide +kernel
theorem dX8_doing_99 : decode cX8_doing 99 = .ok (.iconst 1, 1) := by decide +kernel
theorem dX8_doing_100 : decode cX8_doing 100 = .ok (.aload_n 0, 1) := by decide +kernel
theorem dX8_doing_101 : decode cX8_doing 101 = .ok (.getfield 13, 3) := by decide +kernel
theorem dX8_doing_104 : decode cX8_doing 104 = .ok (.iload_n 1, 1) := by decide +kernel
theorem dX8_doing_105 : decode cX8_doing 105 = .ok (.iaload, 1) := by decide +kernel
theorem dX8_doing_106 : decode cX8_doing 106 = .ok (.bipush (-9), 2) := by decide +kernel
theorem dX8_doing_108 : decode cX8_doing 108 = .ok (.invokevirtual 349, 3) := by decide +kernel
theorem dX8_doing_111 : decode cX8_doing 111 = .ok (.ireturn, 1) := by decide +kernel
theorem dX8_doing_112 : decode cX8_doing 112 = .ok (.aload_n 0, 1) := by decide +kernel
theorem dX8_doing_113 : decode cX8_doing 113 = .ok (.iload_n 1, 1) := by decide +kernel
theorem dX8_doing_114 : decode cX8_doing 114 = .ok (.iload_n 2, 1) := by decide +kernel
theorem dX8_doing_115 : decode cX8_doing 115 = .ok (.invokevirtual 352, 3) := by decide +kernel
theorem dX8_doing_118 : decode cX8_doing 118 = .ok (.ireturn, 1) := by decide +kernel
theorem dX8_doing_119 : decode cX8_doing 119 = .ok (.aload_n 0, 1) := by decide +kernel
theorem dX8_doing_120 : decode cX8_doing 120 = .ok (.iconst 2, 1) := by decide +kernel
theorem dX8_doing_121 : decode cX8_doing 121 = .ok (.iload_n 1, 1) := by decide +kernel
theorem dX8_doing_122 : decode cX8_doing 122 = .ok (.iload_n 2, 1) := by decide +kernel
theorem dX8_doing_123 : decode cX8_doing 123 = .ok (.invokevirtual 349, 3) := by decide +kernel
theorem dX8_doing_126 : decode cX8_doing 126 = .ok (.ireturn, 1) := by decide +kernel
theorem dX8_doing_127 : decode cX8_doing 127 = .ok (.aload_n 0, 1) := by decide +kernel
theorem dX8_doing_128 : decode cX8_doing 128 = .ok (.iload_n 3, 1) := by decide +kernel
theorem dX8_doing_129 : decode cX8_doing 129 = .ok (.iload_n 2, 1) := by decide +kernel
theorem dX8_doing_130 : decode cX8_doing 130 = .ok (.invokevirtual 355, 3) := by decide +kernel
theorem dX8_doing_133 : decode cX8_doing 133 = .ok (.istore 5, 2) := by decide +kernel
theorem dX8_doing_135 : decode cX8_doing 135 = .ok (.aload_n 0, 1) := by decide +kernel
theorem dX8_doing_136 : decode cX8_doing 136 = .ok (.iload 4, 2) := by decide +kernel
theorem dX8_doing_138 : decode cX8_doing 138 = .ok (.iload_n 2, 1) := by decide +kernel
theorem dX8_doing_139 : decode cX8_doing 139 = .ok (.invokevirtual 355, 3) := by decide +kernel
theorem dX8_doing_142 : decode cX8_doing 142 = .ok (.istore 6, 2) := by decide +kernel
theorem dX8_doing_144 : decode cX8_doing 144 = .ok (.aload_n 0, 1) := by decide +kernel
theorem dX8_doing_145 : decode cX8_doing 145 = .ok (.getfield 331, 3) := by decide +kernel
theorem dX8_doing_148 : decode cX8_doing 148 = .ok (.ifCond .ne 6, 3) := by decide +kernel
theorem dX8_doing_154 : decode cX8_doing 154 = .ok (.aload_n 0, 1) := by decide +kernel
theorem dX8_doing_155 : decode cX8_doing 155 = .ok (.getfield 103, 3) := by decide +kernel
theorem dX8_doing_158 : decode cX8_doing 158 = .ok (.iload 5, 2) := by decide +kernel
theorem dX8_doing_160 : decode cX8_doing 160 = .ok (.iaload, 1) := by decide +kernel
theorem dX8_doing_161 : decode cX8_doing 161 = .ok (.iconst 2, 1) := by decide +kernel
theorem dX8_doing_162 : decode cX8_doing 162 = .ok (.if_icmp .eq 10, 3) := by decide +kernel
theorem dX8_doing_172 : decode cX8_doing 172 = .ok (.aload_n 0, 1) := by decide +kernel
theorem dX8_doing_173 : decode cX8_doing 173 = .ok (.aload_n 0, 1) := by decide +kernel
theorem dX8_doing_174 : decode cX8_doing 174 = .ok (.getfield 19, 3) := by decide +kernel
theorem dX8_doing_177 : decode cX8_doing 177 = .ok (.bipush 6, 2) := by decide +kernel
theorem dX8_doing_179 : decode cX8_doing 179 = .ok (.aload_n 0, 1) := by decide +kernel
theorem dX8_doing_180 : decode cX8_doing 180 = .ok (.getfield 106, 3) := by decide +kernel
theorem dX8_doing_183 : decode cX8_doing 183 = .ok (.iload 5, 2) := by decide +kernel
theorem dX8_doing_185 : decode cX8_doing 185 = .ok (.iaload, 1) := by decide +kernel
theorem dX8_doing_186 : decode cX8_doing 186 = .ok (.imul, 1) := by decide +kernel
theorem dX8_doing_187 : decode cX8_doing 187 = .ok (.iaload, 1) := by decide +kernel
theorem dX8_doing_188 : decode cX8_doing 188 = .ok (.aload_n 0, 1) := by decide +kernel
theorem dX8_doing_189 : decode cX8_doing 189 = .ok (.aload_n 0, 1) := by decide +kernel
theorem dX8_doing_190 : decode cX8_doing 190 = .ok (.getfield 13, 3) := by decide +kernel
theorem dX8_doing_193 : decode cX8_doing 193 = .ok (.aload_n 0, 1) := by decide +kernel
theorem dX8_doing_194 : decode cX8_doing 194 = .ok (.getfield 106, 3) := by decide +kernel
theorem dX8_doing_197 : decode cX8_doing 197 = .ok (.iload 5, 2) := by decide +kernel
theorem dX8_doing_199 : decode cX8_doing 199 = .ok (.iaload, 1) := by decide +kernel
theorem dX8_doing_200 : decode cX8_doing 200 = .ok (.iaload, 1) := by decide +kernel
theorem dX8_doing_201 : decode cX8_doing 201 = .ok (.iload 6, 2) := by decide +kernel
theorem dX8_doing_203 : decode cX8_doing 203 = .ok (.bipush (-9), 2) := by decide +kernel
theorem dX8_doing_205 : decode cX8_doing 205 = .ok (.aload_n 0, 1) := by decide +kernel
theorem dX8_doing_206 : decode cX8_doing 206 = .ok (.getfield 109, 3) := by decide +kernel
theorem dX8_doing_209 : decode cX8_doing 209 = .ok (.iload 5, 2) := by decide +kernel
theorem dX8_doing_211 : decode cX8_doing 211 = .ok (.iaload, 1) := by decide +kernel
theorem dX8_doing_212 : decode cX8_doing 212 = .ok (.invokevirtual 358, 3) := by decide +kernel
theorem dX8_doing_215 : decode cX8_doing 215 = .ok (.invokevirtual 355, 3) := by decide +kernel
theorem dX8_doing_218 : decode cX8_doing 218 = .ok (.ireturn, 1) := by decide +kernel
theorem dX8_doing_165 : decode cX8_doing 165 = .ok (.aload_n 0, 1) := by decide +kernel
theorem dX8_doing_166 : decode cX8_doing 166 = .ok (.iconst 1, 1) := by decide +kernel
theorem dX8_doing_167 : decode cX8_doing 167 = .ok (.iload_n 1, 1) := by decide +kernel
theorem dX8_doing_168 : decode cX8_doing 168 = .ok (.invokevirtual 343, 3) := by decide +kernel
theorem dX8_doing_171 : decode cX8_doing 171 = .ok (.ireturn, 1) := by decide +kernel
theorem dX8_doing_151 : decode cX8_doing 151 = .ok (.bipush (-9), 2) := by decide +kernel
theorem dX8_doing_153 : decode cX8_doing 153 = .ok (.ireturn, 1) := by decide +kernel
theorem dX8_doing_219 : decode cX8_doing 219 = .ok (.aload_n 0, 1) := by decide +kernel
theorem dX8_doing_220 : decode cX8_doing 220 = .ok (.iconst 3, 1) := by decide +kernel
theorem dX8_doing_221 : decode cX8_doing 221 = .ok (.iload_n 1, 1) := by decide +kernel
theorem dX8_doing_222 : decode cX8_doing 222 = .ok (.aload_n 0, 1) := by decide +kernel
theorem dX8_doing_223 : decode cX8_doing 223 = .ok (.getfield 16, 3) := by decide +kernel
theorem dX8_doing_226 : decode cX8_doing 226 = .ok (.iload_n 1, 1) := by decide +kernel
theorem dX8_doing_227 : decode cX8_doing 227 = .ok (.iaload, 1) := by decide +kernel
theorem dX8_doing_228 : decode cX8_doing 228 = .ok (.invokevirtual 349, 3) := by decide +kernel
theorem dX8_doing_231 : decode cX8_doing 231 = .ok (.istore 5, 2) := by decide +kernel
theorem dX8_doing_233 : decode cX8_doing 233 = .ok (.iconst 0, 1) := by decide +kernel
theorem dX8_doing_234 : decode cX8_doing 234 = .ok (.istore 6, 2) := by decide +kernel
theorem dX8_doing_236 : decode cX8_doing 236 = .ok (.iload 6, 2) := by decide +kernel
theorem dX8_doing_238 : decode cX8_doing 238 = .ok (.aload_n 0, 1) := by decide +kernel
theorem dX8_doing_239 : decode cX8_doing 239 = .ok (.getfield 16, 3) := by decide +kernel
theorem dX8_doing_242 : decode cX8_doing 242 = .ok (.iload_n 1, 1) := by decide +kernel
theorem dX8_doing_243 : decode cX8_doing 243 = .ok (.iaload, 1) := by decide +kernel
theorem dX8_doing_244 : decode cX8_doing 244 = .ok (.if_icmp .ge 46, 3) := by decide +kernel
theorem dX8_doing_290 : decode cX8_doing 290 = .ok (.iload 5, 2) := by decide +kernel
theorem dX8_doing_292 : decode cX8_doing 292 = .ok (.ireturn, 1) := by decide +kernel
theorem dX8_doing_247 : decode cX8_doing 247 = .ok (.aload_n 0, 1) := by decide +kernel
theorem dX8_doing_248 : decode cX8_doing 248 = .ok (.getfield 331, 3) := by decide +kernel
theorem dX8_doing_251 : decode cX8_doing 251 = .ok (.ifCond .eq 39, 3) := by decide +kernel
theorem dX8_doing_254 : decode cX8_doing 254 = .ok (.aload_n 0, 1) := by decide +kernel
theorem dX8_doing_255 : decode cX8_doing 255 = .ok (.getfield 112, 3) := by decide +kernel
theorem dX8_doing_258 : decode cX8_doing 258 = .ok (.bipush 6, 2) := by decide +kernel
theorem dX8_doing_260 : decode cX8_doing 260 = .ok (.iload 5, 2) := by decide +kernel
theorem dX8_doing_262 : decode cX8_doing 262 = .ok (.imul, 1) := by decide +kernel
theorem dX8_doing_263 : decode cX8_doing 263 = .ok (.iload 6, 2) := by decide +kernel
theorem dX8_doing_265 : decode cX8_doing 265 = .ok (.iadd, 1) := by decide +kernel
theorem dX8_doing_266 : decode cX8_doing 266 = .ok (.aload_n 0, 1) := by decide +kernel
theorem dX8_doing_267 : decode cX8_doing 267 = .ok (.aload_n 0, 1) := by decide +kernel
theorem dX8_doing_268 : decode cX8_doing 268 = .ok (.getfield 19, 3) := by decide +kernel
theorem dX8_doing_271 : decode cX8_doing 271 = .ok (.bipush 6, 2) := by decide +kernel
theorem dX8_doing_273 : decode cX8_doing 273 = .ok (.iload_n 1, 1) := by decide +kernel
theorem dX8_doing_274 : decode cX8_doing 274 = .ok (.imul, 1) := by decide +kernel
theorem dX8_doing_275 : decode cX8_doing 275 = .ok (.iload 6, 2) := by decide +kernel
theorem dX8_doing_277 : decode cX8_doing 277 = .ok (.iadd, 1) := by decide +kernel
theorem dX8_doing_278 : decode cX8_doing 278 = .ok (.iaload, 1) := by decide +kernel
theorem dX8_doing_279 : decode cX8_doing 279 = .ok (.iload_n 2, 1) := by decide +kernel
theorem dX8_doing_280 : decode cX8_doing 280 = .ok (.invokevirtual 355, 3) := by decide +kernel
theorem dX8_doing_283 : decode cX8_doing 283 = .ok (.iastore, 1) := by decide +kernel
theorem dX8_doing_284 : decode cX8_doing 284 = .ok (.iinc 6 1, 3) := by decide +kernel
theorem dX8_doing_287 : decode cX8_doing 287 = .ok (.goto (-51), 3) := by decide +kernel
theorem dX8_doing_293 : decode cX8_doing 293 = .ok (.aload_n 0, 1) := by decide +kernel
theorem dX8_doing_294 : decode cX8_doing 294 = .ok (.iload_n 3, 1) := by decide +kernel
theorem dX8_doing_295 : decode cX8_doing 295 = .ok (.iload_n 2, 1) := by decide +kernel
theorem dX8_doing_296 : decode cX8_doing 296 = .ok (.invokevirtual 355, 3) := by decide +kernel
theorem dX8_doing_299 : decode cX8_doing 299 = .ok (.istore 5, 2) := by decide +kernel
theorem dX8_doing_301 : decode cX8_doing 301 = .ok (.aload_n 0, 1) := by decide +kernel
theorem dX8_doing_302 : decode cX8_doing 302 = .ok (.getfield 331, 3) := by decide +kernel
theorem dX8_doing_305 : decode cX8_doing 305 = .ok (.ifCond .eq 34, 3) := by decide +kernel
theorem dX8_doing_339 : decode cX8_doing 339 = .ok (.bipush (-9), 2) := by decide +kernel
theorem dX8_doing_341 : decode cX8_doing 341 = .ok (.istore 6, 2) := by decide +kernel
theorem dX8_doing_343 : decode cX8_doing 343 = .ok (.aload_n 0, 1) := by decide +kernel
theorem dX8_doing_344 : decode cX8_doing 344 = .ok (.getfield 331, 3) := by decide +kernel
theorem dX8_doing_347 : decode cX8_doing 347 = .ok (.ifCond .ne 8, 3) := by decide +kernel
theorem dX8_doing_350 : decode cX8_doing 350 = .ok (.bipush (-9), 2) := by decide +kernel
theorem dX8_doing_352 : decode cX8_doing 352 = .ok (.goto 32, 3) := by decide +kernel
theorem dX8_doing_384 : decode cX8_doing 384 = .ok (.ireturn, 1) := by decide +kernel
theorem dX8_doing_308 : decode cX8_doing 308 = .ok (.aload_n 0, 1) := by decide +kernel
theorem dX8_doing_309 : decode cX8_doing 309 = .ok (.getfield 103, 3) := by decide +kernel
theorem dX8_doing_312 : decode cX8_doing 312 = .ok (.iload 5, 2) := by decide +kernel
theorem dX8_doing_314 : decode cX8_doing 314 = .ok (.iaload, 1) := by decide +kernel
theorem dX8_doing_315 : decode cX8_doing 315 = .ok (.iconst 3, 1) := by decide +kernel
theorem dX8_doing_316 : decode cX8_doing 316 = .ok (.if_icmp .ne 23, 3) := by decide +kernel
theorem dX8_doing_355 : decode cX8_doing 355 = .ok (.iload 6, 2) := by decide +kernel
theorem dX8_doing_357 : decode cX8_doing 357 = .ok (.bipush (-9), 2) := by decide +kernel
theorem dX8_doing_359 : decode cX8_doing 359 = .ok (.if_icmp .ne 12, 3) := by decide +kernel
theorem dX8_doing_362 : decode cX8_doing 362 = .ok (.aload_n 0, 1) := by decide +kernel
theorem dX8_doing_363 : decode cX8_doing 363 = .ok (.iconst 1, 1) := by decide +kernel
theorem dX8_doing_364 : decode cX8_doing 364 = .ok (.iload_n 1, 1) := by decide +kernel
theorem dX8_doing_365 : decode cX8_doing 365 = .ok (.invokevirtual 343, 3) := by decide +kernel
theorem dX8_doing_368 : decode cX8_doing 368 = .ok (.goto 16, 3) := by decide +kernel
theorem dX8_doing_319 : decode cX8_doing 319 = .ok (.aload_n 0, 1) := by decide +kernel
theorem dX8_doing_320 : decode cX8_doing 320 = .ok (.aload_n 0, 1) := by decide +kernel
theorem dX8_doing_321 : decode cX8_doing 321 = .ok (.getfield 106, 3) := by decide +kernel
theorem dX8_doing_324 : decode cX8_doing 324 = .ok (.iload 5, 2) := by decide +kernel
theorem dX8_doing_326 : decode cX8_doing 326 = .ok (.iaload, 1) := by decide +kernel
theorem dX8_doing_327 : decode cX8_doing 327 = .ok (.aload_n 0, 1) := by decide +kernel
theorem dX8_doing_328 : decode cX8_doing 328 = .ok (.getfield 13, 3) := by decide +kernel
theorem dX8_doing_331 : decode cX8_doing 331 = .ok (.iload_n 1, 1) := by decide +kernel
theorem dX8_doing_332 : decode cX8_doing 332 = .ok (.iaload, 1) := by decide +kernel
theorem dX8_doing_333 : decode cX8_doing 333 = .ok (.invokevirtual 161, 3) := by decide +kernel
theorem dX8_doing_336 : decode cX8_doing 336 = .ok (.goto 5, 3) := by decide +kernel
theorem dX8_doing_371 : decode cX8_doing 371 = .ok (.aload_n 0, 1) := by decide +kernel
theorem dX8_doing_372 : decode cX8_doing 372 = .ok (.getfield 112, 3) := by decide +kernel
theorem dX8_doing_375 : decode cX8_doing 375 = .ok (.bipush 6, 2) := by decide +kernel
theorem dX8_doing_377 : decode cX8_doing 377 = .ok (.iload 5, 2) := by decide +kernel
theorem dX8_doing_379 : decode cX8_doing 379 = .ok (.imul, 1) := by decide +kernel
theorem dX8_doing_380 : decode cX8_doing 380 = .ok (.iload 6, 2) := by decide +kernel
theorem dX8_doing_382 : decode cX8_doing 382 = .ok (.iadd, 1) := by decide +kernel
theorem dX8_doing_383 : decode cX8_doing 383 = .ok (.iaload, 1) := by decide +kernel
theorem dX8_doing_385 : decode cX8_doing 385 = .ok (.aload_n 0, 1) := by decide +kernel
theorem dX8_doing_386 : decode cX8_doing 386 = .ok (.iload_n 3, 1) := by decide +kernel
theorem dX8_doing_387 : decode cX8_doing 387 = .ok (.iload_n 2, 1) := by decide +kernel
theorem dX8_doing_388 : decode cX8_doing 388 = .ok (.invokevirtual 355, 3) := by decide +kernel
theorem dX8_doing_391 : decode cX8_doing 391 = .ok (.istore 5, 2) := by decide +kernel
theorem dX8_doing_393 : decode cX8_doing 393 = .ok (.aload_n 0, 1) := by decide +kernel
theorem dX8_doing_394 : decode cX8_doing 394 = .ok (.getfield 331, 3) := by decide +kernel
theorem dX8_doing_397 : decode cX8_doing 397 = .ok (.ifCond .eq 27, 3) := by decide +kernel
theorem dX8_doing_424 : decode cX8_doing 424 = .ok (.bipush (-9), 2) := by decide +kernel
theorem dX8_doing_426 : decode cX8_doing 426 = .ok (.ireturn, 1) := by decide +kernel
theorem dX8_doing_400 : decode cX8_doing 400 = .ok (.aload_n 0, 1) := by decide +kernel
theorem dX8_doing_401 : decode cX8_doing 401 = .ok (.iload 4, 2) := by decide +kernel
theorem dX8_doing_403 : decode cX8_doing 403 = .ok (.aload_n 0, 1) := by decide +kernel
theorem dX8_doing_404 : decode cX8_doing 404 = .ok (.aload_n 0, 1) := by decide +kernel
theorem dX8_doing_405 : decode cX8_doing 405 = .ok (.getfield 13, 3) := by decide +kernel
theorem dX8_doing_408 : decode cX8_doing 408 = .ok (.iload_n 1, 1) := by decide +kernel
theorem dX8_doing_409 : decode cX8_doing 409 = .ok (.iaload, 1) := by decide +kernel
theorem dX8_doing_410 : decode cX8_doing 410 = .ok (.iload 5, 2) := by decide +kernel
theorem dX8_doing_412 : decode cX8_doing 412 = .ok (.bipush (-9), 2) := by decide +kernel
theorem dX8_doing_414 : decode cX8_doing 414 = .ok (.iload_n 2, 1) := by decide +kernel
theorem dX8_doing_415 : decode cX8_doing 415 = .ok (.invokevirtual 358, 3) := by decide +kernel
theorem dX8_doing_418 : decode cX8_doing 418 = .ok (.invokevirtual 355, 3) := by decide +kernel
theorem dX8_doing_421 : decode cX8_doing 421 = .ok (.goto 5, 3) := by decide +kernel
theorem dX8_doing_427 : decode cX8_doing 427 = .ok (.aload_n 0, 1) := by decide +kernel
theorem dX8_doing_428 : decode cX8_doing 428 = .ok (.iload 4, 2) := by decide +kernel
theorem dX8_doing_430 : decode cX8_doing 430 = .ok (.aload_n 0, 1) := by decide +kernel
theorem dX8_doing_431 : decode cX8_doing 431 = .ok (.aload_n 0, 1) := by decide +kernel
theorem dX8_doing_432 : decode cX8_doing 432 = .ok (.getfield 13, 3) := by decide +kernel
theorem dX8_doing_435 : decode cX8_doing 435 = .ok (.iload_n 1, 1) := by decide +kernel
theorem dX8_doing_436 : decode cX8_doing 436 = .ok (.iaload, 1) := by decide +kernel
theorem dX8_doing_437 : decode cX8_doing 437 = .ok (.bipush (-9), 2) := by decide +kernel
theorem dX8_doing_439 : decode cX8_doing 439 = .ok (.iload_n 1, 1) := by decide +kernel
theorem dX8_doing_440 : decode cX8_doing 440 = .ok (.iload_n 2, 1) := by decide +kernel
theorem dX8_doing_441 : decode cX8_doing 441 = .ok (.invokevirtual 358, 3) := by decide +kernel
theorem dX8_doing_444 : decode cX8_doing 444 = .ok (.invokevirtual 355, 3) := by decide +kernel
theorem dX8_doing_447 : decode cX8_doing 447 = .ok (.ireturn, 1) := by decide +kernel
theorem dX8_doing_448 : decode cX8_doing 448 = .ok (.aload_n 0, 1) := by decide +kernel
theorem dX8_doing_449 : decode cX8_doing 449 = .ok (.iload_n 3, 1) := by decide +kernel
theorem dX8_doing_450 : decode cX8_doing 450 = .ok (.iload_n 2, 1) := by decide +kernel
theorem dX8_doing_451 : decode cX8_doing 451 = .ok (.invokevirtual 355, 3) := by decide +kernel
theorem dX8_doing_454 : decode cX8_doing 454 = .ok (.istore 5, 2) := by decide +kernel
theorem dX8_doing_456 : decode cX8_doing 456 = .ok (.aload_n 0, 1) := by decide +kernel
theorem dX8_doing_457 : decode cX8_doing 457 = .ok (.getfield 331, 3) := by decide +kernel
theorem dX8_doing_460 : decode cX8_doing 460 = .ok (.ifCond .ne 6, 3) := by decide +kernel
theorem dX8_doing_466 : decode cX8_doing 466 = .ok (.aload_n 0, 1) := by decide +kernel
theorem dX8_doing_467 : decode cX8_doing 467 = .ok (.getfield 103, 3) := by decide +kernel
theorem dX8_doing_470 : decode cX8_doing 470 = .ok (.iload 5, 2) := by decide +kernel
theorem dX8_doing_472 : decode cX8_doing 472 = .ok (.iaload, 1) := by decide +kernel
theorem dX8_doing_473 : decode cX8_doing 473 = .ok (.iconst 1, 1) := by decide +kernel
theorem dX8_doing_474 : decode cX8_doing 474 = .ok (.if_icmp .eq 10, 3) := by decide +kernel
theorem dX8_doing_484 : decode cX8_doing 484 = .ok (.aload_n 0, 1) := by decide +kernel
theorem dX8_doing_485 : decode cX8_doing 485 = .ok (.aload_n 0, 1) := by decide +kernel
theorem dX8_doing_486 : decode cX8_doing 486 = .ok (.getfield 106, 3) := by decide +kernel
theorem dX8_doing_489 : decode cX8_doing 489 = .ok (.iload 5, 2) := by decide +kernel
theorem dX8_doing_491 : decode cX8_doing 491 = .ok (.iaload, 1) := by decide +kernel
theorem dX8_doing_492 : decode cX8_doing 492 = .ok (.iconst 1, 1) := by decide +kernel
theorem dX8_doing_493 : decode cX8_doing 493 = .ok (.if_icmp .ne 8, 3) := by decide +kernel
theorem dX8_doing_501 : decode cX8_doing 501 = .ok (.aload_n 0, 1) := by decide +kernel
theorem dX8_doing_502 : decode cX8_doing 502 = .ok (.getfield 19, 3) := by decide +kernel
theorem dX8_doing_505 : decode cX8_doing 505 = .ok (.bipush 6, 2) := by decide +kernel
theorem dX8_doing_507 : decode cX8_doing 507 = .ok (.iload_n 1, 1) := by decide +kernel
theorem dX8_doing_508 : decode cX8_doing 508 = .ok (.imul, 1) := by decide +kernel
theorem dX8_doing_509 : decode cX8_doing 509 = .ok (.iconst 2, 1) := by decide +kernel
theorem dX8_doing_510 : decode cX8_doing 510 = .ok (.iadd, 1) := by decide +kernel
theorem dX8_doing_511 : decode cX8_doing 511 = .ok (.iaload, 1) := by decide +kernel
theorem dX8_doing_512 : decode cX8_doing 512 = .ok (.iload_n 2, 1) := by decide +kernel
theorem dX8_doing_513 : decode cX8_doing 513 = .ok (.invokevirtual 355, 3) := by decide +kernel
theorem dX8_doing_516 : decode cX8_doing 516 = .ok (.ireturn, 1) := by decide +kernel
theorem dX8_doing_496 : decode cX8_doing 496 = .ok (.iload 4, 2) := by decide +kernel
theorem dX8_doing_498 : decode cX8_doing 498 = .ok (.goto 14, 3) := by decide +kernel
theorem dX8_doing_477 : decode cX8_doing 477 = .ok (.aload_n 0, 1) := by decide +kernel
theorem dX8_doing_478 : decode cX8_doing 478 = .ok (.iconst 1, 1) := by decide +kernel
theorem dX8_doing_479 : decode cX8_doing 479 = .ok (.iload_n 1, 1) := by decide +kernel
theorem dX8_doing_480 : decode cX8_doing 480 = .ok (.invokevirtual 343, 3) := by decide +kernel
theorem dX8_doing_483 : decode cX8_doing 483 = .ok (.ireturn, 1) := by decide +kernel
theorem dX8_doing_463 : decode cX8_doing 463 = .ok (.bipush (-9), 2) := by decide +kernel
theorem dX8_doing_465 : decode cX8_doing 465 = .ok (.ireturn, 1) := by decide +kernel
theorem dX8_doing_517 : decode cX8_doing 517 = .ok (.aload_n 0, 1) := by decide +kernel
theorem dX8_doing_518 : decode cX8_doing 518 = .ok (.iload_n 3, 1) := by decide +kernel
theorem dX8_doing_519 : decode cX8_doing 519 = .ok (.iload_n 2, 1) := by decide +kernel
theorem dX8_doing_520 : decode cX8_doing 520 = .ok (.invokevirtual 355, 3) := by decide +kernel
theorem dX8_doing_523 : decode cX8_doing 523 = .ok (.istore 5, 2) := by decide +kernel
theorem dX8_doing_525 : decode cX8_doing 525 = .ok (.aload_n 0, 1) := by decide +kernel
theorem dX8_doing_526 : decode cX8_doing 526 = .ok (.iload 4, 2) := by decide +kernel
theorem dX8_doing_528 : decode cX8_doing 528 = .ok (.iload_n 2, 1) := by decide +kernel
theorem dX8_doing_529 : decode cX8_doing 529 = .ok (.invokevirtual 355, 3) := by decide +kernel
theorem dX8_doing_532 : decode cX8_doing 532 = .ok (.istore 6, 2) := by decide +kernel
theorem dX8_doing_534 : decode cX8_doing 534 = .ok (.aload_n 0, 1) := by decide +kernel
theorem dX8_doing_535 : decode cX8_doing 535 = .ok (.getfield 331, 3) := by decide +kernel
theorem dX8_doing_538 : decode cX8_doing 538 = .ok (.ifCond .ne 6, 3) := by decide +kernel
theorem dX8_doing_544 : decode cX8_doing 544 = .ok (.aload_n 0, 1) := by decide +kernel
theorem dX8_doing_545 : decode cX8_doing 545 = .ok (.getfield 103, 3) := by decide +kernel
theorem dX8_doing_548 : decode cX8_doing 548 = .ok (.iload 5, 2) := by decide +kernel
theorem dX8_doing_550 : decode cX8_doing 550 = .ok (.iaload, 1) := by decide +kernel
theorem dX8_doing_551 : decode cX8_doing 551 = .ok (.ifCond .ne 13, 3) := by decide +kernel
theorem dX8_doing_564 : decode cX8_doing 564 = .ok (.aload_n 0, 1) := by decide +kernel
theorem dX8_doing_565 : decode cX8_doing 565 = .ok (.iconst 1, 1) := by decide +kernel
theorem dX8_doing_566 : decode cX8_doing 566 = .ok (.iload_n 1, 1) := by decide +kernel
theorem dX8_doing_567 : decode cX8_doing 567 = .ok (.invokevirtual 343, 3) := by decide +kernel
theorem dX8_doing_570 : decode cX8_doing 570 = .ok (.ireturn, 1) := by decide +kernel
theorem dX8_doing_554 : decode cX8_doing 554 = .ok (.aload_n 0, 1) := by decide +kernel
theorem dX8_doing_555 : decode cX8_doing 555 = .ok (.getfield 103, 3) := by decide +kernel
theorem dX8_doing_558 : decode cX8_doing 558 = .ok (.iload 6, 2) := by decide +kernel
theorem dX8_doing_560 : decode cX8_doing 560 = .ok (.iaload, 1) := by decide +kernel
theorem dX8_doing_561 : decode cX8_doing 561 = .ok (.ifCond .eq 10, 3) := by decide +kernel
theorem dX8_doing_571 : decode cX8_doing 571 = .ok (.aload_n 0, 1) := by decide +kernel
theorem dX8_doing_572 : decode cX8_doing 572 = .ok (.getfield 7, 3) := by decide +kernel
theorem dX8_doing_575 : decode cX8_doing 575 = .ok (.iload_n 1, 1) := by decide +kernel
theorem dX8_doing_576 : decode cX8_doing 576 = .ok (.iaload, 1) := by decide +kernel
theorem dX8_doing_577 : decode cX8_doing 577 = .ok (.bipush 10, 2) := by decide +kernel
theorem dX8_doing_579 : decode cX8_doing 579 = .ok (.if_icmp .ne 28, 3) := by decide +kernel
theorem dX8_doing_607 : decode cX8_doing 607 = .ok (.aload_n 0, 1) := by decide +kernel
theorem dX8_doing_608 : decode cX8_doing 608 = .ok (.iconst 1, 1) := by decide +kernel
theorem dX8_doing_609 : decode cX8_doing 609 = .ok (.aload_n 0, 1) := by decide +kernel
theorem dX8_doing_610 : decode cX8_doing 610 = .ok (.getfield 106, 3) := by decide +kernel
theorem dX8_doing_613 : decode cX8_doing 613 = .ok (.iload 5, 2) := by decide +kernel
theorem dX8_doing_615 : decode cX8_doing 615 = .ok (.iaload, 1) := by decide +kernel
theorem dX8_doing_616 : decode cX8_doing 616 = .ok (.aload_n 0, 1) := by decide +kernel
theorem dX8_doing_617 : decode cX8_doing 617 = .ok (.getfield 106, 3) := by decide +kernel
theorem dX8_doing_620 : decode cX8_doing 620 = .ok (.iload 6, 2) := by decide +kernel
theorem dX8_doing_622 : decode cX8_doing 622 = .ok (.iaload, 1) := by decide +kernel
theorem dX8_doing_623 : decode cX8_doing 623 = .ok (.if_icmp .ge 7, 3) := by decide +kernel
theorem dX8_doing_630 : decode cX8_doing 630 = .ok (.iconst 0, 1) := by decide +kernel
theorem dX8_doing_631 : decode cX8_doing 631 = .ok (.bipush (-9), 2) := by decide +kernel
theorem dX8_doing_633 : decode cX8_doing 633 = .ok (.invokevirtual 349, 3) := by decide +kernel
theorem dX8_doing_636 : decode cX8_doing 636 = .ok (.ireturn, 1) := by decide +kernel
theorem dX8_doing_626 : decode cX8_doing 626 = .ok (.iconst 1, 1) := by decide +kernel
theorem dX8_doing_627 : decode cX8_doing 627 = .ok (.goto 4, 3) := by decide +kernel
theorem dX8_doing_582 : decode cX8_doing 582 = .ok (.aload_n 0, 1) := by decide +kernel
theorem dX8_doing_583 : decode cX8_doing 583 = .ok (.iconst 0, 1) := by decide +kernel
theorem dX8_doing_584 : decode cX8_doing 584 = .ok (.aload_n 0, 1) := by decide +kernel
theorem dX8_doing_585 : decode cX8_doing 585 = .ok (.getfield 106, 3) := by decide +kernel
theorem dX8_doing_588 : decode cX8_doing 588 = .ok (.iload 5, 2) := by decide +kernel
theorem dX8_doing_590 : decode cX8_doing 590 = .ok (.iaload, 1) := by decide +kernel
theorem dX8_doing_591 : decode cX8_doing 591 = .ok (.aload_n 0, 1) := by decide +kernel
theorem dX8_doing_592 : decode cX8_doing 592 = .ok (.getfield 106, 3) := by decide +kernel
theorem dX8_doing_595 : decode cX8_doing 595 = .ok (.iload 6, 2) := by decide +kernel
theorem dX8_doing_597 : decode cX8_doing 597 = .ok (.iaload, 1) := by decide +kernel
theorem dX8_doing_598 : decode cX8_doing 598 = .ok (.iadd, 1) := by decide +kernel
theorem dX8_doing_599 : decode cX8_doing 599 = .ok (.bipush (-9), 2) := by decide +kernel
theorem dX8_doing_601 : decode cX8_doing 601 = .ok (.invokevirtual 349, 3) := by decide +kernel
theorem dX8_doing_604 : decode cX8_doing 604 = .ok (.goto 32, 3) := by decide +kernel
theorem dX8_doing_541 : decode cX8_doing 541 = .ok (.bipush (-9), 2) := by decide +kernel
theorem dX8_doing_543 : decode cX8_doing 543 = .ok (.ireturn, 1) := by decide +kernel

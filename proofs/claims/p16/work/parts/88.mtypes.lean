theorem dX8_types_0 : decode cX8_types 0 = .ok (.aload_n 0, 1) := by decide +kernel
theorem dX8_types_1 : decode cX8_types 1 = .ok (.getfield 19, 3) := by decide +kernel
theorem dX8_types_4 : decode cX8_types 4 = .ok (.bipush 6, 2) := by decide +kernel
theorem dX8_types_6 : decode cX8_types 6 = .ok (.iload_n 1, 1) := by decide +kernel
theorem dX8_types_7 : decode cX8_types 7 = .ok (.imul, 1) := by decide +kernel
theorem dX8_types_8 : decode cX8_types 8 = .ok (.iaload, 1) := by decide +kernel
theorem dX8_types_9 : decode cX8_types 9 = .ok (.istore_n 3, 1) := by decide +kernel
theorem dX8_types_10 : decode cX8_types 10 = .ok (.aload_n 0, 1) := by decide +kernel
theorem dX8_types_11 : decode cX8_types 11 = .ok (.getfield 19, 3) := by decide +kernel
theorem dX8_types_14 : decode cX8_types 14 = .ok (.bipush 6, 2) := by decide +kernel
theorem dX8_types_16 : decode cX8_types 16 = .ok (.iload_n 1, 1) := by decide +kernel
theorem dX8_types_17 : decode cX8_types 17 = .ok (.imul, 1) := by decide +kernel
theorem dX8_types_18 : decode cX8_types 18 = .ok (.iconst 1, 1) := by decide +kernel
theorem dX8_types_19 : decode cX8_types 19 = .ok (.iadd, 1) := by decide +kernel
theorem dX8_types_20 : decode cX8_types 20 = .ok (.iaload, 1) := by decide +kernel
theorem dX8_types_21 : decode cX8_types 21 = .ok (.istore 4, 2) := by decide +kernel
theorem dX8_types_23 : decode cX8_types 23 = .ok (.aload_n 0, 1) := by decide +kernel
theorem dX8_types_24 : decode cX8_types 24 = .ok (.getfield 7, 3) := by decide +kernel
theorem dX8_types_27 : decode cX8_types 27 = .ok (.iload_n 1, 1) := by decide +kernel
theorem dX8_types_28 : decode cX8_types 28 = .ok (.iaload, 1) := by decide +kernel
theorem dX8_types_29 : decode cX8_types 29 = .ok (.tableswitch 382 0 9 #[55, 57, 59, 66, 112, 159, 166, 221, 250, 310], 55) := by decide +kernel
theorem dX8_types_84 : decode cX8_types 84 = .ok (.iconst 0, 1) := by decide +kernel
theorem dX8_types_85 : decode cX8_types 85 = .ok (.ireturn, 1) := by decide +kernel
theorem dX8_types_86 : decode cX8_types 86 = .ok (.iconst 1, 1) := by decide +kernel
theorem dX8_types_87 : decode cX8_types 87 = .ok (.ireturn, 1) := by decide +kernel
theorem dX8_types_88 : decode cX8_types 88 = .ok (.aload_n 0, 1) := by decide +kernel
theorem dX8_types_89 : decode cX8_types 89 = .ok (.iload_n 1, 1) := by decide +kernel
theorem dX8_types_90 : decode cX8_types 90 = .ok (.iload_n 2, 1) := by decide +kernel
theorem dX8_types_91 : decode cX8_types 91 = .ok (.invokevirtual 274, 3) := by decide +kernel
theorem dX8_types_94 : decode cX8_types 94 = .ok (.ireturn, 1) := by decide +kernel
theorem dX8_types_95 : decode cX8_types 95 = .ok (.aload_n 0, 1) := by decide +kernel
theorem dX8_types_96 : decode cX8_types 96 = .ok (.iload_n 1, 1) := by decide +kernel
theorem dX8_types_97 : decode cX8_types 97 = .ok (.iload_n 2, 1) := by decide +kernel
theorem dX8_types_98 : decode cX8_types 98 = .ok (.invokevirtual 277, 3) := by decide +kernel
theorem dX8_types_101 : decode cX8_types 101 = .ok (.istore 5, 2) := by decide +kernel
theorem dX8_types_103 : decode cX8_types 103 = .ok (.aload_n 0, 1) := by decide +kernel
theorem dX8_types_104 : decode cX8_types 104 = .ok (.getfield 86, 3) := by decide +kernel
theorem dX8_types_107 : decode cX8_types 107 = .ok (.iload_n 1, 1) := by decide +kernel
theorem dX8_types_108 : decode cX8_types 108 = .ok (.iload 5, 2) := by decide +kernel
theorem dX8_types_110 : decode cX8_types 110 = .ok (.iastore, 1) := by decide +kernel
theorem dX8_types_111 : decode cX8_types 111 = .ok (.aload_n 0, 1) := by decide +kernel
theorem dX8_types_112 : decode cX8_types 112 = .ok (.getfield 89, 3) := by decide +kernel
theorem dX8_types_115 : decode cX8_types 115 = .ok (.iload_n 1, 1) := by decide +kernel
theorem dX8_types_116 : decode cX8_types 116 = .ok (.bipush (-9), 2) := by decide +kernel
theorem dX8_types_118 : decode cX8_types 118 = .ok (.iastore, 1) := by decide +kernel
theorem dX8_types_119 : decode cX8_types 119 = .ok (.aload_n 0, 1) := by decide +kernel
theorem dX8_types_120 : decode cX8_types 120 = .ok (.iload_n 3, 1) := by decide +kernel
theorem dX8_types_121 : decode cX8_types 121 = .ok (.iload_n 2, 1) := by decide +kernel
theorem dX8_types_122 : decode cX8_types 122 = .ok (.invokevirtual 280, 3) := by decide +kernel
theorem dX8_types_125 : decode cX8_types 125 = .ok (.istore 6, 2) := by decide +kernel
theorem dX8_types_127 : decode cX8_types 127 = .ok (.aload_n 0, 1) := by decide +kernel
theorem dX8_types_128 : decode cX8_types 128 = .ok (.iload_n 1, 1) := by decide +kernel
theorem dX8_types_129 : decode cX8_types 129 = .ok (.putfield 202, 3) := by decide +kernel
theorem dX8_types_132 : decode cX8_types 132 = .ok (.aload_n 0, 1) := by decide +kernel
theorem dX8_types_133 : decode cX8_types 133 = .ok (.iload 5, 2) := by decide +kernel
theorem dX8_types_135 : decode cX8_types 135 = .ok (.iload 6, 2) := by decide +kernel
theorem dX8_types_137 : decode cX8_types 137 = .ok (.invokevirtual 241, 3) := by decide +kernel
theorem dX8_types_140 : decode cX8_types 140 = .ok (.ireturn, 1) := by decide +kernel
theorem dX8_types_141 : decode cX8_types 141 = .ok (.aload_n 0, 1) := by decide +kernel
theorem dX8_types_142 : decode cX8_types 142 = .ok (.iload_n 3, 1) := by decide +kernel
theorem dX8_types_143 : decode cX8_types 143 = .ok (.iload_n 2, 1) := by decide +kernel
theorem dX8_types_144 : decode cX8_types 144 = .ok (.invokevirtual 280, 3) := by decide +kernel
theorem dX8_types_147 : decode cX8_types 147 = .ok (.istore 5, 2) := by decide +kernel
theorem dX8_types_149 : decode cX8_types 149 = .ok (.aload_n 0, 1) := by decide +kernel
theorem dX8_types_150 : decode cX8_types 150 = .ok (.iload 4, 2) := by decide +kernel
theorem dX8_types_152 : decode cX8_types 152 = .ok (.iload_n 2, 1) := by decide +kernel
theorem dX8_types_153 : decode cX8_types 153 = .ok (.invokevirtual 280, 3) := by decide +kernel
theorem dX8_types_156 : decode cX8_types 156 = .ok (.istore 6, 2) := by decide +kernel
theorem dX8_types_158 : decode cX8_types 158 = .ok (.aload_n 0, 1) := by decide +kernel
theorem dX8_types_159 : decode cX8_types 159 = .ok (.iload_n 1, 1) := by decide +kernel
theorem dX8_types_160 : decode cX8_types 160 = .ok (.iload_n 2, 1) := by decide +kernel
theorem dX8_types_161 : decode cX8_types 161 = .ok (.invokevirtual 277, 3) := by decide +kernel
theorem dX8_types_164 : decode cX8_types 164 = .ok (.istore 7, 2) := by decide +kernel
theorem dX8_types_166 : decode cX8_types 166 = .ok (.aload_n 0, 1) := by decide +kernel
theorem dX8_types_167 : decode cX8_types 167 = .ok (.iload 6, 2) := by decide +kernel
theorem dX8_types_169 : decode cX8_types 169 = .ok (.iload 7, 2) := by decide +kernel
theorem dX8_types_171 : decode cX8_types 171 = .ok (.invokevirtual 241, 3) := by decide +kernel
theorem dX8_types_174 : decode cX8_types 174 = .ok (.istore 8, 2) := by decide +kernel
theorem dX8_types_176 : decode cX8_types 176 = .ok (.aload_n 0, 1) := by decide +kernel
theorem dX8_types_177 : decode cX8_types 177 = .ok (.iload_n 1, 1) := by decide +kernel
theorem dX8_types_178 : decode cX8_types 178 = .ok (.iload 5, 2) := by decide +kernel
theorem dX8_types_180 : decode cX8_types 180 = .ok (.iload 8, 2) := by decide +kernel
theorem dX8_types_182 : decode cX8_types 182 = .ok (.invokevirtual 283, 3) := by decide +kernel
theorem dX8_types_185 : decode cX8_types 185 = .ok (.iload 7, 2) := by decide +kernel
theorem dX8_types_187 : decode cX8_types 187 = .ok (.ireturn, 1) := by decide +kernel
theorem dX8_types_188 : decode cX8_types 188 = .ok (.aload_n 0, 1) := by decide +kernel
theorem dX8_types_189 : decode cX8_types 189 = .ok (.iload_n 1, 1) := by decide +kernel
theorem dX8_types_190 : decode cX8_types 190 = .ok (.iload_n 2, 1) := by decide +kernel
theorem dX8_types_191 : decode cX8_types 191 = .ok (.invokevirtual 286, 3) := by decide +kernel
theorem dX8_types_194 : decode cX8_types 194 = .ok (.ireturn, 1) := by decide +kernel
theorem dX8_types_195 : decode cX8_types 195 = .ok (.aload_n 0, 1) := by decide +kernel
theorem dX8_types_196 : decode cX8_types 196 = .ok (.iload_n 3, 1) := by decide +kernel
theorem dX8_types_197 : decode cX8_types 197 = .ok (.iload_n 2, 1) := by decide +kernel
theorem dX8_types_198 : decode cX8_types 198 = .ok (.invokevirtual 280, 3) := by decide +kernel
theorem dX8_types_201 : decode cX8_types 201 = .ok (.istore 5, 2) := by decide +kernel
theorem dX8_types_203 : decode cX8_types 203 = .ok (.aload_n 0, 1) := by decide +kernel
theorem dX8_types_204 : decode cX8_types 204 = .ok (.iload_n 1, 1) := by decide +kernel
theorem dX8_types_205 : decode cX8_types 205 = .ok (.iload_n 2, 1) := by decide +kernel
theorem dX8_types_206 : decode cX8_types 206 = .ok (.invokevirtual 277, 3) := by decide +kernel
theorem dX8_types_209 : decode cX8_types 209 = .ok (.istore 6, 2) := by decide +kernel
theorem dX8_types_211 : decode cX8_types 211 = .ok (.aload_n 0, 1) := by decide +kernel
theorem dX8_types_212 : decode cX8_types 212 = .ok (.invokevirtual 257, 3) := by decide +kernel
theorem dX8_types_215 : decode cX8_types 215 = .ok (.istore 7, 2) := by decide +kernel
theorem dX8_types_217 : decode cX8_types 217 = .ok (.iload 7, 2) := by decide +kernel
theorem dX8_types_219 : decode cX8_types 219 = .ok (.bipush (-9), 2) := by decide +kernel
theorem dX8_types_221 : decode cX8_types 221 = .ok (.if_icmp .eq 17, 3) := by decide +kernel
theorem dX8_types_238 : decode cX8_types 238 = .ok (.aload_n 0, 1) := by decide +kernel
theorem dX8_types_239 : decode cX8_types 239 = .ok (.iload_n 1, 1) := by decide +kernel
theorem dX8_types_240 : decode cX8_types 240 = .ok (.iload 5, 2) := by decide +kernel
theorem dX8_types_242 : decode cX8_types 242 = .ok (.iload 7, 2) := by decide +kernel
theorem dX8_types_244 : decode cX8_types 244 = .ok (.invokevirtual 283, 3) := by decide +kernel
theorem dX8_types_247 : decode cX8_types 247 = .ok (.iload 6, 2) := by decide +kernel
theorem dX8_types_249 : decode cX8_types 249 = .ok (.ireturn, 1) := by decide +kernel
theorem dX8_types_224 : decode cX8_types 224 = .ok (.aload_n 0, 1) := by decide +kernel
theorem dX8_types_225 : decode cX8_types 225 = .ok (.iload 7, 2) := by decide +kernel
theorem dX8_types_227 : decode cX8_types 227 = .ok (.aload_n 0, 1) := by decide +kernel
theorem dX8_types_228 : decode cX8_types 228 = .ok (.getfield 13, 3) := by decide +kernel
theorem dX8_types_231 : decode cX8_types 231 = .ok (.iload_n 1, 1) := by decide +kernel
theorem dX8_types_232 : decode cX8_types 232 = .ok (.iaload, 1) := by decide +kernel
theorem dX8_types_233 : decode cX8_types 233 = .ok (.iload 6, 2) := by decide +kernel
theorem dX8_types_235 : decode cX8_types 235 = .ok (.invokevirtual 261, 3) := by decide +kernel
theorem dX8_types_250 : decode cX8_types 250 = .ok (.aload_n 0, 1) := by decide +kernel
theorem dX8_types_251 : decode cX8_types 251 = .ok (.getfield 86, 3) := by decide +kernel
theorem dX8_types_254 : decode cX8_types 254 = .ok (.iload_n 1, 1) := by decide +kernel
theorem dX8_types_255 : decode cX8_types 255 = .ok (.aload_n 0, 1) := by decide +kernel
theorem dX8_types_256 : decode cX8_types 256 = .ok (.iload_n 3, 1) := by decide +kernel
theorem dX8_types_257 : decode cX8_types 257 = .ok (.iload_n 2, 1) := by decide +kernel
theorem dX8_types_258 : decode cX8_types 258 = .ok (.iconst 1, 1) := by decide +kernel
theorem dX8_types_259 : decode cX8_types 259 = .ok (.iadd, 1) := by decide +kernel
theorem dX8_types_260 : decode cX8_types 260 = .ok (.invokevirtual 280, 3) := by decide +kernel
theorem dX8_types_263 : decode cX8_types 263 = .ok (.iastore, 1) := by decide +kernel
theorem dX8_types_264 : decode cX8_types 264 = .ok (.aload_n 0, 1) := by decide +kernel
theorem dX8_types_265 : decode cX8_types 265 = .ok (.getfield 89, 3) := by decide +kernel
theorem dX8_types_268 : decode cX8_types 268 = .ok (.iload_n 1, 1) := by decide +kernel
theorem dX8_types_269 : decode cX8_types 269 = .ok (.iload_n 2, 1) := by decide +kernel
theorem dX8_types_270 : decode cX8_types 270 = .ok (.iastore, 1) := by decide +kernel
theorem dX8_types_271 : decode cX8_types 271 = .ok (.aload_n 0, 1) := by decide +kernel
theorem dX8_types_272 : decode cX8_types 272 = .ok (.iload 4, 2) := by decide +kernel
theorem dX8_types_274 : decode cX8_types 274 = .ok (.iload_n 2, 1) := by decide +kernel
theorem dX8_types_275 : decode cX8_types 275 = .ok (.invokevirtual 280, 3) := by decide +kernel
theorem dX8_types_278 : decode cX8_types 278 = .ok (.ireturn, 1) := by decide +kernel
theorem dX8_types_279 : decode cX8_types 279 = .ok (.aload_n 0, 1) := by decide +kernel
theorem dX8_types_280 : decode cX8_types 280 = .ok (.iload_n 1, 1) := by decide +kernel
theorem dX8_types_281 : decode cX8_types 281 = .ok (.iload_n 2, 1) := by decide +kernel
theorem dX8_types_282 : decode cX8_types 282 = .ok (.iconst 1, 1) := by decide +kernel
theorem dX8_types_283 : decode cX8_types 283 = .ok (.iadd, 1) := by decide +kernel
theorem dX8_types_284 : decode cX8_types 284 = .ok (.invokevirtual 277, 3) := by decide +kernel
theorem dX8_types_287 : decode cX8_types 287 = .ok (.istore 5, 2) := by decide +kernel
theorem dX8_types_289 : decode cX8_types 289 = .ok (.aload_n 0, 1) := by decide +kernel
theorem dX8_types_290 : decode cX8_types 290 = .ok (.getfield 86, 3) := by decide +kernel
theorem dX8_types_293 : decode cX8_types 293 = .ok (.iload_n 1, 1) := by decide +kernel
theorem dX8_types_294 : decode cX8_types 294 = .ok (.iload 5, 2) := by decide +kernel
theorem dX8_types_296 : decode cX8_types 296 = .ok (.iastore, 1) := by decide +kernel
theorem dX8_types_297 : decode cX8_types 297 = .ok (.aload_n 0, 1) := by decide +kernel
theorem dX8_types_298 : decode cX8_types 298 = .ok (.getfield 89, 3) := by decide +kernel
theorem dX8_types_301 : decode cX8_types 301 = .ok (.iload_n 1, 1) := by decide +kernel
theorem dX8_types_302 : decode cX8_types 302 = .ok (.bipush (-9), 2) := by decide +kernel
theorem dX8_types_304 : decode cX8_types 304 = .ok (.iastore, 1) := by decide +kernel
theorem dX8_types_305 : decode cX8_types 305 = .ok (.aload_n 0, 1) := by decide +kernel
theorem dX8_types_306 : decode cX8_types 306 = .ok (.iload_n 3, 1) := by decide +kernel
theorem dX8_types_307 : decode cX8_types 307 = .ok (.iload_n 2, 1) := by decide +kernel
theorem dX8_types_308 : decode cX8_types 308 = .ok (.iconst 1, 1) := by decide +kernel
theorem dX8_types_309 : decode cX8_types 309 = .ok (.iadd, 1) := by decide +kernel
theorem dX8_types_310 : decode cX8_types 310 = .ok (.invokevirtual 280, 3) := by decide +kernel
theorem dX8_types_313 : decode cX8_types 313 = .ok (.istore 6, 2) := by decide +kernel
theorem dX8_types_315 : decode cX8_types 315 = .ok (.aload_n 0, 1) := by decide +kernel
theorem dX8_types_316 : decode cX8_types 316 = .ok (.iload_n 1, 1) := by decide +kernel
theorem dX8_types_317 : decode cX8_types 317 = .ok (.iload 6, 2) := by decide +kernel
theorem dX8_types_319 : decode cX8_types 319 = .ok (.iload 5, 2) := by decide +kernel
theorem dX8_types_321 : decode cX8_types 321 = .ok (.invokevirtual 283, 3) := by decide +kernel
theorem dX8_types_324 : decode cX8_types 324 = .ok (.aload_n 0, 1) := by decide +kernel
theorem dX8_types_325 : decode cX8_types 325 = .ok (.getfield 89, 3) := by decide +kernel
theorem dX8_types_328 : decode cX8_types 328 = .ok (.iload_n 1, 1) := by decide +kernel
theorem dX8_types_329 : decode cX8_types 329 = .ok (.iload_n 2, 1) := by decide +kernel
theorem dX8_types_330 : decode cX8_types 330 = .ok (.iastore, 1) := by decide +kernel
theorem dX8_types_331 : decode cX8_types 331 = .ok (.aload_n 0, 1) := by decide +kernel
theorem dX8_types_332 : decode cX8_types 332 = .ok (.iload 4, 2) := by decide +kernel
theorem dX8_types_334 : decode cX8_types 334 = .ok (.iload_n 2, 1) := by decide +kernel
theorem dX8_types_335 : decode cX8_types 335 = .ok (.invokevirtual 280, 3) := by decide +kernel
theorem dX8_types_338 : decode cX8_types 338 = .ok (.ireturn, 1) := by decide +kernel
theorem dX8_types_339 : decode cX8_types 339 = .ok (.aload_n 0, 1) := by decide +kernel
theorem dX8_types_340 : decode cX8_types 340 = .ok (.iload_n 3, 1) := by decide +kernel
theorem dX8_types_341 : decode cX8_types 341 = .ok (.iload_n 2, 1) := by decide +kernel
theorem dX8_types_342 : decode cX8_types 342 = .ok (.invokevirtual 280, 3) := by decide +kernel
theorem dX8_types_345 : decode cX8_types 345 = .ok (.istore 5, 2) := by decide +kernel
theorem dX8_types_347 : decode cX8_types 347 = .ok (.aload_n 0, 1) := by decide +kernel
theorem dX8_types_348 : decode cX8_types 348 = .ok (.iload_n 1, 1) := by decide +kernel
theorem dX8_types_349 : decode cX8_types 349 = .ok (.iload 5, 2) := by decide +kernel
theorem dX8_types_351 : decode cX8_types 351 = .ok (.iconst 1, 1) := by decide +kernel
theorem dX8_types_352 : decode cX8_types 352 = .ok (.invokevirtual 283, 3) := by decide +kernel
theorem dX8_types_355 : decode cX8_types 355 = .ok (.aload_n 0, 1) := by decide +kernel
theorem dX8_types_356 : decode cX8_types 356 = .ok (.iload_n 1, 1) := by decide +kernel
theorem dX8_types_357 : decode cX8_types 357 = .ok (.iload_n 2, 1) := by decide +kernel
theorem dX8_types_358 : decode cX8_types 358 = .ok (.invokevirtual 277, 3) := by decide +kernel
theorem dX8_types_361 : decode cX8_types 361 = .ok (.istore 6, 2) := by decide +kernel
theorem dX8_types_363 : decode cX8_types 363 = .ok (.aload_n 0, 1) := by decide +kernel
theorem dX8_types_364 : decode cX8_types 364 = .ok (.iload 4, 2) := by decide +kernel
theorem dX8_types_366 : decode cX8_types 366 = .ok (.iload_n 2, 1) := by decide +kernel
theorem dX8_types_367 : decode cX8_types 367 = .ok (.invokevirtual 280, 3) := by decide +kernel
theorem dX8_types_370 : decode cX8_types 370 = .ok (.istore 7, 2) := by decide +kernel
theorem dX8_types_372 : decode cX8_types 372 = .ok (.aload_n 0, 1) := by decide +kernel
theorem dX8_types_373 : decode cX8_types 373 = .ok (.iload_n 1, 1) := by decide +kernel
theorem dX8_types_374 : decode cX8_types 374 = .ok (.iload 7, 2) := by decide +kernel
theorem dX8_types_376 : decode cX8_types 376 = .ok (.iload 6, 2) := by decide +kernel
theorem dX8_types_378 : decode cX8_types 378 = .ok (.invokevirtual 283, 3) := by decide +kernel
theorem dX8_types_381 : decode cX8_types 381 = .ok (.aload_n 0, 1) := by decide +kernel
theorem dX8_types_382 : decode cX8_types 382 = .ok (.aload_n 0, 1) := by decide +kernel
theorem dX8_types_383 : decode cX8_types 383 = .ok (.getfield 19, 3) := by decide +kernel
theorem dX8_types_386 : decode cX8_types 386 = .ok (.bipush 6, 2) := by decide +kernel
theorem dX8_types_388 : decode cX8_types 388 = .ok (.iload_n 1, 1) := by decide +kernel
theorem dX8_types_389 : decode cX8_types 389 = .ok (.imul, 1) := by decide +kernel
theorem dX8_types_390 : decode cX8_types 390 = .ok (.iconst 2, 1) := by decide +kernel
theorem dX8_types_391 : decode cX8_types 391 = .ok (.iadd, 1) := by decide +kernel
theorem dX8_types_392 : decode cX8_types 392 = .ok (.iaload, 1) := by decide +kernel
theorem dX8_types_393 : decode cX8_types 393 = .ok (.iload_n 2, 1) := by decide +kernel
theorem dX8_types_394 : decode cX8_types 394 = .ok (.invokevirtual 280, 3) := by decide +kernel
theorem dX8_types_397 : decode cX8_types 397 = .ok (.istore 8, 2) := by decide +kernel
theorem dX8_types_399 : decode cX8_types 399 = .ok (.aload_n 0, 1) := by decide +kernel
theorem dX8_types_400 : decode cX8_types 400 = .ok (.iload_n 1, 1) := by decide +kernel
theorem dX8_types_401 : decode cX8_types 401 = .ok (.iload 8, 2) := by decide +kernel
theorem dX8_types_403 : decode cX8_types 403 = .ok (.iload 6, 2) := by decide +kernel
theorem dX8_types_405 : decode cX8_types 405 = .ok (.invokevirtual 283, 3) := by decide +kernel
theorem dX8_types_408 : decode cX8_types 408 = .ok (.iload 6, 2) := by decide +kernel
theorem dX8_types_410 : decode cX8_types 410 = .ok (.ireturn, 1) := by decide +kernel
theorem dX8_types_411 : decode cX8_types 411 = .ok (.aload_n 0, 1) := by decide +kernel
theorem dX8_types_412 : decode cX8_types 412 = .ok (.iload_n 3, 1) := by decide +kernel
theorem dX8_types_413 : decode cX8_types 413 = .ok (.iload_n 2, 1) := by decide +kernel
theorem dX8_types_414 : decode cX8_types 414 = .ok (.invokevirtual 280, 3) := by decide +kernel
theorem dX8_types_417 : decode cX8_types 417 = .ok (.istore 5, 2) := by decide +kernel
theorem dX8_types_419 : decode cX8_types 419 = .ok (.aload_n 0, 1) := by decide +kernel
theorem dX8_types_420 : decode cX8_types 420 = .ok (.iload_n 1, 1) := by decide +kernel
theorem dX8_types_421 : decode cX8_types 421 = .ok (.iload 5, 2) := by decide +kernel
theorem dX8_types_423 : decode cX8_types 423 = .ok (.iconst 0, 1) := by decide +kernel
theorem dX8_types_424 : decode cX8_types 424 = .ok (.invokevirtual 283, 3) := by decide +kernel
theorem dX8_types_427 : decode cX8_types 427 = .ok (.aload_n 0, 1) := by decide +kernel
theorem dX8_types_428 : decode cX8_types 428 = .ok (.iload 4, 2) := by decide +kernel
theorem dX8_types_430 : decode cX8_types 430 = .ok (.iload_n 2, 1) := by decide +kernel
theorem dX8_types_431 : decode cX8_types 431 = .ok (.invokevirtual 280, 3) := by decide +kernel
theorem dX8_types_434 : decode cX8_types 434 = .ok (.istore 6, 2) := by decide +kernel
theorem dX8_types_436 : decode cX8_types 436 = .ok (.aload_n 0, 1) := by decide +kernel
theorem dX8_types_437 : decode cX8_types 437 = .ok (.iload_n 1, 1) := by decide +kernel
theorem dX8_types_438 : decode cX8_types 438 = .ok (.iload 6, 2) := by decide +kernel
theorem dX8_types_440 : decode cX8_types 440 = .ok (.iconst 0, 1) := by decide +kernel
theorem dX8_types_441 : decode cX8_types 441 = .ok (.invokevirtual 283, 3) := by decide +kernel
theorem dX8_types_444 : decode cX8_types 444 = .ok (.aload_n 0, 1) := by decide +kernel
theorem dX8_types_445 : decode cX8_types 445 = .ok (.getfield 7, 3) := by decide +kernel
theorem dX8_types_448 : decode cX8_types 448 = .ok (.iload_n 1, 1) := by decide +kernel
theorem dX8_types_449 : decode cX8_types 449 = .ok (.iaload, 1) := by decide +kernel
theorem dX8_types_450 : decode cX8_types 450 = .ok (.bipush 10, 2) := by decide +kernel
theorem dX8_types_452 : decode cX8_types 452 = .ok (.if_icmp .ne 7, 3) := by decide +kernel
theorem dX8_types_455 : decode cX8_types 455 = .ok (.iconst 0, 1) := by decide +kernel
theorem dX8_types_456 : decode cX8_types 456 = .ok (.goto 4, 3) := by decide +kernel
theorem dX8_types_460 : decode cX8_types 460 = .ok (.ireturn, 1) := by decide +kernel
theorem dX8_types_459 : decode cX8_types 459 = .ok (.iconst 1, 1) := by decide +kernel
set_option maxHeartbeats 4000000 in
set_option maxRecDepth 100000 in
/-- types -/
theorem m_types (l : Launch) (G : mG) (hDD : mDD G) (o : Nat → Int32) (F : Nat → Nat → Int32) (fu : Nat) (tr : aM) (N : Nat) (top : Nat) (gs : Nat → Prop) (z : aS) (ix : Nat → Nat → Nat) (lf : Nat) (an : Nat) (n : Nat) (lv : Nat) (hm : Nat) (d : Nat) (ih : mTyAt fu) (hTS : TS tr N top gs z ix lf an o F) (hn : n < N) (htp : top < N) (hup : UpT tr top d n) (hC : ∀ j, Cv gs tr top j n) (hdf : d + (fu + 1) ≤ 60) (hlv : lv + (fu + 1) ≤ 60) (hh : o 39 = nI hm) (hhm : hm ≤ 100000) (hb0 : bnd (ty tr top (fu + 1) z n lv).1 ≤ 200000) (han : an + cntT tr ((fu + 1)) n ≤ 1000000) (hh2 : hm + 6 * (fu + 1) + 720 ≤ 8000) (hd : o 34 = nI (60 - fu)) (hfu : fu < 60) (h0 : sto z = 0) (sz : Nat) : Met l yX8_types (wU yX8_types cX8_types 9 (some .int)) { frames := 3 * fu + 322, cells := 0, slots := 0, locals := 80 * fu + 9147 } (mPc G o F sz [.ref (mh G), .int (nI n), .int (nI lv)]) (mQi G sz (fun r u => (∃ ix' lf' an' gs', TW tr N top gs z ix an gs' (ty tr top (fu + 1) z n lv).1 ix' lf' an' (cntT tr (fu + 1) n) (fu + 1 + 60) o F u) ∧ (sto (ty tr top (fu + 1) z n lv).1 = 0 → r = nI (ty tr top (fu + 1) z n lv).2 ∧ (ty tr top (fu + 1) z n lv).2 < nT (ty tr top (fu + 1) z n lv).1))) 0 0 (mA G sz) := by
  refine Met.ofW (cc := cX8_types) (maxL := 9) (ret := (some .int)) (by decide) rfl ?_
  intro p e s m args below meth c s₁ B hml hv
  obtain ⟨rfl, hsz, hP, hK⟩ := hv
  have hx := B.exec
  have hb := B.bytes
  have hr := B.returns
  have htu : ∀ w ∈ WU, w.before _ s = true := fun w h => atoms_spec (ws := (wU yX8_types cX8_types 9 (some .int))) B.pre w (List.mem_cons_of_mem _ h)
  have hown : s.vm.findClass RX8 = some m.cls := findClass_of_methodNamed B.named
  have hlocks := B.notSynchronized
  subst hsz
  have hS : va_S (mA G s.heap.size) s.heap s.heap [] := va_S.rf
  have hl := lv_entry ([.ref (mh G), .int (nI n), .int (nI lv)]) (n := 9) (Nat.le_of_ble_eq_true rfl)
  rw [lg_entry_eq]
  generalize (lg_sl ([.ref (mh G), .int (nI n), .int (nI lv)]) ++ List.replicate (9 - (lg_sl ([.ref (mh G), .int (nI n), .int (nI lv)])).length) Slot.unset).toArray = ls at hl ⊢
  have hl : lv_has ls 9 [(0, .ref (mh G)), (1, .int (nI n)), (2, .int (nI lv))] := hl
  obtain ⟨H, hHe⟩ : ∃ H : Heap, H = s.heap := ⟨_, rfl⟩
  rw [← hHe] at hP
  have hS : va_S (mA G s.heap.size) s.heap H [] := by rw [hHe]; exact va_S.rf
  refine W.heq hHe ?_
  have hTS2 := hTS
  obtain ⟨hR, hT, hG, ⟨hM0, hl0, hlf⟩, ⟨hN0, hn0⟩, hu0, hd0, ha0, htop⟩ := hTS2
  obtain ⟨b1, b2, b3, b4, b5, b6, b7, b8⟩ := hR.2.1
  have hkd9 := (hT.2.2 n hn).2.1
  have hN := hT.2.1
  rcases (show tr 0 n = 0 ∨ tr 0 n = 1 ∨ tr 0 n = 2 ∨ tr 0 n = 3 ∨ tr 0 n = 4 ∨ tr 0 n = 5 ∨ tr 0 n = 6 ∨ tr 0 n = 7 ∨ tr 0 n = 8 ∨ tr 0 n = 9 ∨ tr 0 n = 10 ∨ tr 0 n = 11 by omega) with hkd | hkd | hkd | hkd | hkd | hkd | hkd | hkd | hkd | hkd | hkd | hkd
  · skip
    have pe : prts (tr 0 n) (tr 2 n) = 0 := by rw [hkd]; rfl
    have T := TW.rf (k := fu + 1 + 60) hTS
    have ce := ty_0 (tr := tr) (top := top) (k := fu) (n := n) (l := lv) h0 hkd
    refine lv_aload_n hx hb dX8_types_0 rfl (lv_at hl 0 rfl) ?_
    refine m_get (v := .ref (md G 4)) hx hb htu wu_in hown hK hP 4 (by decide) (htu _ U_6) rfl rfl dX8_types_1 ?_
    refine lv_bipush (v := 6) hx hb dX8_types_4 (by decide) ?_
    refine lv_iload_n hx hb dX8_types_6 rfl (lv_at hl 1 rfl) ?_
    refine lv_imul hx hb dX8_types_7 ?_
    refine m_top (y := nI (6 * n)) (pk_mul 6 n) ?_
    refine m_ald (j := 6 * n) (v := F 4 (6 * n)) hx hb hK hP 4 4 rfl (by omega) (by decide) rfl dX8_types_8 ?_
    refine lv_istore_n (lv' := [(3, .int (F 4 (6 * n))), (0, .ref (mh G)), (1, .int (nI n)), (2, .int (nI lv))]) hx hb dX8_types_9 rfl hl (by decide) rfl (fun ls hl => ?_)
    refine lv_aload_n hx hb dX8_types_10 rfl (lv_at hl 1 rfl) ?_
    refine m_get (v := .ref (md G 4)) hx hb htu wu_in hown hK hP 4 (by decide) (htu _ U_6) rfl rfl dX8_types_11 ?_
    refine lv_bipush (v := 6) hx hb dX8_types_14 (by decide) ?_
    refine lv_iload_n hx hb dX8_types_16 rfl (lv_at hl 2 rfl) ?_
    refine lv_imul hx hb dX8_types_17 ?_
    refine m_top (y := nI (6 * n)) (pk_mul 6 n) ?_
    refine lv_iconst (v := 1) hx hb dX8_types_18 (by decide) ?_
    refine lv_iadd hx hb dX8_types_19 ?_
    refine m_top (y := nI (6 * n + 1)) (nI_add (6 * n) 1) ?_
    refine m_ald (j := 6 * n + 1) (v := F 4 (6 * n + 1)) hx hb hK hP 4 4 rfl (by omega) (by decide) rfl dX8_types_20 ?_
    refine lv_istore (lv' := [(4, .int (F 4 (6 * n + 1))), (3, .int (F 4 (6 * n))), (0, .ref (mh G)), (1, .int (nI n)), (2, .int (nI lv))]) hx hb dX8_types_21 hl (by decide) rfl (fun ls hl => ?_)
    refine lv_aload_n hx hb dX8_types_23 rfl (lv_at hl 2 rfl) ?_
    refine m_get (v := .ref (md G 1)) hx hb htu wu_in hown hK hP 1 (by decide) (htu _ U_2) rfl rfl dX8_types_24 ?_
    refine lv_iload_n hx hb dX8_types_27 rfl (lv_at hl 3 rfl) ?_
    refine m_ald (j := n) (v := 0) hx hb hK hP 1 1 rfl (by omega) (by decide) ((hT.2.2 n hn).1.trans (congrArg nI hkd)) dX8_types_28 ?_
    refine lv_tableIn (tgt := 84) hx hb dX8_types_29 (by decide) (by decide) (by rfl) (by decide) ?_
    refine lv_iconst (v := 0) hx hb dX8_types_84 (by decide) ?_
    exact m_iret (v := 0) hx hb hr hK hP hS (by rw [ce]; exact ⟨⟨ix, lf, an, gs, T.wk (by omega) (Nat.le_refl _)⟩, fun _ => ⟨rfl, by show 0 < nT z; omega⟩⟩) dX8_types_85 hlocks
  · skip
    have pe : prts (tr 0 n) (tr 2 n) = 0 := by rw [hkd]; rfl
    have T := TW.rf (k := fu + 1 + 60) hTS
    have ce := ty_1 (tr := tr) (top := top) (k := fu) (n := n) (l := lv) h0 hkd
    refine lv_aload_n hx hb dX8_types_0 rfl (lv_at hl 0 rfl) ?_
    refine m_get (v := .ref (md G 4)) hx hb htu wu_in hown hK hP 4 (by decide) (htu _ U_6) rfl rfl dX8_types_1 ?_
    refine lv_bipush (v := 6) hx hb dX8_types_4 (by decide) ?_
    refine lv_iload_n hx hb dX8_types_6 rfl (lv_at hl 1 rfl) ?_
    refine lv_imul hx hb dX8_types_7 ?_
    refine m_top (y := nI (6 * n)) (pk_mul 6 n) ?_
    refine m_ald (j := 6 * n) (v := F 4 (6 * n)) hx hb hK hP 4 4 rfl (by omega) (by decide) rfl dX8_types_8 ?_
    refine lv_istore_n (lv' := [(3, .int (F 4 (6 * n))), (0, .ref (mh G)), (1, .int (nI n)), (2, .int (nI lv))]) hx hb dX8_types_9 rfl hl (by decide) rfl (fun ls hl => ?_)
    refine lv_aload_n hx hb dX8_types_10 rfl (lv_at hl 1 rfl) ?_
    refine m_get (v := .ref (md G 4)) hx hb htu wu_in hown hK hP 4 (by decide) (htu _ U_6) rfl rfl dX8_types_11 ?_
    refine lv_bipush (v := 6) hx hb dX8_types_14 (by decide) ?_
    refine lv_iload_n hx hb dX8_types_16 rfl (lv_at hl 2 rfl) ?_
    refine lv_imul hx hb dX8_types_17 ?_
    refine m_top (y := nI (6 * n)) (pk_mul 6 n) ?_
    refine lv_iconst (v := 1) hx hb dX8_types_18 (by decide) ?_
    refine lv_iadd hx hb dX8_types_19 ?_
    refine m_top (y := nI (6 * n + 1)) (nI_add (6 * n) 1) ?_
    refine m_ald (j := 6 * n + 1) (v := F 4 (6 * n + 1)) hx hb hK hP 4 4 rfl (by omega) (by decide) rfl dX8_types_20 ?_
    refine lv_istore (lv' := [(4, .int (F 4 (6 * n + 1))), (3, .int (F 4 (6 * n))), (0, .ref (mh G)), (1, .int (nI n)), (2, .int (nI lv))]) hx hb dX8_types_21 hl (by decide) rfl (fun ls hl => ?_)
    refine lv_aload_n hx hb dX8_types_23 rfl (lv_at hl 2 rfl) ?_
    refine m_get (v := .ref (md G 1)) hx hb htu wu_in hown hK hP 1 (by decide) (htu _ U_2) rfl rfl dX8_types_24 ?_
    refine lv_iload_n hx hb dX8_types_27 rfl (lv_at hl 3 rfl) ?_
    refine m_ald (j := n) (v := 1) hx hb hK hP 1 1 rfl (by omega) (by decide) ((hT.2.2 n hn).1.trans (congrArg nI hkd)) dX8_types_28 ?_
    refine lv_tableIn (tgt := 86) hx hb dX8_types_29 (by decide) (by decide) (by rfl) (by decide) ?_
    refine lv_iconst (v := 1) hx hb dX8_types_86 (by decide) ?_
    exact m_iret (v := 1) hx hb hr hK hP hS (by rw [ce]; exact ⟨⟨ix, lf, an, gs, T.wk (by omega) (Nat.le_refl _)⟩, fun _ => ⟨rfl, by show 1 < nT z; omega⟩⟩) dX8_types_87 hlocks
  · skip
    have pe : prts (tr 0 n) (tr 2 n) = 0 := by rw [hkd]; rfl
    have T := TW.rf (k := fu + 1 + 60) hTS
    have ce := ty_2 (tr := tr) (top := top) (k := fu) (n := n) (l := lv) h0 hkd
    refine lv_aload_n hx hb dX8_types_0 rfl (lv_at hl 0 rfl) ?_
    refine m_get (v := .ref (md G 4)) hx hb htu wu_in hown hK hP 4 (by decide) (htu _ U_6) rfl rfl dX8_types_1 ?_
    refine lv_bipush (v := 6) hx hb dX8_types_4 (by decide) ?_
    refine lv_iload_n hx hb dX8_types_6 rfl (lv_at hl 1 rfl) ?_
    refine lv_imul hx hb dX8_types_7 ?_
    refine m_top (y := nI (6 * n)) (pk_mul 6 n) ?_
    refine m_ald (j := 6 * n) (v := F 4 (6 * n)) hx hb hK hP 4 4 rfl (by omega) (by decide) rfl dX8_types_8 ?_
    refine lv_istore_n (lv' := [(3, .int (F 4 (6 * n))), (0, .ref (mh G)), (1, .int (nI n)), (2, .int (nI lv))]) hx hb dX8_types_9 rfl hl (by decide) rfl (fun ls hl => ?_)
    refine lv_aload_n hx hb dX8_types_10 rfl (lv_at hl 1 rfl) ?_
    refine m_get (v := .ref (md G 4)) hx hb htu wu_in hown hK hP 4 (by decide) (htu _ U_6) rfl rfl dX8_types_11 ?_
    refine lv_bipush (v := 6) hx hb dX8_types_14 (by decide) ?_
    refine lv_iload_n hx hb dX8_types_16 rfl (lv_at hl 2 rfl) ?_
    refine lv_imul hx hb dX8_types_17 ?_
    refine m_top (y := nI (6 * n)) (pk_mul 6 n) ?_
    refine lv_iconst (v := 1) hx hb dX8_types_18 (by decide) ?_
    refine lv_iadd hx hb dX8_types_19 ?_
    refine m_top (y := nI (6 * n + 1)) (nI_add (6 * n) 1) ?_
    refine m_ald (j := 6 * n + 1) (v := F 4 (6 * n + 1)) hx hb hK hP 4 4 rfl (by omega) (by decide) rfl dX8_types_20 ?_
    refine lv_istore (lv' := [(4, .int (F 4 (6 * n + 1))), (3, .int (F 4 (6 * n))), (0, .ref (mh G)), (1, .int (nI n)), (2, .int (nI lv))]) hx hb dX8_types_21 hl (by decide) rfl (fun ls hl => ?_)
    refine lv_aload_n hx hb dX8_types_23 rfl (lv_at hl 2 rfl) ?_
    refine m_get (v := .ref (md G 1)) hx hb htu wu_in hown hK hP 1 (by decide) (htu _ U_2) rfl rfl dX8_types_24 ?_
    refine lv_iload_n hx hb dX8_types_27 rfl (lv_at hl 3 rfl) ?_
    refine m_ald (j := n) (v := 2) hx hb hK hP 1 1 rfl (by omega) (by decide) ((hT.2.2 n hn).1.trans (congrArg nI hkd)) dX8_types_28 ?_
    refine lv_tableIn (tgt := 88) hx hb dX8_types_29 (by decide) (by decide) (by rfl) (by decide) ?_
    refine lv_aload_n hx hb dX8_types_88 rfl (lv_at hl 2 rfl) ?_
    refine lv_iload_n hx hb dX8_types_89 rfl (lv_at hl 3 rfl) ?_
    refine lv_iload_n hx hb dX8_types_90 rfl (lv_at hl 4 rfl) ?_
    refine m_ci (m_runV (As := [.int (nI n), .int (nI lv)]) (rest := []) ⟨hx, hb, hml, hown, htu⟩ (m_typeOfName l G hDD o F tr N top gs z ix lf an (fu + 1 + 60) n lv hm d hTS hn htp hup ((by omega)) hkd hC ((by omega)) hh hhm ((by omega)) ((by omega)) ((by rw [← ce]; exact hb0)) h0 ((by omega)) H.size) (cwV 2 htu gU_X8_typeOfName rfl rfl rfl (by decide +kernel) ⟨show 188 + 1 ≤ 3 * fu + 322 by omega, show 8 + (4 + 11) + 5168 ≤ 80 * fu + 9147 by omega⟩) hP hK rfl hl.1 rfl (lv_room (Nat.le_of_ble_eq_true rfl)) dX8_types_91) hS (fun r_1 o_2 F_3 H locs hw_4 hP hS => ?_)
    try dsimp only at hw_4
    exact m_iret (v := r_1) hx hb hr hK hP hS (by rw [ce]; obtain ⟨⟨ix2, an2, h2⟩, h3⟩ := hw_4; exact ⟨⟨ix2, lf, an2, gs, h2.wk cnt_pos (Nat.le_refl _)⟩, h3⟩) dX8_types_94 hlocks
  · skip
    have pe : prts (tr 0 n) (tr 2 n) = 1 := by rw [hkd]; rfl
    have pf0 := (hT.2.2 n hn).2.2.2.2.2.2.1 0 (by rw [pe]; decide)
    have cc := cnt_1 (k := fu) (n := n) (m := 0) pe
    rw [cc] at han
    have cp0 : 1 ≤ cntT tr fu (tr 10 n) := cnt_pos
    have T := TW.rf (k := fu + 1 + 60) hTS
    obtain ⟨Y1, Y2, Y3, Y4, Y5, e1, e2, e3, e4, e5, ce⟩ := ty_3 (tr := tr) (top := top) (k := fu) (n := n) (l := lv) h0 hkd
    rw [ce] at hb0
    have hb5 : bnd Y5.1 ≤ 200000 := hb0
    have hb4 : bnd Y4 ≤ 200000 := (by rw [e5, b_mkA] at hb5; exact hb5)
    have hb3 : bnd Y3.1 ≤ 200000 := (by rw [e4, b_w1 _ _ _ _ (by omega)] at hb4; exact hb4)
    refine lv_aload_n hx hb dX8_types_0 rfl (lv_at hl 0 rfl) ?_
    refine m_get (v := .ref (md G 4)) hx hb htu wu_in hown hK hP 4 (by decide) (htu _ U_6) rfl rfl dX8_types_1 ?_
    refine lv_bipush (v := 6) hx hb dX8_types_4 (by decide) ?_
    refine lv_iload_n hx hb dX8_types_6 rfl (lv_at hl 1 rfl) ?_
    refine lv_imul hx hb dX8_types_7 ?_
    refine m_top (y := nI (6 * n)) (pk_mul 6 n) ?_
    refine m_ald (j := 6 * n) (v := nI (tr 10 n)) hx hb hK hP 4 4 rfl (by omega) (by decide) (show F 4 (6 * n) = _ from pf0.1) dX8_types_8 ?_
    refine lv_istore_n (lv' := [(3, .int (nI (tr 10 n))), (0, .ref (mh G)), (1, .int (nI n)), (2, .int (nI lv))]) hx hb dX8_types_9 rfl hl (by decide) rfl (fun ls hl => ?_)
    refine lv_aload_n hx hb dX8_types_10 rfl (lv_at hl 1 rfl) ?_
    refine m_get (v := .ref (md G 4)) hx hb htu wu_in hown hK hP 4 (by decide) (htu _ U_6) rfl rfl dX8_types_11 ?_
    refine lv_bipush (v := 6) hx hb dX8_types_14 (by decide) ?_
    refine lv_iload_n hx hb dX8_types_16 rfl (lv_at hl 2 rfl) ?_
    refine lv_imul hx hb dX8_types_17 ?_
    refine m_top (y := nI (6 * n)) (pk_mul 6 n) ?_
    refine lv_iconst (v := 1) hx hb dX8_types_18 (by decide) ?_
    refine lv_iadd hx hb dX8_types_19 ?_
    refine m_top (y := nI (6 * n + 1)) (nI_add (6 * n) 1) ?_
    refine m_ald (j := 6 * n + 1) (v := F 4 (6 * n + 1)) hx hb hK hP 4 4 rfl (by omega) (by decide) rfl dX8_types_20 ?_
    refine lv_istore (lv' := [(4, .int (F 4 (6 * n + 1))), (3, .int (nI (tr 10 n))), (0, .ref (mh G)), (1, .int (nI n)), (2, .int (nI lv))]) hx hb dX8_types_21 hl (by decide) rfl (fun ls hl => ?_)
    refine lv_aload_n hx hb dX8_types_23 rfl (lv_at hl 2 rfl) ?_
    refine m_get (v := .ref (md G 1)) hx hb htu wu_in hown hK hP 1 (by decide) (htu _ U_2) rfl rfl dX8_types_24 ?_
    refine lv_iload_n hx hb dX8_types_27 rfl (lv_at hl 3 rfl) ?_
    refine m_ald (j := n) (v := 3) hx hb hK hP 1 1 rfl (by omega) (by decide) ((hT.2.2 n hn).1.trans (congrArg nI hkd)) dX8_types_28 ?_
    refine lv_tableIn (tgt := 95) hx hb dX8_types_29 (by decide) (by decide) (by rfl) (by decide) ?_
    refine lv_aload_n hx hb dX8_types_95 rfl (lv_at hl 2 rfl) ?_
    refine lv_iload_n hx hb dX8_types_96 rfl (lv_at hl 3 rfl) ?_
    refine lv_iload_n hx hb dX8_types_97 rfl (lv_at hl 4 rfl) ?_
    refine m_ci (m_runV (As := [.int (nI n), .int (nI lv)]) (rest := []) ⟨hx, hb, hml, hown, htu⟩ (m_fresh l G hDD o F tr N top gs z ix lf an (fu + 1 + 60) n lv T.1 ((by omega)) ((by omega)) H.size) (cwV 2 htu gU_X8_fresh rfl rfl rfl (by decide +kernel) ⟨show 3 + 1 ≤ 3 * fu + 322 by omega, show 8 + (3 + 11) + 67 ≤ 80 * fu + 9147 by omega⟩) hP hK rfl hl.1 rfl (lv_room (Nat.le_of_ble_eq_true rfl)) dX8_types_98) hS (fun r_5 o_6 F_7 H locs hw_8 hP hS => ?_)
    try dsimp only at hw_8
    obtain ⟨X1, w1⟩ := hw_8
    rw [← e1] at X1 w1
    have bb : sto Y1.1 = 0 → sto z = 0 := X1.2.2.2.2.2.2.2.2
    have xx : nT z ≤ nT Y1.1 := X1.2.2.2.2.2.2.2.1.1
    have T := T.tr X1 hR
    refine lv_istore (lv' := [(5, .int r_5), (4, .int (F 4 (6 * n + 1))), (3, .int (nI (tr 10 n))), (0, .ref (mh G)), (1, .int (nI n)), (2, .int (nI lv))]) hx hb dX8_types_101 hl (by decide) rfl (fun ls hl => ?_)
    refine lv_aload_n hx hb dX8_types_103 rfl (lv_at hl 3 rfl) ?_
    refine m_get (v := .ref (md G 43)) hx hb htu wu_in hown hK hP 43 (by decide) (htu _ U_92) rfl rfl dX8_types_104 ?_
    refine lv_iload_n hx hb dX8_types_107 rfl (lv_at hl 4 rfl) ?_
    refine lv_iload hx hb dX8_types_108 (lv_at hl 0 rfl) ?_
    refine m_ast (j := n) (x := r_5) hx hb hK hP hDD hS 26 43 rfl (by omega) (by decide) (mW_a43 _ _ _ _ _) dX8_types_110 (fun H locs hP hS => ?_)
    refine lv_aload_n hx hb dX8_types_111 rfl (lv_at hl 3 rfl) ?_
    refine m_get (v := .ref (md G 44)) hx hb htu wu_in hown hK hP 44 (by decide) (htu _ U_93) rfl rfl dX8_types_112 ?_
    refine lv_iload_n hx hb dX8_types_115 rfl (lv_at hl 4 rfl) ?_
    refine lv_bipush (v := (-9)) hx hb dX8_types_116 (by decide) ?_
    refine m_ast (j := n) (x := (-9)) hx hb hK hP hDD hS 27 44 rfl (by omega) (by decide) (mW_a44 _ _ _ _ _) dX8_types_118 (fun H locs hP hS => ?_)
    have X2 := TW.give (k := fu + 1 + 60) (n := n) (t := Y1.2) (sch := 0) (x := r_5) (y := (-9)) T.1 (fun h => w1 h) rfl (by omega)
    rw [← e2] at X2
    have bb : sto Y2 = 0 → sto Y1.1 = 0 := X2.2.2.2.2.2.2.2.2
    have xx : nT Y1.1 ≤ nT Y2 := X2.2.2.2.2.2.2.2.1.1
    have w1 := fun h => (⟨(w1 (bb h)).1, Nat.lt_of_lt_of_le (w1 (bb h)).2 xx⟩ : _ ∧ _ < nT Y2)
    have T := T.tr X2 hR
    obtain ⟨hmv, hhv, hev, hxv⟩ := T.2.2.2.2.1.at hh (by omega)
    refine lv_aload_n hx hb dX8_types_119 rfl (lv_at hl 3 rfl) ?_
    refine lv_iload_n hx hb dX8_types_120 rfl (lv_at hl 2 rfl) ?_
    refine lv_iload_n hx hb dX8_types_121 rfl (lv_at hl 5 rfl) ?_
    refine m_ci (m_runV (As := [.int (nI (tr 10 n)), .int (nI lv)]) (rest := []) ⟨hx, hb, hml, hown, htu⟩ (ih l G hDD o_6 (fput (fput F_7 43 n r_5) 44 n ((-9))) tr N top ((fun q => q = n ∨ gs q)) Y2 ix lf an (tr 10 n) lv hmv (d + 1) T.1 pf0.2.1 htp ((hup.up pf0.2.2)) ((Cv.part hC pf0.2.2 (fun q h => T.2.2.2.1 q h) (fun _ => Or.inl rfl))) ((by omega)) ((by omega)) hhv ((by omega)) ((by rw [← e3]; exact hb3)) ((by have := T.2.2.1; omega)) ((fun h => by have := hev h; omega)) ((T.2.2.2.2.2.1.trans hd)) ((by omega)) H.size) (cwV 2 htu gU_X8_typing rfl rfl rfl (by decide +kernel) ⟨show (3 * fu + 320) + 1 ≤ 3 * fu + 322 by omega, show 8 + (4 + 11) + (80 * fu + 9100) ≤ 80 * fu + 9147 by omega⟩) hP hK rfl hl.1 rfl (lv_room (Nat.le_of_ble_eq_true rfl)) dX8_types_122) hS (fun r_9 o_10 F_11 H locs hw_12 hP hS => ?_)
    try dsimp only at hw_12
    obtain ⟨⟨ix3, lf3, an3, gs3, X3⟩, w3⟩ := hw_12
    rw [← e3] at X3 w3
    have X3 := X3.wk (Nat.le_refl _) (show fu + 60 ≤ fu + 1 + 60 by omega)
    have gq3 := X3.2.2.2.1 n (Or.inl rfl)
    have bb : sto Y3.1 = 0 → sto Y2 = 0 := X3.2.2.2.2.2.2.2.2
    have xx : nT Y2 ≤ nT Y3.1 := X3.2.2.2.2.2.2.2.1.1
    have w1 := fun h => (⟨(w1 (bb h)).1, Nat.lt_of_lt_of_le (w1 (bb h)).2 xx⟩ : _ ∧ _ < nT Y3.1)
    have T := T.tr X3 hR
    refine lv_istore (lv' := [(6, .int r_9), (5, .int r_5), (4, .int (F 4 (6 * n + 1))), (3, .int (nI (tr 10 n))), (0, .ref (mh G)), (1, .int (nI n)), (2, .int (nI lv))]) hx hb dX8_types_125 hl (by decide) rfl (fun ls hl => ?_)
    refine lv_aload_n hx hb dX8_types_127 rfl (lv_at hl 4 rfl) ?_
    refine lv_iload_n hx hb dX8_types_128 rfl (lv_at hl 5 rfl) ?_
    refine m_put (ty := .int) (x := nI n) hx hb htu wu_in hown hK hP hDD hS 25 (by decide) (htu _ U_61) rfl rfl (by decide +kernel) rfl rfl (mO_s25 _ _ _) dX8_types_129 (fun H locs hP hS => ?_)
    have X4 := TW.ask (k := fu + 1 + 60) (n := n) T.1 (by omega)
    rw [← e4] at X4
    have bb : sto Y4 = 0 → sto Y3.1 = 0 := X4.2.2.2.2.2.2.2.2
    have xx : nT Y3.1 ≤ nT Y4 := X4.2.2.2.2.2.2.2.1.1
    have w1 := fun h => (⟨(w1 (bb h)).1, Nat.lt_of_lt_of_le (w1 (bb h)).2 xx⟩ : _ ∧ _ < nT Y4)
    have w3 := fun h => (⟨(w3 (bb h)).1, Nat.lt_of_lt_of_le (w3 (bb h)).2 xx⟩ : _ ∧ _ < nT Y4)
    have T := T.tr X4 hR
    refine lv_aload_n hx hb dX8_types_132 rfl (lv_at hl 4 rfl) ?_
    refine lv_iload hx hb dX8_types_133 (lv_at hl 1 rfl) ?_
    refine lv_iload hx hb dX8_types_135 (lv_at hl 0 rfl) ?_
    refine m_ci (m_runV (As := [.int r_5, .int r_9]) (rest := []) ⟨hx, hb, hml, hown, htu⟩ (m_arrow l G hDD (upd o_10 25 (nI n)) F_11 Y4 ix3 Y1.2 Y3.2 r_5 r_9 T.1.1 ((fun h => ⟨(w1 h).1, (w3 h).1, (w1 h).2, (w3 h).2⟩)) H.size) (cwV 2 htu gU_X8_arrow rfl rfl rfl (by decide +kernel) ⟨show 2 + 1 ≤ 3 * fu + 322 by omega, show 8 + (4 + 11) + 44 ≤ 80 * fu + 9147 by omega⟩) hP hK rfl hl.1 rfl (lv_room (Nat.le_of_ble_eq_true rfl)) dX8_types_137) hS (fun r_13 o_14 F_15 H locs hw_16 hP hS => ?_)
    try dsimp only at hw_16
    rw [← e5] at hw_16
    have w5 := hw_16.1
    have X5 := TW.leaf (k := fu + 1 + 60) T.1 hw_16.2.1 Px.rf hw_16.2.2 (by decide) (by rw [e5]; exact x_mkA _ _ _) (by rw [e5]; exact k_mkA _ _ _) (by rw [e5]; exact mkA_sto)
    have bb : sto Y5.1 = 0 → sto Y4 = 0 := X5.2.2.2.2.2.2.2.2
    have xx : nT Y4 ≤ nT Y5.1 := X5.2.2.2.2.2.2.2.1.1
    have w1 := fun h => (⟨(w1 (bb h)).1, Nat.lt_of_lt_of_le (w1 (bb h)).2 xx⟩ : _ ∧ _ < nT Y5.1)
    have w3 := fun h => (⟨(w3 (bb h)).1, Nat.lt_of_lt_of_le (w3 (bb h)).2 xx⟩ : _ ∧ _ < nT Y5.1)
    have T := T.tr X5 hR
    exact m_iret (v := r_13) hx hb hr hK hP hS (by rw [ce]; exact ⟨⟨_, _, _, _, T.wk (by rw [cc]; omega) (Nat.le_refl _)⟩, (fun h => w5 h)⟩) dX8_types_140 hlocks
  · skip
    have pe : prts (tr 0 n) (tr 2 n) = 2 := by rw [hkd]; rfl
    have pf0 := (hT.2.2 n hn).2.2.2.2.2.2.1 0 (by rw [pe]; decide)
    have pf1 := (hT.2.2 n hn).2.2.2.2.2.2.1 1 (by rw [pe]; decide)
    have cc := cnt_2 (k := fu) (n := n) pe
    rw [cc] at han
    have cp0 : 1 ≤ cntT tr fu (tr 10 n) := cnt_pos
    have cp1 : 1 ≤ cntT tr fu (tr 11 n) := cnt_pos
    have T := TW.rf (k := fu + 1 + 60) hTS
    obtain ⟨Y1, Y2, Y3, Y4, Y5, e1, e2, e3, e4, e5, ce⟩ := ty_4 (tr := tr) (top := top) (k := fu) (n := n) (l := lv) h0 hkd
    rw [ce] at hb0
    have hb5 : bnd Y5 ≤ 200000 := hb0
    have hb4 : bnd Y4.1 ≤ 200000 := (Nat.le_trans (by rw [e5]; exact b_puts _ _ _ _) hb5)
    have hb3 : bnd Y3.1 ≤ 200000 := (by rw [e4, b_mkA] at hb4; exact hb4)
    have hb2 : bnd Y2.1 ≤ 200000 := (by rw [e3, b_fresh] at hb3; exact hb3)
    have hb1 : bnd Y1.1 ≤ 200000 := (Nat.le_trans (by rw [e2]; exact b_ty _ _ _ _ _ _) hb2)
    refine lv_aload_n hx hb dX8_types_0 rfl (lv_at hl 0 rfl) ?_
    refine m_get (v := .ref (md G 4)) hx hb htu wu_in hown hK hP 4 (by decide) (htu _ U_6) rfl rfl dX8_types_1 ?_
    refine lv_bipush (v := 6) hx hb dX8_types_4 (by decide) ?_
    refine lv_iload_n hx hb dX8_types_6 rfl (lv_at hl 1 rfl) ?_
    refine lv_imul hx hb dX8_types_7 ?_
    refine m_top (y := nI (6 * n)) (pk_mul 6 n) ?_
    refine m_ald (j := 6 * n) (v := nI (tr 10 n)) hx hb hK hP 4 4 rfl (by omega) (by decide) (show F 4 (6 * n) = _ from pf0.1) dX8_types_8 ?_
    refine lv_istore_n (lv' := [(3, .int (nI (tr 10 n))), (0, .ref (mh G)), (1, .int (nI n)), (2, .int (nI lv))]) hx hb dX8_types_9 rfl hl (by decide) rfl (fun ls hl => ?_)
    refine lv_aload_n hx hb dX8_types_10 rfl (lv_at hl 1 rfl) ?_
    refine m_get (v := .ref (md G 4)) hx hb htu wu_in hown hK hP 4 (by decide) (htu _ U_6) rfl rfl dX8_types_11 ?_
    refine lv_bipush (v := 6) hx hb dX8_types_14 (by decide) ?_
    refine lv_iload_n hx hb dX8_types_16 rfl (lv_at hl 2 rfl) ?_
    refine lv_imul hx hb dX8_types_17 ?_
    refine m_top (y := nI (6 * n)) (pk_mul 6 n) ?_
    refine lv_iconst (v := 1) hx hb dX8_types_18 (by decide) ?_
    refine lv_iadd hx hb dX8_types_19 ?_
    refine m_top (y := nI (6 * n + 1)) (nI_add (6 * n) 1) ?_
    refine m_ald (j := 6 * n + 1) (v := nI (tr 11 n)) hx hb hK hP 4 4 rfl (by omega) (by decide) pf1.1 dX8_types_20 ?_
    refine lv_istore (lv' := [(4, .int (nI (tr 11 n))), (3, .int (nI (tr 10 n))), (0, .ref (mh G)), (1, .int (nI n)), (2, .int (nI lv))]) hx hb dX8_types_21 hl (by decide) rfl (fun ls hl => ?_)
    refine lv_aload_n hx hb dX8_types_23 rfl (lv_at hl 2 rfl) ?_
    refine m_get (v := .ref (md G 1)) hx hb htu wu_in hown hK hP 1 (by decide) (htu _ U_2) rfl rfl dX8_types_24 ?_
    refine lv_iload_n hx hb dX8_types_27 rfl (lv_at hl 3 rfl) ?_
    refine m_ald (j := n) (v := 4) hx hb hK hP 1 1 rfl (by omega) (by decide) ((hT.2.2 n hn).1.trans (congrArg nI hkd)) dX8_types_28 ?_
    refine lv_tableIn (tgt := 141) hx hb dX8_types_29 (by decide) (by decide) (by rfl) (by decide) ?_
    obtain ⟨hmv, hhv, hev, hxv⟩ := T.2.2.2.2.1.at hh (by omega)
    refine lv_aload_n hx hb dX8_types_141 rfl (lv_at hl 2 rfl) ?_
    refine lv_iload_n hx hb dX8_types_142 rfl (lv_at hl 1 rfl) ?_
    refine lv_iload_n hx hb dX8_types_143 rfl (lv_at hl 4 rfl) ?_
    refine m_ci (m_runV (As := [.int (nI (tr 10 n)), .int (nI lv)]) (rest := []) ⟨hx, hb, hml, hown, htu⟩ (ih l G hDD o F tr N top gs z ix lf an (tr 10 n) lv hmv (d + 1) T.1 pf0.2.1 htp ((hup.up pf0.2.2)) ((Cv.part hC pf0.2.2 (fun q h => T.2.2.2.1 q h) (fun h => absurd h (ncov (by omega) (by omega) (by omega))))) ((by omega)) ((by omega)) hhv ((by omega)) ((by rw [← e1]; exact hb1)) ((by have := T.2.2.1; omega)) ((fun h => by have := hev h; omega)) ((T.2.2.2.2.2.1.trans hd)) ((by omega)) H.size) (cwV 2 htu gU_X8_typing rfl rfl rfl (by decide +kernel) ⟨show (3 * fu + 320) + 1 ≤ 3 * fu + 322 by omega, show 8 + (4 + 11) + (80 * fu + 9100) ≤ 80 * fu + 9147 by omega⟩) hP hK rfl hl.1 rfl (lv_room (Nat.le_of_ble_eq_true rfl)) dX8_types_144) hS (fun r_17 o_18 F_19 H locs hw_20 hP hS => ?_)
    try dsimp only at hw_20
    obtain ⟨⟨ix1, lf1, an1, gs1, X1⟩, w1⟩ := hw_20
    rw [← e1] at X1 w1
    have X1 := X1.wk (Nat.le_refl _) (show fu + 60 ≤ fu + 1 + 60 by omega)
    have bb : sto Y1.1 = 0 → sto z = 0 := X1.2.2.2.2.2.2.2.2
    have xx : nT z ≤ nT Y1.1 := X1.2.2.2.2.2.2.2.1.1
    have T := T.tr X1 hR
    refine lv_istore (lv' := [(5, .int r_17), (4, .int (nI (tr 11 n))), (3, .int (nI (tr 10 n))), (0, .ref (mh G)), (1, .int (nI n)), (2, .int (nI lv))]) hx hb dX8_types_147 hl (by decide) rfl (fun ls hl => ?_)
    obtain ⟨hmv, hhv, hev, hxv⟩ := T.2.2.2.2.1.at hh (by omega)
    refine lv_aload_n hx hb dX8_types_149 rfl (lv_at hl 3 rfl) ?_
    refine lv_iload hx hb dX8_types_150 (lv_at hl 1 rfl) ?_
    refine lv_iload_n hx hb dX8_types_152 rfl (lv_at hl 5 rfl) ?_
    refine m_ci (m_runV (As := [.int (nI (tr 11 n)), .int (nI lv)]) (rest := []) ⟨hx, hb, hml, hown, htu⟩ (ih l G hDD o_18 F_19 tr N top gs1 Y1.1 ix1 lf1 an1 (tr 11 n) lv hmv (d + 1) T.1 pf1.2.1 htp ((hup.up pf1.2.2)) ((Cv.part hC pf1.2.2 (fun q h => T.2.2.2.1 q h) (fun h => absurd h (ncov (by omega) (by omega) (by omega))))) ((by omega)) ((by omega)) hhv ((by omega)) ((by rw [← e2]; exact hb2)) ((by have := T.2.2.1; omega)) ((fun h => by have := hev h; omega)) ((T.2.2.2.2.2.1.trans hd)) ((by omega)) H.size) (cwV 2 htu gU_X8_typing rfl rfl rfl (by decide +kernel) ⟨show (3 * fu + 320) + 1 ≤ 3 * fu + 322 by omega, show 8 + (4 + 11) + (80 * fu + 9100) ≤ 80 * fu + 9147 by omega⟩) hP hK rfl hl.1 rfl (lv_room (Nat.le_of_ble_eq_true rfl)) dX8_types_153) hS (fun r_21 o_22 F_23 H locs hw_24 hP hS => ?_)
    try dsimp only at hw_24
    obtain ⟨⟨ix2, lf2, an2, gs2, X2⟩, w2⟩ := hw_24
    rw [← e2] at X2 w2
    have X2 := X2.wk (Nat.le_refl _) (show fu + 60 ≤ fu + 1 + 60 by omega)
    have bb : sto Y2.1 = 0 → sto Y1.1 = 0 := X2.2.2.2.2.2.2.2.2
    have xx : nT Y1.1 ≤ nT Y2.1 := X2.2.2.2.2.2.2.2.1.1
    have w1 := fun h => (⟨(w1 (bb h)).1, Nat.lt_of_lt_of_le (w1 (bb h)).2 xx⟩ : _ ∧ _ < nT Y2.1)
    have T := T.tr X2 hR
    refine lv_istore (lv' := [(6, .int r_21), (5, .int r_17), (4, .int (nI (tr 11 n))), (3, .int (nI (tr 10 n))), (0, .ref (mh G)), (1, .int (nI n)), (2, .int (nI lv))]) hx hb dX8_types_156 hl (by decide) rfl (fun ls hl => ?_)
    refine lv_aload_n hx hb dX8_types_158 rfl (lv_at hl 4 rfl) ?_
    refine lv_iload_n hx hb dX8_types_159 rfl (lv_at hl 5 rfl) ?_
    refine lv_iload_n hx hb dX8_types_160 rfl (lv_at hl 6 rfl) ?_
    refine m_ci (m_runV (As := [.int (nI n), .int (nI lv)]) (rest := []) ⟨hx, hb, hml, hown, htu⟩ (m_fresh l G hDD o_22 F_23 tr N top gs2 Y2.1 ix2 lf2 an2 (fu + 1 + 60) n lv T.1 ((by omega)) ((by omega)) H.size) (cwV 2 htu gU_X8_fresh rfl rfl rfl (by decide +kernel) ⟨show 3 + 1 ≤ 3 * fu + 322 by omega, show 8 + (3 + 11) + 67 ≤ 80 * fu + 9147 by omega⟩) hP hK rfl hl.1 rfl (lv_room (Nat.le_of_ble_eq_true rfl)) dX8_types_161) hS (fun r_25 o_26 F_27 H locs hw_28 hP hS => ?_)
    try dsimp only at hw_28
    obtain ⟨X3, w3⟩ := hw_28
    rw [← e3] at X3 w3
    have bb : sto Y3.1 = 0 → sto Y2.1 = 0 := X3.2.2.2.2.2.2.2.2
    have xx : nT Y2.1 ≤ nT Y3.1 := X3.2.2.2.2.2.2.2.1.1
    have w1 := fun h => (⟨(w1 (bb h)).1, Nat.lt_of_lt_of_le (w1 (bb h)).2 xx⟩ : _ ∧ _ < nT Y3.1)
    have w2 := fun h => (⟨(w2 (bb h)).1, Nat.lt_of_lt_of_le (w2 (bb h)).2 xx⟩ : _ ∧ _ < nT Y3.1)
    have T := T.tr X3 hR
    refine lv_istore (lv' := [(7, .int r_25), (6, .int r_21), (5, .int r_17), (4, .int (nI (tr 11 n))), (3, .int (nI (tr 10 n))), (0, .ref (mh G)), (1, .int (nI n)), (2, .int (nI lv))]) hx hb dX8_types_164 hl (by decide) rfl (fun ls hl => ?_)
    refine lv_aload_n hx hb dX8_types_166 rfl (lv_at hl 5 rfl) ?_
    refine lv_iload hx hb dX8_types_167 (lv_at hl 1 rfl) ?_
    refine lv_iload hx hb dX8_types_169 (lv_at hl 0 rfl) ?_
    refine m_ci (m_runV (As := [.int r_21, .int r_25]) (rest := []) ⟨hx, hb, hml, hown, htu⟩ (m_arrow l G hDD o_26 F_27 Y3.1 ix2 Y2.2 Y3.2 r_21 r_25 T.1.1 ((fun h => ⟨(w2 h).1, (w3 h).1, (w2 h).2, (w3 h).2⟩)) H.size) (cwV 2 htu gU_X8_arrow rfl rfl rfl (by decide +kernel) ⟨show 2 + 1 ≤ 3 * fu + 322 by omega, show 8 + (4 + 11) + 44 ≤ 80 * fu + 9147 by omega⟩) hP hK rfl hl.1 rfl (lv_room (Nat.le_of_ble_eq_true rfl)) dX8_types_171) hS (fun r_29 o_30 F_31 H locs hw_32 hP hS => ?_)
    try dsimp only at hw_32
    rw [← e4] at hw_32
    have w4 := hw_32.1
    have X4 := TW.leaf (k := fu + 1 + 60) T.1 hw_32.2.1 Px.rf hw_32.2.2 (by decide) (by rw [e4]; exact x_mkA _ _ _) (by rw [e4]; exact k_mkA _ _ _) (by rw [e4]; exact mkA_sto)
    have bb : sto Y4.1 = 0 → sto Y3.1 = 0 := X4.2.2.2.2.2.2.2.2
    have xx : nT Y3.1 ≤ nT Y4.1 := X4.2.2.2.2.2.2.2.1.1
    have w1 := fun h => (⟨(w1 (bb h)).1, Nat.lt_of_lt_of_le (w1 (bb h)).2 xx⟩ : _ ∧ _ < nT Y4.1)
    have w2 := fun h => (⟨(w2 (bb h)).1, Nat.lt_of_lt_of_le (w2 (bb h)).2 xx⟩ : _ ∧ _ < nT Y4.1)
    have w3 := fun h => (⟨(w3 (bb h)).1, Nat.lt_of_lt_of_le (w3 (bb h)).2 xx⟩ : _ ∧ _ < nT Y4.1)
    have T := T.tr X4 hR
    refine lv_istore (lv' := [(8, .int r_29), (7, .int r_25), (6, .int r_21), (5, .int r_17), (4, .int (nI (tr 11 n))), (3, .int (nI (tr 10 n))), (0, .ref (mh G)), (1, .int (nI n)), (2, .int (nI lv))]) hx hb dX8_types_174 hl (by decide) rfl (fun ls hl => ?_)
    obtain ⟨hmv, hhv, hev, hxv⟩ := T.2.2.2.2.1.at hh (by omega)
    refine lv_aload_n hx hb dX8_types_176 rfl (lv_at hl 6 rfl) ?_
    refine lv_iload_n hx hb dX8_types_177 rfl (lv_at hl 7 rfl) ?_
    refine lv_iload hx hb dX8_types_178 (lv_at hl 3 rfl) ?_
    refine lv_iload hx hb dX8_types_180 (lv_at hl 0 rfl) ?_
    refine m_cv (m_runV (As := [.int (nI n), .int r_17, .int r_29]) (rest := []) ⟨hx, hb, hml, hown, htu⟩ (m_puts l G hDD o_30 F_31 tr N top gs2 Y4.1 ix2 lf2 an2 (fu + 1 + 60) n Y1.2 Y4.2 hmv r_17 r_29 T.1 ((by omega)) hhv ((by omega)) ((fun h => by have := hev h; omega)) ((by omega)) ((by rw [← e5]; exact hb5)) ((fun h => ⟨(w1 h).1, (w4 h).1, (w1 h).2, (w4 h).2⟩)) H.size) (cwV 3 htu gU_X8_puts rfl rfl rfl (by decide +kernel) ⟨show 311 + 1 ≤ 3 * fu + 322 by omega, show 8 + (4 + 11) + 8922 ≤ 80 * fu + 9147 by omega⟩) hP hK rfl hl.1 rfl (lv_room (Nat.le_of_ble_eq_true rfl)) dX8_types_182) hS (fun o_34 F_35 H locs hw_36 hP hS => ?_)
    try dsimp only at hw_36
    obtain ⟨ix5, lf5, X5⟩ := hw_36
    rw [← e5] at X5
    have bb : sto Y5 = 0 → sto Y4.1 = 0 := X5.2.2.2.2.2.2.2.2
    have xx : nT Y4.1 ≤ nT Y5 := X5.2.2.2.2.2.2.2.1.1
    have w1 := fun h => (⟨(w1 (bb h)).1, Nat.lt_of_lt_of_le (w1 (bb h)).2 xx⟩ : _ ∧ _ < nT Y5)
    have w2 := fun h => (⟨(w2 (bb h)).1, Nat.lt_of_lt_of_le (w2 (bb h)).2 xx⟩ : _ ∧ _ < nT Y5)
    have w3 := fun h => (⟨(w3 (bb h)).1, Nat.lt_of_lt_of_le (w3 (bb h)).2 xx⟩ : _ ∧ _ < nT Y5)
    have w4 := fun h => (⟨(w4 (bb h)).1, Nat.lt_of_lt_of_le (w4 (bb h)).2 xx⟩ : _ ∧ _ < nT Y5)
    have T := T.tr X5 hR
    refine lv_iload hx hb dX8_types_185 (lv_at hl 1 rfl) ?_
    exact m_iret (v := r_25) hx hb hr hK hP hS (by rw [ce]; exact ⟨⟨_, _, _, _, T.wk (by rw [cc]; omega) (Nat.le_refl _)⟩, (fun h => w3 h)⟩) dX8_types_187 hlocks
  · skip
    have T := TW.rf (k := fu + 1 + 60) hTS
    refine lv_aload_n hx hb dX8_types_0 rfl (lv_at hl 0 rfl) ?_
    refine m_get (v := .ref (md G 4)) hx hb htu wu_in hown hK hP 4 (by decide) (htu _ U_6) rfl rfl dX8_types_1 ?_
    refine lv_bipush (v := 6) hx hb dX8_types_4 (by decide) ?_
    refine lv_iload_n hx hb dX8_types_6 rfl (lv_at hl 1 rfl) ?_
    refine lv_imul hx hb dX8_types_7 ?_
    refine m_top (y := nI (6 * n)) (pk_mul 6 n) ?_
    refine m_ald (j := 6 * n) (v := F 4 (6 * n)) hx hb hK hP 4 4 rfl (by omega) (by decide) rfl dX8_types_8 ?_
    refine lv_istore_n (lv' := [(3, .int (F 4 (6 * n))), (0, .ref (mh G)), (1, .int (nI n)), (2, .int (nI lv))]) hx hb dX8_types_9 rfl hl (by decide) rfl (fun ls hl => ?_)
    refine lv_aload_n hx hb dX8_types_10 rfl (lv_at hl 1 rfl) ?_
    refine m_get (v := .ref (md G 4)) hx hb htu wu_in hown hK hP 4 (by decide) (htu _ U_6) rfl rfl dX8_types_11 ?_
    refine lv_bipush (v := 6) hx hb dX8_types_14 (by decide) ?_
    refine lv_iload_n hx hb dX8_types_16 rfl (lv_at hl 2 rfl) ?_
    refine lv_imul hx hb dX8_types_17 ?_
    refine m_top (y := nI (6 * n)) (pk_mul 6 n) ?_
    refine lv_iconst (v := 1) hx hb dX8_types_18 (by decide) ?_
    refine lv_iadd hx hb dX8_types_19 ?_
    refine m_top (y := nI (6 * n + 1)) (nI_add (6 * n) 1) ?_
    refine m_ald (j := 6 * n + 1) (v := F 4 (6 * n + 1)) hx hb hK hP 4 4 rfl (by omega) (by decide) rfl dX8_types_20 ?_
    refine lv_istore (lv' := [(4, .int (F 4 (6 * n + 1))), (3, .int (F 4 (6 * n))), (0, .ref (mh G)), (1, .int (nI n)), (2, .int (nI lv))]) hx hb dX8_types_21 hl (by decide) rfl (fun ls hl => ?_)
    refine lv_aload_n hx hb dX8_types_23 rfl (lv_at hl 2 rfl) ?_
    refine m_get (v := .ref (md G 1)) hx hb htu wu_in hown hK hP 1 (by decide) (htu _ U_2) rfl rfl dX8_types_24 ?_
    refine lv_iload_n hx hb dX8_types_27 rfl (lv_at hl 3 rfl) ?_
    refine m_ald (j := n) (v := 5) hx hb hK hP 1 1 rfl (by omega) (by decide) ((hT.2.2 n hn).1.trans (congrArg nI hkd)) dX8_types_28 ?_
    refine lv_tableIn (tgt := 188) hx hb dX8_types_29 (by decide) (by decide) (by rfl) (by decide) ?_
    refine lv_aload_n hx hb dX8_types_188 rfl (lv_at hl 2 rfl) ?_
    refine lv_iload_n hx hb dX8_types_189 rfl (lv_at hl 3 rfl) ?_
    refine lv_iload_n hx hb dX8_types_190 rfl (lv_at hl 4 rfl) ?_
    refine m_ci (m_runV (As := [.int (nI n), .int (nI lv)]) (rest := []) ⟨hx, hb, hml, hown, htu⟩ (m_typeOfRecord l G hDD o F fu tr N top gs z ix lf an n lv hm d ih hTS hn htp hup hC hdf hlv hh hhm hb0 han hh2 hd hfu h0 hkd H.size) (cwV 2 htu gU_X8_typeOfRecord rfl rfl rfl (by decide +kernel) ⟨show (3 * fu + 321) + 1 ≤ 3 * fu + 322 by omega, show 8 + (5 + 11) + (80 * fu + 9123) ≤ 80 * fu + 9147 by omega⟩) hP hK rfl hl.1 rfl (lv_room (Nat.le_of_ble_eq_true rfl)) dX8_types_191) hS (fun r_37 o_38 F_39 H locs hw_40 hP hS => ?_)
    try dsimp only at hw_40
    exact m_iret (v := r_37) hx hb hr hK hP hS hw_40 dX8_types_194 hlocks
  · skip
    have pe : prts (tr 0 n) (tr 2 n) = 1 := by rw [hkd]; rfl
    have pf0 := (hT.2.2 n hn).2.2.2.2.2.2.1 0 (by rw [pe]; decide)
    have cc := cnt_1 (k := fu) (n := n) (m := 0) pe
    rw [cc] at han
    have cp0 : 1 ≤ cntT tr fu (tr 10 n) := cnt_pos
    have T := TW.rf (k := fu + 1 + 60) hTS
    obtain ⟨Y1, Y2, Y3, Y4, e1, e2, e3, e4, ce⟩ := ty_6 (tr := tr) (top := top) (k := fu) (n := n) (l := lv) h0 hkd
    rw [ce] at hb0
    have hb4 : bnd Y4 ≤ 200000 := hb0
    have hb3 : bnd Y3.1 ≤ 200000 := (Nat.le_trans (by rw [e4]; exact b_puts _ _ _ _) hb4)
    have hb2 : bnd Y2.1 ≤ 200000 := (by rw [e3, b_mkR] at hb3; exact hb3)
    have hb1 : bnd Y1.1 ≤ 200000 := (by rw [e2, b_fresh] at hb2; exact hb2)
    refine lv_aload_n hx hb dX8_types_0 rfl (lv_at hl 0 rfl) ?_
    refine m_get (v := .ref (md G 4)) hx hb htu wu_in hown hK hP 4 (by decide) (htu _ U_6) rfl rfl dX8_types_1 ?_
    refine lv_bipush (v := 6) hx hb dX8_types_4 (by decide) ?_
    refine lv_iload_n hx hb dX8_types_6 rfl (lv_at hl 1 rfl) ?_
    refine lv_imul hx hb dX8_types_7 ?_
    refine m_top (y := nI (6 * n)) (pk_mul 6 n) ?_
    refine m_ald (j := 6 * n) (v := nI (tr 10 n)) hx hb hK hP 4 4 rfl (by omega) (by decide) (show F 4 (6 * n) = _ from pf0.1) dX8_types_8 ?_
    refine lv_istore_n (lv' := [(3, .int (nI (tr 10 n))), (0, .ref (mh G)), (1, .int (nI n)), (2, .int (nI lv))]) hx hb dX8_types_9 rfl hl (by decide) rfl (fun ls hl => ?_)
    refine lv_aload_n hx hb dX8_types_10 rfl (lv_at hl 1 rfl) ?_
    refine m_get (v := .ref (md G 4)) hx hb htu wu_in hown hK hP 4 (by decide) (htu _ U_6) rfl rfl dX8_types_11 ?_
    refine lv_bipush (v := 6) hx hb dX8_types_14 (by decide) ?_
    refine lv_iload_n hx hb dX8_types_16 rfl (lv_at hl 2 rfl) ?_
    refine lv_imul hx hb dX8_types_17 ?_
    refine m_top (y := nI (6 * n)) (pk_mul 6 n) ?_
    refine lv_iconst (v := 1) hx hb dX8_types_18 (by decide) ?_
    refine lv_iadd hx hb dX8_types_19 ?_
    refine m_top (y := nI (6 * n + 1)) (nI_add (6 * n) 1) ?_
    refine m_ald (j := 6 * n + 1) (v := F 4 (6 * n + 1)) hx hb hK hP 4 4 rfl (by omega) (by decide) rfl dX8_types_20 ?_
    refine lv_istore (lv' := [(4, .int (F 4 (6 * n + 1))), (3, .int (nI (tr 10 n))), (0, .ref (mh G)), (1, .int (nI n)), (2, .int (nI lv))]) hx hb dX8_types_21 hl (by decide) rfl (fun ls hl => ?_)
    refine lv_aload_n hx hb dX8_types_23 rfl (lv_at hl 2 rfl) ?_
    refine m_get (v := .ref (md G 1)) hx hb htu wu_in hown hK hP 1 (by decide) (htu _ U_2) rfl rfl dX8_types_24 ?_
    refine lv_iload_n hx hb dX8_types_27 rfl (lv_at hl 3 rfl) ?_
    refine m_ald (j := n) (v := 6) hx hb hK hP 1 1 rfl (by omega) (by decide) ((hT.2.2 n hn).1.trans (congrArg nI hkd)) dX8_types_28 ?_
    refine lv_tableIn (tgt := 195) hx hb dX8_types_29 (by decide) (by decide) (by rfl) (by decide) ?_
    obtain ⟨hmv, hhv, hev, hxv⟩ := T.2.2.2.2.1.at hh (by omega)
    refine lv_aload_n hx hb dX8_types_195 rfl (lv_at hl 2 rfl) ?_
    refine lv_iload_n hx hb dX8_types_196 rfl (lv_at hl 1 rfl) ?_
    refine lv_iload_n hx hb dX8_types_197 rfl (lv_at hl 4 rfl) ?_
    refine m_ci (m_runV (As := [.int (nI (tr 10 n)), .int (nI lv)]) (rest := []) ⟨hx, hb, hml, hown, htu⟩ (ih l G hDD o F tr N top gs z ix lf an (tr 10 n) lv hmv (d + 1) T.1 pf0.2.1 htp ((hup.up pf0.2.2)) ((Cv.part hC pf0.2.2 (fun q h => T.2.2.2.1 q h) (fun h => absurd h (ncov (by omega) (by omega) (by omega))))) ((by omega)) ((by omega)) hhv ((by omega)) ((by rw [← e1]; exact hb1)) ((by have := T.2.2.1; omega)) ((fun h => by have := hev h; omega)) ((T.2.2.2.2.2.1.trans hd)) ((by omega)) H.size) (cwV 2 htu gU_X8_typing rfl rfl rfl (by decide +kernel) ⟨show (3 * fu + 320) + 1 ≤ 3 * fu + 322 by omega, show 8 + (4 + 11) + (80 * fu + 9100) ≤ 80 * fu + 9147 by omega⟩) hP hK rfl hl.1 rfl (lv_room (Nat.le_of_ble_eq_true rfl)) dX8_types_198) hS (fun r_41 o_42 F_43 H locs hw_44 hP hS => ?_)
    try dsimp only at hw_44
    obtain ⟨⟨ix1, lf1, an1, gs1, X1⟩, w1⟩ := hw_44
    rw [← e1] at X1 w1
    have X1 := X1.wk (Nat.le_refl _) (show fu + 60 ≤ fu + 1 + 60 by omega)
    have bb : sto Y1.1 = 0 → sto z = 0 := X1.2.2.2.2.2.2.2.2
    have xx : nT z ≤ nT Y1.1 := X1.2.2.2.2.2.2.2.1.1
    have T := T.tr X1 hR
    refine lv_istore (lv' := [(5, .int r_41), (4, .int (F 4 (6 * n + 1))), (3, .int (nI (tr 10 n))), (0, .ref (mh G)), (1, .int (nI n)), (2, .int (nI lv))]) hx hb dX8_types_201 hl (by decide) rfl (fun ls hl => ?_)
    refine lv_aload_n hx hb dX8_types_203 rfl (lv_at hl 3 rfl) ?_
    refine lv_iload_n hx hb dX8_types_204 rfl (lv_at hl 4 rfl) ?_
    refine lv_iload_n hx hb dX8_types_205 rfl (lv_at hl 5 rfl) ?_
    refine m_ci (m_runV (As := [.int (nI n), .int (nI lv)]) (rest := []) ⟨hx, hb, hml, hown, htu⟩ (m_fresh l G hDD o_42 F_43 tr N top gs1 Y1.1 ix1 lf1 an1 (fu + 1 + 60) n lv T.1 ((by omega)) ((by omega)) H.size) (cwV 2 htu gU_X8_fresh rfl rfl rfl (by decide +kernel) ⟨show 3 + 1 ≤ 3 * fu + 322 by omega, show 8 + (3 + 11) + 67 ≤ 80 * fu + 9147 by omega⟩) hP hK rfl hl.1 rfl (lv_room (Nat.le_of_ble_eq_true rfl)) dX8_types_206) hS (fun r_45 o_46 F_47 H locs hw_48 hP hS => ?_)
    try dsimp only at hw_48
    obtain ⟨X2, w2⟩ := hw_48
    rw [← e2] at X2 w2
    have bb : sto Y2.1 = 0 → sto Y1.1 = 0 := X2.2.2.2.2.2.2.2.2
    have xx : nT Y1.1 ≤ nT Y2.1 := X2.2.2.2.2.2.2.2.1.1
    have w1 := fun h => (⟨(w1 (bb h)).1, Nat.lt_of_lt_of_le (w1 (bb h)).2 xx⟩ : _ ∧ _ < nT Y2.1)
    have T := T.tr X2 hR
    refine lv_istore (lv' := [(6, .int r_45), (5, .int r_41), (4, .int (F 4 (6 * n + 1))), (3, .int (nI (tr 10 n))), (0, .ref (mh G)), (1, .int (nI n)), (2, .int (nI lv))]) hx hb dX8_types_209 hl (by decide) rfl (fun ls hl => ?_)
    refine lv_aload_n hx hb dX8_types_211 rfl (lv_at hl 4 rfl) ?_
    refine m_ci (m_runV (As := []) (rest := []) ⟨hx, hb, hml, hown, htu⟩ (m_row l G hDD o_46 F_47 Y2.1 ix1 T.1.1 H.size) (cwV 0 htu gU_X8_row rfl rfl rfl (by decide +kernel) ⟨show 2 + 1 ≤ 3 * fu + 322 by omega, show 8 + (2 + 11) + 44 ≤ 80 * fu + 9147 by omega⟩) hP hK rfl hl.1 rfl (lv_room (Nat.le_of_ble_eq_true rfl)) dX8_types_212) hS (fun r_49 o_50 F_51 H locs hw_52 hP hS => ?_)
    try dsimp only at hw_52
    rcases hw_52 with ⟨g0, g1, g2⟩ | ⟨g0, g1, g2, g3, g4⟩ | ⟨g0, g1, g2, g3⟩
    · skip
      subst g1
      obtain ⟨h91, h92⟩ := Prod.mk.inj g2
      have h91 := h91.symm
      subst h91
      have h92 := h92.symm
      subst h92
      have e3b : Y3 = (Y2.1, 0) := e3.trans (if_pos g0)
      have X3 := TW.leaf (k := fu + 1 + 60) (u := (o_46, F_47)) (z' := Y3.1) (ix' := ix1) T.1 (by rw [e3b]; exact T.1.1) Px.rf (L := [7]) Kq.rf (by decide) (by rw [e3b]; exact Lx.rf) (by rw [e3b]; exact K89.rf) (by rw [e3b]; exact id)
      have w3 : sto Y3.1 = 0 → (-9 : Int32) = nI Y3.2 ∧ Y3.2 < nT Y3.1 := fun h => by rw [e3b] at h; exact absurd h g0
      have bb : sto Y3.1 = 0 → sto Y2.1 = 0 := X3.2.2.2.2.2.2.2.2
      have xx : nT Y2.1 ≤ nT Y3.1 := X3.2.2.2.2.2.2.2.1.1
      have w1 := fun h => (⟨(w1 (bb h)).1, Nat.lt_of_lt_of_le (w1 (bb h)).2 xx⟩ : _ ∧ _ < nT Y3.1)
      have w2 := fun h => (⟨(w2 (bb h)).1, Nat.lt_of_lt_of_le (w2 (bb h)).2 xx⟩ : _ ∧ _ < nT Y3.1)
      have T := T.tr X3 hR
      refine lv_istore (lv' := [(7, .int ((-9))), (6, .int r_45), (5, .int r_41), (4, .int (F 4 (6 * n + 1))), (3, .int (nI (tr 10 n))), (0, .ref (mh G)), (1, .int (nI n)), (2, .int (nI lv))]) hx hb dX8_types_215 hl (by decide) rfl (fun ls hl => ?_)
      refine lv_iload hx hb dX8_types_217 (lv_at hl 0 rfl) ?_
      refine lv_bipush (v := (-9)) hx hb dX8_types_219 (by decide) ?_
      refine lv_icmp_eq (tgt := 238) hx hb dX8_types_221 (by decide) (fun c_53 => ?_) (fun c_53 => absurd (by decide) c_53)
      obtain ⟨hmv, hhv, hev, hxv⟩ := T.2.2.2.2.1.at hh (by omega)
      refine lv_aload_n hx hb dX8_types_238 rfl (lv_at hl 5 rfl) ?_
      refine lv_iload_n hx hb dX8_types_239 rfl (lv_at hl 6 rfl) ?_
      refine lv_iload hx hb dX8_types_240 (lv_at hl 2 rfl) ?_
      refine lv_iload hx hb dX8_types_242 (lv_at hl 0 rfl) ?_
      refine m_cv (m_runV (As := [.int (nI n), .int r_41, .int ((-9))]) (rest := []) ⟨hx, hb, hml, hown, htu⟩ (m_puts l G hDD o_46 F_47 tr N top gs1 Y3.1 ix1 lf1 an1 (fu + 1 + 60) n Y1.2 Y3.2 hmv r_41 ((-9)) T.1 ((by omega)) hhv ((by omega)) ((fun h => by have := hev h; omega)) ((by omega)) ((by rw [← e4]; exact hb4)) ((fun h => ⟨(w1 h).1, (w3 h).1, (w1 h).2, (w3 h).2⟩)) H.size) (cwV 3 htu gU_X8_puts rfl rfl rfl (by decide +kernel) ⟨show 311 + 1 ≤ 3 * fu + 322 by omega, show 8 + (4 + 11) + 8922 ≤ 80 * fu + 9147 by omega⟩) hP hK rfl hl.1 rfl (lv_room (Nat.le_of_ble_eq_true rfl)) dX8_types_244) hS (fun o_55 F_56 H locs hw_57 hP hS => ?_)
      try dsimp only at hw_57
      obtain ⟨ix4, lf4, X4⟩ := hw_57
      rw [← e4] at X4
      have bb : sto Y4 = 0 → sto Y3.1 = 0 := X4.2.2.2.2.2.2.2.2
      have xx : nT Y3.1 ≤ nT Y4 := X4.2.2.2.2.2.2.2.1.1
      have w1 := fun h => (⟨(w1 (bb h)).1, Nat.lt_of_lt_of_le (w1 (bb h)).2 xx⟩ : _ ∧ _ < nT Y4)
      have w2 := fun h => (⟨(w2 (bb h)).1, Nat.lt_of_lt_of_le (w2 (bb h)).2 xx⟩ : _ ∧ _ < nT Y4)
      have w3 := fun h => (⟨(w3 (bb h)).1, Nat.lt_of_lt_of_le (w3 (bb h)).2 xx⟩ : _ ∧ _ < nT Y4)
      have T := T.tr X4 hR
      refine lv_iload hx hb dX8_types_247 (lv_at hl 1 rfl) ?_
      exact m_iret (v := r_45) hx hb hr hK hP hS (by rw [ce]; exact ⟨⟨_, _, _, _, T.wk (by rw [cc]; omega) (Nat.le_refl _)⟩, (fun h => w2 h)⟩) dX8_types_249 hlocks
    · skip
      subst g2
      have e3b : Y3 = (stops Y2.1 1 (askn Y2.1), 0) := e3.trans ((if_neg (not_not_intro g0)).trans (if_pos g1))
      have X3 := TW.leaf (k := fu + 1 + 60) (z' := Y3.1) T.1 (by rw [e3b]; exact g3) Px.rf g4 (by decide) (by rw [e3b]; exact x_stops _ _ _) (by rw [e3b]; exact k_stops _ _ _) (by rw [e3b]; exact stops_sto0)
      have w3 : sto Y3.1 = 0 → (-9 : Int32) = nI Y3.2 ∧ Y3.2 < nT Y3.1 := fun h => by rw [e3b] at h; exact absurd h (stops_sto T.1.1)
      have bb : sto Y3.1 = 0 → sto Y2.1 = 0 := X3.2.2.2.2.2.2.2.2
      have xx : nT Y2.1 ≤ nT Y3.1 := X3.2.2.2.2.2.2.2.1.1
      have w1 := fun h => (⟨(w1 (bb h)).1, Nat.lt_of_lt_of_le (w1 (bb h)).2 xx⟩ : _ ∧ _ < nT Y3.1)
      have w2 := fun h => (⟨(w2 (bb h)).1, Nat.lt_of_lt_of_le (w2 (bb h)).2 xx⟩ : _ ∧ _ < nT Y3.1)
      have T := T.tr X3 hR
      refine lv_istore (lv' := [(7, .int ((-9))), (6, .int r_45), (5, .int r_41), (4, .int (F 4 (6 * n + 1))), (3, .int (nI (tr 10 n))), (0, .ref (mh G)), (1, .int (nI n)), (2, .int (nI lv))]) hx hb dX8_types_215 hl (by decide) rfl (fun ls hl => ?_)
      refine lv_iload hx hb dX8_types_217 (lv_at hl 0 rfl) ?_
      refine lv_bipush (v := (-9)) hx hb dX8_types_219 (by decide) ?_
      refine lv_icmp_eq (tgt := 238) hx hb dX8_types_221 (by decide) (fun c_58 => ?_) (fun c_58 => absurd (by decide) c_58)
      obtain ⟨hmv, hhv, hev, hxv⟩ := T.2.2.2.2.1.at hh (by omega)
      refine lv_aload_n hx hb dX8_types_238 rfl (lv_at hl 5 rfl) ?_
      refine lv_iload_n hx hb dX8_types_239 rfl (lv_at hl 6 rfl) ?_
      refine lv_iload hx hb dX8_types_240 (lv_at hl 2 rfl) ?_
      refine lv_iload hx hb dX8_types_242 (lv_at hl 0 rfl) ?_
      refine m_cv (m_runV (As := [.int (nI n), .int r_41, .int ((-9))]) (rest := []) ⟨hx, hb, hml, hown, htu⟩ (m_puts l G hDD o_50 F_51 tr N top gs1 Y3.1 ix1 lf1 an1 (fu + 1 + 60) n Y1.2 Y3.2 hmv r_41 ((-9)) T.1 ((by omega)) hhv ((by omega)) ((fun h => by have := hev h; omega)) ((by omega)) ((by rw [← e4]; exact hb4)) ((fun h => ⟨(w1 h).1, (w3 h).1, (w1 h).2, (w3 h).2⟩)) H.size) (cwV 3 htu gU_X8_puts rfl rfl rfl (by decide +kernel) ⟨show 311 + 1 ≤ 3 * fu + 322 by omega, show 8 + (4 + 11) + 8922 ≤ 80 * fu + 9147 by omega⟩) hP hK rfl hl.1 rfl (lv_room (Nat.le_of_ble_eq_true rfl)) dX8_types_244) hS (fun o_60 F_61 H locs hw_62 hP hS => ?_)
      try dsimp only at hw_62
      obtain ⟨ix4, lf4, X4⟩ := hw_62
      rw [← e4] at X4
      have bb : sto Y4 = 0 → sto Y3.1 = 0 := X4.2.2.2.2.2.2.2.2
      have xx : nT Y3.1 ≤ nT Y4 := X4.2.2.2.2.2.2.2.1.1
      have w1 := fun h => (⟨(w1 (bb h)).1, Nat.lt_of_lt_of_le (w1 (bb h)).2 xx⟩ : _ ∧ _ < nT Y4)
      have w2 := fun h => (⟨(w2 (bb h)).1, Nat.lt_of_lt_of_le (w2 (bb h)).2 xx⟩ : _ ∧ _ < nT Y4)
      have w3 := fun h => (⟨(w3 (bb h)).1, Nat.lt_of_lt_of_le (w3 (bb h)).2 xx⟩ : _ ∧ _ < nT Y4)
      have T := T.tr X4 hR
      refine lv_iload hx hb dX8_types_247 (lv_at hl 1 rfl) ?_
      exact m_iret (v := r_45) hx hb hr hK hP hS (by rw [ce]; exact ⟨⟨_, _, _, _, T.wk (by rw [cc]; omega) (Nat.le_refl _)⟩, (fun h => w2 h)⟩) dX8_types_249 hlocks
    · skip
      subst g2
      obtain ⟨rfl, rfl⟩ := Prod.mk.inj g3
      obtain ⟨rfl, q2b⟩ := w2 g0
      have b1Y := T.1.1.2.1.1
      have vn := (T.1.2.1.2.2 n hn).2.2.1 (by omega)
      have lq := (T.1.1.2.2.1 Y2.2 q2b)
      refine lv_istore (lv' := [(7, .int (nI (nT Y2.1))), (6, .int (nI Y2.2)), (5, .int r_41), (4, .int (F 4 (6 * n + 1))), (3, .int (nI (tr 10 n))), (0, .ref (mh G)), (1, .int (nI n)), (2, .int (nI lv))]) hx hb dX8_types_215 hl (by decide) rfl (fun ls hl => ?_)
      refine lv_iload hx hb dX8_types_217 (lv_at hl 0 rfl) ?_
      refine lv_bipush (v := (-9)) hx hb dX8_types_219 (by decide) ?_
      refine lv_icmp_eq (tgt := 238) hx hb dX8_types_221 (by decide) (fun c_63 => absurd c_63 (nI_neg (by decide) (by omega))) (fun c_63 => ?_)
      refine lv_aload_n hx hb dX8_types_224 rfl (lv_at hl 5 rfl) ?_
      refine lv_iload hx hb dX8_types_225 (lv_at hl 0 rfl) ?_
      refine lv_aload_n hx hb dX8_types_227 rfl (lv_at hl 5 rfl) ?_
      refine m_get (v := .ref (md G 2)) hx hb htu wu_in hown hK hP 2 (by decide) (htu _ U_3) rfl rfl dX8_types_228 ?_
      refine lv_iload_n hx hb dX8_types_231 rfl (lv_at hl 6 rfl) ?_
      refine m_ald (j := n) (v := nI (tr 1 n)) hx hb hK hP 2 2 rfl (by omega) (by decide) vn.1 dX8_types_232 ?_
      refine lv_iload hx hb dX8_types_233 (lv_at hl 1 rfl) ?_
      refine m_cv (m_runV (As := [.int (nI (nT Y2.1)), .int (nI (tr 1 n)), .int (nI Y2.2)]) (rest := []) ⟨hx, hb, hml, hown, htu⟩ (m_addTo l G hDD (upd o_46 7 (nI (nT Y2.1 + 1))) (fput (fput (fput F_47 8 (nT Y2.1) (nI 2)) 9 (nT Y2.1) (nI 0)) 10 (nT Y2.1) (nI 0)) (nT Y2.1) 0 Y2.2 (nI (tr 1 n)) 0 (lev Y2.1 Y2.2) ((by omega)) ((by omega)) ((by omega)) fput_s (((fput_k (by decide)).trans ((fput_j (by omega)).trans ((fput_k (by decide)).trans lq.2.1)))) (((fput_k (by decide)).trans fput_s)) ((by omega)) lq.2.2.2 H.size) (cwV 3 htu gU_X8_addTo rfl rfl rfl (by decide +kernel) ⟨show 0 + 1 ≤ 3 * fu + 322 by omega, show 8 + (4 + 11) + 0 ≤ 80 * fu + 9147 by omega⟩) hP hK rfl hl.1 rfl (lv_room (Nat.le_of_ble_eq_true rfl)) dX8_types_235) hS (fun o_65 F_66 H locs hw_67 hP hS => ?_)
      try dsimp only at hw_67
      obtain ⟨h91, h92⟩ := Prod.mk.inj hw_67
      subst h91
      subst h92
      have rp := (Rp.start (s := Y2.1) (o0 := o_46) (F0 := F_47)).add (la := tr 1 n) (x := Y2.2) (k := 0) (lv := max 0 (lev Y2.1 Y2.2)) q2b vn.2 rfl rfl
      obtain ⟨d1, d2, d3, d4, d5⟩ := Rp.done rp T.1.1 g0 g1 (show 1 ≤ 6 by decide)
      have e3c : Y3 = mkR Y2.1 ([] ++ [tr 1 n]) ([] ++ [Y2.2]) := e3
      rw [← e3c] at d1 d2 d3 d4
      have X3 := TW.leaf (k := fu + 1 + 60) T.1 d1 Px.rf d5 (by decide) (by rw [e3]; exact x_mkR _ _ _) (by rw [e3]; exact k_mkR _ _ _) (by rw [e3]; exact mkR_sto)
      have w3 : sto Y3.1 = 0 → nI (nT Y2.1) = nI Y3.2 ∧ Y3.2 < nT Y3.1 := fun _ => ⟨by rw [d2], by rw [d2, d4]; omega⟩
      have bb : sto Y3.1 = 0 → sto Y2.1 = 0 := X3.2.2.2.2.2.2.2.2
      have xx : nT Y2.1 ≤ nT Y3.1 := X3.2.2.2.2.2.2.2.1.1
      have w1 := fun h => (⟨(w1 (bb h)).1, Nat.lt_of_lt_of_le (w1 (bb h)).2 xx⟩ : _ ∧ _ < nT Y3.1)
      have w2 := fun h => (⟨(w2 (bb h)).1, Nat.lt_of_lt_of_le (w2 (bb h)).2 xx⟩ : _ ∧ _ < nT Y3.1)
      have T := T.tr X3 hR
      obtain ⟨hmv, hhv, hev, hxv⟩ := T.2.2.2.2.1.at hh (by omega)
      refine lv_aload_n hx hb dX8_types_238 rfl (lv_at hl 5 rfl) ?_
      refine lv_iload_n hx hb dX8_types_239 rfl (lv_at hl 6 rfl) ?_
      refine lv_iload hx hb dX8_types_240 (lv_at hl 2 rfl) ?_
      refine lv_iload hx hb dX8_types_242 (lv_at hl 0 rfl) ?_
      refine m_cv (m_runV (As := [.int (nI n), .int r_41, .int (nI (nT Y2.1))]) (rest := []) ⟨hx, hb, hml, hown, htu⟩ (m_puts l G hDD (upd o_46 7 (nI (nT Y2.1 + 1))) (fput (fput (fput (fput (fput (fput (fput F_47 8 (nT Y2.1) (nI 2)) 9 (nT Y2.1) (nI 0)) 10 (nT Y2.1) (nI 0)) 12 (6 * nT Y2.1 + 0) (nI (tr 1 n))) 13 (6 * nT Y2.1 + 0) (nI Y2.2)) 10 (nT Y2.1) (nI (0 + 1))) 9 (nT Y2.1) (nI (max 0 (lev Y2.1 Y2.2)))) tr N top gs1 Y3.1 ix1 lf1 an1 (fu + 1 + 60) n Y1.2 Y3.2 hmv r_41 (nI (nT Y2.1)) T.1 ((by omega)) hhv ((by omega)) ((fun h => by have := hev h; omega)) ((by omega)) ((by rw [← e4]; exact hb4)) ((fun h => ⟨(w1 h).1, (w3 h).1, (w1 h).2, (w3 h).2⟩)) H.size) (cwV 3 htu gU_X8_puts rfl rfl rfl (by decide +kernel) ⟨show 311 + 1 ≤ 3 * fu + 322 by omega, show 8 + (4 + 11) + 8922 ≤ 80 * fu + 9147 by omega⟩) hP hK rfl hl.1 rfl (lv_room (Nat.le_of_ble_eq_true rfl)) dX8_types_244) hS (fun o_69 F_70 H locs hw_71 hP hS => ?_)
      try dsimp only at hw_71
      obtain ⟨ix4, lf4, X4⟩ := hw_71
      rw [← e4] at X4
      have bb : sto Y4 = 0 → sto Y3.1 = 0 := X4.2.2.2.2.2.2.2.2
      have xx : nT Y3.1 ≤ nT Y4 := X4.2.2.2.2.2.2.2.1.1
      have w1 := fun h => (⟨(w1 (bb h)).1, Nat.lt_of_lt_of_le (w1 (bb h)).2 xx⟩ : _ ∧ _ < nT Y4)
      have w2 := fun h => (⟨(w2 (bb h)).1, Nat.lt_of_lt_of_le (w2 (bb h)).2 xx⟩ : _ ∧ _ < nT Y4)
      have w3 := fun h => (⟨(w3 (bb h)).1, Nat.lt_of_lt_of_le (w3 (bb h)).2 xx⟩ : _ ∧ _ < nT Y4)
      have T := T.tr X4 hR
      refine lv_iload hx hb dX8_types_247 (lv_at hl 1 rfl) ?_
      exact m_iret (v := nI Y2.2) hx hb hr hK hP hS (by rw [ce]; exact ⟨⟨_, _, _, _, T.wk (by rw [cc]; omega) (Nat.le_refl _)⟩, (fun h => w2 h)⟩) dX8_types_249 hlocks
  · skip
    have pe : prts (tr 0 n) (tr 2 n) = 2 := by rw [hkd]; rfl
    have pf0 := (hT.2.2 n hn).2.2.2.2.2.2.1 0 (by rw [pe]; decide)
    have pf1 := (hT.2.2 n hn).2.2.2.2.2.2.1 1 (by rw [pe]; decide)
    have cc := cnt_2 (k := fu) (n := n) pe
    rw [cc] at han
    have cp0 : 1 ≤ cntT tr fu (tr 10 n) := cnt_pos
    have cp1 : 1 ≤ cntT tr fu (tr 11 n) := cnt_pos
    have T := TW.rf (k := fu + 1 + 60) hTS
    obtain ⟨Y1, Y2, Y3, e1, e2, e3, ce⟩ := ty_7 (tr := tr) (top := top) (k := fu) (n := n) (l := lv) h0 hkd
    rw [ce] at hb0
    have hb3 : bnd Y3.1 ≤ 200000 := hb0
    have hb2 : bnd Y2 ≤ 200000 := (Nat.le_trans (by rw [e3]; exact b_ty _ _ _ _ _ _) hb3)
    have hb1 : bnd Y1.1 ≤ 200000 := (by rw [e2, b_gives] at hb2; exact hb2)
    refine lv_aload_n hx hb dX8_types_0 rfl (lv_at hl 0 rfl) ?_
    refine m_get (v := .ref (md G 4)) hx hb htu wu_in hown hK hP 4 (by decide) (htu _ U_6) rfl rfl dX8_types_1 ?_
    refine lv_bipush (v := 6) hx hb dX8_types_4 (by decide) ?_
    refine lv_iload_n hx hb dX8_types_6 rfl (lv_at hl 1 rfl) ?_
    refine lv_imul hx hb dX8_types_7 ?_
    refine m_top (y := nI (6 * n)) (pk_mul 6 n) ?_
    refine m_ald (j := 6 * n) (v := nI (tr 10 n)) hx hb hK hP 4 4 rfl (by omega) (by decide) (show F 4 (6 * n) = _ from pf0.1) dX8_types_8 ?_
    refine lv_istore_n (lv' := [(3, .int (nI (tr 10 n))), (0, .ref (mh G)), (1, .int (nI n)), (2, .int (nI lv))]) hx hb dX8_types_9 rfl hl (by decide) rfl (fun ls hl => ?_)
    refine lv_aload_n hx hb dX8_types_10 rfl (lv_at hl 1 rfl) ?_
    refine m_get (v := .ref (md G 4)) hx hb htu wu_in hown hK hP 4 (by decide) (htu _ U_6) rfl rfl dX8_types_11 ?_
    refine lv_bipush (v := 6) hx hb dX8_types_14 (by decide) ?_
    refine lv_iload_n hx hb dX8_types_16 rfl (lv_at hl 2 rfl) ?_
    refine lv_imul hx hb dX8_types_17 ?_
    refine m_top (y := nI (6 * n)) (pk_mul 6 n) ?_
    refine lv_iconst (v := 1) hx hb dX8_types_18 (by decide) ?_
    refine lv_iadd hx hb dX8_types_19 ?_
    refine m_top (y := nI (6 * n + 1)) (nI_add (6 * n) 1) ?_
    refine m_ald (j := 6 * n + 1) (v := nI (tr 11 n)) hx hb hK hP 4 4 rfl (by omega) (by decide) pf1.1 dX8_types_20 ?_
    refine lv_istore (lv' := [(4, .int (nI (tr 11 n))), (3, .int (nI (tr 10 n))), (0, .ref (mh G)), (1, .int (nI n)), (2, .int (nI lv))]) hx hb dX8_types_21 hl (by decide) rfl (fun ls hl => ?_)
    refine lv_aload_n hx hb dX8_types_23 rfl (lv_at hl 2 rfl) ?_
    refine m_get (v := .ref (md G 1)) hx hb htu wu_in hown hK hP 1 (by decide) (htu _ U_2) rfl rfl dX8_types_24 ?_
    refine lv_iload_n hx hb dX8_types_27 rfl (lv_at hl 3 rfl) ?_
    refine m_ald (j := n) (v := 7) hx hb hK hP 1 1 rfl (by omega) (by decide) ((hT.2.2 n hn).1.trans (congrArg nI hkd)) dX8_types_28 ?_
    refine lv_tableIn (tgt := 250) hx hb dX8_types_29 (by decide) (by decide) (by rfl) (by decide) ?_
    obtain ⟨hmv, hhv, hev, hxv⟩ := T.2.2.2.2.1.at hh (by omega)
    refine lv_aload_n hx hb dX8_types_250 rfl (lv_at hl 2 rfl) ?_
    refine m_get (v := .ref (md G 43)) hx hb htu wu_in hown hK hP 43 (by decide) (htu _ U_92) rfl rfl dX8_types_251 ?_
    refine lv_iload_n hx hb dX8_types_254 rfl (lv_at hl 3 rfl) ?_
    refine lv_aload_n hx hb dX8_types_255 rfl (lv_at hl 2 rfl) ?_
    refine lv_iload_n hx hb dX8_types_256 rfl (lv_at hl 1 rfl) ?_
    refine lv_iload_n hx hb dX8_types_257 rfl (lv_at hl 4 rfl) ?_
    refine lv_iconst (v := 1) hx hb dX8_types_258 (by decide) ?_
    refine lv_iadd hx hb dX8_types_259 ?_
    refine m_top (y := nI (lv + 1)) (nI_add lv 1) ?_
    refine m_ci (m_runV (As := [.int (nI (tr 10 n)), .int (nI (lv + 1))]) (rest := [.int (nI n), .ref (md G 43)]) ⟨hx, hb, hml, hown, htu⟩ (ih l G hDD o F tr N top gs z ix lf an (tr 10 n) (lv + 1) hmv (d + 1) T.1 pf0.2.1 htp ((hup.up pf0.2.2)) ((Cv.part hC pf0.2.2 (fun q h => T.2.2.2.1 q h) (fun h => by rcases h with h | h | h; omega; exact absurd h.2 ((hT.2.2 n hn).2.2.2.2.2.2.2.2 (by omega)); omega))) ((by omega)) ((by omega)) hhv ((by omega)) ((by rw [← e1]; exact hb1)) ((by have := T.2.2.1; omega)) ((fun h => by have := hev h; omega)) ((T.2.2.2.2.2.1.trans hd)) ((by omega)) H.size) (cwV 2 htu gU_X8_typing rfl rfl rfl (by decide +kernel) ⟨show (3 * fu + 320) + 1 ≤ 3 * fu + 322 by omega, show 8 + (4 + 11) + (80 * fu + 9100) ≤ 80 * fu + 9147 by omega⟩) hP hK rfl hl.1 rfl (lv_room (Nat.le_of_ble_eq_true rfl)) dX8_types_260) hS (fun r_72 o_73 F_74 H locs hw_75 hP hS => ?_)
    try dsimp only at hw_75
    obtain ⟨⟨ix1, lf1, an1, gs1, X1⟩, w1⟩ := hw_75
    rw [← e1] at X1 w1
    have X1 := X1.wk (Nat.le_refl _) (show fu + 60 ≤ fu + 1 + 60 by omega)
    have bb : sto Y1.1 = 0 → sto z = 0 := X1.2.2.2.2.2.2.2.2
    have xx : nT z ≤ nT Y1.1 := X1.2.2.2.2.2.2.2.1.1
    have T := T.tr X1 hR
    refine m_ast (j := n) (x := r_72) hx hb hK hP hDD hS 26 43 rfl (by omega) (by decide) (mW_a43 _ _ _ _ _) dX8_types_263 (fun H locs hP hS => ?_)
    refine lv_aload_n hx hb dX8_types_264 rfl (lv_at hl 2 rfl) ?_
    refine m_get (v := .ref (md G 44)) hx hb htu wu_in hown hK hP 44 (by decide) (htu _ U_93) rfl rfl dX8_types_265 ?_
    refine lv_iload_n hx hb dX8_types_268 rfl (lv_at hl 3 rfl) ?_
    refine lv_iload_n hx hb dX8_types_269 rfl (lv_at hl 4 rfl) ?_
    refine m_ast (j := n) (x := nI lv) hx hb hK hP hDD hS 27 44 rfl (by omega) (by decide) (mW_a44 _ _ _ _ _) dX8_types_270 (fun H locs hP hS => ?_)
    have X2 := TW.give (k := fu + 1 + 60) (n := n) (t := Y1.2) (sch := (lv + 1)) (x := r_72) (y := (nI lv)) T.1 (fun h => w1 h) (by rw [if_neg (by omega)]; rfl) (by omega)
    rw [← e2] at X2
    have bb : sto Y2 = 0 → sto Y1.1 = 0 := X2.2.2.2.2.2.2.2.2
    have xx : nT Y1.1 ≤ nT Y2 := X2.2.2.2.2.2.2.2.1.1
    have w1 := fun h => (⟨(w1 (bb h)).1, Nat.lt_of_lt_of_le (w1 (bb h)).2 xx⟩ : _ ∧ _ < nT Y2)
    have T := T.tr X2 hR
    obtain ⟨hmv, hhv, hev, hxv⟩ := T.2.2.2.2.1.at hh (by omega)
    refine lv_aload_n hx hb dX8_types_271 rfl (lv_at hl 2 rfl) ?_
    refine lv_iload hx hb dX8_types_272 (lv_at hl 0 rfl) ?_
    refine lv_iload_n hx hb dX8_types_274 rfl (lv_at hl 4 rfl) ?_
    refine m_ci (m_runV (As := [.int (nI (tr 11 n)), .int (nI lv)]) (rest := []) ⟨hx, hb, hml, hown, htu⟩ (ih l G hDD o_73 (fput (fput F_74 43 n r_72) 44 n (nI lv)) tr N top ((fun q => q = n ∨ gs1 q)) Y2 ix1 lf1 an1 (tr 11 n) lv hmv (d + 1) T.1 pf1.2.1 htp ((hup.up pf1.2.2)) ((Cv.part hC pf1.2.2 (fun q h => T.2.2.2.1 q h) (fun _ => Or.inl rfl))) ((by omega)) ((by omega)) hhv ((by omega)) ((by rw [← e3]; exact hb3)) ((by have := T.2.2.1; omega)) ((fun h => by have := hev h; omega)) ((T.2.2.2.2.2.1.trans hd)) ((by omega)) H.size) (cwV 2 htu gU_X8_typing rfl rfl rfl (by decide +kernel) ⟨show (3 * fu + 320) + 1 ≤ 3 * fu + 322 by omega, show 8 + (4 + 11) + (80 * fu + 9100) ≤ 80 * fu + 9147 by omega⟩) hP hK rfl hl.1 rfl (lv_room (Nat.le_of_ble_eq_true rfl)) dX8_types_275) hS (fun r_76 o_77 F_78 H locs hw_79 hP hS => ?_)
    try dsimp only at hw_79
    obtain ⟨⟨ix3, lf3, an3, gs3, X3⟩, w3⟩ := hw_79
    rw [← e3] at X3 w3
    have X3 := X3.wk (Nat.le_refl _) (show fu + 60 ≤ fu + 1 + 60 by omega)
    have gq3 := X3.2.2.2.1 n (Or.inl rfl)
    have bb : sto Y3.1 = 0 → sto Y2 = 0 := X3.2.2.2.2.2.2.2.2
    have xx : nT Y2 ≤ nT Y3.1 := X3.2.2.2.2.2.2.2.1.1
    have w1 := fun h => (⟨(w1 (bb h)).1, Nat.lt_of_lt_of_le (w1 (bb h)).2 xx⟩ : _ ∧ _ < nT Y3.1)
    have T := T.tr X3 hR
    exact m_iret (v := r_76) hx hb hr hK hP hS (by rw [ce]; exact ⟨⟨_, _, _, _, T.wk (by rw [cc]; omega) (Nat.le_refl _)⟩, (fun h => w3 h)⟩) dX8_types_278 hlocks
  · skip
    have pe : prts (tr 0 n) (tr 2 n) = 2 := by rw [hkd]; rfl
    have pf0 := (hT.2.2 n hn).2.2.2.2.2.2.1 0 (by rw [pe]; decide)
    have pf1 := (hT.2.2 n hn).2.2.2.2.2.2.1 1 (by rw [pe]; decide)
    have cc := cnt_2 (k := fu) (n := n) pe
    rw [cc] at han
    have cp0 : 1 ≤ cntT tr fu (tr 10 n) := cnt_pos
    have cp1 : 1 ≤ cntT tr fu (tr 11 n) := cnt_pos
    have T := TW.rf (k := fu + 1 + 60) hTS
    obtain ⟨Y1, Y2, Y3, Y4, Y5, Y6, e1, e2, e3, e4, e5, e6, ce⟩ := ty_8 (tr := tr) (top := top) (k := fu) (n := n) (l := lv) h0 hkd
    rw [ce] at hb0
    have hb6 : bnd Y6.1 ≤ 200000 := hb0
    have hb5 : bnd Y5 ≤ 200000 := (Nat.le_trans (by rw [e6]; exact b_ty _ _ _ _ _ _) hb6)
    have hb4 : bnd Y4 ≤ 200000 := (by rw [e5, b_w1 _ _ _ _ (by omega)] at hb5; exact hb5)
    have hb3 : bnd Y3.1 ≤ 200000 := (Nat.le_trans (by rw [e4]; exact b_puts _ _ _ _) hb4)
    refine lv_aload_n hx hb dX8_types_0 rfl (lv_at hl 0 rfl) ?_
    refine m_get (v := .ref (md G 4)) hx hb htu wu_in hown hK hP 4 (by decide) (htu _ U_6) rfl rfl dX8_types_1 ?_
    refine lv_bipush (v := 6) hx hb dX8_types_4 (by decide) ?_
    refine lv_iload_n hx hb dX8_types_6 rfl (lv_at hl 1 rfl) ?_
    refine lv_imul hx hb dX8_types_7 ?_
    refine m_top (y := nI (6 * n)) (pk_mul 6 n) ?_
    refine m_ald (j := 6 * n) (v := nI (tr 10 n)) hx hb hK hP 4 4 rfl (by omega) (by decide) (show F 4 (6 * n) = _ from pf0.1) dX8_types_8 ?_
    refine lv_istore_n (lv' := [(3, .int (nI (tr 10 n))), (0, .ref (mh G)), (1, .int (nI n)), (2, .int (nI lv))]) hx hb dX8_types_9 rfl hl (by decide) rfl (fun ls hl => ?_)
    refine lv_aload_n hx hb dX8_types_10 rfl (lv_at hl 1 rfl) ?_
    refine m_get (v := .ref (md G 4)) hx hb htu wu_in hown hK hP 4 (by decide) (htu _ U_6) rfl rfl dX8_types_11 ?_
    refine lv_bipush (v := 6) hx hb dX8_types_14 (by decide) ?_
    refine lv_iload_n hx hb dX8_types_16 rfl (lv_at hl 2 rfl) ?_
    refine lv_imul hx hb dX8_types_17 ?_
    refine m_top (y := nI (6 * n)) (pk_mul 6 n) ?_
    refine lv_iconst (v := 1) hx hb dX8_types_18 (by decide) ?_
    refine lv_iadd hx hb dX8_types_19 ?_
    refine m_top (y := nI (6 * n + 1)) (nI_add (6 * n) 1) ?_
    refine m_ald (j := 6 * n + 1) (v := nI (tr 11 n)) hx hb hK hP 4 4 rfl (by omega) (by decide) pf1.1 dX8_types_20 ?_
    refine lv_istore (lv' := [(4, .int (nI (tr 11 n))), (3, .int (nI (tr 10 n))), (0, .ref (mh G)), (1, .int (nI n)), (2, .int (nI lv))]) hx hb dX8_types_21 hl (by decide) rfl (fun ls hl => ?_)
    refine lv_aload_n hx hb dX8_types_23 rfl (lv_at hl 2 rfl) ?_
    refine m_get (v := .ref (md G 1)) hx hb htu wu_in hown hK hP 1 (by decide) (htu _ U_2) rfl rfl dX8_types_24 ?_
    refine lv_iload_n hx hb dX8_types_27 rfl (lv_at hl 3 rfl) ?_
    refine m_ald (j := n) (v := 8) hx hb hK hP 1 1 rfl (by omega) (by decide) ((hT.2.2 n hn).1.trans (congrArg nI hkd)) dX8_types_28 ?_
    refine lv_tableIn (tgt := 279) hx hb dX8_types_29 (by decide) (by decide) (by rfl) (by decide) ?_
    refine lv_aload_n hx hb dX8_types_279 rfl (lv_at hl 2 rfl) ?_
    refine lv_iload_n hx hb dX8_types_280 rfl (lv_at hl 3 rfl) ?_
    refine lv_iload_n hx hb dX8_types_281 rfl (lv_at hl 4 rfl) ?_
    refine lv_iconst (v := 1) hx hb dX8_types_282 (by decide) ?_
    refine lv_iadd hx hb dX8_types_283 ?_
    refine m_top (y := nI (lv + 1)) (nI_add lv 1) ?_
    refine m_ci (m_runV (As := [.int (nI n), .int (nI (lv + 1))]) (rest := []) ⟨hx, hb, hml, hown, htu⟩ (m_fresh l G hDD o F tr N top gs z ix lf an (fu + 1 + 60) n (lv + 1) T.1 ((by omega)) ((by omega)) H.size) (cwV 2 htu gU_X8_fresh rfl rfl rfl (by decide +kernel) ⟨show 3 + 1 ≤ 3 * fu + 322 by omega, show 8 + (3 + 11) + 67 ≤ 80 * fu + 9147 by omega⟩) hP hK rfl hl.1 rfl (lv_room (Nat.le_of_ble_eq_true rfl)) dX8_types_284) hS (fun r_80 o_81 F_82 H locs hw_83 hP hS => ?_)
    try dsimp only at hw_83
    obtain ⟨X1, w1⟩ := hw_83
    rw [← e1] at X1 w1
    have bb : sto Y1.1 = 0 → sto z = 0 := X1.2.2.2.2.2.2.2.2
    have xx : nT z ≤ nT Y1.1 := X1.2.2.2.2.2.2.2.1.1
    have T := T.tr X1 hR
    refine lv_istore (lv' := [(5, .int r_80), (4, .int (nI (tr 11 n))), (3, .int (nI (tr 10 n))), (0, .ref (mh G)), (1, .int (nI n)), (2, .int (nI lv))]) hx hb dX8_types_287 hl (by decide) rfl (fun ls hl => ?_)
    refine lv_aload_n hx hb dX8_types_289 rfl (lv_at hl 3 rfl) ?_
    refine m_get (v := .ref (md G 43)) hx hb htu wu_in hown hK hP 43 (by decide) (htu _ U_92) rfl rfl dX8_types_290 ?_
    refine lv_iload_n hx hb dX8_types_293 rfl (lv_at hl 4 rfl) ?_
    refine lv_iload hx hb dX8_types_294 (lv_at hl 0 rfl) ?_
    refine m_ast (j := n) (x := r_80) hx hb hK hP hDD hS 26 43 rfl (by omega) (by decide) (mW_a43 _ _ _ _ _) dX8_types_296 (fun H locs hP hS => ?_)
    refine lv_aload_n hx hb dX8_types_297 rfl (lv_at hl 3 rfl) ?_
    refine m_get (v := .ref (md G 44)) hx hb htu wu_in hown hK hP 44 (by decide) (htu _ U_93) rfl rfl dX8_types_298 ?_
    refine lv_iload_n hx hb dX8_types_301 rfl (lv_at hl 4 rfl) ?_
    refine lv_bipush (v := (-9)) hx hb dX8_types_302 (by decide) ?_
    refine m_ast (j := n) (x := (-9)) hx hb hK hP hDD hS 27 44 rfl (by omega) (by decide) (mW_a44 _ _ _ _ _) dX8_types_304 (fun H locs hP hS => ?_)
    have X2 := TW.give (k := fu + 1 + 60) (n := n) (t := Y1.2) (sch := 0) (x := r_80) (y := (-9)) T.1 (fun h => w1 h) rfl (by omega)
    rw [← e2] at X2
    have bb : sto Y2 = 0 → sto Y1.1 = 0 := X2.2.2.2.2.2.2.2.2
    have xx : nT Y1.1 ≤ nT Y2 := X2.2.2.2.2.2.2.2.1.1
    have w1 := fun h => (⟨(w1 (bb h)).1, Nat.lt_of_lt_of_le (w1 (bb h)).2 xx⟩ : _ ∧ _ < nT Y2)
    have T := T.tr X2 hR
    obtain ⟨hmv, hhv, hev, hxv⟩ := T.2.2.2.2.1.at hh (by omega)
    refine lv_aload_n hx hb dX8_types_305 rfl (lv_at hl 3 rfl) ?_
    refine lv_iload_n hx hb dX8_types_306 rfl (lv_at hl 2 rfl) ?_
    refine lv_iload_n hx hb dX8_types_307 rfl (lv_at hl 5 rfl) ?_
    refine lv_iconst (v := 1) hx hb dX8_types_308 (by decide) ?_
    refine lv_iadd hx hb dX8_types_309 ?_
    refine m_top (y := nI (lv + 1)) (nI_add lv 1) ?_
    refine m_ci (m_runV (As := [.int (nI (tr 10 n)), .int (nI (lv + 1))]) (rest := []) ⟨hx, hb, hml, hown, htu⟩ (ih l G hDD o_81 (fput (fput F_82 43 n r_80) 44 n ((-9))) tr N top ((fun q => q = n ∨ gs q)) Y2 ix lf an (tr 10 n) (lv + 1) hmv (d + 1) T.1 pf0.2.1 htp ((hup.up pf0.2.2)) ((Cv.part hC pf0.2.2 (fun q h => T.2.2.2.1 q h) (fun _ => Or.inl rfl))) ((by omega)) ((by omega)) hhv ((by omega)) ((by rw [← e3]; exact hb3)) ((by have := T.2.2.1; omega)) ((fun h => by have := hev h; omega)) ((T.2.2.2.2.2.1.trans hd)) ((by omega)) H.size) (cwV 2 htu gU_X8_typing rfl rfl rfl (by decide +kernel) ⟨show (3 * fu + 320) + 1 ≤ 3 * fu + 322 by omega, show 8 + (4 + 11) + (80 * fu + 9100) ≤ 80 * fu + 9147 by omega⟩) hP hK rfl hl.1 rfl (lv_room (Nat.le_of_ble_eq_true rfl)) dX8_types_310) hS (fun r_84 o_85 F_86 H locs hw_87 hP hS => ?_)
    try dsimp only at hw_87
    obtain ⟨⟨ix3, lf3, an3, gs3, X3⟩, w3⟩ := hw_87
    rw [← e3] at X3 w3
    have X3 := X3.wk (Nat.le_refl _) (show fu + 60 ≤ fu + 1 + 60 by omega)
    have gq3 := X3.2.2.2.1 n (Or.inl rfl)
    have bb : sto Y3.1 = 0 → sto Y2 = 0 := X3.2.2.2.2.2.2.2.2
    have xx : nT Y2 ≤ nT Y3.1 := X3.2.2.2.2.2.2.2.1.1
    have w1 := fun h => (⟨(w1 (bb h)).1, Nat.lt_of_lt_of_le (w1 (bb h)).2 xx⟩ : _ ∧ _ < nT Y3.1)
    have T := T.tr X3 hR
    refine lv_istore (lv' := [(6, .int r_84), (5, .int r_80), (4, .int (nI (tr 11 n))), (3, .int (nI (tr 10 n))), (0, .ref (mh G)), (1, .int (nI n)), (2, .int (nI lv))]) hx hb dX8_types_313 hl (by decide) rfl (fun ls hl => ?_)
    obtain ⟨hmv, hhv, hev, hxv⟩ := T.2.2.2.2.1.at hh (by omega)
    refine lv_aload_n hx hb dX8_types_315 rfl (lv_at hl 4 rfl) ?_
    refine lv_iload_n hx hb dX8_types_316 rfl (lv_at hl 5 rfl) ?_
    refine lv_iload hx hb dX8_types_317 (lv_at hl 0 rfl) ?_
    refine lv_iload hx hb dX8_types_319 (lv_at hl 1 rfl) ?_
    refine m_cv (m_runV (As := [.int (nI n), .int r_84, .int r_80]) (rest := []) ⟨hx, hb, hml, hown, htu⟩ (m_puts l G hDD o_85 F_86 tr N top gs3 Y3.1 ix3 lf3 an3 (fu + 1 + 60) n Y3.2 Y1.2 hmv r_84 r_80 T.1 ((by omega)) hhv ((by omega)) ((fun h => by have := hev h; omega)) ((by omega)) ((by rw [← e4]; exact hb4)) ((fun h => ⟨(w3 h).1, (w1 h).1, (w3 h).2, (w1 h).2⟩)) H.size) (cwV 3 htu gU_X8_puts rfl rfl rfl (by decide +kernel) ⟨show 311 + 1 ≤ 3 * fu + 322 by omega, show 8 + (4 + 11) + 8922 ≤ 80 * fu + 9147 by omega⟩) hP hK rfl hl.1 rfl (lv_room (Nat.le_of_ble_eq_true rfl)) dX8_types_321) hS (fun o_89 F_90 H locs hw_91 hP hS => ?_)
    try dsimp only at hw_91
    obtain ⟨ix4, lf4, X4⟩ := hw_91
    rw [← e4] at X4
    have bb : sto Y4 = 0 → sto Y3.1 = 0 := X4.2.2.2.2.2.2.2.2
    have xx : nT Y3.1 ≤ nT Y4 := X4.2.2.2.2.2.2.2.1.1
    have w1 := fun h => (⟨(w1 (bb h)).1, Nat.lt_of_lt_of_le (w1 (bb h)).2 xx⟩ : _ ∧ _ < nT Y4)
    have w3 := fun h => (⟨(w3 (bb h)).1, Nat.lt_of_lt_of_le (w3 (bb h)).2 xx⟩ : _ ∧ _ < nT Y4)
    have T := T.tr X4 hR
    refine lv_aload_n hx hb dX8_types_324 rfl (lv_at hl 4 rfl) ?_
    refine m_get (v := .ref (md G 44)) hx hb htu wu_in hown hK hP 44 (by decide) (htu _ U_93) rfl rfl dX8_types_325 ?_
    refine lv_iload_n hx hb dX8_types_328 rfl (lv_at hl 5 rfl) ?_
    refine lv_iload_n hx hb dX8_types_329 rfl (lv_at hl 6 rfl) ?_
    refine m_ast (j := n) (x := nI lv) hx hb hK hP hDD hS 27 44 rfl (by omega) (by decide) (mW_a44 _ _ _ _ _) dX8_types_330 (fun H locs hP hS => ?_)
    have X5 := TW.sch (k := fu + 1 + 60) (n := n) (l := lv) T.1 (by omega)
    rw [← e5] at X5
    have bb : sto Y5 = 0 → sto Y4 = 0 := X5.2.2.2.2.2.2.2.2
    have xx : nT Y4 ≤ nT Y5 := X5.2.2.2.2.2.2.2.1.1
    have w1 := fun h => (⟨(w1 (bb h)).1, Nat.lt_of_lt_of_le (w1 (bb h)).2 xx⟩ : _ ∧ _ < nT Y5)
    have w3 := fun h => (⟨(w3 (bb h)).1, Nat.lt_of_lt_of_le (w3 (bb h)).2 xx⟩ : _ ∧ _ < nT Y5)
    have T := T.tr X5 hR
    obtain ⟨hmv, hhv, hev, hxv⟩ := T.2.2.2.2.1.at hh (by omega)
    refine lv_aload_n hx hb dX8_types_331 rfl (lv_at hl 4 rfl) ?_
    refine lv_iload hx hb dX8_types_332 (lv_at hl 2 rfl) ?_
    refine lv_iload_n hx hb dX8_types_334 rfl (lv_at hl 6 rfl) ?_
    refine m_ci (m_runV (As := [.int (nI (tr 11 n)), .int (nI lv)]) (rest := []) ⟨hx, hb, hml, hown, htu⟩ (ih l G hDD o_89 (fput F_90 44 n (nI lv)) tr N top gs3 Y5 ix4 lf4 an3 (tr 11 n) lv hmv (d + 1) T.1 pf1.2.1 htp ((hup.up pf1.2.2)) ((Cv.part hC pf1.2.2 (fun q h => T.2.2.2.1 q h) (fun _ => gq3))) ((by omega)) ((by omega)) hhv ((by omega)) ((by rw [← e6]; exact hb6)) ((by have := T.2.2.1; omega)) ((fun h => by have := hev h; omega)) ((T.2.2.2.2.2.1.trans hd)) ((by omega)) H.size) (cwV 2 htu gU_X8_typing rfl rfl rfl (by decide +kernel) ⟨show (3 * fu + 320) + 1 ≤ 3 * fu + 322 by omega, show 8 + (4 + 11) + (80 * fu + 9100) ≤ 80 * fu + 9147 by omega⟩) hP hK rfl hl.1 rfl (lv_room (Nat.le_of_ble_eq_true rfl)) dX8_types_335) hS (fun r_92 o_93 F_94 H locs hw_95 hP hS => ?_)
    try dsimp only at hw_95
    obtain ⟨⟨ix6, lf6, an6, gs6, X6⟩, w6⟩ := hw_95
    rw [← e6] at X6 w6
    have X6 := X6.wk (Nat.le_refl _) (show fu + 60 ≤ fu + 1 + 60 by omega)
    have gq6 := X6.2.2.2.1 n (gq3)
    have bb : sto Y6.1 = 0 → sto Y5 = 0 := X6.2.2.2.2.2.2.2.2
    have xx : nT Y5 ≤ nT Y6.1 := X6.2.2.2.2.2.2.2.1.1
    have w1 := fun h => (⟨(w1 (bb h)).1, Nat.lt_of_lt_of_le (w1 (bb h)).2 xx⟩ : _ ∧ _ < nT Y6.1)
    have w3 := fun h => (⟨(w3 (bb h)).1, Nat.lt_of_lt_of_le (w3 (bb h)).2 xx⟩ : _ ∧ _ < nT Y6.1)
    have T := T.tr X6 hR
    exact m_iret (v := r_92) hx hb hr hK hP hS (by rw [ce]; exact ⟨⟨_, _, _, _, T.wk (by rw [cc]; omega) (Nat.le_refl _)⟩, (fun h => w6 h)⟩) dX8_types_338 hlocks
  · skip
    have pe : prts (tr 0 n) (tr 2 n) = 3 := by rw [hkd]; rfl
    have pf0 := (hT.2.2 n hn).2.2.2.2.2.2.1 0 (by rw [pe]; decide)
    have pf1 := (hT.2.2 n hn).2.2.2.2.2.2.1 1 (by rw [pe]; decide)
    have pf2 := (hT.2.2 n hn).2.2.2.2.2.2.1 2 (by rw [pe]; decide)
    have cc := cnt_3 (k := fu) (n := n) pe
    rw [cc] at han
    have cp0 : 1 ≤ cntT tr fu (tr 10 n) := cnt_pos
    have cp1 : 1 ≤ cntT tr fu (tr 11 n) := cnt_pos
    have cp2 : 1 ≤ cntT tr fu (tr 12 n) := cnt_pos
    have T := TW.rf (k := fu + 1 + 60) hTS
    obtain ⟨Y1, Y2, Y3, Y4, Y5, Y6, Y7, e1, e2, e3, e4, e5, e6, e7, ce⟩ := ty_9 (tr := tr) (top := top) (k := fu) (n := n) (l := lv) h0 hkd
    rw [ce] at hb0
    have hb7 : bnd Y7 ≤ 200000 := hb0
    have hb6 : bnd Y6.1 ≤ 200000 := (Nat.le_trans (by rw [e7]; exact b_puts _ _ _ _) hb7)
    have hb5 : bnd Y5 ≤ 200000 := (Nat.le_trans (by rw [e6]; exact b_ty _ _ _ _ _ _) hb6)
    have hb4 : bnd Y4.1 ≤ 200000 := (Nat.le_trans (by rw [e5]; exact b_puts _ _ _ _) hb5)
    have hb3 : bnd Y3.1 ≤ 200000 := (Nat.le_trans (by rw [e4]; exact b_ty _ _ _ _ _ _) hb4)
    have hb2 : bnd Y2 ≤ 200000 := (by rw [e3, b_fresh] at hb3; exact hb3)
    have hb1 : bnd Y1.1 ≤ 200000 := (Nat.le_trans (by rw [e2]; exact b_puts _ _ _ _) hb2)
    refine lv_aload_n hx hb dX8_types_0 rfl (lv_at hl 0 rfl) ?_
    refine m_get (v := .ref (md G 4)) hx hb htu wu_in hown hK hP 4 (by decide) (htu _ U_6) rfl rfl dX8_types_1 ?_
    refine lv_bipush (v := 6) hx hb dX8_types_4 (by decide) ?_
    refine lv_iload_n hx hb dX8_types_6 rfl (lv_at hl 1 rfl) ?_
    refine lv_imul hx hb dX8_types_7 ?_
    refine m_top (y := nI (6 * n)) (pk_mul 6 n) ?_
    refine m_ald (j := 6 * n) (v := nI (tr 10 n)) hx hb hK hP 4 4 rfl (by omega) (by decide) (show F 4 (6 * n) = _ from pf0.1) dX8_types_8 ?_
    refine lv_istore_n (lv' := [(3, .int (nI (tr 10 n))), (0, .ref (mh G)), (1, .int (nI n)), (2, .int (nI lv))]) hx hb dX8_types_9 rfl hl (by decide) rfl (fun ls hl => ?_)
    refine lv_aload_n hx hb dX8_types_10 rfl (lv_at hl 1 rfl) ?_
    refine m_get (v := .ref (md G 4)) hx hb htu wu_in hown hK hP 4 (by decide) (htu _ U_6) rfl rfl dX8_types_11 ?_
    refine lv_bipush (v := 6) hx hb dX8_types_14 (by decide) ?_
    refine lv_iload_n hx hb dX8_types_16 rfl (lv_at hl 2 rfl) ?_
    refine lv_imul hx hb dX8_types_17 ?_
    refine m_top (y := nI (6 * n)) (pk_mul 6 n) ?_
    refine lv_iconst (v := 1) hx hb dX8_types_18 (by decide) ?_
    refine lv_iadd hx hb dX8_types_19 ?_
    refine m_top (y := nI (6 * n + 1)) (nI_add (6 * n) 1) ?_
    refine m_ald (j := 6 * n + 1) (v := nI (tr 11 n)) hx hb hK hP 4 4 rfl (by omega) (by decide) pf1.1 dX8_types_20 ?_
    refine lv_istore (lv' := [(4, .int (nI (tr 11 n))), (3, .int (nI (tr 10 n))), (0, .ref (mh G)), (1, .int (nI n)), (2, .int (nI lv))]) hx hb dX8_types_21 hl (by decide) rfl (fun ls hl => ?_)
    refine lv_aload_n hx hb dX8_types_23 rfl (lv_at hl 2 rfl) ?_
    refine m_get (v := .ref (md G 1)) hx hb htu wu_in hown hK hP 1 (by decide) (htu _ U_2) rfl rfl dX8_types_24 ?_
    refine lv_iload_n hx hb dX8_types_27 rfl (lv_at hl 3 rfl) ?_
    refine m_ald (j := n) (v := 9) hx hb hK hP 1 1 rfl (by omega) (by decide) ((hT.2.2 n hn).1.trans (congrArg nI hkd)) dX8_types_28 ?_
    refine lv_tableIn (tgt := 339) hx hb dX8_types_29 (by decide) (by decide) (by rfl) (by decide) ?_
    obtain ⟨hmv, hhv, hev, hxv⟩ := T.2.2.2.2.1.at hh (by omega)
    refine lv_aload_n hx hb dX8_types_339 rfl (lv_at hl 2 rfl) ?_
    refine lv_iload_n hx hb dX8_types_340 rfl (lv_at hl 1 rfl) ?_
    refine lv_iload_n hx hb dX8_types_341 rfl (lv_at hl 4 rfl) ?_
    refine m_ci (m_runV (As := [.int (nI (tr 10 n)), .int (nI lv)]) (rest := []) ⟨hx, hb, hml, hown, htu⟩ (ih l G hDD o F tr N top gs z ix lf an (tr 10 n) lv hmv (d + 1) T.1 pf0.2.1 htp ((hup.up pf0.2.2)) ((Cv.part hC pf0.2.2 (fun q h => T.2.2.2.1 q h) (fun h => absurd h (ncov (by omega) (by omega) (by omega))))) ((by omega)) ((by omega)) hhv ((by omega)) ((by rw [← e1]; exact hb1)) ((by have := T.2.2.1; omega)) ((fun h => by have := hev h; omega)) ((T.2.2.2.2.2.1.trans hd)) ((by omega)) H.size) (cwV 2 htu gU_X8_typing rfl rfl rfl (by decide +kernel) ⟨show (3 * fu + 320) + 1 ≤ 3 * fu + 322 by omega, show 8 + (4 + 11) + (80 * fu + 9100) ≤ 80 * fu + 9147 by omega⟩) hP hK rfl hl.1 rfl (lv_room (Nat.le_of_ble_eq_true rfl)) dX8_types_342) hS (fun r_96 o_97 F_98 H locs hw_99 hP hS => ?_)
    try dsimp only at hw_99
    obtain ⟨⟨ix1, lf1, an1, gs1, X1⟩, w1⟩ := hw_99
    rw [← e1] at X1 w1
    have X1 := X1.wk (Nat.le_refl _) (show fu + 60 ≤ fu + 1 + 60 by omega)
    have bb : sto Y1.1 = 0 → sto z = 0 := X1.2.2.2.2.2.2.2.2
    have xx : nT z ≤ nT Y1.1 := X1.2.2.2.2.2.2.2.1.1
    have T := T.tr X1 hR
    refine lv_istore (lv' := [(5, .int r_96), (4, .int (nI (tr 11 n))), (3, .int (nI (tr 10 n))), (0, .ref (mh G)), (1, .int (nI n)), (2, .int (nI lv))]) hx hb dX8_types_345 hl (by decide) rfl (fun ls hl => ?_)
    obtain ⟨hmv, hhv, hev, hxv⟩ := T.2.2.2.2.1.at hh (by omega)
    refine lv_aload_n hx hb dX8_types_347 rfl (lv_at hl 3 rfl) ?_
    refine lv_iload_n hx hb dX8_types_348 rfl (lv_at hl 4 rfl) ?_
    refine lv_iload hx hb dX8_types_349 (lv_at hl 0 rfl) ?_
    refine lv_iconst (v := 1) hx hb dX8_types_351 (by decide) ?_
    refine m_cv (m_runV (As := [.int (nI n), .int r_96, .int 1]) (rest := []) ⟨hx, hb, hml, hown, htu⟩ (m_puts l G hDD o_97 F_98 tr N top gs1 Y1.1 ix1 lf1 an1 (fu + 1 + 60) n Y1.2 1 hmv r_96 1 T.1 ((by omega)) hhv ((by omega)) ((fun h => by have := hev h; omega)) ((by omega)) ((by rw [← e2]; exact hb2)) ((fun h => ⟨(w1 h).1, rfl, (w1 h).2, (Nat.lt_of_lt_of_le (by decide) T.1.1.2.1.2.2.2.2.2.2.2)⟩)) H.size) (cwV 3 htu gU_X8_puts rfl rfl rfl (by decide +kernel) ⟨show 311 + 1 ≤ 3 * fu + 322 by omega, show 8 + (4 + 11) + 8922 ≤ 80 * fu + 9147 by omega⟩) hP hK rfl hl.1 rfl (lv_room (Nat.le_of_ble_eq_true rfl)) dX8_types_352) hS (fun o_101 F_102 H locs hw_103 hP hS => ?_)
    try dsimp only at hw_103
    obtain ⟨ix2, lf2, X2⟩ := hw_103
    rw [← e2] at X2
    have bb : sto Y2 = 0 → sto Y1.1 = 0 := X2.2.2.2.2.2.2.2.2
    have xx : nT Y1.1 ≤ nT Y2 := X2.2.2.2.2.2.2.2.1.1
    have w1 := fun h => (⟨(w1 (bb h)).1, Nat.lt_of_lt_of_le (w1 (bb h)).2 xx⟩ : _ ∧ _ < nT Y2)
    have T := T.tr X2 hR
    refine lv_aload_n hx hb dX8_types_355 rfl (lv_at hl 3 rfl) ?_
    refine lv_iload_n hx hb dX8_types_356 rfl (lv_at hl 4 rfl) ?_
    refine lv_iload_n hx hb dX8_types_357 rfl (lv_at hl 5 rfl) ?_
    refine m_ci (m_runV (As := [.int (nI n), .int (nI lv)]) (rest := []) ⟨hx, hb, hml, hown, htu⟩ (m_fresh l G hDD o_101 F_102 tr N top gs1 Y2 ix2 lf2 an1 (fu + 1 + 60) n lv T.1 ((by omega)) ((by omega)) H.size) (cwV 2 htu gU_X8_fresh rfl rfl rfl (by decide +kernel) ⟨show 3 + 1 ≤ 3 * fu + 322 by omega, show 8 + (3 + 11) + 67 ≤ 80 * fu + 9147 by omega⟩) hP hK rfl hl.1 rfl (lv_room (Nat.le_of_ble_eq_true rfl)) dX8_types_358) hS (fun r_104 o_105 F_106 H locs hw_107 hP hS => ?_)
    try dsimp only at hw_107
    obtain ⟨X3, w3⟩ := hw_107
    rw [← e3] at X3 w3
    have bb : sto Y3.1 = 0 → sto Y2 = 0 := X3.2.2.2.2.2.2.2.2
    have xx : nT Y2 ≤ nT Y3.1 := X3.2.2.2.2.2.2.2.1.1
    have w1 := fun h => (⟨(w1 (bb h)).1, Nat.lt_of_lt_of_le (w1 (bb h)).2 xx⟩ : _ ∧ _ < nT Y3.1)
    have T := T.tr X3 hR
    refine lv_istore (lv' := [(6, .int r_104), (5, .int r_96), (4, .int (nI (tr 11 n))), (3, .int (nI (tr 10 n))), (0, .ref (mh G)), (1, .int (nI n)), (2, .int (nI lv))]) hx hb dX8_types_361 hl (by decide) rfl (fun ls hl => ?_)
    obtain ⟨hmv, hhv, hev, hxv⟩ := T.2.2.2.2.1.at hh (by omega)
    refine lv_aload_n hx hb dX8_types_363 rfl (lv_at hl 4 rfl) ?_
    refine lv_iload hx hb dX8_types_364 (lv_at hl 2 rfl) ?_
    refine lv_iload_n hx hb dX8_types_366 rfl (lv_at hl 6 rfl) ?_
    refine m_ci (m_runV (As := [.int (nI (tr 11 n)), .int (nI lv)]) (rest := []) ⟨hx, hb, hml, hown, htu⟩ (ih l G hDD o_105 F_106 tr N top gs1 Y3.1 ix2 lf2 an1 (tr 11 n) lv hmv (d + 1) T.1 pf1.2.1 htp ((hup.up pf1.2.2)) ((Cv.part hC pf1.2.2 (fun q h => T.2.2.2.1 q h) (fun h => absurd h (ncov (by omega) (by omega) (by omega))))) ((by omega)) ((by omega)) hhv ((by omega)) ((by rw [← e4]; exact hb4)) ((by have := T.2.2.1; omega)) ((fun h => by have := hev h; omega)) ((T.2.2.2.2.2.1.trans hd)) ((by omega)) H.size) (cwV 2 htu gU_X8_typing rfl rfl rfl (by decide +kernel) ⟨show (3 * fu + 320) + 1 ≤ 3 * fu + 322 by omega, show 8 + (4 + 11) + (80 * fu + 9100) ≤ 80 * fu + 9147 by omega⟩) hP hK rfl hl.1 rfl (lv_room (Nat.le_of_ble_eq_true rfl)) dX8_types_367) hS (fun r_108 o_109 F_110 H locs hw_111 hP hS => ?_)
    try dsimp only at hw_111
    obtain ⟨⟨ix4, lf4, an4, gs4, X4⟩, w4⟩ := hw_111
    rw [← e4] at X4 w4
    have X4 := X4.wk (Nat.le_refl _) (show fu + 60 ≤ fu + 1 + 60 by omega)
    have bb : sto Y4.1 = 0 → sto Y3.1 = 0 := X4.2.2.2.2.2.2.2.2
    have xx : nT Y3.1 ≤ nT Y4.1 := X4.2.2.2.2.2.2.2.1.1
    have w1 := fun h => (⟨(w1 (bb h)).1, Nat.lt_of_lt_of_le (w1 (bb h)).2 xx⟩ : _ ∧ _ < nT Y4.1)
    have w3 := fun h => (⟨(w3 (bb h)).1, Nat.lt_of_lt_of_le (w3 (bb h)).2 xx⟩ : _ ∧ _ < nT Y4.1)
    have T := T.tr X4 hR
    refine lv_istore (lv' := [(7, .int r_108), (6, .int r_104), (5, .int r_96), (4, .int (nI (tr 11 n))), (3, .int (nI (tr 10 n))), (0, .ref (mh G)), (1, .int (nI n)), (2, .int (nI lv))]) hx hb dX8_types_370 hl (by decide) rfl (fun ls hl => ?_)
    obtain ⟨hmv, hhv, hev, hxv⟩ := T.2.2.2.2.1.at hh (by omega)
    refine lv_aload_n hx hb dX8_types_372 rfl (lv_at hl 5 rfl) ?_
    refine lv_iload_n hx hb dX8_types_373 rfl (lv_at hl 6 rfl) ?_
    refine lv_iload hx hb dX8_types_374 (lv_at hl 0 rfl) ?_
    refine lv_iload hx hb dX8_types_376 (lv_at hl 1 rfl) ?_
    refine m_cv (m_runV (As := [.int (nI n), .int r_108, .int r_104]) (rest := []) ⟨hx, hb, hml, hown, htu⟩ (m_puts l G hDD o_109 F_110 tr N top gs4 Y4.1 ix4 lf4 an4 (fu + 1 + 60) n Y4.2 Y3.2 hmv r_108 r_104 T.1 ((by omega)) hhv ((by omega)) ((fun h => by have := hev h; omega)) ((by omega)) ((by rw [← e5]; exact hb5)) ((fun h => ⟨(w4 h).1, (w3 h).1, (w4 h).2, (w3 h).2⟩)) H.size) (cwV 3 htu gU_X8_puts rfl rfl rfl (by decide +kernel) ⟨show 311 + 1 ≤ 3 * fu + 322 by omega, show 8 + (4 + 11) + 8922 ≤ 80 * fu + 9147 by omega⟩) hP hK rfl hl.1 rfl (lv_room (Nat.le_of_ble_eq_true rfl)) dX8_types_378) hS (fun o_113 F_114 H locs hw_115 hP hS => ?_)
    try dsimp only at hw_115
    obtain ⟨ix5, lf5, X5⟩ := hw_115
    rw [← e5] at X5
    have bb : sto Y5 = 0 → sto Y4.1 = 0 := X5.2.2.2.2.2.2.2.2
    have xx : nT Y4.1 ≤ nT Y5 := X5.2.2.2.2.2.2.2.1.1
    have w1 := fun h => (⟨(w1 (bb h)).1, Nat.lt_of_lt_of_le (w1 (bb h)).2 xx⟩ : _ ∧ _ < nT Y5)
    have w3 := fun h => (⟨(w3 (bb h)).1, Nat.lt_of_lt_of_le (w3 (bb h)).2 xx⟩ : _ ∧ _ < nT Y5)
    have w4 := fun h => (⟨(w4 (bb h)).1, Nat.lt_of_lt_of_le (w4 (bb h)).2 xx⟩ : _ ∧ _ < nT Y5)
    have T := T.tr X5 hR
    obtain ⟨hmv, hhv, hev, hxv⟩ := T.2.2.2.2.1.at hh (by omega)
    have pf2 := (T.1.2.1.2.2 n hn).2.2.2.2.2.2.1 2 (by rw [hkd]; show 2 < 3; decide)
    refine lv_aload_n hx hb dX8_types_381 rfl (lv_at hl 5 rfl) ?_
    refine lv_aload_n hx hb dX8_types_382 rfl (lv_at hl 5 rfl) ?_
    refine m_get (v := .ref (md G 4)) hx hb htu wu_in hown hK hP 4 (by decide) (htu _ U_6) rfl rfl dX8_types_383 ?_
    refine lv_bipush (v := 6) hx hb dX8_types_386 (by decide) ?_
    refine lv_iload_n hx hb dX8_types_388 rfl (lv_at hl 6 rfl) ?_
    refine lv_imul hx hb dX8_types_389 ?_
    refine m_top (y := nI (6 * n)) (pk_mul 6 n) ?_
    refine lv_iconst (v := 2) hx hb dX8_types_390 (by decide) ?_
    refine lv_iadd hx hb dX8_types_391 ?_
    refine m_top (y := nI (6 * n + 2)) (nI_add (6 * n) 2) ?_
    refine m_ald (j := 6 * n + 2) (v := nI (tr 12 n)) hx hb hK hP 4 4 rfl (by omega) (by decide) pf2.1 dX8_types_392 ?_
    refine lv_iload_n hx hb dX8_types_393 rfl (lv_at hl 7 rfl) ?_
    refine m_ci (m_runV (As := [.int (nI (tr 12 n)), .int (nI lv)]) (rest := []) ⟨hx, hb, hml, hown, htu⟩ (ih l G hDD o_113 F_114 tr N top gs4 Y5 ix5 lf5 an4 (tr 12 n) lv hmv (d + 1) T.1 pf2.2.1 htp ((hup.up pf2.2.2)) ((Cv.part hC pf2.2.2 (fun q h => T.2.2.2.1 q h) (fun h => absurd h (ncov (by omega) (by omega) (by omega))))) ((by omega)) ((by omega)) hhv ((by omega)) ((by rw [← e6]; exact hb6)) ((by have := T.2.2.1; omega)) ((fun h => by have := hev h; omega)) ((T.2.2.2.2.2.1.trans hd)) ((by omega)) H.size) (cwV 2 htu gU_X8_typing rfl rfl rfl (by decide +kernel) ⟨show (3 * fu + 320) + 1 ≤ 3 * fu + 322 by omega, show 8 + (4 + 11) + (80 * fu + 9100) ≤ 80 * fu + 9147 by omega⟩) hP hK rfl hl.1 rfl (lv_room (Nat.le_of_ble_eq_true rfl)) dX8_types_394) hS (fun r_116 o_117 F_118 H locs hw_119 hP hS => ?_)
    try dsimp only at hw_119
    obtain ⟨⟨ix6, lf6, an6, gs6, X6⟩, w6⟩ := hw_119
    rw [← e6] at X6 w6
    have X6 := X6.wk (Nat.le_refl _) (show fu + 60 ≤ fu + 1 + 60 by omega)
    have bb : sto Y6.1 = 0 → sto Y5 = 0 := X6.2.2.2.2.2.2.2.2
    have xx : nT Y5 ≤ nT Y6.1 := X6.2.2.2.2.2.2.2.1.1
    have w1 := fun h => (⟨(w1 (bb h)).1, Nat.lt_of_lt_of_le (w1 (bb h)).2 xx⟩ : _ ∧ _ < nT Y6.1)
    have w3 := fun h => (⟨(w3 (bb h)).1, Nat.lt_of_lt_of_le (w3 (bb h)).2 xx⟩ : _ ∧ _ < nT Y6.1)
    have w4 := fun h => (⟨(w4 (bb h)).1, Nat.lt_of_lt_of_le (w4 (bb h)).2 xx⟩ : _ ∧ _ < nT Y6.1)
    have T := T.tr X6 hR
    refine lv_istore (lv' := [(8, .int r_116), (7, .int r_108), (6, .int r_104), (5, .int r_96), (4, .int (nI (tr 11 n))), (3, .int (nI (tr 10 n))), (0, .ref (mh G)), (1, .int (nI n)), (2, .int (nI lv))]) hx hb dX8_types_397 hl (by decide) rfl (fun ls hl => ?_)
    obtain ⟨hmv, hhv, hev, hxv⟩ := T.2.2.2.2.1.at hh (by omega)
    refine lv_aload_n hx hb dX8_types_399 rfl (lv_at hl 6 rfl) ?_
    refine lv_iload_n hx hb dX8_types_400 rfl (lv_at hl 7 rfl) ?_
    refine lv_iload hx hb dX8_types_401 (lv_at hl 0 rfl) ?_
    refine lv_iload hx hb dX8_types_403 (lv_at hl 2 rfl) ?_
    refine m_cv (m_runV (As := [.int (nI n), .int r_116, .int r_104]) (rest := []) ⟨hx, hb, hml, hown, htu⟩ (m_puts l G hDD o_117 F_118 tr N top gs6 Y6.1 ix6 lf6 an6 (fu + 1 + 60) n Y6.2 Y3.2 hmv r_116 r_104 T.1 ((by omega)) hhv ((by omega)) ((fun h => by have := hev h; omega)) ((by omega)) ((by rw [← e7]; exact hb7)) ((fun h => ⟨(w6 h).1, (w3 h).1, (w6 h).2, (w3 h).2⟩)) H.size) (cwV 3 htu gU_X8_puts rfl rfl rfl (by decide +kernel) ⟨show 311 + 1 ≤ 3 * fu + 322 by omega, show 8 + (4 + 11) + 8922 ≤ 80 * fu + 9147 by omega⟩) hP hK rfl hl.1 rfl (lv_room (Nat.le_of_ble_eq_true rfl)) dX8_types_405) hS (fun o_121 F_122 H locs hw_123 hP hS => ?_)
    try dsimp only at hw_123
    obtain ⟨ix7, lf7, X7⟩ := hw_123
    rw [← e7] at X7
    have bb : sto Y7 = 0 → sto Y6.1 = 0 := X7.2.2.2.2.2.2.2.2
    have xx : nT Y6.1 ≤ nT Y7 := X7.2.2.2.2.2.2.2.1.1
    have w1 := fun h => (⟨(w1 (bb h)).1, Nat.lt_of_lt_of_le (w1 (bb h)).2 xx⟩ : _ ∧ _ < nT Y7)
    have w3 := fun h => (⟨(w3 (bb h)).1, Nat.lt_of_lt_of_le (w3 (bb h)).2 xx⟩ : _ ∧ _ < nT Y7)
    have w4 := fun h => (⟨(w4 (bb h)).1, Nat.lt_of_lt_of_le (w4 (bb h)).2 xx⟩ : _ ∧ _ < nT Y7)
    have w6 := fun h => (⟨(w6 (bb h)).1, Nat.lt_of_lt_of_le (w6 (bb h)).2 xx⟩ : _ ∧ _ < nT Y7)
    have T := T.tr X7 hR
    refine lv_iload hx hb dX8_types_408 (lv_at hl 2 rfl) ?_
    exact m_iret (v := r_104) hx hb hr hK hP hS (by rw [ce]; exact ⟨⟨_, _, _, _, T.wk (by rw [cc]; omega) (Nat.le_refl _)⟩, (fun h => w3 h)⟩) dX8_types_410 hlocks
  · skip
    have pe : prts (tr 0 n) (tr 2 n) = 2 := by rw [hkd]; rfl
    have pf0 := (hT.2.2 n hn).2.2.2.2.2.2.1 0 (by rw [pe]; decide)
    have pf1 := (hT.2.2 n hn).2.2.2.2.2.2.1 1 (by rw [pe]; decide)
    have cc := cnt_2 (k := fu) (n := n) pe
    rw [cc] at han
    have cp0 : 1 ≤ cntT tr fu (tr 10 n) := cnt_pos
    have cp1 : 1 ≤ cntT tr fu (tr 11 n) := cnt_pos
    have T := TW.rf (k := fu + 1 + 60) hTS
    obtain ⟨Y1, Y2, Y3, Y4, e1, e2, e3, e4, ce⟩ := ty_10 (tr := tr) (top := top) (k := fu) (n := n) (l := lv) h0 hkd
    rw [ce] at hb0
    have hb4 : bnd Y4 ≤ 200000 := hb0
    have hb3 : bnd Y3.1 ≤ 200000 := (Nat.le_trans (by rw [e4]; exact b_puts _ _ _ _) hb4)
    have hb2 : bnd Y2 ≤ 200000 := (Nat.le_trans (by rw [e3]; exact b_ty _ _ _ _ _ _) hb3)
    have hb1 : bnd Y1.1 ≤ 200000 := (Nat.le_trans (by rw [e2]; exact b_puts _ _ _ _) hb2)
    refine lv_aload_n hx hb dX8_types_0 rfl (lv_at hl 0 rfl) ?_
    refine m_get (v := .ref (md G 4)) hx hb htu wu_in hown hK hP 4 (by decide) (htu _ U_6) rfl rfl dX8_types_1 ?_
    refine lv_bipush (v := 6) hx hb dX8_types_4 (by decide) ?_
    refine lv_iload_n hx hb dX8_types_6 rfl (lv_at hl 1 rfl) ?_
    refine lv_imul hx hb dX8_types_7 ?_
    refine m_top (y := nI (6 * n)) (pk_mul 6 n) ?_
    refine m_ald (j := 6 * n) (v := nI (tr 10 n)) hx hb hK hP 4 4 rfl (by omega) (by decide) (show F 4 (6 * n) = _ from pf0.1) dX8_types_8 ?_
    refine lv_istore_n (lv' := [(3, .int (nI (tr 10 n))), (0, .ref (mh G)), (1, .int (nI n)), (2, .int (nI lv))]) hx hb dX8_types_9 rfl hl (by decide) rfl (fun ls hl => ?_)
    refine lv_aload_n hx hb dX8_types_10 rfl (lv_at hl 1 rfl) ?_
    refine m_get (v := .ref (md G 4)) hx hb htu wu_in hown hK hP 4 (by decide) (htu _ U_6) rfl rfl dX8_types_11 ?_
    refine lv_bipush (v := 6) hx hb dX8_types_14 (by decide) ?_
    refine lv_iload_n hx hb dX8_types_16 rfl (lv_at hl 2 rfl) ?_
    refine lv_imul hx hb dX8_types_17 ?_
    refine m_top (y := nI (6 * n)) (pk_mul 6 n) ?_
    refine lv_iconst (v := 1) hx hb dX8_types_18 (by decide) ?_
    refine lv_iadd hx hb dX8_types_19 ?_
    refine m_top (y := nI (6 * n + 1)) (nI_add (6 * n) 1) ?_
    refine m_ald (j := 6 * n + 1) (v := nI (tr 11 n)) hx hb hK hP 4 4 rfl (by omega) (by decide) pf1.1 dX8_types_20 ?_
    refine lv_istore (lv' := [(4, .int (nI (tr 11 n))), (3, .int (nI (tr 10 n))), (0, .ref (mh G)), (1, .int (nI n)), (2, .int (nI lv))]) hx hb dX8_types_21 hl (by decide) rfl (fun ls hl => ?_)
    refine lv_aload_n hx hb dX8_types_23 rfl (lv_at hl 2 rfl) ?_
    refine m_get (v := .ref (md G 1)) hx hb htu wu_in hown hK hP 1 (by decide) (htu _ U_2) rfl rfl dX8_types_24 ?_
    refine lv_iload_n hx hb dX8_types_27 rfl (lv_at hl 3 rfl) ?_
    refine m_ald (j := n) (v := 10) hx hb hK hP 1 1 rfl (by omega) (by decide) ((hT.2.2 n hn).1.trans (congrArg nI hkd)) dX8_types_28 ?_
    refine lv_tableOut (tgt := 411) hx hb dX8_types_29 (by decide) (by decide) ?_
    obtain ⟨hmv, hhv, hev, hxv⟩ := T.2.2.2.2.1.at hh (by omega)
    refine lv_aload_n hx hb dX8_types_411 rfl (lv_at hl 2 rfl) ?_
    refine lv_iload_n hx hb dX8_types_412 rfl (lv_at hl 1 rfl) ?_
    refine lv_iload_n hx hb dX8_types_413 rfl (lv_at hl 4 rfl) ?_
    refine m_ci (m_runV (As := [.int (nI (tr 10 n)), .int (nI lv)]) (rest := []) ⟨hx, hb, hml, hown, htu⟩ (ih l G hDD o F tr N top gs z ix lf an (tr 10 n) lv hmv (d + 1) T.1 pf0.2.1 htp ((hup.up pf0.2.2)) ((Cv.part hC pf0.2.2 (fun q h => T.2.2.2.1 q h) (fun h => absurd h (ncov (by omega) (by omega) (by omega))))) ((by omega)) ((by omega)) hhv ((by omega)) ((by rw [← e1]; exact hb1)) ((by have := T.2.2.1; omega)) ((fun h => by have := hev h; omega)) ((T.2.2.2.2.2.1.trans hd)) ((by omega)) H.size) (cwV 2 htu gU_X8_typing rfl rfl rfl (by decide +kernel) ⟨show (3 * fu + 320) + 1 ≤ 3 * fu + 322 by omega, show 8 + (4 + 11) + (80 * fu + 9100) ≤ 80 * fu + 9147 by omega⟩) hP hK rfl hl.1 rfl (lv_room (Nat.le_of_ble_eq_true rfl)) dX8_types_414) hS (fun r_124 o_125 F_126 H locs hw_127 hP hS => ?_)
    try dsimp only at hw_127
    obtain ⟨⟨ix1, lf1, an1, gs1, X1⟩, w1⟩ := hw_127
    rw [← e1] at X1 w1
    have X1 := X1.wk (Nat.le_refl _) (show fu + 60 ≤ fu + 1 + 60 by omega)
    have bb : sto Y1.1 = 0 → sto z = 0 := X1.2.2.2.2.2.2.2.2
    have xx : nT z ≤ nT Y1.1 := X1.2.2.2.2.2.2.2.1.1
    have T := T.tr X1 hR
    refine lv_istore (lv' := [(5, .int r_124), (4, .int (nI (tr 11 n))), (3, .int (nI (tr 10 n))), (0, .ref (mh G)), (1, .int (nI n)), (2, .int (nI lv))]) hx hb dX8_types_417 hl (by decide) rfl (fun ls hl => ?_)
    obtain ⟨hmv, hhv, hev, hxv⟩ := T.2.2.2.2.1.at hh (by omega)
    refine lv_aload_n hx hb dX8_types_419 rfl (lv_at hl 3 rfl) ?_
    refine lv_iload_n hx hb dX8_types_420 rfl (lv_at hl 4 rfl) ?_
    refine lv_iload hx hb dX8_types_421 (lv_at hl 0 rfl) ?_
    refine lv_iconst (v := 0) hx hb dX8_types_423 (by decide) ?_
    refine m_cv (m_runV (As := [.int (nI n), .int r_124, .int 0]) (rest := []) ⟨hx, hb, hml, hown, htu⟩ (m_puts l G hDD o_125 F_126 tr N top gs1 Y1.1 ix1 lf1 an1 (fu + 1 + 60) n Y1.2 0 hmv r_124 0 T.1 ((by omega)) hhv ((by omega)) ((fun h => by have := hev h; omega)) ((by omega)) ((by rw [← e2]; exact hb2)) ((fun h => ⟨(w1 h).1, rfl, (w1 h).2, (Nat.lt_of_lt_of_le (by decide) T.1.1.2.1.2.2.2.2.2.2.2)⟩)) H.size) (cwV 3 htu gU_X8_puts rfl rfl rfl (by decide +kernel) ⟨show 311 + 1 ≤ 3 * fu + 322 by omega, show 8 + (4 + 11) + 8922 ≤ 80 * fu + 9147 by omega⟩) hP hK rfl hl.1 rfl (lv_room (Nat.le_of_ble_eq_true rfl)) dX8_types_424) hS (fun o_129 F_130 H locs hw_131 hP hS => ?_)
    try dsimp only at hw_131
    obtain ⟨ix2, lf2, X2⟩ := hw_131
    rw [← e2] at X2
    have bb : sto Y2 = 0 → sto Y1.1 = 0 := X2.2.2.2.2.2.2.2.2
    have xx : nT Y1.1 ≤ nT Y2 := X2.2.2.2.2.2.2.2.1.1
    have w1 := fun h => (⟨(w1 (bb h)).1, Nat.lt_of_lt_of_le (w1 (bb h)).2 xx⟩ : _ ∧ _ < nT Y2)
    have T := T.tr X2 hR
    obtain ⟨hmv, hhv, hev, hxv⟩ := T.2.2.2.2.1.at hh (by omega)
    refine lv_aload_n hx hb dX8_types_427 rfl (lv_at hl 3 rfl) ?_
    refine lv_iload hx hb dX8_types_428 (lv_at hl 1 rfl) ?_
    refine lv_iload_n hx hb dX8_types_430 rfl (lv_at hl 5 rfl) ?_
    refine m_ci (m_runV (As := [.int (nI (tr 11 n)), .int (nI lv)]) (rest := []) ⟨hx, hb, hml, hown, htu⟩ (ih l G hDD o_129 F_130 tr N top gs1 Y2 ix2 lf2 an1 (tr 11 n) lv hmv (d + 1) T.1 pf1.2.1 htp ((hup.up pf1.2.2)) ((Cv.part hC pf1.2.2 (fun q h => T.2.2.2.1 q h) (fun h => absurd h (ncov (by omega) (by omega) (by omega))))) ((by omega)) ((by omega)) hhv ((by omega)) ((by rw [← e3]; exact hb3)) ((by have := T.2.2.1; omega)) ((fun h => by have := hev h; omega)) ((T.2.2.2.2.2.1.trans hd)) ((by omega)) H.size) (cwV 2 htu gU_X8_typing rfl rfl rfl (by decide +kernel) ⟨show (3 * fu + 320) + 1 ≤ 3 * fu + 322 by omega, show 8 + (4 + 11) + (80 * fu + 9100) ≤ 80 * fu + 9147 by omega⟩) hP hK rfl hl.1 rfl (lv_room (Nat.le_of_ble_eq_true rfl)) dX8_types_431) hS (fun r_132 o_133 F_134 H locs hw_135 hP hS => ?_)
    try dsimp only at hw_135
    obtain ⟨⟨ix3, lf3, an3, gs3, X3⟩, w3⟩ := hw_135
    rw [← e3] at X3 w3
    have X3 := X3.wk (Nat.le_refl _) (show fu + 60 ≤ fu + 1 + 60 by omega)
    have bb : sto Y3.1 = 0 → sto Y2 = 0 := X3.2.2.2.2.2.2.2.2
    have xx : nT Y2 ≤ nT Y3.1 := X3.2.2.2.2.2.2.2.1.1
    have w1 := fun h => (⟨(w1 (bb h)).1, Nat.lt_of_lt_of_le (w1 (bb h)).2 xx⟩ : _ ∧ _ < nT Y3.1)
    have T := T.tr X3 hR
    refine lv_istore (lv' := [(6, .int r_132), (5, .int r_124), (4, .int (nI (tr 11 n))), (3, .int (nI (tr 10 n))), (0, .ref (mh G)), (1, .int (nI n)), (2, .int (nI lv))]) hx hb dX8_types_434 hl (by decide) rfl (fun ls hl => ?_)
    obtain ⟨hmv, hhv, hev, hxv⟩ := T.2.2.2.2.1.at hh (by omega)
    refine lv_aload_n hx hb dX8_types_436 rfl (lv_at hl 4 rfl) ?_
    refine lv_iload_n hx hb dX8_types_437 rfl (lv_at hl 5 rfl) ?_
    refine lv_iload hx hb dX8_types_438 (lv_at hl 0 rfl) ?_
    refine lv_iconst (v := 0) hx hb dX8_types_440 (by decide) ?_
    refine m_cv (m_runV (As := [.int (nI n), .int r_132, .int 0]) (rest := []) ⟨hx, hb, hml, hown, htu⟩ (m_puts l G hDD o_133 F_134 tr N top gs3 Y3.1 ix3 lf3 an3 (fu + 1 + 60) n Y3.2 0 hmv r_132 0 T.1 ((by omega)) hhv ((by omega)) ((fun h => by have := hev h; omega)) ((by omega)) ((by rw [← e4]; exact hb4)) ((fun h => ⟨(w3 h).1, rfl, (w3 h).2, (Nat.lt_of_lt_of_le (by decide) T.1.1.2.1.2.2.2.2.2.2.2)⟩)) H.size) (cwV 3 htu gU_X8_puts rfl rfl rfl (by decide +kernel) ⟨show 311 + 1 ≤ 3 * fu + 322 by omega, show 8 + (4 + 11) + 8922 ≤ 80 * fu + 9147 by omega⟩) hP hK rfl hl.1 rfl (lv_room (Nat.le_of_ble_eq_true rfl)) dX8_types_441) hS (fun o_137 F_138 H locs hw_139 hP hS => ?_)
    try dsimp only at hw_139
    obtain ⟨ix4, lf4, X4⟩ := hw_139
    rw [← e4] at X4
    have bb : sto Y4 = 0 → sto Y3.1 = 0 := X4.2.2.2.2.2.2.2.2
    have xx : nT Y3.1 ≤ nT Y4 := X4.2.2.2.2.2.2.2.1.1
    have w1 := fun h => (⟨(w1 (bb h)).1, Nat.lt_of_lt_of_le (w1 (bb h)).2 xx⟩ : _ ∧ _ < nT Y4)
    have w3 := fun h => (⟨(w3 (bb h)).1, Nat.lt_of_lt_of_le (w3 (bb h)).2 xx⟩ : _ ∧ _ < nT Y4)
    have T := T.tr X4 hR
    refine lv_aload_n hx hb dX8_types_444 rfl (lv_at hl 4 rfl) ?_
    refine m_get (v := .ref (md G 1)) hx hb htu wu_in hown hK hP 1 (by decide) (htu _ U_2) rfl rfl dX8_types_445 ?_
    refine lv_iload_n hx hb dX8_types_448 rfl (lv_at hl 5 rfl) ?_
    refine m_ald (j := n) (v := 10) hx hb hK hP 1 1 rfl (by omega) (by decide) ((T.1.2.1.2.2 n hn).1.trans (congrArg nI hkd)) dX8_types_449 ?_
    refine lv_bipush (v := 10) hx hb dX8_types_450 (by decide) ?_
    refine lv_icmp_ne (tgt := 459) hx hb dX8_types_452 (by decide) (fun c_140 => absurd (by decide) c_140) (fun c_140 => ?_)
    refine lv_iconst (v := 0) hx hb dX8_types_455 (by decide) ?_
    refine lv_goto (tgt := 460) hx hb dX8_types_456 (by decide) ?_
    exact m_iret (v := 0) hx hb hr hK hP hS (by rw [ce]; exact ⟨⟨_, _, _, _, T.wk (by rw [cc]; omega) (Nat.le_refl _)⟩, (fun _ => ⟨rfl, Nat.lt_of_lt_of_le (show 0 < 2 by decide) T.1.1.2.1.2.2.2.2.2.2.2⟩)⟩) dX8_types_460 hlocks
  · skip
    have pe : prts (tr 0 n) (tr 2 n) = 2 := by rw [hkd]; rfl
    have pf0 := (hT.2.2 n hn).2.2.2.2.2.2.1 0 (by rw [pe]; decide)
    have pf1 := (hT.2.2 n hn).2.2.2.2.2.2.1 1 (by rw [pe]; decide)
    have cc := cnt_2 (k := fu) (n := n) pe
    rw [cc] at han
    have cp0 : 1 ≤ cntT tr fu (tr 10 n) := cnt_pos
    have cp1 : 1 ≤ cntT tr fu (tr 11 n) := cnt_pos
    have T := TW.rf (k := fu + 1 + 60) hTS
    obtain ⟨Y1, Y2, Y3, Y4, e1, e2, e3, e4, ce⟩ := ty_11 (tr := tr) (top := top) (k := fu) (n := n) (l := lv) h0 hkd
    rw [ce] at hb0
    have hb4 : bnd Y4 ≤ 200000 := hb0
    have hb3 : bnd Y3.1 ≤ 200000 := (Nat.le_trans (by rw [e4]; exact b_puts _ _ _ _) hb4)
    have hb2 : bnd Y2 ≤ 200000 := (Nat.le_trans (by rw [e3]; exact b_ty _ _ _ _ _ _) hb3)
    have hb1 : bnd Y1.1 ≤ 200000 := (Nat.le_trans (by rw [e2]; exact b_puts _ _ _ _) hb2)
    refine lv_aload_n hx hb dX8_types_0 rfl (lv_at hl 0 rfl) ?_
    refine m_get (v := .ref (md G 4)) hx hb htu wu_in hown hK hP 4 (by decide) (htu _ U_6) rfl rfl dX8_types_1 ?_
    refine lv_bipush (v := 6) hx hb dX8_types_4 (by decide) ?_
    refine lv_iload_n hx hb dX8_types_6 rfl (lv_at hl 1 rfl) ?_
    refine lv_imul hx hb dX8_types_7 ?_
    refine m_top (y := nI (6 * n)) (pk_mul 6 n) ?_
    refine m_ald (j := 6 * n) (v := nI (tr 10 n)) hx hb hK hP 4 4 rfl (by omega) (by decide) (show F 4 (6 * n) = _ from pf0.1) dX8_types_8 ?_
    refine lv_istore_n (lv' := [(3, .int (nI (tr 10 n))), (0, .ref (mh G)), (1, .int (nI n)), (2, .int (nI lv))]) hx hb dX8_types_9 rfl hl (by decide) rfl (fun ls hl => ?_)
    refine lv_aload_n hx hb dX8_types_10 rfl (lv_at hl 1 rfl) ?_
    refine m_get (v := .ref (md G 4)) hx hb htu wu_in hown hK hP 4 (by decide) (htu _ U_6) rfl rfl dX8_types_11 ?_
    refine lv_bipush (v := 6) hx hb dX8_types_14 (by decide) ?_
    refine lv_iload_n hx hb dX8_types_16 rfl (lv_at hl 2 rfl) ?_
    refine lv_imul hx hb dX8_types_17 ?_
    refine m_top (y := nI (6 * n)) (pk_mul 6 n) ?_
    refine lv_iconst (v := 1) hx hb dX8_types_18 (by decide) ?_
    refine lv_iadd hx hb dX8_types_19 ?_
    refine m_top (y := nI (6 * n + 1)) (nI_add (6 * n) 1) ?_
    refine m_ald (j := 6 * n + 1) (v := nI (tr 11 n)) hx hb hK hP 4 4 rfl (by omega) (by decide) pf1.1 dX8_types_20 ?_
    refine lv_istore (lv' := [(4, .int (nI (tr 11 n))), (3, .int (nI (tr 10 n))), (0, .ref (mh G)), (1, .int (nI n)), (2, .int (nI lv))]) hx hb dX8_types_21 hl (by decide) rfl (fun ls hl => ?_)
    refine lv_aload_n hx hb dX8_types_23 rfl (lv_at hl 2 rfl) ?_
    refine m_get (v := .ref (md G 1)) hx hb htu wu_in hown hK hP 1 (by decide) (htu _ U_2) rfl rfl dX8_types_24 ?_
    refine lv_iload_n hx hb dX8_types_27 rfl (lv_at hl 3 rfl) ?_
    refine m_ald (j := n) (v := 11) hx hb hK hP 1 1 rfl (by omega) (by decide) ((hT.2.2 n hn).1.trans (congrArg nI hkd)) dX8_types_28 ?_
    refine lv_tableOut (tgt := 411) hx hb dX8_types_29 (by decide) (by decide) ?_
    obtain ⟨hmv, hhv, hev, hxv⟩ := T.2.2.2.2.1.at hh (by omega)
    refine lv_aload_n hx hb dX8_types_411 rfl (lv_at hl 2 rfl) ?_
    refine lv_iload_n hx hb dX8_types_412 rfl (lv_at hl 1 rfl) ?_
    refine lv_iload_n hx hb dX8_types_413 rfl (lv_at hl 4 rfl) ?_
    refine m_ci (m_runV (As := [.int (nI (tr 10 n)), .int (nI lv)]) (rest := []) ⟨hx, hb, hml, hown, htu⟩ (ih l G hDD o F tr N top gs z ix lf an (tr 10 n) lv hmv (d + 1) T.1 pf0.2.1 htp ((hup.up pf0.2.2)) ((Cv.part hC pf0.2.2 (fun q h => T.2.2.2.1 q h) (fun h => absurd h (ncov (by omega) (by omega) (by omega))))) ((by omega)) ((by omega)) hhv ((by omega)) ((by rw [← e1]; exact hb1)) ((by have := T.2.2.1; omega)) ((fun h => by have := hev h; omega)) ((T.2.2.2.2.2.1.trans hd)) ((by omega)) H.size) (cwV 2 htu gU_X8_typing rfl rfl rfl (by decide +kernel) ⟨show (3 * fu + 320) + 1 ≤ 3 * fu + 322 by omega, show 8 + (4 + 11) + (80 * fu + 9100) ≤ 80 * fu + 9147 by omega⟩) hP hK rfl hl.1 rfl (lv_room (Nat.le_of_ble_eq_true rfl)) dX8_types_414) hS (fun r_141 o_142 F_143 H locs hw_144 hP hS => ?_)
    try dsimp only at hw_144
    obtain ⟨⟨ix1, lf1, an1, gs1, X1⟩, w1⟩ := hw_144
    rw [← e1] at X1 w1
    have X1 := X1.wk (Nat.le_refl _) (show fu + 60 ≤ fu + 1 + 60 by omega)
    have bb : sto Y1.1 = 0 → sto z = 0 := X1.2.2.2.2.2.2.2.2
    have xx : nT z ≤ nT Y1.1 := X1.2.2.2.2.2.2.2.1.1
    have T := T.tr X1 hR
    refine lv_istore (lv' := [(5, .int r_141), (4, .int (nI (tr 11 n))), (3, .int (nI (tr 10 n))), (0, .ref (mh G)), (1, .int (nI n)), (2, .int (nI lv))]) hx hb dX8_types_417 hl (by decide) rfl (fun ls hl => ?_)
    obtain ⟨hmv, hhv, hev, hxv⟩ := T.2.2.2.2.1.at hh (by omega)
    refine lv_aload_n hx hb dX8_types_419 rfl (lv_at hl 3 rfl) ?_
    refine lv_iload_n hx hb dX8_types_420 rfl (lv_at hl 4 rfl) ?_
    refine lv_iload hx hb dX8_types_421 (lv_at hl 0 rfl) ?_
    refine lv_iconst (v := 0) hx hb dX8_types_423 (by decide) ?_
    refine m_cv (m_runV (As := [.int (nI n), .int r_141, .int 0]) (rest := []) ⟨hx, hb, hml, hown, htu⟩ (m_puts l G hDD o_142 F_143 tr N top gs1 Y1.1 ix1 lf1 an1 (fu + 1 + 60) n Y1.2 0 hmv r_141 0 T.1 ((by omega)) hhv ((by omega)) ((fun h => by have := hev h; omega)) ((by omega)) ((by rw [← e2]; exact hb2)) ((fun h => ⟨(w1 h).1, rfl, (w1 h).2, (Nat.lt_of_lt_of_le (by decide) T.1.1.2.1.2.2.2.2.2.2.2)⟩)) H.size) (cwV 3 htu gU_X8_puts rfl rfl rfl (by decide +kernel) ⟨show 311 + 1 ≤ 3 * fu + 322 by omega, show 8 + (4 + 11) + 8922 ≤ 80 * fu + 9147 by omega⟩) hP hK rfl hl.1 rfl (lv_room (Nat.le_of_ble_eq_true rfl)) dX8_types_424) hS (fun o_146 F_147 H locs hw_148 hP hS => ?_)
    try dsimp only at hw_148
    obtain ⟨ix2, lf2, X2⟩ := hw_148
    rw [← e2] at X2
    have bb : sto Y2 = 0 → sto Y1.1 = 0 := X2.2.2.2.2.2.2.2.2
    have xx : nT Y1.1 ≤ nT Y2 := X2.2.2.2.2.2.2.2.1.1
    have w1 := fun h => (⟨(w1 (bb h)).1, Nat.lt_of_lt_of_le (w1 (bb h)).2 xx⟩ : _ ∧ _ < nT Y2)
    have T := T.tr X2 hR
    obtain ⟨hmv, hhv, hev, hxv⟩ := T.2.2.2.2.1.at hh (by omega)
    refine lv_aload_n hx hb dX8_types_427 rfl (lv_at hl 3 rfl) ?_
    refine lv_iload hx hb dX8_types_428 (lv_at hl 1 rfl) ?_
    refine lv_iload_n hx hb dX8_types_430 rfl (lv_at hl 5 rfl) ?_
    refine m_ci (m_runV (As := [.int (nI (tr 11 n)), .int (nI lv)]) (rest := []) ⟨hx, hb, hml, hown, htu⟩ (ih l G hDD o_146 F_147 tr N top gs1 Y2 ix2 lf2 an1 (tr 11 n) lv hmv (d + 1) T.1 pf1.2.1 htp ((hup.up pf1.2.2)) ((Cv.part hC pf1.2.2 (fun q h => T.2.2.2.1 q h) (fun h => absurd h (ncov (by omega) (by omega) (by omega))))) ((by omega)) ((by omega)) hhv ((by omega)) ((by rw [← e3]; exact hb3)) ((by have := T.2.2.1; omega)) ((fun h => by have := hev h; omega)) ((T.2.2.2.2.2.1.trans hd)) ((by omega)) H.size) (cwV 2 htu gU_X8_typing rfl rfl rfl (by decide +kernel) ⟨show (3 * fu + 320) + 1 ≤ 3 * fu + 322 by omega, show 8 + (4 + 11) + (80 * fu + 9100) ≤ 80 * fu + 9147 by omega⟩) hP hK rfl hl.1 rfl (lv_room (Nat.le_of_ble_eq_true rfl)) dX8_types_431) hS (fun r_149 o_150 F_151 H locs hw_152 hP hS => ?_)
    try dsimp only at hw_152
    obtain ⟨⟨ix3, lf3, an3, gs3, X3⟩, w3⟩ := hw_152
    rw [← e3] at X3 w3
    have X3 := X3.wk (Nat.le_refl _) (show fu + 60 ≤ fu + 1 + 60 by omega)
    have bb : sto Y3.1 = 0 → sto Y2 = 0 := X3.2.2.2.2.2.2.2.2
    have xx : nT Y2 ≤ nT Y3.1 := X3.2.2.2.2.2.2.2.1.1
    have w1 := fun h => (⟨(w1 (bb h)).1, Nat.lt_of_lt_of_le (w1 (bb h)).2 xx⟩ : _ ∧ _ < nT Y3.1)
    have T := T.tr X3 hR
    refine lv_istore (lv' := [(6, .int r_149), (5, .int r_141), (4, .int (nI (tr 11 n))), (3, .int (nI (tr 10 n))), (0, .ref (mh G)), (1, .int (nI n)), (2, .int (nI lv))]) hx hb dX8_types_434 hl (by decide) rfl (fun ls hl => ?_)
    obtain ⟨hmv, hhv, hev, hxv⟩ := T.2.2.2.2.1.at hh (by omega)
    refine lv_aload_n hx hb dX8_types_436 rfl (lv_at hl 4 rfl) ?_
    refine lv_iload_n hx hb dX8_types_437 rfl (lv_at hl 5 rfl) ?_
    refine lv_iload hx hb dX8_types_438 (lv_at hl 0 rfl) ?_
    refine lv_iconst (v := 0) hx hb dX8_types_440 (by decide) ?_
    refine m_cv (m_runV (As := [.int (nI n), .int r_149, .int 0]) (rest := []) ⟨hx, hb, hml, hown, htu⟩ (m_puts l G hDD o_150 F_151 tr N top gs3 Y3.1 ix3 lf3 an3 (fu + 1 + 60) n Y3.2 0 hmv r_149 0 T.1 ((by omega)) hhv ((by omega)) ((fun h => by have := hev h; omega)) ((by omega)) ((by rw [← e4]; exact hb4)) ((fun h => ⟨(w3 h).1, rfl, (w3 h).2, (Nat.lt_of_lt_of_le (by decide) T.1.1.2.1.2.2.2.2.2.2.2)⟩)) H.size) (cwV 3 htu gU_X8_puts rfl rfl rfl (by decide +kernel) ⟨show 311 + 1 ≤ 3 * fu + 322 by omega, show 8 + (4 + 11) + 8922 ≤ 80 * fu + 9147 by omega⟩) hP hK rfl hl.1 rfl (lv_room (Nat.le_of_ble_eq_true rfl)) dX8_types_441) hS (fun o_154 F_155 H locs hw_156 hP hS => ?_)
    try dsimp only at hw_156
    obtain ⟨ix4, lf4, X4⟩ := hw_156
    rw [← e4] at X4
    have bb : sto Y4 = 0 → sto Y3.1 = 0 := X4.2.2.2.2.2.2.2.2
    have xx : nT Y3.1 ≤ nT Y4 := X4.2.2.2.2.2.2.2.1.1
    have w1 := fun h => (⟨(w1 (bb h)).1, Nat.lt_of_lt_of_le (w1 (bb h)).2 xx⟩ : _ ∧ _ < nT Y4)
    have w3 := fun h => (⟨(w3 (bb h)).1, Nat.lt_of_lt_of_le (w3 (bb h)).2 xx⟩ : _ ∧ _ < nT Y4)
    have T := T.tr X4 hR
    refine lv_aload_n hx hb dX8_types_444 rfl (lv_at hl 4 rfl) ?_
    refine m_get (v := .ref (md G 1)) hx hb htu wu_in hown hK hP 1 (by decide) (htu _ U_2) rfl rfl dX8_types_445 ?_
    refine lv_iload_n hx hb dX8_types_448 rfl (lv_at hl 5 rfl) ?_
    refine m_ald (j := n) (v := 11) hx hb hK hP 1 1 rfl (by omega) (by decide) ((T.1.2.1.2.2 n hn).1.trans (congrArg nI hkd)) dX8_types_449 ?_
    refine lv_bipush (v := 10) hx hb dX8_types_450 (by decide) ?_
    refine lv_icmp_ne (tgt := 459) hx hb dX8_types_452 (by decide) (fun c_157 => ?_) (fun c_157 => absurd c_157 (by decide))
    refine lv_iconst (v := 1) hx hb dX8_types_459 (by decide) ?_
    exact m_iret (v := 1) hx hb hr hK hP hS (by rw [ce]; exact ⟨⟨_, _, _, _, T.wk (by rw [cc]; omega) (Nat.le_refl _)⟩, (fun _ => ⟨rfl, Nat.lt_of_lt_of_le (show 1 < 2 by decide) T.1.1.2.1.2.2.2.2.2.2.2⟩)⟩) dX8_types_460 hlocks


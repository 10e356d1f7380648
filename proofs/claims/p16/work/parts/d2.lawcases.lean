theorem dL_law_108 : decode cL_law 108 = .ok (.aload_n 1, 1) := by decide +kernel
theorem dL_law_109 : decode cL_law 109 = .ok (.aload_n 0, 1) := by decide +kernel
theorem dL_law_110 : decode cL_law 110 = .ok (.iload_n 3, 1) := by decide +kernel
theorem dL_law_111 : decode cL_law 111 = .ok (.iconst 1, 1) := by decide +kernel
theorem dL_law_112 : decode cL_law 112 = .ok (.iadd, 1) := by decide +kernel
theorem dL_law_113 : decode cL_law 113 = .ok (.iaload, 1) := by decide +kernel
theorem dL_law_114 : decode cL_law 114 = .ok (.aload_n 0, 1) := by decide +kernel
theorem dL_law_115 : decode cL_law 115 = .ok (.iload_n 3, 1) := by decide +kernel
theorem dL_law_116 : decode cL_law 116 = .ok (.iconst 2, 1) := by decide +kernel
theorem dL_law_117 : decode cL_law 117 = .ok (.iadd, 1) := by decide +kernel
theorem dL_law_118 : decode cL_law 118 = .ok (.iaload, 1) := by decide +kernel
theorem dL_law_119 : decode cL_law 119 = .ok (.aload_n 0, 1) := by decide +kernel
theorem dL_law_120 : decode cL_law 120 = .ok (.iload_n 3, 1) := by decide +kernel
theorem dL_law_121 : decode cL_law 121 = .ok (.iconst 3, 1) := by decide +kernel
theorem dL_law_122 : decode cL_law 122 = .ok (.iadd, 1) := by decide +kernel
theorem dL_law_123 : decode cL_law 123 = .ok (.iaload, 1) := by decide +kernel
theorem dL_law_124 : decode cL_law 124 = .ok (.aload_n 0, 1) := by decide +kernel
theorem dL_law_125 : decode cL_law 125 = .ok (.iload_n 3, 1) := by decide +kernel
theorem dL_law_126 : decode cL_law 126 = .ok (.iconst 4, 1) := by decide +kernel
theorem dL_law_127 : decode cL_law 127 = .ok (.iadd, 1) := by decide +kernel
theorem dL_law_128 : decode cL_law 128 = .ok (.iaload, 1) := by decide +kernel
theorem dL_law_129 : decode cL_law 129 = .ok (.aload_n 0, 1) := by decide +kernel
theorem dL_law_130 : decode cL_law 130 = .ok (.iload_n 3, 1) := by decide +kernel
theorem dL_law_131 : decode cL_law 131 = .ok (.iconst 5, 1) := by decide +kernel
theorem dL_law_132 : decode cL_law 132 = .ok (.iadd, 1) := by decide +kernel
theorem dL_law_133 : decode cL_law 133 = .ok (.iaload, 1) := by decide +kernel
theorem dL_law_134 : decode cL_law 134 = .ok (.invokevirtual 13, 3) := by decide +kernel
theorem dL_law_137 : decode cL_law 137 = .ok (.pop, 1) := by decide +kernel
theorem dL_law_138 : decode cL_law 138 = .ok (.aload_n 2, 1) := by decide +kernel
theorem dL_law_139 : decode cL_law 139 = .ok (.aload_n 0, 1) := by decide +kernel
theorem dL_law_140 : decode cL_law 140 = .ok (.iload_n 3, 1) := by decide +kernel
theorem dL_law_141 : decode cL_law 141 = .ok (.iconst 1, 1) := by decide +kernel
theorem dL_law_142 : decode cL_law 142 = .ok (.iadd, 1) := by decide +kernel
theorem dL_law_143 : decode cL_law 143 = .ok (.iaload, 1) := by decide +kernel
theorem dL_law_144 : decode cL_law 144 = .ok (.aload_n 0, 1) := by decide +kernel
theorem dL_law_145 : decode cL_law 145 = .ok (.iload_n 3, 1) := by decide +kernel
theorem dL_law_146 : decode cL_law 146 = .ok (.iconst 2, 1) := by decide +kernel
theorem dL_law_147 : decode cL_law 147 = .ok (.iadd, 1) := by decide +kernel
theorem dL_law_148 : decode cL_law 148 = .ok (.iaload, 1) := by decide +kernel
theorem dL_law_149 : decode cL_law 149 = .ok (.aload_n 0, 1) := by decide +kernel
theorem dL_law_150 : decode cL_law 150 = .ok (.iload_n 3, 1) := by decide +kernel
theorem dL_law_151 : decode cL_law 151 = .ok (.iconst 3, 1) := by decide +kernel
theorem dL_law_152 : decode cL_law 152 = .ok (.iadd, 1) := by decide +kernel
theorem dL_law_153 : decode cL_law 153 = .ok (.iaload, 1) := by decide +kernel
theorem dL_law_154 : decode cL_law 154 = .ok (.aload_n 0, 1) := by decide +kernel
theorem dL_law_155 : decode cL_law 155 = .ok (.iload_n 3, 1) := by decide +kernel
theorem dL_law_156 : decode cL_law 156 = .ok (.iconst 4, 1) := by decide +kernel
theorem dL_law_157 : decode cL_law 157 = .ok (.iadd, 1) := by decide +kernel
theorem dL_law_158 : decode cL_law 158 = .ok (.iaload, 1) := by decide +kernel
theorem dL_law_159 : decode cL_law 159 = .ok (.aload_n 0, 1) := by decide +kernel
theorem dL_law_160 : decode cL_law 160 = .ok (.iload_n 3, 1) := by decide +kernel
theorem dL_law_161 : decode cL_law 161 = .ok (.iconst 5, 1) := by decide +kernel
theorem dL_law_162 : decode cL_law 162 = .ok (.iadd, 1) := by decide +kernel
theorem dL_law_163 : decode cL_law 163 = .ok (.iaload, 1) := by decide +kernel
theorem dL_law_164 : decode cL_law 164 = .ok (.invokevirtual 17, 3) := by decide +kernel
theorem dL_law_167 : decode cL_law 167 = .ok (.pop, 1) := by decide +kernel
theorem dL_law_168 : decode cL_law 168 = .ok (.goto 372, 3) := by decide +kernel
theorem dL_law_171 : decode cL_law 171 = .ok (.aload_n 1, 1) := by decide +kernel
theorem dL_law_172 : decode cL_law 172 = .ok (.aload_n 0, 1) := by decide +kernel
theorem dL_law_173 : decode cL_law 173 = .ok (.iload_n 3, 1) := by decide +kernel
theorem dL_law_174 : decode cL_law 174 = .ok (.iconst 1, 1) := by decide +kernel
theorem dL_law_175 : decode cL_law 175 = .ok (.iadd, 1) := by decide +kernel
theorem dL_law_176 : decode cL_law 176 = .ok (.iaload, 1) := by decide +kernel
theorem dL_law_177 : decode cL_law 177 = .ok (.aload_n 0, 1) := by decide +kernel
theorem dL_law_178 : decode cL_law 178 = .ok (.iload_n 3, 1) := by decide +kernel
theorem dL_law_179 : decode cL_law 179 = .ok (.iconst 2, 1) := by decide +kernel
theorem dL_law_180 : decode cL_law 180 = .ok (.iadd, 1) := by decide +kernel
theorem dL_law_181 : decode cL_law 181 = .ok (.iaload, 1) := by decide +kernel
theorem dL_law_182 : decode cL_law 182 = .ok (.aload_n 0, 1) := by decide +kernel
theorem dL_law_183 : decode cL_law 183 = .ok (.iload_n 3, 1) := by decide +kernel
theorem dL_law_184 : decode cL_law 184 = .ok (.iconst 3, 1) := by decide +kernel
theorem dL_law_185 : decode cL_law 185 = .ok (.iadd, 1) := by decide +kernel
theorem dL_law_186 : decode cL_law 186 = .ok (.iaload, 1) := by decide +kernel
theorem dL_law_187 : decode cL_law 187 = .ok (.invokevirtual 18, 3) := by decide +kernel
theorem dL_law_190 : decode cL_law 190 = .ok (.pop, 1) := by decide +kernel
theorem dL_law_191 : decode cL_law 191 = .ok (.aload_n 2, 1) := by decide +kernel
theorem dL_law_192 : decode cL_law 192 = .ok (.aload_n 0, 1) := by decide +kernel
theorem dL_law_193 : decode cL_law 193 = .ok (.iload_n 3, 1) := by decide +kernel
theorem dL_law_194 : decode cL_law 194 = .ok (.iconst 1, 1) := by decide +kernel
theorem dL_law_195 : decode cL_law 195 = .ok (.iadd, 1) := by decide +kernel
theorem dL_law_196 : decode cL_law 196 = .ok (.iaload, 1) := by decide +kernel
theorem dL_law_197 : decode cL_law 197 = .ok (.aload_n 0, 1) := by decide +kernel
theorem dL_law_198 : decode cL_law 198 = .ok (.iload_n 3, 1) := by decide +kernel
theorem dL_law_199 : decode cL_law 199 = .ok (.iconst 2, 1) := by decide +kernel
theorem dL_law_200 : decode cL_law 200 = .ok (.iadd, 1) := by decide +kernel
theorem dL_law_201 : decode cL_law 201 = .ok (.iaload, 1) := by decide +kernel
theorem dL_law_202 : decode cL_law 202 = .ok (.aload_n 0, 1) := by decide +kernel
theorem dL_law_203 : decode cL_law 203 = .ok (.iload_n 3, 1) := by decide +kernel
theorem dL_law_204 : decode cL_law 204 = .ok (.iconst 3, 1) := by decide +kernel
theorem dL_law_205 : decode cL_law 205 = .ok (.iadd, 1) := by decide +kernel
theorem dL_law_206 : decode cL_law 206 = .ok (.iaload, 1) := by decide +kernel
theorem dL_law_207 : decode cL_law 207 = .ok (.invokevirtual 22, 3) := by decide +kernel
theorem dL_law_210 : decode cL_law 210 = .ok (.pop, 1) := by decide +kernel
theorem dL_law_211 : decode cL_law 211 = .ok (.goto 329, 3) := by decide +kernel
theorem dL_law_214 : decode cL_law 214 = .ok (.aload_n 1, 1) := by decide +kernel
theorem dL_law_215 : decode cL_law 215 = .ok (.aload_n 0, 1) := by decide +kernel
theorem dL_law_216 : decode cL_law 216 = .ok (.iload_n 3, 1) := by decide +kernel
theorem dL_law_217 : decode cL_law 217 = .ok (.iconst 1, 1) := by decide +kernel
theorem dL_law_218 : decode cL_law 218 = .ok (.iadd, 1) := by decide +kernel
theorem dL_law_219 : decode cL_law 219 = .ok (.iaload, 1) := by decide +kernel
theorem dL_law_220 : decode cL_law 220 = .ok (.aload_n 0, 1) := by decide +kernel
theorem dL_law_221 : decode cL_law 221 = .ok (.iload_n 3, 1) := by decide +kernel
theorem dL_law_222 : decode cL_law 222 = .ok (.iconst 2, 1) := by decide +kernel
theorem dL_law_223 : decode cL_law 223 = .ok (.iadd, 1) := by decide +kernel
theorem dL_law_224 : decode cL_law 224 = .ok (.iaload, 1) := by decide +kernel
theorem dL_law_225 : decode cL_law 225 = .ok (.invokevirtual 23, 3) := by decide +kernel
theorem dL_law_228 : decode cL_law 228 = .ok (.pop, 1) := by decide +kernel
theorem dL_law_229 : decode cL_law 229 = .ok (.aload_n 2, 1) := by decide +kernel
theorem dL_law_230 : decode cL_law 230 = .ok (.aload_n 0, 1) := by decide +kernel
theorem dL_law_231 : decode cL_law 231 = .ok (.iload_n 3, 1) := by decide +kernel
theorem dL_law_232 : decode cL_law 232 = .ok (.iconst 1, 1) := by decide +kernel
theorem dL_law_233 : decode cL_law 233 = .ok (.iadd, 1) := by decide +kernel
theorem dL_law_234 : decode cL_law 234 = .ok (.iaload, 1) := by decide +kernel
theorem dL_law_235 : decode cL_law 235 = .ok (.aload_n 0, 1) := by decide +kernel
theorem dL_law_236 : decode cL_law 236 = .ok (.iload_n 3, 1) := by decide +kernel
theorem dL_law_237 : decode cL_law 237 = .ok (.iconst 2, 1) := by decide +kernel
theorem dL_law_238 : decode cL_law 238 = .ok (.iadd, 1) := by decide +kernel
theorem dL_law_239 : decode cL_law 239 = .ok (.iaload, 1) := by decide +kernel
theorem dL_law_240 : decode cL_law 240 = .ok (.invokevirtual 27, 3) := by decide +kernel
theorem dL_law_243 : decode cL_law 243 = .ok (.pop, 1) := by decide +kernel
theorem dL_law_244 : decode cL_law 244 = .ok (.goto 296, 3) := by decide +kernel
theorem dL_law_247 : decode cL_law 247 = .ok (.aload_n 1, 1) := by decide +kernel
theorem dL_law_248 : decode cL_law 248 = .ok (.aload_n 0, 1) := by decide +kernel
theorem dL_law_249 : decode cL_law 249 = .ok (.iload_n 3, 1) := by decide +kernel
theorem dL_law_250 : decode cL_law 250 = .ok (.iconst 1, 1) := by decide +kernel
theorem dL_law_251 : decode cL_law 251 = .ok (.iadd, 1) := by decide +kernel
theorem dL_law_252 : decode cL_law 252 = .ok (.iaload, 1) := by decide +kernel
theorem dL_law_253 : decode cL_law 253 = .ok (.invokevirtual 28, 3) := by decide +kernel
theorem dL_law_256 : decode cL_law 256 = .ok (.pop, 1) := by decide +kernel
theorem dL_law_257 : decode cL_law 257 = .ok (.aload_n 2, 1) := by decide +kernel
theorem dL_law_258 : decode cL_law 258 = .ok (.aload_n 0, 1) := by decide +kernel
theorem dL_law_259 : decode cL_law 259 = .ok (.iload_n 3, 1) := by decide +kernel
theorem dL_law_260 : decode cL_law 260 = .ok (.iconst 1, 1) := by decide +kernel
theorem dL_law_261 : decode cL_law 261 = .ok (.iadd, 1) := by decide +kernel
theorem dL_law_262 : decode cL_law 262 = .ok (.iaload, 1) := by decide +kernel
theorem dL_law_263 : decode cL_law 263 = .ok (.invokevirtual 32, 3) := by decide +kernel
theorem dL_law_266 : decode cL_law 266 = .ok (.pop, 1) := by decide +kernel
theorem dL_law_267 : decode cL_law 267 = .ok (.goto 273, 3) := by decide +kernel
theorem dL_law_270 : decode cL_law 270 = .ok (.aload_n 1, 1) := by decide +kernel
theorem dL_law_271 : decode cL_law 271 = .ok (.invokevirtual 33, 3) := by decide +kernel
theorem dL_law_274 : decode cL_law 274 = .ok (.pop, 1) := by decide +kernel
theorem dL_law_275 : decode cL_law 275 = .ok (.aload_n 2, 1) := by decide +kernel
theorem dL_law_276 : decode cL_law 276 = .ok (.invokevirtual 37, 3) := by decide +kernel
theorem dL_law_279 : decode cL_law 279 = .ok (.pop, 1) := by decide +kernel
theorem dL_law_280 : decode cL_law 280 = .ok (.goto 260, 3) := by decide +kernel
theorem dL_law_283 : decode cL_law 283 = .ok (.aload_n 1, 1) := by decide +kernel
theorem dL_law_284 : decode cL_law 284 = .ok (.invokevirtual 38, 3) := by decide +kernel
theorem dL_law_287 : decode cL_law 287 = .ok (.pop, 1) := by decide +kernel
theorem dL_law_288 : decode cL_law 288 = .ok (.aload_n 2, 1) := by decide +kernel
theorem dL_law_289 : decode cL_law 289 = .ok (.invokevirtual 41, 3) := by decide +kernel
theorem dL_law_292 : decode cL_law 292 = .ok (.pop, 1) := by decide +kernel
theorem dL_law_293 : decode cL_law 293 = .ok (.goto 247, 3) := by decide +kernel
theorem dL_law_296 : decode cL_law 296 = .ok (.aload_n 1, 1) := by decide +kernel
theorem dL_law_297 : decode cL_law 297 = .ok (.aload_n 0, 1) := by decide +kernel
theorem dL_law_298 : decode cL_law 298 = .ok (.iload_n 3, 1) := by decide +kernel
theorem dL_law_299 : decode cL_law 299 = .ok (.iconst 1, 1) := by decide +kernel
theorem dL_law_300 : decode cL_law 300 = .ok (.iadd, 1) := by decide +kernel
theorem dL_law_301 : decode cL_law 301 = .ok (.iaload, 1) := by decide +kernel
theorem dL_law_302 : decode cL_law 302 = .ok (.invokevirtual 42, 3) := by decide +kernel
theorem dL_law_305 : decode cL_law 305 = .ok (.pop, 1) := by decide +kernel
theorem dL_law_306 : decode cL_law 306 = .ok (.aload_n 2, 1) := by decide +kernel
theorem dL_law_307 : decode cL_law 307 = .ok (.aload_n 0, 1) := by decide +kernel
theorem dL_law_308 : decode cL_law 308 = .ok (.iload_n 3, 1) := by decide +kernel
theorem dL_law_309 : decode cL_law 309 = .ok (.iconst 1, 1) := by decide +kernel
theorem dL_law_310 : decode cL_law 310 = .ok (.iadd, 1) := by decide +kernel
theorem dL_law_311 : decode cL_law 311 = .ok (.iaload, 1) := by decide +kernel
theorem dL_law_312 : decode cL_law 312 = .ok (.invokevirtual 45, 3) := by decide +kernel
theorem dL_law_315 : decode cL_law 315 = .ok (.pop, 1) := by decide +kernel
theorem dL_law_316 : decode cL_law 316 = .ok (.goto 224, 3) := by decide +kernel
theorem dL_law_319 : decode cL_law 319 = .ok (.aload_n 1, 1) := by decide +kernel
theorem dL_law_320 : decode cL_law 320 = .ok (.aload_n 0, 1) := by decide +kernel
theorem dL_law_321 : decode cL_law 321 = .ok (.iload_n 3, 1) := by decide +kernel
theorem dL_law_322 : decode cL_law 322 = .ok (.iconst 1, 1) := by decide +kernel
theorem dL_law_323 : decode cL_law 323 = .ok (.iadd, 1) := by decide +kernel
theorem dL_law_324 : decode cL_law 324 = .ok (.iaload, 1) := by decide +kernel
theorem dL_law_325 : decode cL_law 325 = .ok (.aload_n 0, 1) := by decide +kernel
theorem dL_law_326 : decode cL_law 326 = .ok (.iload_n 3, 1) := by decide +kernel
theorem dL_law_327 : decode cL_law 327 = .ok (.iconst 2, 1) := by decide +kernel
theorem dL_law_328 : decode cL_law 328 = .ok (.iadd, 1) := by decide +kernel
theorem dL_law_329 : decode cL_law 329 = .ok (.iaload, 1) := by decide +kernel
theorem dL_law_330 : decode cL_law 330 = .ok (.invokevirtual 46, 3) := by decide +kernel
theorem dL_law_333 : decode cL_law 333 = .ok (.pop, 1) := by decide +kernel
theorem dL_law_334 : decode cL_law 334 = .ok (.aload_n 2, 1) := by decide +kernel
theorem dL_law_335 : decode cL_law 335 = .ok (.aload_n 0, 1) := by decide +kernel
theorem dL_law_336 : decode cL_law 336 = .ok (.iload_n 3, 1) := by decide +kernel
theorem dL_law_337 : decode cL_law 337 = .ok (.iconst 1, 1) := by decide +kernel
theorem dL_law_338 : decode cL_law 338 = .ok (.iadd, 1) := by decide +kernel
theorem dL_law_339 : decode cL_law 339 = .ok (.iaload, 1) := by decide +kernel
theorem dL_law_340 : decode cL_law 340 = .ok (.aload_n 0, 1) := by decide +kernel
theorem dL_law_341 : decode cL_law 341 = .ok (.iload_n 3, 1) := by decide +kernel
theorem dL_law_342 : decode cL_law 342 = .ok (.iconst 2, 1) := by decide +kernel
theorem dL_law_343 : decode cL_law 343 = .ok (.iadd, 1) := by decide +kernel
theorem dL_law_344 : decode cL_law 344 = .ok (.iaload, 1) := by decide +kernel
theorem dL_law_345 : decode cL_law 345 = .ok (.invokevirtual 49, 3) := by decide +kernel
theorem dL_law_348 : decode cL_law 348 = .ok (.pop, 1) := by decide +kernel
theorem dL_law_349 : decode cL_law 349 = .ok (.goto 191, 3) := by decide +kernel
theorem dL_law_352 : decode cL_law 352 = .ok (.aload_n 1, 1) := by decide +kernel
theorem dL_law_353 : decode cL_law 353 = .ok (.aload_n 0, 1) := by decide +kernel
theorem dL_law_354 : decode cL_law 354 = .ok (.iload_n 3, 1) := by decide +kernel
theorem dL_law_355 : decode cL_law 355 = .ok (.iconst 1, 1) := by decide +kernel
theorem dL_law_356 : decode cL_law 356 = .ok (.iadd, 1) := by decide +kernel
theorem dL_law_357 : decode cL_law 357 = .ok (.iaload, 1) := by decide +kernel
theorem dL_law_358 : decode cL_law 358 = .ok (.aload_n 0, 1) := by decide +kernel
theorem dL_law_359 : decode cL_law 359 = .ok (.iload_n 3, 1) := by decide +kernel
theorem dL_law_360 : decode cL_law 360 = .ok (.iconst 2, 1) := by decide +kernel
theorem dL_law_361 : decode cL_law 361 = .ok (.iadd, 1) := by decide +kernel
theorem dL_law_362 : decode cL_law 362 = .ok (.iaload, 1) := by decide +kernel
theorem dL_law_363 : decode cL_law 363 = .ok (.ifCond .eq 7, 3) := by decide +kernel
theorem dL_law_370 : decode cL_law 370 = .ok (.iconst 0, 1) := by decide +kernel
theorem dL_law_371 : decode cL_law 371 = .ok (.aload_n 0, 1) := by decide +kernel
theorem dL_law_372 : decode cL_law 372 = .ok (.iload_n 3, 1) := by decide +kernel
theorem dL_law_373 : decode cL_law 373 = .ok (.iconst 3, 1) := by decide +kernel
theorem dL_law_374 : decode cL_law 374 = .ok (.iadd, 1) := by decide +kernel
theorem dL_law_375 : decode cL_law 375 = .ok (.iaload, 1) := by decide +kernel
theorem dL_law_376 : decode cL_law 376 = .ok (.aload_n 0, 1) := by decide +kernel
theorem dL_law_377 : decode cL_law 377 = .ok (.iload_n 3, 1) := by decide +kernel
theorem dL_law_378 : decode cL_law 378 = .ok (.iconst 4, 1) := by decide +kernel
theorem dL_law_379 : decode cL_law 379 = .ok (.iadd, 1) := by decide +kernel
theorem dL_law_380 : decode cL_law 380 = .ok (.iaload, 1) := by decide +kernel
theorem dL_law_381 : decode cL_law 381 = .ok (.invokevirtual 50, 3) := by decide +kernel
theorem dL_law_384 : decode cL_law 384 = .ok (.pop, 1) := by decide +kernel
theorem dL_law_385 : decode cL_law 385 = .ok (.aload_n 2, 1) := by decide +kernel
theorem dL_law_386 : decode cL_law 386 = .ok (.aload_n 0, 1) := by decide +kernel
theorem dL_law_387 : decode cL_law 387 = .ok (.iload_n 3, 1) := by decide +kernel
theorem dL_law_388 : decode cL_law 388 = .ok (.iconst 1, 1) := by decide +kernel
theorem dL_law_389 : decode cL_law 389 = .ok (.iadd, 1) := by decide +kernel
theorem dL_law_390 : decode cL_law 390 = .ok (.iaload, 1) := by decide +kernel
theorem dL_law_391 : decode cL_law 391 = .ok (.aload_n 0, 1) := by decide +kernel
theorem dL_law_392 : decode cL_law 392 = .ok (.iload_n 3, 1) := by decide +kernel
theorem dL_law_393 : decode cL_law 393 = .ok (.iconst 2, 1) := by decide +kernel
theorem dL_law_394 : decode cL_law 394 = .ok (.iadd, 1) := by decide +kernel
theorem dL_law_395 : decode cL_law 395 = .ok (.iaload, 1) := by decide +kernel
theorem dL_law_396 : decode cL_law 396 = .ok (.ifCond .eq 7, 3) := by decide +kernel
theorem dL_law_403 : decode cL_law 403 = .ok (.iconst 0, 1) := by decide +kernel
theorem dL_law_404 : decode cL_law 404 = .ok (.aload_n 0, 1) := by decide +kernel
theorem dL_law_405 : decode cL_law 405 = .ok (.iload_n 3, 1) := by decide +kernel
theorem dL_law_406 : decode cL_law 406 = .ok (.iconst 3, 1) := by decide +kernel
theorem dL_law_407 : decode cL_law 407 = .ok (.iadd, 1) := by decide +kernel
theorem dL_law_408 : decode cL_law 408 = .ok (.iaload, 1) := by decide +kernel
theorem dL_law_409 : decode cL_law 409 = .ok (.aload_n 0, 1) := by decide +kernel
theorem dL_law_410 : decode cL_law 410 = .ok (.iload_n 3, 1) := by decide +kernel
theorem dL_law_411 : decode cL_law 411 = .ok (.iconst 4, 1) := by decide +kernel
theorem dL_law_412 : decode cL_law 412 = .ok (.iadd, 1) := by decide +kernel
theorem dL_law_413 : decode cL_law 413 = .ok (.iaload, 1) := by decide +kernel
theorem dL_law_414 : decode cL_law 414 = .ok (.invokevirtual 54, 3) := by decide +kernel
theorem dL_law_417 : decode cL_law 417 = .ok (.pop, 1) := by decide +kernel
theorem dL_law_418 : decode cL_law 418 = .ok (.goto 122, 3) := by decide +kernel
theorem dL_law_366 : decode cL_law 366 = .ok (.iconst 1, 1) := by decide +kernel
theorem dL_law_367 : decode cL_law 367 = .ok (.goto 4, 3) := by decide +kernel
theorem dL_law_399 : decode cL_law 399 = .ok (.iconst 1, 1) := by decide +kernel
theorem dL_law_400 : decode cL_law 400 = .ok (.goto 4, 3) := by decide +kernel
theorem dL_law_421 : decode cL_law 421 = .ok (.aload_n 1, 1) := by decide +kernel
theorem dL_law_422 : decode cL_law 422 = .ok (.aload_n 0, 1) := by decide +kernel
theorem dL_law_423 : decode cL_law 423 = .ok (.iload_n 3, 1) := by decide +kernel
theorem dL_law_424 : decode cL_law 424 = .ok (.iconst 1, 1) := by decide +kernel
theorem dL_law_425 : decode cL_law 425 = .ok (.iadd, 1) := by decide +kernel
theorem dL_law_426 : decode cL_law 426 = .ok (.iaload, 1) := by decide +kernel
theorem dL_law_427 : decode cL_law 427 = .ok (.aload_n 0, 1) := by decide +kernel
theorem dL_law_428 : decode cL_law 428 = .ok (.iload_n 3, 1) := by decide +kernel
theorem dL_law_429 : decode cL_law 429 = .ok (.iconst 2, 1) := by decide +kernel
theorem dL_law_430 : decode cL_law 430 = .ok (.iadd, 1) := by decide +kernel
theorem dL_law_431 : decode cL_law 431 = .ok (.iaload, 1) := by decide +kernel
theorem dL_law_432 : decode cL_law 432 = .ok (.invokevirtual 55, 3) := by decide +kernel
theorem dL_law_435 : decode cL_law 435 = .ok (.pop, 1) := by decide +kernel
theorem dL_law_436 : decode cL_law 436 = .ok (.aload_n 2, 1) := by decide +kernel
theorem dL_law_437 : decode cL_law 437 = .ok (.aload_n 0, 1) := by decide +kernel
theorem dL_law_438 : decode cL_law 438 = .ok (.iload_n 3, 1) := by decide +kernel
theorem dL_law_439 : decode cL_law 439 = .ok (.iconst 1, 1) := by decide +kernel
theorem dL_law_440 : decode cL_law 440 = .ok (.iadd, 1) := by decide +kernel
theorem dL_law_441 : decode cL_law 441 = .ok (.iaload, 1) := by decide +kernel
theorem dL_law_442 : decode cL_law 442 = .ok (.aload_n 0, 1) := by decide +kernel
theorem dL_law_443 : decode cL_law 443 = .ok (.iload_n 3, 1) := by decide +kernel
theorem dL_law_444 : decode cL_law 444 = .ok (.iconst 2, 1) := by decide +kernel
theorem dL_law_445 : decode cL_law 445 = .ok (.iadd, 1) := by decide +kernel
theorem dL_law_446 : decode cL_law 446 = .ok (.iaload, 1) := by decide +kernel
theorem dL_law_447 : decode cL_law 447 = .ok (.invokevirtual 58, 3) := by decide +kernel
theorem dL_law_450 : decode cL_law 450 = .ok (.pop, 1) := by decide +kernel
theorem dL_law_451 : decode cL_law 451 = .ok (.goto 89, 3) := by decide +kernel
theorem dL_law_454 : decode cL_law 454 = .ok (.aload_n 1, 1) := by decide +kernel
theorem dL_law_455 : decode cL_law 455 = .ok (.aload_n 0, 1) := by decide +kernel
theorem dL_law_456 : decode cL_law 456 = .ok (.iload_n 3, 1) := by decide +kernel
theorem dL_law_457 : decode cL_law 457 = .ok (.iconst 1, 1) := by decide +kernel
theorem dL_law_458 : decode cL_law 458 = .ok (.iadd, 1) := by decide +kernel
theorem dL_law_459 : decode cL_law 459 = .ok (.iaload, 1) := by decide +kernel
theorem dL_law_460 : decode cL_law 460 = .ok (.invokevirtual 59, 3) := by decide +kernel
theorem dL_law_463 : decode cL_law 463 = .ok (.pop, 1) := by decide +kernel
theorem dL_law_464 : decode cL_law 464 = .ok (.aload_n 2, 1) := by decide +kernel
theorem dL_law_465 : decode cL_law 465 = .ok (.aload_n 0, 1) := by decide +kernel
theorem dL_law_466 : decode cL_law 466 = .ok (.iload_n 3, 1) := by decide +kernel
theorem dL_law_467 : decode cL_law 467 = .ok (.iconst 1, 1) := by decide +kernel
theorem dL_law_468 : decode cL_law 468 = .ok (.iadd, 1) := by decide +kernel
theorem dL_law_469 : decode cL_law 469 = .ok (.iaload, 1) := by decide +kernel
theorem dL_law_470 : decode cL_law 470 = .ok (.invokevirtual 62, 3) := by decide +kernel
theorem dL_law_473 : decode cL_law 473 = .ok (.pop, 1) := by decide +kernel
theorem dL_law_474 : decode cL_law 474 = .ok (.goto 66, 3) := by decide +kernel
theorem dL_law_477 : decode cL_law 477 = .ok (.aload_n 1, 1) := by decide +kernel
theorem dL_law_478 : decode cL_law 478 = .ok (.invokevirtual 63, 3) := by decide +kernel
theorem dL_law_481 : decode cL_law 481 = .ok (.pop, 1) := by decide +kernel
theorem dL_law_482 : decode cL_law 482 = .ok (.aload_n 2, 1) := by decide +kernel
theorem dL_law_483 : decode cL_law 483 = .ok (.invokevirtual 66, 3) := by decide +kernel
theorem dL_law_486 : decode cL_law 486 = .ok (.pop, 1) := by decide +kernel
theorem dL_law_487 : decode cL_law 487 = .ok (.goto 53, 3) := by decide +kernel
theorem dL_law_490 : decode cL_law 490 = .ok (.aload_n 1, 1) := by decide +kernel
theorem dL_law_491 : decode cL_law 491 = .ok (.invokevirtual 67, 3) := by decide +kernel
theorem dL_law_494 : decode cL_law 494 = .ok (.pop, 1) := by decide +kernel
theorem dL_law_495 : decode cL_law 495 = .ok (.aload_n 2, 1) := by decide +kernel
theorem dL_law_496 : decode cL_law 496 = .ok (.invokevirtual 70, 3) := by decide +kernel
theorem dL_law_499 : decode cL_law 499 = .ok (.pop, 1) := by decide +kernel
theorem dL_law_500 : decode cL_law 500 = .ok (.goto 40, 3) := by decide +kernel
theorem dL_law_503 : decode cL_law 503 = .ok (.aload_n 1, 1) := by decide +kernel
theorem dL_law_504 : decode cL_law 504 = .ok (.aload_n 0, 1) := by decide +kernel
theorem dL_law_505 : decode cL_law 505 = .ok (.iload_n 3, 1) := by decide +kernel
theorem dL_law_506 : decode cL_law 506 = .ok (.iconst 1, 1) := by decide +kernel
theorem dL_law_507 : decode cL_law 507 = .ok (.iadd, 1) := by decide +kernel
theorem dL_law_508 : decode cL_law 508 = .ok (.iaload, 1) := by decide +kernel
theorem dL_law_509 : decode cL_law 509 = .ok (.invokevirtual 71, 3) := by decide +kernel
theorem dL_law_512 : decode cL_law 512 = .ok (.pop, 1) := by decide +kernel
theorem dL_law_513 : decode cL_law 513 = .ok (.aload_n 2, 1) := by decide +kernel
theorem dL_law_514 : decode cL_law 514 = .ok (.aload_n 0, 1) := by decide +kernel
theorem dL_law_515 : decode cL_law 515 = .ok (.iload_n 3, 1) := by decide +kernel
theorem dL_law_516 : decode cL_law 516 = .ok (.iconst 1, 1) := by decide +kernel
theorem dL_law_517 : decode cL_law 517 = .ok (.iadd, 1) := by decide +kernel
theorem dL_law_518 : decode cL_law 518 = .ok (.iaload, 1) := by decide +kernel
theorem dL_law_519 : decode cL_law 519 = .ok (.invokevirtual 74, 3) := by decide +kernel
theorem dL_law_522 : decode cL_law 522 = .ok (.pop, 1) := by decide +kernel
theorem dL_law_523 : decode cL_law 523 = .ok (.goto 17, 3) := by decide +kernel
theorem dL_law_526 : decode cL_law 526 = .ok (.aload_n 1, 1) := by decide +kernel
theorem dL_law_527 : decode cL_law 527 = .ok (.invokevirtual 75, 3) := by decide +kernel
theorem dL_law_530 : decode cL_law 530 = .ok (.aload_n 2, 1) := by decide +kernel
theorem dL_law_531 : decode cL_law 531 = .ok (.invokevirtual 79, 3) := by decide +kernel
theorem dL_law_534 : decode cL_law 534 = .ok (.lcmp, 1) := by decide +kernel
theorem dL_law_535 : decode cL_law 535 = .ok (.ifCond .eq 5, 3) := by decide +kernel
set_option maxHeartbeats 4000000 in
set_option maxRecDepth 100000 in
/-- node -/
theorem lw_c0 {p : Program} {l : Launch} {e : Env} {s : State} {m : MethodId} {below : List Frame} {meth : Method} {c : Code} {b L : Nat} {xs : Nat → Int32} {G : cG} {M : mG} {tk : Nat} {Q : State → Prop} (hx : p.tables.exec = Jvm.exec) (hb : c.code = code) (hml : c.maxLocals = 4) (hown : s.vm.findClass RL = some m.cls) (hts : ∀ w ∈ lw_tbl, w.before #[Value.ref b] s = true) (hX : va_X b L xs s s.heap) (hbl : b < s.heap.size) (hbA : ¬ lA s b) (hKc : cK G s) (hKm : mK M s) (hDD : mDD M) (hZ : ZT tk (lA s) s s.heap) (hLn : L ≤ 3072) {S : cS} {tr : aM} {N i : Nat} {o : Nat → Int32} {F : Nat → Nat → Int32} {H : Heap} {locs : List Loc} {ls : Array Slot} (hi : 6 * i + 6 ≤ L) (hR : LR S tr N o F) (hT : TY9 S o F i) (hz : TRz tr N F) (hW : LWd s G M S o F H locs) (hl : lv_has ls 4 [(0, .ref b), (1, .ref (ga G 0)), (2, .ref (mh M)), (3, .int (nI (6 * i)))]) (kk : ∀ (S : cS) (tr : aM) (N : Nat) (o : Nat → Int32) (F : Nat → Nat → Int32) (H : Heap) (locs : List Loc), LR S tr N o F → TY9 S o F (i + 1) → TRz tr N F → LWd s G M S o F H locs → W p l e room_1 s m #[Value.ref b] below meth c H locs (K0 + PT S) (N0s + 12 * PT S) Q (F0 m 540 ls [])) : W p l e room_1 s m #[Value.ref b] below meth c H locs (K0 + PT S) (N0s + 12 * PT S) Q (F0 m 108 ls []) := by
  refine lv_aload_n hx hb dL_law_108 rfl (lv_at hl 1 rfl) ?_
  refine lv_aload_n hx hb dL_law_109 rfl (lv_at hl 0 rfl) ?_
  refine lv_iload_n hx hb dL_law_110 rfl (lv_at hl 3 rfl) ?_
  refine lv_iconst (v := 1) hx hb dL_law_111 (by decide) ?_
  refine lv_iadd hx hb dL_law_112 ?_
  refine lv_topi (fun f_1 ef_1 => ?_)
  have ef_1c : f_1 = nI (6 * i + 1) := ef_1.trans (nI_add (6 * i) 1)
  subst ef_1c
  refine va_sld hx hb hX hbl hbA hW.2.2.2.2.2 (vp_in_nI (show 6 * i + 1 < L by omega) (by omega)) dL_law_113 ?_
  refine lv_topi (fun f_2 ef_2 => ?_)
  have ef_2c : f_2 = xs (6 * i + 1) := ef_2.trans (congrArg xs (nI_clamp (by omega)))
  subst ef_2c
  refine lv_aload_n hx hb dL_law_114 rfl (lv_at hl 0 rfl) ?_
  refine lv_iload_n hx hb dL_law_115 rfl (lv_at hl 3 rfl) ?_
  refine lv_iconst (v := 2) hx hb dL_law_116 (by decide) ?_
  refine lv_iadd hx hb dL_law_117 ?_
  refine lv_topi (fun f_3 ef_3 => ?_)
  have ef_3c : f_3 = nI (6 * i + 2) := ef_3.trans (nI_add (6 * i) 2)
  subst ef_3c
  refine va_sld hx hb hX hbl hbA hW.2.2.2.2.2 (vp_in_nI (show 6 * i + 2 < L by omega) (by omega)) dL_law_118 ?_
  refine lv_topi (fun f_4 ef_4 => ?_)
  have ef_4c : f_4 = xs (6 * i + 2) := ef_4.trans (congrArg xs (nI_clamp (by omega)))
  subst ef_4c
  refine lv_aload_n hx hb dL_law_119 rfl (lv_at hl 0 rfl) ?_
  refine lv_iload_n hx hb dL_law_120 rfl (lv_at hl 3 rfl) ?_
  refine lv_iconst (v := 3) hx hb dL_law_121 (by decide) ?_
  refine lv_iadd hx hb dL_law_122 ?_
  refine lv_topi (fun f_5 ef_5 => ?_)
  have ef_5c : f_5 = nI (6 * i + 3) := ef_5.trans (nI_add (6 * i) 3)
  subst ef_5c
  refine va_sld hx hb hX hbl hbA hW.2.2.2.2.2 (vp_in_nI (show 6 * i + 3 < L by omega) (by omega)) dL_law_123 ?_
  refine lv_topi (fun f_6 ef_6 => ?_)
  have ef_6c : f_6 = xs (6 * i + 3) := ef_6.trans (congrArg xs (nI_clamp (by omega)))
  subst ef_6c
  refine lv_aload_n hx hb dL_law_124 rfl (lv_at hl 0 rfl) ?_
  refine lv_iload_n hx hb dL_law_125 rfl (lv_at hl 3 rfl) ?_
  refine lv_iconst (v := 4) hx hb dL_law_126 (by decide) ?_
  refine lv_iadd hx hb dL_law_127 ?_
  refine lv_topi (fun f_7 ef_7 => ?_)
  have ef_7c : f_7 = nI (6 * i + 4) := ef_7.trans (nI_add (6 * i) 4)
  subst ef_7c
  refine va_sld hx hb hX hbl hbA hW.2.2.2.2.2 (vp_in_nI (show 6 * i + 4 < L by omega) (by omega)) dL_law_128 ?_
  refine lv_topi (fun f_8 ef_8 => ?_)
  have ef_8c : f_8 = xs (6 * i + 4) := ef_8.trans (congrArg xs (nI_clamp (by omega)))
  subst ef_8c
  refine lv_aload_n hx hb dL_law_129 rfl (lv_at hl 0 rfl) ?_
  refine lv_iload_n hx hb dL_law_130 rfl (lv_at hl 3 rfl) ?_
  refine lv_iconst (v := 5) hx hb dL_law_131 (by decide) ?_
  refine lv_iadd hx hb dL_law_132 ?_
  refine lv_topi (fun f_9 ef_9 => ?_)
  have ef_9c : f_9 = nI (6 * i + 5) := ef_9.trans (nI_add (6 * i) 5)
  subst ef_9c
  refine va_sld hx hb hX hbl hbA hW.2.2.2.2.2 (vp_in_nI (show 6 * i + 5 < L by omega) (by omega)) dL_law_133 ?_
  refine lv_topi (fun f_10 ef_10 => ?_)
  have ef_10c : f_10 = xs (6 * i + 5) := ef_10.trans (congrArg xs (nI_clamp (by omega)))
  subst ef_10c
  refine l_ci (l_runVZ (As := [.int (xs (6 * i + 1)), .int (xs (6 * i + 2)), .int (xs (6 * i + 3)), .int (xs (6 * i + 4)), .int (xs (6 * i + 5))]) (rest := []) (q0 := 0) (ci := 7) ⟨hx, hb, hml, hown, hts⟩ (k_node l G S tk N (xs (6 * i + 1)) (xs (6 * i + 2)) (xs (6 * i + 3)) (xs (6 * i + 4)) (xs (6 * i + 5)) hW.2.2.1 hR.1.1.1 H) (cwV 5 hts GL_X7_node rfl rfl rfl (by decide +kernel) ⟨Nat.le_of_ble_eq_true rfl, Nat.le_of_ble_eq_true rfl⟩) hW hKc hZ cw_0 rfl rfl hl.1 rfl (lv_room (Nat.le_of_ble_eq_true rfl)) dL_law_134) hW (fun r_11 S_13 H locs hw_12 hW => ?_)
  try dsimp only at hw_12
  refine lv_pop hx hb dL_law_137 rfl ?_
  refine lv_aload_n hx hb dL_law_138 rfl (lv_at hl 2 rfl) ?_
  refine lv_aload_n hx hb dL_law_139 rfl (lv_at hl 0 rfl) ?_
  refine lv_iload_n hx hb dL_law_140 rfl (lv_at hl 3 rfl) ?_
  refine lv_iconst (v := 1) hx hb dL_law_141 (by decide) ?_
  refine lv_iadd hx hb dL_law_142 ?_
  refine lv_topi (fun f_14 ef_14 => ?_)
  have ef_14c : f_14 = nI (6 * i + 1) := ef_14.trans (nI_add (6 * i) 1)
  subst ef_14c
  refine va_sld hx hb hX hbl hbA hW.2.2.2.2.2 (vp_in_nI (show 6 * i + 1 < L by omega) (by omega)) dL_law_143 ?_
  refine lv_topi (fun f_15 ef_15 => ?_)
  have ef_15c : f_15 = xs (6 * i + 1) := ef_15.trans (congrArg xs (nI_clamp (by omega)))
  subst ef_15c
  refine lv_aload_n hx hb dL_law_144 rfl (lv_at hl 0 rfl) ?_
  refine lv_iload_n hx hb dL_law_145 rfl (lv_at hl 3 rfl) ?_
  refine lv_iconst (v := 2) hx hb dL_law_146 (by decide) ?_
  refine lv_iadd hx hb dL_law_147 ?_
  refine lv_topi (fun f_16 ef_16 => ?_)
  have ef_16c : f_16 = nI (6 * i + 2) := ef_16.trans (nI_add (6 * i) 2)
  subst ef_16c
  refine va_sld hx hb hX hbl hbA hW.2.2.2.2.2 (vp_in_nI (show 6 * i + 2 < L by omega) (by omega)) dL_law_148 ?_
  refine lv_topi (fun f_17 ef_17 => ?_)
  have ef_17c : f_17 = xs (6 * i + 2) := ef_17.trans (congrArg xs (nI_clamp (by omega)))
  subst ef_17c
  refine lv_aload_n hx hb dL_law_149 rfl (lv_at hl 0 rfl) ?_
  refine lv_iload_n hx hb dL_law_150 rfl (lv_at hl 3 rfl) ?_
  refine lv_iconst (v := 3) hx hb dL_law_151 (by decide) ?_
  refine lv_iadd hx hb dL_law_152 ?_
  refine lv_topi (fun f_18 ef_18 => ?_)
  have ef_18c : f_18 = nI (6 * i + 3) := ef_18.trans (nI_add (6 * i) 3)
  subst ef_18c
  refine va_sld hx hb hX hbl hbA hW.2.2.2.2.2 (vp_in_nI (show 6 * i + 3 < L by omega) (by omega)) dL_law_153 ?_
  refine lv_topi (fun f_19 ef_19 => ?_)
  have ef_19c : f_19 = xs (6 * i + 3) := ef_19.trans (congrArg xs (nI_clamp (by omega)))
  subst ef_19c
  refine lv_aload_n hx hb dL_law_154 rfl (lv_at hl 0 rfl) ?_
  refine lv_iload_n hx hb dL_law_155 rfl (lv_at hl 3 rfl) ?_
  refine lv_iconst (v := 4) hx hb dL_law_156 (by decide) ?_
  refine lv_iadd hx hb dL_law_157 ?_
  refine lv_topi (fun f_20 ef_20 => ?_)
  have ef_20c : f_20 = nI (6 * i + 4) := ef_20.trans (nI_add (6 * i) 4)
  subst ef_20c
  refine va_sld hx hb hX hbl hbA hW.2.2.2.2.2 (vp_in_nI (show 6 * i + 4 < L by omega) (by omega)) dL_law_158 ?_
  refine lv_topi (fun f_21 ef_21 => ?_)
  have ef_21c : f_21 = xs (6 * i + 4) := ef_21.trans (congrArg xs (nI_clamp (by omega)))
  subst ef_21c
  refine lv_aload_n hx hb dL_law_159 rfl (lv_at hl 0 rfl) ?_
  refine lv_iload_n hx hb dL_law_160 rfl (lv_at hl 3 rfl) ?_
  refine lv_iconst (v := 5) hx hb dL_law_161 (by decide) ?_
  refine lv_iadd hx hb dL_law_162 ?_
  refine lv_topi (fun f_22 ef_22 => ?_)
  have ef_22c : f_22 = nI (6 * i + 5) := ef_22.trans (nI_add (6 * i) 5)
  subst ef_22c
  refine va_sld hx hb hX hbl hbA hW.2.2.2.2.2 (vp_in_nI (show 6 * i + 5 < L by omega) (by omega)) dL_law_163 ?_
  refine lv_topi (fun f_23 ef_23 => ?_)
  have ef_23c : f_23 = xs (6 * i + 5) := ef_23.trans (congrArg xs (nI_clamp (by omega)))
  subst ef_23c
  refine l_mi (l_runM (As := [.int (xs (6 * i + 1)), .int (xs (6 * i + 2)), .int (xs (6 * i + 3)), .int (xs (6 * i + 4)), .int (xs (6 * i + 5))]) (rest := []) ⟨hx, hb, hml, hown, hts⟩ (n9_node l M hDD o F tr N (xs (6 * i + 1)) (xs (6 * i + 2)) (xs (6 * i + 3)) (xs (6 * i + 4)) (xs (6 * i + 5)) hR.2.1 H.size) (cwV 5 hts GL_X8_node rfl rfl rfl (by decide +kernel) ⟨Nat.le_of_ble_eq_true rfl, Nat.le_of_ble_eq_true rfl⟩) hW hKm rfl hl.1 rfl (lv_room (Nat.le_of_ble_eq_true rfl)) dL_law_164) hW (fun r_24 o_26 F_27 H locs hw_25 hW => ?_)
  try dsimp only at hw_25
  refine lv_pop hx hb dL_law_167 rfl ?_
  refine lv_goto (tgt := 540) hx hb dL_law_168 (by decide) ?_
  obtain ⟨er, tr1, N1, hR1⟩ := node_bz ⟨hR, hT⟩ hz hw_25.1.2 hw_25.2 hw_12.1 hw_12.2 hw_25.1.1
  exact kk _ _ _ _ _ _ _ hR1.1.1 hR1.1.2 hR1.2 hW

set_option maxHeartbeats 4000000 in
set_option maxRecDepth 100000 in
/-- field -/
theorem lw_c1 {p : Program} {l : Launch} {e : Env} {s : State} {m : MethodId} {below : List Frame} {meth : Method} {c : Code} {b L : Nat} {xs : Nat → Int32} {G : cG} {M : mG} {tk : Nat} {Q : State → Prop} (hx : p.tables.exec = Jvm.exec) (hb : c.code = code) (hml : c.maxLocals = 4) (hown : s.vm.findClass RL = some m.cls) (hts : ∀ w ∈ lw_tbl, w.before #[Value.ref b] s = true) (hX : va_X b L xs s s.heap) (hbl : b < s.heap.size) (hbA : ¬ lA s b) (hKc : cK G s) (hKm : mK M s) (hDD : mDD M) (hZ : ZT tk (lA s) s s.heap) (hLn : L ≤ 3072) {S : cS} {tr : aM} {N i : Nat} {o : Nat → Int32} {F : Nat → Nat → Int32} {H : Heap} {locs : List Loc} {ls : Array Slot} (hi : 6 * i + 6 ≤ L) (hR : LR S tr N o F) (hT : TY9 S o F i) (hz : TRz tr N F) (hW : LWd s G M S o F H locs) (hl : lv_has ls 4 [(0, .ref b), (1, .ref (ga G 0)), (2, .ref (mh M)), (3, .int (nI (6 * i)))]) (kk : ∀ (S : cS) (tr : aM) (N : Nat) (o : Nat → Int32) (F : Nat → Nat → Int32) (H : Heap) (locs : List Loc), LR S tr N o F → TY9 S o F (i + 1) → TRz tr N F → LWd s G M S o F H locs → W p l e room_1 s m #[Value.ref b] below meth c H locs (K0 + PT S) (N0s + 12 * PT S) Q (F0 m 540 ls [])) : W p l e room_1 s m #[Value.ref b] below meth c H locs (K0 + PT S) (N0s + 12 * PT S) Q (F0 m 171 ls []) := by
  refine lv_aload_n hx hb dL_law_171 rfl (lv_at hl 1 rfl) ?_
  refine lv_aload_n hx hb dL_law_172 rfl (lv_at hl 0 rfl) ?_
  refine lv_iload_n hx hb dL_law_173 rfl (lv_at hl 3 rfl) ?_
  refine lv_iconst (v := 1) hx hb dL_law_174 (by decide) ?_
  refine lv_iadd hx hb dL_law_175 ?_
  refine lv_topi (fun f_1 ef_1 => ?_)
  have ef_1c : f_1 = nI (6 * i + 1) := ef_1.trans (nI_add (6 * i) 1)
  subst ef_1c
  refine va_sld hx hb hX hbl hbA hW.2.2.2.2.2 (vp_in_nI (show 6 * i + 1 < L by omega) (by omega)) dL_law_176 ?_
  refine lv_topi (fun f_2 ef_2 => ?_)
  have ef_2c : f_2 = xs (6 * i + 1) := ef_2.trans (congrArg xs (nI_clamp (by omega)))
  subst ef_2c
  refine lv_aload_n hx hb dL_law_177 rfl (lv_at hl 0 rfl) ?_
  refine lv_iload_n hx hb dL_law_178 rfl (lv_at hl 3 rfl) ?_
  refine lv_iconst (v := 2) hx hb dL_law_179 (by decide) ?_
  refine lv_iadd hx hb dL_law_180 ?_
  refine lv_topi (fun f_3 ef_3 => ?_)
  have ef_3c : f_3 = nI (6 * i + 2) := ef_3.trans (nI_add (6 * i) 2)
  subst ef_3c
  refine va_sld hx hb hX hbl hbA hW.2.2.2.2.2 (vp_in_nI (show 6 * i + 2 < L by omega) (by omega)) dL_law_181 ?_
  refine lv_topi (fun f_4 ef_4 => ?_)
  have ef_4c : f_4 = xs (6 * i + 2) := ef_4.trans (congrArg xs (nI_clamp (by omega)))
  subst ef_4c
  refine lv_aload_n hx hb dL_law_182 rfl (lv_at hl 0 rfl) ?_
  refine lv_iload_n hx hb dL_law_183 rfl (lv_at hl 3 rfl) ?_
  refine lv_iconst (v := 3) hx hb dL_law_184 (by decide) ?_
  refine lv_iadd hx hb dL_law_185 ?_
  refine lv_topi (fun f_5 ef_5 => ?_)
  have ef_5c : f_5 = nI (6 * i + 3) := ef_5.trans (nI_add (6 * i) 3)
  subst ef_5c
  refine va_sld hx hb hX hbl hbA hW.2.2.2.2.2 (vp_in_nI (show 6 * i + 3 < L by omega) (by omega)) dL_law_186 ?_
  refine lv_topi (fun f_6 ef_6 => ?_)
  have ef_6c : f_6 = xs (6 * i + 3) := ef_6.trans (congrArg xs (nI_clamp (by omega)))
  subst ef_6c
  refine l_ci (l_runV (As := [.int (xs (6 * i + 1)), .int (xs (6 * i + 2)), .int (xs (6 * i + 3))]) (rest := []) (q0 := 0) (ci := 7) ⟨hx, hb, hml, hown, hts⟩ (xw_field l G S N (xs (6 * i + 1)) (xs (6 * i + 2)) (xs (6 * i + 3)) hW.2.2.1 hR.1.1.1 H) (cwV 3 hts GL_X7_field rfl rfl rfl (by decide +kernel) ⟨Nat.le_of_ble_eq_true rfl, Nat.le_of_ble_eq_true rfl⟩) hW hKc cw_0 rfl rfl hl.1 rfl (lv_room (Nat.le_of_ble_eq_true rfl)) dL_law_187) hW (fun r_7 S_9 H locs hw_8 hW => ?_)
  try dsimp only at hw_8
  refine lv_pop hx hb dL_law_190 rfl ?_
  refine lv_aload_n hx hb dL_law_191 rfl (lv_at hl 2 rfl) ?_
  refine lv_aload_n hx hb dL_law_192 rfl (lv_at hl 0 rfl) ?_
  refine lv_iload_n hx hb dL_law_193 rfl (lv_at hl 3 rfl) ?_
  refine lv_iconst (v := 1) hx hb dL_law_194 (by decide) ?_
  refine lv_iadd hx hb dL_law_195 ?_
  refine lv_topi (fun f_10 ef_10 => ?_)
  have ef_10c : f_10 = nI (6 * i + 1) := ef_10.trans (nI_add (6 * i) 1)
  subst ef_10c
  refine va_sld hx hb hX hbl hbA hW.2.2.2.2.2 (vp_in_nI (show 6 * i + 1 < L by omega) (by omega)) dL_law_196 ?_
  refine lv_topi (fun f_11 ef_11 => ?_)
  have ef_11c : f_11 = xs (6 * i + 1) := ef_11.trans (congrArg xs (nI_clamp (by omega)))
  subst ef_11c
  refine lv_aload_n hx hb dL_law_197 rfl (lv_at hl 0 rfl) ?_
  refine lv_iload_n hx hb dL_law_198 rfl (lv_at hl 3 rfl) ?_
  refine lv_iconst (v := 2) hx hb dL_law_199 (by decide) ?_
  refine lv_iadd hx hb dL_law_200 ?_
  refine lv_topi (fun f_12 ef_12 => ?_)
  have ef_12c : f_12 = nI (6 * i + 2) := ef_12.trans (nI_add (6 * i) 2)
  subst ef_12c
  refine va_sld hx hb hX hbl hbA hW.2.2.2.2.2 (vp_in_nI (show 6 * i + 2 < L by omega) (by omega)) dL_law_201 ?_
  refine lv_topi (fun f_13 ef_13 => ?_)
  have ef_13c : f_13 = xs (6 * i + 2) := ef_13.trans (congrArg xs (nI_clamp (by omega)))
  subst ef_13c
  refine lv_aload_n hx hb dL_law_202 rfl (lv_at hl 0 rfl) ?_
  refine lv_iload_n hx hb dL_law_203 rfl (lv_at hl 3 rfl) ?_
  refine lv_iconst (v := 3) hx hb dL_law_204 (by decide) ?_
  refine lv_iadd hx hb dL_law_205 ?_
  refine lv_topi (fun f_14 ef_14 => ?_)
  have ef_14c : f_14 = nI (6 * i + 3) := ef_14.trans (nI_add (6 * i) 3)
  subst ef_14c
  refine va_sld hx hb hX hbl hbA hW.2.2.2.2.2 (vp_in_nI (show 6 * i + 3 < L by omega) (by omega)) dL_law_206 ?_
  refine lv_topi (fun f_15 ef_15 => ?_)
  have ef_15c : f_15 = xs (6 * i + 3) := ef_15.trans (congrArg xs (nI_clamp (by omega)))
  subst ef_15c
  obtain ⟨rk, hrk, -⟩ := id hR.2.1.2.2.1
  refine l_mi (l_runM (As := [.int (xs (6 * i + 1)), .int (xs (6 * i + 2)), .int (xs (6 * i + 3))]) (rest := []) ⟨hx, hb, hml, hown, hts⟩ (m_field l M hDD o F tr N rk (xs (6 * i + 1)) (xs (6 * i + 2)) (xs (6 * i + 3)) hR.2.1.1 hR.2.1.2.1 hrk H.size) (cwV 3 hts GL_X8_field rfl rfl rfl (by decide +kernel) ⟨Nat.le_of_ble_eq_true rfl, Nat.le_of_ble_eq_true rfl⟩) hW hKm rfl hl.1 rfl (lv_room (Nat.le_of_ble_eq_true rfl)) dL_law_207) hW (fun r_16 o_18 F_19 H locs hw_17 hW => ?_)
  try dsimp only at hw_17
  refine lv_pop hx hb dL_law_210 rfl ?_
  refine lv_goto (tgt := 540) hx hb dL_law_211 (by decide) ?_
  obtain ⟨er, tr1, hR1⟩ := field_bz ⟨hR, hT⟩ hz (w3_field hw_17) hw_8.1 hw_8.2 hw_17
  exact kk _ _ _ _ _ _ _ hR1.1.1 hR1.1.2 hR1.2 hW

set_option maxHeartbeats 4000000 in
set_option maxRecDepth 100000 in
/-- told -/
theorem lw_c2 {p : Program} {l : Launch} {e : Env} {s : State} {m : MethodId} {below : List Frame} {meth : Method} {c : Code} {b L : Nat} {xs : Nat → Int32} {G : cG} {M : mG} {tk : Nat} {Q : State → Prop} (hx : p.tables.exec = Jvm.exec) (hb : c.code = code) (hml : c.maxLocals = 4) (hown : s.vm.findClass RL = some m.cls) (hts : ∀ w ∈ lw_tbl, w.before #[Value.ref b] s = true) (hX : va_X b L xs s s.heap) (hbl : b < s.heap.size) (hbA : ¬ lA s b) (hKc : cK G s) (hKm : mK M s) (hDD : mDD M) (hZ : ZT tk (lA s) s s.heap) (hLn : L ≤ 3072) {S : cS} {tr : aM} {N i : Nat} {o : Nat → Int32} {F : Nat → Nat → Int32} {H : Heap} {locs : List Loc} {ls : Array Slot} (hi : 6 * i + 6 ≤ L) (hR : LR S tr N o F) (hT : TY9 S o F i) (hz : TRz tr N F) (hW : LWd s G M S o F H locs) (hl : lv_has ls 4 [(0, .ref b), (1, .ref (ga G 0)), (2, .ref (mh M)), (3, .int (nI (6 * i)))]) (kk : ∀ (S : cS) (tr : aM) (N : Nat) (o : Nat → Int32) (F : Nat → Nat → Int32) (H : Heap) (locs : List Loc), LR S tr N o F → TY9 S o F (i + 1) → TRz tr N F → LWd s G M S o F H locs → W p l e room_1 s m #[Value.ref b] below meth c H locs (K0 + PT S) (N0s + 12 * PT S) Q (F0 m 540 ls [])) : W p l e room_1 s m #[Value.ref b] below meth c H locs (K0 + PT S) (N0s + 12 * PT S) Q (F0 m 214 ls []) := by
  refine lv_aload_n hx hb dL_law_214 rfl (lv_at hl 1 rfl) ?_
  refine lv_aload_n hx hb dL_law_215 rfl (lv_at hl 0 rfl) ?_
  refine lv_iload_n hx hb dL_law_216 rfl (lv_at hl 3 rfl) ?_
  refine lv_iconst (v := 1) hx hb dL_law_217 (by decide) ?_
  refine lv_iadd hx hb dL_law_218 ?_
  refine lv_topi (fun f_1 ef_1 => ?_)
  have ef_1c : f_1 = nI (6 * i + 1) := ef_1.trans (nI_add (6 * i) 1)
  subst ef_1c
  refine va_sld hx hb hX hbl hbA hW.2.2.2.2.2 (vp_in_nI (show 6 * i + 1 < L by omega) (by omega)) dL_law_219 ?_
  refine lv_topi (fun f_2 ef_2 => ?_)
  have ef_2c : f_2 = xs (6 * i + 1) := ef_2.trans (congrArg xs (nI_clamp (by omega)))
  subst ef_2c
  refine lv_aload_n hx hb dL_law_220 rfl (lv_at hl 0 rfl) ?_
  refine lv_iload_n hx hb dL_law_221 rfl (lv_at hl 3 rfl) ?_
  refine lv_iconst (v := 2) hx hb dL_law_222 (by decide) ?_
  refine lv_iadd hx hb dL_law_223 ?_
  refine lv_topi (fun f_3 ef_3 => ?_)
  have ef_3c : f_3 = nI (6 * i + 2) := ef_3.trans (nI_add (6 * i) 2)
  subst ef_3c
  refine va_sld hx hb hX hbl hbA hW.2.2.2.2.2 (vp_in_nI (show 6 * i + 2 < L by omega) (by omega)) dL_law_224 ?_
  refine lv_topi (fun f_4 ef_4 => ?_)
  have ef_4c : f_4 = xs (6 * i + 2) := ef_4.trans (congrArg xs (nI_clamp (by omega)))
  subst ef_4c
  refine l_ci (l_runV (As := [.int (xs (6 * i + 1)), .int (xs (6 * i + 2))]) (rest := []) (q0 := 0) (ci := 7) ⟨hx, hb, hml, hown, hts⟩ (k_told l G S N (xs (6 * i + 1)) (xs (6 * i + 2)) hW.2.2.1 hR.1 H) (cwV 2 hts GL_X7_told rfl rfl rfl (by decide +kernel) ⟨Nat.le_of_ble_eq_true rfl, Nat.le_of_ble_eq_true rfl⟩) hW hKc cw_0 rfl rfl hl.1 rfl (lv_room (Nat.le_of_ble_eq_true rfl)) dL_law_225) hW (fun r_5 S_7 H locs hw_6 hW => ?_)
  try dsimp only at hw_6
  obtain ⟨-, hw_6⟩ := hw_6
  have hw_6 := hw_6.symm
  subst hw_6
  refine lv_pop hx hb dL_law_228 rfl ?_
  refine lv_aload_n hx hb dL_law_229 rfl (lv_at hl 2 rfl) ?_
  refine lv_aload_n hx hb dL_law_230 rfl (lv_at hl 0 rfl) ?_
  refine lv_iload_n hx hb dL_law_231 rfl (lv_at hl 3 rfl) ?_
  refine lv_iconst (v := 1) hx hb dL_law_232 (by decide) ?_
  refine lv_iadd hx hb dL_law_233 ?_
  refine lv_topi (fun f_8 ef_8 => ?_)
  have ef_8c : f_8 = nI (6 * i + 1) := ef_8.trans (nI_add (6 * i) 1)
  subst ef_8c
  refine va_sld hx hb hX hbl hbA hW.2.2.2.2.2 (vp_in_nI (show 6 * i + 1 < L by omega) (by omega)) dL_law_234 ?_
  refine lv_topi (fun f_9 ef_9 => ?_)
  have ef_9c : f_9 = xs (6 * i + 1) := ef_9.trans (congrArg xs (nI_clamp (by omega)))
  subst ef_9c
  refine lv_aload_n hx hb dL_law_235 rfl (lv_at hl 0 rfl) ?_
  refine lv_iload_n hx hb dL_law_236 rfl (lv_at hl 3 rfl) ?_
  refine lv_iconst (v := 2) hx hb dL_law_237 (by decide) ?_
  refine lv_iadd hx hb dL_law_238 ?_
  refine lv_topi (fun f_10 ef_10 => ?_)
  have ef_10c : f_10 = nI (6 * i + 2) := ef_10.trans (nI_add (6 * i) 2)
  subst ef_10c
  refine va_sld hx hb hX hbl hbA hW.2.2.2.2.2 (vp_in_nI (show 6 * i + 2 < L by omega) (by omega)) dL_law_239 ?_
  refine lv_topi (fun f_11 ef_11 => ?_)
  have ef_11c : f_11 = xs (6 * i + 2) := ef_11.trans (congrArg xs (nI_clamp (by omega)))
  subst ef_11c
  refine l_mi (l_runM (As := [.int (xs (6 * i + 1)), .int (xs (6 * i + 2))]) (rest := []) ⟨hx, hb, hml, hown, hts⟩ (n9_told l M hDD o F tr N (xs (6 * i + 1)) (xs (6 * i + 2)) hR.2.1 H.size) (cwV 2 hts GL_X8_told rfl rfl rfl (by decide +kernel) ⟨Nat.le_of_ble_eq_true rfl, Nat.le_of_ble_eq_true rfl⟩) hW hKm rfl hl.1 rfl (lv_room (Nat.le_of_ble_eq_true rfl)) dL_law_240) hW (fun r_12 o_14 F_15 H locs hw_13 hW => ?_)
  try dsimp only at hw_13
  refine lv_pop hx hb dL_law_243 rfl ?_
  refine lv_goto (tgt := 540) hx hb dL_law_244 (by decide) ?_
  obtain ⟨⟨⟨hI1, hI2⟩, hW3⟩, hMK⟩ := hw_13
  exact kk _ _ _ _ _ _ _ ⟨hR.1, hI1, hR.2.2.1.aw (AW.rf (rs := []) (is := [])) (by decide) hI2, hR.2.2.2.1, hR.2.2.2.2.kq (AW.rf (rs := []) (is := [])) (by decide) hW3 hI2⟩ (hT.keep (AW.rf (rs := []) (is := [])) (by decide) (by decide) hMK) (hz.kq hI2) hW

set_option maxHeartbeats 4000000 in
set_option maxRecDepth 100000 in
/-- type -/
theorem lw_c3 {p : Program} {l : Launch} {e : Env} {s : State} {m : MethodId} {below : List Frame} {meth : Method} {c : Code} {b L : Nat} {xs : Nat → Int32} {G : cG} {M : mG} {tk : Nat} {Q : State → Prop} (hx : p.tables.exec = Jvm.exec) (hb : c.code = code) (hml : c.maxLocals = 4) (hown : s.vm.findClass RL = some m.cls) (hts : ∀ w ∈ lw_tbl, w.before #[Value.ref b] s = true) (hX : va_X b L xs s s.heap) (hbl : b < s.heap.size) (hbA : ¬ lA s b) (hKc : cK G s) (hKm : mK M s) (hDD : mDD M) (hZ : ZT tk (lA s) s s.heap) (hLn : L ≤ 3072) {S : cS} {tr : aM} {N i : Nat} {o : Nat → Int32} {F : Nat → Nat → Int32} {H : Heap} {locs : List Loc} {ls : Array Slot} (hi : 6 * i + 6 ≤ L) (hR : LR S tr N o F) (hT : TY9 S o F i) (hz : TRz tr N F) (hW : LWd s G M S o F H locs) (hl : lv_has ls 4 [(0, .ref b), (1, .ref (ga G 0)), (2, .ref (mh M)), (3, .int (nI (6 * i)))]) (kk : ∀ (S : cS) (tr : aM) (N : Nat) (o : Nat → Int32) (F : Nat → Nat → Int32) (H : Heap) (locs : List Loc), LR S tr N o F → TY9 S o F (i + 1) → TRz tr N F → LWd s G M S o F H locs → W p l e room_1 s m #[Value.ref b] below meth c H locs (K0 + PT S) (N0s + 12 * PT S) Q (F0 m 540 ls [])) : W p l e room_1 s m #[Value.ref b] below meth c H locs (K0 + PT S) (N0s + 12 * PT S) Q (F0 m 247 ls []) := by
  refine lv_aload_n hx hb dL_law_247 rfl (lv_at hl 1 rfl) ?_
  refine lv_aload_n hx hb dL_law_248 rfl (lv_at hl 0 rfl) ?_
  refine lv_iload_n hx hb dL_law_249 rfl (lv_at hl 3 rfl) ?_
  refine lv_iconst (v := 1) hx hb dL_law_250 (by decide) ?_
  refine lv_iadd hx hb dL_law_251 ?_
  refine lv_topi (fun f_1 ef_1 => ?_)
  have ef_1c : f_1 = nI (6 * i + 1) := ef_1.trans (nI_add (6 * i) 1)
  subst ef_1c
  refine va_sld hx hb hX hbl hbA hW.2.2.2.2.2 (vp_in_nI (show 6 * i + 1 < L by omega) (by omega)) dL_law_252 ?_
  refine lv_topi (fun f_2 ef_2 => ?_)
  have ef_2c : f_2 = xs (6 * i + 1) := ef_2.trans (congrArg xs (nI_clamp (by omega)))
  subst ef_2c
  obtain ⟨rk9, hrk9⟩ := hR.rk
  obtain ⟨z9, tm9, hk9, htm9, hz9⟩ := id hT
  refine l_ci (l_runV (As := [.int (xs (6 * i + 1))]) (rest := []) (q0 := 0) (ci := 7) ⟨hx, hb, hml, hown, hts⟩ (xw_type l G S N tr (F 2) rk9 tm9 (xs (6 * i + 1)) hW.2.2.1 hR.1 hR.tc hR.to hrk9 hk9.2.2.1 hk9.2.1 (hR.cn htm9 (i_512 hi hLn)) hk9.2.2.2.1 H) (cwV 1 hts GL_X7_type rfl rfl rfl (by decide +kernel) ⟨Nat.le_of_ble_eq_true rfl, Nat.le_of_ble_eq_true rfl⟩) hW hKc cw_0 rfl rfl hl.1 rfl (lv_room (Nat.le_of_ble_eq_true rfl)) dL_law_253) hW (fun r_3 S_5 H locs hw_4 hW => ?_)
  try dsimp only at hw_4
  refine lv_pop hx hb dL_law_256 rfl ?_
  refine lv_aload_n hx hb dL_law_257 rfl (lv_at hl 2 rfl) ?_
  refine lv_aload_n hx hb dL_law_258 rfl (lv_at hl 0 rfl) ?_
  refine lv_iload_n hx hb dL_law_259 rfl (lv_at hl 3 rfl) ?_
  refine lv_iconst (v := 1) hx hb dL_law_260 (by decide) ?_
  refine lv_iadd hx hb dL_law_261 ?_
  refine lv_topi (fun f_6 ef_6 => ?_)
  have ef_6c : f_6 = nI (6 * i + 1) := ef_6.trans (nI_add (6 * i) 1)
  subst ef_6c
  refine va_sld hx hb hX hbl hbA hW.2.2.2.2.2 (vp_in_nI (show 6 * i + 1 < L by omega) (by omega)) dL_law_262 ?_
  refine lv_topi (fun f_7 ef_7 => ?_)
  have ef_7c : f_7 = xs (6 * i + 1) := ef_7.trans (congrArg xs (nI_clamp (by omega)))
  subst ef_7c
  refine l_mi (l_runM (As := [.int (xs (6 * i + 1))]) (rest := []) ⟨hx, hb, hml, hown, hts⟩ (m_type l M hDD o F tr N (xs (6 * i + 1)) hR.2.1.1 hR.2.1.2.2.1 H.size) (cwV 1 hts GL_X8_type rfl rfl rfl (by decide +kernel) ⟨Nat.le_of_ble_eq_true rfl, Nat.le_of_ble_eq_true rfl⟩) hW hKm rfl hl.1 rfl (lv_room (Nat.le_of_ble_eq_true rfl)) dL_law_263) hW (fun r_8 o_10 F_11 H locs hw_9 hW => ?_)
  try dsimp only at hw_9
  refine lv_pop hx hb dL_law_266 rfl ?_
  refine lv_goto (tgt := 540) hx hb dL_law_267 (by decide) ?_
  obtain ⟨er, hR1⟩ := type_both ⟨hR, hT⟩ htm9 hw_4.1 hw_4.2 hw_9
  exact kk _ _ _ _ _ _ _ hR1.1 hR1.2 (hz.kq (m7_type hw_9)) hW

set_option maxHeartbeats 4000000 in
set_option maxRecDepth 100000 in
/-- where -/
theorem lw_c4 {p : Program} {l : Launch} {e : Env} {s : State} {m : MethodId} {below : List Frame} {meth : Method} {c : Code} {b L : Nat} {xs : Nat → Int32} {G : cG} {M : mG} {tk : Nat} {Q : State → Prop} (hx : p.tables.exec = Jvm.exec) (hb : c.code = code) (hml : c.maxLocals = 4) (hown : s.vm.findClass RL = some m.cls) (hts : ∀ w ∈ lw_tbl, w.before #[Value.ref b] s = true) (hX : va_X b L xs s s.heap) (hbl : b < s.heap.size) (hbA : ¬ lA s b) (hKc : cK G s) (hKm : mK M s) (hDD : mDD M) (hZ : ZT tk (lA s) s s.heap) (hLn : L ≤ 3072) {S : cS} {tr : aM} {N i : Nat} {o : Nat → Int32} {F : Nat → Nat → Int32} {H : Heap} {locs : List Loc} {ls : Array Slot} (hi : 6 * i + 6 ≤ L) (hR : LR S tr N o F) (hT : TY9 S o F i) (hz : TRz tr N F) (hW : LWd s G M S o F H locs) (hl : lv_has ls 4 [(0, .ref b), (1, .ref (ga G 0)), (2, .ref (mh M)), (3, .int (nI (6 * i)))]) (kk : ∀ (S : cS) (tr : aM) (N : Nat) (o : Nat → Int32) (F : Nat → Nat → Int32) (H : Heap) (locs : List Loc), LR S tr N o F → TY9 S o F (i + 1) → TRz tr N F → LWd s G M S o F H locs → W p l e room_1 s m #[Value.ref b] below meth c H locs (K0 + PT S) (N0s + 12 * PT S) Q (F0 m 540 ls [])) : W p l e room_1 s m #[Value.ref b] below meth c H locs (K0 + PT S) (N0s + 12 * PT S) Q (F0 m 270 ls []) := by
  refine lv_aload_n hx hb dL_law_270 rfl (lv_at hl 1 rfl) ?_
  refine l_ci (l_runV (As := []) (rest := []) (q0 := 0) (ci := 7) ⟨hx, hb, hml, hown, hts⟩ (k_where l G S N  hW.2.2.1 hR.1 H) (cwV 0 hts GL_X7_where rfl rfl rfl (by decide +kernel) ⟨Nat.le_of_ble_eq_true rfl, Nat.le_of_ble_eq_true rfl⟩) hW hKc cw_0 rfl rfl hl.1 rfl (lv_room (Nat.le_of_ble_eq_true rfl)) dL_law_271) hW (fun r_1 S_3 H locs hw_2 hW => ?_)
  try dsimp only at hw_2
  obtain ⟨-, hw_2⟩ := hw_2
  have hw_2 := hw_2.symm
  subst hw_2
  refine lv_pop hx hb dL_law_274 rfl ?_
  refine lv_aload_n hx hb dL_law_275 rfl (lv_at hl 2 rfl) ?_
  refine l_mi (l_runM (As := []) (rest := []) ⟨hx, hb, hml, hown, hts⟩ (n9_where l M hDD o F tr N  hR.2.1 H.size) (cwV 0 hts GL_X8_where rfl rfl rfl (by decide +kernel) ⟨Nat.le_of_ble_eq_true rfl, Nat.le_of_ble_eq_true rfl⟩) hW hKm rfl hl.1 rfl (lv_room (Nat.le_of_ble_eq_true rfl)) dL_law_276) hW (fun r_4 o_6 F_7 H locs hw_5 hW => ?_)
  try dsimp only at hw_5
  refine lv_pop hx hb dL_law_279 rfl ?_
  refine lv_goto (tgt := 540) hx hb dL_law_280 (by decide) ?_
  obtain ⟨⟨⟨hI1, hI2⟩, hW3⟩, hMK⟩ := hw_5
  exact kk _ _ _ _ _ _ _ ⟨hR.1, hI1, hR.2.2.1.aw (AW.rf (rs := []) (is := [])) (by decide) hI2, hR.2.2.2.1, hR.2.2.2.2.kq (AW.rf (rs := []) (is := [])) (by decide) hW3 hI2⟩ (hT.keep (AW.rf (rs := []) (is := [])) (by decide) (by decide) hMK) (hz.kq hI2) hW

set_option maxHeartbeats 4000000 in
set_option maxRecDepth 100000 in
/-- steps -/
theorem lw_c5 {p : Program} {l : Launch} {e : Env} {s : State} {m : MethodId} {below : List Frame} {meth : Method} {c : Code} {b L : Nat} {xs : Nat → Int32} {G : cG} {M : mG} {tk : Nat} {Q : State → Prop} (hx : p.tables.exec = Jvm.exec) (hb : c.code = code) (hml : c.maxLocals = 4) (hown : s.vm.findClass RL = some m.cls) (hts : ∀ w ∈ lw_tbl, w.before #[Value.ref b] s = true) (hX : va_X b L xs s s.heap) (hbl : b < s.heap.size) (hbA : ¬ lA s b) (hKc : cK G s) (hKm : mK M s) (hDD : mDD M) (hZ : ZT tk (lA s) s s.heap) (hLn : L ≤ 3072) {S : cS} {tr : aM} {N i : Nat} {o : Nat → Int32} {F : Nat → Nat → Int32} {H : Heap} {locs : List Loc} {ls : Array Slot} (hi : 6 * i + 6 ≤ L) (hR : LR S tr N o F) (hT : TY9 S o F i) (hz : TRz tr N F) (hW : LWd s G M S o F H locs) (hl : lv_has ls 4 [(0, .ref b), (1, .ref (ga G 0)), (2, .ref (mh M)), (3, .int (nI (6 * i)))]) (kk : ∀ (S : cS) (tr : aM) (N : Nat) (o : Nat → Int32) (F : Nat → Nat → Int32) (H : Heap) (locs : List Loc), LR S tr N o F → TY9 S o F (i + 1) → TRz tr N F → LWd s G M S o F H locs → W p l e room_1 s m #[Value.ref b] below meth c H locs (K0 + PT S) (N0s + 12 * PT S) Q (F0 m 540 ls [])) : W p l e room_1 s m #[Value.ref b] below meth c H locs (K0 + PT S) (N0s + 12 * PT S) Q (F0 m 283 ls []) := by
  refine lv_aload_n hx hb dL_law_283 rfl (lv_at hl 1 rfl) ?_
  refine l_ci (l_runV (As := []) (rest := []) (q0 := 0) (ci := 7) ⟨hx, hb, hml, hown, hts⟩ (k_steps l G S N  hW.2.2.1 hR.1 H) (cwV 0 hts GL_X7_steps rfl rfl rfl (by decide +kernel) ⟨Nat.le_of_ble_eq_true rfl, Nat.le_of_ble_eq_true rfl⟩) hW hKc cw_0 rfl rfl hl.1 rfl (lv_room (Nat.le_of_ble_eq_true rfl)) dL_law_284) hW (fun r_1 S_3 H locs hw_2 hW => ?_)
  try dsimp only at hw_2
  obtain ⟨-, hw_2⟩ := hw_2
  have hw_2 := hw_2.symm
  subst hw_2
  refine lv_pop hx hb dL_law_287 rfl ?_
  refine lv_aload_n hx hb dL_law_288 rfl (lv_at hl 2 rfl) ?_
  refine l_mi (l_runM (As := []) (rest := []) ⟨hx, hb, hml, hown, hts⟩ (n9_steps l M hDD o F tr N  hR.2.1 H.size) (cwV 0 hts GL_X8_steps rfl rfl rfl (by decide +kernel) ⟨Nat.le_of_ble_eq_true rfl, Nat.le_of_ble_eq_true rfl⟩) hW hKm rfl hl.1 rfl (lv_room (Nat.le_of_ble_eq_true rfl)) dL_law_289) hW (fun r_4 o_6 F_7 H locs hw_5 hW => ?_)
  try dsimp only at hw_5
  refine lv_pop hx hb dL_law_292 rfl ?_
  refine lv_goto (tgt := 540) hx hb dL_law_293 (by decide) ?_
  obtain ⟨⟨⟨hI1, hI2⟩, hW3⟩, hMK⟩ := hw_5
  exact kk _ _ _ _ _ _ _ ⟨hR.1, hI1, hR.2.2.1.aw (AW.rf (rs := []) (is := [])) (by decide) hI2, hR.2.2.2.1, hR.2.2.2.2.kq (AW.rf (rs := []) (is := [])) (by decide) hW3 hI2⟩ (hT.keep (AW.rf (rs := []) (is := [])) (by decide) (by decide) hMK) (hz.kq hI2) hW

set_option maxHeartbeats 4000000 in
set_option maxRecDepth 100000 in
/-- sign -/
theorem lw_c6 {p : Program} {l : Launch} {e : Env} {s : State} {m : MethodId} {below : List Frame} {meth : Method} {c : Code} {b L : Nat} {xs : Nat → Int32} {G : cG} {M : mG} {tk : Nat} {Q : State → Prop} (hx : p.tables.exec = Jvm.exec) (hb : c.code = code) (hml : c.maxLocals = 4) (hown : s.vm.findClass RL = some m.cls) (hts : ∀ w ∈ lw_tbl, w.before #[Value.ref b] s = true) (hX : va_X b L xs s s.heap) (hbl : b < s.heap.size) (hbA : ¬ lA s b) (hKc : cK G s) (hKm : mK M s) (hDD : mDD M) (hZ : ZT tk (lA s) s s.heap) (hLn : L ≤ 3072) {S : cS} {tr : aM} {N i : Nat} {o : Nat → Int32} {F : Nat → Nat → Int32} {H : Heap} {locs : List Loc} {ls : Array Slot} (hi : 6 * i + 6 ≤ L) (hR : LR S tr N o F) (hT : TY9 S o F i) (hz : TRz tr N F) (hW : LWd s G M S o F H locs) (hl : lv_has ls 4 [(0, .ref b), (1, .ref (ga G 0)), (2, .ref (mh M)), (3, .int (nI (6 * i)))]) (kk : ∀ (S : cS) (tr : aM) (N : Nat) (o : Nat → Int32) (F : Nat → Nat → Int32) (H : Heap) (locs : List Loc), LR S tr N o F → TY9 S o F (i + 1) → TRz tr N F → LWd s G M S o F H locs → W p l e room_1 s m #[Value.ref b] below meth c H locs (K0 + PT S) (N0s + 12 * PT S) Q (F0 m 540 ls [])) : W p l e room_1 s m #[Value.ref b] below meth c H locs (K0 + PT S) (N0s + 12 * PT S) Q (F0 m 296 ls []) := by
  refine lv_aload_n hx hb dL_law_296 rfl (lv_at hl 1 rfl) ?_
  refine lv_aload_n hx hb dL_law_297 rfl (lv_at hl 0 rfl) ?_
  refine lv_iload_n hx hb dL_law_298 rfl (lv_at hl 3 rfl) ?_
  refine lv_iconst (v := 1) hx hb dL_law_299 (by decide) ?_
  refine lv_iadd hx hb dL_law_300 ?_
  refine lv_topi (fun f_1 ef_1 => ?_)
  have ef_1c : f_1 = nI (6 * i + 1) := ef_1.trans (nI_add (6 * i) 1)
  subst ef_1c
  refine va_sld hx hb hX hbl hbA hW.2.2.2.2.2 (vp_in_nI (show 6 * i + 1 < L by omega) (by omega)) dL_law_301 ?_
  refine lv_topi (fun f_2 ef_2 => ?_)
  have ef_2c : f_2 = xs (6 * i + 1) := ef_2.trans (congrArg xs (nI_clamp (by omega)))
  subst ef_2c
  refine l_ci (l_runV (As := [.int (xs (6 * i + 1))]) (rest := []) (q0 := 0) (ci := 7) ⟨hx, hb, hml, hown, hts⟩ (k_sign l G S N (xs (6 * i + 1)) hW.2.2.1 hR.1 H) (cwV 1 hts GL_X7_sign rfl rfl rfl (by decide +kernel) ⟨Nat.le_of_ble_eq_true rfl, Nat.le_of_ble_eq_true rfl⟩) hW hKc cw_0 rfl rfl hl.1 rfl (lv_room (Nat.le_of_ble_eq_true rfl)) dL_law_302) hW (fun r_3 S_5 H locs hw_4 hW => ?_)
  try dsimp only at hw_4
  obtain ⟨-, hw_4⟩ := hw_4
  have hw_4 := hw_4.symm
  subst hw_4
  refine lv_pop hx hb dL_law_305 rfl ?_
  refine lv_aload_n hx hb dL_law_306 rfl (lv_at hl 2 rfl) ?_
  refine lv_aload_n hx hb dL_law_307 rfl (lv_at hl 0 rfl) ?_
  refine lv_iload_n hx hb dL_law_308 rfl (lv_at hl 3 rfl) ?_
  refine lv_iconst (v := 1) hx hb dL_law_309 (by decide) ?_
  refine lv_iadd hx hb dL_law_310 ?_
  refine lv_topi (fun f_6 ef_6 => ?_)
  have ef_6c : f_6 = nI (6 * i + 1) := ef_6.trans (nI_add (6 * i) 1)
  subst ef_6c
  refine va_sld hx hb hX hbl hbA hW.2.2.2.2.2 (vp_in_nI (show 6 * i + 1 < L by omega) (by omega)) dL_law_311 ?_
  refine lv_topi (fun f_7 ef_7 => ?_)
  have ef_7c : f_7 = xs (6 * i + 1) := ef_7.trans (congrArg xs (nI_clamp (by omega)))
  subst ef_7c
  refine l_mi (l_runM (As := [.int (xs (6 * i + 1))]) (rest := []) ⟨hx, hb, hml, hown, hts⟩ (n9_sign l M hDD o F tr N (xs (6 * i + 1)) hR.2.1 H.size) (cwV 1 hts GL_X8_sign rfl rfl rfl (by decide +kernel) ⟨Nat.le_of_ble_eq_true rfl, Nat.le_of_ble_eq_true rfl⟩) hW hKm rfl hl.1 rfl (lv_room (Nat.le_of_ble_eq_true rfl)) dL_law_312) hW (fun r_8 o_10 F_11 H locs hw_9 hW => ?_)
  try dsimp only at hw_9
  refine lv_pop hx hb dL_law_315 rfl ?_
  refine lv_goto (tgt := 540) hx hb dL_law_316 (by decide) ?_
  obtain ⟨⟨⟨hI1, hI2⟩, hW3⟩, hMK⟩ := hw_9
  exact kk _ _ _ _ _ _ _ ⟨hR.1, hI1, hR.2.2.1.aw (AW.rf (rs := []) (is := [])) (by decide) hI2, hR.2.2.2.1, hR.2.2.2.2.kq (AW.rf (rs := []) (is := [])) (by decide) hW3 hI2⟩ (hT.keep (AW.rf (rs := []) (is := [])) (by decide) (by decide) hMK) (hz.kq hI2) hW

set_option maxHeartbeats 4000000 in
set_option maxRecDepth 100000 in
/-- variable -/
theorem lw_c7 {p : Program} {l : Launch} {e : Env} {s : State} {m : MethodId} {below : List Frame} {meth : Method} {c : Code} {b L : Nat} {xs : Nat → Int32} {G : cG} {M : mG} {tk : Nat} {Q : State → Prop} (hx : p.tables.exec = Jvm.exec) (hb : c.code = code) (hml : c.maxLocals = 4) (hown : s.vm.findClass RL = some m.cls) (hts : ∀ w ∈ lw_tbl, w.before #[Value.ref b] s = true) (hX : va_X b L xs s s.heap) (hbl : b < s.heap.size) (hbA : ¬ lA s b) (hKc : cK G s) (hKm : mK M s) (hDD : mDD M) (hZ : ZT tk (lA s) s s.heap) (hLn : L ≤ 3072) {S : cS} {tr : aM} {N i : Nat} {o : Nat → Int32} {F : Nat → Nat → Int32} {H : Heap} {locs : List Loc} {ls : Array Slot} (hi : 6 * i + 6 ≤ L) (hR : LR S tr N o F) (hT : TY9 S o F i) (hz : TRz tr N F) (hW : LWd s G M S o F H locs) (hl : lv_has ls 4 [(0, .ref b), (1, .ref (ga G 0)), (2, .ref (mh M)), (3, .int (nI (6 * i)))]) (kk : ∀ (S : cS) (tr : aM) (N : Nat) (o : Nat → Int32) (F : Nat → Nat → Int32) (H : Heap) (locs : List Loc), LR S tr N o F → TY9 S o F (i + 1) → TRz tr N F → LWd s G M S o F H locs → W p l e room_1 s m #[Value.ref b] below meth c H locs (K0 + PT S) (N0s + 12 * PT S) Q (F0 m 540 ls [])) : W p l e room_1 s m #[Value.ref b] below meth c H locs (K0 + PT S) (N0s + 12 * PT S) Q (F0 m 319 ls []) := by
  refine lv_aload_n hx hb dL_law_319 rfl (lv_at hl 1 rfl) ?_
  refine lv_aload_n hx hb dL_law_320 rfl (lv_at hl 0 rfl) ?_
  refine lv_iload_n hx hb dL_law_321 rfl (lv_at hl 3 rfl) ?_
  refine lv_iconst (v := 1) hx hb dL_law_322 (by decide) ?_
  refine lv_iadd hx hb dL_law_323 ?_
  refine lv_topi (fun f_1 ef_1 => ?_)
  have ef_1c : f_1 = nI (6 * i + 1) := ef_1.trans (nI_add (6 * i) 1)
  subst ef_1c
  refine va_sld hx hb hX hbl hbA hW.2.2.2.2.2 (vp_in_nI (show 6 * i + 1 < L by omega) (by omega)) dL_law_324 ?_
  refine lv_topi (fun f_2 ef_2 => ?_)
  have ef_2c : f_2 = xs (6 * i + 1) := ef_2.trans (congrArg xs (nI_clamp (by omega)))
  subst ef_2c
  refine lv_aload_n hx hb dL_law_325 rfl (lv_at hl 0 rfl) ?_
  refine lv_iload_n hx hb dL_law_326 rfl (lv_at hl 3 rfl) ?_
  refine lv_iconst (v := 2) hx hb dL_law_327 (by decide) ?_
  refine lv_iadd hx hb dL_law_328 ?_
  refine lv_topi (fun f_3 ef_3 => ?_)
  have ef_3c : f_3 = nI (6 * i + 2) := ef_3.trans (nI_add (6 * i) 2)
  subst ef_3c
  refine va_sld hx hb hX hbl hbA hW.2.2.2.2.2 (vp_in_nI (show 6 * i + 2 < L by omega) (by omega)) dL_law_329 ?_
  refine lv_topi (fun f_4 ef_4 => ?_)
  have ef_4c : f_4 = xs (6 * i + 2) := ef_4.trans (congrArg xs (nI_clamp (by omega)))
  subst ef_4c
  refine l_ci (l_runV (As := [.int (xs (6 * i + 1)), .int (xs (6 * i + 2))]) (rest := []) (q0 := 0) (ci := 7) ⟨hx, hb, hml, hown, hts⟩ (k_variable l G S N (xs (6 * i + 1)) (xs (6 * i + 2)) hW.2.2.1 hR.1 H) (cwV 2 hts GL_X7_variable rfl rfl rfl (by decide +kernel) ⟨Nat.le_of_ble_eq_true rfl, Nat.le_of_ble_eq_true rfl⟩) hW hKc cw_0 rfl rfl hl.1 rfl (lv_room (Nat.le_of_ble_eq_true rfl)) dL_law_330) hW (fun r_5 S_7 H locs hw_6 hW => ?_)
  try dsimp only at hw_6
  obtain ⟨-, hw_6⟩ := hw_6
  have hw_6 := hw_6.symm
  subst hw_6
  refine lv_pop hx hb dL_law_333 rfl ?_
  refine lv_aload_n hx hb dL_law_334 rfl (lv_at hl 2 rfl) ?_
  refine lv_aload_n hx hb dL_law_335 rfl (lv_at hl 0 rfl) ?_
  refine lv_iload_n hx hb dL_law_336 rfl (lv_at hl 3 rfl) ?_
  refine lv_iconst (v := 1) hx hb dL_law_337 (by decide) ?_
  refine lv_iadd hx hb dL_law_338 ?_
  refine lv_topi (fun f_8 ef_8 => ?_)
  have ef_8c : f_8 = nI (6 * i + 1) := ef_8.trans (nI_add (6 * i) 1)
  subst ef_8c
  refine va_sld hx hb hX hbl hbA hW.2.2.2.2.2 (vp_in_nI (show 6 * i + 1 < L by omega) (by omega)) dL_law_339 ?_
  refine lv_topi (fun f_9 ef_9 => ?_)
  have ef_9c : f_9 = xs (6 * i + 1) := ef_9.trans (congrArg xs (nI_clamp (by omega)))
  subst ef_9c
  refine lv_aload_n hx hb dL_law_340 rfl (lv_at hl 0 rfl) ?_
  refine lv_iload_n hx hb dL_law_341 rfl (lv_at hl 3 rfl) ?_
  refine lv_iconst (v := 2) hx hb dL_law_342 (by decide) ?_
  refine lv_iadd hx hb dL_law_343 ?_
  refine lv_topi (fun f_10 ef_10 => ?_)
  have ef_10c : f_10 = nI (6 * i + 2) := ef_10.trans (nI_add (6 * i) 2)
  subst ef_10c
  refine va_sld hx hb hX hbl hbA hW.2.2.2.2.2 (vp_in_nI (show 6 * i + 2 < L by omega) (by omega)) dL_law_344 ?_
  refine lv_topi (fun f_11 ef_11 => ?_)
  have ef_11c : f_11 = xs (6 * i + 2) := ef_11.trans (congrArg xs (nI_clamp (by omega)))
  subst ef_11c
  refine l_mi (l_runM (As := [.int (xs (6 * i + 1)), .int (xs (6 * i + 2))]) (rest := []) ⟨hx, hb, hml, hown, hts⟩ (n9_variable l M hDD o F tr N (xs (6 * i + 1)) (xs (6 * i + 2)) hR.2.1 H.size) (cwV 2 hts GL_X8_variable rfl rfl rfl (by decide +kernel) ⟨Nat.le_of_ble_eq_true rfl, Nat.le_of_ble_eq_true rfl⟩) hW hKm rfl hl.1 rfl (lv_room (Nat.le_of_ble_eq_true rfl)) dL_law_345) hW (fun r_12 o_14 F_15 H locs hw_13 hW => ?_)
  try dsimp only at hw_13
  refine lv_pop hx hb dL_law_348 rfl ?_
  refine lv_goto (tgt := 540) hx hb dL_law_349 (by decide) ?_
  obtain ⟨⟨⟨hI1, hI2⟩, hW3⟩, hMK⟩ := hw_13
  exact kk _ _ _ _ _ _ _ ⟨hR.1, hI1, hR.2.2.1.aw (AW.rf (rs := []) (is := [])) (by decide) hI2, hR.2.2.2.1, hR.2.2.2.2.kq (AW.rf (rs := []) (is := [])) (by decide) hW3 hI2⟩ (hT.keep (AW.rf (rs := []) (is := [])) (by decide) (by decide) hMK) (hz.kq hI2) hW

set_option maxHeartbeats 4000000 in
set_option maxRecDepth 100000 in
/-- bound -/
theorem lw_c8 {p : Program} {l : Launch} {e : Env} {s : State} {m : MethodId} {below : List Frame} {meth : Method} {c : Code} {b L : Nat} {xs : Nat → Int32} {G : cG} {M : mG} {tk : Nat} {Q : State → Prop} (hx : p.tables.exec = Jvm.exec) (hb : c.code = code) (hml : c.maxLocals = 4) (hown : s.vm.findClass RL = some m.cls) (hts : ∀ w ∈ lw_tbl, w.before #[Value.ref b] s = true) (hX : va_X b L xs s s.heap) (hbl : b < s.heap.size) (hbA : ¬ lA s b) (hKc : cK G s) (hKm : mK M s) (hDD : mDD M) (hZ : ZT tk (lA s) s s.heap) (hLn : L ≤ 3072) {S : cS} {tr : aM} {N i : Nat} {o : Nat → Int32} {F : Nat → Nat → Int32} {H : Heap} {locs : List Loc} {ls : Array Slot} (hi : 6 * i + 6 ≤ L) (hR : LR S tr N o F) (hT : TY9 S o F i) (hz : TRz tr N F) (hW : LWd s G M S o F H locs) (hl : lv_has ls 4 [(0, .ref b), (1, .ref (ga G 0)), (2, .ref (mh M)), (3, .int (nI (6 * i)))]) (kk : ∀ (S : cS) (tr : aM) (N : Nat) (o : Nat → Int32) (F : Nat → Nat → Int32) (H : Heap) (locs : List Loc), LR S tr N o F → TY9 S o F (i + 1) → TRz tr N F → LWd s G M S o F H locs → W p l e room_1 s m #[Value.ref b] below meth c H locs (K0 + PT S) (N0s + 12 * PT S) Q (F0 m 540 ls [])) : W p l e room_1 s m #[Value.ref b] below meth c H locs (K0 + PT S) (N0s + 12 * PT S) Q (F0 m 352 ls []) := by
  refine lv_aload_n hx hb dL_law_352 rfl (lv_at hl 1 rfl) ?_
  refine lv_aload_n hx hb dL_law_353 rfl (lv_at hl 0 rfl) ?_
  refine lv_iload_n hx hb dL_law_354 rfl (lv_at hl 3 rfl) ?_
  refine lv_iconst (v := 1) hx hb dL_law_355 (by decide) ?_
  refine lv_iadd hx hb dL_law_356 ?_
  refine lv_topi (fun f_1 ef_1 => ?_)
  have ef_1c : f_1 = nI (6 * i + 1) := ef_1.trans (nI_add (6 * i) 1)
  subst ef_1c
  refine va_sld hx hb hX hbl hbA hW.2.2.2.2.2 (vp_in_nI (show 6 * i + 1 < L by omega) (by omega)) dL_law_357 ?_
  refine lv_topi (fun f_2 ef_2 => ?_)
  have ef_2c : f_2 = xs (6 * i + 1) := ef_2.trans (congrArg xs (nI_clamp (by omega)))
  subst ef_2c
  refine lv_aload_n hx hb dL_law_358 rfl (lv_at hl 0 rfl) ?_
  refine lv_iload_n hx hb dL_law_359 rfl (lv_at hl 3 rfl) ?_
  refine lv_iconst (v := 2) hx hb dL_law_360 (by decide) ?_
  refine lv_iadd hx hb dL_law_361 ?_
  refine lv_topi (fun f_3 ef_3 => ?_)
  have ef_3c : f_3 = nI (6 * i + 2) := ef_3.trans (nI_add (6 * i) 2)
  subst ef_3c
  refine va_sld hx hb hX hbl hbA hW.2.2.2.2.2 (vp_in_nI (show 6 * i + 2 < L by omega) (by omega)) dL_law_362 ?_
  refine lv_topi (fun f_4 ef_4 => ?_)
  have ef_4c : f_4 = xs (6 * i + 2) := ef_4.trans (congrArg xs (nI_clamp (by omega)))
  subst ef_4c
  refine lv_if_eq (tgt := 370) hx hb dL_law_363 (by decide) (fun c_5 => ?_) (fun c_5 => ?_)
  · skip
    refine lv_iconst (v := 0) hx hb dL_law_370 (by decide) ?_
    refine lv_aload_n hx hb dL_law_371 rfl (lv_at hl 0 rfl) ?_
    refine lv_iload_n hx hb dL_law_372 rfl (lv_at hl 3 rfl) ?_
    refine lv_iconst (v := 3) hx hb dL_law_373 (by decide) ?_
    refine lv_iadd hx hb dL_law_374 ?_
    refine lv_topi (fun f_6 ef_6 => ?_)
    have ef_6c : f_6 = nI (6 * i + 3) := ef_6.trans (nI_add (6 * i) 3)
    subst ef_6c
    refine va_sld hx hb hX hbl hbA hW.2.2.2.2.2 (vp_in_nI (show 6 * i + 3 < L by omega) (by omega)) dL_law_375 ?_
    refine lv_topi (fun f_7 ef_7 => ?_)
    have ef_7c : f_7 = xs (6 * i + 3) := ef_7.trans (congrArg xs (nI_clamp (by omega)))
    subst ef_7c
    refine lv_aload_n hx hb dL_law_376 rfl (lv_at hl 0 rfl) ?_
    refine lv_iload_n hx hb dL_law_377 rfl (lv_at hl 3 rfl) ?_
    refine lv_iconst (v := 4) hx hb dL_law_378 (by decide) ?_
    refine lv_iadd hx hb dL_law_379 ?_
    refine lv_topi (fun f_8 ef_8 => ?_)
    have ef_8c : f_8 = nI (6 * i + 4) := ef_8.trans (nI_add (6 * i) 4)
    subst ef_8c
    refine va_sld hx hb hX hbl hbA hW.2.2.2.2.2 (vp_in_nI (show 6 * i + 4 < L by omega) (by omega)) dL_law_380 ?_
    refine lv_topi (fun f_9 ef_9 => ?_)
    have ef_9c : f_9 = xs (6 * i + 4) := ef_9.trans (congrArg xs (nI_clamp (by omega)))
    subst ef_9c
    refine l_ci (l_runV (As := [.int (xs (6 * i + 1)), .int 0, .int (xs (6 * i + 3)), .int (xs (6 * i + 4))]) (rest := []) (q0 := 0) (ci := 7) ⟨hx, hb, hml, hown, hts⟩ (k_bound l G S N (xs (6 * i + 1)) 0 (xs (6 * i + 3)) (xs (6 * i + 4)) hW.2.2.1 hR.1 H) (cwV 4 hts GL_X7_bound rfl rfl rfl (by decide +kernel) ⟨Nat.le_of_ble_eq_true rfl, Nat.le_of_ble_eq_true rfl⟩) hW hKc cw_0 rfl rfl hl.1 rfl (lv_room (Nat.le_of_ble_eq_true rfl)) dL_law_381) hW (fun r_10 S_12 H locs hw_11 hW => ?_)
    try dsimp only at hw_11
    refine lv_pop hx hb dL_law_384 rfl ?_
    refine lv_aload_n hx hb dL_law_385 rfl (lv_at hl 2 rfl) ?_
    refine lv_aload_n hx hb dL_law_386 rfl (lv_at hl 0 rfl) ?_
    refine lv_iload_n hx hb dL_law_387 rfl (lv_at hl 3 rfl) ?_
    refine lv_iconst (v := 1) hx hb dL_law_388 (by decide) ?_
    refine lv_iadd hx hb dL_law_389 ?_
    refine lv_topi (fun f_13 ef_13 => ?_)
    have ef_13c : f_13 = nI (6 * i + 1) := ef_13.trans (nI_add (6 * i) 1)
    subst ef_13c
    refine va_sld hx hb hX hbl hbA hW.2.2.2.2.2 (vp_in_nI (show 6 * i + 1 < L by omega) (by omega)) dL_law_390 ?_
    refine lv_topi (fun f_14 ef_14 => ?_)
    have ef_14c : f_14 = xs (6 * i + 1) := ef_14.trans (congrArg xs (nI_clamp (by omega)))
    subst ef_14c
    refine lv_aload_n hx hb dL_law_391 rfl (lv_at hl 0 rfl) ?_
    refine lv_iload_n hx hb dL_law_392 rfl (lv_at hl 3 rfl) ?_
    refine lv_iconst (v := 2) hx hb dL_law_393 (by decide) ?_
    refine lv_iadd hx hb dL_law_394 ?_
    refine lv_topi (fun f_15 ef_15 => ?_)
    have ef_15c : f_15 = nI (6 * i + 2) := ef_15.trans (nI_add (6 * i) 2)
    subst ef_15c
    refine va_sld hx hb hX hbl hbA hW.2.2.2.2.2 (vp_in_nI (show 6 * i + 2 < L by omega) (by omega)) dL_law_395 ?_
    refine lv_topi (fun f_16 ef_16 => ?_)
    have ef_16c : f_16 = xs (6 * i + 2) := ef_16.trans (congrArg xs (nI_clamp (by omega)))
    subst ef_16c
    refine lv_if_eq (tgt := 403) hx hb dL_law_396 (by decide) (fun c_17 => ?_) (fun c_17 => absurd c_5 c_17)
    refine lv_iconst (v := 0) hx hb dL_law_403 (by decide) ?_
    refine lv_aload_n hx hb dL_law_404 rfl (lv_at hl 0 rfl) ?_
    refine lv_iload_n hx hb dL_law_405 rfl (lv_at hl 3 rfl) ?_
    refine lv_iconst (v := 3) hx hb dL_law_406 (by decide) ?_
    refine lv_iadd hx hb dL_law_407 ?_
    refine lv_topi (fun f_18 ef_18 => ?_)
    have ef_18c : f_18 = nI (6 * i + 3) := ef_18.trans (nI_add (6 * i) 3)
    subst ef_18c
    refine va_sld hx hb hX hbl hbA hW.2.2.2.2.2 (vp_in_nI (show 6 * i + 3 < L by omega) (by omega)) dL_law_408 ?_
    refine lv_topi (fun f_19 ef_19 => ?_)
    have ef_19c : f_19 = xs (6 * i + 3) := ef_19.trans (congrArg xs (nI_clamp (by omega)))
    subst ef_19c
    refine lv_aload_n hx hb dL_law_409 rfl (lv_at hl 0 rfl) ?_
    refine lv_iload_n hx hb dL_law_410 rfl (lv_at hl 3 rfl) ?_
    refine lv_iconst (v := 4) hx hb dL_law_411 (by decide) ?_
    refine lv_iadd hx hb dL_law_412 ?_
    refine lv_topi (fun f_20 ef_20 => ?_)
    have ef_20c : f_20 = nI (6 * i + 4) := ef_20.trans (nI_add (6 * i) 4)
    subst ef_20c
    refine va_sld hx hb hX hbl hbA hW.2.2.2.2.2 (vp_in_nI (show 6 * i + 4 < L by omega) (by omega)) dL_law_413 ?_
    refine lv_topi (fun f_21 ef_21 => ?_)
    have ef_21c : f_21 = xs (6 * i + 4) := ef_21.trans (congrArg xs (nI_clamp (by omega)))
    subst ef_21c
    refine l_mi (l_runM (As := [.int (xs (6 * i + 1)), .int 0, .int (xs (6 * i + 3)), .int (xs (6 * i + 4))]) (rest := []) ⟨hx, hb, hml, hown, hts⟩ (n9_bound l M hDD o F tr N (xs (6 * i + 1)) 0 (xs (6 * i + 3)) (xs (6 * i + 4)) hR.2.1 H.size) (cwV 4 hts GL_X8_bound rfl rfl rfl (by decide +kernel) ⟨Nat.le_of_ble_eq_true rfl, Nat.le_of_ble_eq_true rfl⟩) hW hKm rfl hl.1 rfl (lv_room (Nat.le_of_ble_eq_true rfl)) dL_law_414) hW (fun r_22 o_24 F_25 H locs hw_23 hW => ?_)
    try dsimp only at hw_23
    refine lv_pop hx hb dL_law_417 rfl ?_
    refine lv_goto (tgt := 540) hx hb dL_law_418 (by decide) ?_
    obtain ⟨⟨⟨hI1, hI2⟩, hW3⟩, hMK⟩ := hw_23
    exact kk _ _ _ _ _ _ _ ⟨hw_11.2, hI1, hR.2.2.1.aw hw_11.1 (by decide) hI2, hR.2.2.2.1, hR.2.2.2.2.kq hw_11.1 (by decide) hW3 hI2⟩ (hT.keep hw_11.1 (by decide) (by decide) hMK) (hz.kq hI2) hW
  · skip
    refine lv_iconst (v := 1) hx hb dL_law_366 (by decide) ?_
    refine lv_goto (tgt := 371) hx hb dL_law_367 (by decide) ?_
    refine lv_aload_n hx hb dL_law_371 rfl (lv_at hl 0 rfl) ?_
    refine lv_iload_n hx hb dL_law_372 rfl (lv_at hl 3 rfl) ?_
    refine lv_iconst (v := 3) hx hb dL_law_373 (by decide) ?_
    refine lv_iadd hx hb dL_law_374 ?_
    refine lv_topi (fun f_26 ef_26 => ?_)
    have ef_26c : f_26 = nI (6 * i + 3) := ef_26.trans (nI_add (6 * i) 3)
    subst ef_26c
    refine va_sld hx hb hX hbl hbA hW.2.2.2.2.2 (vp_in_nI (show 6 * i + 3 < L by omega) (by omega)) dL_law_375 ?_
    refine lv_topi (fun f_27 ef_27 => ?_)
    have ef_27c : f_27 = xs (6 * i + 3) := ef_27.trans (congrArg xs (nI_clamp (by omega)))
    subst ef_27c
    refine lv_aload_n hx hb dL_law_376 rfl (lv_at hl 0 rfl) ?_
    refine lv_iload_n hx hb dL_law_377 rfl (lv_at hl 3 rfl) ?_
    refine lv_iconst (v := 4) hx hb dL_law_378 (by decide) ?_
    refine lv_iadd hx hb dL_law_379 ?_
    refine lv_topi (fun f_28 ef_28 => ?_)
    have ef_28c : f_28 = nI (6 * i + 4) := ef_28.trans (nI_add (6 * i) 4)
    subst ef_28c
    refine va_sld hx hb hX hbl hbA hW.2.2.2.2.2 (vp_in_nI (show 6 * i + 4 < L by omega) (by omega)) dL_law_380 ?_
    refine lv_topi (fun f_29 ef_29 => ?_)
    have ef_29c : f_29 = xs (6 * i + 4) := ef_29.trans (congrArg xs (nI_clamp (by omega)))
    subst ef_29c
    refine l_ci (l_runV (As := [.int (xs (6 * i + 1)), .int 1, .int (xs (6 * i + 3)), .int (xs (6 * i + 4))]) (rest := []) (q0 := 0) (ci := 7) ⟨hx, hb, hml, hown, hts⟩ (k_bound l G S N (xs (6 * i + 1)) 1 (xs (6 * i + 3)) (xs (6 * i + 4)) hW.2.2.1 hR.1 H) (cwV 4 hts GL_X7_bound rfl rfl rfl (by decide +kernel) ⟨Nat.le_of_ble_eq_true rfl, Nat.le_of_ble_eq_true rfl⟩) hW hKc cw_0 rfl rfl hl.1 rfl (lv_room (Nat.le_of_ble_eq_true rfl)) dL_law_381) hW (fun r_30 S_32 H locs hw_31 hW => ?_)
    try dsimp only at hw_31
    refine lv_pop hx hb dL_law_384 rfl ?_
    refine lv_aload_n hx hb dL_law_385 rfl (lv_at hl 2 rfl) ?_
    refine lv_aload_n hx hb dL_law_386 rfl (lv_at hl 0 rfl) ?_
    refine lv_iload_n hx hb dL_law_387 rfl (lv_at hl 3 rfl) ?_
    refine lv_iconst (v := 1) hx hb dL_law_388 (by decide) ?_
    refine lv_iadd hx hb dL_law_389 ?_
    refine lv_topi (fun f_33 ef_33 => ?_)
    have ef_33c : f_33 = nI (6 * i + 1) := ef_33.trans (nI_add (6 * i) 1)
    subst ef_33c
    refine va_sld hx hb hX hbl hbA hW.2.2.2.2.2 (vp_in_nI (show 6 * i + 1 < L by omega) (by omega)) dL_law_390 ?_
    refine lv_topi (fun f_34 ef_34 => ?_)
    have ef_34c : f_34 = xs (6 * i + 1) := ef_34.trans (congrArg xs (nI_clamp (by omega)))
    subst ef_34c
    refine lv_aload_n hx hb dL_law_391 rfl (lv_at hl 0 rfl) ?_
    refine lv_iload_n hx hb dL_law_392 rfl (lv_at hl 3 rfl) ?_
    refine lv_iconst (v := 2) hx hb dL_law_393 (by decide) ?_
    refine lv_iadd hx hb dL_law_394 ?_
    refine lv_topi (fun f_35 ef_35 => ?_)
    have ef_35c : f_35 = nI (6 * i + 2) := ef_35.trans (nI_add (6 * i) 2)
    subst ef_35c
    refine va_sld hx hb hX hbl hbA hW.2.2.2.2.2 (vp_in_nI (show 6 * i + 2 < L by omega) (by omega)) dL_law_395 ?_
    refine lv_topi (fun f_36 ef_36 => ?_)
    have ef_36c : f_36 = xs (6 * i + 2) := ef_36.trans (congrArg xs (nI_clamp (by omega)))
    subst ef_36c
    refine lv_if_eq (tgt := 403) hx hb dL_law_396 (by decide) (fun c_37 => absurd c_37 c_5) (fun c_37 => ?_)
    refine lv_iconst (v := 1) hx hb dL_law_399 (by decide) ?_
    refine lv_goto (tgt := 404) hx hb dL_law_400 (by decide) ?_
    refine lv_aload_n hx hb dL_law_404 rfl (lv_at hl 0 rfl) ?_
    refine lv_iload_n hx hb dL_law_405 rfl (lv_at hl 3 rfl) ?_
    refine lv_iconst (v := 3) hx hb dL_law_406 (by decide) ?_
    refine lv_iadd hx hb dL_law_407 ?_
    refine lv_topi (fun f_38 ef_38 => ?_)
    have ef_38c : f_38 = nI (6 * i + 3) := ef_38.trans (nI_add (6 * i) 3)
    subst ef_38c
    refine va_sld hx hb hX hbl hbA hW.2.2.2.2.2 (vp_in_nI (show 6 * i + 3 < L by omega) (by omega)) dL_law_408 ?_
    refine lv_topi (fun f_39 ef_39 => ?_)
    have ef_39c : f_39 = xs (6 * i + 3) := ef_39.trans (congrArg xs (nI_clamp (by omega)))
    subst ef_39c
    refine lv_aload_n hx hb dL_law_409 rfl (lv_at hl 0 rfl) ?_
    refine lv_iload_n hx hb dL_law_410 rfl (lv_at hl 3 rfl) ?_
    refine lv_iconst (v := 4) hx hb dL_law_411 (by decide) ?_
    refine lv_iadd hx hb dL_law_412 ?_
    refine lv_topi (fun f_40 ef_40 => ?_)
    have ef_40c : f_40 = nI (6 * i + 4) := ef_40.trans (nI_add (6 * i) 4)
    subst ef_40c
    refine va_sld hx hb hX hbl hbA hW.2.2.2.2.2 (vp_in_nI (show 6 * i + 4 < L by omega) (by omega)) dL_law_413 ?_
    refine lv_topi (fun f_41 ef_41 => ?_)
    have ef_41c : f_41 = xs (6 * i + 4) := ef_41.trans (congrArg xs (nI_clamp (by omega)))
    subst ef_41c
    refine l_mi (l_runM (As := [.int (xs (6 * i + 1)), .int 1, .int (xs (6 * i + 3)), .int (xs (6 * i + 4))]) (rest := []) ⟨hx, hb, hml, hown, hts⟩ (n9_bound l M hDD o F tr N (xs (6 * i + 1)) 1 (xs (6 * i + 3)) (xs (6 * i + 4)) hR.2.1 H.size) (cwV 4 hts GL_X8_bound rfl rfl rfl (by decide +kernel) ⟨Nat.le_of_ble_eq_true rfl, Nat.le_of_ble_eq_true rfl⟩) hW hKm rfl hl.1 rfl (lv_room (Nat.le_of_ble_eq_true rfl)) dL_law_414) hW (fun r_42 o_44 F_45 H locs hw_43 hW => ?_)
    try dsimp only at hw_43
    refine lv_pop hx hb dL_law_417 rfl ?_
    refine lv_goto (tgt := 540) hx hb dL_law_418 (by decide) ?_
    obtain ⟨⟨⟨hI1, hI2⟩, hW3⟩, hMK⟩ := hw_43
    exact kk _ _ _ _ _ _ _ ⟨hw_31.2, hI1, hR.2.2.1.aw hw_31.1 (by decide) hI2, hR.2.2.2.1, hR.2.2.2.2.kq hw_31.1 (by decide) hW3 hI2⟩ (hT.keep hw_31.1 (by decide) (by decide) hMK) (hz.kq hI2) hW

set_option maxHeartbeats 4000000 in
set_option maxRecDepth 100000 in
/-- work -/
theorem lw_c9 {p : Program} {l : Launch} {e : Env} {s : State} {m : MethodId} {below : List Frame} {meth : Method} {c : Code} {b L : Nat} {xs : Nat → Int32} {G : cG} {M : mG} {tk : Nat} {Q : State → Prop} (hx : p.tables.exec = Jvm.exec) (hb : c.code = code) (hml : c.maxLocals = 4) (hown : s.vm.findClass RL = some m.cls) (hts : ∀ w ∈ lw_tbl, w.before #[Value.ref b] s = true) (hX : va_X b L xs s s.heap) (hbl : b < s.heap.size) (hbA : ¬ lA s b) (hKc : cK G s) (hKm : mK M s) (hDD : mDD M) (hZ : ZT tk (lA s) s s.heap) (hLn : L ≤ 3072) {S : cS} {tr : aM} {N i : Nat} {o : Nat → Int32} {F : Nat → Nat → Int32} {H : Heap} {locs : List Loc} {ls : Array Slot} (hi : 6 * i + 6 ≤ L) (hR : LR S tr N o F) (hT : TY9 S o F i) (hz : TRz tr N F) (hW : LWd s G M S o F H locs) (hl : lv_has ls 4 [(0, .ref b), (1, .ref (ga G 0)), (2, .ref (mh M)), (3, .int (nI (6 * i)))]) (kk : ∀ (S : cS) (tr : aM) (N : Nat) (o : Nat → Int32) (F : Nat → Nat → Int32) (H : Heap) (locs : List Loc), LR S tr N o F → TY9 S o F (i + 1) → TRz tr N F → LWd s G M S o F H locs → W p l e room_1 s m #[Value.ref b] below meth c H locs (K0 + PT S) (N0s + 12 * PT S) Q (F0 m 540 ls [])) : W p l e room_1 s m #[Value.ref b] below meth c H locs (K0 + PT S) (N0s + 12 * PT S) Q (F0 m 421 ls []) := by
  refine lv_aload_n hx hb dL_law_421 rfl (lv_at hl 1 rfl) ?_
  refine lv_aload_n hx hb dL_law_422 rfl (lv_at hl 0 rfl) ?_
  refine lv_iload_n hx hb dL_law_423 rfl (lv_at hl 3 rfl) ?_
  refine lv_iconst (v := 1) hx hb dL_law_424 (by decide) ?_
  refine lv_iadd hx hb dL_law_425 ?_
  refine lv_topi (fun f_1 ef_1 => ?_)
  have ef_1c : f_1 = nI (6 * i + 1) := ef_1.trans (nI_add (6 * i) 1)
  subst ef_1c
  refine va_sld hx hb hX hbl hbA hW.2.2.2.2.2 (vp_in_nI (show 6 * i + 1 < L by omega) (by omega)) dL_law_426 ?_
  refine lv_topi (fun f_2 ef_2 => ?_)
  have ef_2c : f_2 = xs (6 * i + 1) := ef_2.trans (congrArg xs (nI_clamp (by omega)))
  subst ef_2c
  refine lv_aload_n hx hb dL_law_427 rfl (lv_at hl 0 rfl) ?_
  refine lv_iload_n hx hb dL_law_428 rfl (lv_at hl 3 rfl) ?_
  refine lv_iconst (v := 2) hx hb dL_law_429 (by decide) ?_
  refine lv_iadd hx hb dL_law_430 ?_
  refine lv_topi (fun f_3 ef_3 => ?_)
  have ef_3c : f_3 = nI (6 * i + 2) := ef_3.trans (nI_add (6 * i) 2)
  subst ef_3c
  refine va_sld hx hb hX hbl hbA hW.2.2.2.2.2 (vp_in_nI (show 6 * i + 2 < L by omega) (by omega)) dL_law_431 ?_
  refine lv_topi (fun f_4 ef_4 => ?_)
  have ef_4c : f_4 = xs (6 * i + 2) := ef_4.trans (congrArg xs (nI_clamp (by omega)))
  subst ef_4c
  obtain ⟨dp9, hTm9⟩ := hR.dp
  refine l_ci (l_runV (As := [.int (xs (6 * i + 1)), .int (xs (6 * i + 2))]) (rest := []) (q0 := 0) (ci := 7) ⟨hx, hb, hml, hown, hts⟩ (xv_work l G S N tr dp9 (F 2) (xs (6 * i + 1)) (xs (6 * i + 2)) hW.2.2.1 hR.1 hR.tc hTm9 H) (cwV 2 hts GL_X7_work rfl rfl rfl (by decide +kernel) ⟨Nat.le_of_ble_eq_true rfl, Nat.le_of_ble_eq_true rfl⟩) hW hKc cw_0 rfl rfl hl.1 rfl (lv_room (Nat.le_of_ble_eq_true rfl)) dL_law_432) hW (fun r_5 S_7 H locs hw_6 hW => ?_)
  try dsimp only at hw_6
  refine lv_pop hx hb dL_law_435 rfl ?_
  refine lv_aload_n hx hb dL_law_436 rfl (lv_at hl 2 rfl) ?_
  refine lv_aload_n hx hb dL_law_437 rfl (lv_at hl 0 rfl) ?_
  refine lv_iload_n hx hb dL_law_438 rfl (lv_at hl 3 rfl) ?_
  refine lv_iconst (v := 1) hx hb dL_law_439 (by decide) ?_
  refine lv_iadd hx hb dL_law_440 ?_
  refine lv_topi (fun f_8 ef_8 => ?_)
  have ef_8c : f_8 = nI (6 * i + 1) := ef_8.trans (nI_add (6 * i) 1)
  subst ef_8c
  refine va_sld hx hb hX hbl hbA hW.2.2.2.2.2 (vp_in_nI (show 6 * i + 1 < L by omega) (by omega)) dL_law_441 ?_
  refine lv_topi (fun f_9 ef_9 => ?_)
  have ef_9c : f_9 = xs (6 * i + 1) := ef_9.trans (congrArg xs (nI_clamp (by omega)))
  subst ef_9c
  refine lv_aload_n hx hb dL_law_442 rfl (lv_at hl 0 rfl) ?_
  refine lv_iload_n hx hb dL_law_443 rfl (lv_at hl 3 rfl) ?_
  refine lv_iconst (v := 2) hx hb dL_law_444 (by decide) ?_
  refine lv_iadd hx hb dL_law_445 ?_
  refine lv_topi (fun f_10 ef_10 => ?_)
  have ef_10c : f_10 = nI (6 * i + 2) := ef_10.trans (nI_add (6 * i) 2)
  subst ef_10c
  refine va_sld hx hb hX hbl hbA hW.2.2.2.2.2 (vp_in_nI (show 6 * i + 2 < L by omega) (by omega)) dL_law_446 ?_
  refine lv_topi (fun f_11 ef_11 => ?_)
  have ef_11c : f_11 = xs (6 * i + 2) := ef_11.trans (congrArg xs (nI_clamp (by omega)))
  subst ef_11c
  refine l_mi (l_runM (As := [.int (xs (6 * i + 1)), .int (xs (6 * i + 2))]) (rest := []) ⟨hx, hb, hml, hown, hts⟩ (xv_mwork l M hDD o F tr N dp9 (F 2) (xs (6 * i + 1)) (xs (6 * i + 2)) hR.2.1.1 (fun _ _ => rfl) hTm9 H.size) (cwV 2 hts GL_X8_work rfl rfl rfl (by decide +kernel) ⟨Nat.le_of_ble_eq_true rfl, Nat.le_of_ble_eq_true rfl⟩) hW hKm rfl hl.1 rfl (lv_room (Nat.le_of_ble_eq_true rfl)) dL_law_447) hW (fun r_12 o_14 F_15 H locs hw_13 hW => ?_)
  try dsimp only at hw_13
  refine lv_pop hx hb dL_law_450 rfl ?_
  refine lv_goto (tgt := 540) hx hb dL_law_451 (by decide) ?_
  obtain ⟨er, hR2⟩ := work_both (mk := F 2) hR hTm9 hw_6.1 hw_6.2 hw_13
  have hR1 := And.intro hR2 (hT.keep hw_6.1 (by decide) (by decide) (work_mk hw_13))
  exact kk _ _ _ _ _ _ _ hR1.1 hR1.2 (hz.kq (m7_work hw_13)) hW

set_option maxHeartbeats 4000000 in
set_option maxRecDepth 100000 in
/-- value -/
theorem lw_c10 {p : Program} {l : Launch} {e : Env} {s : State} {m : MethodId} {below : List Frame} {meth : Method} {c : Code} {b L : Nat} {xs : Nat → Int32} {G : cG} {M : mG} {tk : Nat} {Q : State → Prop} (hx : p.tables.exec = Jvm.exec) (hb : c.code = code) (hml : c.maxLocals = 4) (hown : s.vm.findClass RL = some m.cls) (hts : ∀ w ∈ lw_tbl, w.before #[Value.ref b] s = true) (hX : va_X b L xs s s.heap) (hbl : b < s.heap.size) (hbA : ¬ lA s b) (hKc : cK G s) (hKm : mK M s) (hDD : mDD M) (hZ : ZT tk (lA s) s s.heap) (hLn : L ≤ 3072) {S : cS} {tr : aM} {N i : Nat} {o : Nat → Int32} {F : Nat → Nat → Int32} {H : Heap} {locs : List Loc} {ls : Array Slot} (hi : 6 * i + 6 ≤ L) (hR : LR S tr N o F) (hT : TY9 S o F i) (hz : TRz tr N F) (hW : LWd s G M S o F H locs) (hl : lv_has ls 4 [(0, .ref b), (1, .ref (ga G 0)), (2, .ref (mh M)), (3, .int (nI (6 * i)))]) (kk : ∀ (S : cS) (tr : aM) (N : Nat) (o : Nat → Int32) (F : Nat → Nat → Int32) (H : Heap) (locs : List Loc), LR S tr N o F → TY9 S o F (i + 1) → TRz tr N F → LWd s G M S o F H locs → W p l e room_1 s m #[Value.ref b] below meth c H locs (K0 + PT S) (N0s + 12 * PT S) Q (F0 m 540 ls [])) : W p l e room_1 s m #[Value.ref b] below meth c H locs (K0 + PT S) (N0s + 12 * PT S) Q (F0 m 454 ls []) := by
  refine lv_aload_n hx hb dL_law_454 rfl (lv_at hl 1 rfl) ?_
  refine lv_aload_n hx hb dL_law_455 rfl (lv_at hl 0 rfl) ?_
  refine lv_iload_n hx hb dL_law_456 rfl (lv_at hl 3 rfl) ?_
  refine lv_iconst (v := 1) hx hb dL_law_457 (by decide) ?_
  refine lv_iadd hx hb dL_law_458 ?_
  refine lv_topi (fun f_1 ef_1 => ?_)
  have ef_1c : f_1 = nI (6 * i + 1) := ef_1.trans (nI_add (6 * i) 1)
  subst ef_1c
  refine va_sld hx hb hX hbl hbA hW.2.2.2.2.2 (vp_in_nI (show 6 * i + 1 < L by omega) (by omega)) dL_law_459 ?_
  refine lv_topi (fun f_2 ef_2 => ?_)
  have ef_2c : f_2 = xs (6 * i + 1) := ef_2.trans (congrArg xs (nI_clamp (by omega)))
  subst ef_2c
  refine l_ci (l_runV (As := [.int (xs (6 * i + 1))]) (rest := []) (q0 := 0) (ci := 7) ⟨hx, hb, hml, hown, hts⟩ (k_value l G S N (xs (6 * i + 1)) hW.2.2.1 hR.1 H) (cwV 1 hts GL_X7_value rfl rfl rfl (by decide +kernel) ⟨Nat.le_of_ble_eq_true rfl, Nat.le_of_ble_eq_true rfl⟩) hW hKc cw_0 rfl rfl hl.1 rfl (lv_room (Nat.le_of_ble_eq_true rfl)) dL_law_460) hW (fun r_3 S_5 H locs hw_4 hW => ?_)
  try dsimp only at hw_4
  obtain ⟨-, hw_4⟩ := hw_4
  have hw_4 := hw_4.symm
  subst hw_4
  refine lv_pop hx hb dL_law_463 rfl ?_
  refine lv_aload_n hx hb dL_law_464 rfl (lv_at hl 2 rfl) ?_
  refine lv_aload_n hx hb dL_law_465 rfl (lv_at hl 0 rfl) ?_
  refine lv_iload_n hx hb dL_law_466 rfl (lv_at hl 3 rfl) ?_
  refine lv_iconst (v := 1) hx hb dL_law_467 (by decide) ?_
  refine lv_iadd hx hb dL_law_468 ?_
  refine lv_topi (fun f_6 ef_6 => ?_)
  have ef_6c : f_6 = nI (6 * i + 1) := ef_6.trans (nI_add (6 * i) 1)
  subst ef_6c
  refine va_sld hx hb hX hbl hbA hW.2.2.2.2.2 (vp_in_nI (show 6 * i + 1 < L by omega) (by omega)) dL_law_469 ?_
  refine lv_topi (fun f_7 ef_7 => ?_)
  have ef_7c : f_7 = xs (6 * i + 1) := ef_7.trans (congrArg xs (nI_clamp (by omega)))
  subst ef_7c
  refine l_mi (l_runM (As := [.int (xs (6 * i + 1))]) (rest := []) ⟨hx, hb, hml, hown, hts⟩ (n9_value l M hDD o F tr N (xs (6 * i + 1)) hR.2.1 H.size) (cwV 1 hts GL_X8_value rfl rfl rfl (by decide +kernel) ⟨Nat.le_of_ble_eq_true rfl, Nat.le_of_ble_eq_true rfl⟩) hW hKm rfl hl.1 rfl (lv_room (Nat.le_of_ble_eq_true rfl)) dL_law_470) hW (fun r_8 o_10 F_11 H locs hw_9 hW => ?_)
  try dsimp only at hw_9
  refine lv_pop hx hb dL_law_473 rfl ?_
  refine lv_goto (tgt := 540) hx hb dL_law_474 (by decide) ?_
  obtain ⟨⟨⟨hI1, hI2⟩, hW3⟩, hMK⟩ := hw_9
  exact kk _ _ _ _ _ _ _ ⟨hR.1, hI1, hR.2.2.1.aw (AW.rf (rs := []) (is := [])) (by decide) hI2, hR.2.2.2.1, hR.2.2.2.2.kq (AW.rf (rs := []) (is := [])) (by decide) hW3 hI2⟩ (hT.keep (AW.rf (rs := []) (is := [])) (by decide) (by decide) hMK) (hz.kq hI2) hW

set_option maxHeartbeats 4000000 in
set_option maxRecDepth 100000 in
/-- worked -/
theorem lw_c11 {p : Program} {l : Launch} {e : Env} {s : State} {m : MethodId} {below : List Frame} {meth : Method} {c : Code} {b L : Nat} {xs : Nat → Int32} {G : cG} {M : mG} {tk : Nat} {Q : State → Prop} (hx : p.tables.exec = Jvm.exec) (hb : c.code = code) (hml : c.maxLocals = 4) (hown : s.vm.findClass RL = some m.cls) (hts : ∀ w ∈ lw_tbl, w.before #[Value.ref b] s = true) (hX : va_X b L xs s s.heap) (hbl : b < s.heap.size) (hbA : ¬ lA s b) (hKc : cK G s) (hKm : mK M s) (hDD : mDD M) (hZ : ZT tk (lA s) s s.heap) (hLn : L ≤ 3072) {S : cS} {tr : aM} {N i : Nat} {o : Nat → Int32} {F : Nat → Nat → Int32} {H : Heap} {locs : List Loc} {ls : Array Slot} (hi : 6 * i + 6 ≤ L) (hR : LR S tr N o F) (hT : TY9 S o F i) (hz : TRz tr N F) (hW : LWd s G M S o F H locs) (hl : lv_has ls 4 [(0, .ref b), (1, .ref (ga G 0)), (2, .ref (mh M)), (3, .int (nI (6 * i)))]) (kk : ∀ (S : cS) (tr : aM) (N : Nat) (o : Nat → Int32) (F : Nat → Nat → Int32) (H : Heap) (locs : List Loc), LR S tr N o F → TY9 S o F (i + 1) → TRz tr N F → LWd s G M S o F H locs → W p l e room_1 s m #[Value.ref b] below meth c H locs (K0 + PT S) (N0s + 12 * PT S) Q (F0 m 540 ls [])) : W p l e room_1 s m #[Value.ref b] below meth c H locs (K0 + PT S) (N0s + 12 * PT S) Q (F0 m 477 ls []) := by
  refine lv_aload_n hx hb dL_law_477 rfl (lv_at hl 1 rfl) ?_
  refine l_ci (l_runV (As := []) (rest := []) (q0 := 0) (ci := 7) ⟨hx, hb, hml, hown, hts⟩ (k_worked l G S N  hW.2.2.1 hR.1 H) (cwV 0 hts GL_X7_worked rfl rfl rfl (by decide +kernel) ⟨Nat.le_of_ble_eq_true rfl, Nat.le_of_ble_eq_true rfl⟩) hW hKc cw_0 rfl rfl hl.1 rfl (lv_room (Nat.le_of_ble_eq_true rfl)) dL_law_478) hW (fun r_1 S_3 H locs hw_2 hW => ?_)
  try dsimp only at hw_2
  obtain ⟨-, hw_2⟩ := hw_2
  have hw_2 := hw_2.symm
  subst hw_2
  refine lv_pop hx hb dL_law_481 rfl ?_
  refine lv_aload_n hx hb dL_law_482 rfl (lv_at hl 2 rfl) ?_
  refine l_mi (l_runM (As := []) (rest := []) ⟨hx, hb, hml, hown, hts⟩ (n9_worked l M hDD o F tr N  hR.2.1 H.size) (cwV 0 hts GL_X8_worked rfl rfl rfl (by decide +kernel) ⟨Nat.le_of_ble_eq_true rfl, Nat.le_of_ble_eq_true rfl⟩) hW hKm rfl hl.1 rfl (lv_room (Nat.le_of_ble_eq_true rfl)) dL_law_483) hW (fun r_4 o_6 F_7 H locs hw_5 hW => ?_)
  try dsimp only at hw_5
  refine lv_pop hx hb dL_law_486 rfl ?_
  refine lv_goto (tgt := 540) hx hb dL_law_487 (by decide) ?_
  obtain ⟨⟨⟨hI1, hI2⟩, hW3⟩, hMK⟩ := hw_5
  exact kk _ _ _ _ _ _ _ ⟨hR.1, hI1, hR.2.2.1.aw (AW.rf (rs := []) (is := [])) (by decide) hI2, hR.2.2.2.1, hR.2.2.2.2.kq (AW.rf (rs := []) (is := [])) (by decide) hW3 hI2⟩ (hT.keep (AW.rf (rs := []) (is := [])) (by decide) (by decide) hMK) (hz.kq hI2) hW

set_option maxHeartbeats 4000000 in
set_option maxRecDepth 100000 in
/-- stuck -/
theorem lw_c12 {p : Program} {l : Launch} {e : Env} {s : State} {m : MethodId} {below : List Frame} {meth : Method} {c : Code} {b L : Nat} {xs : Nat → Int32} {G : cG} {M : mG} {tk : Nat} {Q : State → Prop} (hx : p.tables.exec = Jvm.exec) (hb : c.code = code) (hml : c.maxLocals = 4) (hown : s.vm.findClass RL = some m.cls) (hts : ∀ w ∈ lw_tbl, w.before #[Value.ref b] s = true) (hX : va_X b L xs s s.heap) (hbl : b < s.heap.size) (hbA : ¬ lA s b) (hKc : cK G s) (hKm : mK M s) (hDD : mDD M) (hZ : ZT tk (lA s) s s.heap) (hLn : L ≤ 3072) {S : cS} {tr : aM} {N i : Nat} {o : Nat → Int32} {F : Nat → Nat → Int32} {H : Heap} {locs : List Loc} {ls : Array Slot} (hi : 6 * i + 6 ≤ L) (hR : LR S tr N o F) (hT : TY9 S o F i) (hz : TRz tr N F) (hW : LWd s G M S o F H locs) (hl : lv_has ls 4 [(0, .ref b), (1, .ref (ga G 0)), (2, .ref (mh M)), (3, .int (nI (6 * i)))]) (kk : ∀ (S : cS) (tr : aM) (N : Nat) (o : Nat → Int32) (F : Nat → Nat → Int32) (H : Heap) (locs : List Loc), LR S tr N o F → TY9 S o F (i + 1) → TRz tr N F → LWd s G M S o F H locs → W p l e room_1 s m #[Value.ref b] below meth c H locs (K0 + PT S) (N0s + 12 * PT S) Q (F0 m 540 ls [])) : W p l e room_1 s m #[Value.ref b] below meth c H locs (K0 + PT S) (N0s + 12 * PT S) Q (F0 m 490 ls []) := by
  refine lv_aload_n hx hb dL_law_490 rfl (lv_at hl 1 rfl) ?_
  refine l_ci (l_runV (As := []) (rest := []) (q0 := 0) (ci := 7) ⟨hx, hb, hml, hown, hts⟩ (k_stuck l G S N  hW.2.2.1 hR.1 H) (cwV 0 hts GL_X7_stuck rfl rfl rfl (by decide +kernel) ⟨Nat.le_of_ble_eq_true rfl, Nat.le_of_ble_eq_true rfl⟩) hW hKc cw_0 rfl rfl hl.1 rfl (lv_room (Nat.le_of_ble_eq_true rfl)) dL_law_491) hW (fun r_1 S_3 H locs hw_2 hW => ?_)
  try dsimp only at hw_2
  obtain ⟨-, hw_2⟩ := hw_2
  have hw_2 := hw_2.symm
  subst hw_2
  refine lv_pop hx hb dL_law_494 rfl ?_
  refine lv_aload_n hx hb dL_law_495 rfl (lv_at hl 2 rfl) ?_
  refine l_mi (l_runM (As := []) (rest := []) ⟨hx, hb, hml, hown, hts⟩ (n9_stuck l M hDD o F tr N  hR.2.1 H.size) (cwV 0 hts GL_X8_stuck rfl rfl rfl (by decide +kernel) ⟨Nat.le_of_ble_eq_true rfl, Nat.le_of_ble_eq_true rfl⟩) hW hKm rfl hl.1 rfl (lv_room (Nat.le_of_ble_eq_true rfl)) dL_law_496) hW (fun r_4 o_6 F_7 H locs hw_5 hW => ?_)
  try dsimp only at hw_5
  refine lv_pop hx hb dL_law_499 rfl ?_
  refine lv_goto (tgt := 540) hx hb dL_law_500 (by decide) ?_
  obtain ⟨⟨⟨hI1, hI2⟩, hW3⟩, hMK⟩ := hw_5
  exact kk _ _ _ _ _ _ _ ⟨hR.1, hI1, hR.2.2.1.aw (AW.rf (rs := []) (is := [])) (by decide) hI2, hR.2.2.2.1, hR.2.2.2.2.kq (AW.rf (rs := []) (is := [])) (by decide) hW3 hI2⟩ (hT.keep (AW.rf (rs := []) (is := [])) (by decide) (by decide) hMK) (hz.kq hI2) hW

set_option maxHeartbeats 4000000 in
set_option maxRecDepth 100000 in
/-- count -/
theorem lw_c13 {p : Program} {l : Launch} {e : Env} {s : State} {m : MethodId} {below : List Frame} {meth : Method} {c : Code} {b L : Nat} {xs : Nat → Int32} {G : cG} {M : mG} {tk : Nat} {Q : State → Prop} (hx : p.tables.exec = Jvm.exec) (hb : c.code = code) (hml : c.maxLocals = 4) (hown : s.vm.findClass RL = some m.cls) (hts : ∀ w ∈ lw_tbl, w.before #[Value.ref b] s = true) (hX : va_X b L xs s s.heap) (hbl : b < s.heap.size) (hbA : ¬ lA s b) (hKc : cK G s) (hKm : mK M s) (hDD : mDD M) (hZ : ZT tk (lA s) s s.heap) (hLn : L ≤ 3072) {S : cS} {tr : aM} {N i : Nat} {o : Nat → Int32} {F : Nat → Nat → Int32} {H : Heap} {locs : List Loc} {ls : Array Slot} (hi : 6 * i + 6 ≤ L) (hR : LR S tr N o F) (hT : TY9 S o F i) (hz : TRz tr N F) (hW : LWd s G M S o F H locs) (hl : lv_has ls 4 [(0, .ref b), (1, .ref (ga G 0)), (2, .ref (mh M)), (3, .int (nI (6 * i)))]) (kk : ∀ (S : cS) (tr : aM) (N : Nat) (o : Nat → Int32) (F : Nat → Nat → Int32) (H : Heap) (locs : List Loc), LR S tr N o F → TY9 S o F (i + 1) → TRz tr N F → LWd s G M S o F H locs → W p l e room_1 s m #[Value.ref b] below meth c H locs (K0 + PT S) (N0s + 12 * PT S) Q (F0 m 540 ls [])) : W p l e room_1 s m #[Value.ref b] below meth c H locs (K0 + PT S) (N0s + 12 * PT S) Q (F0 m 503 ls []) := by
  refine lv_aload_n hx hb dL_law_503 rfl (lv_at hl 1 rfl) ?_
  refine lv_aload_n hx hb dL_law_504 rfl (lv_at hl 0 rfl) ?_
  refine lv_iload_n hx hb dL_law_505 rfl (lv_at hl 3 rfl) ?_
  refine lv_iconst (v := 1) hx hb dL_law_506 (by decide) ?_
  refine lv_iadd hx hb dL_law_507 ?_
  refine lv_topi (fun f_1 ef_1 => ?_)
  have ef_1c : f_1 = nI (6 * i + 1) := ef_1.trans (nI_add (6 * i) 1)
  subst ef_1c
  refine va_sld hx hb hX hbl hbA hW.2.2.2.2.2 (vp_in_nI (show 6 * i + 1 < L by omega) (by omega)) dL_law_508 ?_
  refine lv_topi (fun f_2 ef_2 => ?_)
  have ef_2c : f_2 = xs (6 * i + 1) := ef_2.trans (congrArg xs (nI_clamp (by omega)))
  subst ef_2c
  refine l_ci (l_runV (As := [.int (xs (6 * i + 1))]) (rest := []) (q0 := 0) (ci := 7) ⟨hx, hb, hml, hown, hts⟩ (k_count l G S N (xs (6 * i + 1)) hW.2.2.1 hR.1 H) (cwV 1 hts GL_X7_count rfl rfl rfl (by decide +kernel) ⟨Nat.le_of_ble_eq_true rfl, Nat.le_of_ble_eq_true rfl⟩) hW hKc cw_0 rfl rfl hl.1 rfl (lv_room (Nat.le_of_ble_eq_true rfl)) dL_law_509) hW (fun r_3 S_5 H locs hw_4 hW => ?_)
  try dsimp only at hw_4
  obtain ⟨-, hw_4⟩ := hw_4
  have hw_4 := hw_4.symm
  subst hw_4
  refine lv_pop hx hb dL_law_512 rfl ?_
  refine lv_aload_n hx hb dL_law_513 rfl (lv_at hl 2 rfl) ?_
  refine lv_aload_n hx hb dL_law_514 rfl (lv_at hl 0 rfl) ?_
  refine lv_iload_n hx hb dL_law_515 rfl (lv_at hl 3 rfl) ?_
  refine lv_iconst (v := 1) hx hb dL_law_516 (by decide) ?_
  refine lv_iadd hx hb dL_law_517 ?_
  refine lv_topi (fun f_6 ef_6 => ?_)
  have ef_6c : f_6 = nI (6 * i + 1) := ef_6.trans (nI_add (6 * i) 1)
  subst ef_6c
  refine va_sld hx hb hX hbl hbA hW.2.2.2.2.2 (vp_in_nI (show 6 * i + 1 < L by omega) (by omega)) dL_law_518 ?_
  refine lv_topi (fun f_7 ef_7 => ?_)
  have ef_7c : f_7 = xs (6 * i + 1) := ef_7.trans (congrArg xs (nI_clamp (by omega)))
  subst ef_7c
  refine l_mi (l_runM (As := [.int (xs (6 * i + 1))]) (rest := []) ⟨hx, hb, hml, hown, hts⟩ (n9_count l M hDD o F tr N (xs (6 * i + 1)) hR.2.1 H.size) (cwV 1 hts GL_X8_count rfl rfl rfl (by decide +kernel) ⟨Nat.le_of_ble_eq_true rfl, Nat.le_of_ble_eq_true rfl⟩) hW hKm rfl hl.1 rfl (lv_room (Nat.le_of_ble_eq_true rfl)) dL_law_519) hW (fun r_8 o_10 F_11 H locs hw_9 hW => ?_)
  try dsimp only at hw_9
  refine lv_pop hx hb dL_law_522 rfl ?_
  refine lv_goto (tgt := 540) hx hb dL_law_523 (by decide) ?_
  obtain ⟨⟨⟨hI1, hI2⟩, hW3⟩, hMK⟩ := hw_9
  exact kk _ _ _ _ _ _ _ ⟨hR.1, hI1, hR.2.2.1.aw (AW.rf (rs := []) (is := [])) (by decide) hI2, hR.2.2.2.1, hR.2.2.2.2.kq (AW.rf (rs := []) (is := [])) (by decide) hW3 hI2⟩ (hT.keep (AW.rf (rs := []) (is := [])) (by decide) (by decide) hMK) (hz.kq hI2) hW

set_option maxHeartbeats 4000000 in
set_option maxRecDepth 100000 in
/-- digest -/
theorem lw_c14 {p : Program} {l : Launch} {e : Env} {s : State} {m : MethodId} {below : List Frame} {meth : Method} {c : Code} {b L : Nat} {xs : Nat → Int32} {G : cG} {M : mG} {tk : Nat} {Q : State → Prop} (hx : p.tables.exec = Jvm.exec) (hb : c.code = code) (hml : c.maxLocals = 4) (hown : s.vm.findClass RL = some m.cls) (hts : ∀ w ∈ lw_tbl, w.before #[Value.ref b] s = true) (hX : va_X b L xs s s.heap) (hbl : b < s.heap.size) (hbA : ¬ lA s b) (hKc : cK G s) (hKm : mK M s) (hDD : mDD M) (hZ : ZT tk (lA s) s s.heap) (hLn : L ≤ 3072) {S : cS} {tr : aM} {N i : Nat} {o : Nat → Int32} {F : Nat → Nat → Int32} {H : Heap} {locs : List Loc} {ls : Array Slot} (hi : 6 * i + 6 ≤ L) (hR : LR S tr N o F) (hT : TY9 S o F i) (hz : TRz tr N F) (hW : LWd s G M S o F H locs) (hl : lv_has ls 4 [(0, .ref b), (1, .ref (ga G 0)), (2, .ref (mh M)), (3, .int (nI (6 * i)))]) (kk : ∀ (S : cS) (tr : aM) (N : Nat) (o : Nat → Int32) (F : Nat → Nat → Int32) (H : Heap) (locs : List Loc), LR S tr N o F → TY9 S o F (i + 1) → TRz tr N F → LWd s G M S o F H locs → W p l e room_1 s m #[Value.ref b] below meth c H locs (K0 + PT S) (N0s + 12 * PT S) Q (F0 m 540 ls [])) : W p l e room_1 s m #[Value.ref b] below meth c H locs (K0 + PT S) (N0s + 12 * PT S) Q (F0 m 526 ls []) := by
  refine lv_aload_n hx hb dL_law_526 rfl (lv_at hl 1 rfl) ?_
  obtain ⟨z9, tm9, hk9, htm9, hz9⟩ := id hT
  refine l_cl (l_runV (As := []) (rest := []) (q0 := 0) (ci := 7) ⟨hx, hb, hml, hown, hts⟩ (xw_digest l G S N z9 hW.2.2.1 hR.1 hk9.1 H) (cwV 0 hts GL_X7_digest rfl rfl rfl (by decide +kernel) ⟨Nat.le_of_ble_eq_true rfl, Nat.le_of_ble_eq_true rfl⟩) hW hKc cw_0 rfl rfl hl.1 rfl (lv_room (Nat.le_of_ble_eq_true rfl)) dL_law_527) hW (fun r_1 S_3 H locs hw_2 hW => ?_)
  try dsimp only at hw_2
  obtain ⟨-, hw_2, hw_2v⟩ := hw_2
  have hw_2 := hw_2.symm
  subst hw_2
  refine lv_aload_n hx hb dL_law_530 rfl (lv_at hl 2 rfl) ?_
  refine l_ml (l_runM (As := []) (rest := [.long r_1]) ⟨hx, hb, hml, hown, hts⟩ (m9_digest l M hDD o F N z9 hR.2.1.1.1 hR.2.1.1.2.1 (TY9.o14 hz9) hk9.1.nv hz9 H.size) (cwV 0 hts GL_X8_digest rfl rfl rfl (by decide +kernel) ⟨Nat.le_of_ble_eq_true rfl, Nat.le_of_ble_eq_true rfl⟩) hW hKm rfl hl.1 rfl (lv_room (Nat.le_of_ble_eq_true rfl)) dL_law_531) hW (fun r_4 o_6 F_7 H locs hw_5 hW => ?_)
  try dsimp only at hw_5
  have er := hw_2v.trans ((dig_eq hR.2.1 hR.2.2.1 hz).trans hw_5.2.symm)
  refine W.lcmp hx hb dL_law_534 ?_
  refine lv_topi (fun f_8 ef_8 => ?_)
  have ef_8c : f_8 = 0 := ef_8.trans (lgc_eq er)
  subst ef_8c
  refine lv_if_eq (tgt := 540) hx hb dL_law_535 (by decide) (fun c_9 => ?_) (fun c_9 => absurd (by decide) c_9)
  obtain ⟨⟨hI1, hI2⟩, hW3⟩ := hR.2.1.same3 hw_5.1
  have hMK := mk_same hw_5.1
  exact kk _ _ _ _ _ _ _ ⟨hR.1, hI1, hR.2.2.1.aw (AW.rf (rs := []) (is := [])) (by decide) hI2, hR.2.2.2.1, hR.2.2.2.2.kq (AW.rf (rs := []) (is := [])) (by decide) hW3 hI2⟩ (hT.keep (AW.rf (rs := []) (is := [])) (by decide) (by decide) hMK) (hz.kq hI2) hW


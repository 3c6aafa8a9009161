theorem dX12_lookAt_0 : decode cX12_lookAt 0 = .ok (.aload_n 0, 1) := by decide +kernel
theorem dX12_lookAt_1 : decode cX12_lookAt 1 = .ok (.getfield 350, 3) := by decide +kernel
theorem dX12_lookAt_4 : decode cX12_lookAt 4 = .ok (.ifCond .le 5, 3) := by decide +kernel
theorem dX12_lookAt_9 : decode cX12_lookAt 9 = .ok (.aload_n 0, 1) := by decide +kernel
theorem dX12_lookAt_10 : decode cX12_lookAt 10 = .ok (.getfield 38, 3) := by decide +kernel
theorem dX12_lookAt_13 : decode cX12_lookAt 13 = .ok (.iload_n 1, 1) := by decide +kernel
theorem dX12_lookAt_14 : decode cX12_lookAt 14 = .ok (.iaload, 1) := by decide +kernel
theorem dX12_lookAt_15 : decode cX12_lookAt 15 = .ok (.tableswitch 468 1 22 #[101, 107, 122, 137, 143, 155, 166, 176, 191, 205, 101, 236, 246, 280, 322, 332, 357, 363, 369, 369, 375, 375], 101) := by decide +kernel
theorem dX12_lookAt_116 : decode cX12_lookAt 116 = .ok (.aload_n 0, 1) := by decide +kernel
theorem dX12_lookAt_117 : decode cX12_lookAt 117 = .ok (.iconst 1, 1) := by decide +kernel
theorem dX12_lookAt_118 : decode cX12_lookAt 118 = .ok (.invokevirtual 560, 3) := by decide +kernel
theorem dX12_lookAt_121 : decode cX12_lookAt 121 = .ok (.ireturn, 1) := by decide +kernel
theorem dX12_lookAt_122 : decode cX12_lookAt 122 = .ok (.aload_n 0, 1) := by decide +kernel
theorem dX12_lookAt_123 : decode cX12_lookAt 123 = .ok (.aload_n 0, 1) := by decide +kernel
theorem dX12_lookAt_124 : decode cX12_lookAt 124 = .ok (.getfield 544, 3) := by decide +kernel
theorem dX12_lookAt_127 : decode cX12_lookAt 127 = .ok (.putfield 551, 3) := by decide +kernel
theorem dX12_lookAt_130 : decode cX12_lookAt 130 = .ok (.aload_n 0, 1) := by decide +kernel
theorem dX12_lookAt_131 : decode cX12_lookAt 131 = .ok (.iconst (-1), 1) := by decide +kernel
theorem dX12_lookAt_132 : decode cX12_lookAt 132 = .ok (.putfield 554, 3) := by decide +kernel
theorem dX12_lookAt_135 : decode cX12_lookAt 135 = .ok (.iconst 2, 1) := by decide +kernel
theorem dX12_lookAt_136 : decode cX12_lookAt 136 = .ok (.ireturn, 1) := by decide +kernel
theorem dX12_lookAt_137 : decode cX12_lookAt 137 = .ok (.aload_n 0, 1) := by decide +kernel
theorem dX12_lookAt_138 : decode cX12_lookAt 138 = .ok (.iconst (-1), 1) := by decide +kernel
theorem dX12_lookAt_139 : decode cX12_lookAt 139 = .ok (.putfield 551, 3) := by decide +kernel
theorem dX12_lookAt_142 : decode cX12_lookAt 142 = .ok (.aload_n 0, 1) := by decide +kernel
theorem dX12_lookAt_143 : decode cX12_lookAt 143 = .ok (.aload_n 0, 1) := by decide +kernel
theorem dX12_lookAt_144 : decode cX12_lookAt 144 = .ok (.getfield 544, 3) := by decide +kernel
theorem dX12_lookAt_147 : decode cX12_lookAt 147 = .ok (.putfield 554, 3) := by decide +kernel
theorem dX12_lookAt_150 : decode cX12_lookAt 150 = .ok (.iconst 2, 1) := by decide +kernel
theorem dX12_lookAt_151 : decode cX12_lookAt 151 = .ok (.ireturn, 1) := by decide +kernel
theorem dX12_lookAt_152 : decode cX12_lookAt 152 = .ok (.aload_n 0, 1) := by decide +kernel
theorem dX12_lookAt_153 : decode cX12_lookAt 153 = .ok (.iconst 3, 1) := by decide +kernel
theorem dX12_lookAt_154 : decode cX12_lookAt 154 = .ok (.invokevirtual 560, 3) := by decide +kernel
theorem dX12_lookAt_157 : decode cX12_lookAt 157 = .ok (.ireturn, 1) := by decide +kernel
theorem dX12_lookAt_158 : decode cX12_lookAt 158 = .ok (.aload_n 0, 1) := by decide +kernel
theorem dX12_lookAt_159 : decode cX12_lookAt 159 = .ok (.bipush 10, 2) := by decide +kernel
theorem dX12_lookAt_161 : decode cX12_lookAt 161 = .ok (.aload_n 0, 1) := by decide +kernel
theorem dX12_lookAt_162 : decode cX12_lookAt 162 = .ok (.getfield 563, 3) := by decide +kernel
theorem dX12_lookAt_165 : decode cX12_lookAt 165 = .ok (.iadd, 1) := by decide +kernel
theorem dX12_lookAt_166 : decode cX12_lookAt 166 = .ok (.invokevirtual 560, 3) := by decide +kernel
theorem dX12_lookAt_169 : decode cX12_lookAt 169 = .ok (.ireturn, 1) := by decide +kernel
theorem dX12_lookAt_170 : decode cX12_lookAt 170 = .ok (.aload_n 0, 1) := by decide +kernel
theorem dX12_lookAt_171 : decode cX12_lookAt 171 = .ok (.aload_n 0, 1) := by decide +kernel
theorem dX12_lookAt_172 : decode cX12_lookAt 172 = .ok (.iload_n 1, 1) := by decide +kernel
theorem dX12_lookAt_173 : decode cX12_lookAt 173 = .ok (.iconst 1, 1) := by decide +kernel
theorem dX12_lookAt_174 : decode cX12_lookAt 174 = .ok (.invokevirtual 566, 3) := by decide +kernel
theorem dX12_lookAt_177 : decode cX12_lookAt 177 = .ok (.invokevirtual 560, 3) := by decide +kernel
theorem dX12_lookAt_180 : decode cX12_lookAt 180 = .ok (.ireturn, 1) := by decide +kernel
theorem dX12_lookAt_181 : decode cX12_lookAt 181 = .ok (.aload_n 0, 1) := by decide +kernel
theorem dX12_lookAt_182 : decode cX12_lookAt 182 = .ok (.iload_n 1, 1) := by decide +kernel
theorem dX12_lookAt_183 : decode cX12_lookAt 183 = .ok (.aload_n 0, 1) := by decide +kernel
theorem dX12_lookAt_184 : decode cX12_lookAt 184 = .ok (.getfield 563, 3) := by decide +kernel
theorem dX12_lookAt_187 : decode cX12_lookAt 187 = .ok (.invokevirtual 570, 3) := by decide +kernel
theorem dX12_lookAt_190 : decode cX12_lookAt 190 = .ok (.ireturn, 1) := by decide +kernel
theorem dX12_lookAt_191 : decode cX12_lookAt 191 = .ok (.aload_n 0, 1) := by decide +kernel
theorem dX12_lookAt_192 : decode cX12_lookAt 192 = .ok (.iload_n 1, 1) := by decide +kernel
theorem dX12_lookAt_193 : decode cX12_lookAt 193 = .ok (.aload_n 0, 1) := by decide +kernel
theorem dX12_lookAt_194 : decode cX12_lookAt 194 = .ok (.getfield 99, 3) := by decide +kernel
theorem dX12_lookAt_197 : decode cX12_lookAt 197 = .ok (.aload_n 0, 1) := by decide +kernel
theorem dX12_lookAt_198 : decode cX12_lookAt 198 = .ok (.getfield 563, 3) := by decide +kernel
theorem dX12_lookAt_201 : decode cX12_lookAt 201 = .ok (.iaload, 1) := by decide +kernel
theorem dX12_lookAt_202 : decode cX12_lookAt 202 = .ok (.invokevirtual 570, 3) := by decide +kernel
theorem dX12_lookAt_205 : decode cX12_lookAt 205 = .ok (.ireturn, 1) := by decide +kernel
theorem dX12_lookAt_206 : decode cX12_lookAt 206 = .ok (.aload_n 0, 1) := by decide +kernel
theorem dX12_lookAt_207 : decode cX12_lookAt 207 = .ok (.bipush 10, 2) := by decide +kernel
theorem dX12_lookAt_209 : decode cX12_lookAt 209 = .ok (.aload_n 0, 1) := by decide +kernel
theorem dX12_lookAt_210 : decode cX12_lookAt 210 = .ok (.getfield 65, 3) := by decide +kernel
theorem dX12_lookAt_213 : decode cX12_lookAt 213 = .ok (.iload_n 1, 1) := by decide +kernel
theorem dX12_lookAt_214 : decode cX12_lookAt 214 = .ok (.iaload, 1) := by decide +kernel
theorem dX12_lookAt_215 : decode cX12_lookAt 215 = .ok (.iadd, 1) := by decide +kernel
theorem dX12_lookAt_216 : decode cX12_lookAt 216 = .ok (.invokevirtual 560, 3) := by decide +kernel
theorem dX12_lookAt_219 : decode cX12_lookAt 219 = .ok (.ireturn, 1) := by decide +kernel
theorem dX12_lookAt_220 : decode cX12_lookAt 220 = .ok (.aload_n 0, 1) := by decide +kernel
theorem dX12_lookAt_221 : decode cX12_lookAt 221 = .ok (.aload_n 0, 1) := by decide +kernel
theorem dX12_lookAt_222 : decode cX12_lookAt 222 = .ok (.getfield 47, 3) := by decide +kernel
theorem dX12_lookAt_225 : decode cX12_lookAt 225 = .ok (.iload_n 1, 1) := by decide +kernel
theorem dX12_lookAt_226 : decode cX12_lookAt 226 = .ok (.iaload, 1) := by decide +kernel
theorem dX12_lookAt_227 : decode cX12_lookAt 227 = .ok (.iconst 1, 1) := by decide +kernel
theorem dX12_lookAt_228 : decode cX12_lookAt 228 = .ok (.invokevirtual 573, 3) := by decide +kernel
theorem dX12_lookAt_231 : decode cX12_lookAt 231 = .ok (.aload_n 0, 1) := by decide +kernel
theorem dX12_lookAt_232 : decode cX12_lookAt 232 = .ok (.sipush 1000, 3) := by decide +kernel
theorem dX12_lookAt_235 : decode cX12_lookAt 235 = .ok (.aload_n 0, 1) := by decide +kernel
theorem dX12_lookAt_236 : decode cX12_lookAt 236 = .ok (.getfield 75, 3) := by decide +kernel
theorem dX12_lookAt_239 : decode cX12_lookAt 239 = .ok (.aload_n 0, 1) := by decide +kernel
theorem dX12_lookAt_240 : decode cX12_lookAt 240 = .ok (.getfield 50, 3) := by decide +kernel
theorem dX12_lookAt_243 : decode cX12_lookAt 243 = .ok (.iload_n 1, 1) := by decide +kernel
theorem dX12_lookAt_244 : decode cX12_lookAt 244 = .ok (.iaload, 1) := by decide +kernel
theorem dX12_lookAt_245 : decode cX12_lookAt 245 = .ok (.iaload, 1) := by decide +kernel
theorem dX12_lookAt_246 : decode cX12_lookAt 246 = .ok (.iadd, 1) := by decide +kernel
theorem dX12_lookAt_247 : decode cX12_lookAt 247 = .ok (.invokevirtual 560, 3) := by decide +kernel
theorem dX12_lookAt_250 : decode cX12_lookAt 250 = .ok (.ireturn, 1) := by decide +kernel
theorem dX12_lookAt_251 : decode cX12_lookAt 251 = .ok (.aload_n 0, 1) := by decide +kernel
theorem dX12_lookAt_252 : decode cX12_lookAt 252 = .ok (.aload_n 0, 1) := by decide +kernel
theorem dX12_lookAt_253 : decode cX12_lookAt 253 = .ok (.iload_n 1, 1) := by decide +kernel
theorem dX12_lookAt_254 : decode cX12_lookAt 254 = .ok (.invokevirtual 576, 3) := by decide +kernel
theorem dX12_lookAt_257 : decode cX12_lookAt 257 = .ok (.invokevirtual 560, 3) := by decide +kernel
theorem dX12_lookAt_260 : decode cX12_lookAt 260 = .ok (.ireturn, 1) := by decide +kernel
theorem dX12_lookAt_261 : decode cX12_lookAt 261 = .ok (.aload_n 0, 1) := by decide +kernel
theorem dX12_lookAt_262 : decode cX12_lookAt 262 = .ok (.aload_n 0, 1) := by decide +kernel
theorem dX12_lookAt_263 : decode cX12_lookAt 263 = .ok (.getfield 47, 3) := by decide +kernel
theorem dX12_lookAt_266 : decode cX12_lookAt 266 = .ok (.iload_n 1, 1) := by decide +kernel
theorem dX12_lookAt_267 : decode cX12_lookAt 267 = .ok (.iaload, 1) := by decide +kernel
theorem dX12_lookAt_268 : decode cX12_lookAt 268 = .ok (.invokevirtual 557, 3) := by decide +kernel
theorem dX12_lookAt_271 : decode cX12_lookAt 271 = .ok (.istore_n 2, 1) := by decide +kernel
theorem dX12_lookAt_272 : decode cX12_lookAt 272 = .ok (.aload_n 0, 1) := by decide +kernel
theorem dX12_lookAt_273 : decode cX12_lookAt 273 = .ok (.iload_n 2, 1) := by decide +kernel
theorem dX12_lookAt_274 : decode cX12_lookAt 274 = .ok (.invokestatic 531, 3) := by decide +kernel
theorem dX12_lookAt_277 : decode cX12_lookAt 277 = .ok (.bipush 11, 2) := by decide +kernel
theorem dX12_lookAt_279 : decode cX12_lookAt 279 = .ok (.aload_n 0, 1) := by decide +kernel
theorem dX12_lookAt_280 : decode cX12_lookAt 280 = .ok (.getfield 41, 3) := by decide +kernel
theorem dX12_lookAt_283 : decode cX12_lookAt 283 = .ok (.iload_n 1, 1) := by decide +kernel
theorem dX12_lookAt_284 : decode cX12_lookAt 284 = .ok (.iaload, 1) := by decide +kernel
theorem dX12_lookAt_285 : decode cX12_lookAt 285 = .ok (.invokevirtual 540, 3) := by decide +kernel
theorem dX12_lookAt_288 : decode cX12_lookAt 288 = .ok (.pop, 1) := by decide +kernel
theorem dX12_lookAt_289 : decode cX12_lookAt 289 = .ok (.aload_n 0, 1) := by decide +kernel
theorem dX12_lookAt_290 : decode cX12_lookAt 290 = .ok (.iconst 1, 1) := by decide +kernel
theorem dX12_lookAt_291 : decode cX12_lookAt 291 = .ok (.invokevirtual 560, 3) := by decide +kernel
theorem dX12_lookAt_294 : decode cX12_lookAt 294 = .ok (.ireturn, 1) := by decide +kernel
theorem dX12_lookAt_295 : decode cX12_lookAt 295 = .ok (.aload_n 0, 1) := by decide +kernel
theorem dX12_lookAt_296 : decode cX12_lookAt 296 = .ok (.aload_n 0, 1) := by decide +kernel
theorem dX12_lookAt_297 : decode cX12_lookAt 297 = .ok (.getfield 47, 3) := by decide +kernel
theorem dX12_lookAt_300 : decode cX12_lookAt 300 = .ok (.iload_n 1, 1) := by decide +kernel
theorem dX12_lookAt_301 : decode cX12_lookAt 301 = .ok (.iaload, 1) := by decide +kernel
theorem dX12_lookAt_302 : decode cX12_lookAt 302 = .ok (.invokevirtual 557, 3) := by decide +kernel
theorem dX12_lookAt_305 : decode cX12_lookAt 305 = .ok (.istore_n 2, 1) := by decide +kernel
theorem dX12_lookAt_306 : decode cX12_lookAt 306 = .ok (.aload_n 0, 1) := by decide +kernel
theorem dX12_lookAt_307 : decode cX12_lookAt 307 = .ok (.iload_n 2, 1) := by decide +kernel
theorem dX12_lookAt_308 : decode cX12_lookAt 308 = .ok (.invokestatic 528, 3) := by decide +kernel
theorem dX12_lookAt_311 : decode cX12_lookAt 311 = .ok (.bipush 11, 2) := by decide +kernel
theorem dX12_lookAt_313 : decode cX12_lookAt 313 = .ok (.aload_n 0, 1) := by decide +kernel
theorem dX12_lookAt_314 : decode cX12_lookAt 314 = .ok (.getfield 41, 3) := by decide +kernel
theorem dX12_lookAt_317 : decode cX12_lookAt 317 = .ok (.iload_n 1, 1) := by decide +kernel
theorem dX12_lookAt_318 : decode cX12_lookAt 318 = .ok (.iaload, 1) := by decide +kernel
theorem dX12_lookAt_319 : decode cX12_lookAt 319 = .ok (.invokevirtual 540, 3) := by decide +kernel
theorem dX12_lookAt_322 : decode cX12_lookAt 322 = .ok (.ifCond .ne 5, 3) := by decide +kernel
theorem dX12_lookAt_327 : decode cX12_lookAt 327 = .ok (.aload_n 0, 1) := by decide +kernel
theorem dX12_lookAt_328 : decode cX12_lookAt 328 = .ok (.iload_n 1, 1) := by decide +kernel
theorem dX12_lookAt_329 : decode cX12_lookAt 329 = .ok (.iload_n 2, 1) := by decide +kernel
theorem dX12_lookAt_330 : decode cX12_lookAt 330 = .ok (.bipush 10, 2) := by decide +kernel
theorem dX12_lookAt_332 : decode cX12_lookAt 332 = .ok (.isub, 1) := by decide +kernel
theorem dX12_lookAt_333 : decode cX12_lookAt 333 = .ok (.invokevirtual 570, 3) := by decide +kernel
theorem dX12_lookAt_336 : decode cX12_lookAt 336 = .ok (.ireturn, 1) := by decide +kernel
theorem dX12_lookAt_325 : decode cX12_lookAt 325 = .ok (.iconst 1, 1) := by decide +kernel
theorem dX12_lookAt_326 : decode cX12_lookAt 326 = .ok (.ireturn, 1) := by decide +kernel
theorem dX12_lookAt_337 : decode cX12_lookAt 337 = .ok (.aload_n 0, 1) := by decide +kernel
theorem dX12_lookAt_338 : decode cX12_lookAt 338 = .ok (.aload_n 0, 1) := by decide +kernel
theorem dX12_lookAt_339 : decode cX12_lookAt 339 = .ok (.iload_n 1, 1) := by decide +kernel
theorem dX12_lookAt_340 : decode cX12_lookAt 340 = .ok (.invokevirtual 579, 3) := by decide +kernel
theorem dX12_lookAt_343 : decode cX12_lookAt 343 = .ok (.invokevirtual 560, 3) := by decide +kernel
theorem dX12_lookAt_346 : decode cX12_lookAt 346 = .ok (.ireturn, 1) := by decide +kernel
theorem dX12_lookAt_347 : decode cX12_lookAt 347 = .ok (.aload_n 0, 1) := by decide +kernel
theorem dX12_lookAt_348 : decode cX12_lookAt 348 = .ok (.aload_n 0, 1) := by decide +kernel
theorem dX12_lookAt_349 : decode cX12_lookAt 349 = .ok (.getfield 47, 3) := by decide +kernel
theorem dX12_lookAt_352 : decode cX12_lookAt 352 = .ok (.iload_n 1, 1) := by decide +kernel
theorem dX12_lookAt_353 : decode cX12_lookAt 353 = .ok (.iaload, 1) := by decide +kernel
theorem dX12_lookAt_354 : decode cX12_lookAt 354 = .ok (.invokevirtual 548, 3) := by decide +kernel
theorem dX12_lookAt_357 : decode cX12_lookAt 357 = .ok (.istore_n 2, 1) := by decide +kernel
theorem dX12_lookAt_358 : decode cX12_lookAt 358 = .ok (.aload_n 0, 1) := by decide +kernel
theorem dX12_lookAt_359 : decode cX12_lookAt 359 = .ok (.getfield 62, 3) := by decide +kernel
theorem dX12_lookAt_362 : decode cX12_lookAt 362 = .ok (.aload_n 0, 1) := by decide +kernel
theorem dX12_lookAt_363 : decode cX12_lookAt 363 = .ok (.getfield 47, 3) := by decide +kernel
theorem dX12_lookAt_366 : decode cX12_lookAt 366 = .ok (.iload_n 1, 1) := by decide +kernel
theorem dX12_lookAt_367 : decode cX12_lookAt 367 = .ok (.iaload, 1) := by decide +kernel
theorem dX12_lookAt_368 : decode cX12_lookAt 368 = .ok (.iload_n 2, 1) := by decide +kernel
theorem dX12_lookAt_369 : decode cX12_lookAt 369 = .ok (.iastore, 1) := by decide +kernel
theorem dX12_lookAt_370 : decode cX12_lookAt 370 = .ok (.iload_n 2, 1) := by decide +kernel
theorem dX12_lookAt_371 : decode cX12_lookAt 371 = .ok (.ireturn, 1) := by decide +kernel
theorem dX12_lookAt_372 : decode cX12_lookAt 372 = .ok (.aload_n 0, 1) := by decide +kernel
theorem dX12_lookAt_373 : decode cX12_lookAt 373 = .ok (.iload_n 1, 1) := by decide +kernel
theorem dX12_lookAt_374 : decode cX12_lookAt 374 = .ok (.invokevirtual 582, 3) := by decide +kernel
theorem dX12_lookAt_377 : decode cX12_lookAt 377 = .ok (.ireturn, 1) := by decide +kernel
theorem dX12_lookAt_378 : decode cX12_lookAt 378 = .ok (.aload_n 0, 1) := by decide +kernel
theorem dX12_lookAt_379 : decode cX12_lookAt 379 = .ok (.iload_n 1, 1) := by decide +kernel
theorem dX12_lookAt_380 : decode cX12_lookAt 380 = .ok (.invokevirtual 585, 3) := by decide +kernel
theorem dX12_lookAt_383 : decode cX12_lookAt 383 = .ok (.ireturn, 1) := by decide +kernel
theorem dX12_lookAt_384 : decode cX12_lookAt 384 = .ok (.aload_n 0, 1) := by decide +kernel
theorem dX12_lookAt_385 : decode cX12_lookAt 385 = .ok (.iload_n 1, 1) := by decide +kernel
theorem dX12_lookAt_386 : decode cX12_lookAt 386 = .ok (.invokevirtual 588, 3) := by decide +kernel
theorem dX12_lookAt_389 : decode cX12_lookAt 389 = .ok (.ireturn, 1) := by decide +kernel
theorem dX12_lookAt_390 : decode cX12_lookAt 390 = .ok (.aload_n 0, 1) := by decide +kernel
theorem dX12_lookAt_391 : decode cX12_lookAt 391 = .ok (.aload_n 0, 1) := by decide +kernel
theorem dX12_lookAt_392 : decode cX12_lookAt 392 = .ok (.getfield 47, 3) := by decide +kernel
theorem dX12_lookAt_395 : decode cX12_lookAt 395 = .ok (.iload_n 1, 1) := by decide +kernel
theorem dX12_lookAt_396 : decode cX12_lookAt 396 = .ok (.iaload, 1) := by decide +kernel
theorem dX12_lookAt_397 : decode cX12_lookAt 397 = .ok (.invokevirtual 557, 3) := by decide +kernel
theorem dX12_lookAt_400 : decode cX12_lookAt 400 = .ok (.istore_n 2, 1) := by decide +kernel
theorem dX12_lookAt_401 : decode cX12_lookAt 401 = .ok (.aload_n 0, 1) := by decide +kernel
theorem dX12_lookAt_402 : decode cX12_lookAt 402 = .ok (.aload_n 0, 1) := by decide +kernel
theorem dX12_lookAt_403 : decode cX12_lookAt 403 = .ok (.iload_n 2, 1) := by decide +kernel
theorem dX12_lookAt_404 : decode cX12_lookAt 404 = .ok (.invokevirtual 525, 3) := by decide +kernel
theorem dX12_lookAt_407 : decode cX12_lookAt 407 = .ok (.bipush 11, 2) := by decide +kernel
theorem dX12_lookAt_409 : decode cX12_lookAt 409 = .ok (.aload_n 0, 1) := by decide +kernel
theorem dX12_lookAt_410 : decode cX12_lookAt 410 = .ok (.getfield 41, 3) := by decide +kernel
theorem dX12_lookAt_413 : decode cX12_lookAt 413 = .ok (.iload_n 1, 1) := by decide +kernel
theorem dX12_lookAt_414 : decode cX12_lookAt 414 = .ok (.iaload, 1) := by decide +kernel
theorem dX12_lookAt_415 : decode cX12_lookAt 415 = .ok (.invokevirtual 540, 3) := by decide +kernel
theorem dX12_lookAt_418 : decode cX12_lookAt 418 = .ok (.pop, 1) := by decide +kernel
theorem dX12_lookAt_419 : decode cX12_lookAt 419 = .ok (.aload_n 0, 1) := by decide +kernel
theorem dX12_lookAt_420 : decode cX12_lookAt 420 = .ok (.aload_n 0, 1) := by decide +kernel
theorem dX12_lookAt_421 : decode cX12_lookAt 421 = .ok (.aload_n 0, 1) := by decide +kernel
theorem dX12_lookAt_422 : decode cX12_lookAt 422 = .ok (.getfield 75, 3) := by decide +kernel
theorem dX12_lookAt_425 : decode cX12_lookAt 425 = .ok (.aload_n 0, 1) := by decide +kernel
theorem dX12_lookAt_426 : decode cX12_lookAt 426 = .ok (.getfield 50, 3) := by decide +kernel
theorem dX12_lookAt_429 : decode cX12_lookAt 429 = .ok (.iload_n 1, 1) := by decide +kernel
theorem dX12_lookAt_430 : decode cX12_lookAt 430 = .ok (.iaload, 1) := by decide +kernel
theorem dX12_lookAt_431 : decode cX12_lookAt 431 = .ok (.iaload, 1) := by decide +kernel
theorem dX12_lookAt_432 : decode cX12_lookAt 432 = .ok (.invokevirtual 525, 3) := by decide +kernel
theorem dX12_lookAt_435 : decode cX12_lookAt 435 = .ok (.bipush 11, 2) := by decide +kernel
theorem dX12_lookAt_437 : decode cX12_lookAt 437 = .ok (.aload_n 0, 1) := by decide +kernel
theorem dX12_lookAt_438 : decode cX12_lookAt 438 = .ok (.getfield 68, 3) := by decide +kernel
theorem dX12_lookAt_441 : decode cX12_lookAt 441 = .ok (.aload_n 0, 1) := by decide +kernel
theorem dX12_lookAt_442 : decode cX12_lookAt 442 = .ok (.getfield 50, 3) := by decide +kernel
theorem dX12_lookAt_445 : decode cX12_lookAt 445 = .ok (.iload_n 1, 1) := by decide +kernel
theorem dX12_lookAt_446 : decode cX12_lookAt 446 = .ok (.iaload, 1) := by decide +kernel
theorem dX12_lookAt_447 : decode cX12_lookAt 447 = .ok (.iaload, 1) := by decide +kernel
theorem dX12_lookAt_448 : decode cX12_lookAt 448 = .ok (.invokevirtual 540, 3) := by decide +kernel
theorem dX12_lookAt_451 : decode cX12_lookAt 451 = .ok (.pop, 1) := by decide +kernel
theorem dX12_lookAt_452 : decode cX12_lookAt 452 = .ok (.aload_n 0, 1) := by decide +kernel
theorem dX12_lookAt_453 : decode cX12_lookAt 453 = .ok (.aload_n 0, 1) := by decide +kernel
theorem dX12_lookAt_454 : decode cX12_lookAt 454 = .ok (.getfield 38, 3) := by decide +kernel
theorem dX12_lookAt_457 : decode cX12_lookAt 457 = .ok (.iload_n 1, 1) := by decide +kernel
theorem dX12_lookAt_458 : decode cX12_lookAt 458 = .ok (.iaload, 1) := by decide +kernel
theorem dX12_lookAt_459 : decode cX12_lookAt 459 = .ok (.bipush 21, 2) := by decide +kernel
theorem dX12_lookAt_461 : decode cX12_lookAt 461 = .ok (.if_icmp .ne 7, 3) := by decide +kernel
theorem dX12_lookAt_464 : decode cX12_lookAt 464 = .ok (.iconst 2, 1) := by decide +kernel
theorem dX12_lookAt_465 : decode cX12_lookAt 465 = .ok (.goto 14, 3) := by decide +kernel
theorem dX12_lookAt_479 : decode cX12_lookAt 479 = .ok (.invokevirtual 560, 3) := by decide +kernel
theorem dX12_lookAt_482 : decode cX12_lookAt 482 = .ok (.ireturn, 1) := by decide +kernel
theorem dX12_lookAt_468 : decode cX12_lookAt 468 = .ok (.aload_n 0, 1) := by decide +kernel
theorem dX12_lookAt_469 : decode cX12_lookAt 469 = .ok (.getfield 75, 3) := by decide +kernel
theorem dX12_lookAt_472 : decode cX12_lookAt 472 = .ok (.aload_n 0, 1) := by decide +kernel
theorem dX12_lookAt_473 : decode cX12_lookAt 473 = .ok (.getfield 50, 3) := by decide +kernel
theorem dX12_lookAt_476 : decode cX12_lookAt 476 = .ok (.iload_n 1, 1) := by decide +kernel
theorem dX12_lookAt_477 : decode cX12_lookAt 477 = .ok (.iaload, 1) := by decide +kernel
theorem dX12_lookAt_478 : decode cX12_lookAt 478 = .ok (.iaload, 1) := by decide +kernel
theorem dX12_lookAt_483 : decode cX12_lookAt 483 = .ok (.aload_n 0, 1) := by decide +kernel
theorem dX12_lookAt_484 : decode cX12_lookAt 484 = .ok (.iload_n 1, 1) := by decide +kernel
theorem dX12_lookAt_485 : decode cX12_lookAt 485 = .ok (.invokevirtual 591, 3) := by decide +kernel
theorem dX12_lookAt_488 : decode cX12_lookAt 488 = .ok (.ireturn, 1) := by decide +kernel
theorem dX12_lookAt_7 : decode cX12_lookAt 7 = .ok (.iconst 1, 1) := by decide +kernel
theorem dX12_lookAt_8 : decode cX12_lookAt 8 = .ok (.ireturn, 1) := by decide +kernel
theorem hV_X12_named : yX12_named.cls = RX12 ∧ yX12_named.cls ≠ "java/lang/invoke/MethodHandle" ∧ yX12_named.cls ≠ "java/lang/invoke/VarHandle" ∧ (parseMethodDescriptor yX12_named.desc).map (fun d => d.parameters.length) = some 2 := by decide +kernel
theorem hV_X12_lookCall : yX12_lookCall.cls = RX12 ∧ yX12_lookCall.cls ≠ "java/lang/invoke/MethodHandle" ∧ yX12_lookCall.cls ≠ "java/lang/invoke/VarHandle" ∧ (parseMethodDescriptor yX12_lookCall.desc).map (fun d => d.parameters.length) = some 2 := by decide +kernel
theorem hV_X12_fielded : yX12_fielded.cls = RX12 ∧ yX12_fielded.cls ≠ "java/lang/invoke/MethodHandle" ∧ yX12_fielded.cls ≠ "java/lang/invoke/VarHandle" ∧ (parseMethodDescriptor yX12_fielded.desc).map (fun d => d.parameters.length) = some 1 := by decide +kernel
theorem hV_X12_indexed : yX12_indexed.cls = RX12 ∧ yX12_indexed.cls ≠ "java/lang/invoke/MethodHandle" ∧ yX12_indexed.cls ≠ "java/lang/invoke/VarHandle" ∧ (parseMethodDescriptor yX12_indexed.desc).map (fun d => d.parameters.length) = some 1 := by decide +kernel
theorem hV_X12_lookFront : yX12_lookFront.cls = RX12 ∧ yX12_lookFront.cls ≠ "java/lang/invoke/MethodHandle" ∧ yX12_lookFront.cls ≠ "java/lang/invoke/VarHandle" ∧ (parseMethodDescriptor yX12_lookFront.desc).map (fun d => d.parameters.length) = some 1 := by decide +kernel
theorem hV_X12_two : yX12_two.cls = RX12 ∧ yX12_two.cls ≠ "java/lang/invoke/MethodHandle" ∧ yX12_two.cls ≠ "java/lang/invoke/VarHandle" ∧ (parseMethodDescriptor yX12_two.desc).map (fun d => d.parameters.length) = some 1 := by decide +kernel
theorem hV_X12_joined : yX12_joined.cls = RX12 ∧ yX12_joined.cls ≠ "java/lang/invoke/MethodHandle" ∧ yX12_joined.cls ≠ "java/lang/invoke/VarHandle" ∧ (parseMethodDescriptor yX12_joined.desc).map (fun d => d.parameters.length) = some 1 := by decide +kernel
theorem hV_X12_chosen : yX12_chosen.cls = RX12 ∧ yX12_chosen.cls ≠ "java/lang/invoke/MethodHandle" ∧ yX12_chosen.cls ≠ "java/lang/invoke/VarHandle" ∧ (parseMethodDescriptor yX12_chosen.desc).map (fun d => d.parameters.length) = some 1 := by decide +kernel
set_option maxHeartbeats 20000000 in
set_option maxRecDepth 100000 in
/-- lookAt(n) -/
theorem L_lookAt (l : Launch) (G : pT) (h0 : Nat) (a : Nat → Nat) (F : Nat → Int32) (B : Nat → Nat → Int32) (n9 : Nat) (z9 : Nat) (fa : Nat) (sc : Nat) (k9 : Nat) (nd : Nat) (T : Nat) (nm : Nat) (wr : Nat) (lz : Nat) (dc : Nat) (fd : Nat) (md : Nat) (pr : Nat) (bk : Nat) (gh : Nat → Nat → Nat) (dn : Int32) (wt : Int32) (wf : Int32) (nc : Nat → Int32) (ty : Nat → Int32) (mn : Nat → Int32) (vn : Nat → Int32) (vt : Nat → Int32) (hst : St B gh nd T nm wr lz dc fd md pr bk) (hnm : nd ≤ 12000 ∧ T ≤ 5000 ∧ wr ≤ 5000 ∧ 7 ≤ dc ∧ dc ≤ 37 ∧ fd ≤ 620 ∧ md ≤ 920 ∧ pr ≤ 5000) (hn9 : n9 < nd) (hz : gh 1 n9 < z9) (hfa : fa ≤ 15) (hsc : sc ≤ 30) (hk9 : 7 ≤ k9 ∧ k9 < dc) (hnc : ∀ i : Nat, i < nd → ¬ B 9 i = 44 → nc i = B 14 i) (hmn : mnN B nd mn) (hvt : ∀ i : Nat, i < sc → tyOK dc (vt i)) (hkc : kcl 1 (B 9 n9) = true) (ihA : PlookAt l G (z9 - 1)) (ihL : Plook l G (z9 - 1)) (ihW : Pwants l G (z9 - 1)) : PM l G pX0 yX12_lookAt cX12_lookAt 3 (some .int) ({ frames := (4 * z9 + 10), cells := 0, slots := 0, locals := (160 * z9 + 1400) }) [.ref h0, .int (nI n9)] (mW G h0 a (upd (upd (upd (upd (upd (upd (upd (upd F 15 (nI fa)) 44 (nI fd)) 49 (nI md)) 73 (nI sc)) 74 (nI k9)) 77 dn) 78 wt) 79 wf) (updA (updA (updA (updA (updA B 14 nc) 17 ty) 18 mn) 48 vn) 49 vt)) (fun (v : Option Value) (u : Nat × Nat × Int32 × Int32 × Int32 × Int32 × (Nat → Int32) × (Nat → Int32)) => v = some (.int (nI u.1)) ∧ (fa ≤ u.2.1) ∧ (u.2.1 ≤ 15) ∧ (TyC dc u.1) ∧ (u.1 ≤ 2050) ∧ (ChE B nd n9 ty u.2.2.2.2.2.2.1 mn u.2.2.2.2.2.2.2) ∧ (mnN B nd u.2.2.2.2.2.2.2) ∧ (If (u.2.1 = 0) (Typ0 B dc fd md nd u.2.2.2.2.2.2.1 u.2.2.2.2.2.2.2 vt sc k9 n9 (nI u.1)))) (fun u => (mW G h0 a (upd (upd (upd (upd (upd (upd (upd (upd (upd F 15 (nI u.2.1)) 16 u.2.2.1) 44 (nI fd)) 49 (nI md)) 73 (nI sc)) 74 (nI k9)) 77 u.2.2.2.1) 78 u.2.2.2.2.1) 79 u.2.2.2.2.2.1) (updA (updA (updA (updA (updA B 14 nc) 17 u.2.2.2.2.2.2.1) 18 u.2.2.2.2.2.2.2) 48 vn) 49 vt))) := by
  intro sz
  refine Met.ofW (cc := cX12_lookAt) (maxL := 3) (ret := (some .int)) (by decide) rfl ?_
  intro p e s m args below meth c s₁ B9 hml hv
  obtain ⟨rfl, hsz, hP, hD0, hE, hX⟩ := hv
  have hx := B9.exec
  have hb := B9.bytes
  have hr := B9.returns
  have hts := atoms_spec (ws := Cond.code yX12_lookAt cX12_lookAt 3 (some .int) :: pw) B9.pre
  have hq : ∀ w ∈ pw, w.before _ s = true := fun w h => hts w (List.mem_cons_of_mem _ h)
  have hown : s.vm.findClass RX12 = some m.cls := findClass_of_methodNamed B9.named
  have hlocks := B9.notSynchronized
  subst hsz
  have hD := hD0.self (sz := s.heap.size)
  have hA : ∀ q : Nat, s.heap.size ≤ q → va_A (mW G h0 a (upd (upd (upd (upd (upd (upd (upd (upd F 15 (nI fa)) 44 (nI fd)) 49 (nI md)) 73 (nI sc)) 74 (nI k9)) 77 dn) 78 wt) 79 wf) (updA (updA (updA (updA (updA B 14 nc) 17 ty) 18 mn) 48 vn) 49 vt)) s.heap.size q := fun q h => Or.inr h
  have hP : va_P G.1 pCl (mW G h0 a (upd (upd (upd (upd (upd (upd (upd (upd F 15 (nI fa)) 44 (nI fd)) 49 (nI md)) 73 (nI sc)) 74 (nI k9)) 77 dn) 78 wt) 79 wf) (updA (updA (updA (updA (updA B 14 nc) 17 ty) 18 mn) 48 vn) 49 vt)) s.heap := hP
  generalize va_A (mW G h0 a (upd (upd (upd (upd (upd (upd (upd (upd F 15 (nI fa)) 44 (nI fd)) 49 (nI md)) 73 (nI sc)) 74 (nI k9)) 77 dn) 78 wt) 79 wf) (updA (updA (updA (updA (updA B 14 nc) 17 ty) 18 mn) 48 vn) 49 vt)) s.heap.size = A at hD hE hA ⊢
  have hS : va_S A s.heap s.heap [] := va_S.rf
  have hl := lv_entry ([.ref h0, .int (nI n9)]) (n := 3) (Nat.le_of_ble_eq_true rfl)
  rw [lg_entry_eq]
  generalize (lg_sl ([.ref h0, .int (nI n9)]) ++ List.replicate (3 - (lg_sl ([.ref h0, .int (nI n9)])).length) Slot.unset).toArray = ls at hl ⊢
  have hl : lv_has ls 3 [(0, .ref h0), (1, .int (nI n9))] := hl
  have hF := hst.1
  have hPS := hst.2.1
  have hBI := hst.2.2.1
  have hRK := hst.2.2.2.1
  have hTY := hst.2.2.2.2.1
  have hNW := hst.2.2.2.2.2.1
  have hTK := hst.2.2.2.2.2.2
  refine lv_aload_n hx hb dX12_lookAt_0 rfl (lv_at hl 0 rfl) ?_
  refine r_get (v := .int (nI fa)) hx hb hown hq hE hP 15 350 tFX12_15 (by decide) pw_1594 rfl dX12_lookAt_1 ?_
  refine lv_if_le (tgt := 9) hx hb dX12_lookAt_4 (by decide) (fun c1 => ?_) (fun c1 => ?_)
  · have n2 : fa ≤ 0 := (nI_leI (a := fa) (b := 0) (by omega) (by omega)).mp c1
    refine lv_aload_n hx hb dX12_lookAt_9 rfl (lv_at hl 0 rfl) ?_
    refine r_get (v := .ref (a 9)) hx hb hown hq hE hP 17 38 tFX12_17 (by decide) pw_1439 rfl dX12_lookAt_10 ?_
    refine lv_iload_n hx hb dX12_lookAt_13 rfl (lv_at hl 1 rfl) ?_
    refine r_ldi (f := (B 9)) (j := n9) hx hb hE hP 9 (ma_9 G a _) rfl (by omega) (by decide) dX12_lookAt_14 ?_
    obtain ⟨kk, ek, k1, k44, hsl⟩ := Fs2.knd hF hn9
    obtain ⟨kl, kr⟩ := kcl1 hkc ek k44
    clear hsl
    rcases (show kk = 1 ∨ kk = 2 ∨ kk = 3 ∨ kk = 4 ∨ kk = 5 ∨ kk = 6 ∨ kk = 7 ∨ kk = 8 ∨ kk = 9 ∨ kk = 10 ∨ kk = 11 ∨ kk = 12 ∨ kk = 13 ∨ kk = 14 ∨ kk = 15 ∨ kk = 16 ∨ kk = 17 ∨ kk = 18 ∨ kk = 19 ∨ kk = 20 ∨ kk = 21 ∨ kk = 22 ∨ kk = 23 by omega) with rfl | rfl | rfl | rfl | rfl | rfl | rfl | rfl | rfl | rfl | rfl | rfl | rfl | rfl | rfl | rfl | rfl | rfl | rfl | rfl | rfl | rfl | rfl
    · refine lv_topi (fun x3 e4 => ?_)
      obtain rfl : x3 = 1 := e4.trans ek
      refine lv_tableIn (tgt := 116) (off := 101) hx hb dX12_lookAt_15 (by decide) (by decide) (by decide) (by decide) ?_
      refine lv_aload_n hx hb dX12_lookAt_116 rfl (lv_at hl 0 rfl) ?_
      refine lv_iconst (v := 1) hx hb dX12_lookAt_117 (by decide) ?_
      have hP : va_P G.1 pCl (mW G h0 a (upd (upd (upd (upd (upd (upd (upd (upd (upd F 15 (nI fa)) 44 (nI fd)) 49 (nI md)) 73 (nI sc)) 74 (nI k9)) 77 dn) 78 wt) 79 wf) 77 dn) (updA (updA (updA (updA (updA B 14 nc) 17 ty) 18 mn) 48 vn) 49 vt)) _ := hP
      have hD : va_D A (mW G h0 a (upd (upd (upd (upd (upd (upd (upd (upd (upd F 15 (nI fa)) 44 (nI fd)) 49 (nI md)) 73 (nI sc)) 74 (nI k9)) 77 dn) 78 wt) 79 wf) 77 dn) (updA (updA (updA (updA (updA B 14 nc) 17 ty) 18 mn) 48 vn) 49 vt)) := mW_D hD
      refine pc_V0 (G := G) (As := [.int 1]) (rest := []) hx hb hml hown hq hE hX pX0_al hP hD hS hA hl.1 (R_behind l G h0 a (upd (upd (upd (upd (upd (upd (upd (upd F 15 (nI fa)) 44 (nI fd)) 49 (nI md)) 73 (nI sc)) 74 (nI k9)) 77 dn) 78 wt) 79 wf) (updA (updA (updA (updA (updA B 14 nc) 17 ty) 18 mn) 48 vn) 49 vt) 1 dn) (gV pw_1832 pw_1833 pw_1834 pw_1523 pw_1804) hV_X12_behind 0 9 rfl rfl rfl rfl (Nat.le_of_ble_eq_true rfl) dX12_lookAt_118 ⟨Nat.le_of_ble_eq_true rfl, Nat.le_of_ble_eq_true rfl⟩ ⟨(by show 2 + 1 ≤ (4 * z9 + 10); omega), (by show 8 + (2 + 11) + 60 ≤ (160 * z9 + 1400); omega)⟩ (fun v7 u5 H locs hw6 hP hD hS => ?_)
      obtain rfl : v7 = some (.int 1) := hw6
      have hP : va_P G.1 pCl (mW G h0 a (upd (upd (upd (upd (upd (upd (upd (upd F 15 (nI fa)) 44 (nI fd)) 49 (nI md)) 73 (nI sc)) 74 (nI k9)) 77 dn) 78 dn) 79 dn) (updA (updA (updA (updA (updA B 14 nc) 17 ty) 18 mn) 48 vn) 49 vt)) _ := mW_to (F := F) (l1 := [(15, (nI fa)), (44, (nI fd)), (49, (nI md)), (73, (nI sc)), (74, (nI k9)), (77, dn), (78, wt), (79, wf), (77, dn), (78, dn), (79, dn)]) (l2 := [(15, (nI fa)), (44, (nI fd)), (49, (nI md)), (73, (nI sc)), (74, (nI k9)), (77, dn), (78, dn), (79, dn)]) (V := [(nI fa), (nI fd), (nI md), (nI sc), (nI k9), dn, dn, dn, dn, dn, dn, (nI fa), (nI fd), (nI md), (nI sc), (nI k9), dn, dn, dn]) rfl rfl rfl hP
      have hD : va_D A (mW G h0 a (upd (upd (upd (upd (upd (upd (upd (upd F 15 (nI fa)) 44 (nI fd)) 49 (nI md)) 73 (nI sc)) 74 (nI k9)) 77 dn) 78 dn) 79 dn) (updA (updA (updA (updA (updA B 14 nc) 17 ty) 18 mn) 48 vn) 49 vt)) := mW_D hD
      refine W.widen (k := 0) (n := 0) (Nat.le_of_ble_eq_true rfl) (Nat.le_of_ble_eq_true rfl) ?_
      refine W.eq (g2 := F0 m 121 ls [.int 1]) rfl ?_
      have hz8 : fa ≤ fa := (by omega)
      have hz9 : fa ≤ 15 := (by omega)
      have hz10 : TyC dc 1 := (by unfold TyC; omega)
      have hz11 : 1 ≤ 2050 := (by omega)
      have hz12 : ChE B nd n9 ty ty mn mn := ChE.rfl
      have hz13 : mnN B nd mn := hmn
      have hz14 : If (fa = 0) (Typ0 B dc fd md nd ty mn vt sc k9 n9 (nI 1)) := (fun e => Typ0.of (kids0 (kk := 1) ek (by decide) (by decide)) (LT1 ek))
      have hP : va_P G.1 pCl (mW G h0 a (upd (upd (upd (upd (upd (upd (upd (upd (upd F 15 (nI fa)) 16 (F 16)) 44 (nI fd)) 49 (nI md)) 73 (nI sc)) 74 (nI k9)) 77 dn) 78 dn) 79 dn) (updA (updA (updA (updA (updA B 14 nc) 17 ty) 18 mn) 48 vn) 49 vt)) _ := mW_to (F := F) (l1 := [(15, (nI fa)), (44, (nI fd)), (49, (nI md)), (73, (nI sc)), (74, (nI k9)), (77, dn), (78, dn), (79, dn)]) (l2 := [(15, (nI fa)), (16, (F 16)), (44, (nI fd)), (49, (nI md)), (73, (nI sc)), (74, (nI k9)), (77, dn), (78, dn), (79, dn)]) (V := [(nI fa), (nI fd), (nI md), (nI sc), (nI k9), dn, dn, dn, (nI fa), (F 16), (nI fd), (nI md), (nI sc), (nI k9), dn, dn, dn]) rfl rfl rfl hP
      have hD : va_D A (mW G h0 a (upd (upd (upd (upd (upd (upd (upd (upd (upd F 15 (nI fa)) 16 (F 16)) 44 (nI fd)) 49 (nI md)) 73 (nI sc)) 74 (nI k9)) 77 dn) 78 dn) 79 dn) (updA (updA (updA (updA (updA B 14 nc) 17 ty) 18 mn) 48 vn) 49 vt)) := mW_D hD
      exact W.iret (v := 1) hx hb hr (fun t9 ht9 hW9 => ⟨⟨_, (1, fa, (F 16), dn, dn, dn, ty, mn), rfl, ⟨rfl, hz8, hz9, hz10, hz11, hz12, hz13, hz14⟩, by rw [ht9]; exact hP, hD⟩, hS.F ht9⟩) hS.2.2 dX12_lookAt_121
    · refine lv_topi (fun x15 e16 => ?_)
      obtain rfl : x15 = 2 := e16.trans ek
      refine lv_tableIn (tgt := 122) (off := 107) hx hb dX12_lookAt_15 (by decide) (by decide) (by decide) (by decide) ?_
      refine lv_aload_n hx hb dX12_lookAt_122 rfl (lv_at hl 0 rfl) ?_
      refine lv_aload_n hx hb dX12_lookAt_123 rfl (lv_at hl 0 rfl) ?_
      refine r_get (v := .int dn) hx hb hown hq hE hP 77 544 tFX12_77 (by decide) pw_1796 rfl dX12_lookAt_124 ?_
      refine r_put (v := dn) (ty := .int) hx hb hown hq hE hP hD hS 78 551 tFX12_78 (by decide) pw_1805 (by decide) rfl rfl (ms_78 a _ _) dX12_lookAt_127 (fun H locs hP hD hS => ?_)
      refine lv_aload_n hx hb dX12_lookAt_130 rfl (lv_at hl 0 rfl) ?_
      refine lv_iconst (v := (-1)) hx hb dX12_lookAt_131 (by decide) ?_
      refine r_put (v := (-1)) (ty := .int) hx hb hown hq hE hP hD hS 79 554 tFX12_79 (by decide) pw_1806 (by decide) rfl rfl (ms_79 a _ _) dX12_lookAt_132 (fun H locs hP hD hS => ?_)
      refine lv_iconst (v := 2) hx hb dX12_lookAt_135 (by decide) ?_
      have hz17 : fa ≤ fa := (by omega)
      have hz18 : fa ≤ 15 := (by omega)
      have hz19 : TyC dc 2 := (by unfold TyC; omega)
      have hz20 : 2 ≤ 2050 := (by omega)
      have hz21 : ChE B nd n9 ty ty mn mn := ChE.rfl
      have hz22 : mnN B nd mn := hmn
      have hz23 : If (fa = 0) (Typ0 B dc fd md nd ty mn vt sc k9 n9 (nI 2)) := (fun e => Typ0.of (kids0 (kk := 2) ek (by decide) (by decide)) (LT2 ek))
      have hP : va_P G.1 pCl (mW G h0 a (upd (upd (upd (upd (upd (upd (upd (upd (upd F 15 (nI fa)) 16 (F 16)) 44 (nI fd)) 49 (nI md)) 73 (nI sc)) 74 (nI k9)) 77 dn) 78 dn) 79 ((-1) : Int32)) (updA (updA (updA (updA (updA B 14 nc) 17 ty) 18 mn) 48 vn) 49 vt)) _ := hP
      have hD : va_D A (mW G h0 a (upd (upd (upd (upd (upd (upd (upd (upd (upd F 15 (nI fa)) 16 (F 16)) 44 (nI fd)) 49 (nI md)) 73 (nI sc)) 74 (nI k9)) 77 dn) 78 dn) 79 ((-1) : Int32)) (updA (updA (updA (updA (updA B 14 nc) 17 ty) 18 mn) 48 vn) 49 vt)) := mW_D hD
      exact W.iret (v := 2) hx hb hr (fun t9 ht9 hW9 => ⟨⟨_, (2, fa, (F 16), dn, dn, ((-1) : Int32), ty, mn), rfl, ⟨rfl, hz17, hz18, hz19, hz20, hz21, hz22, hz23⟩, by rw [ht9]; exact hP, hD⟩, hS.F ht9⟩) hS.2.2 dX12_lookAt_136
    · refine lv_topi (fun x24 e25 => ?_)
      obtain rfl : x24 = 3 := e25.trans ek
      refine lv_tableIn (tgt := 137) (off := 122) hx hb dX12_lookAt_15 (by decide) (by decide) (by decide) (by decide) ?_
      refine lv_aload_n hx hb dX12_lookAt_137 rfl (lv_at hl 0 rfl) ?_
      refine lv_iconst (v := (-1)) hx hb dX12_lookAt_138 (by decide) ?_
      refine r_put (v := (-1)) (ty := .int) hx hb hown hq hE hP hD hS 78 551 tFX12_78 (by decide) pw_1805 (by decide) rfl rfl (ms_78 a _ _) dX12_lookAt_139 (fun H locs hP hD hS => ?_)
      refine lv_aload_n hx hb dX12_lookAt_142 rfl (lv_at hl 0 rfl) ?_
      refine lv_aload_n hx hb dX12_lookAt_143 rfl (lv_at hl 0 rfl) ?_
      refine r_get (v := .int dn) hx hb hown hq hE hP 77 544 tFX12_77 (by decide) pw_1796 rfl dX12_lookAt_144 ?_
      refine r_put (v := dn) (ty := .int) hx hb hown hq hE hP hD hS 79 554 tFX12_79 (by decide) pw_1806 (by decide) rfl rfl (ms_79 a _ _) dX12_lookAt_147 (fun H locs hP hD hS => ?_)
      refine lv_iconst (v := 2) hx hb dX12_lookAt_150 (by decide) ?_
      have hz26 : fa ≤ fa := (by omega)
      have hz27 : fa ≤ 15 := (by omega)
      have hz28 : TyC dc 2 := (by unfold TyC; omega)
      have hz29 : 2 ≤ 2050 := (by omega)
      have hz30 : ChE B nd n9 ty ty mn mn := ChE.rfl
      have hz31 : mnN B nd mn := hmn
      have hz32 : If (fa = 0) (Typ0 B dc fd md nd ty mn vt sc k9 n9 (nI 2)) := (fun e => Typ0.of (kids0 (kk := 3) ek (by decide) (by decide)) (LT3 ek))
      have hP : va_P G.1 pCl (mW G h0 a (upd (upd (upd (upd (upd (upd (upd (upd (upd F 15 (nI fa)) 16 (F 16)) 44 (nI fd)) 49 (nI md)) 73 (nI sc)) 74 (nI k9)) 77 dn) 78 ((-1) : Int32)) 79 dn) (updA (updA (updA (updA (updA B 14 nc) 17 ty) 18 mn) 48 vn) 49 vt)) _ := hP
      have hD : va_D A (mW G h0 a (upd (upd (upd (upd (upd (upd (upd (upd (upd F 15 (nI fa)) 16 (F 16)) 44 (nI fd)) 49 (nI md)) 73 (nI sc)) 74 (nI k9)) 77 dn) 78 ((-1) : Int32)) 79 dn) (updA (updA (updA (updA (updA B 14 nc) 17 ty) 18 mn) 48 vn) 49 vt)) := mW_D hD
      exact W.iret (v := 2) hx hb hr (fun t9 ht9 hW9 => ⟨⟨_, (2, fa, (F 16), dn, ((-1) : Int32), dn, ty, mn), rfl, ⟨rfl, hz26, hz27, hz28, hz29, hz30, hz31, hz32⟩, by rw [ht9]; exact hP, hD⟩, hS.F ht9⟩) hS.2.2 dX12_lookAt_151
    · refine lv_topi (fun x33 e34 => ?_)
      obtain rfl : x33 = 4 := e34.trans ek
      refine lv_tableIn (tgt := 152) (off := 137) hx hb dX12_lookAt_15 (by decide) (by decide) (by decide) (by decide) ?_
      refine lv_aload_n hx hb dX12_lookAt_152 rfl (lv_at hl 0 rfl) ?_
      refine lv_iconst (v := 3) hx hb dX12_lookAt_153 (by decide) ?_
      have hP : va_P G.1 pCl (mW G h0 a (upd (upd (upd (upd (upd (upd (upd (upd (upd F 15 (nI fa)) 44 (nI fd)) 49 (nI md)) 73 (nI sc)) 74 (nI k9)) 77 dn) 78 wt) 79 wf) 77 dn) (updA (updA (updA (updA (updA B 14 nc) 17 ty) 18 mn) 48 vn) 49 vt)) _ := hP
      have hD : va_D A (mW G h0 a (upd (upd (upd (upd (upd (upd (upd (upd (upd F 15 (nI fa)) 44 (nI fd)) 49 (nI md)) 73 (nI sc)) 74 (nI k9)) 77 dn) 78 wt) 79 wf) 77 dn) (updA (updA (updA (updA (updA B 14 nc) 17 ty) 18 mn) 48 vn) 49 vt)) := mW_D hD
      refine pc_V0 (G := G) (As := [.int 3]) (rest := []) hx hb hml hown hq hE hX pX0_al hP hD hS hA hl.1 (R_behind l G h0 a (upd (upd (upd (upd (upd (upd (upd (upd F 15 (nI fa)) 44 (nI fd)) 49 (nI md)) 73 (nI sc)) 74 (nI k9)) 77 dn) 78 wt) 79 wf) (updA (updA (updA (updA (updA B 14 nc) 17 ty) 18 mn) 48 vn) 49 vt) 3 dn) (gV pw_1832 pw_1833 pw_1834 pw_1523 pw_1804) hV_X12_behind 0 9 rfl rfl rfl rfl (Nat.le_of_ble_eq_true rfl) dX12_lookAt_154 ⟨Nat.le_of_ble_eq_true rfl, Nat.le_of_ble_eq_true rfl⟩ ⟨(by show 2 + 1 ≤ (4 * z9 + 10); omega), (by show 8 + (2 + 11) + 60 ≤ (160 * z9 + 1400); omega)⟩ (fun v37 u35 H locs hw36 hP hD hS => ?_)
      obtain rfl : v37 = some (.int 3) := hw36
      have hP : va_P G.1 pCl (mW G h0 a (upd (upd (upd (upd (upd (upd (upd (upd F 15 (nI fa)) 44 (nI fd)) 49 (nI md)) 73 (nI sc)) 74 (nI k9)) 77 dn) 78 dn) 79 dn) (updA (updA (updA (updA (updA B 14 nc) 17 ty) 18 mn) 48 vn) 49 vt)) _ := mW_to (F := F) (l1 := [(15, (nI fa)), (44, (nI fd)), (49, (nI md)), (73, (nI sc)), (74, (nI k9)), (77, dn), (78, wt), (79, wf), (77, dn), (78, dn), (79, dn)]) (l2 := [(15, (nI fa)), (44, (nI fd)), (49, (nI md)), (73, (nI sc)), (74, (nI k9)), (77, dn), (78, dn), (79, dn)]) (V := [(nI fa), (nI fd), (nI md), (nI sc), (nI k9), dn, dn, dn, dn, dn, dn, (nI fa), (nI fd), (nI md), (nI sc), (nI k9), dn, dn, dn]) rfl rfl rfl hP
      have hD : va_D A (mW G h0 a (upd (upd (upd (upd (upd (upd (upd (upd F 15 (nI fa)) 44 (nI fd)) 49 (nI md)) 73 (nI sc)) 74 (nI k9)) 77 dn) 78 dn) 79 dn) (updA (updA (updA (updA (updA B 14 nc) 17 ty) 18 mn) 48 vn) 49 vt)) := mW_D hD
      refine W.widen (k := 0) (n := 0) (Nat.le_of_ble_eq_true rfl) (Nat.le_of_ble_eq_true rfl) ?_
      refine W.eq (g2 := F0 m 157 ls [.int 3]) rfl ?_
      have hz38 : fa ≤ fa := (by omega)
      have hz39 : fa ≤ 15 := (by omega)
      have hz40 : TyC dc 3 := (by unfold TyC; omega)
      have hz41 : 3 ≤ 2050 := (by omega)
      have hz42 : ChE B nd n9 ty ty mn mn := ChE.rfl
      have hz43 : mnN B nd mn := hmn
      have hz44 : If (fa = 0) (Typ0 B dc fd md nd ty mn vt sc k9 n9 (nI 3)) := (fun e => Typ0.of (kids0 (kk := 4) ek (by decide) (by decide)) (LT4 ek))
      have hP : va_P G.1 pCl (mW G h0 a (upd (upd (upd (upd (upd (upd (upd (upd (upd F 15 (nI fa)) 16 (F 16)) 44 (nI fd)) 49 (nI md)) 73 (nI sc)) 74 (nI k9)) 77 dn) 78 dn) 79 dn) (updA (updA (updA (updA (updA B 14 nc) 17 ty) 18 mn) 48 vn) 49 vt)) _ := mW_to (F := F) (l1 := [(15, (nI fa)), (44, (nI fd)), (49, (nI md)), (73, (nI sc)), (74, (nI k9)), (77, dn), (78, dn), (79, dn)]) (l2 := [(15, (nI fa)), (16, (F 16)), (44, (nI fd)), (49, (nI md)), (73, (nI sc)), (74, (nI k9)), (77, dn), (78, dn), (79, dn)]) (V := [(nI fa), (nI fd), (nI md), (nI sc), (nI k9), dn, dn, dn, (nI fa), (F 16), (nI fd), (nI md), (nI sc), (nI k9), dn, dn, dn]) rfl rfl rfl hP
      have hD : va_D A (mW G h0 a (upd (upd (upd (upd (upd (upd (upd (upd (upd F 15 (nI fa)) 16 (F 16)) 44 (nI fd)) 49 (nI md)) 73 (nI sc)) 74 (nI k9)) 77 dn) 78 dn) 79 dn) (updA (updA (updA (updA (updA B 14 nc) 17 ty) 18 mn) 48 vn) 49 vt)) := mW_D hD
      exact W.iret (v := 3) hx hb hr (fun t9 ht9 hW9 => ⟨⟨_, (3, fa, (F 16), dn, dn, dn, ty, mn), rfl, ⟨rfl, hz38, hz39, hz40, hz41, hz42, hz43, hz44⟩, by rw [ht9]; exact hP, hD⟩, hS.F ht9⟩) hS.2.2 dX12_lookAt_157
    · refine lv_topi (fun x45 e46 => ?_)
      obtain rfl : x45 = 5 := e46.trans ek
      refine lv_tableIn (tgt := 158) (off := 143) hx hb dX12_lookAt_15 (by decide) (by decide) (by decide) (by decide) ?_
      refine lv_aload_n hx hb dX12_lookAt_158 rfl (lv_at hl 0 rfl) ?_
      refine lv_bipush (v := 10) hx hb dX12_lookAt_159 (by decide) ?_
      refine lv_aload_n hx hb dX12_lookAt_161 rfl (lv_at hl 0 rfl) ?_
      refine r_get (v := .int (nI k9)) hx hb hown hq hE hP 74 563 tFX12_74 (by decide) pw_1807 rfl dX12_lookAt_162 ?_
      refine lv_iadd hx hb dX12_lookAt_165 ?_
      refine lv_topi (fun x47 e48 => ?_)
      obtain rfl : x47 = nI (10 + k9) := e48.trans (nI_add (10) (k9))
      have hP : va_P G.1 pCl (mW G h0 a (upd (upd (upd (upd (upd (upd (upd (upd (upd F 15 (nI fa)) 44 (nI fd)) 49 (nI md)) 73 (nI sc)) 74 (nI k9)) 77 dn) 78 wt) 79 wf) 77 dn) (updA (updA (updA (updA (updA B 14 nc) 17 ty) 18 mn) 48 vn) 49 vt)) _ := hP
      have hD : va_D A (mW G h0 a (upd (upd (upd (upd (upd (upd (upd (upd (upd F 15 (nI fa)) 44 (nI fd)) 49 (nI md)) 73 (nI sc)) 74 (nI k9)) 77 dn) 78 wt) 79 wf) 77 dn) (updA (updA (updA (updA (updA B 14 nc) 17 ty) 18 mn) 48 vn) 49 vt)) := mW_D hD
      refine pc_V0 (G := G) (As := [.int (nI (10 + k9))]) (rest := []) hx hb hml hown hq hE hX pX0_al hP hD hS hA hl.1 (R_behind l G h0 a (upd (upd (upd (upd (upd (upd (upd (upd F 15 (nI fa)) 44 (nI fd)) 49 (nI md)) 73 (nI sc)) 74 (nI k9)) 77 dn) 78 wt) 79 wf) (updA (updA (updA (updA (updA B 14 nc) 17 ty) 18 mn) 48 vn) 49 vt) (nI (10 + k9)) dn) (gV pw_1832 pw_1833 pw_1834 pw_1523 pw_1804) hV_X12_behind 0 9 rfl rfl rfl rfl (Nat.le_of_ble_eq_true rfl) dX12_lookAt_166 ⟨Nat.le_of_ble_eq_true rfl, Nat.le_of_ble_eq_true rfl⟩ ⟨(by show 2 + 1 ≤ (4 * z9 + 10); omega), (by show 8 + (2 + 11) + 60 ≤ (160 * z9 + 1400); omega)⟩ (fun v51 u49 H locs hw50 hP hD hS => ?_)
      obtain rfl : v51 = some (.int (nI (10 + k9))) := hw50
      have hP : va_P G.1 pCl (mW G h0 a (upd (upd (upd (upd (upd (upd (upd (upd F 15 (nI fa)) 44 (nI fd)) 49 (nI md)) 73 (nI sc)) 74 (nI k9)) 77 dn) 78 dn) 79 dn) (updA (updA (updA (updA (updA B 14 nc) 17 ty) 18 mn) 48 vn) 49 vt)) _ := mW_to (F := F) (l1 := [(15, (nI fa)), (44, (nI fd)), (49, (nI md)), (73, (nI sc)), (74, (nI k9)), (77, dn), (78, wt), (79, wf), (77, dn), (78, dn), (79, dn)]) (l2 := [(15, (nI fa)), (44, (nI fd)), (49, (nI md)), (73, (nI sc)), (74, (nI k9)), (77, dn), (78, dn), (79, dn)]) (V := [(nI fa), (nI fd), (nI md), (nI sc), (nI k9), dn, dn, dn, dn, dn, dn, (nI fa), (nI fd), (nI md), (nI sc), (nI k9), dn, dn, dn]) rfl rfl rfl hP
      have hD : va_D A (mW G h0 a (upd (upd (upd (upd (upd (upd (upd (upd F 15 (nI fa)) 44 (nI fd)) 49 (nI md)) 73 (nI sc)) 74 (nI k9)) 77 dn) 78 dn) 79 dn) (updA (updA (updA (updA (updA B 14 nc) 17 ty) 18 mn) 48 vn) 49 vt)) := mW_D hD
      refine W.widen (k := 0) (n := 0) (Nat.le_of_ble_eq_true rfl) (Nat.le_of_ble_eq_true rfl) ?_
      refine W.eq (g2 := F0 m 169 ls [.int (nI (10 + k9))]) rfl ?_
      have hz52 : fa ≤ fa := (by omega)
      have hz53 : fa ≤ 15 := (by omega)
      have hz54 : TyC dc (10 + k9) := (TyC.cl (by omega))
      have hz55 : (10 + k9) ≤ 2050 := (by omega)
      have hz56 : ChE B nd n9 ty ty mn mn := ChE.rfl
      have hz57 : mnN B nd mn := hmn
      have hz58 : If (fa = 0) (Typ0 B dc fd md nd ty mn vt sc k9 n9 (nI (10 + k9))) := (fun e => Typ0.of (kids0 (kk := 5) ek (by decide) (by decide)) (LT5 ek))
      have hP : va_P G.1 pCl (mW G h0 a (upd (upd (upd (upd (upd (upd (upd (upd (upd F 15 (nI fa)) 16 (F 16)) 44 (nI fd)) 49 (nI md)) 73 (nI sc)) 74 (nI k9)) 77 dn) 78 dn) 79 dn) (updA (updA (updA (updA (updA B 14 nc) 17 ty) 18 mn) 48 vn) 49 vt)) _ := mW_to (F := F) (l1 := [(15, (nI fa)), (44, (nI fd)), (49, (nI md)), (73, (nI sc)), (74, (nI k9)), (77, dn), (78, dn), (79, dn)]) (l2 := [(15, (nI fa)), (16, (F 16)), (44, (nI fd)), (49, (nI md)), (73, (nI sc)), (74, (nI k9)), (77, dn), (78, dn), (79, dn)]) (V := [(nI fa), (nI fd), (nI md), (nI sc), (nI k9), dn, dn, dn, (nI fa), (F 16), (nI fd), (nI md), (nI sc), (nI k9), dn, dn, dn]) rfl rfl rfl hP
      have hD : va_D A (mW G h0 a (upd (upd (upd (upd (upd (upd (upd (upd (upd F 15 (nI fa)) 16 (F 16)) 44 (nI fd)) 49 (nI md)) 73 (nI sc)) 74 (nI k9)) 77 dn) 78 dn) 79 dn) (updA (updA (updA (updA (updA B 14 nc) 17 ty) 18 mn) 48 vn) 49 vt)) := mW_D hD
      exact W.iret (v := (nI (10 + k9))) hx hb hr (fun t9 ht9 hW9 => ⟨⟨_, ((10 + k9), fa, (F 16), dn, dn, dn, ty, mn), rfl, ⟨rfl, hz52, hz53, hz54, hz55, hz56, hz57, hz58⟩, by rw [ht9]; exact hP, hD⟩, hS.F ht9⟩) hS.2.2 dX12_lookAt_169
    · refine lv_topi (fun x59 e60 => ?_)
      obtain rfl : x59 = 6 := e60.trans ek
      refine lv_tableIn (tgt := 170) (off := 155) hx hb dX12_lookAt_15 (by decide) (by decide) (by decide) (by decide) ?_
      refine lv_aload_n hx hb dX12_lookAt_170 rfl (lv_at hl 0 rfl) ?_
      refine lv_aload_n hx hb dX12_lookAt_171 rfl (lv_at hl 0 rfl) ?_
      refine lv_iload_n hx hb dX12_lookAt_172 rfl (lv_at hl 1 rfl) ?_
      refine lv_iconst (v := 1) hx hb dX12_lookAt_173 (by decide) ?_
      have hP : va_P G.1 pCl (mW G h0 a (upd (upd (upd (upd (upd (upd (upd (upd (upd (upd (upd (upd (upd (upd (upd (upd F 15 (nI fa)) 44 (nI fd)) 49 (nI md)) 73 (nI sc)) 74 (nI k9)) 77 dn) 78 wt) 79 wf) 15 (nI fa)) 44 (nI fd)) 49 (nI md)) 73 (nI sc)) 74 (nI k9)) 77 dn) 78 wt) 79 wf) (updA (updA (updA (updA (updA B 14 nc) 17 ty) 18 mn) 48 vn) 49 vt)) _ := hP
      have hD : va_D A (mW G h0 a (upd (upd (upd (upd (upd (upd (upd (upd (upd (upd (upd (upd (upd (upd (upd (upd F 15 (nI fa)) 44 (nI fd)) 49 (nI md)) 73 (nI sc)) 74 (nI k9)) 77 dn) 78 wt) 79 wf) 15 (nI fa)) 44 (nI fd)) 49 (nI md)) 73 (nI sc)) 74 (nI k9)) 77 dn) 78 wt) 79 wf) (updA (updA (updA (updA (updA B 14 nc) 17 ty) 18 mn) 48 vn) 49 vt)) := mW_D hD
      refine pc_V0 (G := G) (As := [.int (nI n9), .int (nI 1)]) (rest := [.ref h0]) hx hb hml hown hq hE hX pX0_al hP hD hS hA hl.1 (L_named l G h0 a (upd (upd (upd (upd (upd (upd (upd (upd F 15 (nI fa)) 44 (nI fd)) 49 (nI md)) 73 (nI sc)) 74 (nI k9)) 77 dn) 78 wt) 79 wf) B n9 z9 fa sc k9 nd T nm wr lz dc fd md pr bk gh dn wt wf nc ty mn vn vt 1 hst hnm hn9 (by omega) (by omega) (by omega) hk9 hnc hmn hvt ek (by omega)) (gV pw_1835 pw_1836 pw_1837 pw_1523 pw_1814) hV_X12_named 0 9 rfl rfl rfl rfl (Nat.le_of_ble_eq_true rfl) dX12_lookAt_174 ⟨Nat.le_of_ble_eq_true rfl, Nat.le_of_ble_eq_true rfl⟩ ⟨(by show (4 * z9 + 9) + 1 ≤ (4 * z9 + 10); omega), (by show 8 + (5 + 11) + (160 * z9 + 1360) ≤ (160 * z9 + 1400); omega)⟩ (fun v63 u61 H locs hw62 hP hD hS => ?_)
      obtain ⟨r64, fa65, pl66, dn67, wt68, wf69, ty70, mn71⟩ := u61
      obtain ⟨hw62, h72, h73, h74, h75, h76, h77, h78⟩ := hw62
      replace h72 : fa ≤ fa65 := h72
      replace h73 : fa65 ≤ 15 := h73
      replace h74 : TyC dc r64 := h74
      replace h75 : r64 ≤ 2050 := h75
      replace h76 : ChE B nd n9 ty ty70 mn mn71 := h76
      replace h77 : mnN B nd mn71 := h77
      replace h78 : If (fa65 = 0) (LTE B dc fd md nd ty70 mn71 vt sc k9 n9 (nI r64) ∧ ty70 = ty) := h78
      obtain rfl : v63 = some (.int (nI r64)) := hw62
      have hP : va_P G.1 pCl (mW G h0 a (upd (upd (upd (upd (upd (upd (upd (upd (upd F 15 (nI fa65)) 16 pl66) 44 (nI fd)) 49 (nI md)) 73 (nI sc)) 74 (nI k9)) 77 dn67) 78 wt68) 79 wf69) (updA (updA (updA (updA (updA B 14 nc) 17 ty70) 18 mn71) 48 vn) 49 vt)) _ := mW_to (F := F) (l1 := [(15, (nI fa)), (44, (nI fd)), (49, (nI md)), (73, (nI sc)), (74, (nI k9)), (77, dn), (78, wt), (79, wf), (15, (nI fa65)), (16, pl66), (44, (nI fd)), (49, (nI md)), (73, (nI sc)), (74, (nI k9)), (77, dn67), (78, wt68), (79, wf69)]) (l2 := [(15, (nI fa65)), (16, pl66), (44, (nI fd)), (49, (nI md)), (73, (nI sc)), (74, (nI k9)), (77, dn67), (78, wt68), (79, wf69)]) (V := [(nI fa65), (nI fd), (nI md), (nI sc), (nI k9), dn67, wt68, wf69, (nI fa65), pl66, (nI fd), (nI md), (nI sc), (nI k9), dn67, wt68, wf69, (nI fa65), pl66, (nI fd), (nI md), (nI sc), (nI k9), dn67, wt68, wf69]) rfl rfl rfl hP
      have hD : va_D A (mW G h0 a (upd (upd (upd (upd (upd (upd (upd (upd (upd F 15 (nI fa65)) 16 pl66) 44 (nI fd)) 49 (nI md)) 73 (nI sc)) 74 (nI k9)) 77 dn67) 78 wt68) 79 wf69) (updA (updA (updA (updA (updA B 14 nc) 17 ty70) 18 mn71) 48 vn) 49 vt)) := mW_D hD
      refine W.widen (k := 0) (n := 0) (Nat.le_of_ble_eq_true rfl) (Nat.le_of_ble_eq_true rfl) ?_
      refine W.eq (g2 := F0 m 177 ls [.int (nI r64), .ref h0]) rfl ?_
      have hch79 : ChE B nd n9 ty ty70 mn mn71 := (ChE.trans ChE.rfl h76)
      have hP : va_P G.1 pCl (mW G h0 a (upd (upd (upd (upd (upd (upd (upd (upd (upd (upd F 15 (nI fa65)) 16 pl66) 44 (nI fd)) 49 (nI md)) 73 (nI sc)) 74 (nI k9)) 77 dn67) 78 wt68) 79 wf69) 77 dn67) (updA (updA (updA (updA (updA B 14 nc) 17 ty70) 18 mn71) 48 vn) 49 vt)) _ := mW_to (F := F) (l1 := [(15, (nI fa65)), (16, pl66), (44, (nI fd)), (49, (nI md)), (73, (nI sc)), (74, (nI k9)), (77, dn67), (78, wt68), (79, wf69)]) (l2 := [(15, (nI fa65)), (16, pl66), (44, (nI fd)), (49, (nI md)), (73, (nI sc)), (74, (nI k9)), (77, dn67), (78, wt68), (79, wf69), (77, dn67)]) (V := [(nI fa65), pl66, (nI fd), (nI md), (nI sc), (nI k9), dn67, wt68, wf69, (nI fa65), pl66, (nI fd), (nI md), (nI sc), (nI k9), dn67, wt68, wf69, dn67]) rfl rfl rfl hP
      have hD : va_D A (mW G h0 a (upd (upd (upd (upd (upd (upd (upd (upd (upd (upd F 15 (nI fa65)) 16 pl66) 44 (nI fd)) 49 (nI md)) 73 (nI sc)) 74 (nI k9)) 77 dn67) 78 wt68) 79 wf69) 77 dn67) (updA (updA (updA (updA (updA B 14 nc) 17 ty70) 18 mn71) 48 vn) 49 vt)) := mW_D hD
      refine pc_V0 (G := G) (As := [.int (nI r64)]) (rest := []) hx hb hml hown hq hE hX pX0_al hP hD hS hA hl.1 (R_behind l G h0 a (upd (upd (upd (upd (upd (upd (upd (upd (upd F 15 (nI fa65)) 16 pl66) 44 (nI fd)) 49 (nI md)) 73 (nI sc)) 74 (nI k9)) 77 dn67) 78 wt68) 79 wf69) (updA (updA (updA (updA (updA B 14 nc) 17 ty70) 18 mn71) 48 vn) 49 vt) (nI r64) dn67) (gV pw_1832 pw_1833 pw_1834 pw_1523 pw_1804) hV_X12_behind 0 9 rfl rfl rfl rfl (Nat.le_of_ble_eq_true rfl) dX12_lookAt_177 ⟨Nat.le_of_ble_eq_true rfl, Nat.le_of_ble_eq_true rfl⟩ ⟨(by show 2 + 1 ≤ (4 * z9 + 10); omega), (by show 8 + (2 + 11) + 60 ≤ (160 * z9 + 1400); omega)⟩ (fun v82 u80 H locs hw81 hP hD hS => ?_)
      obtain rfl : v82 = some (.int (nI r64)) := hw81
      have hP : va_P G.1 pCl (mW G h0 a (upd (upd (upd (upd (upd (upd (upd (upd (upd F 15 (nI fa65)) 16 pl66) 44 (nI fd)) 49 (nI md)) 73 (nI sc)) 74 (nI k9)) 77 dn67) 78 dn67) 79 dn67) (updA (updA (updA (updA (updA B 14 nc) 17 ty70) 18 mn71) 48 vn) 49 vt)) _ := mW_to (F := F) (l1 := [(15, (nI fa65)), (16, pl66), (44, (nI fd)), (49, (nI md)), (73, (nI sc)), (74, (nI k9)), (77, dn67), (78, wt68), (79, wf69), (77, dn67), (78, dn67), (79, dn67)]) (l2 := [(15, (nI fa65)), (16, pl66), (44, (nI fd)), (49, (nI md)), (73, (nI sc)), (74, (nI k9)), (77, dn67), (78, dn67), (79, dn67)]) (V := [(nI fa65), pl66, (nI fd), (nI md), (nI sc), (nI k9), dn67, dn67, dn67, dn67, dn67, dn67, (nI fa65), pl66, (nI fd), (nI md), (nI sc), (nI k9), dn67, dn67, dn67]) rfl rfl rfl hP
      have hD : va_D A (mW G h0 a (upd (upd (upd (upd (upd (upd (upd (upd (upd F 15 (nI fa65)) 16 pl66) 44 (nI fd)) 49 (nI md)) 73 (nI sc)) 74 (nI k9)) 77 dn67) 78 dn67) 79 dn67) (updA (updA (updA (updA (updA B 14 nc) 17 ty70) 18 mn71) 48 vn) 49 vt)) := mW_D hD
      refine W.widen (k := 0) (n := 0) (Nat.le_of_ble_eq_true rfl) (Nat.le_of_ble_eq_true rfl) ?_
      refine W.eq (g2 := F0 m 180 ls [.int (nI r64)]) rfl ?_
      have hz83 : fa ≤ fa65 := (by omega)
      have hz84 : fa65 ≤ 15 := (by omega)
      have hz85 : TyC dc r64 := h74
      have hz86 : r64 ≤ 2050 := (by omega)
      have hz87 : ChE B nd n9 ty ty70 mn mn71 := hch79
      have hz88 : mnN B nd mn71 := h77
      have hz89 : If (fa65 = 0) (Typ0 B dc fd md nd ty70 mn71 vt sc k9 n9 (nI r64)) := (fun e => Typ0.of (kids0 (kk := 6) ek (by decide) (by decide)) (h78 (by omega)).1)
      have hP : va_P G.1 pCl (mW G h0 a (upd (upd (upd (upd (upd (upd (upd (upd (upd F 15 (nI fa65)) 16 pl66) 44 (nI fd)) 49 (nI md)) 73 (nI sc)) 74 (nI k9)) 77 dn67) 78 dn67) 79 dn67) (updA (updA (updA (updA (updA B 14 nc) 17 ty70) 18 mn71) 48 vn) 49 vt)) _ := hP
      have hD : va_D A (mW G h0 a (upd (upd (upd (upd (upd (upd (upd (upd (upd F 15 (nI fa65)) 16 pl66) 44 (nI fd)) 49 (nI md)) 73 (nI sc)) 74 (nI k9)) 77 dn67) 78 dn67) 79 dn67) (updA (updA (updA (updA (updA B 14 nc) 17 ty70) 18 mn71) 48 vn) 49 vt)) := mW_D hD
      exact W.iret (v := (nI r64)) hx hb hr (fun t9 ht9 hW9 => ⟨⟨_, (r64, fa65, pl66, dn67, dn67, dn67, ty70, mn71), rfl, ⟨rfl, hz83, hz84, hz85, hz86, hz87, hz88, hz89⟩, by rw [ht9]; exact hP, hD⟩, hS.F ht9⟩) hS.2.2 dX12_lookAt_180
    · refine lv_topi (fun x90 e91 => ?_)
      obtain rfl : x90 = 7 := e91.trans ek
      refine lv_tableIn (tgt := 181) (off := 166) hx hb dX12_lookAt_15 (by decide) (by decide) (by decide) (by decide) ?_
      refine lv_aload_n hx hb dX12_lookAt_181 rfl (lv_at hl 0 rfl) ?_
      refine lv_iload_n hx hb dX12_lookAt_182 rfl (lv_at hl 1 rfl) ?_
      refine lv_aload_n hx hb dX12_lookAt_183 rfl (lv_at hl 0 rfl) ?_
      refine r_get (v := .int (nI k9)) hx hb hown hq hE hP 74 563 tFX12_74 (by decide) pw_1807 rfl dX12_lookAt_184 ?_
      have hP : va_P G.1 pCl (mW G h0 a (upd (upd (upd (upd (upd (upd (upd (upd (upd (upd (upd (upd (upd (upd (upd (upd F 15 (nI fa)) 44 (nI fd)) 49 (nI md)) 73 (nI sc)) 74 (nI k9)) 77 dn) 78 wt) 79 wf) 15 (nI fa)) 44 (nI fd)) 49 (nI md)) 73 (nI sc)) 74 (nI k9)) 77 dn) 78 wt) 79 wf) (updA (updA (updA (updA (updA B 14 nc) 17 ty) 18 mn) 48 vn) 49 vt)) _ := hP
      have hD : va_D A (mW G h0 a (upd (upd (upd (upd (upd (upd (upd (upd (upd (upd (upd (upd (upd (upd (upd (upd F 15 (nI fa)) 44 (nI fd)) 49 (nI md)) 73 (nI sc)) 74 (nI k9)) 77 dn) 78 wt) 79 wf) 15 (nI fa)) 44 (nI fd)) 49 (nI md)) 73 (nI sc)) 74 (nI k9)) 77 dn) 78 wt) 79 wf) (updA (updA (updA (updA (updA B 14 nc) 17 ty) 18 mn) 48 vn) 49 vt)) := mW_D hD
      refine pc_V0 (G := G) (As := [.int (nI n9), .int (nI k9)]) (rest := []) hx hb hml hown hq hE hX pX0_al hP hD hS hA hl.1 (L_lookCall l G h0 a (upd (upd (upd (upd (upd (upd (upd (upd F 15 (nI fa)) 44 (nI fd)) 49 (nI md)) 73 (nI sc)) 74 (nI k9)) 77 dn) 78 wt) 79 wf) B n9 z9 fa sc k9 nd T nm wr lz dc fd md pr bk gh dn wt wf nc ty mn vn vt k9 7 hst hnm hn9 (by omega) (by omega) (by omega) hk9 hnc hmn hvt (by decide) ek (by decide) (by omega) ihL) (gV pw_1838 pw_1839 pw_1840 pw_1523 pw_1859) hV_X12_lookCall 0 9 rfl rfl rfl rfl (Nat.le_of_ble_eq_true rfl) dX12_lookAt_187 ⟨Nat.le_of_ble_eq_true rfl, Nat.le_of_ble_eq_true rfl⟩ ⟨(by show (4 * z9 + 9) + 1 ≤ (4 * z9 + 10); omega), (by show 8 + (7 + 11) + (160 * z9 + 1360) ≤ (160 * z9 + 1400); omega)⟩ (fun v94 u92 H locs hw93 hP hD hS => ?_)
      obtain ⟨r95, fa96, pl97, dn98, wt99, wf100, ty101, mn102⟩ := u92
      obtain ⟨hw93, h103, h104, h105, h106, h107, h108, h109⟩ := hw93
      replace h103 : fa ≤ fa96 := h103
      replace h104 : fa96 ≤ 15 := h104
      replace h105 : TyC dc r95 := h105
      replace h106 : r95 ≤ 2050 := h106
      replace h107 : ChLr B nd n9 ty ty101 mn mn102 := h107
      replace h108 : mnN B nd mn102 := h108
      replace h109 : If (fa96 = 0) ((∀ z c : Nat, c < 20000 → itr ((B 16)) ((B 13) n9) z = nI c → Typ B dc fd md nd ty101 mn102 vt sc k9 c) ∧ CalP B ty101 mn102 dc md nd k9 n9 (nI r95)) := h109
      obtain rfl : v94 = some (.int (nI r95)) := hw93
      have hP : va_P G.1 pCl (mW G h0 a (upd (upd (upd (upd (upd (upd (upd (upd (upd F 15 (nI fa96)) 16 pl97) 44 (nI fd)) 49 (nI md)) 73 (nI sc)) 74 (nI k9)) 77 dn98) 78 wt99) 79 wf100) (updA (updA (updA (updA (updA B 14 nc) 17 ty101) 18 mn102) 48 vn) 49 vt)) _ := mW_to (F := F) (l1 := [(15, (nI fa)), (44, (nI fd)), (49, (nI md)), (73, (nI sc)), (74, (nI k9)), (77, dn), (78, wt), (79, wf), (15, (nI fa96)), (16, pl97), (44, (nI fd)), (49, (nI md)), (73, (nI sc)), (74, (nI k9)), (77, dn98), (78, wt99), (79, wf100)]) (l2 := [(15, (nI fa96)), (16, pl97), (44, (nI fd)), (49, (nI md)), (73, (nI sc)), (74, (nI k9)), (77, dn98), (78, wt99), (79, wf100)]) (V := [(nI fa96), (nI fd), (nI md), (nI sc), (nI k9), dn98, wt99, wf100, (nI fa96), pl97, (nI fd), (nI md), (nI sc), (nI k9), dn98, wt99, wf100, (nI fa96), pl97, (nI fd), (nI md), (nI sc), (nI k9), dn98, wt99, wf100]) rfl rfl rfl hP
      have hD : va_D A (mW G h0 a (upd (upd (upd (upd (upd (upd (upd (upd (upd F 15 (nI fa96)) 16 pl97) 44 (nI fd)) 49 (nI md)) 73 (nI sc)) 74 (nI k9)) 77 dn98) 78 wt99) 79 wf100) (updA (updA (updA (updA (updA B 14 nc) 17 ty101) 18 mn102) 48 vn) 49 vt)) := mW_D hD
      refine W.widen (k := 0) (n := 0) (Nat.le_of_ble_eq_true rfl) (Nat.le_of_ble_eq_true rfl) ?_
      refine W.eq (g2 := F0 m 190 ls [.int (nI r95)]) rfl ?_
      have hch110 : ChE B nd n9 ty ty101 mn mn102 := (ChE.trans ChE.rfl (ChLr.che h107 ek (by decide) (by decide)))
      have hz111 : fa ≤ fa96 := (by omega)
      have hz112 : fa96 ≤ 15 := (by omega)
      have hz113 : TyC dc r95 := h105
      have hz114 : r95 ≤ 2050 := (by omega)
      have hz115 : ChE B nd n9 ty ty101 mn mn102 := hch110
      have hz116 : mnN B nd mn102 := h108
      have hz117 : If (fa96 = 0) (Typ0 B dc fd md nd ty101 mn102 vt sc k9 n9 (nI r95)) := (fun e => by have z := h109 (by omega); exact Typ0.of (fun c hc g => by obtain ⟨s, s1, s4, w1, w2⟩ := pch_at (kk := 7) ek (by decide) g; rcases (show s = 1 ∨ s = 2 ∨ s = 3 ∨ s = 4 by omega) with rfl | rfl | rfl | rfl; exact absurd w1 (by decide); exact w2.elim (fun q => absurd q.1 (by decide)) (fun q => q.2.elim (fun i q => z.1 i c hc q)); exact absurd w1 (by decide); exact absurd w1 (by decide)) (LT7 ek z.2))
      have hP : va_P G.1 pCl (mW G h0 a (upd (upd (upd (upd (upd (upd (upd (upd (upd F 15 (nI fa96)) 16 pl97) 44 (nI fd)) 49 (nI md)) 73 (nI sc)) 74 (nI k9)) 77 dn98) 78 wt99) 79 wf100) (updA (updA (updA (updA (updA B 14 nc) 17 ty101) 18 mn102) 48 vn) 49 vt)) _ := hP
      have hD : va_D A (mW G h0 a (upd (upd (upd (upd (upd (upd (upd (upd (upd F 15 (nI fa96)) 16 pl97) 44 (nI fd)) 49 (nI md)) 73 (nI sc)) 74 (nI k9)) 77 dn98) 78 wt99) 79 wf100) (updA (updA (updA (updA (updA B 14 nc) 17 ty101) 18 mn102) 48 vn) 49 vt)) := mW_D hD
      exact W.iret (v := (nI r95)) hx hb hr (fun t9 ht9 hW9 => ⟨⟨_, (r95, fa96, pl97, dn98, wt99, wf100, ty101, mn102), rfl, ⟨rfl, hz111, hz112, hz113, hz114, hz115, hz116, hz117⟩, by rw [ht9]; exact hP, hD⟩, hS.F ht9⟩) hS.2.2 dX12_lookAt_190
    · refine lv_topi (fun x118 e119 => ?_)
      obtain rfl : x118 = 8 := e119.trans ek
      refine lv_tableIn (tgt := 191) (off := 176) hx hb dX12_lookAt_15 (by decide) (by decide) (by decide) (by decide) ?_
      refine lv_aload_n hx hb dX12_lookAt_191 rfl (lv_at hl 0 rfl) ?_
      refine lv_iload_n hx hb dX12_lookAt_192 rfl (lv_at hl 1 rfl) ?_
      refine lv_aload_n hx hb dX12_lookAt_193 rfl (lv_at hl 0 rfl) ?_
      refine r_get (v := .ref (a 29)) hx hb hown hq hE hP 41 99 tFX12_41 (by decide) pw_1460 rfl dX12_lookAt_194 ?_
      refine lv_aload_n hx hb dX12_lookAt_197 rfl (lv_at hl 0 rfl) ?_
      refine r_get (v := .int (nI k9)) hx hb hown hq hE hP 74 563 tFX12_74 (by decide) pw_1807 rfl dX12_lookAt_198 ?_
      refine r_ldi (f := (B 29)) (j := k9) hx hb hE hP 29 (ma_29 G a _) rfl (by omega) (by decide) dX12_lookAt_201 ?_
      obtain ⟨s120, e121, h122, -⟩ := hRK.choose_spec.2 k9 (by omega) (by omega)
      refine lv_topi (fun x124 e125 => ?_)
      obtain rfl : x124 = nI s120 := e125.trans e121
      have hP : va_P G.1 pCl (mW G h0 a (upd (upd (upd (upd (upd (upd (upd (upd (upd (upd (upd (upd (upd (upd (upd (upd F 15 (nI fa)) 44 (nI fd)) 49 (nI md)) 73 (nI sc)) 74 (nI k9)) 77 dn) 78 wt) 79 wf) 15 (nI fa)) 44 (nI fd)) 49 (nI md)) 73 (nI sc)) 74 (nI k9)) 77 dn) 78 wt) 79 wf) (updA (updA (updA (updA (updA B 14 nc) 17 ty) 18 mn) 48 vn) 49 vt)) _ := hP
      have hD : va_D A (mW G h0 a (upd (upd (upd (upd (upd (upd (upd (upd (upd (upd (upd (upd (upd (upd (upd (upd F 15 (nI fa)) 44 (nI fd)) 49 (nI md)) 73 (nI sc)) 74 (nI k9)) 77 dn) 78 wt) 79 wf) 15 (nI fa)) 44 (nI fd)) 49 (nI md)) 73 (nI sc)) 74 (nI k9)) 77 dn) 78 wt) 79 wf) (updA (updA (updA (updA (updA B 14 nc) 17 ty) 18 mn) 48 vn) 49 vt)) := mW_D hD
      refine pc_V0 (G := G) (As := [.int (nI n9), .int (nI s120)]) (rest := []) hx hb hml hown hq hE hX pX0_al hP hD hS hA hl.1 (L_lookCall l G h0 a (upd (upd (upd (upd (upd (upd (upd (upd F 15 (nI fa)) 44 (nI fd)) 49 (nI md)) 73 (nI sc)) 74 (nI k9)) 77 dn) 78 wt) 79 wf) B n9 z9 fa sc k9 nd T nm wr lz dc fd md pr bk gh dn wt wf nc ty mn vn vt s120 8 hst hnm hn9 (by omega) (by omega) (by omega) hk9 hnc hmn hvt (by decide) ek (by decide) (by omega) ihL) (gV pw_1838 pw_1839 pw_1840 pw_1523 pw_1859) hV_X12_lookCall 0 9 rfl rfl rfl rfl (Nat.le_of_ble_eq_true rfl) dX12_lookAt_202 ⟨Nat.le_of_ble_eq_true rfl, Nat.le_of_ble_eq_true rfl⟩ ⟨(by show (4 * z9 + 9) + 1 ≤ (4 * z9 + 10); omega), (by show 8 + (7 + 11) + (160 * z9 + 1360) ≤ (160 * z9 + 1400); omega)⟩ (fun v128 u126 H locs hw127 hP hD hS => ?_)
      obtain ⟨r129, fa130, pl131, dn132, wt133, wf134, ty135, mn136⟩ := u126
      obtain ⟨hw127, h137, h138, h139, h140, h141, h142, h143⟩ := hw127
      replace h137 : fa ≤ fa130 := h137
      replace h138 : fa130 ≤ 15 := h138
      replace h139 : TyC dc r129 := h139
      replace h140 : r129 ≤ 2050 := h140
      replace h141 : ChLr B nd n9 ty ty135 mn mn136 := h141
      replace h142 : mnN B nd mn136 := h142
      replace h143 : If (fa130 = 0) ((∀ z c : Nat, c < 20000 → itr ((B 16)) ((B 13) n9) z = nI c → Typ B dc fd md nd ty135 mn136 vt sc k9 c) ∧ CalP B ty135 mn136 dc md nd s120 n9 (nI r129)) := h143
      obtain rfl : v128 = some (.int (nI r129)) := hw127
      have hP : va_P G.1 pCl (mW G h0 a (upd (upd (upd (upd (upd (upd (upd (upd (upd F 15 (nI fa130)) 16 pl131) 44 (nI fd)) 49 (nI md)) 73 (nI sc)) 74 (nI k9)) 77 dn132) 78 wt133) 79 wf134) (updA (updA (updA (updA (updA B 14 nc) 17 ty135) 18 mn136) 48 vn) 49 vt)) _ := mW_to (F := F) (l1 := [(15, (nI fa)), (44, (nI fd)), (49, (nI md)), (73, (nI sc)), (74, (nI k9)), (77, dn), (78, wt), (79, wf), (15, (nI fa130)), (16, pl131), (44, (nI fd)), (49, (nI md)), (73, (nI sc)), (74, (nI k9)), (77, dn132), (78, wt133), (79, wf134)]) (l2 := [(15, (nI fa130)), (16, pl131), (44, (nI fd)), (49, (nI md)), (73, (nI sc)), (74, (nI k9)), (77, dn132), (78, wt133), (79, wf134)]) (V := [(nI fa130), (nI fd), (nI md), (nI sc), (nI k9), dn132, wt133, wf134, (nI fa130), pl131, (nI fd), (nI md), (nI sc), (nI k9), dn132, wt133, wf134, (nI fa130), pl131, (nI fd), (nI md), (nI sc), (nI k9), dn132, wt133, wf134]) rfl rfl rfl hP
      have hD : va_D A (mW G h0 a (upd (upd (upd (upd (upd (upd (upd (upd (upd F 15 (nI fa130)) 16 pl131) 44 (nI fd)) 49 (nI md)) 73 (nI sc)) 74 (nI k9)) 77 dn132) 78 wt133) 79 wf134) (updA (updA (updA (updA (updA B 14 nc) 17 ty135) 18 mn136) 48 vn) 49 vt)) := mW_D hD
      refine W.widen (k := 0) (n := 0) (Nat.le_of_ble_eq_true rfl) (Nat.le_of_ble_eq_true rfl) ?_
      refine W.eq (g2 := F0 m 205 ls [.int (nI r129)]) rfl ?_
      have hch144 : ChE B nd n9 ty ty135 mn mn136 := (ChE.trans ChE.rfl (ChLr.che h141 ek (by decide) (by decide)))
      have hz145 : fa ≤ fa130 := (by omega)
      have hz146 : fa130 ≤ 15 := (by omega)
      have hz147 : TyC dc r129 := h139
      have hz148 : r129 ≤ 2050 := (by omega)
      have hz149 : ChE B nd n9 ty ty135 mn mn136 := hch144
      have hz150 : mnN B nd mn136 := h142
      have hz151 : If (fa130 = 0) (Typ0 B dc fd md nd ty135 mn136 vt sc k9 n9 (nI r129)) := (fun e => by have z := h143 (by omega); exact Typ0.of (fun c hc g => by obtain ⟨s, s1, s4, w1, w2⟩ := pch_at (kk := 8) ek (by decide) g; rcases (show s = 1 ∨ s = 2 ∨ s = 3 ∨ s = 4 by omega) with rfl | rfl | rfl | rfl; exact absurd w1 (by decide); exact w2.elim (fun q => absurd q.1 (by decide)) (fun q => q.2.elim (fun i q => z.1 i c hc q)); exact absurd w1 (by decide); exact absurd w1 (by decide)) (LT8 ek e121 z.2))
      have hP : va_P G.1 pCl (mW G h0 a (upd (upd (upd (upd (upd (upd (upd (upd (upd F 15 (nI fa130)) 16 pl131) 44 (nI fd)) 49 (nI md)) 73 (nI sc)) 74 (nI k9)) 77 dn132) 78 wt133) 79 wf134) (updA (updA (updA (updA (updA B 14 nc) 17 ty135) 18 mn136) 48 vn) 49 vt)) _ := hP
      have hD : va_D A (mW G h0 a (upd (upd (upd (upd (upd (upd (upd (upd (upd F 15 (nI fa130)) 16 pl131) 44 (nI fd)) 49 (nI md)) 73 (nI sc)) 74 (nI k9)) 77 dn132) 78 wt133) 79 wf134) (updA (updA (updA (updA (updA B 14 nc) 17 ty135) 18 mn136) 48 vn) 49 vt)) := mW_D hD
      exact W.iret (v := (nI r129)) hx hb hr (fun t9 ht9 hW9 => ⟨⟨_, (r129, fa130, pl131, dn132, wt133, wf134, ty135, mn136), rfl, ⟨rfl, hz145, hz146, hz147, hz148, hz149, hz150, hz151⟩, by rw [ht9]; exact hP, hD⟩, hS.F ht9⟩) hS.2.2 dX12_lookAt_205
    · refine lv_topi (fun x152 e153 => ?_)
      obtain rfl : x152 = 9 := e153.trans ek
      refine lv_tableIn (tgt := 206) (off := 191) hx hb dX12_lookAt_15 (by decide) (by decide) (by decide) (by decide) ?_
      refine lv_aload_n hx hb dX12_lookAt_206 rfl (lv_at hl 0 rfl) ?_
      refine lv_bipush (v := 10) hx hb dX12_lookAt_207 (by decide) ?_
      refine lv_aload_n hx hb dX12_lookAt_209 rfl (lv_at hl 0 rfl) ?_
      refine r_get (v := .ref (a 18)) hx hb hown hq hE hP 26 65 tFX12_26 (by decide) pw_1448 rfl dX12_lookAt_210 ?_
      refine lv_iload_n hx hb dX12_lookAt_213 rfl (lv_at hl 1 rfl) ?_
      refine r_ldi (f := mn) (j := n9) hx hb hE hP 18 (ma_18 G a _) rfl (by omega) (by decide) dX12_lookAt_214 ?_
      obtain ⟨d154, e155, h156, h157⟩ := hNW n9 hn9 (Or.inl ek)
      refine lv_topi (fun x159 e160 => ?_)
      obtain rfl : x159 = nI d154 := e160.trans ((hmn n9 hn9 ek).trans e155)
      refine lv_iadd hx hb dX12_lookAt_215 ?_
      refine lv_topi (fun x161 e162 => ?_)
      obtain rfl : x161 = nI (10 + d154) := e162.trans (nI_add (10) (d154))
      have hP : va_P G.1 pCl (mW G h0 a (upd (upd (upd (upd (upd (upd (upd (upd (upd F 15 (nI fa)) 44 (nI fd)) 49 (nI md)) 73 (nI sc)) 74 (nI k9)) 77 dn) 78 wt) 79 wf) 77 dn) (updA (updA (updA (updA (updA B 14 nc) 17 ty) 18 mn) 48 vn) 49 vt)) _ := hP
      have hD : va_D A (mW G h0 a (upd (upd (upd (upd (upd (upd (upd (upd (upd F 15 (nI fa)) 44 (nI fd)) 49 (nI md)) 73 (nI sc)) 74 (nI k9)) 77 dn) 78 wt) 79 wf) 77 dn) (updA (updA (updA (updA (updA B 14 nc) 17 ty) 18 mn) 48 vn) 49 vt)) := mW_D hD
      refine pc_V0 (G := G) (As := [.int (nI (10 + d154))]) (rest := []) hx hb hml hown hq hE hX pX0_al hP hD hS hA hl.1 (R_behind l G h0 a (upd (upd (upd (upd (upd (upd (upd (upd F 15 (nI fa)) 44 (nI fd)) 49 (nI md)) 73 (nI sc)) 74 (nI k9)) 77 dn) 78 wt) 79 wf) (updA (updA (updA (updA (updA B 14 nc) 17 ty) 18 mn) 48 vn) 49 vt) (nI (10 + d154)) dn) (gV pw_1832 pw_1833 pw_1834 pw_1523 pw_1804) hV_X12_behind 0 9 rfl rfl rfl rfl (Nat.le_of_ble_eq_true rfl) dX12_lookAt_216 ⟨Nat.le_of_ble_eq_true rfl, Nat.le_of_ble_eq_true rfl⟩ ⟨(by show 2 + 1 ≤ (4 * z9 + 10); omega), (by show 8 + (2 + 11) + 60 ≤ (160 * z9 + 1400); omega)⟩ (fun v165 u163 H locs hw164 hP hD hS => ?_)
      obtain rfl : v165 = some (.int (nI (10 + d154))) := hw164
      have hP : va_P G.1 pCl (mW G h0 a (upd (upd (upd (upd (upd (upd (upd (upd F 15 (nI fa)) 44 (nI fd)) 49 (nI md)) 73 (nI sc)) 74 (nI k9)) 77 dn) 78 dn) 79 dn) (updA (updA (updA (updA (updA B 14 nc) 17 ty) 18 mn) 48 vn) 49 vt)) _ := mW_to (F := F) (l1 := [(15, (nI fa)), (44, (nI fd)), (49, (nI md)), (73, (nI sc)), (74, (nI k9)), (77, dn), (78, wt), (79, wf), (77, dn), (78, dn), (79, dn)]) (l2 := [(15, (nI fa)), (44, (nI fd)), (49, (nI md)), (73, (nI sc)), (74, (nI k9)), (77, dn), (78, dn), (79, dn)]) (V := [(nI fa), (nI fd), (nI md), (nI sc), (nI k9), dn, dn, dn, dn, dn, dn, (nI fa), (nI fd), (nI md), (nI sc), (nI k9), dn, dn, dn]) rfl rfl rfl hP
      have hD : va_D A (mW G h0 a (upd (upd (upd (upd (upd (upd (upd (upd F 15 (nI fa)) 44 (nI fd)) 49 (nI md)) 73 (nI sc)) 74 (nI k9)) 77 dn) 78 dn) 79 dn) (updA (updA (updA (updA (updA B 14 nc) 17 ty) 18 mn) 48 vn) 49 vt)) := mW_D hD
      refine W.widen (k := 0) (n := 0) (Nat.le_of_ble_eq_true rfl) (Nat.le_of_ble_eq_true rfl) ?_
      refine W.eq (g2 := F0 m 219 ls [.int (nI (10 + d154))]) rfl ?_
      have hz166 : fa ≤ fa := (by omega)
      have hz167 : fa ≤ 15 := (by omega)
      have hz168 : TyC dc (10 + d154) := (TyC.cl (by omega))
      have hz169 : (10 + d154) ≤ 2050 := (by omega)
      have hz170 : ChE B nd n9 ty ty mn mn := ChE.rfl
      have hz171 : mnN B nd mn := hmn
      have hz172 : If (fa = 0) (Typ0 B dc fd md nd ty mn vt sc k9 n9 (nI (10 + d154))) := (fun e => Typ0.of (kids0 (kk := 9) ek (by decide) (by decide)) (LT9 ek ((hmn n9 hn9 ek).trans e155) (by omega) h157))
      have hP : va_P G.1 pCl (mW G h0 a (upd (upd (upd (upd (upd (upd (upd (upd (upd F 15 (nI fa)) 16 (F 16)) 44 (nI fd)) 49 (nI md)) 73 (nI sc)) 74 (nI k9)) 77 dn) 78 dn) 79 dn) (updA (updA (updA (updA (updA B 14 nc) 17 ty) 18 mn) 48 vn) 49 vt)) _ := mW_to (F := F) (l1 := [(15, (nI fa)), (44, (nI fd)), (49, (nI md)), (73, (nI sc)), (74, (nI k9)), (77, dn), (78, dn), (79, dn)]) (l2 := [(15, (nI fa)), (16, (F 16)), (44, (nI fd)), (49, (nI md)), (73, (nI sc)), (74, (nI k9)), (77, dn), (78, dn), (79, dn)]) (V := [(nI fa), (nI fd), (nI md), (nI sc), (nI k9), dn, dn, dn, (nI fa), (F 16), (nI fd), (nI md), (nI sc), (nI k9), dn, dn, dn]) rfl rfl rfl hP
      have hD : va_D A (mW G h0 a (upd (upd (upd (upd (upd (upd (upd (upd (upd F 15 (nI fa)) 16 (F 16)) 44 (nI fd)) 49 (nI md)) 73 (nI sc)) 74 (nI k9)) 77 dn) 78 dn) 79 dn) (updA (updA (updA (updA (updA B 14 nc) 17 ty) 18 mn) 48 vn) 49 vt)) := mW_D hD
      exact W.iret (v := (nI (10 + d154))) hx hb hr (fun t9 ht9 hW9 => ⟨⟨_, ((10 + d154), fa, (F 16), dn, dn, dn, ty, mn), rfl, ⟨rfl, hz166, hz167, hz168, hz169, hz170, hz171, hz172⟩, by rw [ht9]; exact hP, hD⟩, hS.F ht9⟩) hS.2.2 dX12_lookAt_219
    · refine lv_topi (fun x173 e174 => ?_)
      obtain rfl : x173 = 10 := e174.trans ek
      refine lv_tableIn (tgt := 220) (off := 205) hx hb dX12_lookAt_15 (by decide) (by decide) (by decide) (by decide) ?_
      refine lv_aload_n hx hb dX12_lookAt_220 rfl (lv_at hl 0 rfl) ?_
      refine lv_aload_n hx hb dX12_lookAt_221 rfl (lv_at hl 0 rfl) ?_
      refine r_get (v := .ref (a 12)) hx hb hown hq hE hP 20 47 tFX12_20 (by decide) pw_1442 rfl dX12_lookAt_222 ?_
      refine lv_iload_n hx hb dX12_lookAt_225 rfl (lv_at hl 1 rfl) ?_
      refine r_ldi (f := (B 12)) (j := n9) hx hb hE hP 12 (ma_12 G a _) rfl (by omega) (by decide) dX12_lookAt_226 ?_
      obtain ⟨c175, e176, h177, hp178, h179, hc180, hh181, hg182⟩ := Fs2.kid (kk := 10) (s := 1) hF hn9 ek (by decide) (by decide) (by decide) (by decide) (by omega)
      refine lv_topi (fun x183 e184 => ?_)
      obtain rfl : x183 = nI c175 := e184.trans e176
      refine lv_iconst (v := 1) hx hb dX12_lookAt_227 (by decide) ?_
      have hP : va_P G.1 pCl (mW G h0 a (upd (upd (upd (upd (upd (upd (upd (upd (upd (upd (upd (upd (upd (upd (upd (upd F 15 (nI fa)) 44 (nI fd)) 49 (nI md)) 73 (nI sc)) 74 (nI k9)) 77 dn) 78 wt) 79 wf) 15 (nI fa)) 44 (nI fd)) 49 (nI md)) 73 (nI sc)) 74 (nI k9)) 77 dn) 78 wt) 79 wf) (updA (updA (updA (updA (updA B 14 nc) 17 ty) 18 mn) 48 vn) 49 vt)) _ := hP
      have hD : va_D A (mW G h0 a (upd (upd (upd (upd (upd (upd (upd (upd (upd (upd (upd (upd (upd (upd (upd (upd F 15 (nI fa)) 44 (nI fd)) 49 (nI md)) 73 (nI sc)) 74 (nI k9)) 77 dn) 78 wt) 79 wf) 15 (nI fa)) 44 (nI fd)) 49 (nI md)) 73 (nI sc)) 74 (nI k9)) 77 dn) 78 wt) 79 wf) (updA (updA (updA (updA (updA B 14 nc) 17 ty) 18 mn) 48 vn) 49 vt)) := mW_D hD
      refine pc_V0 (G := G) (As := [.int (nI c175), .int (nI 1)]) (rest := []) hx hb hml hown hq hE hX pX0_al hP hD hS hA hl.1 (ihW h0 a (upd (upd (upd (upd (upd (upd (upd (upd F 15 (nI fa)) 44 (nI fd)) 49 (nI md)) 73 (nI sc)) 74 (nI k9)) 77 dn) 78 wt) 79 wf) B c175 fa sc k9 nd T nm wr lz dc fd md pr bk gh dn wt wf nc ty mn vn vt 1 hst hnm h177 (by omega) (by omega) (by omega) hk9 hnc hmn hvt (show kcl 1 _ = true from hc180) (by omega)) (gV pw_1826 pw_1827 pw_1828 pw_1523 pw_1865) hV_X12_wants 0 9 rfl rfl rfl rfl (Nat.le_of_ble_eq_true rfl) dX12_lookAt_228 ⟨Nat.le_of_ble_eq_true rfl, Nat.le_of_ble_eq_true rfl⟩ ⟨(by show (4 * (z9 - 1) + 12) + 1 ≤ (4 * z9 + 10); omega), (by show 8 + (4 + 11) + (160 * (z9 - 1) + 1480) ≤ (160 * z9 + 1400); omega)⟩ (fun v187 u185 H locs hw186 hP hD hS => ?_)
      obtain ⟨fa188, pl189, dn190, wt191, wf192, ty193, mn194⟩ := u185
      obtain ⟨hw186, h195, h196, h197, h198, h199⟩ := hw186
      replace h195 : fa ≤ fa188 := h195
      replace h196 : fa188 ≤ 15 := h196
      replace h197 : ChE B nd c175 ty ty193 mn mn194 := h197
      replace h198 : mnN B nd mn194 := h198
      replace h199 : If (fa188 = 0) (Typ B dc fd md nd ty193 mn194 vt sc k9 c175 ∧ ty193 c175 = nI 1) := h199
      obtain rfl : v187 = none := hw186
      have hP : va_P G.1 pCl (mW G h0 a (upd (upd (upd (upd (upd (upd (upd (upd (upd F 15 (nI fa188)) 16 pl189) 44 (nI fd)) 49 (nI md)) 73 (nI sc)) 74 (nI k9)) 77 dn190) 78 wt191) 79 wf192) (updA (updA (updA (updA (updA B 14 nc) 17 ty193) 18 mn194) 48 vn) 49 vt)) _ := mW_to (F := F) (l1 := [(15, (nI fa)), (44, (nI fd)), (49, (nI md)), (73, (nI sc)), (74, (nI k9)), (77, dn), (78, wt), (79, wf), (15, (nI fa188)), (16, pl189), (44, (nI fd)), (49, (nI md)), (73, (nI sc)), (74, (nI k9)), (77, dn190), (78, wt191), (79, wf192)]) (l2 := [(15, (nI fa188)), (16, pl189), (44, (nI fd)), (49, (nI md)), (73, (nI sc)), (74, (nI k9)), (77, dn190), (78, wt191), (79, wf192)]) (V := [(nI fa188), (nI fd), (nI md), (nI sc), (nI k9), dn190, wt191, wf192, (nI fa188), pl189, (nI fd), (nI md), (nI sc), (nI k9), dn190, wt191, wf192, (nI fa188), pl189, (nI fd), (nI md), (nI sc), (nI k9), dn190, wt191, wf192]) rfl rfl rfl hP
      have hD : va_D A (mW G h0 a (upd (upd (upd (upd (upd (upd (upd (upd (upd F 15 (nI fa188)) 16 pl189) 44 (nI fd)) 49 (nI md)) 73 (nI sc)) 74 (nI k9)) 77 dn190) 78 wt191) 79 wf192) (updA (updA (updA (updA (updA B 14 nc) 17 ty193) 18 mn194) 48 vn) 49 vt)) := mW_D hD
      refine W.widen (k := 0) (n := 0) (Nat.le_of_ble_eq_true rfl) (Nat.le_of_ble_eq_true rfl) ?_
      refine W.eq (g2 := F0 m 231 ls []) rfl ?_
      have hch200 : ChE B nd n9 ty ty193 mn mn194 := (ChE.trans ChE.rfl (ChE.kid h197 (by omega) hp178))
      refine lv_aload_n hx hb dX12_lookAt_231 rfl (lv_at hl 0 rfl) ?_
      refine lv_sipush (v := 1000) hx hb dX12_lookAt_232 (by decide) ?_
      refine lv_aload_n hx hb dX12_lookAt_235 rfl (lv_at hl 0 rfl) ?_
      refine r_get (v := .ref (a 21)) hx hb hown hq hE hP 30 75 tFX12_30 (by decide) pw_1452 rfl dX12_lookAt_236 ?_
      refine lv_aload_n hx hb dX12_lookAt_239 rfl (lv_at hl 0 rfl) ?_
      refine r_get (v := .ref (a 13)) hx hb hown hq hE hP 21 50 tFX12_21 (by decide) pw_1443 rfl dX12_lookAt_240 ?_
      refine lv_iload_n hx hb dX12_lookAt_243 rfl (lv_at hl 1 rfl) ?_
      refine r_ldi (f := (B 13)) (j := n9) hx hb hE hP 13 (ma_13 G a _) rfl (by omega) (by decide) dX12_lookAt_244 ?_
      obtain ⟨y201, e202, h203⟩ : ∃ y : Nat, B 13 n9 = nI y ∧ y < wr := by
        obtain ⟨k2, e2, _, k24, hs⟩ := hF.knd hn9
        have ek : k2 = 10 := (nI_eq (by omega) (by omega)).mp (e2.symm.trans ek)
        subst ek
        exact (hs 2 (by omega) (by omega)).1 (by decide)
      refine lv_topi (fun x207 e208 => ?_)
      obtain rfl : x207 = nI y201 := e208.trans e202
      refine r_ldi (f := (B 21)) (j := y201) hx hb hE hP 21 (ma_21 G a _) rfl (by omega) (by decide) dX12_lookAt_245 ?_
      obtain ⟨x209, e210, h211, h212, h213, h214⟩ := tyOK.tc (hTY y201 (by omega)) (by omega)
      refine lv_topi (fun x215 e216 => ?_)
      obtain rfl : x215 = nI x209 := e216.trans e210
      refine lv_iadd hx hb dX12_lookAt_246 ?_
      refine lv_topi (fun x217 e218 => ?_)
      obtain rfl : x217 = nI (1000 + x209) := e218.trans (nI_add (1000) (x209))
      have hP : va_P G.1 pCl (mW G h0 a (upd (upd (upd (upd (upd (upd (upd (upd (upd (upd F 15 (nI fa188)) 16 pl189) 44 (nI fd)) 49 (nI md)) 73 (nI sc)) 74 (nI k9)) 77 dn190) 78 wt191) 79 wf192) 77 dn190) (updA (updA (updA (updA (updA B 14 nc) 17 ty193) 18 mn194) 48 vn) 49 vt)) _ := hP
      have hD : va_D A (mW G h0 a (upd (upd (upd (upd (upd (upd (upd (upd (upd (upd F 15 (nI fa188)) 16 pl189) 44 (nI fd)) 49 (nI md)) 73 (nI sc)) 74 (nI k9)) 77 dn190) 78 wt191) 79 wf192) 77 dn190) (updA (updA (updA (updA (updA B 14 nc) 17 ty193) 18 mn194) 48 vn) 49 vt)) := mW_D hD
      refine pc_V0 (G := G) (As := [.int (nI (1000 + x209))]) (rest := []) hx hb hml hown hq hE hX pX0_al hP hD hS hA hl.1 (R_behind l G h0 a (upd (upd (upd (upd (upd (upd (upd (upd (upd F 15 (nI fa188)) 16 pl189) 44 (nI fd)) 49 (nI md)) 73 (nI sc)) 74 (nI k9)) 77 dn190) 78 wt191) 79 wf192) (updA (updA (updA (updA (updA B 14 nc) 17 ty193) 18 mn194) 48 vn) 49 vt) (nI (1000 + x209)) dn190) (gV pw_1832 pw_1833 pw_1834 pw_1523 pw_1804) hV_X12_behind 0 9 rfl rfl rfl rfl (Nat.le_of_ble_eq_true rfl) dX12_lookAt_247 ⟨Nat.le_of_ble_eq_true rfl, Nat.le_of_ble_eq_true rfl⟩ ⟨(by show 2 + 1 ≤ (4 * z9 + 10); omega), (by show 8 + (2 + 11) + 60 ≤ (160 * z9 + 1400); omega)⟩ (fun v221 u219 H locs hw220 hP hD hS => ?_)
      obtain rfl : v221 = some (.int (nI (1000 + x209))) := hw220
      have hP : va_P G.1 pCl (mW G h0 a (upd (upd (upd (upd (upd (upd (upd (upd (upd F 15 (nI fa188)) 16 pl189) 44 (nI fd)) 49 (nI md)) 73 (nI sc)) 74 (nI k9)) 77 dn190) 78 dn190) 79 dn190) (updA (updA (updA (updA (updA B 14 nc) 17 ty193) 18 mn194) 48 vn) 49 vt)) _ := mW_to (F := F) (l1 := [(15, (nI fa188)), (16, pl189), (44, (nI fd)), (49, (nI md)), (73, (nI sc)), (74, (nI k9)), (77, dn190), (78, wt191), (79, wf192), (77, dn190), (78, dn190), (79, dn190)]) (l2 := [(15, (nI fa188)), (16, pl189), (44, (nI fd)), (49, (nI md)), (73, (nI sc)), (74, (nI k9)), (77, dn190), (78, dn190), (79, dn190)]) (V := [(nI fa188), pl189, (nI fd), (nI md), (nI sc), (nI k9), dn190, dn190, dn190, dn190, dn190, dn190, (nI fa188), pl189, (nI fd), (nI md), (nI sc), (nI k9), dn190, dn190, dn190]) rfl rfl rfl hP
      have hD : va_D A (mW G h0 a (upd (upd (upd (upd (upd (upd (upd (upd (upd F 15 (nI fa188)) 16 pl189) 44 (nI fd)) 49 (nI md)) 73 (nI sc)) 74 (nI k9)) 77 dn190) 78 dn190) 79 dn190) (updA (updA (updA (updA (updA B 14 nc) 17 ty193) 18 mn194) 48 vn) 49 vt)) := mW_D hD
      refine W.widen (k := 0) (n := 0) (Nat.le_of_ble_eq_true rfl) (Nat.le_of_ble_eq_true rfl) ?_
      refine W.eq (g2 := F0 m 250 ls [.int (nI (1000 + x209))]) rfl ?_
      have hz222 : fa ≤ fa188 := (by omega)
      have hz223 : fa188 ≤ 15 := (by omega)
      have hz224 : TyC dc (1000 + x209) := h212
      have hz225 : (1000 + x209) ≤ 2050 := (by omega)
      have hz226 : ChE B nd n9 ty ty193 mn mn194 := hch200
      have hz227 : mnN B nd mn194 := h198
      have hz228 : If (fa188 = 0) (Typ0 B dc fd md nd ty193 mn194 vt sc k9 n9 (nI (1000 + x209))) := (fun e => Typ0.of (kids (kk := 10) (c1 := c175) (c2 := c175) (c3 := c175) ek (by decide) ⟨by omega, by omega, by omega⟩ (Or.inr ⟨by decide, e176⟩) (Or.inl (by decide)) (Or.inl (by decide)) (by decide) ((fun e => (h199 e).1) (by omega)) ((fun e => (h199 e).1) (by omega)) ((fun e => (h199 e).1) (by omega))) (LT10 ek hh181 (h199 (by omega)).2 e202 e210 (by omega)))
      have hP : va_P G.1 pCl (mW G h0 a (upd (upd (upd (upd (upd (upd (upd (upd (upd F 15 (nI fa188)) 16 pl189) 44 (nI fd)) 49 (nI md)) 73 (nI sc)) 74 (nI k9)) 77 dn190) 78 dn190) 79 dn190) (updA (updA (updA (updA (updA B 14 nc) 17 ty193) 18 mn194) 48 vn) 49 vt)) _ := hP
      have hD : va_D A (mW G h0 a (upd (upd (upd (upd (upd (upd (upd (upd (upd F 15 (nI fa188)) 16 pl189) 44 (nI fd)) 49 (nI md)) 73 (nI sc)) 74 (nI k9)) 77 dn190) 78 dn190) 79 dn190) (updA (updA (updA (updA (updA B 14 nc) 17 ty193) 18 mn194) 48 vn) 49 vt)) := mW_D hD
      exact W.iret (v := (nI (1000 + x209))) hx hb hr (fun t9 ht9 hW9 => ⟨⟨_, ((1000 + x209), fa188, pl189, dn190, dn190, dn190, ty193, mn194), rfl, ⟨rfl, hz222, hz223, hz224, hz225, hz226, hz227, hz228⟩, by rw [ht9]; exact hP, hD⟩, hS.F ht9⟩) hS.2.2 dX12_lookAt_250
    · refine lv_topi (fun x229 e230 => ?_)
      obtain rfl : x229 = 11 := e230.trans ek
      refine lv_tableIn (tgt := 116) (off := 101) hx hb dX12_lookAt_15 (by decide) (by decide) (by decide) (by decide) ?_
      refine lv_aload_n hx hb dX12_lookAt_116 rfl (lv_at hl 0 rfl) ?_
      refine lv_iconst (v := 1) hx hb dX12_lookAt_117 (by decide) ?_
      have hP : va_P G.1 pCl (mW G h0 a (upd (upd (upd (upd (upd (upd (upd (upd (upd F 15 (nI fa)) 44 (nI fd)) 49 (nI md)) 73 (nI sc)) 74 (nI k9)) 77 dn) 78 wt) 79 wf) 77 dn) (updA (updA (updA (updA (updA B 14 nc) 17 ty) 18 mn) 48 vn) 49 vt)) _ := hP
      have hD : va_D A (mW G h0 a (upd (upd (upd (upd (upd (upd (upd (upd (upd F 15 (nI fa)) 44 (nI fd)) 49 (nI md)) 73 (nI sc)) 74 (nI k9)) 77 dn) 78 wt) 79 wf) 77 dn) (updA (updA (updA (updA (updA B 14 nc) 17 ty) 18 mn) 48 vn) 49 vt)) := mW_D hD
      refine pc_V0 (G := G) (As := [.int 1]) (rest := []) hx hb hml hown hq hE hX pX0_al hP hD hS hA hl.1 (R_behind l G h0 a (upd (upd (upd (upd (upd (upd (upd (upd F 15 (nI fa)) 44 (nI fd)) 49 (nI md)) 73 (nI sc)) 74 (nI k9)) 77 dn) 78 wt) 79 wf) (updA (updA (updA (updA (updA B 14 nc) 17 ty) 18 mn) 48 vn) 49 vt) 1 dn) (gV pw_1832 pw_1833 pw_1834 pw_1523 pw_1804) hV_X12_behind 0 9 rfl rfl rfl rfl (Nat.le_of_ble_eq_true rfl) dX12_lookAt_118 ⟨Nat.le_of_ble_eq_true rfl, Nat.le_of_ble_eq_true rfl⟩ ⟨(by show 2 + 1 ≤ (4 * z9 + 10); omega), (by show 8 + (2 + 11) + 60 ≤ (160 * z9 + 1400); omega)⟩ (fun v233 u231 H locs hw232 hP hD hS => ?_)
      obtain rfl : v233 = some (.int 1) := hw232
      have hP : va_P G.1 pCl (mW G h0 a (upd (upd (upd (upd (upd (upd (upd (upd F 15 (nI fa)) 44 (nI fd)) 49 (nI md)) 73 (nI sc)) 74 (nI k9)) 77 dn) 78 dn) 79 dn) (updA (updA (updA (updA (updA B 14 nc) 17 ty) 18 mn) 48 vn) 49 vt)) _ := mW_to (F := F) (l1 := [(15, (nI fa)), (44, (nI fd)), (49, (nI md)), (73, (nI sc)), (74, (nI k9)), (77, dn), (78, wt), (79, wf), (77, dn), (78, dn), (79, dn)]) (l2 := [(15, (nI fa)), (44, (nI fd)), (49, (nI md)), (73, (nI sc)), (74, (nI k9)), (77, dn), (78, dn), (79, dn)]) (V := [(nI fa), (nI fd), (nI md), (nI sc), (nI k9), dn, dn, dn, dn, dn, dn, (nI fa), (nI fd), (nI md), (nI sc), (nI k9), dn, dn, dn]) rfl rfl rfl hP
      have hD : va_D A (mW G h0 a (upd (upd (upd (upd (upd (upd (upd (upd F 15 (nI fa)) 44 (nI fd)) 49 (nI md)) 73 (nI sc)) 74 (nI k9)) 77 dn) 78 dn) 79 dn) (updA (updA (updA (updA (updA B 14 nc) 17 ty) 18 mn) 48 vn) 49 vt)) := mW_D hD
      refine W.widen (k := 0) (n := 0) (Nat.le_of_ble_eq_true rfl) (Nat.le_of_ble_eq_true rfl) ?_
      refine W.eq (g2 := F0 m 121 ls [.int 1]) rfl ?_
      have hz234 : fa ≤ fa := (by omega)
      have hz235 : fa ≤ 15 := (by omega)
      have hz236 : TyC dc 1 := (by unfold TyC; omega)
      have hz237 : 1 ≤ 2050 := (by omega)
      have hz238 : ChE B nd n9 ty ty mn mn := ChE.rfl
      have hz239 : mnN B nd mn := hmn
      have hz240 : If (fa = 0) (Typ0 B dc fd md nd ty mn vt sc k9 n9 (nI 1)) := (fun e => Typ0.of (kids0 (kk := 11) ek (by decide) (by decide)) (LT11 ek))
      have hP : va_P G.1 pCl (mW G h0 a (upd (upd (upd (upd (upd (upd (upd (upd (upd F 15 (nI fa)) 16 (F 16)) 44 (nI fd)) 49 (nI md)) 73 (nI sc)) 74 (nI k9)) 77 dn) 78 dn) 79 dn) (updA (updA (updA (updA (updA B 14 nc) 17 ty) 18 mn) 48 vn) 49 vt)) _ := mW_to (F := F) (l1 := [(15, (nI fa)), (44, (nI fd)), (49, (nI md)), (73, (nI sc)), (74, (nI k9)), (77, dn), (78, dn), (79, dn)]) (l2 := [(15, (nI fa)), (16, (F 16)), (44, (nI fd)), (49, (nI md)), (73, (nI sc)), (74, (nI k9)), (77, dn), (78, dn), (79, dn)]) (V := [(nI fa), (nI fd), (nI md), (nI sc), (nI k9), dn, dn, dn, (nI fa), (F 16), (nI fd), (nI md), (nI sc), (nI k9), dn, dn, dn]) rfl rfl rfl hP
      have hD : va_D A (mW G h0 a (upd (upd (upd (upd (upd (upd (upd (upd (upd F 15 (nI fa)) 16 (F 16)) 44 (nI fd)) 49 (nI md)) 73 (nI sc)) 74 (nI k9)) 77 dn) 78 dn) 79 dn) (updA (updA (updA (updA (updA B 14 nc) 17 ty) 18 mn) 48 vn) 49 vt)) := mW_D hD
      exact W.iret (v := 1) hx hb hr (fun t9 ht9 hW9 => ⟨⟨_, (1, fa, (F 16), dn, dn, dn, ty, mn), rfl, ⟨rfl, hz234, hz235, hz236, hz237, hz238, hz239, hz240⟩, by rw [ht9]; exact hP, hD⟩, hS.F ht9⟩) hS.2.2 dX12_lookAt_121
    · refine lv_topi (fun x241 e242 => ?_)
      obtain rfl : x241 = 12 := e242.trans ek
      refine lv_tableIn (tgt := 251) (off := 236) hx hb dX12_lookAt_15 (by decide) (by decide) (by decide) (by decide) ?_
      refine lv_aload_n hx hb dX12_lookAt_251 rfl (lv_at hl 0 rfl) ?_
      refine lv_aload_n hx hb dX12_lookAt_252 rfl (lv_at hl 0 rfl) ?_
      refine lv_iload_n hx hb dX12_lookAt_253 rfl (lv_at hl 1 rfl) ?_
      have hP : va_P G.1 pCl (mW G h0 a (upd (upd (upd (upd (upd (upd (upd (upd (upd (upd (upd (upd (upd (upd (upd (upd F 15 (nI fa)) 44 (nI fd)) 49 (nI md)) 73 (nI sc)) 74 (nI k9)) 77 dn) 78 wt) 79 wf) 15 (nI fa)) 44 (nI fd)) 49 (nI md)) 73 (nI sc)) 74 (nI k9)) 77 dn) 78 wt) 79 wf) (updA (updA (updA (updA (updA B 14 nc) 17 ty) 18 mn) 48 vn) 49 vt)) _ := hP
      have hD : va_D A (mW G h0 a (upd (upd (upd (upd (upd (upd (upd (upd (upd (upd (upd (upd (upd (upd (upd (upd F 15 (nI fa)) 44 (nI fd)) 49 (nI md)) 73 (nI sc)) 74 (nI k9)) 77 dn) 78 wt) 79 wf) 15 (nI fa)) 44 (nI fd)) 49 (nI md)) 73 (nI sc)) 74 (nI k9)) 77 dn) 78 wt) 79 wf) (updA (updA (updA (updA (updA B 14 nc) 17 ty) 18 mn) 48 vn) 49 vt)) := mW_D hD
      refine pc_V0 (G := G) (As := [.int (nI n9)]) (rest := [.ref h0]) hx hb hml hown hq hE hX pX0_al hP hD hS hA hl.1 (L_fielded l G h0 a (upd (upd (upd (upd (upd (upd (upd (upd F 15 (nI fa)) 44 (nI fd)) 49 (nI md)) 73 (nI sc)) 74 (nI k9)) 77 dn) 78 wt) 79 wf) B n9 z9 fa sc k9 nd T nm wr lz dc fd md pr bk gh dn wt wf nc ty mn vn vt hst hnm hn9 (by omega) (by omega) (by omega) hk9 hnc hmn hvt ek ihL) (gV pw_1841 pw_1842 pw_1843 pw_1523 pw_1821) hV_X12_fielded 0 9 rfl rfl rfl rfl (Nat.le_of_ble_eq_true rfl) dX12_lookAt_254 ⟨Nat.le_of_ble_eq_true rfl, Nat.le_of_ble_eq_true rfl⟩ ⟨(by show (4 * z9 + 9) + 1 ≤ (4 * z9 + 10); omega), (by show 8 + (4 + 11) + (160 * z9 + 1360) ≤ (160 * z9 + 1400); omega)⟩ (fun v245 u243 H locs hw244 hP hD hS => ?_)
      obtain ⟨r246, fa247, pl248, dn249, wt250, wf251, ty252, mn253⟩ := u243
      obtain ⟨hw244, h254, h255, h256, h257, h258, h259, h260⟩ := hw244
      replace h254 : fa ≤ fa247 := h254
      replace h255 : fa247 ≤ 15 := h255
      replace h256 : TyC dc r246 := h256
      replace h257 : r246 ≤ 2050 := h257
      replace h258 : ChE B nd n9 ty ty252 mn mn253 := h258
      replace h259 : mnN B nd mn253 := h259
      replace h260 : If (fa247 = 0) (Typ0 B dc fd md nd ty252 mn253 vt sc k9 n9 (nI r246)) := h260
      obtain rfl : v245 = some (.int (nI r246)) := hw244
      have hP : va_P G.1 pCl (mW G h0 a (upd (upd (upd (upd (upd (upd (upd (upd (upd F 15 (nI fa247)) 16 pl248) 44 (nI fd)) 49 (nI md)) 73 (nI sc)) 74 (nI k9)) 77 dn249) 78 wt250) 79 wf251) (updA (updA (updA (updA (updA B 14 nc) 17 ty252) 18 mn253) 48 vn) 49 vt)) _ := mW_to (F := F) (l1 := [(15, (nI fa)), (44, (nI fd)), (49, (nI md)), (73, (nI sc)), (74, (nI k9)), (77, dn), (78, wt), (79, wf), (15, (nI fa247)), (16, pl248), (44, (nI fd)), (49, (nI md)), (73, (nI sc)), (74, (nI k9)), (77, dn249), (78, wt250), (79, wf251)]) (l2 := [(15, (nI fa247)), (16, pl248), (44, (nI fd)), (49, (nI md)), (73, (nI sc)), (74, (nI k9)), (77, dn249), (78, wt250), (79, wf251)]) (V := [(nI fa247), (nI fd), (nI md), (nI sc), (nI k9), dn249, wt250, wf251, (nI fa247), pl248, (nI fd), (nI md), (nI sc), (nI k9), dn249, wt250, wf251, (nI fa247), pl248, (nI fd), (nI md), (nI sc), (nI k9), dn249, wt250, wf251]) rfl rfl rfl hP
      have hD : va_D A (mW G h0 a (upd (upd (upd (upd (upd (upd (upd (upd (upd F 15 (nI fa247)) 16 pl248) 44 (nI fd)) 49 (nI md)) 73 (nI sc)) 74 (nI k9)) 77 dn249) 78 wt250) 79 wf251) (updA (updA (updA (updA (updA B 14 nc) 17 ty252) 18 mn253) 48 vn) 49 vt)) := mW_D hD
      refine W.widen (k := 0) (n := 0) (Nat.le_of_ble_eq_true rfl) (Nat.le_of_ble_eq_true rfl) ?_
      refine W.eq (g2 := F0 m 257 ls [.int (nI r246), .ref h0]) rfl ?_
      have hch261 : ChE B nd n9 ty ty252 mn mn253 := (ChE.trans ChE.rfl h258)
      have hP : va_P G.1 pCl (mW G h0 a (upd (upd (upd (upd (upd (upd (upd (upd (upd (upd F 15 (nI fa247)) 16 pl248) 44 (nI fd)) 49 (nI md)) 73 (nI sc)) 74 (nI k9)) 77 dn249) 78 wt250) 79 wf251) 77 dn249) (updA (updA (updA (updA (updA B 14 nc) 17 ty252) 18 mn253) 48 vn) 49 vt)) _ := mW_to (F := F) (l1 := [(15, (nI fa247)), (16, pl248), (44, (nI fd)), (49, (nI md)), (73, (nI sc)), (74, (nI k9)), (77, dn249), (78, wt250), (79, wf251)]) (l2 := [(15, (nI fa247)), (16, pl248), (44, (nI fd)), (49, (nI md)), (73, (nI sc)), (74, (nI k9)), (77, dn249), (78, wt250), (79, wf251), (77, dn249)]) (V := [(nI fa247), pl248, (nI fd), (nI md), (nI sc), (nI k9), dn249, wt250, wf251, (nI fa247), pl248, (nI fd), (nI md), (nI sc), (nI k9), dn249, wt250, wf251, dn249]) rfl rfl rfl hP
      have hD : va_D A (mW G h0 a (upd (upd (upd (upd (upd (upd (upd (upd (upd (upd F 15 (nI fa247)) 16 pl248) 44 (nI fd)) 49 (nI md)) 73 (nI sc)) 74 (nI k9)) 77 dn249) 78 wt250) 79 wf251) 77 dn249) (updA (updA (updA (updA (updA B 14 nc) 17 ty252) 18 mn253) 48 vn) 49 vt)) := mW_D hD
      refine pc_V0 (G := G) (As := [.int (nI r246)]) (rest := []) hx hb hml hown hq hE hX pX0_al hP hD hS hA hl.1 (R_behind l G h0 a (upd (upd (upd (upd (upd (upd (upd (upd (upd F 15 (nI fa247)) 16 pl248) 44 (nI fd)) 49 (nI md)) 73 (nI sc)) 74 (nI k9)) 77 dn249) 78 wt250) 79 wf251) (updA (updA (updA (updA (updA B 14 nc) 17 ty252) 18 mn253) 48 vn) 49 vt) (nI r246) dn249) (gV pw_1832 pw_1833 pw_1834 pw_1523 pw_1804) hV_X12_behind 0 9 rfl rfl rfl rfl (Nat.le_of_ble_eq_true rfl) dX12_lookAt_257 ⟨Nat.le_of_ble_eq_true rfl, Nat.le_of_ble_eq_true rfl⟩ ⟨(by show 2 + 1 ≤ (4 * z9 + 10); omega), (by show 8 + (2 + 11) + 60 ≤ (160 * z9 + 1400); omega)⟩ (fun v264 u262 H locs hw263 hP hD hS => ?_)
      obtain rfl : v264 = some (.int (nI r246)) := hw263
      have hP : va_P G.1 pCl (mW G h0 a (upd (upd (upd (upd (upd (upd (upd (upd (upd F 15 (nI fa247)) 16 pl248) 44 (nI fd)) 49 (nI md)) 73 (nI sc)) 74 (nI k9)) 77 dn249) 78 dn249) 79 dn249) (updA (updA (updA (updA (updA B 14 nc) 17 ty252) 18 mn253) 48 vn) 49 vt)) _ := mW_to (F := F) (l1 := [(15, (nI fa247)), (16, pl248), (44, (nI fd)), (49, (nI md)), (73, (nI sc)), (74, (nI k9)), (77, dn249), (78, wt250), (79, wf251), (77, dn249), (78, dn249), (79, dn249)]) (l2 := [(15, (nI fa247)), (16, pl248), (44, (nI fd)), (49, (nI md)), (73, (nI sc)), (74, (nI k9)), (77, dn249), (78, dn249), (79, dn249)]) (V := [(nI fa247), pl248, (nI fd), (nI md), (nI sc), (nI k9), dn249, dn249, dn249, dn249, dn249, dn249, (nI fa247), pl248, (nI fd), (nI md), (nI sc), (nI k9), dn249, dn249, dn249]) rfl rfl rfl hP
      have hD : va_D A (mW G h0 a (upd (upd (upd (upd (upd (upd (upd (upd (upd F 15 (nI fa247)) 16 pl248) 44 (nI fd)) 49 (nI md)) 73 (nI sc)) 74 (nI k9)) 77 dn249) 78 dn249) 79 dn249) (updA (updA (updA (updA (updA B 14 nc) 17 ty252) 18 mn253) 48 vn) 49 vt)) := mW_D hD
      refine W.widen (k := 0) (n := 0) (Nat.le_of_ble_eq_true rfl) (Nat.le_of_ble_eq_true rfl) ?_
      refine W.eq (g2 := F0 m 260 ls [.int (nI r246)]) rfl ?_
      have hz265 : fa ≤ fa247 := (by omega)
      have hz266 : fa247 ≤ 15 := (by omega)
      have hz267 : TyC dc r246 := h256
      have hz268 : r246 ≤ 2050 := (by omega)
      have hz269 : ChE B nd n9 ty ty252 mn mn253 := hch261
      have hz270 : mnN B nd mn253 := h259
      have hz271 : If (fa247 = 0) (Typ0 B dc fd md nd ty252 mn253 vt sc k9 n9 (nI r246)) := (fun e => h260 (by omega))
      have hP : va_P G.1 pCl (mW G h0 a (upd (upd (upd (upd (upd (upd (upd (upd (upd F 15 (nI fa247)) 16 pl248) 44 (nI fd)) 49 (nI md)) 73 (nI sc)) 74 (nI k9)) 77 dn249) 78 dn249) 79 dn249) (updA (updA (updA (updA (updA B 14 nc) 17 ty252) 18 mn253) 48 vn) 49 vt)) _ := hP
      have hD : va_D A (mW G h0 a (upd (upd (upd (upd (upd (upd (upd (upd (upd F 15 (nI fa247)) 16 pl248) 44 (nI fd)) 49 (nI md)) 73 (nI sc)) 74 (nI k9)) 77 dn249) 78 dn249) 79 dn249) (updA (updA (updA (updA (updA B 14 nc) 17 ty252) 18 mn253) 48 vn) 49 vt)) := mW_D hD
      exact W.iret (v := (nI r246)) hx hb hr (fun t9 ht9 hW9 => ⟨⟨_, (r246, fa247, pl248, dn249, dn249, dn249, ty252, mn253), rfl, ⟨rfl, hz265, hz266, hz267, hz268, hz269, hz270, hz271⟩, by rw [ht9]; exact hP, hD⟩, hS.F ht9⟩) hS.2.2 dX12_lookAt_260
    · refine lv_topi (fun x272 e273 => ?_)
      obtain rfl : x272 = 13 := e273.trans ek
      refine lv_tableIn (tgt := 261) (off := 246) hx hb dX12_lookAt_15 (by decide) (by decide) (by decide) (by decide) ?_
      refine lv_aload_n hx hb dX12_lookAt_261 rfl (lv_at hl 0 rfl) ?_
      refine lv_aload_n hx hb dX12_lookAt_262 rfl (lv_at hl 0 rfl) ?_
      refine r_get (v := .ref (a 12)) hx hb hown hq hE hP 20 47 tFX12_20 (by decide) pw_1442 rfl dX12_lookAt_263 ?_
      refine lv_iload_n hx hb dX12_lookAt_266 rfl (lv_at hl 1 rfl) ?_
      refine r_ldi (f := (B 12)) (j := n9) hx hb hE hP 12 (ma_12 G a _) rfl (by omega) (by decide) dX12_lookAt_267 ?_
      obtain ⟨c274, e275, h276, hp277, h278, hc279, hh280, hg281⟩ := Fs2.kid (kk := 13) (s := 1) hF hn9 ek (by decide) (by decide) (by decide) (by decide) (by omega)
      refine lv_topi (fun x282 e283 => ?_)
      obtain rfl : x282 = nI c274 := e283.trans e275
      have hP : va_P G.1 pCl (mW G h0 a (upd (upd (upd (upd (upd (upd (upd (upd (upd (upd (upd (upd (upd (upd (upd (upd F 15 (nI fa)) 44 (nI fd)) 49 (nI md)) 73 (nI sc)) 74 (nI k9)) 77 dn) 78 wt) 79 wf) 15 (nI fa)) 44 (nI fd)) 49 (nI md)) 73 (nI sc)) 74 (nI k9)) 77 dn) 78 wt) 79 wf) (updA (updA (updA (updA (updA B 14 nc) 17 ty) 18 mn) 48 vn) 49 vt)) _ := hP
      have hD : va_D A (mW G h0 a (upd (upd (upd (upd (upd (upd (upd (upd (upd (upd (upd (upd (upd (upd (upd (upd F 15 (nI fa)) 44 (nI fd)) 49 (nI md)) 73 (nI sc)) 74 (nI k9)) 77 dn) 78 wt) 79 wf) 15 (nI fa)) 44 (nI fd)) 49 (nI md)) 73 (nI sc)) 74 (nI k9)) 77 dn) 78 wt) 79 wf) (updA (updA (updA (updA (updA B 14 nc) 17 ty) 18 mn) 48 vn) 49 vt)) := mW_D hD
      refine pc_V0 (G := G) (As := [.int (nI c274)]) (rest := []) hx hb hml hown hq hE hX pX0_al hP hD hS hA hl.1 (ihL h0 a (upd (upd (upd (upd (upd (upd (upd (upd F 15 (nI fa)) 44 (nI fd)) 49 (nI md)) 73 (nI sc)) 74 (nI k9)) 77 dn) 78 wt) 79 wf) B c274 fa sc k9 nd T nm wr lz dc fd md pr bk gh dn wt wf nc ty mn vn vt hst hnm h276 (by omega) (by omega) (by omega) hk9 hnc hmn hvt (show kcl 1 _ = true from hc279)) (gV pw_1822 pw_1823 pw_1824 pw_1523 pw_1830) hV_X12_look 0 9 rfl rfl rfl rfl (Nat.le_of_ble_eq_true rfl) dX12_lookAt_268 ⟨Nat.le_of_ble_eq_true rfl, Nat.le_of_ble_eq_true rfl⟩ ⟨(by show (4 * (z9 - 1) + 11) + 1 ≤ (4 * z9 + 10); omega), (by show 8 + (3 + 11) + (160 * (z9 - 1) + 1440) ≤ (160 * z9 + 1400); omega)⟩ (fun v286 u284 H locs hw285 hP hD hS => ?_)
      obtain ⟨r287, fa288, pl289, dn290, wt291, wf292, ty293, mn294⟩ := u284
      obtain ⟨hw285, h295, h296, h297, h298, h299, h300, h301, h302⟩ := hw285
      replace h295 : fa ≤ fa288 := h295
      replace h296 : fa288 ≤ 15 := h296
      replace h297 : TyC dc r287 := h297
      replace h298 : r287 ≤ 2050 := h298
      replace h299 : ChE B nd c274 ty ty293 mn mn294 := h299
      replace h300 : mnN B nd mn294 := h300
      replace h301 : If (fa288 = 0) (Typ B dc fd md nd ty293 mn294 vt sc k9 c274) := h301
      replace h302 : ty293 c274 = nI r287 := h302
      obtain rfl : v286 = some (.int (nI r287)) := hw285
      have hP : va_P G.1 pCl (mW G h0 a (upd (upd (upd (upd (upd (upd (upd (upd (upd F 15 (nI fa288)) 16 pl289) 44 (nI fd)) 49 (nI md)) 73 (nI sc)) 74 (nI k9)) 77 dn290) 78 wt291) 79 wf292) (updA (updA (updA (updA (updA B 14 nc) 17 ty293) 18 mn294) 48 vn) 49 vt)) _ := mW_to (F := F) (l1 := [(15, (nI fa)), (44, (nI fd)), (49, (nI md)), (73, (nI sc)), (74, (nI k9)), (77, dn), (78, wt), (79, wf), (15, (nI fa288)), (16, pl289), (44, (nI fd)), (49, (nI md)), (73, (nI sc)), (74, (nI k9)), (77, dn290), (78, wt291), (79, wf292)]) (l2 := [(15, (nI fa288)), (16, pl289), (44, (nI fd)), (49, (nI md)), (73, (nI sc)), (74, (nI k9)), (77, dn290), (78, wt291), (79, wf292)]) (V := [(nI fa288), (nI fd), (nI md), (nI sc), (nI k9), dn290, wt291, wf292, (nI fa288), pl289, (nI fd), (nI md), (nI sc), (nI k9), dn290, wt291, wf292, (nI fa288), pl289, (nI fd), (nI md), (nI sc), (nI k9), dn290, wt291, wf292]) rfl rfl rfl hP
      have hD : va_D A (mW G h0 a (upd (upd (upd (upd (upd (upd (upd (upd (upd F 15 (nI fa288)) 16 pl289) 44 (nI fd)) 49 (nI md)) 73 (nI sc)) 74 (nI k9)) 77 dn290) 78 wt291) 79 wf292) (updA (updA (updA (updA (updA B 14 nc) 17 ty293) 18 mn294) 48 vn) 49 vt)) := mW_D hD
      refine W.widen (k := 0) (n := 0) (Nat.le_of_ble_eq_true rfl) (Nat.le_of_ble_eq_true rfl) ?_
      refine W.eq (g2 := F0 m 271 ls [.int (nI r287)]) rfl ?_
      have hch303 : ChE B nd n9 ty ty293 mn mn294 := (ChE.trans ChE.rfl (ChE.kid h299 (by omega) hp277))
      refine lv_istore_n (lv' := [(2, .int (nI r287)), (0, .ref h0), (1, .int (nI n9))]) hx hb dX12_lookAt_271 rfl hl (by decide) rfl (fun ls hl => ?_)
      refine lv_aload_n hx hb dX12_lookAt_272 rfl (lv_at hl 1 rfl) ?_
      refine lv_iload_n hx hb dX12_lookAt_273 rfl (lv_at hl 0 rfl) ?_
      refine pc_SN (G := G) (As := [.int (nI r287)]) (rest := [.ref h0]) hx hb hml hown hq hE hX pX0_al hP hS hA hl.1 (s_isRow l G r287 (by omega)) (gS pw_1788 pw_1789 pw_1523 pw_1780) hS_X12_isRow rfl (Nat.le_of_ble_eq_true rfl) dX12_lookAt_274 ⟨Nat.le_of_ble_eq_true rfl, Nat.le_of_ble_eq_true rfl⟩ ⟨(by show 2 + 1 ≤ (4 * z9 + 10); omega), (by show 8 + (1 + 11) + 60 ≤ (160 * z9 + 1400); omega)⟩ (fun v306 u304 H locs hw305 hP hS => ?_)
      obtain ⟨r307, rfl, h308, h309, h310⟩ := hw305
      refine W.widen (k := 0) (n := 0) (Nat.le_of_ble_eq_true rfl) (Nat.le_of_ble_eq_true rfl) ?_
      refine W.eq (g2 := F0 m 277 ls [.int (nI r307), .ref h0]) rfl ?_
      refine lv_bipush (v := 11) hx hb dX12_lookAt_277 (by decide) ?_
      refine lv_aload_n hx hb dX12_lookAt_279 rfl (lv_at hl 1 rfl) ?_
      refine r_get (v := .ref (a 10)) hx hb hown hq hE hP 18 41 tFX12_18 (by decide) pw_1440 rfl dX12_lookAt_280 ?_
      refine lv_iload_n hx hb dX12_lookAt_283 rfl (lv_at hl 2 rfl) ?_
      refine r_ldi (f := (B 10)) (j := n9) hx hb hE hP 10 (ma_10 G a _) rfl (by omega) (by decide) dX12_lookAt_284 ?_
      obtain ⟨⟨t311, e312, h313⟩, -⟩ := hF n9 hn9
      refine lv_topi (fun x314 e315 => ?_)
      obtain rfl : x314 = nI t311 := e315.trans e312
      have hP : va_P G.1 pCl (mW G h0 a (upd (upd (upd (upd (upd (upd (upd (upd (upd (upd F 15 (nI fa288)) 16 pl289) 44 (nI fd)) 49 (nI md)) 73 (nI sc)) 74 (nI k9)) 77 dn290) 78 wt291) 79 wf292) 15 (nI fa288)) (updA (updA (updA (updA (updA B 14 nc) 17 ty293) 18 mn294) 48 vn) 49 vt)) _ := hP
      have hD : va_D A (mW G h0 a (upd (upd (upd (upd (upd (upd (upd (upd (upd (upd F 15 (nI fa288)) 16 pl289) 44 (nI fd)) 49 (nI md)) 73 (nI sc)) 74 (nI k9)) 77 dn290) 78 wt291) 79 wf292) 15 (nI fa288)) (updA (updA (updA (updA (updA B 14 nc) 17 ty293) 18 mn294) 48 vn) 49 vt)) := mW_D hD
      refine pc_V0 (G := G) (As := [.int (nI r307), .int (nI 11), .int (nI t311)]) (rest := []) hx hb hml hown hq hE hX pX0_al hP hD hS hA hl.1 (R_judgeL l G h0 a (upd (upd (upd (upd (upd (upd (upd (upd (upd F 15 (nI fa288)) 16 pl289) 44 (nI fd)) 49 (nI md)) 73 (nI sc)) 74 (nI k9)) 77 dn290) 78 wt291) 79 wf292) (updA (updA (updA (updA (updA B 14 nc) 17 ty293) 18 mn294) 48 vn) 49 vt) r307 11 t311 fa288 (by omega) (by omega) (by omega) (by omega)) (gV pw_1798 pw_1799 pw_1800 pw_1523 pw_1793) hV_X12_judge 0 9 rfl rfl rfl rfl (Nat.le_of_ble_eq_true rfl) dX12_lookAt_285 ⟨Nat.le_of_ble_eq_true rfl, Nat.le_of_ble_eq_true rfl⟩ ⟨(by show 3 + 1 ≤ (4 * z9 + 10); omega), (by show 8 + (4 + 11) + 82 ≤ (160 * z9 + 1400); omega)⟩ (fun v318 u316 H locs hw317 hP hD hS => ?_)
      obtain ⟨r319, fa320, pl321⟩ := u316
      obtain ⟨hw317, h322, h323, h324, h325, h326, h327, h328⟩ := hw317
      replace h322 : r319 ≤ 1 := h322
      replace h323 : fa288 ≤ fa320 := h323
      replace h324 : fa320 ≤ 15 := h324
      replace h325 : fa320 + 15 * r319 ≤ 15 := h325
      replace h326 : 1 ≤ r319 + fa320 := h326
      replace h327 : 1 ≤ r307 + fa320 := h327
      replace h328 : fa320 ≤ fa288 + 15 * (1 - r307) := h328
      obtain rfl : v318 = some (.int (nI r319)) := hw317
      have hP : va_P G.1 pCl (mW G h0 a (upd (upd (upd (upd (upd (upd (upd (upd (upd F 15 (nI fa320)) 16 pl321) 44 (nI fd)) 49 (nI md)) 73 (nI sc)) 74 (nI k9)) 77 dn290) 78 wt291) 79 wf292) (updA (updA (updA (updA (updA B 14 nc) 17 ty293) 18 mn294) 48 vn) 49 vt)) _ := mW_to (F := F) (l1 := [(15, (nI fa288)), (16, pl289), (44, (nI fd)), (49, (nI md)), (73, (nI sc)), (74, (nI k9)), (77, dn290), (78, wt291), (79, wf292), (15, (nI fa320)), (16, pl321)]) (l2 := [(15, (nI fa320)), (16, pl321), (44, (nI fd)), (49, (nI md)), (73, (nI sc)), (74, (nI k9)), (77, dn290), (78, wt291), (79, wf292)]) (V := [(nI fa320), pl321, (nI fd), (nI md), (nI sc), (nI k9), dn290, wt291, wf292, (nI fa320), pl321, (nI fa320), pl321, (nI fd), (nI md), (nI sc), (nI k9), dn290, wt291, wf292]) rfl rfl rfl hP
      have hD : va_D A (mW G h0 a (upd (upd (upd (upd (upd (upd (upd (upd (upd F 15 (nI fa320)) 16 pl321) 44 (nI fd)) 49 (nI md)) 73 (nI sc)) 74 (nI k9)) 77 dn290) 78 wt291) 79 wf292) (updA (updA (updA (updA (updA B 14 nc) 17 ty293) 18 mn294) 48 vn) 49 vt)) := mW_D hD
      refine W.widen (k := 0) (n := 0) (Nat.le_of_ble_eq_true rfl) (Nat.le_of_ble_eq_true rfl) ?_
      refine W.eq (g2 := F0 m 288 ls [.int (nI r319)]) rfl ?_
      refine lv_pop hx hb dX12_lookAt_288 rfl ?_
      refine lv_aload_n hx hb dX12_lookAt_289 rfl (lv_at hl 1 rfl) ?_
      refine lv_iconst (v := 1) hx hb dX12_lookAt_290 (by decide) ?_
      have hP : va_P G.1 pCl (mW G h0 a (upd (upd (upd (upd (upd (upd (upd (upd (upd (upd F 15 (nI fa320)) 16 pl321) 44 (nI fd)) 49 (nI md)) 73 (nI sc)) 74 (nI k9)) 77 dn290) 78 wt291) 79 wf292) 77 dn290) (updA (updA (updA (updA (updA B 14 nc) 17 ty293) 18 mn294) 48 vn) 49 vt)) _ := mW_to (F := F) (l1 := [(15, (nI fa320)), (16, pl321), (44, (nI fd)), (49, (nI md)), (73, (nI sc)), (74, (nI k9)), (77, dn290), (78, wt291), (79, wf292)]) (l2 := [(15, (nI fa320)), (16, pl321), (44, (nI fd)), (49, (nI md)), (73, (nI sc)), (74, (nI k9)), (77, dn290), (78, wt291), (79, wf292), (77, dn290)]) (V := [(nI fa320), pl321, (nI fd), (nI md), (nI sc), (nI k9), dn290, wt291, wf292, (nI fa320), pl321, (nI fd), (nI md), (nI sc), (nI k9), dn290, wt291, wf292, dn290]) rfl rfl rfl hP
      have hD : va_D A (mW G h0 a (upd (upd (upd (upd (upd (upd (upd (upd (upd (upd F 15 (nI fa320)) 16 pl321) 44 (nI fd)) 49 (nI md)) 73 (nI sc)) 74 (nI k9)) 77 dn290) 78 wt291) 79 wf292) 77 dn290) (updA (updA (updA (updA (updA B 14 nc) 17 ty293) 18 mn294) 48 vn) 49 vt)) := mW_D hD
      refine pc_V0 (G := G) (As := [.int 1]) (rest := []) hx hb hml hown hq hE hX pX0_al hP hD hS hA hl.1 (R_behind l G h0 a (upd (upd (upd (upd (upd (upd (upd (upd (upd F 15 (nI fa320)) 16 pl321) 44 (nI fd)) 49 (nI md)) 73 (nI sc)) 74 (nI k9)) 77 dn290) 78 wt291) 79 wf292) (updA (updA (updA (updA (updA B 14 nc) 17 ty293) 18 mn294) 48 vn) 49 vt) 1 dn290) (gV pw_1832 pw_1833 pw_1834 pw_1523 pw_1804) hV_X12_behind 0 9 rfl rfl rfl rfl (Nat.le_of_ble_eq_true rfl) dX12_lookAt_291 ⟨Nat.le_of_ble_eq_true rfl, Nat.le_of_ble_eq_true rfl⟩ ⟨(by show 2 + 1 ≤ (4 * z9 + 10); omega), (by show 8 + (2 + 11) + 60 ≤ (160 * z9 + 1400); omega)⟩ (fun v331 u329 H locs hw330 hP hD hS => ?_)
      obtain rfl : v331 = some (.int 1) := hw330
      have hP : va_P G.1 pCl (mW G h0 a (upd (upd (upd (upd (upd (upd (upd (upd (upd F 15 (nI fa320)) 16 pl321) 44 (nI fd)) 49 (nI md)) 73 (nI sc)) 74 (nI k9)) 77 dn290) 78 dn290) 79 dn290) (updA (updA (updA (updA (updA B 14 nc) 17 ty293) 18 mn294) 48 vn) 49 vt)) _ := mW_to (F := F) (l1 := [(15, (nI fa320)), (16, pl321), (44, (nI fd)), (49, (nI md)), (73, (nI sc)), (74, (nI k9)), (77, dn290), (78, wt291), (79, wf292), (77, dn290), (78, dn290), (79, dn290)]) (l2 := [(15, (nI fa320)), (16, pl321), (44, (nI fd)), (49, (nI md)), (73, (nI sc)), (74, (nI k9)), (77, dn290), (78, dn290), (79, dn290)]) (V := [(nI fa320), pl321, (nI fd), (nI md), (nI sc), (nI k9), dn290, dn290, dn290, dn290, dn290, dn290, (nI fa320), pl321, (nI fd), (nI md), (nI sc), (nI k9), dn290, dn290, dn290]) rfl rfl rfl hP
      have hD : va_D A (mW G h0 a (upd (upd (upd (upd (upd (upd (upd (upd (upd F 15 (nI fa320)) 16 pl321) 44 (nI fd)) 49 (nI md)) 73 (nI sc)) 74 (nI k9)) 77 dn290) 78 dn290) 79 dn290) (updA (updA (updA (updA (updA B 14 nc) 17 ty293) 18 mn294) 48 vn) 49 vt)) := mW_D hD
      refine W.widen (k := 0) (n := 0) (Nat.le_of_ble_eq_true rfl) (Nat.le_of_ble_eq_true rfl) ?_
      refine W.eq (g2 := F0 m 294 ls [.int 1]) rfl ?_
      have hz332 : fa ≤ fa320 := (by omega)
      have hz333 : fa320 ≤ 15 := (by omega)
      have hz334 : TyC dc 1 := (by unfold TyC; omega)
      have hz335 : 1 ≤ 2050 := (by omega)
      have hz336 : ChE B nd n9 ty ty293 mn mn294 := hch303
      have hz337 : mnN B nd mn294 := h300
      have hz338 : If (fa320 = 0) (Typ0 B dc fd md nd ty293 mn294 vt sc k9 n9 (nI 1)) := (fun e => Typ0.of (kids (kk := 13) (c1 := c274) (c2 := c274) (c3 := c274) ek (by decide) ⟨by omega, by omega, by omega⟩ (Or.inr ⟨by decide, e275⟩) (Or.inl (by decide)) (Or.inl (by decide)) (by decide) (h301 (by omega)) (h301 (by omega)) (h301 (by omega))) (LT13 ek hh280 h302 (by omega) (by omega)))
      have hP : va_P G.1 pCl (mW G h0 a (upd (upd (upd (upd (upd (upd (upd (upd (upd F 15 (nI fa320)) 16 pl321) 44 (nI fd)) 49 (nI md)) 73 (nI sc)) 74 (nI k9)) 77 dn290) 78 dn290) 79 dn290) (updA (updA (updA (updA (updA B 14 nc) 17 ty293) 18 mn294) 48 vn) 49 vt)) _ := hP
      have hD : va_D A (mW G h0 a (upd (upd (upd (upd (upd (upd (upd (upd (upd F 15 (nI fa320)) 16 pl321) 44 (nI fd)) 49 (nI md)) 73 (nI sc)) 74 (nI k9)) 77 dn290) 78 dn290) 79 dn290) (updA (updA (updA (updA (updA B 14 nc) 17 ty293) 18 mn294) 48 vn) 49 vt)) := mW_D hD
      exact W.iret (v := 1) hx hb hr (fun t9 ht9 hW9 => ⟨⟨_, (1, fa320, pl321, dn290, dn290, dn290, ty293, mn294), rfl, ⟨rfl, hz332, hz333, hz334, hz335, hz336, hz337, hz338⟩, by rw [ht9]; exact hP, hD⟩, hS.F ht9⟩) hS.2.2 dX12_lookAt_294
    · refine lv_topi (fun x339 e340 => ?_)
      obtain rfl : x339 = 14 := e340.trans ek
      refine lv_tableIn (tgt := 295) (off := 280) hx hb dX12_lookAt_15 (by decide) (by decide) (by decide) (by decide) ?_
      refine lv_aload_n hx hb dX12_lookAt_295 rfl (lv_at hl 0 rfl) ?_
      refine lv_aload_n hx hb dX12_lookAt_296 rfl (lv_at hl 0 rfl) ?_
      refine r_get (v := .ref (a 12)) hx hb hown hq hE hP 20 47 tFX12_20 (by decide) pw_1442 rfl dX12_lookAt_297 ?_
      refine lv_iload_n hx hb dX12_lookAt_300 rfl (lv_at hl 1 rfl) ?_
      refine r_ldi (f := (B 12)) (j := n9) hx hb hE hP 12 (ma_12 G a _) rfl (by omega) (by decide) dX12_lookAt_301 ?_
      obtain ⟨c341, e342, h343, hp344, h345, hc346, hh347, hg348⟩ := Fs2.kid (kk := 14) (s := 1) hF hn9 ek (by decide) (by decide) (by decide) (by decide) (by omega)
      refine lv_topi (fun x349 e350 => ?_)
      obtain rfl : x349 = nI c341 := e350.trans e342
      have hP : va_P G.1 pCl (mW G h0 a (upd (upd (upd (upd (upd (upd (upd (upd (upd (upd (upd (upd (upd (upd (upd (upd F 15 (nI fa)) 44 (nI fd)) 49 (nI md)) 73 (nI sc)) 74 (nI k9)) 77 dn) 78 wt) 79 wf) 15 (nI fa)) 44 (nI fd)) 49 (nI md)) 73 (nI sc)) 74 (nI k9)) 77 dn) 78 wt) 79 wf) (updA (updA (updA (updA (updA B 14 nc) 17 ty) 18 mn) 48 vn) 49 vt)) _ := hP
      have hD : va_D A (mW G h0 a (upd (upd (upd (upd (upd (upd (upd (upd (upd (upd (upd (upd (upd (upd (upd (upd F 15 (nI fa)) 44 (nI fd)) 49 (nI md)) 73 (nI sc)) 74 (nI k9)) 77 dn) 78 wt) 79 wf) 15 (nI fa)) 44 (nI fd)) 49 (nI md)) 73 (nI sc)) 74 (nI k9)) 77 dn) 78 wt) 79 wf) (updA (updA (updA (updA (updA B 14 nc) 17 ty) 18 mn) 48 vn) 49 vt)) := mW_D hD
      refine pc_V0 (G := G) (As := [.int (nI c341)]) (rest := []) hx hb hml hown hq hE hX pX0_al hP hD hS hA hl.1 (ihL h0 a (upd (upd (upd (upd (upd (upd (upd (upd F 15 (nI fa)) 44 (nI fd)) 49 (nI md)) 73 (nI sc)) 74 (nI k9)) 77 dn) 78 wt) 79 wf) B c341 fa sc k9 nd T nm wr lz dc fd md pr bk gh dn wt wf nc ty mn vn vt hst hnm h343 (by omega) (by omega) (by omega) hk9 hnc hmn hvt (show kcl 1 _ = true from hc346)) (gV pw_1822 pw_1823 pw_1824 pw_1523 pw_1830) hV_X12_look 0 9 rfl rfl rfl rfl (Nat.le_of_ble_eq_true rfl) dX12_lookAt_302 ⟨Nat.le_of_ble_eq_true rfl, Nat.le_of_ble_eq_true rfl⟩ ⟨(by show (4 * (z9 - 1) + 11) + 1 ≤ (4 * z9 + 10); omega), (by show 8 + (3 + 11) + (160 * (z9 - 1) + 1440) ≤ (160 * z9 + 1400); omega)⟩ (fun v353 u351 H locs hw352 hP hD hS => ?_)
      obtain ⟨r354, fa355, pl356, dn357, wt358, wf359, ty360, mn361⟩ := u351
      obtain ⟨hw352, h362, h363, h364, h365, h366, h367, h368, h369⟩ := hw352
      replace h362 : fa ≤ fa355 := h362
      replace h363 : fa355 ≤ 15 := h363
      replace h364 : TyC dc r354 := h364
      replace h365 : r354 ≤ 2050 := h365
      replace h366 : ChE B nd c341 ty ty360 mn mn361 := h366
      replace h367 : mnN B nd mn361 := h367
      replace h368 : If (fa355 = 0) (Typ B dc fd md nd ty360 mn361 vt sc k9 c341) := h368
      replace h369 : ty360 c341 = nI r354 := h369
      obtain rfl : v353 = some (.int (nI r354)) := hw352
      have hP : va_P G.1 pCl (mW G h0 a (upd (upd (upd (upd (upd (upd (upd (upd (upd F 15 (nI fa355)) 16 pl356) 44 (nI fd)) 49 (nI md)) 73 (nI sc)) 74 (nI k9)) 77 dn357) 78 wt358) 79 wf359) (updA (updA (updA (updA (updA B 14 nc) 17 ty360) 18 mn361) 48 vn) 49 vt)) _ := mW_to (F := F) (l1 := [(15, (nI fa)), (44, (nI fd)), (49, (nI md)), (73, (nI sc)), (74, (nI k9)), (77, dn), (78, wt), (79, wf), (15, (nI fa355)), (16, pl356), (44, (nI fd)), (49, (nI md)), (73, (nI sc)), (74, (nI k9)), (77, dn357), (78, wt358), (79, wf359)]) (l2 := [(15, (nI fa355)), (16, pl356), (44, (nI fd)), (49, (nI md)), (73, (nI sc)), (74, (nI k9)), (77, dn357), (78, wt358), (79, wf359)]) (V := [(nI fa355), (nI fd), (nI md), (nI sc), (nI k9), dn357, wt358, wf359, (nI fa355), pl356, (nI fd), (nI md), (nI sc), (nI k9), dn357, wt358, wf359, (nI fa355), pl356, (nI fd), (nI md), (nI sc), (nI k9), dn357, wt358, wf359]) rfl rfl rfl hP
      have hD : va_D A (mW G h0 a (upd (upd (upd (upd (upd (upd (upd (upd (upd F 15 (nI fa355)) 16 pl356) 44 (nI fd)) 49 (nI md)) 73 (nI sc)) 74 (nI k9)) 77 dn357) 78 wt358) 79 wf359) (updA (updA (updA (updA (updA B 14 nc) 17 ty360) 18 mn361) 48 vn) 49 vt)) := mW_D hD
      refine W.widen (k := 0) (n := 0) (Nat.le_of_ble_eq_true rfl) (Nat.le_of_ble_eq_true rfl) ?_
      refine W.eq (g2 := F0 m 305 ls [.int (nI r354)]) rfl ?_
      have hch370 : ChE B nd n9 ty ty360 mn mn361 := (ChE.trans ChE.rfl (ChE.kid h366 (by omega) hp344))
      refine lv_istore_n (lv' := [(2, .int (nI r354)), (0, .ref h0), (1, .int (nI n9))]) hx hb dX12_lookAt_305 rfl hl (by decide) rfl (fun ls hl => ?_)
      refine lv_aload_n hx hb dX12_lookAt_306 rfl (lv_at hl 1 rfl) ?_
      refine lv_iload_n hx hb dX12_lookAt_307 rfl (lv_at hl 0 rfl) ?_
      refine pc_SN (G := G) (As := [.int (nI r354)]) (rest := [.ref h0]) hx hb hml hown hq hE hX pX0_al hP hS hA hl.1 (s_isClassType l G r354 (by omega)) (gS pw_1786 pw_1787 pw_1523 pw_1781) hS_X12_isClassType rfl (Nat.le_of_ble_eq_true rfl) dX12_lookAt_308 ⟨Nat.le_of_ble_eq_true rfl, Nat.le_of_ble_eq_true rfl⟩ ⟨(by show 2 + 1 ≤ (4 * z9 + 10); omega), (by show 8 + (1 + 11) + 60 ≤ (160 * z9 + 1400); omega)⟩ (fun v373 u371 H locs hw372 hP hS => ?_)
      obtain ⟨r374, rfl, h375, h376, h377, h378⟩ := hw372
      refine W.widen (k := 0) (n := 0) (Nat.le_of_ble_eq_true rfl) (Nat.le_of_ble_eq_true rfl) ?_
      refine W.eq (g2 := F0 m 311 ls [.int (nI r374), .ref h0]) rfl ?_
      refine lv_bipush (v := 11) hx hb dX12_lookAt_311 (by decide) ?_
      refine lv_aload_n hx hb dX12_lookAt_313 rfl (lv_at hl 1 rfl) ?_
      refine r_get (v := .ref (a 10)) hx hb hown hq hE hP 18 41 tFX12_18 (by decide) pw_1440 rfl dX12_lookAt_314 ?_
      refine lv_iload_n hx hb dX12_lookAt_317 rfl (lv_at hl 2 rfl) ?_
      refine r_ldi (f := (B 10)) (j := n9) hx hb hE hP 10 (ma_10 G a _) rfl (by omega) (by decide) dX12_lookAt_318 ?_
      obtain ⟨⟨t379, e380, h381⟩, -⟩ := hF n9 hn9
      refine lv_topi (fun x382 e383 => ?_)
      obtain rfl : x382 = nI t379 := e383.trans e380
      have hP : va_P G.1 pCl (mW G h0 a (upd (upd (upd (upd (upd (upd (upd (upd (upd (upd F 15 (nI fa355)) 16 pl356) 44 (nI fd)) 49 (nI md)) 73 (nI sc)) 74 (nI k9)) 77 dn357) 78 wt358) 79 wf359) 15 (nI fa355)) (updA (updA (updA (updA (updA B 14 nc) 17 ty360) 18 mn361) 48 vn) 49 vt)) _ := hP
      have hD : va_D A (mW G h0 a (upd (upd (upd (upd (upd (upd (upd (upd (upd (upd F 15 (nI fa355)) 16 pl356) 44 (nI fd)) 49 (nI md)) 73 (nI sc)) 74 (nI k9)) 77 dn357) 78 wt358) 79 wf359) 15 (nI fa355)) (updA (updA (updA (updA (updA B 14 nc) 17 ty360) 18 mn361) 48 vn) 49 vt)) := mW_D hD
      refine pc_V0 (G := G) (As := [.int (nI r374), .int (nI 11), .int (nI t379)]) (rest := []) hx hb hml hown hq hE hX pX0_al hP hD hS hA hl.1 (R_judgeL l G h0 a (upd (upd (upd (upd (upd (upd (upd (upd (upd F 15 (nI fa355)) 16 pl356) 44 (nI fd)) 49 (nI md)) 73 (nI sc)) 74 (nI k9)) 77 dn357) 78 wt358) 79 wf359) (updA (updA (updA (updA (updA B 14 nc) 17 ty360) 18 mn361) 48 vn) 49 vt) r374 11 t379 fa355 (by omega) (by omega) (by omega) (by omega)) (gV pw_1798 pw_1799 pw_1800 pw_1523 pw_1793) hV_X12_judge 0 9 rfl rfl rfl rfl (Nat.le_of_ble_eq_true rfl) dX12_lookAt_319 ⟨Nat.le_of_ble_eq_true rfl, Nat.le_of_ble_eq_true rfl⟩ ⟨(by show 3 + 1 ≤ (4 * z9 + 10); omega), (by show 8 + (4 + 11) + 82 ≤ (160 * z9 + 1400); omega)⟩ (fun v386 u384 H locs hw385 hP hD hS => ?_)
      obtain ⟨r387, fa388, pl389⟩ := u384
      obtain ⟨hw385, h390, h391, h392, h393, h394, h395, h396⟩ := hw385
      replace h390 : r387 ≤ 1 := h390
      replace h391 : fa355 ≤ fa388 := h391
      replace h392 : fa388 ≤ 15 := h392
      replace h393 : fa388 + 15 * r387 ≤ 15 := h393
      replace h394 : 1 ≤ r387 + fa388 := h394
      replace h395 : 1 ≤ r374 + fa388 := h395
      replace h396 : fa388 ≤ fa355 + 15 * (1 - r374) := h396
      obtain rfl : v386 = some (.int (nI r387)) := hw385
      have hP : va_P G.1 pCl (mW G h0 a (upd (upd (upd (upd (upd (upd (upd (upd (upd F 15 (nI fa388)) 16 pl389) 44 (nI fd)) 49 (nI md)) 73 (nI sc)) 74 (nI k9)) 77 dn357) 78 wt358) 79 wf359) (updA (updA (updA (updA (updA B 14 nc) 17 ty360) 18 mn361) 48 vn) 49 vt)) _ := mW_to (F := F) (l1 := [(15, (nI fa355)), (16, pl356), (44, (nI fd)), (49, (nI md)), (73, (nI sc)), (74, (nI k9)), (77, dn357), (78, wt358), (79, wf359), (15, (nI fa388)), (16, pl389)]) (l2 := [(15, (nI fa388)), (16, pl389), (44, (nI fd)), (49, (nI md)), (73, (nI sc)), (74, (nI k9)), (77, dn357), (78, wt358), (79, wf359)]) (V := [(nI fa388), pl389, (nI fd), (nI md), (nI sc), (nI k9), dn357, wt358, wf359, (nI fa388), pl389, (nI fa388), pl389, (nI fd), (nI md), (nI sc), (nI k9), dn357, wt358, wf359]) rfl rfl rfl hP
      have hD : va_D A (mW G h0 a (upd (upd (upd (upd (upd (upd (upd (upd (upd F 15 (nI fa388)) 16 pl389) 44 (nI fd)) 49 (nI md)) 73 (nI sc)) 74 (nI k9)) 77 dn357) 78 wt358) 79 wf359) (updA (updA (updA (updA (updA B 14 nc) 17 ty360) 18 mn361) 48 vn) 49 vt)) := mW_D hD
      refine W.widen (k := 0) (n := 0) (Nat.le_of_ble_eq_true rfl) (Nat.le_of_ble_eq_true rfl) ?_
      refine W.eq (g2 := F0 m 322 ls [.int (nI r387)]) rfl ?_
      refine lv_if_ne (tgt := 327) hx hb dX12_lookAt_322 (by decide) (fun c397 => ?_) (fun c397 => ?_)
      · have n398 : ¬ (r387 = 0) := fun h9 => c397 ((nI_eq (a := r387) (b := 0) (by omega) (by omega)).mpr h9)
        have h1c := TyC.cls h364 (by omega) (by omega)
        refine lv_aload_n hx hb dX12_lookAt_327 rfl (lv_at hl 1 rfl) ?_
        refine lv_iload_n hx hb dX12_lookAt_328 rfl (lv_at hl 2 rfl) ?_
        refine lv_iload_n hx hb dX12_lookAt_329 rfl (lv_at hl 0 rfl) ?_
        refine lv_bipush (v := 10) hx hb dX12_lookAt_330 (by decide) ?_
        refine lv_isub hx hb dX12_lookAt_332 ?_
        refine lv_topi (fun x399 e400 => ?_)
        obtain rfl : x399 = nI (r354 - 10) := e400.trans (nI_subN (a := 10) (b := r354) (by omega))
        have hP : va_P G.1 pCl (mW G h0 a (upd (upd (upd (upd (upd (upd (upd (upd (upd (upd (upd (upd (upd (upd (upd (upd (upd F 15 (nI fa388)) 16 pl389) 44 (nI fd)) 49 (nI md)) 73 (nI sc)) 74 (nI k9)) 77 dn357) 78 wt358) 79 wf359) 15 (nI fa388)) 44 (nI fd)) 49 (nI md)) 73 (nI sc)) 74 (nI k9)) 77 dn357) 78 wt358) 79 wf359) (updA (updA (updA (updA (updA B 14 nc) 17 ty360) 18 mn361) 48 vn) 49 vt)) _ := mW_to (F := F) (l1 := [(15, (nI fa388)), (16, pl389), (44, (nI fd)), (49, (nI md)), (73, (nI sc)), (74, (nI k9)), (77, dn357), (78, wt358), (79, wf359)]) (l2 := [(15, (nI fa388)), (16, pl389), (44, (nI fd)), (49, (nI md)), (73, (nI sc)), (74, (nI k9)), (77, dn357), (78, wt358), (79, wf359), (15, (nI fa388)), (44, (nI fd)), (49, (nI md)), (73, (nI sc)), (74, (nI k9)), (77, dn357), (78, wt358), (79, wf359)]) (V := [(nI fa388), pl389, (nI fd), (nI md), (nI sc), (nI k9), dn357, wt358, wf359, (nI fa388), pl389, (nI fd), (nI md), (nI sc), (nI k9), dn357, wt358, wf359, (nI fa388), (nI fd), (nI md), (nI sc), (nI k9), dn357, wt358, wf359]) rfl rfl rfl hP
        have hD : va_D A (mW G h0 a (upd (upd (upd (upd (upd (upd (upd (upd (upd (upd (upd (upd (upd (upd (upd (upd (upd F 15 (nI fa388)) 16 pl389) 44 (nI fd)) 49 (nI md)) 73 (nI sc)) 74 (nI k9)) 77 dn357) 78 wt358) 79 wf359) 15 (nI fa388)) 44 (nI fd)) 49 (nI md)) 73 (nI sc)) 74 (nI k9)) 77 dn357) 78 wt358) 79 wf359) (updA (updA (updA (updA (updA B 14 nc) 17 ty360) 18 mn361) 48 vn) 49 vt)) := mW_D hD
        refine pc_V0 (G := G) (As := [.int (nI n9), .int (nI (r354 - 10))]) (rest := []) hx hb hml hown hq hE hX pX0_al hP hD hS hA hl.1 (L_lookCall l G h0 a (upd (upd (upd (upd (upd (upd (upd (upd (upd F 15 (nI fa388)) 16 pl389) 44 (nI fd)) 49 (nI md)) 73 (nI sc)) 74 (nI k9)) 77 dn357) 78 wt358) 79 wf359) B n9 z9 fa388 sc k9 nd T nm wr lz dc fd md pr bk gh dn357 wt358 wf359 nc ty360 mn361 vn vt (r354 - 10) 14 hst hnm hn9 (by omega) (by omega) (by omega) hk9 hnc h367 hvt (by decide) ek (by decide) (by omega) ihL) (gV pw_1838 pw_1839 pw_1840 pw_1523 pw_1859) hV_X12_lookCall 0 9 rfl rfl rfl rfl (Nat.le_of_ble_eq_true rfl) dX12_lookAt_333 ⟨Nat.le_of_ble_eq_true rfl, Nat.le_of_ble_eq_true rfl⟩ ⟨(by show (4 * z9 + 9) + 1 ≤ (4 * z9 + 10); omega), (by show 8 + (7 + 11) + (160 * z9 + 1360) ≤ (160 * z9 + 1400); omega)⟩ (fun v403 u401 H locs hw402 hP hD hS => ?_)
        obtain ⟨r404, fa405, pl406, dn407, wt408, wf409, ty410, mn411⟩ := u401
        obtain ⟨hw402, h412, h413, h414, h415, h416, h417, h418⟩ := hw402
        replace h412 : fa388 ≤ fa405 := h412
        replace h413 : fa405 ≤ 15 := h413
        replace h414 : TyC dc r404 := h414
        replace h415 : r404 ≤ 2050 := h415
        replace h416 : ChLr B nd n9 ty360 ty410 mn361 mn411 := h416
        replace h417 : mnN B nd mn411 := h417
        replace h418 : If (fa405 = 0) ((∀ z c : Nat, c < 20000 → itr ((B 16)) ((B 13) n9) z = nI c → Typ B dc fd md nd ty410 mn411 vt sc k9 c) ∧ CalP B ty410 mn411 dc md nd (r354 - 10) n9 (nI r404)) := h418
        obtain rfl : v403 = some (.int (nI r404)) := hw402
        have hP : va_P G.1 pCl (mW G h0 a (upd (upd (upd (upd (upd (upd (upd (upd (upd F 15 (nI fa405)) 16 pl406) 44 (nI fd)) 49 (nI md)) 73 (nI sc)) 74 (nI k9)) 77 dn407) 78 wt408) 79 wf409) (updA (updA (updA (updA (updA B 14 nc) 17 ty410) 18 mn411) 48 vn) 49 vt)) _ := mW_to (F := F) (l1 := [(15, (nI fa388)), (16, pl389), (44, (nI fd)), (49, (nI md)), (73, (nI sc)), (74, (nI k9)), (77, dn357), (78, wt358), (79, wf359), (15, (nI fa405)), (16, pl406), (44, (nI fd)), (49, (nI md)), (73, (nI sc)), (74, (nI k9)), (77, dn407), (78, wt408), (79, wf409)]) (l2 := [(15, (nI fa405)), (16, pl406), (44, (nI fd)), (49, (nI md)), (73, (nI sc)), (74, (nI k9)), (77, dn407), (78, wt408), (79, wf409)]) (V := [(nI fa405), pl406, (nI fd), (nI md), (nI sc), (nI k9), dn407, wt408, wf409, (nI fa405), pl406, (nI fd), (nI md), (nI sc), (nI k9), dn407, wt408, wf409, (nI fa405), pl406, (nI fd), (nI md), (nI sc), (nI k9), dn407, wt408, wf409]) rfl rfl rfl hP
        have hD : va_D A (mW G h0 a (upd (upd (upd (upd (upd (upd (upd (upd (upd F 15 (nI fa405)) 16 pl406) 44 (nI fd)) 49 (nI md)) 73 (nI sc)) 74 (nI k9)) 77 dn407) 78 wt408) 79 wf409) (updA (updA (updA (updA (updA B 14 nc) 17 ty410) 18 mn411) 48 vn) 49 vt)) := mW_D hD
        refine W.widen (k := 0) (n := 0) (Nat.le_of_ble_eq_true rfl) (Nat.le_of_ble_eq_true rfl) ?_
        refine W.eq (g2 := F0 m 336 ls [.int (nI r404)]) rfl ?_
        have hch419 : ChE B nd n9 ty ty410 mn mn411 := (ChE.trans hch370 (ChLr.che h416 ek (by decide) (by decide)))
        have hy420 : If (fa355 = 0) (Typ B dc fd md nd ty410 mn411 vt sc k9 c341) := (fun e => Typ.frame hF (by omega) h343 (h368 e) (fun i hi q => ChLr.kid (kk := 14) hF (by omega) hn9 ek (by decide) (by decide) h343 hp344 hg348 h416 hi q))
        have ht421 : ty410 c341 = nI r354 := ((ChLr.kid (kk := 14) hF (by omega) hn9 ek (by decide) (by decide) h343 hp344 hg348 h416 h343 sub.rfl).1.trans h369)
        have hz422 : fa ≤ fa405 := (by omega)
        have hz423 : fa405 ≤ 15 := (by omega)
        have hz424 : TyC dc r404 := h414
        have hz425 : r404 ≤ 2050 := (by omega)
        have hz426 : ChE B nd n9 ty ty410 mn mn411 := hch419
        have hz427 : mnN B nd mn411 := h417
        have hz428 : If (fa405 = 0) (Typ0 B dc fd md nd ty410 mn411 vt sc k9 n9 (nI r404)) := (fun e => by have z := h418 (by omega); exact Typ0.of (kidsL (kk := 14) (c1 := c341) ek (by decide) (by omega) (Or.inr ⟨by decide, e342⟩) (by decide) (by decide) (by decide) (hy420 (by omega)) (fun i c hc q => z.1 i c hc q)) (LT14 ek hh347 (ht421.trans (by rw [show 10 + (r354 - 10) = r354 by omega])) z.2))
        have hP : va_P G.1 pCl (mW G h0 a (upd (upd (upd (upd (upd (upd (upd (upd (upd F 15 (nI fa405)) 16 pl406) 44 (nI fd)) 49 (nI md)) 73 (nI sc)) 74 (nI k9)) 77 dn407) 78 wt408) 79 wf409) (updA (updA (updA (updA (updA B 14 nc) 17 ty410) 18 mn411) 48 vn) 49 vt)) _ := hP
        have hD : va_D A (mW G h0 a (upd (upd (upd (upd (upd (upd (upd (upd (upd F 15 (nI fa405)) 16 pl406) 44 (nI fd)) 49 (nI md)) 73 (nI sc)) 74 (nI k9)) 77 dn407) 78 wt408) 79 wf409) (updA (updA (updA (updA (updA B 14 nc) 17 ty410) 18 mn411) 48 vn) 49 vt)) := mW_D hD
        exact W.iret (v := (nI r404)) hx hb hr (fun t9 ht9 hW9 => ⟨⟨_, (r404, fa405, pl406, dn407, wt408, wf409, ty410, mn411), rfl, ⟨rfl, hz422, hz423, hz424, hz425, hz426, hz427, hz428⟩, by rw [ht9]; exact hP, hD⟩, hS.F ht9⟩) hS.2.2 dX12_lookAt_336
      · have n429 : r387 = 0 := (nI_eq (a := r387) (b := 0) (by omega) (by omega)).mp c397
        refine lv_iconst (v := 1) hx hb dX12_lookAt_325 (by decide) ?_
        have hz430 : fa ≤ fa388 := (by omega)
        have hz431 : fa388 ≤ 15 := (by omega)
        have hz432 : TyC dc 1 := (by unfold TyC; omega)
        have hz433 : 1 ≤ 2050 := (by omega)
        have hz434 : ChE B nd n9 ty ty360 mn mn361 := hch370
        have hz435 : mnN B nd mn361 := h367
        have hz436 : If (fa388 = 0) (Typ0 B dc fd md nd ty360 mn361 vt sc k9 n9 (nI 1)) := (fun e => absurd e (by omega))
        have hP : va_P G.1 pCl (mW G h0 a (upd (upd (upd (upd (upd (upd (upd (upd (upd F 15 (nI fa388)) 16 pl389) 44 (nI fd)) 49 (nI md)) 73 (nI sc)) 74 (nI k9)) 77 dn357) 78 wt358) 79 wf359) (updA (updA (updA (updA (updA B 14 nc) 17 ty360) 18 mn361) 48 vn) 49 vt)) _ := hP
        have hD : va_D A (mW G h0 a (upd (upd (upd (upd (upd (upd (upd (upd (upd F 15 (nI fa388)) 16 pl389) 44 (nI fd)) 49 (nI md)) 73 (nI sc)) 74 (nI k9)) 77 dn357) 78 wt358) 79 wf359) (updA (updA (updA (updA (updA B 14 nc) 17 ty360) 18 mn361) 48 vn) 49 vt)) := mW_D hD
        exact W.iret (v := 1) hx hb hr (fun t9 ht9 hW9 => ⟨⟨_, (1, fa388, pl389, dn357, wt358, wf359, ty360, mn361), rfl, ⟨rfl, hz430, hz431, hz432, hz433, hz434, hz435, hz436⟩, by rw [ht9]; exact hP, hD⟩, hS.F ht9⟩) hS.2.2 dX12_lookAt_326
    · refine lv_topi (fun x437 e438 => ?_)
      obtain rfl : x437 = 15 := e438.trans ek
      refine lv_tableIn (tgt := 337) (off := 322) hx hb dX12_lookAt_15 (by decide) (by decide) (by decide) (by decide) ?_
      refine lv_aload_n hx hb dX12_lookAt_337 rfl (lv_at hl 0 rfl) ?_
      refine lv_aload_n hx hb dX12_lookAt_338 rfl (lv_at hl 0 rfl) ?_
      refine lv_iload_n hx hb dX12_lookAt_339 rfl (lv_at hl 1 rfl) ?_
      have hP : va_P G.1 pCl (mW G h0 a (upd (upd (upd (upd (upd (upd (upd (upd (upd (upd (upd (upd (upd (upd (upd (upd F 15 (nI fa)) 44 (nI fd)) 49 (nI md)) 73 (nI sc)) 74 (nI k9)) 77 dn) 78 wt) 79 wf) 15 (nI fa)) 44 (nI fd)) 49 (nI md)) 73 (nI sc)) 74 (nI k9)) 77 dn) 78 wt) 79 wf) (updA (updA (updA (updA (updA B 14 nc) 17 ty) 18 mn) 48 vn) 49 vt)) _ := hP
      have hD : va_D A (mW G h0 a (upd (upd (upd (upd (upd (upd (upd (upd (upd (upd (upd (upd (upd (upd (upd (upd F 15 (nI fa)) 44 (nI fd)) 49 (nI md)) 73 (nI sc)) 74 (nI k9)) 77 dn) 78 wt) 79 wf) 15 (nI fa)) 44 (nI fd)) 49 (nI md)) 73 (nI sc)) 74 (nI k9)) 77 dn) 78 wt) 79 wf) (updA (updA (updA (updA (updA B 14 nc) 17 ty) 18 mn) 48 vn) 49 vt)) := mW_D hD
      refine pc_V0 (G := G) (As := [.int (nI n9)]) (rest := [.ref h0]) hx hb hml hown hq hE hX pX0_al hP hD hS hA hl.1 (L_indexed l G h0 a (upd (upd (upd (upd (upd (upd (upd (upd F 15 (nI fa)) 44 (nI fd)) 49 (nI md)) 73 (nI sc)) 74 (nI k9)) 77 dn) 78 wt) 79 wf) B n9 z9 fa sc k9 nd T nm wr lz dc fd md pr bk gh dn wt wf nc ty mn vn vt hst hnm hn9 (by omega) (by omega) (by omega) hk9 hnc hmn hvt ek ihL ihW) (gV pw_1844 pw_1845 pw_1846 pw_1523 pw_1825) hV_X12_indexed 0 9 rfl rfl rfl rfl (Nat.le_of_ble_eq_true rfl) dX12_lookAt_340 ⟨Nat.le_of_ble_eq_true rfl, Nat.le_of_ble_eq_true rfl⟩ ⟨(by show (4 * z9 + 9) + 1 ≤ (4 * z9 + 10); omega), (by show 8 + (3 + 11) + (160 * z9 + 1360) ≤ (160 * z9 + 1400); omega)⟩ (fun v441 u439 H locs hw440 hP hD hS => ?_)
      obtain ⟨r442, fa443, pl444, dn445, wt446, wf447, ty448, mn449⟩ := u439
      obtain ⟨hw440, h450, h451, h452, h453, h454, h455, h456⟩ := hw440
      replace h450 : fa ≤ fa443 := h450
      replace h451 : fa443 ≤ 15 := h451
      replace h452 : TyC dc r442 := h452
      replace h453 : r442 ≤ 2050 := h453
      replace h454 : ChE B nd n9 ty ty448 mn mn449 := h454
      replace h455 : mnN B nd mn449 := h455
      replace h456 : If (fa443 = 0) (Typ0 B dc fd md nd ty448 mn449 vt sc k9 n9 (nI r442)) := h456
      obtain rfl : v441 = some (.int (nI r442)) := hw440
      have hP : va_P G.1 pCl (mW G h0 a (upd (upd (upd (upd (upd (upd (upd (upd (upd F 15 (nI fa443)) 16 pl444) 44 (nI fd)) 49 (nI md)) 73 (nI sc)) 74 (nI k9)) 77 dn445) 78 wt446) 79 wf447) (updA (updA (updA (updA (updA B 14 nc) 17 ty448) 18 mn449) 48 vn) 49 vt)) _ := mW_to (F := F) (l1 := [(15, (nI fa)), (44, (nI fd)), (49, (nI md)), (73, (nI sc)), (74, (nI k9)), (77, dn), (78, wt), (79, wf), (15, (nI fa443)), (16, pl444), (44, (nI fd)), (49, (nI md)), (73, (nI sc)), (74, (nI k9)), (77, dn445), (78, wt446), (79, wf447)]) (l2 := [(15, (nI fa443)), (16, pl444), (44, (nI fd)), (49, (nI md)), (73, (nI sc)), (74, (nI k9)), (77, dn445), (78, wt446), (79, wf447)]) (V := [(nI fa443), (nI fd), (nI md), (nI sc), (nI k9), dn445, wt446, wf447, (nI fa443), pl444, (nI fd), (nI md), (nI sc), (nI k9), dn445, wt446, wf447, (nI fa443), pl444, (nI fd), (nI md), (nI sc), (nI k9), dn445, wt446, wf447]) rfl rfl rfl hP
      have hD : va_D A (mW G h0 a (upd (upd (upd (upd (upd (upd (upd (upd (upd F 15 (nI fa443)) 16 pl444) 44 (nI fd)) 49 (nI md)) 73 (nI sc)) 74 (nI k9)) 77 dn445) 78 wt446) 79 wf447) (updA (updA (updA (updA (updA B 14 nc) 17 ty448) 18 mn449) 48 vn) 49 vt)) := mW_D hD
      refine W.widen (k := 0) (n := 0) (Nat.le_of_ble_eq_true rfl) (Nat.le_of_ble_eq_true rfl) ?_
      refine W.eq (g2 := F0 m 343 ls [.int (nI r442), .ref h0]) rfl ?_
      have hch457 : ChE B nd n9 ty ty448 mn mn449 := (ChE.trans ChE.rfl h454)
      have hP : va_P G.1 pCl (mW G h0 a (upd (upd (upd (upd (upd (upd (upd (upd (upd (upd F 15 (nI fa443)) 16 pl444) 44 (nI fd)) 49 (nI md)) 73 (nI sc)) 74 (nI k9)) 77 dn445) 78 wt446) 79 wf447) 77 dn445) (updA (updA (updA (updA (updA B 14 nc) 17 ty448) 18 mn449) 48 vn) 49 vt)) _ := mW_to (F := F) (l1 := [(15, (nI fa443)), (16, pl444), (44, (nI fd)), (49, (nI md)), (73, (nI sc)), (74, (nI k9)), (77, dn445), (78, wt446), (79, wf447)]) (l2 := [(15, (nI fa443)), (16, pl444), (44, (nI fd)), (49, (nI md)), (73, (nI sc)), (74, (nI k9)), (77, dn445), (78, wt446), (79, wf447), (77, dn445)]) (V := [(nI fa443), pl444, (nI fd), (nI md), (nI sc), (nI k9), dn445, wt446, wf447, (nI fa443), pl444, (nI fd), (nI md), (nI sc), (nI k9), dn445, wt446, wf447, dn445]) rfl rfl rfl hP
      have hD : va_D A (mW G h0 a (upd (upd (upd (upd (upd (upd (upd (upd (upd (upd F 15 (nI fa443)) 16 pl444) 44 (nI fd)) 49 (nI md)) 73 (nI sc)) 74 (nI k9)) 77 dn445) 78 wt446) 79 wf447) 77 dn445) (updA (updA (updA (updA (updA B 14 nc) 17 ty448) 18 mn449) 48 vn) 49 vt)) := mW_D hD
      refine pc_V0 (G := G) (As := [.int (nI r442)]) (rest := []) hx hb hml hown hq hE hX pX0_al hP hD hS hA hl.1 (R_behind l G h0 a (upd (upd (upd (upd (upd (upd (upd (upd (upd F 15 (nI fa443)) 16 pl444) 44 (nI fd)) 49 (nI md)) 73 (nI sc)) 74 (nI k9)) 77 dn445) 78 wt446) 79 wf447) (updA (updA (updA (updA (updA B 14 nc) 17 ty448) 18 mn449) 48 vn) 49 vt) (nI r442) dn445) (gV pw_1832 pw_1833 pw_1834 pw_1523 pw_1804) hV_X12_behind 0 9 rfl rfl rfl rfl (Nat.le_of_ble_eq_true rfl) dX12_lookAt_343 ⟨Nat.le_of_ble_eq_true rfl, Nat.le_of_ble_eq_true rfl⟩ ⟨(by show 2 + 1 ≤ (4 * z9 + 10); omega), (by show 8 + (2 + 11) + 60 ≤ (160 * z9 + 1400); omega)⟩ (fun v460 u458 H locs hw459 hP hD hS => ?_)
      obtain rfl : v460 = some (.int (nI r442)) := hw459
      have hP : va_P G.1 pCl (mW G h0 a (upd (upd (upd (upd (upd (upd (upd (upd (upd F 15 (nI fa443)) 16 pl444) 44 (nI fd)) 49 (nI md)) 73 (nI sc)) 74 (nI k9)) 77 dn445) 78 dn445) 79 dn445) (updA (updA (updA (updA (updA B 14 nc) 17 ty448) 18 mn449) 48 vn) 49 vt)) _ := mW_to (F := F) (l1 := [(15, (nI fa443)), (16, pl444), (44, (nI fd)), (49, (nI md)), (73, (nI sc)), (74, (nI k9)), (77, dn445), (78, wt446), (79, wf447), (77, dn445), (78, dn445), (79, dn445)]) (l2 := [(15, (nI fa443)), (16, pl444), (44, (nI fd)), (49, (nI md)), (73, (nI sc)), (74, (nI k9)), (77, dn445), (78, dn445), (79, dn445)]) (V := [(nI fa443), pl444, (nI fd), (nI md), (nI sc), (nI k9), dn445, dn445, dn445, dn445, dn445, dn445, (nI fa443), pl444, (nI fd), (nI md), (nI sc), (nI k9), dn445, dn445, dn445]) rfl rfl rfl hP
      have hD : va_D A (mW G h0 a (upd (upd (upd (upd (upd (upd (upd (upd (upd F 15 (nI fa443)) 16 pl444) 44 (nI fd)) 49 (nI md)) 73 (nI sc)) 74 (nI k9)) 77 dn445) 78 dn445) 79 dn445) (updA (updA (updA (updA (updA B 14 nc) 17 ty448) 18 mn449) 48 vn) 49 vt)) := mW_D hD
      refine W.widen (k := 0) (n := 0) (Nat.le_of_ble_eq_true rfl) (Nat.le_of_ble_eq_true rfl) ?_
      refine W.eq (g2 := F0 m 346 ls [.int (nI r442)]) rfl ?_
      have hz461 : fa ≤ fa443 := (by omega)
      have hz462 : fa443 ≤ 15 := (by omega)
      have hz463 : TyC dc r442 := h452
      have hz464 : r442 ≤ 2050 := (by omega)
      have hz465 : ChE B nd n9 ty ty448 mn mn449 := hch457
      have hz466 : mnN B nd mn449 := h455
      have hz467 : If (fa443 = 0) (Typ0 B dc fd md nd ty448 mn449 vt sc k9 n9 (nI r442)) := (fun e => h456 (by omega))
      have hP : va_P G.1 pCl (mW G h0 a (upd (upd (upd (upd (upd (upd (upd (upd (upd F 15 (nI fa443)) 16 pl444) 44 (nI fd)) 49 (nI md)) 73 (nI sc)) 74 (nI k9)) 77 dn445) 78 dn445) 79 dn445) (updA (updA (updA (updA (updA B 14 nc) 17 ty448) 18 mn449) 48 vn) 49 vt)) _ := hP
      have hD : va_D A (mW G h0 a (upd (upd (upd (upd (upd (upd (upd (upd (upd F 15 (nI fa443)) 16 pl444) 44 (nI fd)) 49 (nI md)) 73 (nI sc)) 74 (nI k9)) 77 dn445) 78 dn445) 79 dn445) (updA (updA (updA (updA (updA B 14 nc) 17 ty448) 18 mn449) 48 vn) 49 vt)) := mW_D hD
      exact W.iret (v := (nI r442)) hx hb hr (fun t9 ht9 hW9 => ⟨⟨_, (r442, fa443, pl444, dn445, dn445, dn445, ty448, mn449), rfl, ⟨rfl, hz461, hz462, hz463, hz464, hz465, hz466, hz467⟩, by rw [ht9]; exact hP, hD⟩, hS.F ht9⟩) hS.2.2 dX12_lookAt_346
    · refine lv_topi (fun x468 e469 => ?_)
      obtain rfl : x468 = 16 := e469.trans ek
      refine lv_tableIn (tgt := 347) (off := 332) hx hb dX12_lookAt_15 (by decide) (by decide) (by decide) (by decide) ?_
      refine lv_aload_n hx hb dX12_lookAt_347 rfl (lv_at hl 0 rfl) ?_
      refine lv_aload_n hx hb dX12_lookAt_348 rfl (lv_at hl 0 rfl) ?_
      refine r_get (v := .ref (a 12)) hx hb hown hq hE hP 20 47 tFX12_20 (by decide) pw_1442 rfl dX12_lookAt_349 ?_
      refine lv_iload_n hx hb dX12_lookAt_352 rfl (lv_at hl 1 rfl) ?_
      refine r_ldi (f := (B 12)) (j := n9) hx hb hE hP 12 (ma_12 G a _) rfl (by omega) (by decide) dX12_lookAt_353 ?_
      obtain ⟨c470, e471, h472, hp473, h474, hc475, hh476, hg477⟩ := Fs2.kid (kk := 16) (s := 1) hF hn9 ek (by decide) (by decide) (by decide) (by decide) (by omega)
      refine lv_topi (fun x478 e479 => ?_)
      obtain rfl : x478 = nI c470 := e479.trans e471
      have hP : va_P G.1 pCl (mW G h0 a (upd (upd (upd (upd (upd (upd (upd (upd (upd (upd (upd (upd (upd (upd (upd (upd F 15 (nI fa)) 44 (nI fd)) 49 (nI md)) 73 (nI sc)) 74 (nI k9)) 77 dn) 78 wt) 79 wf) 15 (nI fa)) 44 (nI fd)) 49 (nI md)) 73 (nI sc)) 74 (nI k9)) 77 dn) 78 wt) 79 wf) (updA (updA (updA (updA (updA B 14 nc) 17 ty) 18 mn) 48 vn) 49 vt)) _ := hP
      have hD : va_D A (mW G h0 a (upd (upd (upd (upd (upd (upd (upd (upd (upd (upd (upd (upd (upd (upd (upd (upd F 15 (nI fa)) 44 (nI fd)) 49 (nI md)) 73 (nI sc)) 74 (nI k9)) 77 dn) 78 wt) 79 wf) 15 (nI fa)) 44 (nI fd)) 49 (nI md)) 73 (nI sc)) 74 (nI k9)) 77 dn) 78 wt) 79 wf) (updA (updA (updA (updA (updA B 14 nc) 17 ty) 18 mn) 48 vn) 49 vt)) := mW_D hD
      refine pc_V0 (G := G) (As := [.int (nI c470)]) (rest := []) hx hb hml hown hq hE hX pX0_al hP hD hS hA hl.1 (ihA h0 a (upd (upd (upd (upd (upd (upd (upd (upd F 15 (nI fa)) 44 (nI fd)) 49 (nI md)) 73 (nI sc)) 74 (nI k9)) 77 dn) 78 wt) 79 wf) B c470 fa sc k9 nd T nm wr lz dc fd md pr bk gh dn wt wf nc ty mn vn vt hst hnm h472 (by omega) (by omega) (by omega) hk9 hnc hmn hvt (show kcl 1 _ = true from hc475)) (gV pw_1815 pw_1816 pw_1817 pw_1523 pw_1831) hV_X12_lookAt 0 9 rfl rfl rfl rfl (Nat.le_of_ble_eq_true rfl) dX12_lookAt_354 ⟨Nat.le_of_ble_eq_true rfl, Nat.le_of_ble_eq_true rfl⟩ ⟨(by show (4 * (z9 - 1) + 10) + 1 ≤ (4 * z9 + 10); omega), (by show 8 + (3 + 11) + (160 * (z9 - 1) + 1400) ≤ (160 * z9 + 1400); omega)⟩ (fun v482 u480 H locs hw481 hP hD hS => ?_)
      obtain ⟨r483, fa484, pl485, dn486, wt487, wf488, ty489, mn490⟩ := u480
      obtain ⟨hw481, h491, h492, h493, h494, h495, h496, h497⟩ := hw481
      replace h491 : fa ≤ fa484 := h491
      replace h492 : fa484 ≤ 15 := h492
      replace h493 : TyC dc r483 := h493
      replace h494 : r483 ≤ 2050 := h494
      replace h495 : ChE B nd c470 ty ty489 mn mn490 := h495
      replace h496 : mnN B nd mn490 := h496
      replace h497 : If (fa484 = 0) (Typ0 B dc fd md nd ty489 mn490 vt sc k9 c470 (nI r483)) := h497
      obtain rfl : v482 = some (.int (nI r483)) := hw481
      have hP : va_P G.1 pCl (mW G h0 a (upd (upd (upd (upd (upd (upd (upd (upd (upd F 15 (nI fa484)) 16 pl485) 44 (nI fd)) 49 (nI md)) 73 (nI sc)) 74 (nI k9)) 77 dn486) 78 wt487) 79 wf488) (updA (updA (updA (updA (updA B 14 nc) 17 ty489) 18 mn490) 48 vn) 49 vt)) _ := mW_to (F := F) (l1 := [(15, (nI fa)), (44, (nI fd)), (49, (nI md)), (73, (nI sc)), (74, (nI k9)), (77, dn), (78, wt), (79, wf), (15, (nI fa484)), (16, pl485), (44, (nI fd)), (49, (nI md)), (73, (nI sc)), (74, (nI k9)), (77, dn486), (78, wt487), (79, wf488)]) (l2 := [(15, (nI fa484)), (16, pl485), (44, (nI fd)), (49, (nI md)), (73, (nI sc)), (74, (nI k9)), (77, dn486), (78, wt487), (79, wf488)]) (V := [(nI fa484), (nI fd), (nI md), (nI sc), (nI k9), dn486, wt487, wf488, (nI fa484), pl485, (nI fd), (nI md), (nI sc), (nI k9), dn486, wt487, wf488, (nI fa484), pl485, (nI fd), (nI md), (nI sc), (nI k9), dn486, wt487, wf488]) rfl rfl rfl hP
      have hD : va_D A (mW G h0 a (upd (upd (upd (upd (upd (upd (upd (upd (upd F 15 (nI fa484)) 16 pl485) 44 (nI fd)) 49 (nI md)) 73 (nI sc)) 74 (nI k9)) 77 dn486) 78 wt487) 79 wf488) (updA (updA (updA (updA (updA B 14 nc) 17 ty489) 18 mn490) 48 vn) 49 vt)) := mW_D hD
      refine W.widen (k := 0) (n := 0) (Nat.le_of_ble_eq_true rfl) (Nat.le_of_ble_eq_true rfl) ?_
      refine W.eq (g2 := F0 m 357 ls [.int (nI r483)]) rfl ?_
      have hch498 : ChE B nd n9 ty ty489 mn mn490 := (ChE.trans ChE.rfl (ChE.kid h495 (by omega) hp473))
      refine lv_istore_n (lv' := [(2, .int (nI r483)), (0, .ref h0), (1, .int (nI n9))]) hx hb dX12_lookAt_357 rfl hl (by decide) rfl (fun ls hl => ?_)
      refine lv_aload_n hx hb dX12_lookAt_358 rfl (lv_at hl 1 rfl) ?_
      refine r_get (v := .ref (a 17)) hx hb hown hq hE hP 25 62 tFX12_25 (by decide) pw_1447 rfl dX12_lookAt_359 ?_
      refine lv_aload_n hx hb dX12_lookAt_362 rfl (lv_at hl 1 rfl) ?_
      refine r_get (v := .ref (a 12)) hx hb hown hq hE hP 20 47 tFX12_20 (by decide) pw_1442 rfl dX12_lookAt_363 ?_
      refine lv_iload_n hx hb dX12_lookAt_366 rfl (lv_at hl 2 rfl) ?_
      refine r_ldi (f := (B 12)) (j := n9) hx hb hE hP 12 (ma_12 G a _) rfl (by omega) (by decide) dX12_lookAt_367 ?_
      refine lv_topi (fun x499 e500 => ?_)
      obtain rfl : x499 = nI c470 := e500.trans e471
      refine lv_iload_n hx hb dX12_lookAt_368 rfl (lv_at hl 0 rfl) ?_
      refine r_sti (f := ty489) (j := c470) hx hb hE hP hD hS 17 (ma_17 G a _) rfl (mas_17 G a _) (by omega) (by decide) dX12_lookAt_369 (fun H locs hP hD hS => ?_)
      have hch501 : ChE B nd c470 ty489 (upd ty489 c470 (nI r483)) mn490 mn490 := (ChE.setT sub.rfl)
      have hch502 : ChE B nd n9 ty (upd ty489 c470 (nI r483)) mn mn490 := (ChE.trans hch498 (ChE.kid hch501 (by omega) hp473))
      have hy503 : If (fa484 = 0) (Typ B dc fd md nd (upd ty489 c470 (nI r483)) mn490 vt sc k9 c470) := (fun e => Typ0.st hF (by omega) h472 (h497 e))
      have ht504 : (upd ty489 c470 (nI r483)) c470 = nI r483 := upd_eq
      refine lv_iload_n hx hb dX12_lookAt_370 rfl (lv_at hl 0 rfl) ?_
      have hz505 : fa ≤ fa484 := (by omega)
      have hz506 : fa484 ≤ 15 := (by omega)
      have hz507 : TyC dc r483 := h493
      have hz508 : r483 ≤ 2050 := (by omega)
      have hz509 : ChE B nd n9 ty (upd ty489 c470 (nI r483)) mn mn490 := hch502
      have hz510 : mnN B nd mn490 := h496
      have hz511 : If (fa484 = 0) (Typ0 B dc fd md nd (upd ty489 c470 (nI r483)) mn490 vt sc k9 n9 (nI r483)) := (fun e => Typ0.of (kids (kk := 16) (c1 := c470) (c2 := c470) (c3 := c470) ek (by decide) ⟨by omega, by omega, by omega⟩ (Or.inr ⟨by decide, e471⟩) (Or.inl (by decide)) (Or.inl (by decide)) (by decide) (hy503 (by omega)) (hy503 (by omega)) (hy503 (by omega))) (LT16 ek hh476 ht504))
      have hP : va_P G.1 pCl (mW G h0 a (upd (upd (upd (upd (upd (upd (upd (upd (upd F 15 (nI fa484)) 16 pl485) 44 (nI fd)) 49 (nI md)) 73 (nI sc)) 74 (nI k9)) 77 dn486) 78 wt487) 79 wf488) (updA (updA (updA (updA (updA B 14 nc) 17 (upd ty489 c470 (nI r483))) 18 mn490) 48 vn) 49 vt)) _ := mW_to (F := F) (l1 := [(15, (nI fa484)), (16, pl485), (44, (nI fd)), (49, (nI md)), (73, (nI sc)), (74, (nI k9)), (77, dn486), (78, wt487), (79, wf488)]) (l2 := [(15, (nI fa484)), (16, pl485), (44, (nI fd)), (49, (nI md)), (73, (nI sc)), (74, (nI k9)), (77, dn486), (78, wt487), (79, wf488)]) (V := [(nI fa484), pl485, (nI fd), (nI md), (nI sc), (nI k9), dn486, wt487, wf488, (nI fa484), pl485, (nI fd), (nI md), (nI sc), (nI k9), dn486, wt487, wf488]) rfl rfl (show (updA (updA (updA (updA (updA (updA B 14 nc) 17 ty489) 18 mn490) 48 vn) 49 vt) 17 (upd ty489 c470 (nI r483))) = (updA (updA (updA (updA (updA B 14 nc) 17 (upd ty489 c470 (nI r483))) 18 mn490) 48 vn) 49 vt) from updsA_eq2 (F := B) (l1 := [(14, nc), (17, ty489), (18, mn490), (48, vn), (49, vt), (17, (upd ty489 c470 (nI r483)))]) (l2 := [(14, nc), (17, (upd ty489 c470 (nI r483))), (18, mn490), (48, vn), (49, vt)]) (V := [nc, (upd ty489 c470 (nI r483)), mn490, vn, vt, (upd ty489 c470 (nI r483)), nc, (upd ty489 c470 (nI r483)), mn490, vn, vt]) rfl rfl) hP
      have hD : va_D A (mW G h0 a (upd (upd (upd (upd (upd (upd (upd (upd (upd F 15 (nI fa484)) 16 pl485) 44 (nI fd)) 49 (nI md)) 73 (nI sc)) 74 (nI k9)) 77 dn486) 78 wt487) 79 wf488) (updA (updA (updA (updA (updA B 14 nc) 17 (upd ty489 c470 (nI r483))) 18 mn490) 48 vn) 49 vt)) := mW_D hD
      exact W.iret (v := (nI r483)) hx hb hr (fun t9 ht9 hW9 => ⟨⟨_, (r483, fa484, pl485, dn486, wt487, wf488, (upd ty489 c470 (nI r483)), mn490), rfl, ⟨rfl, hz505, hz506, hz507, hz508, hz509, hz510, hz511⟩, by rw [ht9]; exact hP, hD⟩, hS.F ht9⟩) hS.2.2 dX12_lookAt_371
    · refine lv_topi (fun x512 e513 => ?_)
      obtain rfl : x512 = 17 := e513.trans ek
      refine lv_tableIn (tgt := 372) (off := 357) hx hb dX12_lookAt_15 (by decide) (by decide) (by decide) (by decide) ?_
      refine lv_aload_n hx hb dX12_lookAt_372 rfl (lv_at hl 0 rfl) ?_
      refine lv_iload_n hx hb dX12_lookAt_373 rfl (lv_at hl 1 rfl) ?_
      have hP : va_P G.1 pCl (mW G h0 a (upd (upd (upd (upd (upd (upd (upd (upd (upd (upd (upd (upd (upd (upd (upd (upd F 15 (nI fa)) 44 (nI fd)) 49 (nI md)) 73 (nI sc)) 74 (nI k9)) 77 dn) 78 wt) 79 wf) 15 (nI fa)) 44 (nI fd)) 49 (nI md)) 73 (nI sc)) 74 (nI k9)) 77 dn) 78 wt) 79 wf) (updA (updA (updA (updA (updA B 14 nc) 17 ty) 18 mn) 48 vn) 49 vt)) _ := hP
      have hD : va_D A (mW G h0 a (upd (upd (upd (upd (upd (upd (upd (upd (upd (upd (upd (upd (upd (upd (upd (upd F 15 (nI fa)) 44 (nI fd)) 49 (nI md)) 73 (nI sc)) 74 (nI k9)) 77 dn) 78 wt) 79 wf) 15 (nI fa)) 44 (nI fd)) 49 (nI md)) 73 (nI sc)) 74 (nI k9)) 77 dn) 78 wt) 79 wf) (updA (updA (updA (updA (updA B 14 nc) 17 ty) 18 mn) 48 vn) 49 vt)) := mW_D hD
      refine pc_V0 (G := G) (As := [.int (nI n9)]) (rest := []) hx hb hml hown hq hE hX pX0_al hP hD hS hA hl.1 (L_lookFront l G h0 a (upd (upd (upd (upd (upd (upd (upd (upd F 15 (nI fa)) 44 (nI fd)) 49 (nI md)) 73 (nI sc)) 74 (nI k9)) 77 dn) 78 wt) 79 wf) B n9 z9 fa sc k9 nd T nm wr lz dc fd md pr bk gh dn wt wf nc ty mn vn vt hst hnm hn9 (by omega) (by omega) (by omega) hk9 hnc hmn hvt ek ihA) (gV pw_1847 pw_1848 pw_1849 pw_1523 pw_1863) hV_X12_lookFront 0 9 rfl rfl rfl rfl (Nat.le_of_ble_eq_true rfl) dX12_lookAt_374 ⟨Nat.le_of_ble_eq_true rfl, Nat.le_of_ble_eq_true rfl⟩ ⟨(by show (4 * z9 + 9) + 1 ≤ (4 * z9 + 10); omega), (by show 8 + (5 + 11) + (160 * z9 + 1360) ≤ (160 * z9 + 1400); omega)⟩ (fun v516 u514 H locs hw515 hP hD hS => ?_)
      obtain ⟨r517, fa518, pl519, dn520, wt521, wf522, ty523, mn524⟩ := u514
      obtain ⟨hw515, h525, h526, h527, h528, h529, h530, h531⟩ := hw515
      replace h525 : fa ≤ fa518 := h525
      replace h526 : fa518 ≤ 15 := h526
      replace h527 : TyC dc r517 := h527
      replace h528 : r517 ≤ 2050 := h528
      replace h529 : ChE B nd n9 ty ty523 mn mn524 := h529
      replace h530 : mnN B nd mn524 := h530
      replace h531 : If (fa518 = 0) (Typ0 B dc fd md nd ty523 mn524 vt sc k9 n9 (nI r517)) := h531
      obtain rfl : v516 = some (.int (nI r517)) := hw515
      have hP : va_P G.1 pCl (mW G h0 a (upd (upd (upd (upd (upd (upd (upd (upd (upd F 15 (nI fa518)) 16 pl519) 44 (nI fd)) 49 (nI md)) 73 (nI sc)) 74 (nI k9)) 77 dn520) 78 wt521) 79 wf522) (updA (updA (updA (updA (updA B 14 nc) 17 ty523) 18 mn524) 48 vn) 49 vt)) _ := mW_to (F := F) (l1 := [(15, (nI fa)), (44, (nI fd)), (49, (nI md)), (73, (nI sc)), (74, (nI k9)), (77, dn), (78, wt), (79, wf), (15, (nI fa518)), (16, pl519), (44, (nI fd)), (49, (nI md)), (73, (nI sc)), (74, (nI k9)), (77, dn520), (78, wt521), (79, wf522)]) (l2 := [(15, (nI fa518)), (16, pl519), (44, (nI fd)), (49, (nI md)), (73, (nI sc)), (74, (nI k9)), (77, dn520), (78, wt521), (79, wf522)]) (V := [(nI fa518), (nI fd), (nI md), (nI sc), (nI k9), dn520, wt521, wf522, (nI fa518), pl519, (nI fd), (nI md), (nI sc), (nI k9), dn520, wt521, wf522, (nI fa518), pl519, (nI fd), (nI md), (nI sc), (nI k9), dn520, wt521, wf522]) rfl rfl rfl hP
      have hD : va_D A (mW G h0 a (upd (upd (upd (upd (upd (upd (upd (upd (upd F 15 (nI fa518)) 16 pl519) 44 (nI fd)) 49 (nI md)) 73 (nI sc)) 74 (nI k9)) 77 dn520) 78 wt521) 79 wf522) (updA (updA (updA (updA (updA B 14 nc) 17 ty523) 18 mn524) 48 vn) 49 vt)) := mW_D hD
      refine W.widen (k := 0) (n := 0) (Nat.le_of_ble_eq_true rfl) (Nat.le_of_ble_eq_true rfl) ?_
      refine W.eq (g2 := F0 m 377 ls [.int (nI r517)]) rfl ?_
      have hch532 : ChE B nd n9 ty ty523 mn mn524 := (ChE.trans ChE.rfl h529)
      have hz533 : fa ≤ fa518 := (by omega)
      have hz534 : fa518 ≤ 15 := (by omega)
      have hz535 : TyC dc r517 := h527
      have hz536 : r517 ≤ 2050 := (by omega)
      have hz537 : ChE B nd n9 ty ty523 mn mn524 := hch532
      have hz538 : mnN B nd mn524 := h530
      have hz539 : If (fa518 = 0) (Typ0 B dc fd md nd ty523 mn524 vt sc k9 n9 (nI r517)) := (fun e => h531 (by omega))
      have hP : va_P G.1 pCl (mW G h0 a (upd (upd (upd (upd (upd (upd (upd (upd (upd F 15 (nI fa518)) 16 pl519) 44 (nI fd)) 49 (nI md)) 73 (nI sc)) 74 (nI k9)) 77 dn520) 78 wt521) 79 wf522) (updA (updA (updA (updA (updA B 14 nc) 17 ty523) 18 mn524) 48 vn) 49 vt)) _ := hP
      have hD : va_D A (mW G h0 a (upd (upd (upd (upd (upd (upd (upd (upd (upd F 15 (nI fa518)) 16 pl519) 44 (nI fd)) 49 (nI md)) 73 (nI sc)) 74 (nI k9)) 77 dn520) 78 wt521) 79 wf522) (updA (updA (updA (updA (updA B 14 nc) 17 ty523) 18 mn524) 48 vn) 49 vt)) := mW_D hD
      exact W.iret (v := (nI r517)) hx hb hr (fun t9 ht9 hW9 => ⟨⟨_, (r517, fa518, pl519, dn520, wt521, wf522, ty523, mn524), rfl, ⟨rfl, hz533, hz534, hz535, hz536, hz537, hz538, hz539⟩, by rw [ht9]; exact hP, hD⟩, hS.F ht9⟩) hS.2.2 dX12_lookAt_377
    · refine lv_topi (fun x540 e541 => ?_)
      obtain rfl : x540 = 18 := e541.trans ek
      refine lv_tableIn (tgt := 378) (off := 363) hx hb dX12_lookAt_15 (by decide) (by decide) (by decide) (by decide) ?_
      refine lv_aload_n hx hb dX12_lookAt_378 rfl (lv_at hl 0 rfl) ?_
      refine lv_iload_n hx hb dX12_lookAt_379 rfl (lv_at hl 1 rfl) ?_
      have hP : va_P G.1 pCl (mW G h0 a (upd (upd (upd (upd (upd (upd (upd (upd (upd (upd (upd (upd (upd (upd (upd (upd F 15 (nI fa)) 44 (nI fd)) 49 (nI md)) 73 (nI sc)) 74 (nI k9)) 77 dn) 78 wt) 79 wf) 15 (nI fa)) 44 (nI fd)) 49 (nI md)) 73 (nI sc)) 74 (nI k9)) 77 dn) 78 wt) 79 wf) (updA (updA (updA (updA (updA B 14 nc) 17 ty) 18 mn) 48 vn) 49 vt)) _ := hP
      have hD : va_D A (mW G h0 a (upd (upd (upd (upd (upd (upd (upd (upd (upd (upd (upd (upd (upd (upd (upd (upd F 15 (nI fa)) 44 (nI fd)) 49 (nI md)) 73 (nI sc)) 74 (nI k9)) 77 dn) 78 wt) 79 wf) 15 (nI fa)) 44 (nI fd)) 49 (nI md)) 73 (nI sc)) 74 (nI k9)) 77 dn) 78 wt) 79 wf) (updA (updA (updA (updA (updA B 14 nc) 17 ty) 18 mn) 48 vn) 49 vt)) := mW_D hD
      refine pc_V0 (G := G) (As := [.int (nI n9)]) (rest := []) hx hb hml hown hq hE hX pX0_al hP hD hS hA hl.1 (L_two l G h0 a (upd (upd (upd (upd (upd (upd (upd (upd F 15 (nI fa)) 44 (nI fd)) 49 (nI md)) 73 (nI sc)) 74 (nI k9)) 77 dn) 78 wt) 79 wf) B n9 z9 fa sc k9 nd T nm wr lz dc fd md pr bk gh dn wt wf nc ty mn vn vt hst hnm hn9 (by omega) (by omega) (by omega) hk9 hnc hmn hvt ek ihL ihW) (gV pw_1850 pw_1851 pw_1852 pw_1523 pw_1864) hV_X12_two 0 9 rfl rfl rfl rfl (Nat.le_of_ble_eq_true rfl) dX12_lookAt_380 ⟨Nat.le_of_ble_eq_true rfl, Nat.le_of_ble_eq_true rfl⟩ ⟨(by show (4 * z9 + 9) + 1 ≤ (4 * z9 + 10); omega), (by show 8 + (5 + 11) + (160 * z9 + 1360) ≤ (160 * z9 + 1400); omega)⟩ (fun v544 u542 H locs hw543 hP hD hS => ?_)
      obtain ⟨r545, fa546, pl547, dn548, wt549, wf550, ty551, mn552⟩ := u542
      obtain ⟨hw543, h553, h554, h555, h556, h557, h558, h559⟩ := hw543
      replace h553 : fa ≤ fa546 := h553
      replace h554 : fa546 ≤ 15 := h554
      replace h555 : TyC dc r545 := h555
      replace h556 : r545 ≤ 2050 := h556
      replace h557 : ChE B nd n9 ty ty551 mn mn552 := h557
      replace h558 : mnN B nd mn552 := h558
      replace h559 : If (fa546 = 0) (Typ0 B dc fd md nd ty551 mn552 vt sc k9 n9 (nI r545)) := h559
      obtain rfl : v544 = some (.int (nI r545)) := hw543
      have hP : va_P G.1 pCl (mW G h0 a (upd (upd (upd (upd (upd (upd (upd (upd (upd F 15 (nI fa546)) 16 pl547) 44 (nI fd)) 49 (nI md)) 73 (nI sc)) 74 (nI k9)) 77 dn548) 78 wt549) 79 wf550) (updA (updA (updA (updA (updA B 14 nc) 17 ty551) 18 mn552) 48 vn) 49 vt)) _ := mW_to (F := F) (l1 := [(15, (nI fa)), (44, (nI fd)), (49, (nI md)), (73, (nI sc)), (74, (nI k9)), (77, dn), (78, wt), (79, wf), (15, (nI fa546)), (16, pl547), (44, (nI fd)), (49, (nI md)), (73, (nI sc)), (74, (nI k9)), (77, dn548), (78, wt549), (79, wf550)]) (l2 := [(15, (nI fa546)), (16, pl547), (44, (nI fd)), (49, (nI md)), (73, (nI sc)), (74, (nI k9)), (77, dn548), (78, wt549), (79, wf550)]) (V := [(nI fa546), (nI fd), (nI md), (nI sc), (nI k9), dn548, wt549, wf550, (nI fa546), pl547, (nI fd), (nI md), (nI sc), (nI k9), dn548, wt549, wf550, (nI fa546), pl547, (nI fd), (nI md), (nI sc), (nI k9), dn548, wt549, wf550]) rfl rfl rfl hP
      have hD : va_D A (mW G h0 a (upd (upd (upd (upd (upd (upd (upd (upd (upd F 15 (nI fa546)) 16 pl547) 44 (nI fd)) 49 (nI md)) 73 (nI sc)) 74 (nI k9)) 77 dn548) 78 wt549) 79 wf550) (updA (updA (updA (updA (updA B 14 nc) 17 ty551) 18 mn552) 48 vn) 49 vt)) := mW_D hD
      refine W.widen (k := 0) (n := 0) (Nat.le_of_ble_eq_true rfl) (Nat.le_of_ble_eq_true rfl) ?_
      refine W.eq (g2 := F0 m 383 ls [.int (nI r545)]) rfl ?_
      have hch560 : ChE B nd n9 ty ty551 mn mn552 := (ChE.trans ChE.rfl h557)
      have hz561 : fa ≤ fa546 := (by omega)
      have hz562 : fa546 ≤ 15 := (by omega)
      have hz563 : TyC dc r545 := h555
      have hz564 : r545 ≤ 2050 := (by omega)
      have hz565 : ChE B nd n9 ty ty551 mn mn552 := hch560
      have hz566 : mnN B nd mn552 := h558
      have hz567 : If (fa546 = 0) (Typ0 B dc fd md nd ty551 mn552 vt sc k9 n9 (nI r545)) := (fun e => h559 (by omega))
      have hP : va_P G.1 pCl (mW G h0 a (upd (upd (upd (upd (upd (upd (upd (upd (upd F 15 (nI fa546)) 16 pl547) 44 (nI fd)) 49 (nI md)) 73 (nI sc)) 74 (nI k9)) 77 dn548) 78 wt549) 79 wf550) (updA (updA (updA (updA (updA B 14 nc) 17 ty551) 18 mn552) 48 vn) 49 vt)) _ := hP
      have hD : va_D A (mW G h0 a (upd (upd (upd (upd (upd (upd (upd (upd (upd F 15 (nI fa546)) 16 pl547) 44 (nI fd)) 49 (nI md)) 73 (nI sc)) 74 (nI k9)) 77 dn548) 78 wt549) 79 wf550) (updA (updA (updA (updA (updA B 14 nc) 17 ty551) 18 mn552) 48 vn) 49 vt)) := mW_D hD
      exact W.iret (v := (nI r545)) hx hb hr (fun t9 ht9 hW9 => ⟨⟨_, (r545, fa546, pl547, dn548, wt549, wf550, ty551, mn552), rfl, ⟨rfl, hz561, hz562, hz563, hz564, hz565, hz566, hz567⟩, by rw [ht9]; exact hP, hD⟩, hS.F ht9⟩) hS.2.2 dX12_lookAt_383
    · refine lv_topi (fun x568 e569 => ?_)
      obtain rfl : x568 = 19 := e569.trans ek
      refine lv_tableIn (tgt := 384) (off := 369) hx hb dX12_lookAt_15 (by decide) (by decide) (by decide) (by decide) ?_
      refine lv_aload_n hx hb dX12_lookAt_384 rfl (lv_at hl 0 rfl) ?_
      refine lv_iload_n hx hb dX12_lookAt_385 rfl (lv_at hl 1 rfl) ?_
      have hP : va_P G.1 pCl (mW G h0 a (upd (upd (upd (upd (upd (upd (upd (upd (upd (upd (upd (upd (upd (upd (upd (upd F 15 (nI fa)) 44 (nI fd)) 49 (nI md)) 73 (nI sc)) 74 (nI k9)) 77 dn) 78 wt) 79 wf) 15 (nI fa)) 44 (nI fd)) 49 (nI md)) 73 (nI sc)) 74 (nI k9)) 77 dn) 78 wt) 79 wf) (updA (updA (updA (updA (updA B 14 nc) 17 ty) 18 mn) 48 vn) 49 vt)) _ := hP
      have hD : va_D A (mW G h0 a (upd (upd (upd (upd (upd (upd (upd (upd (upd (upd (upd (upd (upd (upd (upd (upd F 15 (nI fa)) 44 (nI fd)) 49 (nI md)) 73 (nI sc)) 74 (nI k9)) 77 dn) 78 wt) 79 wf) 15 (nI fa)) 44 (nI fd)) 49 (nI md)) 73 (nI sc)) 74 (nI k9)) 77 dn) 78 wt) 79 wf) (updA (updA (updA (updA (updA B 14 nc) 17 ty) 18 mn) 48 vn) 49 vt)) := mW_D hD
      refine pc_V0 (G := G) (As := [.int (nI n9)]) (rest := []) hx hb hml hown hq hE hX pX0_al hP hD hS hA hl.1 (L_joined19 l G h0 a (upd (upd (upd (upd (upd (upd (upd (upd F 15 (nI fa)) 44 (nI fd)) 49 (nI md)) 73 (nI sc)) 74 (nI k9)) 77 dn) 78 wt) 79 wf) B n9 z9 fa sc k9 nd T nm wr lz dc fd md pr bk gh dn wt wf nc ty mn vn vt hst hnm hn9 (by omega) (by omega) (by omega) hk9 hnc hmn hvt ek ihA) (gV pw_1853 pw_1854 pw_1855 pw_1523 pw_1829) hV_X12_joined 0 9 rfl rfl rfl rfl (Nat.le_of_ble_eq_true rfl) dX12_lookAt_386 ⟨Nat.le_of_ble_eq_true rfl, Nat.le_of_ble_eq_true rfl⟩ ⟨(by show (4 * z9 + 9) + 1 ≤ (4 * z9 + 10); omega), (by show 8 + (7 + 11) + (160 * z9 + 1360) ≤ (160 * z9 + 1400); omega)⟩ (fun v572 u570 H locs hw571 hP hD hS => ?_)
      obtain ⟨r573, fa574, pl575, dn576, wt577, wf578, ty579, mn580⟩ := u570
      obtain ⟨hw571, h581, h582, h583, h584, h585, h586, h587⟩ := hw571
      replace h581 : fa ≤ fa574 := h581
      replace h582 : fa574 ≤ 15 := h582
      replace h583 : TyC dc r573 := h583
      replace h584 : r573 ≤ 2050 := h584
      replace h585 : ChE B nd n9 ty ty579 mn mn580 := h585
      replace h586 : mnN B nd mn580 := h586
      replace h587 : If (fa574 = 0) (Typ0 B dc fd md nd ty579 mn580 vt sc k9 n9 (nI r573)) := h587
      obtain rfl : v572 = some (.int (nI r573)) := hw571
      have hP : va_P G.1 pCl (mW G h0 a (upd (upd (upd (upd (upd (upd (upd (upd (upd F 15 (nI fa574)) 16 pl575) 44 (nI fd)) 49 (nI md)) 73 (nI sc)) 74 (nI k9)) 77 dn576) 78 wt577) 79 wf578) (updA (updA (updA (updA (updA B 14 nc) 17 ty579) 18 mn580) 48 vn) 49 vt)) _ := mW_to (F := F) (l1 := [(15, (nI fa)), (44, (nI fd)), (49, (nI md)), (73, (nI sc)), (74, (nI k9)), (77, dn), (78, wt), (79, wf), (15, (nI fa574)), (16, pl575), (44, (nI fd)), (49, (nI md)), (73, (nI sc)), (74, (nI k9)), (77, dn576), (78, wt577), (79, wf578)]) (l2 := [(15, (nI fa574)), (16, pl575), (44, (nI fd)), (49, (nI md)), (73, (nI sc)), (74, (nI k9)), (77, dn576), (78, wt577), (79, wf578)]) (V := [(nI fa574), (nI fd), (nI md), (nI sc), (nI k9), dn576, wt577, wf578, (nI fa574), pl575, (nI fd), (nI md), (nI sc), (nI k9), dn576, wt577, wf578, (nI fa574), pl575, (nI fd), (nI md), (nI sc), (nI k9), dn576, wt577, wf578]) rfl rfl rfl hP
      have hD : va_D A (mW G h0 a (upd (upd (upd (upd (upd (upd (upd (upd (upd F 15 (nI fa574)) 16 pl575) 44 (nI fd)) 49 (nI md)) 73 (nI sc)) 74 (nI k9)) 77 dn576) 78 wt577) 79 wf578) (updA (updA (updA (updA (updA B 14 nc) 17 ty579) 18 mn580) 48 vn) 49 vt)) := mW_D hD
      refine W.widen (k := 0) (n := 0) (Nat.le_of_ble_eq_true rfl) (Nat.le_of_ble_eq_true rfl) ?_
      refine W.eq (g2 := F0 m 389 ls [.int (nI r573)]) rfl ?_
      have hch588 : ChE B nd n9 ty ty579 mn mn580 := (ChE.trans ChE.rfl h585)
      have hz589 : fa ≤ fa574 := (by omega)
      have hz590 : fa574 ≤ 15 := (by omega)
      have hz591 : TyC dc r573 := h583
      have hz592 : r573 ≤ 2050 := (by omega)
      have hz593 : ChE B nd n9 ty ty579 mn mn580 := hch588
      have hz594 : mnN B nd mn580 := h586
      have hz595 : If (fa574 = 0) (Typ0 B dc fd md nd ty579 mn580 vt sc k9 n9 (nI r573)) := (fun e => h587 (by omega))
      have hP : va_P G.1 pCl (mW G h0 a (upd (upd (upd (upd (upd (upd (upd (upd (upd F 15 (nI fa574)) 16 pl575) 44 (nI fd)) 49 (nI md)) 73 (nI sc)) 74 (nI k9)) 77 dn576) 78 wt577) 79 wf578) (updA (updA (updA (updA (updA B 14 nc) 17 ty579) 18 mn580) 48 vn) 49 vt)) _ := hP
      have hD : va_D A (mW G h0 a (upd (upd (upd (upd (upd (upd (upd (upd (upd F 15 (nI fa574)) 16 pl575) 44 (nI fd)) 49 (nI md)) 73 (nI sc)) 74 (nI k9)) 77 dn576) 78 wt577) 79 wf578) (updA (updA (updA (updA (updA B 14 nc) 17 ty579) 18 mn580) 48 vn) 49 vt)) := mW_D hD
      exact W.iret (v := (nI r573)) hx hb hr (fun t9 ht9 hW9 => ⟨⟨_, (r573, fa574, pl575, dn576, wt577, wf578, ty579, mn580), rfl, ⟨rfl, hz589, hz590, hz591, hz592, hz593, hz594, hz595⟩, by rw [ht9]; exact hP, hD⟩, hS.F ht9⟩) hS.2.2 dX12_lookAt_389
    · refine lv_topi (fun x596 e597 => ?_)
      obtain rfl : x596 = 20 := e597.trans ek
      refine lv_tableIn (tgt := 384) (off := 369) hx hb dX12_lookAt_15 (by decide) (by decide) (by decide) (by decide) ?_
      refine lv_aload_n hx hb dX12_lookAt_384 rfl (lv_at hl 0 rfl) ?_
      refine lv_iload_n hx hb dX12_lookAt_385 rfl (lv_at hl 1 rfl) ?_
      have hP : va_P G.1 pCl (mW G h0 a (upd (upd (upd (upd (upd (upd (upd (upd (upd (upd (upd (upd (upd (upd (upd (upd F 15 (nI fa)) 44 (nI fd)) 49 (nI md)) 73 (nI sc)) 74 (nI k9)) 77 dn) 78 wt) 79 wf) 15 (nI fa)) 44 (nI fd)) 49 (nI md)) 73 (nI sc)) 74 (nI k9)) 77 dn) 78 wt) 79 wf) (updA (updA (updA (updA (updA B 14 nc) 17 ty) 18 mn) 48 vn) 49 vt)) _ := hP
      have hD : va_D A (mW G h0 a (upd (upd (upd (upd (upd (upd (upd (upd (upd (upd (upd (upd (upd (upd (upd (upd F 15 (nI fa)) 44 (nI fd)) 49 (nI md)) 73 (nI sc)) 74 (nI k9)) 77 dn) 78 wt) 79 wf) 15 (nI fa)) 44 (nI fd)) 49 (nI md)) 73 (nI sc)) 74 (nI k9)) 77 dn) 78 wt) 79 wf) (updA (updA (updA (updA (updA B 14 nc) 17 ty) 18 mn) 48 vn) 49 vt)) := mW_D hD
      refine pc_V0 (G := G) (As := [.int (nI n9)]) (rest := []) hx hb hml hown hq hE hX pX0_al hP hD hS hA hl.1 (L_joined20 l G h0 a (upd (upd (upd (upd (upd (upd (upd (upd F 15 (nI fa)) 44 (nI fd)) 49 (nI md)) 73 (nI sc)) 74 (nI k9)) 77 dn) 78 wt) 79 wf) B n9 z9 fa sc k9 nd T nm wr lz dc fd md pr bk gh dn wt wf nc ty mn vn vt hst hnm hn9 (by omega) (by omega) (by omega) hk9 hnc hmn hvt ek ihA) (gV pw_1853 pw_1854 pw_1855 pw_1523 pw_1829) hV_X12_joined 0 9 rfl rfl rfl rfl (Nat.le_of_ble_eq_true rfl) dX12_lookAt_386 ⟨Nat.le_of_ble_eq_true rfl, Nat.le_of_ble_eq_true rfl⟩ ⟨(by show (4 * z9 + 9) + 1 ≤ (4 * z9 + 10); omega), (by show 8 + (7 + 11) + (160 * z9 + 1360) ≤ (160 * z9 + 1400); omega)⟩ (fun v600 u598 H locs hw599 hP hD hS => ?_)
      obtain ⟨r601, fa602, pl603, dn604, wt605, wf606, ty607, mn608⟩ := u598
      obtain ⟨hw599, h609, h610, h611, h612, h613, h614, h615⟩ := hw599
      replace h609 : fa ≤ fa602 := h609
      replace h610 : fa602 ≤ 15 := h610
      replace h611 : TyC dc r601 := h611
      replace h612 : r601 ≤ 2050 := h612
      replace h613 : ChE B nd n9 ty ty607 mn mn608 := h613
      replace h614 : mnN B nd mn608 := h614
      replace h615 : If (fa602 = 0) (Typ0 B dc fd md nd ty607 mn608 vt sc k9 n9 (nI r601)) := h615
      obtain rfl : v600 = some (.int (nI r601)) := hw599
      have hP : va_P G.1 pCl (mW G h0 a (upd (upd (upd (upd (upd (upd (upd (upd (upd F 15 (nI fa602)) 16 pl603) 44 (nI fd)) 49 (nI md)) 73 (nI sc)) 74 (nI k9)) 77 dn604) 78 wt605) 79 wf606) (updA (updA (updA (updA (updA B 14 nc) 17 ty607) 18 mn608) 48 vn) 49 vt)) _ := mW_to (F := F) (l1 := [(15, (nI fa)), (44, (nI fd)), (49, (nI md)), (73, (nI sc)), (74, (nI k9)), (77, dn), (78, wt), (79, wf), (15, (nI fa602)), (16, pl603), (44, (nI fd)), (49, (nI md)), (73, (nI sc)), (74, (nI k9)), (77, dn604), (78, wt605), (79, wf606)]) (l2 := [(15, (nI fa602)), (16, pl603), (44, (nI fd)), (49, (nI md)), (73, (nI sc)), (74, (nI k9)), (77, dn604), (78, wt605), (79, wf606)]) (V := [(nI fa602), (nI fd), (nI md), (nI sc), (nI k9), dn604, wt605, wf606, (nI fa602), pl603, (nI fd), (nI md), (nI sc), (nI k9), dn604, wt605, wf606, (nI fa602), pl603, (nI fd), (nI md), (nI sc), (nI k9), dn604, wt605, wf606]) rfl rfl rfl hP
      have hD : va_D A (mW G h0 a (upd (upd (upd (upd (upd (upd (upd (upd (upd F 15 (nI fa602)) 16 pl603) 44 (nI fd)) 49 (nI md)) 73 (nI sc)) 74 (nI k9)) 77 dn604) 78 wt605) 79 wf606) (updA (updA (updA (updA (updA B 14 nc) 17 ty607) 18 mn608) 48 vn) 49 vt)) := mW_D hD
      refine W.widen (k := 0) (n := 0) (Nat.le_of_ble_eq_true rfl) (Nat.le_of_ble_eq_true rfl) ?_
      refine W.eq (g2 := F0 m 389 ls [.int (nI r601)]) rfl ?_
      have hch616 : ChE B nd n9 ty ty607 mn mn608 := (ChE.trans ChE.rfl h613)
      have hz617 : fa ≤ fa602 := (by omega)
      have hz618 : fa602 ≤ 15 := (by omega)
      have hz619 : TyC dc r601 := h611
      have hz620 : r601 ≤ 2050 := (by omega)
      have hz621 : ChE B nd n9 ty ty607 mn mn608 := hch616
      have hz622 : mnN B nd mn608 := h614
      have hz623 : If (fa602 = 0) (Typ0 B dc fd md nd ty607 mn608 vt sc k9 n9 (nI r601)) := (fun e => h615 (by omega))
      have hP : va_P G.1 pCl (mW G h0 a (upd (upd (upd (upd (upd (upd (upd (upd (upd F 15 (nI fa602)) 16 pl603) 44 (nI fd)) 49 (nI md)) 73 (nI sc)) 74 (nI k9)) 77 dn604) 78 wt605) 79 wf606) (updA (updA (updA (updA (updA B 14 nc) 17 ty607) 18 mn608) 48 vn) 49 vt)) _ := hP
      have hD : va_D A (mW G h0 a (upd (upd (upd (upd (upd (upd (upd (upd (upd F 15 (nI fa602)) 16 pl603) 44 (nI fd)) 49 (nI md)) 73 (nI sc)) 74 (nI k9)) 77 dn604) 78 wt605) 79 wf606) (updA (updA (updA (updA (updA B 14 nc) 17 ty607) 18 mn608) 48 vn) 49 vt)) := mW_D hD
      exact W.iret (v := (nI r601)) hx hb hr (fun t9 ht9 hW9 => ⟨⟨_, (r601, fa602, pl603, dn604, wt605, wf606, ty607, mn608), rfl, ⟨rfl, hz617, hz618, hz619, hz620, hz621, hz622, hz623⟩, by rw [ht9]; exact hP, hD⟩, hS.F ht9⟩) hS.2.2 dX12_lookAt_389
    · refine lv_topi (fun x624 e625 => ?_)
      obtain rfl : x624 = 21 := e625.trans ek
      refine lv_tableIn (tgt := 390) (off := 375) hx hb dX12_lookAt_15 (by decide) (by decide) (by decide) (by decide) ?_
      refine lv_aload_n hx hb dX12_lookAt_390 rfl (lv_at hl 0 rfl) ?_
      refine lv_aload_n hx hb dX12_lookAt_391 rfl (lv_at hl 0 rfl) ?_
      refine r_get (v := .ref (a 12)) hx hb hown hq hE hP 20 47 tFX12_20 (by decide) pw_1442 rfl dX12_lookAt_392 ?_
      refine lv_iload_n hx hb dX12_lookAt_395 rfl (lv_at hl 1 rfl) ?_
      refine r_ldi (f := (B 12)) (j := n9) hx hb hE hP 12 (ma_12 G a _) rfl (by omega) (by decide) dX12_lookAt_396 ?_
      obtain ⟨c626, e627, h628, hp629, h630, hc631, hh632, hg633⟩ := Fs2.kid (kk := 21) (s := 1) hF hn9 ek (by decide) (by decide) (by decide) (by decide) (by omega)
      refine lv_topi (fun x634 e635 => ?_)
      obtain rfl : x634 = nI c626 := e635.trans e627
      have hP : va_P G.1 pCl (mW G h0 a (upd (upd (upd (upd (upd (upd (upd (upd (upd (upd (upd (upd (upd (upd (upd (upd F 15 (nI fa)) 44 (nI fd)) 49 (nI md)) 73 (nI sc)) 74 (nI k9)) 77 dn) 78 wt) 79 wf) 15 (nI fa)) 44 (nI fd)) 49 (nI md)) 73 (nI sc)) 74 (nI k9)) 77 dn) 78 wt) 79 wf) (updA (updA (updA (updA (updA B 14 nc) 17 ty) 18 mn) 48 vn) 49 vt)) _ := hP
      have hD : va_D A (mW G h0 a (upd (upd (upd (upd (upd (upd (upd (upd (upd (upd (upd (upd (upd (upd (upd (upd F 15 (nI fa)) 44 (nI fd)) 49 (nI md)) 73 (nI sc)) 74 (nI k9)) 77 dn) 78 wt) 79 wf) 15 (nI fa)) 44 (nI fd)) 49 (nI md)) 73 (nI sc)) 74 (nI k9)) 77 dn) 78 wt) 79 wf) (updA (updA (updA (updA (updA B 14 nc) 17 ty) 18 mn) 48 vn) 49 vt)) := mW_D hD
      refine pc_V0 (G := G) (As := [.int (nI c626)]) (rest := []) hx hb hml hown hq hE hX pX0_al hP hD hS hA hl.1 (ihL h0 a (upd (upd (upd (upd (upd (upd (upd (upd F 15 (nI fa)) 44 (nI fd)) 49 (nI md)) 73 (nI sc)) 74 (nI k9)) 77 dn) 78 wt) 79 wf) B c626 fa sc k9 nd T nm wr lz dc fd md pr bk gh dn wt wf nc ty mn vn vt hst hnm h628 (by omega) (by omega) (by omega) hk9 hnc hmn hvt (show kcl 1 _ = true from hc631)) (gV pw_1822 pw_1823 pw_1824 pw_1523 pw_1830) hV_X12_look 0 9 rfl rfl rfl rfl (Nat.le_of_ble_eq_true rfl) dX12_lookAt_397 ⟨Nat.le_of_ble_eq_true rfl, Nat.le_of_ble_eq_true rfl⟩ ⟨(by show (4 * (z9 - 1) + 11) + 1 ≤ (4 * z9 + 10); omega), (by show 8 + (3 + 11) + (160 * (z9 - 1) + 1440) ≤ (160 * z9 + 1400); omega)⟩ (fun v638 u636 H locs hw637 hP hD hS => ?_)
      obtain ⟨r639, fa640, pl641, dn642, wt643, wf644, ty645, mn646⟩ := u636
      obtain ⟨hw637, h647, h648, h649, h650, h651, h652, h653, h654⟩ := hw637
      replace h647 : fa ≤ fa640 := h647
      replace h648 : fa640 ≤ 15 := h648
      replace h649 : TyC dc r639 := h649
      replace h650 : r639 ≤ 2050 := h650
      replace h651 : ChE B nd c626 ty ty645 mn mn646 := h651
      replace h652 : mnN B nd mn646 := h652
      replace h653 : If (fa640 = 0) (Typ B dc fd md nd ty645 mn646 vt sc k9 c626) := h653
      replace h654 : ty645 c626 = nI r639 := h654
      obtain rfl : v638 = some (.int (nI r639)) := hw637
      have hP : va_P G.1 pCl (mW G h0 a (upd (upd (upd (upd (upd (upd (upd (upd (upd F 15 (nI fa640)) 16 pl641) 44 (nI fd)) 49 (nI md)) 73 (nI sc)) 74 (nI k9)) 77 dn642) 78 wt643) 79 wf644) (updA (updA (updA (updA (updA B 14 nc) 17 ty645) 18 mn646) 48 vn) 49 vt)) _ := mW_to (F := F) (l1 := [(15, (nI fa)), (44, (nI fd)), (49, (nI md)), (73, (nI sc)), (74, (nI k9)), (77, dn), (78, wt), (79, wf), (15, (nI fa640)), (16, pl641), (44, (nI fd)), (49, (nI md)), (73, (nI sc)), (74, (nI k9)), (77, dn642), (78, wt643), (79, wf644)]) (l2 := [(15, (nI fa640)), (16, pl641), (44, (nI fd)), (49, (nI md)), (73, (nI sc)), (74, (nI k9)), (77, dn642), (78, wt643), (79, wf644)]) (V := [(nI fa640), (nI fd), (nI md), (nI sc), (nI k9), dn642, wt643, wf644, (nI fa640), pl641, (nI fd), (nI md), (nI sc), (nI k9), dn642, wt643, wf644, (nI fa640), pl641, (nI fd), (nI md), (nI sc), (nI k9), dn642, wt643, wf644]) rfl rfl rfl hP
      have hD : va_D A (mW G h0 a (upd (upd (upd (upd (upd (upd (upd (upd (upd F 15 (nI fa640)) 16 pl641) 44 (nI fd)) 49 (nI md)) 73 (nI sc)) 74 (nI k9)) 77 dn642) 78 wt643) 79 wf644) (updA (updA (updA (updA (updA B 14 nc) 17 ty645) 18 mn646) 48 vn) 49 vt)) := mW_D hD
      refine W.widen (k := 0) (n := 0) (Nat.le_of_ble_eq_true rfl) (Nat.le_of_ble_eq_true rfl) ?_
      refine W.eq (g2 := F0 m 400 ls [.int (nI r639)]) rfl ?_
      have hch655 : ChE B nd n9 ty ty645 mn mn646 := (ChE.trans ChE.rfl (ChE.kid h651 (by omega) hp629))
      refine lv_istore_n (lv' := [(2, .int (nI r639)), (0, .ref h0), (1, .int (nI n9))]) hx hb dX12_lookAt_400 rfl hl (by decide) rfl (fun ls hl => ?_)
      refine lv_aload_n hx hb dX12_lookAt_401 rfl (lv_at hl 1 rfl) ?_
      refine lv_aload_n hx hb dX12_lookAt_402 rfl (lv_at hl 1 rfl) ?_
      refine lv_iload_n hx hb dX12_lookAt_403 rfl (lv_at hl 0 rfl) ?_
      have hP : va_P G.1 pCl (mW G h0 a (upd (upd (upd (upd (upd (upd (upd (upd (upd F 15 (nI fa640)) 16 pl641) 44 (nI fd)) 49 (nI md)) 73 (nI sc)) 74 (nI k9)) 77 dn642) 78 wt643) 79 wf644) (updA (updA (updA (updA (updA B 14 nc) 17 ty645) 18 mn646) 48 vn) 49 vt)) _ := hP
      have hD : va_D A (mW G h0 a (upd (upd (upd (upd (upd (upd (upd (upd (upd F 15 (nI fa640)) 16 pl641) 44 (nI fd)) 49 (nI md)) 73 (nI sc)) 74 (nI k9)) 77 dn642) 78 wt643) 79 wf644) (updA (updA (updA (updA (updA B 14 nc) 17 ty645) 18 mn646) 48 vn) 49 vt)) := mW_D hD
      refine pc_V0 (G := G) (As := [.int (nI r639)]) (rest := [.ref h0]) hx hb hml hown hq hE hX pX0_al hP hD hS hA hl.1 (R_isReference l G h0 a (upd (upd (upd (upd (upd (upd (upd (upd (upd F 15 (nI fa640)) 16 pl641) 44 (nI fd)) 49 (nI md)) 73 (nI sc)) 74 (nI k9)) 77 dn642) 78 wt643) 79 wf644) (updA (updA (updA (updA (updA B 14 nc) 17 ty645) 18 mn646) 48 vn) 49 vt) r639 (by omega)) (gV pw_1783 pw_1784 pw_1785 pw_1523 pw_1779) hV_X12_isReference 0 9 rfl rfl rfl rfl (Nat.le_of_ble_eq_true rfl) dX12_lookAt_404 ⟨Nat.le_of_ble_eq_true rfl, Nat.le_of_ble_eq_true rfl⟩ ⟨(by show 2 + 1 ≤ (4 * z9 + 10); omega), (by show 8 + (2 + 11) + 60 ≤ (160 * z9 + 1400); omega)⟩ (fun v658 u656 H locs hw657 hP hD hS => ?_)
      obtain ⟨r659, rfl⟩ : ∃ z, z = u656 := ⟨_, rfl⟩
      obtain ⟨hw657, h660, h661, h662⟩ := hw657
      replace h660 : r659 ≤ 1 := h660
      replace h661 : 3 * r659 ≤ r639 := h661
      replace h662 : r639 ≤ 2 + 9000 * r659 := h662
      obtain rfl : v658 = some (.int (nI r659)) := hw657
      have hP : va_P G.1 pCl (mW G h0 a (upd (upd (upd (upd (upd (upd (upd (upd (upd F 15 (nI fa640)) 16 pl641) 44 (nI fd)) 49 (nI md)) 73 (nI sc)) 74 (nI k9)) 77 dn642) 78 wt643) 79 wf644) (updA (updA (updA (updA (updA B 14 nc) 17 ty645) 18 mn646) 48 vn) 49 vt)) _ := hP
      have hD : va_D A (mW G h0 a (upd (upd (upd (upd (upd (upd (upd (upd (upd F 15 (nI fa640)) 16 pl641) 44 (nI fd)) 49 (nI md)) 73 (nI sc)) 74 (nI k9)) 77 dn642) 78 wt643) 79 wf644) (updA (updA (updA (updA (updA B 14 nc) 17 ty645) 18 mn646) 48 vn) 49 vt)) := mW_D hD
      refine W.widen (k := 0) (n := 0) (Nat.le_of_ble_eq_true rfl) (Nat.le_of_ble_eq_true rfl) ?_
      refine W.eq (g2 := F0 m 407 ls [.int (nI r659), .ref h0]) rfl ?_
      refine lv_bipush (v := 11) hx hb dX12_lookAt_407 (by decide) ?_
      refine lv_aload_n hx hb dX12_lookAt_409 rfl (lv_at hl 1 rfl) ?_
      refine r_get (v := .ref (a 10)) hx hb hown hq hE hP 18 41 tFX12_18 (by decide) pw_1440 rfl dX12_lookAt_410 ?_
      refine lv_iload_n hx hb dX12_lookAt_413 rfl (lv_at hl 2 rfl) ?_
      refine r_ldi (f := (B 10)) (j := n9) hx hb hE hP 10 (ma_10 G a _) rfl (by omega) (by decide) dX12_lookAt_414 ?_
      obtain ⟨⟨t663, e664, h665⟩, -⟩ := hF n9 hn9
      refine lv_topi (fun x666 e667 => ?_)
      obtain rfl : x666 = nI t663 := e667.trans e664
      have hP : va_P G.1 pCl (mW G h0 a (upd (upd (upd (upd (upd (upd (upd (upd (upd (upd F 15 (nI fa640)) 16 pl641) 44 (nI fd)) 49 (nI md)) 73 (nI sc)) 74 (nI k9)) 77 dn642) 78 wt643) 79 wf644) 15 (nI fa640)) (updA (updA (updA (updA (updA B 14 nc) 17 ty645) 18 mn646) 48 vn) 49 vt)) _ := mW_to (F := F) (l1 := [(15, (nI fa640)), (16, pl641), (44, (nI fd)), (49, (nI md)), (73, (nI sc)), (74, (nI k9)), (77, dn642), (78, wt643), (79, wf644)]) (l2 := [(15, (nI fa640)), (16, pl641), (44, (nI fd)), (49, (nI md)), (73, (nI sc)), (74, (nI k9)), (77, dn642), (78, wt643), (79, wf644), (15, (nI fa640))]) (V := [(nI fa640), pl641, (nI fd), (nI md), (nI sc), (nI k9), dn642, wt643, wf644, (nI fa640), pl641, (nI fd), (nI md), (nI sc), (nI k9), dn642, wt643, wf644, (nI fa640)]) rfl rfl rfl hP
      have hD : va_D A (mW G h0 a (upd (upd (upd (upd (upd (upd (upd (upd (upd (upd F 15 (nI fa640)) 16 pl641) 44 (nI fd)) 49 (nI md)) 73 (nI sc)) 74 (nI k9)) 77 dn642) 78 wt643) 79 wf644) 15 (nI fa640)) (updA (updA (updA (updA (updA B 14 nc) 17 ty645) 18 mn646) 48 vn) 49 vt)) := mW_D hD
      refine pc_V0 (G := G) (As := [.int (nI r659), .int (nI 11), .int (nI t663)]) (rest := []) hx hb hml hown hq hE hX pX0_al hP hD hS hA hl.1 (R_judgeL l G h0 a (upd (upd (upd (upd (upd (upd (upd (upd (upd F 15 (nI fa640)) 16 pl641) 44 (nI fd)) 49 (nI md)) 73 (nI sc)) 74 (nI k9)) 77 dn642) 78 wt643) 79 wf644) (updA (updA (updA (updA (updA B 14 nc) 17 ty645) 18 mn646) 48 vn) 49 vt) r659 11 t663 fa640 (by omega) (by omega) (by omega) (by omega)) (gV pw_1798 pw_1799 pw_1800 pw_1523 pw_1793) hV_X12_judge 0 9 rfl rfl rfl rfl (Nat.le_of_ble_eq_true rfl) dX12_lookAt_415 ⟨Nat.le_of_ble_eq_true rfl, Nat.le_of_ble_eq_true rfl⟩ ⟨(by show 3 + 1 ≤ (4 * z9 + 10); omega), (by show 8 + (4 + 11) + 82 ≤ (160 * z9 + 1400); omega)⟩ (fun v670 u668 H locs hw669 hP hD hS => ?_)
      obtain ⟨r671, fa672, pl673⟩ := u668
      obtain ⟨hw669, h674, h675, h676, h677, h678, h679, h680⟩ := hw669
      replace h674 : r671 ≤ 1 := h674
      replace h675 : fa640 ≤ fa672 := h675
      replace h676 : fa672 ≤ 15 := h676
      replace h677 : fa672 + 15 * r671 ≤ 15 := h677
      replace h678 : 1 ≤ r671 + fa672 := h678
      replace h679 : 1 ≤ r659 + fa672 := h679
      replace h680 : fa672 ≤ fa640 + 15 * (1 - r659) := h680
      obtain rfl : v670 = some (.int (nI r671)) := hw669
      have hP : va_P G.1 pCl (mW G h0 a (upd (upd (upd (upd (upd (upd (upd (upd (upd F 15 (nI fa672)) 16 pl673) 44 (nI fd)) 49 (nI md)) 73 (nI sc)) 74 (nI k9)) 77 dn642) 78 wt643) 79 wf644) (updA (updA (updA (updA (updA B 14 nc) 17 ty645) 18 mn646) 48 vn) 49 vt)) _ := mW_to (F := F) (l1 := [(15, (nI fa640)), (16, pl641), (44, (nI fd)), (49, (nI md)), (73, (nI sc)), (74, (nI k9)), (77, dn642), (78, wt643), (79, wf644), (15, (nI fa672)), (16, pl673)]) (l2 := [(15, (nI fa672)), (16, pl673), (44, (nI fd)), (49, (nI md)), (73, (nI sc)), (74, (nI k9)), (77, dn642), (78, wt643), (79, wf644)]) (V := [(nI fa672), pl673, (nI fd), (nI md), (nI sc), (nI k9), dn642, wt643, wf644, (nI fa672), pl673, (nI fa672), pl673, (nI fd), (nI md), (nI sc), (nI k9), dn642, wt643, wf644]) rfl rfl rfl hP
      have hD : va_D A (mW G h0 a (upd (upd (upd (upd (upd (upd (upd (upd (upd F 15 (nI fa672)) 16 pl673) 44 (nI fd)) 49 (nI md)) 73 (nI sc)) 74 (nI k9)) 77 dn642) 78 wt643) 79 wf644) (updA (updA (updA (updA (updA B 14 nc) 17 ty645) 18 mn646) 48 vn) 49 vt)) := mW_D hD
      refine W.widen (k := 0) (n := 0) (Nat.le_of_ble_eq_true rfl) (Nat.le_of_ble_eq_true rfl) ?_
      refine W.eq (g2 := F0 m 418 ls [.int (nI r671)]) rfl ?_
      refine lv_pop hx hb dX12_lookAt_418 rfl ?_
      refine lv_aload_n hx hb dX12_lookAt_419 rfl (lv_at hl 1 rfl) ?_
      refine lv_aload_n hx hb dX12_lookAt_420 rfl (lv_at hl 1 rfl) ?_
      refine lv_aload_n hx hb dX12_lookAt_421 rfl (lv_at hl 1 rfl) ?_
      refine r_get (v := .ref (a 21)) hx hb hown hq hE hP 30 75 tFX12_30 (by decide) pw_1452 rfl dX12_lookAt_422 ?_
      refine lv_aload_n hx hb dX12_lookAt_425 rfl (lv_at hl 1 rfl) ?_
      refine r_get (v := .ref (a 13)) hx hb hown hq hE hP 21 50 tFX12_21 (by decide) pw_1443 rfl dX12_lookAt_426 ?_
      refine lv_iload_n hx hb dX12_lookAt_429 rfl (lv_at hl 2 rfl) ?_
      refine r_ldi (f := (B 13)) (j := n9) hx hb hE hP 13 (ma_13 G a _) rfl (by omega) (by decide) dX12_lookAt_430 ?_
      obtain ⟨y681, e682, h683⟩ : ∃ y : Nat, B 13 n9 = nI y ∧ y < wr := by
        obtain ⟨k2, e2, _, k24, hs⟩ := hF.knd hn9
        have ek : k2 = 21 := (nI_eq (by omega) (by omega)).mp (e2.symm.trans ek)
        subst ek
        exact (hs 2 (by omega) (by omega)).1 (by decide)
      refine lv_topi (fun x687 e688 => ?_)
      obtain rfl : x687 = nI y681 := e688.trans e682
      refine r_ldi (f := (B 21)) (j := y681) hx hb hE hP 21 (ma_21 G a _) rfl (by omega) (by decide) dX12_lookAt_431 ?_
      obtain ⟨x689, e690, h691, h692, h693, h694⟩ := tyOK.tc (hTY y681 (by omega)) (by omega)
      refine lv_topi (fun x695 e696 => ?_)
      obtain rfl : x695 = nI x689 := e696.trans e690
      have hP : va_P G.1 pCl (mW G h0 a (upd (upd (upd (upd (upd (upd (upd (upd (upd F 15 (nI fa672)) 16 pl673) 44 (nI fd)) 49 (nI md)) 73 (nI sc)) 74 (nI k9)) 77 dn642) 78 wt643) 79 wf644) (updA (updA (updA (updA (updA B 14 nc) 17 ty645) 18 mn646) 48 vn) 49 vt)) _ := hP
      have hD : va_D A (mW G h0 a (upd (upd (upd (upd (upd (upd (upd (upd (upd F 15 (nI fa672)) 16 pl673) 44 (nI fd)) 49 (nI md)) 73 (nI sc)) 74 (nI k9)) 77 dn642) 78 wt643) 79 wf644) (updA (updA (updA (updA (updA B 14 nc) 17 ty645) 18 mn646) 48 vn) 49 vt)) := mW_D hD
      refine pc_V0 (G := G) (As := [.int (nI x689)]) (rest := [.ref h0]) hx hb hml hown hq hE hX pX0_al hP hD hS hA hl.1 (R_isReference l G h0 a (upd (upd (upd (upd (upd (upd (upd (upd (upd F 15 (nI fa672)) 16 pl673) 44 (nI fd)) 49 (nI md)) 73 (nI sc)) 74 (nI k9)) 77 dn642) 78 wt643) 79 wf644) (updA (updA (updA (updA (updA B 14 nc) 17 ty645) 18 mn646) 48 vn) 49 vt) x689 (by omega)) (gV pw_1783 pw_1784 pw_1785 pw_1523 pw_1779) hV_X12_isReference 0 9 rfl rfl rfl rfl (Nat.le_of_ble_eq_true rfl) dX12_lookAt_432 ⟨Nat.le_of_ble_eq_true rfl, Nat.le_of_ble_eq_true rfl⟩ ⟨(by show 2 + 1 ≤ (4 * z9 + 10); omega), (by show 8 + (2 + 11) + 60 ≤ (160 * z9 + 1400); omega)⟩ (fun v699 u697 H locs hw698 hP hD hS => ?_)
      obtain ⟨r700, rfl⟩ : ∃ z, z = u697 := ⟨_, rfl⟩
      obtain ⟨hw698, h701, h702, h703⟩ := hw698
      replace h701 : r700 ≤ 1 := h701
      replace h702 : 3 * r700 ≤ x689 := h702
      replace h703 : x689 ≤ 2 + 9000 * r700 := h703
      obtain rfl : v699 = some (.int (nI r700)) := hw698
      have hP : va_P G.1 pCl (mW G h0 a (upd (upd (upd (upd (upd (upd (upd (upd (upd F 15 (nI fa672)) 16 pl673) 44 (nI fd)) 49 (nI md)) 73 (nI sc)) 74 (nI k9)) 77 dn642) 78 wt643) 79 wf644) (updA (updA (updA (updA (updA B 14 nc) 17 ty645) 18 mn646) 48 vn) 49 vt)) _ := hP
      have hD : va_D A (mW G h0 a (upd (upd (upd (upd (upd (upd (upd (upd (upd F 15 (nI fa672)) 16 pl673) 44 (nI fd)) 49 (nI md)) 73 (nI sc)) 74 (nI k9)) 77 dn642) 78 wt643) 79 wf644) (updA (updA (updA (updA (updA B 14 nc) 17 ty645) 18 mn646) 48 vn) 49 vt)) := mW_D hD
      refine W.widen (k := 0) (n := 0) (Nat.le_of_ble_eq_true rfl) (Nat.le_of_ble_eq_true rfl) ?_
      refine W.eq (g2 := F0 m 435 ls [.int (nI r700), .ref h0]) rfl ?_
      refine lv_bipush (v := 11) hx hb dX12_lookAt_435 (by decide) ?_
      refine lv_aload_n hx hb dX12_lookAt_437 rfl (lv_at hl 1 rfl) ?_
      refine r_get (v := .ref (a 19)) hx hb hown hq hE hP 28 68 tFX12_28 (by decide) pw_1449 rfl dX12_lookAt_438 ?_
      refine lv_aload_n hx hb dX12_lookAt_441 rfl (lv_at hl 1 rfl) ?_
      refine r_get (v := .ref (a 13)) hx hb hown hq hE hP 21 50 tFX12_21 (by decide) pw_1443 rfl dX12_lookAt_442 ?_
      refine lv_iload_n hx hb dX12_lookAt_445 rfl (lv_at hl 2 rfl) ?_
      refine r_ldi (f := (B 13)) (j := n9) hx hb hE hP 13 (ma_13 G a _) rfl (by omega) (by decide) dX12_lookAt_446 ?_
      refine lv_topi (fun x704 e705 => ?_)
      obtain rfl : x704 = nI y681 := e705.trans e682
      refine r_ldi (f := (B 19)) (j := y681) hx hb hE hP 19 (ma_19 G a _) rfl (by omega) (by decide) dX12_lookAt_447 ?_
      obtain ⟨t706, h708, e707⟩ := hTK y681 (by omega)
      refine lv_topi (fun x709 e710 => ?_)
      obtain rfl : x709 = nI t706 := e710.trans e707
      have hP : va_P G.1 pCl (mW G h0 a (upd (upd (upd (upd (upd (upd (upd (upd (upd (upd F 15 (nI fa672)) 16 pl673) 44 (nI fd)) 49 (nI md)) 73 (nI sc)) 74 (nI k9)) 77 dn642) 78 wt643) 79 wf644) 15 (nI fa672)) (updA (updA (updA (updA (updA B 14 nc) 17 ty645) 18 mn646) 48 vn) 49 vt)) _ := mW_to (F := F) (l1 := [(15, (nI fa672)), (16, pl673), (44, (nI fd)), (49, (nI md)), (73, (nI sc)), (74, (nI k9)), (77, dn642), (78, wt643), (79, wf644)]) (l2 := [(15, (nI fa672)), (16, pl673), (44, (nI fd)), (49, (nI md)), (73, (nI sc)), (74, (nI k9)), (77, dn642), (78, wt643), (79, wf644), (15, (nI fa672))]) (V := [(nI fa672), pl673, (nI fd), (nI md), (nI sc), (nI k9), dn642, wt643, wf644, (nI fa672), pl673, (nI fd), (nI md), (nI sc), (nI k9), dn642, wt643, wf644, (nI fa672)]) rfl rfl rfl hP
      have hD : va_D A (mW G h0 a (upd (upd (upd (upd (upd (upd (upd (upd (upd (upd F 15 (nI fa672)) 16 pl673) 44 (nI fd)) 49 (nI md)) 73 (nI sc)) 74 (nI k9)) 77 dn642) 78 wt643) 79 wf644) 15 (nI fa672)) (updA (updA (updA (updA (updA B 14 nc) 17 ty645) 18 mn646) 48 vn) 49 vt)) := mW_D hD
      refine pc_V0 (G := G) (As := [.int (nI r700), .int (nI 11), .int (nI t706)]) (rest := []) hx hb hml hown hq hE hX pX0_al hP hD hS hA hl.1 (R_judgeL l G h0 a (upd (upd (upd (upd (upd (upd (upd (upd (upd F 15 (nI fa672)) 16 pl673) 44 (nI fd)) 49 (nI md)) 73 (nI sc)) 74 (nI k9)) 77 dn642) 78 wt643) 79 wf644) (updA (updA (updA (updA (updA B 14 nc) 17 ty645) 18 mn646) 48 vn) 49 vt) r700 11 t706 fa672 (by omega) (by omega) (by omega) (by omega)) (gV pw_1798 pw_1799 pw_1800 pw_1523 pw_1793) hV_X12_judge 0 9 rfl rfl rfl rfl (Nat.le_of_ble_eq_true rfl) dX12_lookAt_448 ⟨Nat.le_of_ble_eq_true rfl, Nat.le_of_ble_eq_true rfl⟩ ⟨(by show 3 + 1 ≤ (4 * z9 + 10); omega), (by show 8 + (4 + 11) + 82 ≤ (160 * z9 + 1400); omega)⟩ (fun v713 u711 H locs hw712 hP hD hS => ?_)
      obtain ⟨r714, fa715, pl716⟩ := u711
      obtain ⟨hw712, h717, h718, h719, h720, h721, h722, h723⟩ := hw712
      replace h717 : r714 ≤ 1 := h717
      replace h718 : fa672 ≤ fa715 := h718
      replace h719 : fa715 ≤ 15 := h719
      replace h720 : fa715 + 15 * r714 ≤ 15 := h720
      replace h721 : 1 ≤ r714 + fa715 := h721
      replace h722 : 1 ≤ r700 + fa715 := h722
      replace h723 : fa715 ≤ fa672 + 15 * (1 - r700) := h723
      obtain rfl : v713 = some (.int (nI r714)) := hw712
      have hP : va_P G.1 pCl (mW G h0 a (upd (upd (upd (upd (upd (upd (upd (upd (upd F 15 (nI fa715)) 16 pl716) 44 (nI fd)) 49 (nI md)) 73 (nI sc)) 74 (nI k9)) 77 dn642) 78 wt643) 79 wf644) (updA (updA (updA (updA (updA B 14 nc) 17 ty645) 18 mn646) 48 vn) 49 vt)) _ := mW_to (F := F) (l1 := [(15, (nI fa672)), (16, pl673), (44, (nI fd)), (49, (nI md)), (73, (nI sc)), (74, (nI k9)), (77, dn642), (78, wt643), (79, wf644), (15, (nI fa715)), (16, pl716)]) (l2 := [(15, (nI fa715)), (16, pl716), (44, (nI fd)), (49, (nI md)), (73, (nI sc)), (74, (nI k9)), (77, dn642), (78, wt643), (79, wf644)]) (V := [(nI fa715), pl716, (nI fd), (nI md), (nI sc), (nI k9), dn642, wt643, wf644, (nI fa715), pl716, (nI fa715), pl716, (nI fd), (nI md), (nI sc), (nI k9), dn642, wt643, wf644]) rfl rfl rfl hP
      have hD : va_D A (mW G h0 a (upd (upd (upd (upd (upd (upd (upd (upd (upd F 15 (nI fa715)) 16 pl716) 44 (nI fd)) 49 (nI md)) 73 (nI sc)) 74 (nI k9)) 77 dn642) 78 wt643) 79 wf644) (updA (updA (updA (updA (updA B 14 nc) 17 ty645) 18 mn646) 48 vn) 49 vt)) := mW_D hD
      refine W.widen (k := 0) (n := 0) (Nat.le_of_ble_eq_true rfl) (Nat.le_of_ble_eq_true rfl) ?_
      refine W.eq (g2 := F0 m 451 ls [.int (nI r714)]) rfl ?_
      refine lv_pop hx hb dX12_lookAt_451 rfl ?_
      refine lv_aload_n hx hb dX12_lookAt_452 rfl (lv_at hl 1 rfl) ?_
      refine lv_aload_n hx hb dX12_lookAt_453 rfl (lv_at hl 1 rfl) ?_
      refine r_get (v := .ref (a 9)) hx hb hown hq hE hP 17 38 tFX12_17 (by decide) pw_1439 rfl dX12_lookAt_454 ?_
      refine lv_iload_n hx hb dX12_lookAt_457 rfl (lv_at hl 2 rfl) ?_
      refine r_ldi (f := (B 9)) (j := n9) hx hb hE hP 9 (ma_9 G a _) rfl (by omega) (by decide) dX12_lookAt_458 ?_
      refine lv_topi (fun x724 e725 => ?_)
      obtain rfl : x724 = 21 := e725.trans ek
      refine lv_bipush (v := 21) hx hb dX12_lookAt_459 (by decide) ?_
      refine lv_icmp_ne (tgt := 468) hx hb dX12_lookAt_461 (by decide) (fun c726 => absurd c726 (by decide)) (fun c726 => ?_)
      refine lv_iconst (v := 2) hx hb dX12_lookAt_464 (by decide) ?_
      refine lv_goto (tgt := 479) hx hb dX12_lookAt_465 (by decide) ?_
      have hP : va_P G.1 pCl (mW G h0 a (upd (upd (upd (upd (upd (upd (upd (upd (upd (upd F 15 (nI fa715)) 16 pl716) 44 (nI fd)) 49 (nI md)) 73 (nI sc)) 74 (nI k9)) 77 dn642) 78 wt643) 79 wf644) 77 dn642) (updA (updA (updA (updA (updA B 14 nc) 17 ty645) 18 mn646) 48 vn) 49 vt)) _ := mW_to (F := F) (l1 := [(15, (nI fa715)), (16, pl716), (44, (nI fd)), (49, (nI md)), (73, (nI sc)), (74, (nI k9)), (77, dn642), (78, wt643), (79, wf644)]) (l2 := [(15, (nI fa715)), (16, pl716), (44, (nI fd)), (49, (nI md)), (73, (nI sc)), (74, (nI k9)), (77, dn642), (78, wt643), (79, wf644), (77, dn642)]) (V := [(nI fa715), pl716, (nI fd), (nI md), (nI sc), (nI k9), dn642, wt643, wf644, (nI fa715), pl716, (nI fd), (nI md), (nI sc), (nI k9), dn642, wt643, wf644, dn642]) rfl rfl rfl hP
      have hD : va_D A (mW G h0 a (upd (upd (upd (upd (upd (upd (upd (upd (upd (upd F 15 (nI fa715)) 16 pl716) 44 (nI fd)) 49 (nI md)) 73 (nI sc)) 74 (nI k9)) 77 dn642) 78 wt643) 79 wf644) 77 dn642) (updA (updA (updA (updA (updA B 14 nc) 17 ty645) 18 mn646) 48 vn) 49 vt)) := mW_D hD
      refine pc_V0 (G := G) (As := [.int 2]) (rest := []) hx hb hml hown hq hE hX pX0_al hP hD hS hA hl.1 (R_behind l G h0 a (upd (upd (upd (upd (upd (upd (upd (upd (upd F 15 (nI fa715)) 16 pl716) 44 (nI fd)) 49 (nI md)) 73 (nI sc)) 74 (nI k9)) 77 dn642) 78 wt643) 79 wf644) (updA (updA (updA (updA (updA B 14 nc) 17 ty645) 18 mn646) 48 vn) 49 vt) 2 dn642) (gV pw_1832 pw_1833 pw_1834 pw_1523 pw_1804) hV_X12_behind 0 9 rfl rfl rfl rfl (Nat.le_of_ble_eq_true rfl) dX12_lookAt_479 ⟨Nat.le_of_ble_eq_true rfl, Nat.le_of_ble_eq_true rfl⟩ ⟨(by show 2 + 1 ≤ (4 * z9 + 10); omega), (by show 8 + (2 + 11) + 60 ≤ (160 * z9 + 1400); omega)⟩ (fun v729 u727 H locs hw728 hP hD hS => ?_)
      obtain rfl : v729 = some (.int 2) := hw728
      have hP : va_P G.1 pCl (mW G h0 a (upd (upd (upd (upd (upd (upd (upd (upd (upd F 15 (nI fa715)) 16 pl716) 44 (nI fd)) 49 (nI md)) 73 (nI sc)) 74 (nI k9)) 77 dn642) 78 dn642) 79 dn642) (updA (updA (updA (updA (updA B 14 nc) 17 ty645) 18 mn646) 48 vn) 49 vt)) _ := mW_to (F := F) (l1 := [(15, (nI fa715)), (16, pl716), (44, (nI fd)), (49, (nI md)), (73, (nI sc)), (74, (nI k9)), (77, dn642), (78, wt643), (79, wf644), (77, dn642), (78, dn642), (79, dn642)]) (l2 := [(15, (nI fa715)), (16, pl716), (44, (nI fd)), (49, (nI md)), (73, (nI sc)), (74, (nI k9)), (77, dn642), (78, dn642), (79, dn642)]) (V := [(nI fa715), pl716, (nI fd), (nI md), (nI sc), (nI k9), dn642, dn642, dn642, dn642, dn642, dn642, (nI fa715), pl716, (nI fd), (nI md), (nI sc), (nI k9), dn642, dn642, dn642]) rfl rfl rfl hP
      have hD : va_D A (mW G h0 a (upd (upd (upd (upd (upd (upd (upd (upd (upd F 15 (nI fa715)) 16 pl716) 44 (nI fd)) 49 (nI md)) 73 (nI sc)) 74 (nI k9)) 77 dn642) 78 dn642) 79 dn642) (updA (updA (updA (updA (updA B 14 nc) 17 ty645) 18 mn646) 48 vn) 49 vt)) := mW_D hD
      refine W.widen (k := 0) (n := 0) (Nat.le_of_ble_eq_true rfl) (Nat.le_of_ble_eq_true rfl) ?_
      refine W.eq (g2 := F0 m 482 ls [.int 2]) rfl ?_
      have hz730 : fa ≤ fa715 := (by omega)
      have hz731 : fa715 ≤ 15 := (by omega)
      have hz732 : TyC dc 2 := (by unfold TyC; omega)
      have hz733 : 2 ≤ 2050 := (by omega)
      have hz734 : ChE B nd n9 ty ty645 mn mn646 := hch655
      have hz735 : mnN B nd mn646 := h652
      have hz736 : If (fa715 = 0) (Typ0 B dc fd md nd ty645 mn646 vt sc k9 n9 (nI 2)) := (fun e => Typ0.of (kids (kk := 21) (c1 := c626) (c2 := c626) (c3 := c626) ek (by decide) ⟨by omega, by omega, by omega⟩ (Or.inr ⟨by decide, e627⟩) (Or.inl (by decide)) (Or.inl (by decide)) (by decide) (h653 (by omega)) (h653 (by omega)) (h653 (by omega))) (LT21 ek hh632 h654 (by omega) e682 e690 (by omega) (by omega)))
      have hP : va_P G.1 pCl (mW G h0 a (upd (upd (upd (upd (upd (upd (upd (upd (upd F 15 (nI fa715)) 16 pl716) 44 (nI fd)) 49 (nI md)) 73 (nI sc)) 74 (nI k9)) 77 dn642) 78 dn642) 79 dn642) (updA (updA (updA (updA (updA B 14 nc) 17 ty645) 18 mn646) 48 vn) 49 vt)) _ := hP
      have hD : va_D A (mW G h0 a (upd (upd (upd (upd (upd (upd (upd (upd (upd F 15 (nI fa715)) 16 pl716) 44 (nI fd)) 49 (nI md)) 73 (nI sc)) 74 (nI k9)) 77 dn642) 78 dn642) 79 dn642) (updA (updA (updA (updA (updA B 14 nc) 17 ty645) 18 mn646) 48 vn) 49 vt)) := mW_D hD
      exact W.iret (v := 2) hx hb hr (fun t9 ht9 hW9 => ⟨⟨_, (2, fa715, pl716, dn642, dn642, dn642, ty645, mn646), rfl, ⟨rfl, hz730, hz731, hz732, hz733, hz734, hz735, hz736⟩, by rw [ht9]; exact hP, hD⟩, hS.F ht9⟩) hS.2.2 dX12_lookAt_482
    · refine lv_topi (fun x737 e738 => ?_)
      obtain rfl : x737 = 22 := e738.trans ek
      refine lv_tableIn (tgt := 390) (off := 375) hx hb dX12_lookAt_15 (by decide) (by decide) (by decide) (by decide) ?_
      refine lv_aload_n hx hb dX12_lookAt_390 rfl (lv_at hl 0 rfl) ?_
      refine lv_aload_n hx hb dX12_lookAt_391 rfl (lv_at hl 0 rfl) ?_
      refine r_get (v := .ref (a 12)) hx hb hown hq hE hP 20 47 tFX12_20 (by decide) pw_1442 rfl dX12_lookAt_392 ?_
      refine lv_iload_n hx hb dX12_lookAt_395 rfl (lv_at hl 1 rfl) ?_
      refine r_ldi (f := (B 12)) (j := n9) hx hb hE hP 12 (ma_12 G a _) rfl (by omega) (by decide) dX12_lookAt_396 ?_
      obtain ⟨c739, e740, h741, hp742, h743, hc744, hh745, hg746⟩ := Fs2.kid (kk := 22) (s := 1) hF hn9 ek (by decide) (by decide) (by decide) (by decide) (by omega)
      refine lv_topi (fun x747 e748 => ?_)
      obtain rfl : x747 = nI c739 := e748.trans e740
      have hP : va_P G.1 pCl (mW G h0 a (upd (upd (upd (upd (upd (upd (upd (upd (upd (upd (upd (upd (upd (upd (upd (upd F 15 (nI fa)) 44 (nI fd)) 49 (nI md)) 73 (nI sc)) 74 (nI k9)) 77 dn) 78 wt) 79 wf) 15 (nI fa)) 44 (nI fd)) 49 (nI md)) 73 (nI sc)) 74 (nI k9)) 77 dn) 78 wt) 79 wf) (updA (updA (updA (updA (updA B 14 nc) 17 ty) 18 mn) 48 vn) 49 vt)) _ := hP
      have hD : va_D A (mW G h0 a (upd (upd (upd (upd (upd (upd (upd (upd (upd (upd (upd (upd (upd (upd (upd (upd F 15 (nI fa)) 44 (nI fd)) 49 (nI md)) 73 (nI sc)) 74 (nI k9)) 77 dn) 78 wt) 79 wf) 15 (nI fa)) 44 (nI fd)) 49 (nI md)) 73 (nI sc)) 74 (nI k9)) 77 dn) 78 wt) 79 wf) (updA (updA (updA (updA (updA B 14 nc) 17 ty) 18 mn) 48 vn) 49 vt)) := mW_D hD
      refine pc_V0 (G := G) (As := [.int (nI c739)]) (rest := []) hx hb hml hown hq hE hX pX0_al hP hD hS hA hl.1 (ihL h0 a (upd (upd (upd (upd (upd (upd (upd (upd F 15 (nI fa)) 44 (nI fd)) 49 (nI md)) 73 (nI sc)) 74 (nI k9)) 77 dn) 78 wt) 79 wf) B c739 fa sc k9 nd T nm wr lz dc fd md pr bk gh dn wt wf nc ty mn vn vt hst hnm h741 (by omega) (by omega) (by omega) hk9 hnc hmn hvt (show kcl 1 _ = true from hc744)) (gV pw_1822 pw_1823 pw_1824 pw_1523 pw_1830) hV_X12_look 0 9 rfl rfl rfl rfl (Nat.le_of_ble_eq_true rfl) dX12_lookAt_397 ⟨Nat.le_of_ble_eq_true rfl, Nat.le_of_ble_eq_true rfl⟩ ⟨(by show (4 * (z9 - 1) + 11) + 1 ≤ (4 * z9 + 10); omega), (by show 8 + (3 + 11) + (160 * (z9 - 1) + 1440) ≤ (160 * z9 + 1400); omega)⟩ (fun v751 u749 H locs hw750 hP hD hS => ?_)
      obtain ⟨r752, fa753, pl754, dn755, wt756, wf757, ty758, mn759⟩ := u749
      obtain ⟨hw750, h760, h761, h762, h763, h764, h765, h766, h767⟩ := hw750
      replace h760 : fa ≤ fa753 := h760
      replace h761 : fa753 ≤ 15 := h761
      replace h762 : TyC dc r752 := h762
      replace h763 : r752 ≤ 2050 := h763
      replace h764 : ChE B nd c739 ty ty758 mn mn759 := h764
      replace h765 : mnN B nd mn759 := h765
      replace h766 : If (fa753 = 0) (Typ B dc fd md nd ty758 mn759 vt sc k9 c739) := h766
      replace h767 : ty758 c739 = nI r752 := h767
      obtain rfl : v751 = some (.int (nI r752)) := hw750
      have hP : va_P G.1 pCl (mW G h0 a (upd (upd (upd (upd (upd (upd (upd (upd (upd F 15 (nI fa753)) 16 pl754) 44 (nI fd)) 49 (nI md)) 73 (nI sc)) 74 (nI k9)) 77 dn755) 78 wt756) 79 wf757) (updA (updA (updA (updA (updA B 14 nc) 17 ty758) 18 mn759) 48 vn) 49 vt)) _ := mW_to (F := F) (l1 := [(15, (nI fa)), (44, (nI fd)), (49, (nI md)), (73, (nI sc)), (74, (nI k9)), (77, dn), (78, wt), (79, wf), (15, (nI fa753)), (16, pl754), (44, (nI fd)), (49, (nI md)), (73, (nI sc)), (74, (nI k9)), (77, dn755), (78, wt756), (79, wf757)]) (l2 := [(15, (nI fa753)), (16, pl754), (44, (nI fd)), (49, (nI md)), (73, (nI sc)), (74, (nI k9)), (77, dn755), (78, wt756), (79, wf757)]) (V := [(nI fa753), (nI fd), (nI md), (nI sc), (nI k9), dn755, wt756, wf757, (nI fa753), pl754, (nI fd), (nI md), (nI sc), (nI k9), dn755, wt756, wf757, (nI fa753), pl754, (nI fd), (nI md), (nI sc), (nI k9), dn755, wt756, wf757]) rfl rfl rfl hP
      have hD : va_D A (mW G h0 a (upd (upd (upd (upd (upd (upd (upd (upd (upd F 15 (nI fa753)) 16 pl754) 44 (nI fd)) 49 (nI md)) 73 (nI sc)) 74 (nI k9)) 77 dn755) 78 wt756) 79 wf757) (updA (updA (updA (updA (updA B 14 nc) 17 ty758) 18 mn759) 48 vn) 49 vt)) := mW_D hD
      refine W.widen (k := 0) (n := 0) (Nat.le_of_ble_eq_true rfl) (Nat.le_of_ble_eq_true rfl) ?_
      refine W.eq (g2 := F0 m 400 ls [.int (nI r752)]) rfl ?_
      have hch768 : ChE B nd n9 ty ty758 mn mn759 := (ChE.trans ChE.rfl (ChE.kid h764 (by omega) hp742))
      refine lv_istore_n (lv' := [(2, .int (nI r752)), (0, .ref h0), (1, .int (nI n9))]) hx hb dX12_lookAt_400 rfl hl (by decide) rfl (fun ls hl => ?_)
      refine lv_aload_n hx hb dX12_lookAt_401 rfl (lv_at hl 1 rfl) ?_
      refine lv_aload_n hx hb dX12_lookAt_402 rfl (lv_at hl 1 rfl) ?_
      refine lv_iload_n hx hb dX12_lookAt_403 rfl (lv_at hl 0 rfl) ?_
      have hP : va_P G.1 pCl (mW G h0 a (upd (upd (upd (upd (upd (upd (upd (upd (upd F 15 (nI fa753)) 16 pl754) 44 (nI fd)) 49 (nI md)) 73 (nI sc)) 74 (nI k9)) 77 dn755) 78 wt756) 79 wf757) (updA (updA (updA (updA (updA B 14 nc) 17 ty758) 18 mn759) 48 vn) 49 vt)) _ := hP
      have hD : va_D A (mW G h0 a (upd (upd (upd (upd (upd (upd (upd (upd (upd F 15 (nI fa753)) 16 pl754) 44 (nI fd)) 49 (nI md)) 73 (nI sc)) 74 (nI k9)) 77 dn755) 78 wt756) 79 wf757) (updA (updA (updA (updA (updA B 14 nc) 17 ty758) 18 mn759) 48 vn) 49 vt)) := mW_D hD
      refine pc_V0 (G := G) (As := [.int (nI r752)]) (rest := [.ref h0]) hx hb hml hown hq hE hX pX0_al hP hD hS hA hl.1 (R_isReference l G h0 a (upd (upd (upd (upd (upd (upd (upd (upd (upd F 15 (nI fa753)) 16 pl754) 44 (nI fd)) 49 (nI md)) 73 (nI sc)) 74 (nI k9)) 77 dn755) 78 wt756) 79 wf757) (updA (updA (updA (updA (updA B 14 nc) 17 ty758) 18 mn759) 48 vn) 49 vt) r752 (by omega)) (gV pw_1783 pw_1784 pw_1785 pw_1523 pw_1779) hV_X12_isReference 0 9 rfl rfl rfl rfl (Nat.le_of_ble_eq_true rfl) dX12_lookAt_404 ⟨Nat.le_of_ble_eq_true rfl, Nat.le_of_ble_eq_true rfl⟩ ⟨(by show 2 + 1 ≤ (4 * z9 + 10); omega), (by show 8 + (2 + 11) + 60 ≤ (160 * z9 + 1400); omega)⟩ (fun v771 u769 H locs hw770 hP hD hS => ?_)
      obtain ⟨r772, rfl⟩ : ∃ z, z = u769 := ⟨_, rfl⟩
      obtain ⟨hw770, h773, h774, h775⟩ := hw770
      replace h773 : r772 ≤ 1 := h773
      replace h774 : 3 * r772 ≤ r752 := h774
      replace h775 : r752 ≤ 2 + 9000 * r772 := h775
      obtain rfl : v771 = some (.int (nI r772)) := hw770
      have hP : va_P G.1 pCl (mW G h0 a (upd (upd (upd (upd (upd (upd (upd (upd (upd F 15 (nI fa753)) 16 pl754) 44 (nI fd)) 49 (nI md)) 73 (nI sc)) 74 (nI k9)) 77 dn755) 78 wt756) 79 wf757) (updA (updA (updA (updA (updA B 14 nc) 17 ty758) 18 mn759) 48 vn) 49 vt)) _ := hP
      have hD : va_D A (mW G h0 a (upd (upd (upd (upd (upd (upd (upd (upd (upd F 15 (nI fa753)) 16 pl754) 44 (nI fd)) 49 (nI md)) 73 (nI sc)) 74 (nI k9)) 77 dn755) 78 wt756) 79 wf757) (updA (updA (updA (updA (updA B 14 nc) 17 ty758) 18 mn759) 48 vn) 49 vt)) := mW_D hD
      refine W.widen (k := 0) (n := 0) (Nat.le_of_ble_eq_true rfl) (Nat.le_of_ble_eq_true rfl) ?_
      refine W.eq (g2 := F0 m 407 ls [.int (nI r772), .ref h0]) rfl ?_
      refine lv_bipush (v := 11) hx hb dX12_lookAt_407 (by decide) ?_
      refine lv_aload_n hx hb dX12_lookAt_409 rfl (lv_at hl 1 rfl) ?_
      refine r_get (v := .ref (a 10)) hx hb hown hq hE hP 18 41 tFX12_18 (by decide) pw_1440 rfl dX12_lookAt_410 ?_
      refine lv_iload_n hx hb dX12_lookAt_413 rfl (lv_at hl 2 rfl) ?_
      refine r_ldi (f := (B 10)) (j := n9) hx hb hE hP 10 (ma_10 G a _) rfl (by omega) (by decide) dX12_lookAt_414 ?_
      obtain ⟨⟨t776, e777, h778⟩, -⟩ := hF n9 hn9
      refine lv_topi (fun x779 e780 => ?_)
      obtain rfl : x779 = nI t776 := e780.trans e777
      have hP : va_P G.1 pCl (mW G h0 a (upd (upd (upd (upd (upd (upd (upd (upd (upd (upd F 15 (nI fa753)) 16 pl754) 44 (nI fd)) 49 (nI md)) 73 (nI sc)) 74 (nI k9)) 77 dn755) 78 wt756) 79 wf757) 15 (nI fa753)) (updA (updA (updA (updA (updA B 14 nc) 17 ty758) 18 mn759) 48 vn) 49 vt)) _ := mW_to (F := F) (l1 := [(15, (nI fa753)), (16, pl754), (44, (nI fd)), (49, (nI md)), (73, (nI sc)), (74, (nI k9)), (77, dn755), (78, wt756), (79, wf757)]) (l2 := [(15, (nI fa753)), (16, pl754), (44, (nI fd)), (49, (nI md)), (73, (nI sc)), (74, (nI k9)), (77, dn755), (78, wt756), (79, wf757), (15, (nI fa753))]) (V := [(nI fa753), pl754, (nI fd), (nI md), (nI sc), (nI k9), dn755, wt756, wf757, (nI fa753), pl754, (nI fd), (nI md), (nI sc), (nI k9), dn755, wt756, wf757, (nI fa753)]) rfl rfl rfl hP
      have hD : va_D A (mW G h0 a (upd (upd (upd (upd (upd (upd (upd (upd (upd (upd F 15 (nI fa753)) 16 pl754) 44 (nI fd)) 49 (nI md)) 73 (nI sc)) 74 (nI k9)) 77 dn755) 78 wt756) 79 wf757) 15 (nI fa753)) (updA (updA (updA (updA (updA B 14 nc) 17 ty758) 18 mn759) 48 vn) 49 vt)) := mW_D hD
      refine pc_V0 (G := G) (As := [.int (nI r772), .int (nI 11), .int (nI t776)]) (rest := []) hx hb hml hown hq hE hX pX0_al hP hD hS hA hl.1 (R_judgeL l G h0 a (upd (upd (upd (upd (upd (upd (upd (upd (upd F 15 (nI fa753)) 16 pl754) 44 (nI fd)) 49 (nI md)) 73 (nI sc)) 74 (nI k9)) 77 dn755) 78 wt756) 79 wf757) (updA (updA (updA (updA (updA B 14 nc) 17 ty758) 18 mn759) 48 vn) 49 vt) r772 11 t776 fa753 (by omega) (by omega) (by omega) (by omega)) (gV pw_1798 pw_1799 pw_1800 pw_1523 pw_1793) hV_X12_judge 0 9 rfl rfl rfl rfl (Nat.le_of_ble_eq_true rfl) dX12_lookAt_415 ⟨Nat.le_of_ble_eq_true rfl, Nat.le_of_ble_eq_true rfl⟩ ⟨(by show 3 + 1 ≤ (4 * z9 + 10); omega), (by show 8 + (4 + 11) + 82 ≤ (160 * z9 + 1400); omega)⟩ (fun v783 u781 H locs hw782 hP hD hS => ?_)
      obtain ⟨r784, fa785, pl786⟩ := u781
      obtain ⟨hw782, h787, h788, h789, h790, h791, h792, h793⟩ := hw782
      replace h787 : r784 ≤ 1 := h787
      replace h788 : fa753 ≤ fa785 := h788
      replace h789 : fa785 ≤ 15 := h789
      replace h790 : fa785 + 15 * r784 ≤ 15 := h790
      replace h791 : 1 ≤ r784 + fa785 := h791
      replace h792 : 1 ≤ r772 + fa785 := h792
      replace h793 : fa785 ≤ fa753 + 15 * (1 - r772) := h793
      obtain rfl : v783 = some (.int (nI r784)) := hw782
      have hP : va_P G.1 pCl (mW G h0 a (upd (upd (upd (upd (upd (upd (upd (upd (upd F 15 (nI fa785)) 16 pl786) 44 (nI fd)) 49 (nI md)) 73 (nI sc)) 74 (nI k9)) 77 dn755) 78 wt756) 79 wf757) (updA (updA (updA (updA (updA B 14 nc) 17 ty758) 18 mn759) 48 vn) 49 vt)) _ := mW_to (F := F) (l1 := [(15, (nI fa753)), (16, pl754), (44, (nI fd)), (49, (nI md)), (73, (nI sc)), (74, (nI k9)), (77, dn755), (78, wt756), (79, wf757), (15, (nI fa785)), (16, pl786)]) (l2 := [(15, (nI fa785)), (16, pl786), (44, (nI fd)), (49, (nI md)), (73, (nI sc)), (74, (nI k9)), (77, dn755), (78, wt756), (79, wf757)]) (V := [(nI fa785), pl786, (nI fd), (nI md), (nI sc), (nI k9), dn755, wt756, wf757, (nI fa785), pl786, (nI fa785), pl786, (nI fd), (nI md), (nI sc), (nI k9), dn755, wt756, wf757]) rfl rfl rfl hP
      have hD : va_D A (mW G h0 a (upd (upd (upd (upd (upd (upd (upd (upd (upd F 15 (nI fa785)) 16 pl786) 44 (nI fd)) 49 (nI md)) 73 (nI sc)) 74 (nI k9)) 77 dn755) 78 wt756) 79 wf757) (updA (updA (updA (updA (updA B 14 nc) 17 ty758) 18 mn759) 48 vn) 49 vt)) := mW_D hD
      refine W.widen (k := 0) (n := 0) (Nat.le_of_ble_eq_true rfl) (Nat.le_of_ble_eq_true rfl) ?_
      refine W.eq (g2 := F0 m 418 ls [.int (nI r784)]) rfl ?_
      refine lv_pop hx hb dX12_lookAt_418 rfl ?_
      refine lv_aload_n hx hb dX12_lookAt_419 rfl (lv_at hl 1 rfl) ?_
      refine lv_aload_n hx hb dX12_lookAt_420 rfl (lv_at hl 1 rfl) ?_
      refine lv_aload_n hx hb dX12_lookAt_421 rfl (lv_at hl 1 rfl) ?_
      refine r_get (v := .ref (a 21)) hx hb hown hq hE hP 30 75 tFX12_30 (by decide) pw_1452 rfl dX12_lookAt_422 ?_
      refine lv_aload_n hx hb dX12_lookAt_425 rfl (lv_at hl 1 rfl) ?_
      refine r_get (v := .ref (a 13)) hx hb hown hq hE hP 21 50 tFX12_21 (by decide) pw_1443 rfl dX12_lookAt_426 ?_
      refine lv_iload_n hx hb dX12_lookAt_429 rfl (lv_at hl 2 rfl) ?_
      refine r_ldi (f := (B 13)) (j := n9) hx hb hE hP 13 (ma_13 G a _) rfl (by omega) (by decide) dX12_lookAt_430 ?_
      obtain ⟨y794, e795, h796⟩ : ∃ y : Nat, B 13 n9 = nI y ∧ y < wr := by
        obtain ⟨k2, e2, _, k24, hs⟩ := hF.knd hn9
        have ek : k2 = 22 := (nI_eq (by omega) (by omega)).mp (e2.symm.trans ek)
        subst ek
        exact (hs 2 (by omega) (by omega)).1 (by decide)
      refine lv_topi (fun x800 e801 => ?_)
      obtain rfl : x800 = nI y794 := e801.trans e795
      refine r_ldi (f := (B 21)) (j := y794) hx hb hE hP 21 (ma_21 G a _) rfl (by omega) (by decide) dX12_lookAt_431 ?_
      obtain ⟨x802, e803, h804, h805, h806, h807⟩ := tyOK.tc (hTY y794 (by omega)) (by omega)
      refine lv_topi (fun x808 e809 => ?_)
      obtain rfl : x808 = nI x802 := e809.trans e803
      have hP : va_P G.1 pCl (mW G h0 a (upd (upd (upd (upd (upd (upd (upd (upd (upd F 15 (nI fa785)) 16 pl786) 44 (nI fd)) 49 (nI md)) 73 (nI sc)) 74 (nI k9)) 77 dn755) 78 wt756) 79 wf757) (updA (updA (updA (updA (updA B 14 nc) 17 ty758) 18 mn759) 48 vn) 49 vt)) _ := hP
      have hD : va_D A (mW G h0 a (upd (upd (upd (upd (upd (upd (upd (upd (upd F 15 (nI fa785)) 16 pl786) 44 (nI fd)) 49 (nI md)) 73 (nI sc)) 74 (nI k9)) 77 dn755) 78 wt756) 79 wf757) (updA (updA (updA (updA (updA B 14 nc) 17 ty758) 18 mn759) 48 vn) 49 vt)) := mW_D hD
      refine pc_V0 (G := G) (As := [.int (nI x802)]) (rest := [.ref h0]) hx hb hml hown hq hE hX pX0_al hP hD hS hA hl.1 (R_isReference l G h0 a (upd (upd (upd (upd (upd (upd (upd (upd (upd F 15 (nI fa785)) 16 pl786) 44 (nI fd)) 49 (nI md)) 73 (nI sc)) 74 (nI k9)) 77 dn755) 78 wt756) 79 wf757) (updA (updA (updA (updA (updA B 14 nc) 17 ty758) 18 mn759) 48 vn) 49 vt) x802 (by omega)) (gV pw_1783 pw_1784 pw_1785 pw_1523 pw_1779) hV_X12_isReference 0 9 rfl rfl rfl rfl (Nat.le_of_ble_eq_true rfl) dX12_lookAt_432 ⟨Nat.le_of_ble_eq_true rfl, Nat.le_of_ble_eq_true rfl⟩ ⟨(by show 2 + 1 ≤ (4 * z9 + 10); omega), (by show 8 + (2 + 11) + 60 ≤ (160 * z9 + 1400); omega)⟩ (fun v812 u810 H locs hw811 hP hD hS => ?_)
      obtain ⟨r813, rfl⟩ : ∃ z, z = u810 := ⟨_, rfl⟩
      obtain ⟨hw811, h814, h815, h816⟩ := hw811
      replace h814 : r813 ≤ 1 := h814
      replace h815 : 3 * r813 ≤ x802 := h815
      replace h816 : x802 ≤ 2 + 9000 * r813 := h816
      obtain rfl : v812 = some (.int (nI r813)) := hw811
      have hP : va_P G.1 pCl (mW G h0 a (upd (upd (upd (upd (upd (upd (upd (upd (upd F 15 (nI fa785)) 16 pl786) 44 (nI fd)) 49 (nI md)) 73 (nI sc)) 74 (nI k9)) 77 dn755) 78 wt756) 79 wf757) (updA (updA (updA (updA (updA B 14 nc) 17 ty758) 18 mn759) 48 vn) 49 vt)) _ := hP
      have hD : va_D A (mW G h0 a (upd (upd (upd (upd (upd (upd (upd (upd (upd F 15 (nI fa785)) 16 pl786) 44 (nI fd)) 49 (nI md)) 73 (nI sc)) 74 (nI k9)) 77 dn755) 78 wt756) 79 wf757) (updA (updA (updA (updA (updA B 14 nc) 17 ty758) 18 mn759) 48 vn) 49 vt)) := mW_D hD
      refine W.widen (k := 0) (n := 0) (Nat.le_of_ble_eq_true rfl) (Nat.le_of_ble_eq_true rfl) ?_
      refine W.eq (g2 := F0 m 435 ls [.int (nI r813), .ref h0]) rfl ?_
      refine lv_bipush (v := 11) hx hb dX12_lookAt_435 (by decide) ?_
      refine lv_aload_n hx hb dX12_lookAt_437 rfl (lv_at hl 1 rfl) ?_
      refine r_get (v := .ref (a 19)) hx hb hown hq hE hP 28 68 tFX12_28 (by decide) pw_1449 rfl dX12_lookAt_438 ?_
      refine lv_aload_n hx hb dX12_lookAt_441 rfl (lv_at hl 1 rfl) ?_
      refine r_get (v := .ref (a 13)) hx hb hown hq hE hP 21 50 tFX12_21 (by decide) pw_1443 rfl dX12_lookAt_442 ?_
      refine lv_iload_n hx hb dX12_lookAt_445 rfl (lv_at hl 2 rfl) ?_
      refine r_ldi (f := (B 13)) (j := n9) hx hb hE hP 13 (ma_13 G a _) rfl (by omega) (by decide) dX12_lookAt_446 ?_
      refine lv_topi (fun x817 e818 => ?_)
      obtain rfl : x817 = nI y794 := e818.trans e795
      refine r_ldi (f := (B 19)) (j := y794) hx hb hE hP 19 (ma_19 G a _) rfl (by omega) (by decide) dX12_lookAt_447 ?_
      obtain ⟨t819, h821, e820⟩ := hTK y794 (by omega)
      refine lv_topi (fun x822 e823 => ?_)
      obtain rfl : x822 = nI t819 := e823.trans e820
      have hP : va_P G.1 pCl (mW G h0 a (upd (upd (upd (upd (upd (upd (upd (upd (upd (upd F 15 (nI fa785)) 16 pl786) 44 (nI fd)) 49 (nI md)) 73 (nI sc)) 74 (nI k9)) 77 dn755) 78 wt756) 79 wf757) 15 (nI fa785)) (updA (updA (updA (updA (updA B 14 nc) 17 ty758) 18 mn759) 48 vn) 49 vt)) _ := mW_to (F := F) (l1 := [(15, (nI fa785)), (16, pl786), (44, (nI fd)), (49, (nI md)), (73, (nI sc)), (74, (nI k9)), (77, dn755), (78, wt756), (79, wf757)]) (l2 := [(15, (nI fa785)), (16, pl786), (44, (nI fd)), (49, (nI md)), (73, (nI sc)), (74, (nI k9)), (77, dn755), (78, wt756), (79, wf757), (15, (nI fa785))]) (V := [(nI fa785), pl786, (nI fd), (nI md), (nI sc), (nI k9), dn755, wt756, wf757, (nI fa785), pl786, (nI fd), (nI md), (nI sc), (nI k9), dn755, wt756, wf757, (nI fa785)]) rfl rfl rfl hP
      have hD : va_D A (mW G h0 a (upd (upd (upd (upd (upd (upd (upd (upd (upd (upd F 15 (nI fa785)) 16 pl786) 44 (nI fd)) 49 (nI md)) 73 (nI sc)) 74 (nI k9)) 77 dn755) 78 wt756) 79 wf757) 15 (nI fa785)) (updA (updA (updA (updA (updA B 14 nc) 17 ty758) 18 mn759) 48 vn) 49 vt)) := mW_D hD
      refine pc_V0 (G := G) (As := [.int (nI r813), .int (nI 11), .int (nI t819)]) (rest := []) hx hb hml hown hq hE hX pX0_al hP hD hS hA hl.1 (R_judgeL l G h0 a (upd (upd (upd (upd (upd (upd (upd (upd (upd F 15 (nI fa785)) 16 pl786) 44 (nI fd)) 49 (nI md)) 73 (nI sc)) 74 (nI k9)) 77 dn755) 78 wt756) 79 wf757) (updA (updA (updA (updA (updA B 14 nc) 17 ty758) 18 mn759) 48 vn) 49 vt) r813 11 t819 fa785 (by omega) (by omega) (by omega) (by omega)) (gV pw_1798 pw_1799 pw_1800 pw_1523 pw_1793) hV_X12_judge 0 9 rfl rfl rfl rfl (Nat.le_of_ble_eq_true rfl) dX12_lookAt_448 ⟨Nat.le_of_ble_eq_true rfl, Nat.le_of_ble_eq_true rfl⟩ ⟨(by show 3 + 1 ≤ (4 * z9 + 10); omega), (by show 8 + (4 + 11) + 82 ≤ (160 * z9 + 1400); omega)⟩ (fun v826 u824 H locs hw825 hP hD hS => ?_)
      obtain ⟨r827, fa828, pl829⟩ := u824
      obtain ⟨hw825, h830, h831, h832, h833, h834, h835, h836⟩ := hw825
      replace h830 : r827 ≤ 1 := h830
      replace h831 : fa785 ≤ fa828 := h831
      replace h832 : fa828 ≤ 15 := h832
      replace h833 : fa828 + 15 * r827 ≤ 15 := h833
      replace h834 : 1 ≤ r827 + fa828 := h834
      replace h835 : 1 ≤ r813 + fa828 := h835
      replace h836 : fa828 ≤ fa785 + 15 * (1 - r813) := h836
      obtain rfl : v826 = some (.int (nI r827)) := hw825
      have hP : va_P G.1 pCl (mW G h0 a (upd (upd (upd (upd (upd (upd (upd (upd (upd F 15 (nI fa828)) 16 pl829) 44 (nI fd)) 49 (nI md)) 73 (nI sc)) 74 (nI k9)) 77 dn755) 78 wt756) 79 wf757) (updA (updA (updA (updA (updA B 14 nc) 17 ty758) 18 mn759) 48 vn) 49 vt)) _ := mW_to (F := F) (l1 := [(15, (nI fa785)), (16, pl786), (44, (nI fd)), (49, (nI md)), (73, (nI sc)), (74, (nI k9)), (77, dn755), (78, wt756), (79, wf757), (15, (nI fa828)), (16, pl829)]) (l2 := [(15, (nI fa828)), (16, pl829), (44, (nI fd)), (49, (nI md)), (73, (nI sc)), (74, (nI k9)), (77, dn755), (78, wt756), (79, wf757)]) (V := [(nI fa828), pl829, (nI fd), (nI md), (nI sc), (nI k9), dn755, wt756, wf757, (nI fa828), pl829, (nI fa828), pl829, (nI fd), (nI md), (nI sc), (nI k9), dn755, wt756, wf757]) rfl rfl rfl hP
      have hD : va_D A (mW G h0 a (upd (upd (upd (upd (upd (upd (upd (upd (upd F 15 (nI fa828)) 16 pl829) 44 (nI fd)) 49 (nI md)) 73 (nI sc)) 74 (nI k9)) 77 dn755) 78 wt756) 79 wf757) (updA (updA (updA (updA (updA B 14 nc) 17 ty758) 18 mn759) 48 vn) 49 vt)) := mW_D hD
      refine W.widen (k := 0) (n := 0) (Nat.le_of_ble_eq_true rfl) (Nat.le_of_ble_eq_true rfl) ?_
      refine W.eq (g2 := F0 m 451 ls [.int (nI r827)]) rfl ?_
      refine lv_pop hx hb dX12_lookAt_451 rfl ?_
      refine lv_aload_n hx hb dX12_lookAt_452 rfl (lv_at hl 1 rfl) ?_
      refine lv_aload_n hx hb dX12_lookAt_453 rfl (lv_at hl 1 rfl) ?_
      refine r_get (v := .ref (a 9)) hx hb hown hq hE hP 17 38 tFX12_17 (by decide) pw_1439 rfl dX12_lookAt_454 ?_
      refine lv_iload_n hx hb dX12_lookAt_457 rfl (lv_at hl 2 rfl) ?_
      refine r_ldi (f := (B 9)) (j := n9) hx hb hE hP 9 (ma_9 G a _) rfl (by omega) (by decide) dX12_lookAt_458 ?_
      refine lv_topi (fun x837 e838 => ?_)
      obtain rfl : x837 = 22 := e838.trans ek
      refine lv_bipush (v := 21) hx hb dX12_lookAt_459 (by decide) ?_
      refine lv_icmp_ne (tgt := 468) hx hb dX12_lookAt_461 (by decide) (fun c839 => ?_) (fun c839 => absurd c839 (by decide))
      refine lv_aload_n hx hb dX12_lookAt_468 rfl (lv_at hl 1 rfl) ?_
      refine r_get (v := .ref (a 21)) hx hb hown hq hE hP 30 75 tFX12_30 (by decide) pw_1452 rfl dX12_lookAt_469 ?_
      refine lv_aload_n hx hb dX12_lookAt_472 rfl (lv_at hl 1 rfl) ?_
      refine r_get (v := .ref (a 13)) hx hb hown hq hE hP 21 50 tFX12_21 (by decide) pw_1443 rfl dX12_lookAt_473 ?_
      refine lv_iload_n hx hb dX12_lookAt_476 rfl (lv_at hl 2 rfl) ?_
      refine r_ldi (f := (B 13)) (j := n9) hx hb hE hP 13 (ma_13 G a _) rfl (by omega) (by decide) dX12_lookAt_477 ?_
      refine lv_topi (fun x840 e841 => ?_)
      obtain rfl : x840 = nI y794 := e841.trans e795
      refine r_ldi (f := (B 21)) (j := y794) hx hb hE hP 21 (ma_21 G a _) rfl (by omega) (by decide) dX12_lookAt_478 ?_
      refine lv_topi (fun x842 e843 => ?_)
      obtain rfl : x842 = nI x802 := e843.trans e803
      have hP : va_P G.1 pCl (mW G h0 a (upd (upd (upd (upd (upd (upd (upd (upd (upd (upd F 15 (nI fa828)) 16 pl829) 44 (nI fd)) 49 (nI md)) 73 (nI sc)) 74 (nI k9)) 77 dn755) 78 wt756) 79 wf757) 77 dn755) (updA (updA (updA (updA (updA B 14 nc) 17 ty758) 18 mn759) 48 vn) 49 vt)) _ := mW_to (F := F) (l1 := [(15, (nI fa828)), (16, pl829), (44, (nI fd)), (49, (nI md)), (73, (nI sc)), (74, (nI k9)), (77, dn755), (78, wt756), (79, wf757)]) (l2 := [(15, (nI fa828)), (16, pl829), (44, (nI fd)), (49, (nI md)), (73, (nI sc)), (74, (nI k9)), (77, dn755), (78, wt756), (79, wf757), (77, dn755)]) (V := [(nI fa828), pl829, (nI fd), (nI md), (nI sc), (nI k9), dn755, wt756, wf757, (nI fa828), pl829, (nI fd), (nI md), (nI sc), (nI k9), dn755, wt756, wf757, dn755]) rfl rfl rfl hP
      have hD : va_D A (mW G h0 a (upd (upd (upd (upd (upd (upd (upd (upd (upd (upd F 15 (nI fa828)) 16 pl829) 44 (nI fd)) 49 (nI md)) 73 (nI sc)) 74 (nI k9)) 77 dn755) 78 wt756) 79 wf757) 77 dn755) (updA (updA (updA (updA (updA B 14 nc) 17 ty758) 18 mn759) 48 vn) 49 vt)) := mW_D hD
      refine pc_V0 (G := G) (As := [.int (nI x802)]) (rest := []) hx hb hml hown hq hE hX pX0_al hP hD hS hA hl.1 (R_behind l G h0 a (upd (upd (upd (upd (upd (upd (upd (upd (upd F 15 (nI fa828)) 16 pl829) 44 (nI fd)) 49 (nI md)) 73 (nI sc)) 74 (nI k9)) 77 dn755) 78 wt756) 79 wf757) (updA (updA (updA (updA (updA B 14 nc) 17 ty758) 18 mn759) 48 vn) 49 vt) (nI x802) dn755) (gV pw_1832 pw_1833 pw_1834 pw_1523 pw_1804) hV_X12_behind 0 9 rfl rfl rfl rfl (Nat.le_of_ble_eq_true rfl) dX12_lookAt_479 ⟨Nat.le_of_ble_eq_true rfl, Nat.le_of_ble_eq_true rfl⟩ ⟨(by show 2 + 1 ≤ (4 * z9 + 10); omega), (by show 8 + (2 + 11) + 60 ≤ (160 * z9 + 1400); omega)⟩ (fun v846 u844 H locs hw845 hP hD hS => ?_)
      obtain rfl : v846 = some (.int (nI x802)) := hw845
      have hP : va_P G.1 pCl (mW G h0 a (upd (upd (upd (upd (upd (upd (upd (upd (upd F 15 (nI fa828)) 16 pl829) 44 (nI fd)) 49 (nI md)) 73 (nI sc)) 74 (nI k9)) 77 dn755) 78 dn755) 79 dn755) (updA (updA (updA (updA (updA B 14 nc) 17 ty758) 18 mn759) 48 vn) 49 vt)) _ := mW_to (F := F) (l1 := [(15, (nI fa828)), (16, pl829), (44, (nI fd)), (49, (nI md)), (73, (nI sc)), (74, (nI k9)), (77, dn755), (78, wt756), (79, wf757), (77, dn755), (78, dn755), (79, dn755)]) (l2 := [(15, (nI fa828)), (16, pl829), (44, (nI fd)), (49, (nI md)), (73, (nI sc)), (74, (nI k9)), (77, dn755), (78, dn755), (79, dn755)]) (V := [(nI fa828), pl829, (nI fd), (nI md), (nI sc), (nI k9), dn755, dn755, dn755, dn755, dn755, dn755, (nI fa828), pl829, (nI fd), (nI md), (nI sc), (nI k9), dn755, dn755, dn755]) rfl rfl rfl hP
      have hD : va_D A (mW G h0 a (upd (upd (upd (upd (upd (upd (upd (upd (upd F 15 (nI fa828)) 16 pl829) 44 (nI fd)) 49 (nI md)) 73 (nI sc)) 74 (nI k9)) 77 dn755) 78 dn755) 79 dn755) (updA (updA (updA (updA (updA B 14 nc) 17 ty758) 18 mn759) 48 vn) 49 vt)) := mW_D hD
      refine W.widen (k := 0) (n := 0) (Nat.le_of_ble_eq_true rfl) (Nat.le_of_ble_eq_true rfl) ?_
      refine W.eq (g2 := F0 m 482 ls [.int (nI x802)]) rfl ?_
      have hz847 : fa ≤ fa828 := (by omega)
      have hz848 : fa828 ≤ 15 := (by omega)
      have hz849 : TyC dc x802 := h804
      have hz850 : x802 ≤ 2050 := (by omega)
      have hz851 : ChE B nd n9 ty ty758 mn mn759 := hch768
      have hz852 : mnN B nd mn759 := h765
      have hz853 : If (fa828 = 0) (Typ0 B dc fd md nd ty758 mn759 vt sc k9 n9 (nI x802)) := (fun e => Typ0.of (kids (kk := 22) (c1 := c739) (c2 := c739) (c3 := c739) ek (by decide) ⟨by omega, by omega, by omega⟩ (Or.inr ⟨by decide, e740⟩) (Or.inl (by decide)) (Or.inl (by decide)) (by decide) (h766 (by omega)) (h766 (by omega)) (h766 (by omega))) (LT22 ek hh745 h767 (by omega) e795 e803 (by omega) (by omega)))
      have hP : va_P G.1 pCl (mW G h0 a (upd (upd (upd (upd (upd (upd (upd (upd (upd F 15 (nI fa828)) 16 pl829) 44 (nI fd)) 49 (nI md)) 73 (nI sc)) 74 (nI k9)) 77 dn755) 78 dn755) 79 dn755) (updA (updA (updA (updA (updA B 14 nc) 17 ty758) 18 mn759) 48 vn) 49 vt)) _ := hP
      have hD : va_D A (mW G h0 a (upd (upd (upd (upd (upd (upd (upd (upd (upd F 15 (nI fa828)) 16 pl829) 44 (nI fd)) 49 (nI md)) 73 (nI sc)) 74 (nI k9)) 77 dn755) 78 dn755) 79 dn755) (updA (updA (updA (updA (updA B 14 nc) 17 ty758) 18 mn759) 48 vn) 49 vt)) := mW_D hD
      exact W.iret (v := (nI x802)) hx hb hr (fun t9 ht9 hW9 => ⟨⟨_, (x802, fa828, pl829, dn755, dn755, dn755, ty758, mn759), rfl, ⟨rfl, hz847, hz848, hz849, hz850, hz851, hz852, hz853⟩, by rw [ht9]; exact hP, hD⟩, hS.F ht9⟩) hS.2.2 dX12_lookAt_482
    · refine lv_topi (fun x854 e855 => ?_)
      obtain rfl : x854 = 23 := e855.trans ek
      refine lv_tableOut (tgt := 483) hx hb dX12_lookAt_15 (by decide) (by decide) ?_
      refine lv_aload_n hx hb dX12_lookAt_483 rfl (lv_at hl 0 rfl) ?_
      refine lv_iload_n hx hb dX12_lookAt_484 rfl (lv_at hl 1 rfl) ?_
      have hP : va_P G.1 pCl (mW G h0 a (upd (upd (upd (upd (upd (upd (upd (upd (upd (upd (upd (upd (upd (upd (upd (upd F 15 (nI fa)) 44 (nI fd)) 49 (nI md)) 73 (nI sc)) 74 (nI k9)) 77 dn) 78 wt) 79 wf) 15 (nI fa)) 44 (nI fd)) 49 (nI md)) 73 (nI sc)) 74 (nI k9)) 77 dn) 78 wt) 79 wf) (updA (updA (updA (updA (updA B 14 nc) 17 ty) 18 mn) 48 vn) 49 vt)) _ := hP
      have hD : va_D A (mW G h0 a (upd (upd (upd (upd (upd (upd (upd (upd (upd (upd (upd (upd (upd (upd (upd (upd F 15 (nI fa)) 44 (nI fd)) 49 (nI md)) 73 (nI sc)) 74 (nI k9)) 77 dn) 78 wt) 79 wf) 15 (nI fa)) 44 (nI fd)) 49 (nI md)) 73 (nI sc)) 74 (nI k9)) 77 dn) 78 wt) 79 wf) (updA (updA (updA (updA (updA B 14 nc) 17 ty) 18 mn) 48 vn) 49 vt)) := mW_D hD
      refine pc_V0 (G := G) (As := [.int (nI n9)]) (rest := []) hx hb hml hown hq hE hX pX0_al hP hD hS hA hl.1 (L_chosen l G h0 a (upd (upd (upd (upd (upd (upd (upd (upd F 15 (nI fa)) 44 (nI fd)) 49 (nI md)) 73 (nI sc)) 74 (nI k9)) 77 dn) 78 wt) 79 wf) B n9 z9 fa sc k9 nd T nm wr lz dc fd md pr bk gh dn wt wf nc ty mn vn vt hst hnm hn9 (by omega) (by omega) (by omega) hk9 hnc hmn hvt ek ihA) (gV pw_1856 pw_1857 pw_1858 pw_1523 pw_1866) hV_X12_chosen 0 9 rfl rfl rfl rfl (Nat.le_of_ble_eq_true rfl) dX12_lookAt_485 ⟨Nat.le_of_ble_eq_true rfl, Nat.le_of_ble_eq_true rfl⟩ ⟨(by show (4 * z9 + 9) + 1 ≤ (4 * z9 + 10); omega), (by show 8 + (9 + 11) + (160 * z9 + 1360) ≤ (160 * z9 + 1400); omega)⟩ (fun v858 u856 H locs hw857 hP hD hS => ?_)
      obtain ⟨r859, fa860, pl861, dn862, wt863, wf864, ty865, mn866⟩ := u856
      obtain ⟨hw857, h867, h868, h869, h870, h871, h872, h873⟩ := hw857
      replace h867 : fa ≤ fa860 := h867
      replace h868 : fa860 ≤ 15 := h868
      replace h869 : TyC dc r859 := h869
      replace h870 : r859 ≤ 2050 := h870
      replace h871 : ChE B nd n9 ty ty865 mn mn866 := h871
      replace h872 : mnN B nd mn866 := h872
      replace h873 : If (fa860 = 0) (Typ0 B dc fd md nd ty865 mn866 vt sc k9 n9 (nI r859)) := h873
      obtain rfl : v858 = some (.int (nI r859)) := hw857
      have hP : va_P G.1 pCl (mW G h0 a (upd (upd (upd (upd (upd (upd (upd (upd (upd F 15 (nI fa860)) 16 pl861) 44 (nI fd)) 49 (nI md)) 73 (nI sc)) 74 (nI k9)) 77 dn862) 78 wt863) 79 wf864) (updA (updA (updA (updA (updA B 14 nc) 17 ty865) 18 mn866) 48 vn) 49 vt)) _ := mW_to (F := F) (l1 := [(15, (nI fa)), (44, (nI fd)), (49, (nI md)), (73, (nI sc)), (74, (nI k9)), (77, dn), (78, wt), (79, wf), (15, (nI fa860)), (16, pl861), (44, (nI fd)), (49, (nI md)), (73, (nI sc)), (74, (nI k9)), (77, dn862), (78, wt863), (79, wf864)]) (l2 := [(15, (nI fa860)), (16, pl861), (44, (nI fd)), (49, (nI md)), (73, (nI sc)), (74, (nI k9)), (77, dn862), (78, wt863), (79, wf864)]) (V := [(nI fa860), (nI fd), (nI md), (nI sc), (nI k9), dn862, wt863, wf864, (nI fa860), pl861, (nI fd), (nI md), (nI sc), (nI k9), dn862, wt863, wf864, (nI fa860), pl861, (nI fd), (nI md), (nI sc), (nI k9), dn862, wt863, wf864]) rfl rfl rfl hP
      have hD : va_D A (mW G h0 a (upd (upd (upd (upd (upd (upd (upd (upd (upd F 15 (nI fa860)) 16 pl861) 44 (nI fd)) 49 (nI md)) 73 (nI sc)) 74 (nI k9)) 77 dn862) 78 wt863) 79 wf864) (updA (updA (updA (updA (updA B 14 nc) 17 ty865) 18 mn866) 48 vn) 49 vt)) := mW_D hD
      refine W.widen (k := 0) (n := 0) (Nat.le_of_ble_eq_true rfl) (Nat.le_of_ble_eq_true rfl) ?_
      refine W.eq (g2 := F0 m 488 ls [.int (nI r859)]) rfl ?_
      have hch874 : ChE B nd n9 ty ty865 mn mn866 := (ChE.trans ChE.rfl h871)
      have hz875 : fa ≤ fa860 := (by omega)
      have hz876 : fa860 ≤ 15 := (by omega)
      have hz877 : TyC dc r859 := h869
      have hz878 : r859 ≤ 2050 := (by omega)
      have hz879 : ChE B nd n9 ty ty865 mn mn866 := hch874
      have hz880 : mnN B nd mn866 := h872
      have hz881 : If (fa860 = 0) (Typ0 B dc fd md nd ty865 mn866 vt sc k9 n9 (nI r859)) := (fun e => h873 (by omega))
      have hP : va_P G.1 pCl (mW G h0 a (upd (upd (upd (upd (upd (upd (upd (upd (upd F 15 (nI fa860)) 16 pl861) 44 (nI fd)) 49 (nI md)) 73 (nI sc)) 74 (nI k9)) 77 dn862) 78 wt863) 79 wf864) (updA (updA (updA (updA (updA B 14 nc) 17 ty865) 18 mn866) 48 vn) 49 vt)) _ := hP
      have hD : va_D A (mW G h0 a (upd (upd (upd (upd (upd (upd (upd (upd (upd F 15 (nI fa860)) 16 pl861) 44 (nI fd)) 49 (nI md)) 73 (nI sc)) 74 (nI k9)) 77 dn862) 78 wt863) 79 wf864) (updA (updA (updA (updA (updA B 14 nc) 17 ty865) 18 mn866) 48 vn) 49 vt)) := mW_D hD
      exact W.iret (v := (nI r859)) hx hb hr (fun t9 ht9 hW9 => ⟨⟨_, (r859, fa860, pl861, dn862, wt863, wf864, ty865, mn866), rfl, ⟨rfl, hz875, hz876, hz877, hz878, hz879, hz880, hz881⟩, by rw [ht9]; exact hP, hD⟩, hS.F ht9⟩) hS.2.2 dX12_lookAt_488
  · have n882 : ¬ (fa ≤ 0) := fun h9 => c1 ((nI_leI (a := fa) (b := 0) (by omega) (by omega)).mpr h9)
    refine lv_iconst (v := 1) hx hb dX12_lookAt_7 (by decide) ?_
    have hz883 : fa ≤ fa := (by omega)
    have hz884 : fa ≤ 15 := (by omega)
    have hz885 : TyC dc 1 := (by unfold TyC; omega)
    have hz886 : 1 ≤ 2050 := (by omega)
    have hz887 : ChE B nd n9 ty ty mn mn := ChE.rfl
    have hz888 : mnN B nd mn := hmn
    have hz889 : If (fa = 0) (Typ0 B dc fd md nd ty mn vt sc k9 n9 (nI 1)) := (fun e => absurd e (by omega))
    have hP : va_P G.1 pCl (mW G h0 a (upd (upd (upd (upd (upd (upd (upd (upd (upd F 15 (nI fa)) 16 (F 16)) 44 (nI fd)) 49 (nI md)) 73 (nI sc)) 74 (nI k9)) 77 dn) 78 wt) 79 wf) (updA (updA (updA (updA (updA B 14 nc) 17 ty) 18 mn) 48 vn) 49 vt)) _ := mW_to (F := F) (l1 := [(15, (nI fa)), (44, (nI fd)), (49, (nI md)), (73, (nI sc)), (74, (nI k9)), (77, dn), (78, wt), (79, wf)]) (l2 := [(15, (nI fa)), (16, (F 16)), (44, (nI fd)), (49, (nI md)), (73, (nI sc)), (74, (nI k9)), (77, dn), (78, wt), (79, wf)]) (V := [(nI fa), (nI fd), (nI md), (nI sc), (nI k9), dn, wt, wf, (nI fa), (F 16), (nI fd), (nI md), (nI sc), (nI k9), dn, wt, wf]) rfl rfl rfl hP
    have hD : va_D A (mW G h0 a (upd (upd (upd (upd (upd (upd (upd (upd (upd F 15 (nI fa)) 16 (F 16)) 44 (nI fd)) 49 (nI md)) 73 (nI sc)) 74 (nI k9)) 77 dn) 78 wt) 79 wf) (updA (updA (updA (updA (updA B 14 nc) 17 ty) 18 mn) 48 vn) 49 vt)) := mW_D hD
    exact W.iret (v := 1) hx hb hr (fun t9 ht9 hW9 => ⟨⟨_, (1, fa, (F 16), dn, wt, wf, ty, mn), rfl, ⟨rfl, hz883, hz884, hz885, hz886, hz887, hz888, hz889⟩, by rw [ht9]; exact hP, hD⟩, hS.F ht9⟩) hS.2.2 dX12_lookAt_8

theorem dX12_statementOf_0 : decode cX12_statementOf 0 = .ok (.aload_n 0, 1) := by decide +kernel
theorem dX12_statementOf_1 : decode cX12_statementOf 1 = .ok (.getfield 343, 3) := by decide +kernel
theorem dX12_statementOf_4 : decode cX12_statementOf 4 = .ok (.istore_n 1, 1) := by decide +kernel
theorem dX12_statementOf_5 : decode cX12_statementOf 5 = .ok (.aload_n 0, 1) := by decide +kernel
theorem dX12_statementOf_6 : decode cX12_statementOf 6 = .ok (.invokevirtual 381, 3) := by decide +kernel
theorem dX12_statementOf_9 : decode cX12_statementOf 9 = .ok (.lookupswitch 426 #[(59, 104), (123, 99), (312, 301), (315, 301), (320, 241), (321, 125), (329, 382), (331, 246), (334, 345), (336, 377), (338, 193)], 99) := by decide +kernel
theorem dX12_statementOf_113 : decode cX12_statementOf 113 = .ok (.aload_n 0, 1) := by decide +kernel
theorem dX12_statementOf_114 : decode cX12_statementOf 114 = .ok (.dup, 1) := by decide +kernel
theorem dX12_statementOf_115 : decode cX12_statementOf 115 = .ok (.getfield 343, 3) := by decide +kernel
theorem dX12_statementOf_118 : decode cX12_statementOf 118 = .ok (.iconst 1, 1) := by decide +kernel
theorem dX12_statementOf_119 : decode cX12_statementOf 119 = .ok (.iadd, 1) := by decide +kernel
theorem dX12_statementOf_120 : decode cX12_statementOf 120 = .ok (.putfield 343, 3) := by decide +kernel
theorem dX12_statementOf_123 : decode cX12_statementOf 123 = .ok (.aload_n 0, 1) := by decide +kernel
theorem dX12_statementOf_124 : decode cX12_statementOf 124 = .ok (.bipush 43, 2) := by decide +kernel
theorem dX12_statementOf_126 : decode cX12_statementOf 126 = .ok (.iload_n 1, 1) := by decide +kernel
theorem dX12_statementOf_127 : decode cX12_statementOf 127 = .ok (.iload_n 1, 1) := by decide +kernel
theorem dX12_statementOf_128 : decode cX12_statementOf 128 = .ok (.iconst (-1), 1) := by decide +kernel
theorem dX12_statementOf_129 : decode cX12_statementOf 129 = .ok (.iconst (-1), 1) := by decide +kernel
theorem dX12_statementOf_130 : decode cX12_statementOf 130 = .ok (.invokevirtual 428, 3) := by decide +kernel
theorem dX12_statementOf_133 : decode cX12_statementOf 133 = .ok (.ireturn, 1) := by decide +kernel
theorem dX12_statementOf_108 : decode cX12_statementOf 108 = .ok (.aload_n 0, 1) := by decide +kernel
theorem dX12_statementOf_109 : decode cX12_statementOf 109 = .ok (.invokevirtual 425, 3) := by decide +kernel
theorem dX12_statementOf_112 : decode cX12_statementOf 112 = .ok (.ireturn, 1) := by decide +kernel
theorem dX12_statementOf_310 : decode cX12_statementOf 310 = .ok (.aload_n 0, 1) := by decide +kernel
theorem dX12_statementOf_311 : decode cX12_statementOf 311 = .ok (.aload_n 0, 1) := by decide +kernel
theorem dX12_statementOf_312 : decode cX12_statementOf 312 = .ok (.invokevirtual 381, 3) := by decide +kernel
theorem dX12_statementOf_315 : decode cX12_statementOf 315 = .ok (.sipush 312, 3) := by decide +kernel
theorem dX12_statementOf_318 : decode cX12_statementOf 318 = .ok (.if_icmp .ne 8, 3) := by decide +kernel
theorem dX12_statementOf_326 : decode cX12_statementOf 326 = .ok (.bipush 39, 2) := by decide +kernel
theorem dX12_statementOf_328 : decode cX12_statementOf 328 = .ok (.iload_n 1, 1) := by decide +kernel
theorem dX12_statementOf_329 : decode cX12_statementOf 329 = .ok (.iload_n 1, 1) := by decide +kernel
theorem dX12_statementOf_330 : decode cX12_statementOf 330 = .ok (.iconst (-1), 1) := by decide +kernel
theorem dX12_statementOf_331 : decode cX12_statementOf 331 = .ok (.iconst (-1), 1) := by decide +kernel
theorem dX12_statementOf_332 : decode cX12_statementOf 332 = .ok (.invokevirtual 428, 3) := by decide +kernel
theorem dX12_statementOf_335 : decode cX12_statementOf 335 = .ok (.istore_n 2, 1) := by decide +kernel
theorem dX12_statementOf_336 : decode cX12_statementOf 336 = .ok (.aload_n 0, 1) := by decide +kernel
theorem dX12_statementOf_337 : decode cX12_statementOf 337 = .ok (.dup, 1) := by decide +kernel
theorem dX12_statementOf_338 : decode cX12_statementOf 338 = .ok (.getfield 343, 3) := by decide +kernel
theorem dX12_statementOf_341 : decode cX12_statementOf 341 = .ok (.iconst 1, 1) := by decide +kernel
theorem dX12_statementOf_342 : decode cX12_statementOf 342 = .ok (.iadd, 1) := by decide +kernel
theorem dX12_statementOf_343 : decode cX12_statementOf 343 = .ok (.putfield 343, 3) := by decide +kernel
theorem dX12_statementOf_346 : decode cX12_statementOf 346 = .ok (.aload_n 0, 1) := by decide +kernel
theorem dX12_statementOf_347 : decode cX12_statementOf 347 = .ok (.bipush 59, 2) := by decide +kernel
theorem dX12_statementOf_349 : decode cX12_statementOf 349 = .ok (.invokevirtual 369, 3) := by decide +kernel
theorem dX12_statementOf_352 : decode cX12_statementOf 352 = .ok (.iload_n 2, 1) := by decide +kernel
theorem dX12_statementOf_353 : decode cX12_statementOf 353 = .ok (.ireturn, 1) := by decide +kernel
theorem dX12_statementOf_321 : decode cX12_statementOf 321 = .ok (.bipush 38, 2) := by decide +kernel
theorem dX12_statementOf_323 : decode cX12_statementOf 323 = .ok (.goto 5, 3) := by decide +kernel
theorem dX12_statementOf_250 : decode cX12_statementOf 250 = .ok (.aload_n 0, 1) := by decide +kernel
theorem dX12_statementOf_251 : decode cX12_statementOf 251 = .ok (.invokevirtual 459, 3) := by decide +kernel
theorem dX12_statementOf_254 : decode cX12_statementOf 254 = .ok (.ireturn, 1) := by decide +kernel
theorem dX12_statementOf_134 : decode cX12_statementOf 134 = .ok (.aload_n 0, 1) := by decide +kernel
theorem dX12_statementOf_135 : decode cX12_statementOf 135 = .ok (.dup, 1) := by decide +kernel
theorem dX12_statementOf_136 : decode cX12_statementOf 136 = .ok (.getfield 343, 3) := by decide +kernel
theorem dX12_statementOf_139 : decode cX12_statementOf 139 = .ok (.iconst 1, 1) := by decide +kernel
theorem dX12_statementOf_140 : decode cX12_statementOf 140 = .ok (.iadd, 1) := by decide +kernel
theorem dX12_statementOf_141 : decode cX12_statementOf 141 = .ok (.putfield 343, 3) := by decide +kernel
theorem dX12_statementOf_144 : decode cX12_statementOf 144 = .ok (.aload_n 0, 1) := by decide +kernel
theorem dX12_statementOf_145 : decode cX12_statementOf 145 = .ok (.bipush 40, 2) := by decide +kernel
theorem dX12_statementOf_147 : decode cX12_statementOf 147 = .ok (.invokevirtual 369, 3) := by decide +kernel
theorem dX12_statementOf_150 : decode cX12_statementOf 150 = .ok (.aload_n 0, 1) := by decide +kernel
theorem dX12_statementOf_151 : decode cX12_statementOf 151 = .ok (.bipush 34, 2) := by decide +kernel
theorem dX12_statementOf_153 : decode cX12_statementOf 153 = .ok (.iload_n 1, 1) := by decide +kernel
theorem dX12_statementOf_154 : decode cX12_statementOf 154 = .ok (.iload_n 1, 1) := by decide +kernel
theorem dX12_statementOf_155 : decode cX12_statementOf 155 = .ok (.aload_n 0, 1) := by decide +kernel
theorem dX12_statementOf_156 : decode cX12_statementOf 156 = .ok (.invokevirtual 447, 3) := by decide +kernel
theorem dX12_statementOf_159 : decode cX12_statementOf 159 = .ok (.iconst (-1), 1) := by decide +kernel
theorem dX12_statementOf_160 : decode cX12_statementOf 160 = .ok (.invokevirtual 428, 3) := by decide +kernel
theorem dX12_statementOf_163 : decode cX12_statementOf 163 = .ok (.istore_n 2, 1) := by decide +kernel
theorem dX12_statementOf_164 : decode cX12_statementOf 164 = .ok (.aload_n 0, 1) := by decide +kernel
theorem dX12_statementOf_165 : decode cX12_statementOf 165 = .ok (.bipush 41, 2) := by decide +kernel
theorem dX12_statementOf_167 : decode cX12_statementOf 167 = .ok (.invokevirtual 369, 3) := by decide +kernel
theorem dX12_statementOf_170 : decode cX12_statementOf 170 = .ok (.aload_n 0, 1) := by decide +kernel
theorem dX12_statementOf_171 : decode cX12_statementOf 171 = .ok (.getfield 50, 3) := by decide +kernel
theorem dX12_statementOf_174 : decode cX12_statementOf 174 = .ok (.iload_n 2, 1) := by decide +kernel
theorem dX12_statementOf_175 : decode cX12_statementOf 175 = .ok (.aload_n 0, 1) := by decide +kernel
theorem dX12_statementOf_176 : decode cX12_statementOf 176 = .ok (.invokevirtual 438, 3) := by decide +kernel
theorem dX12_statementOf_179 : decode cX12_statementOf 179 = .ok (.iastore, 1) := by decide +kernel
theorem dX12_statementOf_180 : decode cX12_statementOf 180 = .ok (.aload_n 0, 1) := by decide +kernel
theorem dX12_statementOf_181 : decode cX12_statementOf 181 = .ok (.sipush 316, 3) := by decide +kernel
theorem dX12_statementOf_184 : decode cX12_statementOf 184 = .ok (.invokevirtual 378, 3) := by decide +kernel
theorem dX12_statementOf_187 : decode cX12_statementOf 187 = .ok (.ifCond .eq 13, 3) := by decide +kernel
theorem dX12_statementOf_200 : decode cX12_statementOf 200 = .ok (.iload_n 2, 1) := by decide +kernel
theorem dX12_statementOf_201 : decode cX12_statementOf 201 = .ok (.ireturn, 1) := by decide +kernel
theorem dX12_statementOf_190 : decode cX12_statementOf 190 = .ok (.aload_n 0, 1) := by decide +kernel
theorem dX12_statementOf_191 : decode cX12_statementOf 191 = .ok (.getfield 53, 3) := by decide +kernel
theorem dX12_statementOf_194 : decode cX12_statementOf 194 = .ok (.iload_n 2, 1) := by decide +kernel
theorem dX12_statementOf_195 : decode cX12_statementOf 195 = .ok (.aload_n 0, 1) := by decide +kernel
theorem dX12_statementOf_196 : decode cX12_statementOf 196 = .ok (.invokevirtual 438, 3) := by decide +kernel
theorem dX12_statementOf_199 : decode cX12_statementOf 199 = .ok (.iastore, 1) := by decide +kernel
theorem dX12_statementOf_391 : decode cX12_statementOf 391 = .ok (.aload_n 0, 1) := by decide +kernel
theorem dX12_statementOf_392 : decode cX12_statementOf 392 = .ok (.dup, 1) := by decide +kernel
theorem dX12_statementOf_393 : decode cX12_statementOf 393 = .ok (.getfield 343, 3) := by decide +kernel
theorem dX12_statementOf_396 : decode cX12_statementOf 396 = .ok (.iconst 1, 1) := by decide +kernel
theorem dX12_statementOf_397 : decode cX12_statementOf 397 = .ok (.iadd, 1) := by decide +kernel
theorem dX12_statementOf_398 : decode cX12_statementOf 398 = .ok (.putfield 343, 3) := by decide +kernel
theorem dX12_statementOf_401 : decode cX12_statementOf 401 = .ok (.aload_n 0, 1) := by decide +kernel
theorem dX12_statementOf_402 : decode cX12_statementOf 402 = .ok (.bipush 40, 2) := by decide +kernel
theorem dX12_statementOf_404 : decode cX12_statementOf 404 = .ok (.invokevirtual 369, 3) := by decide +kernel
theorem dX12_statementOf_407 : decode cX12_statementOf 407 = .ok (.aload_n 0, 1) := by decide +kernel
theorem dX12_statementOf_408 : decode cX12_statementOf 408 = .ok (.bipush 42, 2) := by decide +kernel
theorem dX12_statementOf_410 : decode cX12_statementOf 410 = .ok (.iload_n 1, 1) := by decide +kernel
theorem dX12_statementOf_411 : decode cX12_statementOf 411 = .ok (.iload_n 1, 1) := by decide +kernel
theorem dX12_statementOf_412 : decode cX12_statementOf 412 = .ok (.aload_n 0, 1) := by decide +kernel
theorem dX12_statementOf_413 : decode cX12_statementOf 413 = .ok (.invokevirtual 447, 3) := by decide +kernel
theorem dX12_statementOf_416 : decode cX12_statementOf 416 = .ok (.iconst (-1), 1) := by decide +kernel
theorem dX12_statementOf_417 : decode cX12_statementOf 417 = .ok (.invokevirtual 428, 3) := by decide +kernel
theorem dX12_statementOf_420 : decode cX12_statementOf 420 = .ok (.istore_n 2, 1) := by decide +kernel
theorem dX12_statementOf_421 : decode cX12_statementOf 421 = .ok (.aload_n 0, 1) := by decide +kernel
theorem dX12_statementOf_422 : decode cX12_statementOf 422 = .ok (.bipush 41, 2) := by decide +kernel
theorem dX12_statementOf_424 : decode cX12_statementOf 424 = .ok (.invokevirtual 369, 3) := by decide +kernel
theorem dX12_statementOf_427 : decode cX12_statementOf 427 = .ok (.aload_n 0, 1) := by decide +kernel
theorem dX12_statementOf_428 : decode cX12_statementOf 428 = .ok (.bipush 59, 2) := by decide +kernel
theorem dX12_statementOf_430 : decode cX12_statementOf 430 = .ok (.invokevirtual 369, 3) := by decide +kernel
theorem dX12_statementOf_433 : decode cX12_statementOf 433 = .ok (.iload_n 2, 1) := by decide +kernel
theorem dX12_statementOf_434 : decode cX12_statementOf 434 = .ok (.ireturn, 1) := by decide +kernel
theorem dX12_statementOf_255 : decode cX12_statementOf 255 = .ok (.aload_n 0, 1) := by decide +kernel
theorem dX12_statementOf_256 : decode cX12_statementOf 256 = .ok (.dup, 1) := by decide +kernel
theorem dX12_statementOf_257 : decode cX12_statementOf 257 = .ok (.getfield 343, 3) := by decide +kernel
theorem dX12_statementOf_260 : decode cX12_statementOf 260 = .ok (.iconst 1, 1) := by decide +kernel
theorem dX12_statementOf_261 : decode cX12_statementOf 261 = .ok (.iadd, 1) := by decide +kernel
theorem dX12_statementOf_262 : decode cX12_statementOf 262 = .ok (.putfield 343, 3) := by decide +kernel
theorem dX12_statementOf_265 : decode cX12_statementOf 265 = .ok (.aload_n 0, 1) := by decide +kernel
theorem dX12_statementOf_266 : decode cX12_statementOf 266 = .ok (.bipush 37, 2) := by decide +kernel
theorem dX12_statementOf_268 : decode cX12_statementOf 268 = .ok (.iload_n 1, 1) := by decide +kernel
theorem dX12_statementOf_269 : decode cX12_statementOf 269 = .ok (.iload_n 1, 1) := by decide +kernel
theorem dX12_statementOf_270 : decode cX12_statementOf 270 = .ok (.iconst (-1), 1) := by decide +kernel
theorem dX12_statementOf_271 : decode cX12_statementOf 271 = .ok (.iconst (-1), 1) := by decide +kernel
theorem dX12_statementOf_272 : decode cX12_statementOf 272 = .ok (.invokevirtual 428, 3) := by decide +kernel
theorem dX12_statementOf_275 : decode cX12_statementOf 275 = .ok (.istore_n 2, 1) := by decide +kernel
theorem dX12_statementOf_276 : decode cX12_statementOf 276 = .ok (.aload_n 0, 1) := by decide +kernel
theorem dX12_statementOf_277 : decode cX12_statementOf 277 = .ok (.getfield 350, 3) := by decide +kernel
theorem dX12_statementOf_280 : decode cX12_statementOf 280 = .ok (.ifCond .ne 22, 3) := by decide +kernel
theorem dX12_statementOf_283 : decode cX12_statementOf 283 = .ok (.aload_n 0, 1) := by decide +kernel
theorem dX12_statementOf_284 : decode cX12_statementOf 284 = .ok (.invokevirtual 381, 3) := by decide +kernel
theorem dX12_statementOf_287 : decode cX12_statementOf 287 = .ok (.bipush 59, 2) := by decide +kernel
theorem dX12_statementOf_289 : decode cX12_statementOf 289 = .ok (.if_icmp .eq 13, 3) := by decide +kernel
theorem dX12_statementOf_302 : decode cX12_statementOf 302 = .ok (.aload_n 0, 1) := by decide +kernel
theorem dX12_statementOf_303 : decode cX12_statementOf 303 = .ok (.bipush 59, 2) := by decide +kernel
theorem dX12_statementOf_305 : decode cX12_statementOf 305 = .ok (.invokevirtual 369, 3) := by decide +kernel
theorem dX12_statementOf_308 : decode cX12_statementOf 308 = .ok (.iload_n 2, 1) := by decide +kernel
theorem dX12_statementOf_309 : decode cX12_statementOf 309 = .ok (.ireturn, 1) := by decide +kernel
theorem dX12_statementOf_292 : decode cX12_statementOf 292 = .ok (.aload_n 0, 1) := by decide +kernel
theorem dX12_statementOf_293 : decode cX12_statementOf 293 = .ok (.getfield 47, 3) := by decide +kernel
theorem dX12_statementOf_296 : decode cX12_statementOf 296 = .ok (.iload_n 2, 1) := by decide +kernel
theorem dX12_statementOf_297 : decode cX12_statementOf 297 = .ok (.aload_n 0, 1) := by decide +kernel
theorem dX12_statementOf_298 : decode cX12_statementOf 298 = .ok (.invokevirtual 447, 3) := by decide +kernel
theorem dX12_statementOf_301 : decode cX12_statementOf 301 = .ok (.iastore, 1) := by decide +kernel
theorem dX12_statementOf_354 : decode cX12_statementOf 354 = .ok (.aload_n 0, 1) := by decide +kernel
theorem dX12_statementOf_355 : decode cX12_statementOf 355 = .ok (.dup, 1) := by decide +kernel
theorem dX12_statementOf_356 : decode cX12_statementOf 356 = .ok (.getfield 343, 3) := by decide +kernel
theorem dX12_statementOf_359 : decode cX12_statementOf 359 = .ok (.iconst 1, 1) := by decide +kernel
theorem dX12_statementOf_360 : decode cX12_statementOf 360 = .ok (.iadd, 1) := by decide +kernel
theorem dX12_statementOf_361 : decode cX12_statementOf 361 = .ok (.putfield 343, 3) := by decide +kernel
theorem dX12_statementOf_364 : decode cX12_statementOf 364 = .ok (.aload_n 0, 1) := by decide +kernel
theorem dX12_statementOf_365 : decode cX12_statementOf 365 = .ok (.bipush 40, 2) := by decide +kernel
theorem dX12_statementOf_367 : decode cX12_statementOf 367 = .ok (.iload_n 1, 1) := by decide +kernel
theorem dX12_statementOf_368 : decode cX12_statementOf 368 = .ok (.iload_n 1, 1) := by decide +kernel
theorem dX12_statementOf_369 : decode cX12_statementOf 369 = .ok (.aload_n 0, 1) := by decide +kernel
theorem dX12_statementOf_370 : decode cX12_statementOf 370 = .ok (.invokevirtual 447, 3) := by decide +kernel
theorem dX12_statementOf_373 : decode cX12_statementOf 373 = .ok (.iconst (-1), 1) := by decide +kernel
theorem dX12_statementOf_374 : decode cX12_statementOf 374 = .ok (.invokevirtual 428, 3) := by decide +kernel
theorem dX12_statementOf_377 : decode cX12_statementOf 377 = .ok (.istore_n 2, 1) := by decide +kernel
theorem dX12_statementOf_378 : decode cX12_statementOf 378 = .ok (.aload_n 0, 1) := by decide +kernel
theorem dX12_statementOf_379 : decode cX12_statementOf 379 = .ok (.bipush 59, 2) := by decide +kernel
theorem dX12_statementOf_381 : decode cX12_statementOf 381 = .ok (.invokevirtual 369, 3) := by decide +kernel
theorem dX12_statementOf_384 : decode cX12_statementOf 384 = .ok (.iload_n 2, 1) := by decide +kernel
theorem dX12_statementOf_385 : decode cX12_statementOf 385 = .ok (.ireturn, 1) := by decide +kernel
theorem dX12_statementOf_386 : decode cX12_statementOf 386 = .ok (.aload_n 0, 1) := by decide +kernel
theorem dX12_statementOf_387 : decode cX12_statementOf 387 = .ok (.invokevirtual 462, 3) := by decide +kernel
theorem dX12_statementOf_390 : decode cX12_statementOf 390 = .ok (.ireturn, 1) := by decide +kernel
theorem dX12_statementOf_202 : decode cX12_statementOf 202 = .ok (.aload_n 0, 1) := by decide +kernel
theorem dX12_statementOf_203 : decode cX12_statementOf 203 = .ok (.dup, 1) := by decide +kernel
theorem dX12_statementOf_204 : decode cX12_statementOf 204 = .ok (.getfield 343, 3) := by decide +kernel
theorem dX12_statementOf_207 : decode cX12_statementOf 207 = .ok (.iconst 1, 1) := by decide +kernel
theorem dX12_statementOf_208 : decode cX12_statementOf 208 = .ok (.iadd, 1) := by decide +kernel
theorem dX12_statementOf_209 : decode cX12_statementOf 209 = .ok (.putfield 343, 3) := by decide +kernel
theorem dX12_statementOf_212 : decode cX12_statementOf 212 = .ok (.aload_n 0, 1) := by decide +kernel
theorem dX12_statementOf_213 : decode cX12_statementOf 213 = .ok (.bipush 40, 2) := by decide +kernel
theorem dX12_statementOf_215 : decode cX12_statementOf 215 = .ok (.invokevirtual 369, 3) := by decide +kernel
theorem dX12_statementOf_218 : decode cX12_statementOf 218 = .ok (.aload_n 0, 1) := by decide +kernel
theorem dX12_statementOf_219 : decode cX12_statementOf 219 = .ok (.bipush 35, 2) := by decide +kernel
theorem dX12_statementOf_221 : decode cX12_statementOf 221 = .ok (.iload_n 1, 1) := by decide +kernel
theorem dX12_statementOf_222 : decode cX12_statementOf 222 = .ok (.iload_n 1, 1) := by decide +kernel
theorem dX12_statementOf_223 : decode cX12_statementOf 223 = .ok (.aload_n 0, 1) := by decide +kernel
theorem dX12_statementOf_224 : decode cX12_statementOf 224 = .ok (.invokevirtual 447, 3) := by decide +kernel
theorem dX12_statementOf_227 : decode cX12_statementOf 227 = .ok (.iconst (-1), 1) := by decide +kernel
theorem dX12_statementOf_228 : decode cX12_statementOf 228 = .ok (.invokevirtual 428, 3) := by decide +kernel
theorem dX12_statementOf_231 : decode cX12_statementOf 231 = .ok (.istore_n 2, 1) := by decide +kernel
theorem dX12_statementOf_232 : decode cX12_statementOf 232 = .ok (.aload_n 0, 1) := by decide +kernel
theorem dX12_statementOf_233 : decode cX12_statementOf 233 = .ok (.bipush 41, 2) := by decide +kernel
theorem dX12_statementOf_235 : decode cX12_statementOf 235 = .ok (.invokevirtual 369, 3) := by decide +kernel
theorem dX12_statementOf_238 : decode cX12_statementOf 238 = .ok (.aload_n 0, 1) := by decide +kernel
theorem dX12_statementOf_239 : decode cX12_statementOf 239 = .ok (.getfield 50, 3) := by decide +kernel
theorem dX12_statementOf_242 : decode cX12_statementOf 242 = .ok (.iload_n 2, 1) := by decide +kernel
theorem dX12_statementOf_243 : decode cX12_statementOf 243 = .ok (.aload_n 0, 1) := by decide +kernel
theorem dX12_statementOf_244 : decode cX12_statementOf 244 = .ok (.invokevirtual 438, 3) := by decide +kernel
theorem dX12_statementOf_247 : decode cX12_statementOf 247 = .ok (.iastore, 1) := by decide +kernel
theorem dX12_statementOf_248 : decode cX12_statementOf 248 = .ok (.iload_n 2, 1) := by decide +kernel
theorem dX12_statementOf_249 : decode cX12_statementOf 249 = .ok (.ireturn, 1) := by decide +kernel
theorem dX12_statementOf_435 : decode cX12_statementOf 435 = .ok (.aload_n 0, 1) := by decide +kernel
theorem dX12_statementOf_436 : decode cX12_statementOf 436 = .ok (.iconst 1, 1) := by decide +kernel
theorem dX12_statementOf_437 : decode cX12_statementOf 437 = .ok (.invokevirtual 465, 3) := by decide +kernel
theorem dX12_statementOf_440 : decode cX12_statementOf 440 = .ok (.istore_n 2, 1) := by decide +kernel
theorem dX12_statementOf_441 : decode cX12_statementOf 441 = .ok (.aload_n 0, 1) := by decide +kernel
theorem dX12_statementOf_442 : decode cX12_statementOf 442 = .ok (.bipush 59, 2) := by decide +kernel
theorem dX12_statementOf_444 : decode cX12_statementOf 444 = .ok (.invokevirtual 369, 3) := by decide +kernel
theorem dX12_statementOf_447 : decode cX12_statementOf 447 = .ok (.iload_n 2, 1) := by decide +kernel
theorem dX12_statementOf_448 : decode cX12_statementOf 448 = .ok (.ireturn, 1) := by decide +kernel
set_option maxHeartbeats 2000000 in
set_option maxRecDepth 100000 in
/-- statementOf(), no fault ahead -/
theorem RT_statementOf (l : Launch) (G : pT) (h0 : Nat) (a : Nat → Nat) (F : Nat → Int32) (B : Nat → Nat → Int32) (at0 : Nat) (T : Nat) (n : Nat) (ne : Nat) (nd : Nat) (wr : Nat) (lk : Nat) (K : Nat → Int32) (hat : at0 ≤ T) (hT : T ≤ 5000) (hK : K T = 0 ∨ K T = 3) (hne : ne ≤ 20) (hnd : nd ≤ 2 * at0) (hwr : wr ≤ at0) (hlk : lk ≤ 60) (hy : tkRow (B 19) wr T) (hn : 21 ≤ n + ne) (hEc : Pchoice l G n) (hSt : Pstatement l G n) (hS1 : Psimple1 l G n) (hBk : Pblock l G n) (hLo : Ploop l G n) (hTr : Pattempt l G n) : PM l G pX0 yX12_statementOf cX12_statementOf 3 (some .int) ({ frames := (26 * n + 44), cells := 0, slots := 0, locals := (2000 * n + 4400) }) [.ref h0] (mW G h0 a (upd (upd (upd (upd (upd (upd F 15 0) 27 (nI nd)) 31 (nI wr)) 64 (nI at0)) 65 (nI ne)) 66 (nI lk)) (updA B 2 K)) (fun (v : Option Value) (u : Nat × Nat × Int32 × Nat × Nat × Nat × Nat × (Nat → Nat → Int32)) => v = some (.int (nI u.2.2.2.2.2.2.1)) ∧ (at0 ≤ u.1) ∧ (u.1 ≤ T) ∧ (u.2.1 ≤ 100) ∧ (nd ≤ u.2.2.2.1) ∧ (u.2.2.2.1 + 2 * at0 ≤ nd + 2 * u.1 + 100000 * u.2.1) ∧ (u.2.2.2.1 + 2 * at0 ≤ nd + 2 * u.1 + (60 * (21 - ne) + 40)) ∧ (wr ≤ u.2.2.2.2.2.1) ∧ (u.2.2.2.2.2.1 + at0 ≤ wr + u.1) ∧ (lk ≤ u.2.2.2.2.1) ∧ (u.2.2.2.2.1 ≤ 60 + 100 * u.2.1) ∧ (at0 + 1 ≤ u.1 + u.2.1) ∧ (u.2.2.2.2.2.2.1 ≤ u.2.2.2.1) ∧ (Kp B u.2.2.2.2.2.2.2 u.2.2.2.2.2.1 T) ∧ (If (u.2.1 = 0) (Low B u.2.2.2.2.2.2.2 nd wr ∧ Frs K T u.2.2.2.2.2.1 u.2.2.2.2.2.2.2 nd u.2.2.2.1 20000 [(u.2.2.2.2.2.2.1, (280 + 4 * (21 - ne)))] ∧ kcl 3 (u.2.2.2.2.2.2.2 9 u.2.2.2.2.2.2.1) = true))) (fun u => (mW G h0 a (upd (upd (upd (upd (upd (upd (upd F 15 (nI u.2.1)) 16 u.2.2.1) 27 (nI u.2.2.2.1)) 31 (nI u.2.2.2.2.2.1)) 64 (nI u.1)) 65 (nI ne)) 66 (nI u.2.2.2.2.1)) (updA u.2.2.2.2.2.2.2 2 K))) := by
  intro sz
  refine Met.ofW (cc := cX12_statementOf) (maxL := 3) (ret := (some .int)) (by decide) rfl ?_
  intro p e s m args below meth c s₁ B9 hml hv
  obtain ⟨rfl, hsz, hP, hD0, hE, hX⟩ := hv
  have hx := B9.exec
  have hb := B9.bytes
  have hr := B9.returns
  have hts := atoms_spec (ws := Cond.code yX12_statementOf cX12_statementOf 3 (some .int) :: pw) B9.pre
  have hq : ∀ w ∈ pw, w.before _ s = true := fun w h => hts w (List.mem_cons_of_mem _ h)
  have hown : s.vm.findClass RX12 = some m.cls := findClass_of_methodNamed B9.named
  have hlocks := B9.notSynchronized
  subst hsz
  have hD := hD0.self (sz := s.heap.size)
  have hA : ∀ q : Nat, s.heap.size ≤ q → va_A (mW G h0 a (upd (upd (upd (upd (upd (upd F 15 0) 27 (nI nd)) 31 (nI wr)) 64 (nI at0)) 65 (nI ne)) 66 (nI lk)) (updA B 2 K)) s.heap.size q := fun q h => Or.inr h
  have hP : va_P G.1 pCl (mW G h0 a (upd (upd (upd (upd (upd (upd F 15 0) 27 (nI nd)) 31 (nI wr)) 64 (nI at0)) 65 (nI ne)) 66 (nI lk)) (updA B 2 K)) s.heap := hP
  generalize va_A (mW G h0 a (upd (upd (upd (upd (upd (upd F 15 0) 27 (nI nd)) 31 (nI wr)) 64 (nI at0)) 65 (nI ne)) 66 (nI lk)) (updA B 2 K)) s.heap.size = A at hD hE hA ⊢
  have hS : va_S A s.heap s.heap [] := va_S.rf
  have hl := lv_entry ([.ref h0]) (n := 3) (Nat.le_of_ble_eq_true rfl)
  rw [lg_entry_eq]
  generalize (lg_sl ([.ref h0]) ++ List.replicate (3 - (lg_sl ([.ref h0])).length) Slot.unset).toArray = ls at hl ⊢
  have hl : lv_has ls 3 [(0, .ref h0)] := hl
  have hkp1 : Kp B B wr T := Kp.rfl hy
  have hlo2 : Low B B nd wr := Low.rfl
  refine lv_aload_n hx hb dX12_statementOf_0 rfl (lv_at hl 0 rfl) ?_
  refine r_get (v := .int (nI at0)) hx hb hown hq hE hP 64 343 tFX12_64 (by decide) pw_1592 rfl dX12_statementOf_1 ?_
  refine lv_istore_n (lv' := [(1, .int (nI at0)), (0, .ref h0)]) hx hb dX12_statementOf_4 rfl hl (by decide) rfl (fun ls hl => ?_)
  refine lv_aload_n hx hb dX12_statementOf_5 rfl (lv_at hl 1 rfl) ?_
  have hP : va_P G.1 pCl (mW G h0 a (upd (upd (upd (upd (upd (upd (upd (upd F 15 0) 27 (nI nd)) 31 (nI wr)) 64 (nI at0)) 65 (nI ne)) 66 (nI lk)) 15 (nI 0)) 64 (nI at0)) (updA (updA B 2 K) 2 K)) _ := mW_to (F := F) (l1 := [(15, 0), (27, (nI nd)), (31, (nI wr)), (64, (nI at0)), (65, (nI ne)), (66, (nI lk))]) (l2 := [(15, 0), (27, (nI nd)), (31, (nI wr)), (64, (nI at0)), (65, (nI ne)), (66, (nI lk)), (15, (nI 0)), (64, (nI at0))]) (V := [(nI 0), (nI nd), (nI wr), (nI at0), (nI ne), (nI lk), (nI 0), (nI nd), (nI wr), (nI at0), (nI ne), (nI lk), (nI 0), (nI at0)]) rfl rfl (show (updA B 2 K) = (updA (updA B 2 K) 2 K) from updsA_eq2 (F := B) (l1 := [(2, K)]) (l2 := [(2, K), (2, K)]) (V := [K, K, K]) rfl rfl) hP
  have hD : va_D A (mW G h0 a (upd (upd (upd (upd (upd (upd (upd (upd F 15 0) 27 (nI nd)) 31 (nI wr)) 64 (nI at0)) 65 (nI ne)) 66 (nI lk)) 15 (nI 0)) 64 (nI at0)) (updA (updA B 2 K) 2 K)) := mW_D hD
  refine pc_V0 (G := G) (As := []) (rest := []) hx hb hml hown hq hE hX pX0_al hP hD hS hA hl.1 (R_kind l G h0 a (upd (upd (upd (upd (upd (upd F 15 0) 27 (nI nd)) 31 (nI wr)) 64 (nI at0)) 65 (nI ne)) 66 (nI lk)) (updA B 2 K) at0 T 0 K (by omega) (by omega) hK (by omega)) (gV pw_1626 pw_1627 pw_1628 pw_1523 pw_1591) hV_X12_kind 0 9 rfl rfl rfl rfl (Nat.le_of_ble_eq_true rfl) dX12_statementOf_6 ⟨Nat.le_of_ble_eq_true rfl, Nat.le_of_ble_eq_true rfl⟩ ⟨(by show 2 + 1 ≤ (26 * n + 44); omega), (by show 8 + (1 + 11) + 60 ≤ (2000 * n + 4400); omega)⟩ (fun v5 u3 H locs hw4 hP hD hS => ?_)
  obtain rfl : v5 = some (.int (K at0)) := hw4
  have hP : va_P G.1 pCl (mW G h0 a (upd (upd (upd (upd (upd (upd F 15 0) 27 (nI nd)) 31 (nI wr)) 64 (nI at0)) 65 (nI ne)) 66 (nI lk)) (updA B 2 K)) _ := mW_to (F := F) (l1 := [(15, 0), (27, (nI nd)), (31, (nI wr)), (64, (nI at0)), (65, (nI ne)), (66, (nI lk)), (15, (nI 0)), (64, (nI at0))]) (l2 := [(15, 0), (27, (nI nd)), (31, (nI wr)), (64, (nI at0)), (65, (nI ne)), (66, (nI lk))]) (V := [0, (nI nd), (nI wr), (nI at0), (nI ne), (nI lk), 0, (nI at0), 0, (nI nd), (nI wr), (nI at0), (nI ne), (nI lk)]) rfl rfl (show (updA (updA B 2 K) 2 K) = (updA B 2 K) from updsA_eq2 (F := B) (l1 := [(2, K), (2, K)]) (l2 := [(2, K)]) (V := [K, K, K]) rfl rfl) hP
  have hD : va_D A (mW G h0 a (upd (upd (upd (upd (upd (upd F 15 0) 27 (nI nd)) 31 (nI wr)) 64 (nI at0)) 65 (nI ne)) 66 (nI lk)) (updA B 2 K)) := mW_D hD
  refine W.widen (k := 0) (n := 0) (Nat.le_of_ble_eq_true rfl) (Nat.le_of_ble_eq_true rfl) ?_
  refine W.eq (g2 := F0 m 9 ls [.int (K at0)]) rfl ?_
  by_cases h6 : (K at0) = 59
  · refine lv_lookup (tgt := 113) (off := 104) hx hb dX12_statementOf_9 (by decide) (by rw [h6]; decide) (by decide) ?_
    have n7 : at0 < T := tk_lt hat hK h6 (by decide) (by decide)
    refine lv_aload_n hx hb dX12_statementOf_113 rfl (lv_at hl 1 rfl) ?_
    refine lv_dup hx hb dX12_statementOf_114 rfl ?_
    refine r_get (v := .int (nI at0)) hx hb hown hq hE hP 64 343 tFX12_64 (by decide) pw_1592 rfl dX12_statementOf_115 ?_
    refine lv_iconst (v := 1) hx hb dX12_statementOf_118 (by decide) ?_
    refine lv_iadd hx hb dX12_statementOf_119 ?_
    refine lv_topi (fun x8 e9 => ?_)
    obtain rfl : x8 = nI (at0 + 1) := e9.trans (nI_add (at0) (1))
    refine r_put (v := (nI (at0 + 1))) (ty := .int) hx hb hown hq hE hP hD hS 64 343 tFX12_64 (by decide) pw_1592 (by decide) rfl rfl (ms_64 a _ _) dX12_statementOf_120 (fun H locs hP hD hS => ?_)
    refine lv_aload_n hx hb dX12_statementOf_123 rfl (lv_at hl 1 rfl) ?_
    refine lv_bipush (v := 43) hx hb dX12_statementOf_124 (by decide) ?_
    refine lv_iload_n hx hb dX12_statementOf_126 rfl (lv_at hl 0 rfl) ?_
    refine lv_iload_n hx hb dX12_statementOf_127 rfl (lv_at hl 0 rfl) ?_
    refine lv_iconst (v := (-1)) hx hb dX12_statementOf_128 (by decide) ?_
    refine lv_iconst (v := (-1)) hx hb dX12_statementOf_129 (by decide) ?_
    have hP : va_P G.1 pCl (mW G h0 a (upd (upd (upd (upd (upd (upd (upd F 15 0) 27 (nI nd)) 31 (nI wr)) 64 (nI (at0 + 1))) 65 (nI ne)) 66 (nI lk)) 27 (nI nd)) (updA B 2 K)) _ := mW_to (F := F) (l1 := [(15, 0), (27, (nI nd)), (31, (nI wr)), (64, (nI at0)), (65, (nI ne)), (66, (nI lk)), (64, (nI (at0 + 1)))]) (l2 := [(15, 0), (27, (nI nd)), (31, (nI wr)), (64, (nI (at0 + 1))), (65, (nI ne)), (66, (nI lk)), (27, (nI nd))]) (V := [0, (nI nd), (nI wr), (nI (at0 + 1)), (nI ne), (nI lk), (nI (at0 + 1)), 0, (nI nd), (nI wr), (nI (at0 + 1)), (nI ne), (nI lk), (nI nd)]) rfl rfl rfl hP
    have hD : va_D A (mW G h0 a (upd (upd (upd (upd (upd (upd (upd F 15 0) 27 (nI nd)) 31 (nI wr)) 64 (nI (at0 + 1))) 65 (nI ne)) 66 (nI lk)) 27 (nI nd)) (updA B 2 K)) := mW_D hD
    refine pc_V0 (G := G) (As := [.int 43, .int (nI at0), .int (nI at0), .int (-1), .int (-1)]) (rest := []) hx hb hml hown hq hE hX pX0_al hP hD hS hA hl.1 (R_nodeB l G h0 a (upd (upd (upd (upd (upd (upd F 15 0) 27 (nI nd)) 31 (nI wr)) 64 (nI (at0 + 1))) 65 (nI ne)) 66 (nI lk)) B 43 (nI at0) (nI at0) (-1) (-1) nd K (by omega)) (gV pw_1650 pw_1651 pw_1652 pw_1523 pw_1589) hV_X12_node 0 9 rfl rfl rfl rfl (Nat.le_of_ble_eq_true rfl) dX12_statementOf_130 ⟨Nat.le_of_ble_eq_true rfl, Nat.le_of_ble_eq_true rfl⟩ ⟨(by show 2 + 1 ≤ (26 * n + 44); omega), (by show 8 + (7 + 11) + 60 ≤ (2000 * n + 4400); omega)⟩ (fun v12 u10 H locs hw11 hP hD hS => ?_)
    obtain ⟨X13, rfl⟩ : ∃ z, z = u10 := ⟨_, rfl⟩
    obtain ⟨hw11, h14⟩ := hw11
    have h14 : NewN B X13 nd 43 (nI at0) (nI at0) (-1) (-1) := h14
    obtain rfl : v12 = some (.int (nI nd)) := hw11
    have hP : va_P G.1 pCl (mW G h0 a (upd (upd (upd (upd (upd (upd F 15 0) 27 (nI (nd + 1))) 31 (nI wr)) 64 (nI (at0 + 1))) 65 (nI ne)) 66 (nI lk)) (updA X13 2 K)) _ := mW_to (F := F) (l1 := [(15, 0), (27, (nI nd)), (31, (nI wr)), (64, (nI (at0 + 1))), (65, (nI ne)), (66, (nI lk)), (27, (nI (nd + 1)))]) (l2 := [(15, 0), (27, (nI (nd + 1))), (31, (nI wr)), (64, (nI (at0 + 1))), (65, (nI ne)), (66, (nI lk))]) (V := [0, (nI (nd + 1)), (nI wr), (nI (at0 + 1)), (nI ne), (nI lk), (nI (nd + 1)), 0, (nI (nd + 1)), (nI wr), (nI (at0 + 1)), (nI ne), (nI lk)]) rfl rfl rfl hP
    have hD : va_D A (mW G h0 a (upd (upd (upd (upd (upd (upd F 15 0) 27 (nI (nd + 1))) 31 (nI wr)) 64 (nI (at0 + 1))) 65 (nI ne)) 66 (nI lk)) (updA X13 2 K)) := mW_D hD
    refine W.widen (k := 0) (n := 0) (Nat.le_of_ble_eq_true rfl) (Nat.le_of_ble_eq_true rfl) ?_
    refine W.eq (g2 := F0 m 133 ls [.int (nI nd)]) rfl ?_
    have hkp15 : Kp B X13 wr T := (Kp.new hkp1 h14)
    have hlo16 : Low B X13 nd wr := (Low.new hlo2 h14 (by omega))
    have hf17 : Frs K T wr X13 nd (nd + 1) nd [(nd, 0)] := (Frs.new0 (k := 43) Frs.nil (Nat.le_refl _) (Nat.le_refl _) h14 rfl (by decide) (by decide) (by omega) (by omega) (fun e => absurd e (by decide)) (newOK.m1 (by decide)) (newOK.m1 (by decide)) (newOK.m1 (by decide)) (newOK.m1 (by decide)))
    have hn18 : Nd X13 nd 43 (-1) (-1) (-1) (-1) := (NewN.toNd h14)
    have hf19 : Frs K T wr X13 nd (nd + 1) 20000 [(nd, 0)] := (Frs.fin (k := 43) hf17 hn18 rfl (by decide) (fun h => absurd h (by decide)) (fun h => absurd h (by decide)) (fun h => absurd h (by decide)) (fun h => absurd h (by decide)))
    have hz20 : at0 ≤ (at0 + 1) := (by omega)
    have hz21 : (at0 + 1) ≤ T := (by omega)
    have hz22 : 0 ≤ 100 := (by omega)
    have hz23 : nd ≤ (nd + 1) := (by omega)
    have hz24 : (nd + 1) + 2 * at0 ≤ nd + 2 * (at0 + 1) + 100000 * 0 := (by omega)
    have hz25 : (nd + 1) + 2 * at0 ≤ nd + 2 * (at0 + 1) + (60 * (21 - ne) + 40) := (by omega)
    have hz26 : wr ≤ wr := (by omega)
    have hz27 : wr + at0 ≤ wr + (at0 + 1) := (by omega)
    have hz28 : lk ≤ lk := (by omega)
    have hz29 : lk ≤ 60 + 100 * 0 := (by omega)
    have hz30 : at0 + 1 ≤ (at0 + 1) + 0 := (by omega)
    have hz31 : nd ≤ (nd + 1) := (by omega)
    have hz32 : Kp B X13 wr T := hkp15
    have hz33 : If (0 = 0) (Low B X13 nd wr ∧ Frs K T wr X13 nd (nd + 1) 20000 [(nd, (280 + 4 * (21 - ne)))] ∧ kcl 3 (X13 9 nd) = true) := (fun _ => ⟨hlo16, Frs.up hf19 (by omega), (by rw [hn18.1]; decide)⟩)
    have hP : va_P G.1 pCl (mW G h0 a (upd (upd (upd (upd (upd (upd (upd F 15 (nI 0)) 16 (F 16)) 27 (nI (nd + 1))) 31 (nI wr)) 64 (nI (at0 + 1))) 65 (nI ne)) 66 (nI lk)) (updA X13 2 K)) _ := mW_to (F := F) (l1 := [(15, 0), (27, (nI (nd + 1))), (31, (nI wr)), (64, (nI (at0 + 1))), (65, (nI ne)), (66, (nI lk))]) (l2 := [(15, (nI 0)), (16, (F 16)), (27, (nI (nd + 1))), (31, (nI wr)), (64, (nI (at0 + 1))), (65, (nI ne)), (66, (nI lk))]) (V := [(nI 0), (nI (nd + 1)), (nI wr), (nI (at0 + 1)), (nI ne), (nI lk), (nI 0), (F 16), (nI (nd + 1)), (nI wr), (nI (at0 + 1)), (nI ne), (nI lk)]) rfl rfl rfl hP
    have hD : va_D A (mW G h0 a (upd (upd (upd (upd (upd (upd (upd F 15 (nI 0)) 16 (F 16)) 27 (nI (nd + 1))) 31 (nI wr)) 64 (nI (at0 + 1))) 65 (nI ne)) 66 (nI lk)) (updA X13 2 K)) := mW_D hD
    exact W.iret (v := (nI nd)) hx hb hr (fun t9 ht9 hW9 => ⟨⟨_, ((at0 + 1), 0, (F 16), (nd + 1), lk, wr, nd, X13), rfl, ⟨rfl, hz20, hz21, hz22, hz23, hz24, hz25, hz26, hz27, hz28, hz29, hz30, hz31, hz32, hz33⟩, by rw [ht9]; exact hP, hD⟩, hS.F ht9⟩) hS.2.2 dX12_statementOf_133
  by_cases h34 : (K at0) = 123
  · refine lv_lookup (tgt := 108) (off := 99) hx hb dX12_statementOf_9 (by decide) (by rw [h34]; decide) (by decide) ?_
    have n35 : at0 < T := tk_lt hat hK h34 (by decide) (by decide)
    refine lv_aload_n hx hb dX12_statementOf_108 rfl (lv_at hl 1 rfl) ?_
    have hP : va_P G.1 pCl (mW G h0 a (upd (upd (upd (upd (upd (upd (upd (upd (upd (upd (upd (upd F 15 0) 27 (nI nd)) 31 (nI wr)) 64 (nI at0)) 65 (nI ne)) 66 (nI lk)) 15 0) 27 (nI nd)) 31 (nI wr)) 64 (nI at0)) 65 (nI ne)) 66 (nI lk)) (updA B 2 K)) _ := mW_to (F := F) (l1 := [(15, 0), (27, (nI nd)), (31, (nI wr)), (64, (nI at0)), (65, (nI ne)), (66, (nI lk))]) (l2 := [(15, 0), (27, (nI nd)), (31, (nI wr)), (64, (nI at0)), (65, (nI ne)), (66, (nI lk)), (15, 0), (27, (nI nd)), (31, (nI wr)), (64, (nI at0)), (65, (nI ne)), (66, (nI lk))]) (V := [0, (nI nd), (nI wr), (nI at0), (nI ne), (nI lk), 0, (nI nd), (nI wr), (nI at0), (nI ne), (nI lk), 0, (nI nd), (nI wr), (nI at0), (nI ne), (nI lk)]) rfl rfl rfl hP
    have hD : va_D A (mW G h0 a (upd (upd (upd (upd (upd (upd (upd (upd (upd (upd (upd (upd F 15 0) 27 (nI nd)) 31 (nI wr)) 64 (nI at0)) 65 (nI ne)) 66 (nI lk)) 15 0) 27 (nI nd)) 31 (nI wr)) 64 (nI at0)) 65 (nI ne)) 66 (nI lk)) (updA B 2 K)) := mW_D hD
    refine pc_V0 (G := G) (As := []) (rest := []) hx hb hml hown hq hE hX pX0_al hP hD hS hA hl.1 (hBk h0 a (upd (upd (upd (upd (upd (upd F 15 0) 27 (nI nd)) 31 (nI wr)) 64 (nI at0)) 65 (nI ne)) 66 (nI lk)) B at0 T ne nd wr lk K (by omega) (by omega) hK (by omega) (by omega) (by omega) (by omega) (hkp1).2 (by omega)) (gV pw_1685 pw_1686 pw_1687 pw_1523 pw_1688) hV_X12_block 0 9 rfl rfl rfl rfl (Nat.le_of_ble_eq_true rfl) dX12_statementOf_109 ⟨Nat.le_of_ble_eq_true rfl, Nat.le_of_ble_eq_true rfl⟩ ⟨(by show (26 * n + 42) + 1 ≤ (26 * n + 44); omega), (by show 8 + (4 + 11) + (2000 * n + 4200) ≤ (2000 * n + 4400); omega)⟩ (fun v38 u36 H locs hw37 hP hD hS => ?_)
    obtain ⟨at39, fa40, pl41, nd42, lk43, wr44, r45, X46⟩ := u36
    obtain ⟨hw37, h47, h48, h49, h50, h51, h52, h53, h54, h55, h56, h57, h58, h59, h60⟩ := hw37
    have h47 : at0 ≤ at39 := h47
    have h48 : at39 ≤ T := h48
    have h49 : fa40 ≤ 100 := h49
    have h50 : nd ≤ nd42 := h50
    have h51 : nd42 + 2 * at0 ≤ nd + 2 * at39 + 100000 * fa40 := h51
    have h52 : nd42 + 2 * at0 ≤ nd + 2 * at39 + (60 * (20 - ne) + 50) := h52
    have h53 : wr ≤ wr44 := h53
    have h54 : wr44 + at0 ≤ wr + at39 := h54
    have h55 : lk ≤ lk43 := h55
    have h56 : lk43 ≤ lk := h56
    have h57 : at0 + 1 ≤ at39 + fa40 := h57
    have h58 : r45 ≤ nd42 := h58
    have h59 : Kp B X46 wr44 T := h59
    have h60 : If (fa40 = 0) (Low B X46 nd wr ∧ Frs K T wr44 X46 nd nd42 20000 [(r45, (281 + 4 * (20 - ne)))] ∧ kcl 10 (X46 9 r45) = true) := h60
    obtain rfl : v38 = some (.int (nI r45)) := hw37
    have hP : va_P G.1 pCl (mW G h0 a (upd (upd (upd (upd (upd (upd (upd F 15 (nI fa40)) 16 pl41) 27 (nI nd42)) 31 (nI wr44)) 64 (nI at39)) 65 (nI ne)) 66 (nI lk43)) (updA X46 2 K)) _ := mW_to (F := F) (l1 := [(15, 0), (27, (nI nd)), (31, (nI wr)), (64, (nI at0)), (65, (nI ne)), (66, (nI lk)), (15, (nI fa40)), (16, pl41), (27, (nI nd42)), (31, (nI wr44)), (64, (nI at39)), (65, (nI ne)), (66, (nI lk43))]) (l2 := [(15, (nI fa40)), (16, pl41), (27, (nI nd42)), (31, (nI wr44)), (64, (nI at39)), (65, (nI ne)), (66, (nI lk43))]) (V := [(nI fa40), (nI nd42), (nI wr44), (nI at39), (nI ne), (nI lk43), (nI fa40), pl41, (nI nd42), (nI wr44), (nI at39), (nI ne), (nI lk43), (nI fa40), pl41, (nI nd42), (nI wr44), (nI at39), (nI ne), (nI lk43)]) rfl rfl rfl hP
    have hD : va_D A (mW G h0 a (upd (upd (upd (upd (upd (upd (upd F 15 (nI fa40)) 16 pl41) 27 (nI nd42)) 31 (nI wr44)) 64 (nI at39)) 65 (nI ne)) 66 (nI lk43)) (updA X46 2 K)) := mW_D hD
    refine W.widen (k := 0) (n := 0) (Nat.le_of_ble_eq_true rfl) (Nat.le_of_ble_eq_true rfl) ?_
    refine W.eq (g2 := F0 m 112 ls [.int (nI r45)]) rfl ?_
    have hkp61 : Kp B X46 wr44 T := (Kp.trans hkp1 h59)
    rcases Nat.eq_zero_or_pos fa40 with e62 | e62
    · subst e62
      have hP : va_P G.1 pCl (mW G h0 a (upd (upd (upd (upd (upd (upd (upd F 15 0) 16 pl41) 27 (nI nd42)) 31 (nI wr44)) 64 (nI at39)) 65 (nI ne)) 66 (nI lk43)) (updA X46 2 K)) _ := hP
      have hD : va_D A (mW G h0 a (upd (upd (upd (upd (upd (upd (upd F 15 0) 16 pl41) 27 (nI nd42)) 31 (nI wr44)) 64 (nI at39)) 65 (nI ne)) 66 (nI lk43)) (updA X46 2 K)) := mW_D hD
      obtain ⟨hlw63, hf64, hc65⟩ := h60 rfl
      have hlo66 : Low B X46 nd wr := (Low.trans hlo2 hlw63 (by omega) (by omega))
      have hm67 := Frs.mem hf64
      have hz68 : at0 ≤ at39 := (by omega)
      have hz69 : at39 ≤ T := (by omega)
      have hz70 : 0 ≤ 100 := (by omega)
      have hz71 : nd ≤ nd42 := (by omega)
      have hz72 : nd42 + 2 * at0 ≤ nd + 2 * at39 + 100000 * 0 := (by omega)
      have hz73 : nd42 + 2 * at0 ≤ nd + 2 * at39 + (60 * (21 - ne) + 40) := (by omega)
      have hz74 : wr ≤ wr44 := (by omega)
      have hz75 : wr44 + at0 ≤ wr + at39 := (by omega)
      have hz76 : lk ≤ lk43 := (by omega)
      have hz77 : lk43 ≤ 60 + 100 * 0 := (by omega)
      have hz78 : at0 + 1 ≤ at39 + 0 := (by omega)
      have hz79 : r45 ≤ nd42 := (by omega)
      have hz80 : Kp B X46 wr44 T := hkp61
      have hz81 : If (0 = 0) (Low B X46 nd wr ∧ Frs K T wr44 X46 nd nd42 20000 [(r45, (280 + 4 * (21 - ne)))] ∧ kcl 3 (X46 9 r45) = true) := (fun _ => ⟨hlo66, Frs.up hf64 (by omega), (kcl_10_3 hc65)⟩)
      have hP : va_P G.1 pCl (mW G h0 a (upd (upd (upd (upd (upd (upd (upd F 15 (nI 0)) 16 pl41) 27 (nI nd42)) 31 (nI wr44)) 64 (nI at39)) 65 (nI ne)) 66 (nI lk43)) (updA X46 2 K)) _ := mW_to (F := F) (l1 := [(15, 0), (16, pl41), (27, (nI nd42)), (31, (nI wr44)), (64, (nI at39)), (65, (nI ne)), (66, (nI lk43))]) (l2 := [(15, (nI 0)), (16, pl41), (27, (nI nd42)), (31, (nI wr44)), (64, (nI at39)), (65, (nI ne)), (66, (nI lk43))]) (V := [(nI 0), pl41, (nI nd42), (nI wr44), (nI at39), (nI ne), (nI lk43), (nI 0), pl41, (nI nd42), (nI wr44), (nI at39), (nI ne), (nI lk43)]) rfl rfl rfl hP
      have hD : va_D A (mW G h0 a (upd (upd (upd (upd (upd (upd (upd F 15 (nI 0)) 16 pl41) 27 (nI nd42)) 31 (nI wr44)) 64 (nI at39)) 65 (nI ne)) 66 (nI lk43)) (updA X46 2 K)) := mW_D hD
      exact W.iret (v := (nI r45)) hx hb hr (fun t9 ht9 hW9 => ⟨⟨_, (at39, 0, pl41, nd42, lk43, wr44, r45, X46), rfl, ⟨rfl, hz68, hz69, hz70, hz71, hz72, hz73, hz74, hz75, hz76, hz77, hz78, hz79, hz80, hz81⟩, by rw [ht9]; exact hP, hD⟩, hS.F ht9⟩) hS.2.2 dX12_statementOf_112
    · have e62 := e62
      have hz82 : at0 ≤ at39 := (by omega)
      have hz83 : at39 ≤ T := (by omega)
      have hz84 : fa40 ≤ 100 := (by omega)
      have hz85 : nd ≤ nd42 := (by omega)
      have hz86 : nd42 + 2 * at0 ≤ nd + 2 * at39 + 100000 * fa40 := (by omega)
      have hz87 : nd42 + 2 * at0 ≤ nd + 2 * at39 + (60 * (21 - ne) + 40) := (by omega)
      have hz88 : wr ≤ wr44 := (by omega)
      have hz89 : wr44 + at0 ≤ wr + at39 := (by omega)
      have hz90 : lk ≤ lk43 := (by omega)
      have hz91 : lk43 ≤ 60 + 100 * fa40 := (by omega)
      have hz92 : at0 + 1 ≤ at39 + fa40 := (by omega)
      have hz93 : r45 ≤ nd42 := (by omega)
      have hz94 : Kp B X46 wr44 T := hkp61
      have hz95 : If (fa40 = 0) (Low B X46 nd wr ∧ Frs K T wr44 X46 nd nd42 20000 [(r45, (280 + 4 * (21 - ne)))] ∧ kcl 3 (X46 9 r45) = true) := (fun e => absurd e (by omega))
      have hP : va_P G.1 pCl (mW G h0 a (upd (upd (upd (upd (upd (upd (upd F 15 (nI fa40)) 16 pl41) 27 (nI nd42)) 31 (nI wr44)) 64 (nI at39)) 65 (nI ne)) 66 (nI lk43)) (updA X46 2 K)) _ := hP
      have hD : va_D A (mW G h0 a (upd (upd (upd (upd (upd (upd (upd F 15 (nI fa40)) 16 pl41) 27 (nI nd42)) 31 (nI wr44)) 64 (nI at39)) 65 (nI ne)) 66 (nI lk43)) (updA X46 2 K)) := mW_D hD
      exact W.iret (v := (nI r45)) hx hb hr (fun t9 ht9 hW9 => ⟨⟨_, (at39, fa40, pl41, nd42, lk43, wr44, r45, X46), rfl, ⟨rfl, hz82, hz83, hz84, hz85, hz86, hz87, hz88, hz89, hz90, hz91, hz92, hz93, hz94, hz95⟩, by rw [ht9]; exact hP, hD⟩, hS.F ht9⟩) hS.2.2 dX12_statementOf_112
  by_cases h96 : (K at0) = 312
  · refine lv_lookup (tgt := 310) (off := 301) hx hb dX12_statementOf_9 (by decide) (by rw [h96]; decide) (by decide) ?_
    have n97 : at0 < T := tk_lt hat hK h96 (by decide) (by decide)
    refine lv_aload_n hx hb dX12_statementOf_310 rfl (lv_at hl 1 rfl) ?_
    refine lv_aload_n hx hb dX12_statementOf_311 rfl (lv_at hl 1 rfl) ?_
    have hP : va_P G.1 pCl (mW G h0 a (upd (upd (upd (upd (upd (upd (upd (upd F 15 0) 27 (nI nd)) 31 (nI wr)) 64 (nI at0)) 65 (nI ne)) 66 (nI lk)) 15 (nI 0)) 64 (nI at0)) (updA (updA B 2 K) 2 K)) _ := mW_to (F := F) (l1 := [(15, 0), (27, (nI nd)), (31, (nI wr)), (64, (nI at0)), (65, (nI ne)), (66, (nI lk))]) (l2 := [(15, 0), (27, (nI nd)), (31, (nI wr)), (64, (nI at0)), (65, (nI ne)), (66, (nI lk)), (15, (nI 0)), (64, (nI at0))]) (V := [(nI 0), (nI nd), (nI wr), (nI at0), (nI ne), (nI lk), (nI 0), (nI nd), (nI wr), (nI at0), (nI ne), (nI lk), (nI 0), (nI at0)]) rfl rfl (show (updA B 2 K) = (updA (updA B 2 K) 2 K) from updsA_eq2 (F := B) (l1 := [(2, K)]) (l2 := [(2, K), (2, K)]) (V := [K, K, K]) rfl rfl) hP
    have hD : va_D A (mW G h0 a (upd (upd (upd (upd (upd (upd (upd (upd F 15 0) 27 (nI nd)) 31 (nI wr)) 64 (nI at0)) 65 (nI ne)) 66 (nI lk)) 15 (nI 0)) 64 (nI at0)) (updA (updA B 2 K) 2 K)) := mW_D hD
    refine pc_V0 (G := G) (As := []) (rest := [.ref h0]) hx hb hml hown hq hE hX pX0_al hP hD hS hA hl.1 (R_kind l G h0 a (upd (upd (upd (upd (upd (upd F 15 0) 27 (nI nd)) 31 (nI wr)) 64 (nI at0)) 65 (nI ne)) 66 (nI lk)) (updA B 2 K) at0 T 0 K (by omega) (by omega) hK (by omega)) (gV pw_1626 pw_1627 pw_1628 pw_1523 pw_1591) hV_X12_kind 0 9 rfl rfl rfl rfl (Nat.le_of_ble_eq_true rfl) dX12_statementOf_312 ⟨Nat.le_of_ble_eq_true rfl, Nat.le_of_ble_eq_true rfl⟩ ⟨(by show 2 + 1 ≤ (26 * n + 44); omega), (by show 8 + (1 + 11) + 60 ≤ (2000 * n + 4400); omega)⟩ (fun v100 u98 H locs hw99 hP hD hS => ?_)
    obtain rfl : v100 = some (.int (K at0)) := hw99
    have hP : va_P G.1 pCl (mW G h0 a (upd (upd (upd (upd (upd (upd F 15 0) 27 (nI nd)) 31 (nI wr)) 64 (nI at0)) 65 (nI ne)) 66 (nI lk)) (updA B 2 K)) _ := mW_to (F := F) (l1 := [(15, 0), (27, (nI nd)), (31, (nI wr)), (64, (nI at0)), (65, (nI ne)), (66, (nI lk)), (15, (nI 0)), (64, (nI at0))]) (l2 := [(15, 0), (27, (nI nd)), (31, (nI wr)), (64, (nI at0)), (65, (nI ne)), (66, (nI lk))]) (V := [0, (nI nd), (nI wr), (nI at0), (nI ne), (nI lk), 0, (nI at0), 0, (nI nd), (nI wr), (nI at0), (nI ne), (nI lk)]) rfl rfl (show (updA (updA B 2 K) 2 K) = (updA B 2 K) from updsA_eq2 (F := B) (l1 := [(2, K), (2, K)]) (l2 := [(2, K)]) (V := [K, K, K]) rfl rfl) hP
    have hD : va_D A (mW G h0 a (upd (upd (upd (upd (upd (upd F 15 0) 27 (nI nd)) 31 (nI wr)) 64 (nI at0)) 65 (nI ne)) 66 (nI lk)) (updA B 2 K)) := mW_D hD
    refine W.widen (k := 0) (n := 0) (Nat.le_of_ble_eq_true rfl) (Nat.le_of_ble_eq_true rfl) ?_
    refine W.eq (g2 := F0 m 315 ls [.int (K at0), .ref h0]) rfl ?_
    refine lv_sipush (v := 312) hx hb dX12_statementOf_315 (by decide) ?_
    refine lv_icmp_ne (tgt := 326) hx hb dX12_statementOf_318 (by decide) (fun c101 => ?_) (fun c101 => ?_)
    · refine lv_bipush (v := 39) hx hb dX12_statementOf_326 (by decide) ?_
      refine lv_iload_n hx hb dX12_statementOf_328 rfl (lv_at hl 0 rfl) ?_
      refine lv_iload_n hx hb dX12_statementOf_329 rfl (lv_at hl 0 rfl) ?_
      refine lv_iconst (v := (-1)) hx hb dX12_statementOf_330 (by decide) ?_
      refine lv_iconst (v := (-1)) hx hb dX12_statementOf_331 (by decide) ?_
      have hP : va_P G.1 pCl (mW G h0 a (upd (upd (upd (upd (upd (upd (upd F 15 0) 27 (nI nd)) 31 (nI wr)) 64 (nI at0)) 65 (nI ne)) 66 (nI lk)) 27 (nI nd)) (updA B 2 K)) _ := mW_to (F := F) (l1 := [(15, 0), (27, (nI nd)), (31, (nI wr)), (64, (nI at0)), (65, (nI ne)), (66, (nI lk))]) (l2 := [(15, 0), (27, (nI nd)), (31, (nI wr)), (64, (nI at0)), (65, (nI ne)), (66, (nI lk)), (27, (nI nd))]) (V := [0, (nI nd), (nI wr), (nI at0), (nI ne), (nI lk), 0, (nI nd), (nI wr), (nI at0), (nI ne), (nI lk), (nI nd)]) rfl rfl rfl hP
      have hD : va_D A (mW G h0 a (upd (upd (upd (upd (upd (upd (upd F 15 0) 27 (nI nd)) 31 (nI wr)) 64 (nI at0)) 65 (nI ne)) 66 (nI lk)) 27 (nI nd)) (updA B 2 K)) := mW_D hD
      refine pc_V0 (G := G) (As := [.int 39, .int (nI at0), .int (nI at0), .int (-1), .int (-1)]) (rest := []) hx hb hml hown hq hE hX pX0_al hP hD hS hA hl.1 (R_nodeB l G h0 a (upd (upd (upd (upd (upd (upd F 15 0) 27 (nI nd)) 31 (nI wr)) 64 (nI at0)) 65 (nI ne)) 66 (nI lk)) B 39 (nI at0) (nI at0) (-1) (-1) nd K (by omega)) (gV pw_1650 pw_1651 pw_1652 pw_1523 pw_1589) hV_X12_node 0 9 rfl rfl rfl rfl (Nat.le_of_ble_eq_true rfl) dX12_statementOf_332 ⟨Nat.le_of_ble_eq_true rfl, Nat.le_of_ble_eq_true rfl⟩ ⟨(by show 2 + 1 ≤ (26 * n + 44); omega), (by show 8 + (7 + 11) + 60 ≤ (2000 * n + 4400); omega)⟩ (fun v104 u102 H locs hw103 hP hD hS => ?_)
      obtain ⟨X105, rfl⟩ : ∃ z, z = u102 := ⟨_, rfl⟩
      obtain ⟨hw103, h106⟩ := hw103
      have h106 : NewN B X105 nd 39 (nI at0) (nI at0) (-1) (-1) := h106
      obtain rfl : v104 = some (.int (nI nd)) := hw103
      have hP : va_P G.1 pCl (mW G h0 a (upd (upd (upd (upd (upd (upd F 15 0) 27 (nI (nd + 1))) 31 (nI wr)) 64 (nI at0)) 65 (nI ne)) 66 (nI lk)) (updA X105 2 K)) _ := mW_to (F := F) (l1 := [(15, 0), (27, (nI nd)), (31, (nI wr)), (64, (nI at0)), (65, (nI ne)), (66, (nI lk)), (27, (nI (nd + 1)))]) (l2 := [(15, 0), (27, (nI (nd + 1))), (31, (nI wr)), (64, (nI at0)), (65, (nI ne)), (66, (nI lk))]) (V := [0, (nI (nd + 1)), (nI wr), (nI at0), (nI ne), (nI lk), (nI (nd + 1)), 0, (nI (nd + 1)), (nI wr), (nI at0), (nI ne), (nI lk)]) rfl rfl rfl hP
      have hD : va_D A (mW G h0 a (upd (upd (upd (upd (upd (upd F 15 0) 27 (nI (nd + 1))) 31 (nI wr)) 64 (nI at0)) 65 (nI ne)) 66 (nI lk)) (updA X105 2 K)) := mW_D hD
      refine W.widen (k := 0) (n := 0) (Nat.le_of_ble_eq_true rfl) (Nat.le_of_ble_eq_true rfl) ?_
      refine W.eq (g2 := F0 m 335 ls [.int (nI nd)]) rfl ?_
      have hkp107 : Kp B X105 wr T := (Kp.new hkp1 h106)
      have hlo108 : Low B X105 nd wr := (Low.new hlo2 h106 (by omega))
      have hf109 : Frs K T wr X105 nd (nd + 1) nd [(nd, 0)] := (Frs.new0 (k := 39) Frs.nil (Nat.le_refl _) (Nat.le_refl _) h106 rfl (by decide) (by decide) (by omega) (by omega) (fun e => absurd e (by decide)) (newOK.m1 (by decide)) (newOK.m1 (by decide)) (newOK.m1 (by decide)) (newOK.m1 (by decide)))
      have hn110 : Nd X105 nd 39 (-1) (-1) (-1) (-1) := (NewN.toNd h106)
      have hf111 : Frs K T wr X105 nd (nd + 1) 20000 [(nd, 0)] := (Frs.fin (k := 39) hf109 hn110 rfl (by decide) (fun h => absurd h (by decide)) (fun h => absurd h (by decide)) (fun h => absurd h (by decide)) (fun h => absurd h (by decide)))
      refine lv_istore_n (lv' := [(2, .int (nI nd)), (1, .int (nI at0)), (0, .ref h0)]) hx hb dX12_statementOf_335 rfl hl (by decide) rfl (fun ls hl => ?_)
      refine lv_aload_n hx hb dX12_statementOf_336 rfl (lv_at hl 2 rfl) ?_
      refine lv_dup hx hb dX12_statementOf_337 rfl ?_
      refine r_get (v := .int (nI at0)) hx hb hown hq hE hP 64 343 tFX12_64 (by decide) pw_1592 rfl dX12_statementOf_338 ?_
      refine lv_iconst (v := 1) hx hb dX12_statementOf_341 (by decide) ?_
      refine lv_iadd hx hb dX12_statementOf_342 ?_
      refine lv_topi (fun x112 e113 => ?_)
      obtain rfl : x112 = nI (at0 + 1) := e113.trans (nI_add (at0) (1))
      refine r_put (v := (nI (at0 + 1))) (ty := .int) hx hb hown hq hE hP hD hS 64 343 tFX12_64 (by decide) pw_1592 (by decide) rfl rfl (ms_64 a _ _) dX12_statementOf_343 (fun H locs hP hD hS => ?_)
      refine lv_aload_n hx hb dX12_statementOf_346 rfl (lv_at hl 2 rfl) ?_
      refine lv_bipush (v := 59) hx hb dX12_statementOf_347 (by decide) ?_
      have hP : va_P G.1 pCl (mW G h0 a (upd (upd (upd (upd (upd (upd (upd (upd F 15 0) 27 (nI (nd + 1))) 31 (nI wr)) 64 (nI (at0 + 1))) 65 (nI ne)) 66 (nI lk)) 15 (nI 0)) 64 (nI (at0 + 1))) (updA (updA X105 2 K) 2 K)) _ := mW_to (F := F) (l1 := [(15, 0), (27, (nI (nd + 1))), (31, (nI wr)), (64, (nI at0)), (65, (nI ne)), (66, (nI lk)), (64, (nI (at0 + 1)))]) (l2 := [(15, 0), (27, (nI (nd + 1))), (31, (nI wr)), (64, (nI (at0 + 1))), (65, (nI ne)), (66, (nI lk)), (15, (nI 0)), (64, (nI (at0 + 1)))]) (V := [(nI 0), (nI (nd + 1)), (nI wr), (nI (at0 + 1)), (nI ne), (nI lk), (nI (at0 + 1)), (nI 0), (nI (nd + 1)), (nI wr), (nI (at0 + 1)), (nI ne), (nI lk), (nI 0), (nI (at0 + 1))]) rfl rfl (show (updA X105 2 K) = (updA (updA X105 2 K) 2 K) from updsA_eq2 (F := X105) (l1 := [(2, K)]) (l2 := [(2, K), (2, K)]) (V := [K, K, K]) rfl rfl) hP
      have hD : va_D A (mW G h0 a (upd (upd (upd (upd (upd (upd (upd (upd F 15 0) 27 (nI (nd + 1))) 31 (nI wr)) 64 (nI (at0 + 1))) 65 (nI ne)) 66 (nI lk)) 15 (nI 0)) 64 (nI (at0 + 1))) (updA (updA X105 2 K) 2 K)) := mW_D hD
      refine pc_V0 (G := G) (As := [.int 59]) (rest := []) hx hb hml hown hq hE hX pX0_al hP hD hS hA hl.1 (R_take l G h0 a (upd (upd (upd (upd (upd (upd F 15 0) 27 (nI (nd + 1))) 31 (nI wr)) 64 (nI (at0 + 1))) 65 (nI ne)) 66 (nI lk)) (updA X105 2 K) (at0 + 1) T 0 K 59 (by omega) (by omega) hK (by omega) (by decide) (by decide)) (gV pw_1614 pw_1615 pw_1616 pw_1523 pw_1601) hV_X12_take 0 9 rfl rfl rfl rfl (Nat.le_of_ble_eq_true rfl) dX12_statementOf_349 ⟨Nat.le_of_ble_eq_true rfl, Nat.le_of_ble_eq_true rfl⟩ ⟨(by show 4 + 1 ≤ (26 * n + 44); omega), (by show 8 + (2 + 11) + 103 ≤ (2000 * n + 4400); omega)⟩ (fun v116 u114 H locs hw115 hP hD hS => ?_)
      obtain ⟨at117, fa118, pl119⟩ := u114
      obtain ⟨hw115, h120, h121, h122, h123, h124, h125, h126, h127⟩ := hw115
      have h120 : (at0 + 1) ≤ at117 := h120
      have h121 : at117 ≤ T := h121
      have h122 : 0 ≤ fa118 := h122
      have h123 : fa118 ≤ 100 := h123
      have h124 : If (0 < 0) (at117 = (at0 + 1) ∧ fa118 = 0) := h124
      have h125 : at117 ≤ (at0 + 1) + 1 := h125
      have h126 : (at0 + 1) + 1 ≤ at117 + fa118 := h126
      have h127 : If (fa118 = 0) (K (at0 + 1) = 59) := h127
      obtain rfl : v116 = none := hw115
      have hP : va_P G.1 pCl (mW G h0 a (upd (upd (upd (upd (upd (upd (upd F 15 (nI fa118)) 16 pl119) 27 (nI (nd + 1))) 31 (nI wr)) 64 (nI at117)) 65 (nI ne)) 66 (nI lk)) (updA X105 2 K)) _ := mW_to (F := F) (l1 := [(15, 0), (27, (nI (nd + 1))), (31, (nI wr)), (64, (nI (at0 + 1))), (65, (nI ne)), (66, (nI lk)), (15, (nI fa118)), (16, pl119), (64, (nI at117))]) (l2 := [(15, (nI fa118)), (16, pl119), (27, (nI (nd + 1))), (31, (nI wr)), (64, (nI at117)), (65, (nI ne)), (66, (nI lk))]) (V := [(nI fa118), (nI (nd + 1)), (nI wr), (nI at117), (nI ne), (nI lk), (nI fa118), pl119, (nI at117), (nI fa118), pl119, (nI (nd + 1)), (nI wr), (nI at117), (nI ne), (nI lk)]) rfl rfl (show (updA (updA X105 2 K) 2 K) = (updA X105 2 K) from updsA_eq2 (F := X105) (l1 := [(2, K), (2, K)]) (l2 := [(2, K)]) (V := [K, K, K]) rfl rfl) hP
      have hD : va_D A (mW G h0 a (upd (upd (upd (upd (upd (upd (upd F 15 (nI fa118)) 16 pl119) 27 (nI (nd + 1))) 31 (nI wr)) 64 (nI at117)) 65 (nI ne)) 66 (nI lk)) (updA X105 2 K)) := mW_D hD
      refine W.widen (k := 0) (n := 0) (Nat.le_of_ble_eq_true rfl) (Nat.le_of_ble_eq_true rfl) ?_
      refine W.eq (g2 := F0 m 352 ls []) rfl ?_
      rcases Nat.eq_zero_or_pos fa118 with e128 | e128
      · subst e128
        have hP : va_P G.1 pCl (mW G h0 a (upd (upd (upd (upd (upd (upd (upd F 15 0) 16 pl119) 27 (nI (nd + 1))) 31 (nI wr)) 64 (nI at117)) 65 (nI ne)) 66 (nI lk)) (updA X105 2 K)) _ := hP
        have hD : va_D A (mW G h0 a (upd (upd (upd (upd (upd (upd (upd F 15 0) 16 pl119) 27 (nI (nd + 1))) 31 (nI wr)) 64 (nI at117)) 65 (nI ne)) 66 (nI lk)) (updA X105 2 K)) := mW_D hD
        refine lv_iload_n hx hb dX12_statementOf_352 rfl (lv_at hl 0 rfl) ?_
        have hz129 : at0 ≤ at117 := (by omega)
        have hz130 : at117 ≤ T := (by omega)
        have hz131 : 0 ≤ 100 := (by omega)
        have hz132 : nd ≤ (nd + 1) := (by omega)
        have hz133 : (nd + 1) + 2 * at0 ≤ nd + 2 * at117 + 100000 * 0 := (by omega)
        have hz134 : (nd + 1) + 2 * at0 ≤ nd + 2 * at117 + (60 * (21 - ne) + 40) := (by omega)
        have hz135 : wr ≤ wr := (by omega)
        have hz136 : wr + at0 ≤ wr + at117 := (by omega)
        have hz137 : lk ≤ lk := (by omega)
        have hz138 : lk ≤ 60 + 100 * 0 := (by omega)
        have hz139 : at0 + 1 ≤ at117 + 0 := (by omega)
        have hz140 : nd ≤ (nd + 1) := (by omega)
        have hz141 : Kp B X105 wr T := hkp107
        have hz142 : If (0 = 0) (Low B X105 nd wr ∧ Frs K T wr X105 nd (nd + 1) 20000 [(nd, (280 + 4 * (21 - ne)))] ∧ kcl 3 (X105 9 nd) = true) := (fun _ => ⟨hlo108, Frs.up hf111 (by omega), (by rw [hn110.1]; decide)⟩)
        have hP : va_P G.1 pCl (mW G h0 a (upd (upd (upd (upd (upd (upd (upd F 15 (nI 0)) 16 pl119) 27 (nI (nd + 1))) 31 (nI wr)) 64 (nI at117)) 65 (nI ne)) 66 (nI lk)) (updA X105 2 K)) _ := mW_to (F := F) (l1 := [(15, 0), (16, pl119), (27, (nI (nd + 1))), (31, (nI wr)), (64, (nI at117)), (65, (nI ne)), (66, (nI lk))]) (l2 := [(15, (nI 0)), (16, pl119), (27, (nI (nd + 1))), (31, (nI wr)), (64, (nI at117)), (65, (nI ne)), (66, (nI lk))]) (V := [(nI 0), pl119, (nI (nd + 1)), (nI wr), (nI at117), (nI ne), (nI lk), (nI 0), pl119, (nI (nd + 1)), (nI wr), (nI at117), (nI ne), (nI lk)]) rfl rfl rfl hP
        have hD : va_D A (mW G h0 a (upd (upd (upd (upd (upd (upd (upd F 15 (nI 0)) 16 pl119) 27 (nI (nd + 1))) 31 (nI wr)) 64 (nI at117)) 65 (nI ne)) 66 (nI lk)) (updA X105 2 K)) := mW_D hD
        exact W.iret (v := (nI nd)) hx hb hr (fun t9 ht9 hW9 => ⟨⟨_, (at117, 0, pl119, (nd + 1), lk, wr, nd, X105), rfl, ⟨rfl, hz129, hz130, hz131, hz132, hz133, hz134, hz135, hz136, hz137, hz138, hz139, hz140, hz141, hz142⟩, by rw [ht9]; exact hP, hD⟩, hS.F ht9⟩) hS.2.2 dX12_statementOf_353
      · have e128 := e128
        refine lv_iload_n hx hb dX12_statementOf_352 rfl (lv_at hl 0 rfl) ?_
        have hz143 : at0 ≤ at117 := (by omega)
        have hz144 : at117 ≤ T := (by omega)
        have hz145 : fa118 ≤ 100 := (by omega)
        have hz146 : nd ≤ (nd + 1) := (by omega)
        have hz147 : (nd + 1) + 2 * at0 ≤ nd + 2 * at117 + 100000 * fa118 := (by omega)
        have hz148 : (nd + 1) + 2 * at0 ≤ nd + 2 * at117 + (60 * (21 - ne) + 40) := (by omega)
        have hz149 : wr ≤ wr := (by omega)
        have hz150 : wr + at0 ≤ wr + at117 := (by omega)
        have hz151 : lk ≤ lk := (by omega)
        have hz152 : lk ≤ 60 + 100 * fa118 := (by omega)
        have hz153 : at0 + 1 ≤ at117 + fa118 := (by omega)
        have hz154 : nd ≤ (nd + 1) := (by omega)
        have hz155 : Kp B X105 wr T := hkp107
        have hz156 : If (fa118 = 0) (Low B X105 nd wr ∧ Frs K T wr X105 nd (nd + 1) 20000 [(nd, (280 + 4 * (21 - ne)))] ∧ kcl 3 (X105 9 nd) = true) := (fun e => absurd e (by omega))
        have hP : va_P G.1 pCl (mW G h0 a (upd (upd (upd (upd (upd (upd (upd F 15 (nI fa118)) 16 pl119) 27 (nI (nd + 1))) 31 (nI wr)) 64 (nI at117)) 65 (nI ne)) 66 (nI lk)) (updA X105 2 K)) _ := hP
        have hD : va_D A (mW G h0 a (upd (upd (upd (upd (upd (upd (upd F 15 (nI fa118)) 16 pl119) 27 (nI (nd + 1))) 31 (nI wr)) 64 (nI at117)) 65 (nI ne)) 66 (nI lk)) (updA X105 2 K)) := mW_D hD
        exact W.iret (v := (nI nd)) hx hb hr (fun t9 ht9 hW9 => ⟨⟨_, (at117, fa118, pl119, (nd + 1), lk, wr, nd, X105), rfl, ⟨rfl, hz143, hz144, hz145, hz146, hz147, hz148, hz149, hz150, hz151, hz152, hz153, hz154, hz155, hz156⟩, by rw [ht9]; exact hP, hD⟩, hS.F ht9⟩) hS.2.2 dX12_statementOf_353
    · refine lv_bipush (v := 38) hx hb dX12_statementOf_321 (by decide) ?_
      refine lv_goto (tgt := 328) hx hb dX12_statementOf_323 (by decide) ?_
      refine lv_iload_n hx hb dX12_statementOf_328 rfl (lv_at hl 0 rfl) ?_
      refine lv_iload_n hx hb dX12_statementOf_329 rfl (lv_at hl 0 rfl) ?_
      refine lv_iconst (v := (-1)) hx hb dX12_statementOf_330 (by decide) ?_
      refine lv_iconst (v := (-1)) hx hb dX12_statementOf_331 (by decide) ?_
      have hP : va_P G.1 pCl (mW G h0 a (upd (upd (upd (upd (upd (upd (upd F 15 0) 27 (nI nd)) 31 (nI wr)) 64 (nI at0)) 65 (nI ne)) 66 (nI lk)) 27 (nI nd)) (updA B 2 K)) _ := mW_to (F := F) (l1 := [(15, 0), (27, (nI nd)), (31, (nI wr)), (64, (nI at0)), (65, (nI ne)), (66, (nI lk))]) (l2 := [(15, 0), (27, (nI nd)), (31, (nI wr)), (64, (nI at0)), (65, (nI ne)), (66, (nI lk)), (27, (nI nd))]) (V := [0, (nI nd), (nI wr), (nI at0), (nI ne), (nI lk), 0, (nI nd), (nI wr), (nI at0), (nI ne), (nI lk), (nI nd)]) rfl rfl rfl hP
      have hD : va_D A (mW G h0 a (upd (upd (upd (upd (upd (upd (upd F 15 0) 27 (nI nd)) 31 (nI wr)) 64 (nI at0)) 65 (nI ne)) 66 (nI lk)) 27 (nI nd)) (updA B 2 K)) := mW_D hD
      refine pc_V0 (G := G) (As := [.int 38, .int (nI at0), .int (nI at0), .int (-1), .int (-1)]) (rest := []) hx hb hml hown hq hE hX pX0_al hP hD hS hA hl.1 (R_nodeB l G h0 a (upd (upd (upd (upd (upd (upd F 15 0) 27 (nI nd)) 31 (nI wr)) 64 (nI at0)) 65 (nI ne)) 66 (nI lk)) B 38 (nI at0) (nI at0) (-1) (-1) nd K (by omega)) (gV pw_1650 pw_1651 pw_1652 pw_1523 pw_1589) hV_X12_node 0 9 rfl rfl rfl rfl (Nat.le_of_ble_eq_true rfl) dX12_statementOf_332 ⟨Nat.le_of_ble_eq_true rfl, Nat.le_of_ble_eq_true rfl⟩ ⟨(by show 2 + 1 ≤ (26 * n + 44); omega), (by show 8 + (7 + 11) + 60 ≤ (2000 * n + 4400); omega)⟩ (fun v159 u157 H locs hw158 hP hD hS => ?_)
      obtain ⟨X160, rfl⟩ : ∃ z, z = u157 := ⟨_, rfl⟩
      obtain ⟨hw158, h161⟩ := hw158
      have h161 : NewN B X160 nd 38 (nI at0) (nI at0) (-1) (-1) := h161
      obtain rfl : v159 = some (.int (nI nd)) := hw158
      have hP : va_P G.1 pCl (mW G h0 a (upd (upd (upd (upd (upd (upd F 15 0) 27 (nI (nd + 1))) 31 (nI wr)) 64 (nI at0)) 65 (nI ne)) 66 (nI lk)) (updA X160 2 K)) _ := mW_to (F := F) (l1 := [(15, 0), (27, (nI nd)), (31, (nI wr)), (64, (nI at0)), (65, (nI ne)), (66, (nI lk)), (27, (nI (nd + 1)))]) (l2 := [(15, 0), (27, (nI (nd + 1))), (31, (nI wr)), (64, (nI at0)), (65, (nI ne)), (66, (nI lk))]) (V := [0, (nI (nd + 1)), (nI wr), (nI at0), (nI ne), (nI lk), (nI (nd + 1)), 0, (nI (nd + 1)), (nI wr), (nI at0), (nI ne), (nI lk)]) rfl rfl rfl hP
      have hD : va_D A (mW G h0 a (upd (upd (upd (upd (upd (upd F 15 0) 27 (nI (nd + 1))) 31 (nI wr)) 64 (nI at0)) 65 (nI ne)) 66 (nI lk)) (updA X160 2 K)) := mW_D hD
      refine W.widen (k := 0) (n := 0) (Nat.le_of_ble_eq_true rfl) (Nat.le_of_ble_eq_true rfl) ?_
      refine W.eq (g2 := F0 m 335 ls [.int (nI nd)]) rfl ?_
      have hkp162 : Kp B X160 wr T := (Kp.new hkp1 h161)
      have hlo163 : Low B X160 nd wr := (Low.new hlo2 h161 (by omega))
      have hf164 : Frs K T wr X160 nd (nd + 1) nd [(nd, 0)] := (Frs.new0 (k := 38) Frs.nil (Nat.le_refl _) (Nat.le_refl _) h161 rfl (by decide) (by decide) (by omega) (by omega) (fun e => absurd e (by decide)) (newOK.m1 (by decide)) (newOK.m1 (by decide)) (newOK.m1 (by decide)) (newOK.m1 (by decide)))
      have hn165 : Nd X160 nd 38 (-1) (-1) (-1) (-1) := (NewN.toNd h161)
      have hf166 : Frs K T wr X160 nd (nd + 1) 20000 [(nd, 0)] := (Frs.fin (k := 38) hf164 hn165 rfl (by decide) (fun h => absurd h (by decide)) (fun h => absurd h (by decide)) (fun h => absurd h (by decide)) (fun h => absurd h (by decide)))
      refine lv_istore_n (lv' := [(2, .int (nI nd)), (1, .int (nI at0)), (0, .ref h0)]) hx hb dX12_statementOf_335 rfl hl (by decide) rfl (fun ls hl => ?_)
      refine lv_aload_n hx hb dX12_statementOf_336 rfl (lv_at hl 2 rfl) ?_
      refine lv_dup hx hb dX12_statementOf_337 rfl ?_
      refine r_get (v := .int (nI at0)) hx hb hown hq hE hP 64 343 tFX12_64 (by decide) pw_1592 rfl dX12_statementOf_338 ?_
      refine lv_iconst (v := 1) hx hb dX12_statementOf_341 (by decide) ?_
      refine lv_iadd hx hb dX12_statementOf_342 ?_
      refine lv_topi (fun x167 e168 => ?_)
      obtain rfl : x167 = nI (at0 + 1) := e168.trans (nI_add (at0) (1))
      refine r_put (v := (nI (at0 + 1))) (ty := .int) hx hb hown hq hE hP hD hS 64 343 tFX12_64 (by decide) pw_1592 (by decide) rfl rfl (ms_64 a _ _) dX12_statementOf_343 (fun H locs hP hD hS => ?_)
      refine lv_aload_n hx hb dX12_statementOf_346 rfl (lv_at hl 2 rfl) ?_
      refine lv_bipush (v := 59) hx hb dX12_statementOf_347 (by decide) ?_
      have hP : va_P G.1 pCl (mW G h0 a (upd (upd (upd (upd (upd (upd (upd (upd F 15 0) 27 (nI (nd + 1))) 31 (nI wr)) 64 (nI (at0 + 1))) 65 (nI ne)) 66 (nI lk)) 15 (nI 0)) 64 (nI (at0 + 1))) (updA (updA X160 2 K) 2 K)) _ := mW_to (F := F) (l1 := [(15, 0), (27, (nI (nd + 1))), (31, (nI wr)), (64, (nI at0)), (65, (nI ne)), (66, (nI lk)), (64, (nI (at0 + 1)))]) (l2 := [(15, 0), (27, (nI (nd + 1))), (31, (nI wr)), (64, (nI (at0 + 1))), (65, (nI ne)), (66, (nI lk)), (15, (nI 0)), (64, (nI (at0 + 1)))]) (V := [(nI 0), (nI (nd + 1)), (nI wr), (nI (at0 + 1)), (nI ne), (nI lk), (nI (at0 + 1)), (nI 0), (nI (nd + 1)), (nI wr), (nI (at0 + 1)), (nI ne), (nI lk), (nI 0), (nI (at0 + 1))]) rfl rfl (show (updA X160 2 K) = (updA (updA X160 2 K) 2 K) from updsA_eq2 (F := X160) (l1 := [(2, K)]) (l2 := [(2, K), (2, K)]) (V := [K, K, K]) rfl rfl) hP
      have hD : va_D A (mW G h0 a (upd (upd (upd (upd (upd (upd (upd (upd F 15 0) 27 (nI (nd + 1))) 31 (nI wr)) 64 (nI (at0 + 1))) 65 (nI ne)) 66 (nI lk)) 15 (nI 0)) 64 (nI (at0 + 1))) (updA (updA X160 2 K) 2 K)) := mW_D hD
      refine pc_V0 (G := G) (As := [.int 59]) (rest := []) hx hb hml hown hq hE hX pX0_al hP hD hS hA hl.1 (R_take l G h0 a (upd (upd (upd (upd (upd (upd F 15 0) 27 (nI (nd + 1))) 31 (nI wr)) 64 (nI (at0 + 1))) 65 (nI ne)) 66 (nI lk)) (updA X160 2 K) (at0 + 1) T 0 K 59 (by omega) (by omega) hK (by omega) (by decide) (by decide)) (gV pw_1614 pw_1615 pw_1616 pw_1523 pw_1601) hV_X12_take 0 9 rfl rfl rfl rfl (Nat.le_of_ble_eq_true rfl) dX12_statementOf_349 ⟨Nat.le_of_ble_eq_true rfl, Nat.le_of_ble_eq_true rfl⟩ ⟨(by show 4 + 1 ≤ (26 * n + 44); omega), (by show 8 + (2 + 11) + 103 ≤ (2000 * n + 4400); omega)⟩ (fun v171 u169 H locs hw170 hP hD hS => ?_)
      obtain ⟨at172, fa173, pl174⟩ := u169
      obtain ⟨hw170, h175, h176, h177, h178, h179, h180, h181, h182⟩ := hw170
      have h175 : (at0 + 1) ≤ at172 := h175
      have h176 : at172 ≤ T := h176
      have h177 : 0 ≤ fa173 := h177
      have h178 : fa173 ≤ 100 := h178
      have h179 : If (0 < 0) (at172 = (at0 + 1) ∧ fa173 = 0) := h179
      have h180 : at172 ≤ (at0 + 1) + 1 := h180
      have h181 : (at0 + 1) + 1 ≤ at172 + fa173 := h181
      have h182 : If (fa173 = 0) (K (at0 + 1) = 59) := h182
      obtain rfl : v171 = none := hw170
      have hP : va_P G.1 pCl (mW G h0 a (upd (upd (upd (upd (upd (upd (upd F 15 (nI fa173)) 16 pl174) 27 (nI (nd + 1))) 31 (nI wr)) 64 (nI at172)) 65 (nI ne)) 66 (nI lk)) (updA X160 2 K)) _ := mW_to (F := F) (l1 := [(15, 0), (27, (nI (nd + 1))), (31, (nI wr)), (64, (nI (at0 + 1))), (65, (nI ne)), (66, (nI lk)), (15, (nI fa173)), (16, pl174), (64, (nI at172))]) (l2 := [(15, (nI fa173)), (16, pl174), (27, (nI (nd + 1))), (31, (nI wr)), (64, (nI at172)), (65, (nI ne)), (66, (nI lk))]) (V := [(nI fa173), (nI (nd + 1)), (nI wr), (nI at172), (nI ne), (nI lk), (nI fa173), pl174, (nI at172), (nI fa173), pl174, (nI (nd + 1)), (nI wr), (nI at172), (nI ne), (nI lk)]) rfl rfl (show (updA (updA X160 2 K) 2 K) = (updA X160 2 K) from updsA_eq2 (F := X160) (l1 := [(2, K), (2, K)]) (l2 := [(2, K)]) (V := [K, K, K]) rfl rfl) hP
      have hD : va_D A (mW G h0 a (upd (upd (upd (upd (upd (upd (upd F 15 (nI fa173)) 16 pl174) 27 (nI (nd + 1))) 31 (nI wr)) 64 (nI at172)) 65 (nI ne)) 66 (nI lk)) (updA X160 2 K)) := mW_D hD
      refine W.widen (k := 0) (n := 0) (Nat.le_of_ble_eq_true rfl) (Nat.le_of_ble_eq_true rfl) ?_
      refine W.eq (g2 := F0 m 352 ls []) rfl ?_
      rcases Nat.eq_zero_or_pos fa173 with e183 | e183
      · subst e183
        have hP : va_P G.1 pCl (mW G h0 a (upd (upd (upd (upd (upd (upd (upd F 15 0) 16 pl174) 27 (nI (nd + 1))) 31 (nI wr)) 64 (nI at172)) 65 (nI ne)) 66 (nI lk)) (updA X160 2 K)) _ := hP
        have hD : va_D A (mW G h0 a (upd (upd (upd (upd (upd (upd (upd F 15 0) 16 pl174) 27 (nI (nd + 1))) 31 (nI wr)) 64 (nI at172)) 65 (nI ne)) 66 (nI lk)) (updA X160 2 K)) := mW_D hD
        refine lv_iload_n hx hb dX12_statementOf_352 rfl (lv_at hl 0 rfl) ?_
        have hz184 : at0 ≤ at172 := (by omega)
        have hz185 : at172 ≤ T := (by omega)
        have hz186 : 0 ≤ 100 := (by omega)
        have hz187 : nd ≤ (nd + 1) := (by omega)
        have hz188 : (nd + 1) + 2 * at0 ≤ nd + 2 * at172 + 100000 * 0 := (by omega)
        have hz189 : (nd + 1) + 2 * at0 ≤ nd + 2 * at172 + (60 * (21 - ne) + 40) := (by omega)
        have hz190 : wr ≤ wr := (by omega)
        have hz191 : wr + at0 ≤ wr + at172 := (by omega)
        have hz192 : lk ≤ lk := (by omega)
        have hz193 : lk ≤ 60 + 100 * 0 := (by omega)
        have hz194 : at0 + 1 ≤ at172 + 0 := (by omega)
        have hz195 : nd ≤ (nd + 1) := (by omega)
        have hz196 : Kp B X160 wr T := hkp162
        have hz197 : If (0 = 0) (Low B X160 nd wr ∧ Frs K T wr X160 nd (nd + 1) 20000 [(nd, (280 + 4 * (21 - ne)))] ∧ kcl 3 (X160 9 nd) = true) := (fun _ => ⟨hlo163, Frs.up hf166 (by omega), (by rw [hn165.1]; decide)⟩)
        have hP : va_P G.1 pCl (mW G h0 a (upd (upd (upd (upd (upd (upd (upd F 15 (nI 0)) 16 pl174) 27 (nI (nd + 1))) 31 (nI wr)) 64 (nI at172)) 65 (nI ne)) 66 (nI lk)) (updA X160 2 K)) _ := mW_to (F := F) (l1 := [(15, 0), (16, pl174), (27, (nI (nd + 1))), (31, (nI wr)), (64, (nI at172)), (65, (nI ne)), (66, (nI lk))]) (l2 := [(15, (nI 0)), (16, pl174), (27, (nI (nd + 1))), (31, (nI wr)), (64, (nI at172)), (65, (nI ne)), (66, (nI lk))]) (V := [(nI 0), pl174, (nI (nd + 1)), (nI wr), (nI at172), (nI ne), (nI lk), (nI 0), pl174, (nI (nd + 1)), (nI wr), (nI at172), (nI ne), (nI lk)]) rfl rfl rfl hP
        have hD : va_D A (mW G h0 a (upd (upd (upd (upd (upd (upd (upd F 15 (nI 0)) 16 pl174) 27 (nI (nd + 1))) 31 (nI wr)) 64 (nI at172)) 65 (nI ne)) 66 (nI lk)) (updA X160 2 K)) := mW_D hD
        exact W.iret (v := (nI nd)) hx hb hr (fun t9 ht9 hW9 => ⟨⟨_, (at172, 0, pl174, (nd + 1), lk, wr, nd, X160), rfl, ⟨rfl, hz184, hz185, hz186, hz187, hz188, hz189, hz190, hz191, hz192, hz193, hz194, hz195, hz196, hz197⟩, by rw [ht9]; exact hP, hD⟩, hS.F ht9⟩) hS.2.2 dX12_statementOf_353
      · have e183 := e183
        refine lv_iload_n hx hb dX12_statementOf_352 rfl (lv_at hl 0 rfl) ?_
        have hz198 : at0 ≤ at172 := (by omega)
        have hz199 : at172 ≤ T := (by omega)
        have hz200 : fa173 ≤ 100 := (by omega)
        have hz201 : nd ≤ (nd + 1) := (by omega)
        have hz202 : (nd + 1) + 2 * at0 ≤ nd + 2 * at172 + 100000 * fa173 := (by omega)
        have hz203 : (nd + 1) + 2 * at0 ≤ nd + 2 * at172 + (60 * (21 - ne) + 40) := (by omega)
        have hz204 : wr ≤ wr := (by omega)
        have hz205 : wr + at0 ≤ wr + at172 := (by omega)
        have hz206 : lk ≤ lk := (by omega)
        have hz207 : lk ≤ 60 + 100 * fa173 := (by omega)
        have hz208 : at0 + 1 ≤ at172 + fa173 := (by omega)
        have hz209 : nd ≤ (nd + 1) := (by omega)
        have hz210 : Kp B X160 wr T := hkp162
        have hz211 : If (fa173 = 0) (Low B X160 nd wr ∧ Frs K T wr X160 nd (nd + 1) 20000 [(nd, (280 + 4 * (21 - ne)))] ∧ kcl 3 (X160 9 nd) = true) := (fun e => absurd e (by omega))
        have hP : va_P G.1 pCl (mW G h0 a (upd (upd (upd (upd (upd (upd (upd F 15 (nI fa173)) 16 pl174) 27 (nI (nd + 1))) 31 (nI wr)) 64 (nI at172)) 65 (nI ne)) 66 (nI lk)) (updA X160 2 K)) _ := hP
        have hD : va_D A (mW G h0 a (upd (upd (upd (upd (upd (upd (upd F 15 (nI fa173)) 16 pl174) 27 (nI (nd + 1))) 31 (nI wr)) 64 (nI at172)) 65 (nI ne)) 66 (nI lk)) (updA X160 2 K)) := mW_D hD
        exact W.iret (v := (nI nd)) hx hb hr (fun t9 ht9 hW9 => ⟨⟨_, (at172, fa173, pl174, (nd + 1), lk, wr, nd, X160), rfl, ⟨rfl, hz198, hz199, hz200, hz201, hz202, hz203, hz204, hz205, hz206, hz207, hz208, hz209, hz210, hz211⟩, by rw [ht9]; exact hP, hD⟩, hS.F ht9⟩) hS.2.2 dX12_statementOf_353
  by_cases h212 : (K at0) = 315
  · refine lv_lookup (tgt := 310) (off := 301) hx hb dX12_statementOf_9 (by decide) (by rw [h212]; decide) (by decide) ?_
    have n213 : at0 < T := tk_lt hat hK h212 (by decide) (by decide)
    refine lv_aload_n hx hb dX12_statementOf_310 rfl (lv_at hl 1 rfl) ?_
    refine lv_aload_n hx hb dX12_statementOf_311 rfl (lv_at hl 1 rfl) ?_
    have hP : va_P G.1 pCl (mW G h0 a (upd (upd (upd (upd (upd (upd (upd (upd F 15 0) 27 (nI nd)) 31 (nI wr)) 64 (nI at0)) 65 (nI ne)) 66 (nI lk)) 15 (nI 0)) 64 (nI at0)) (updA (updA B 2 K) 2 K)) _ := mW_to (F := F) (l1 := [(15, 0), (27, (nI nd)), (31, (nI wr)), (64, (nI at0)), (65, (nI ne)), (66, (nI lk))]) (l2 := [(15, 0), (27, (nI nd)), (31, (nI wr)), (64, (nI at0)), (65, (nI ne)), (66, (nI lk)), (15, (nI 0)), (64, (nI at0))]) (V := [(nI 0), (nI nd), (nI wr), (nI at0), (nI ne), (nI lk), (nI 0), (nI nd), (nI wr), (nI at0), (nI ne), (nI lk), (nI 0), (nI at0)]) rfl rfl (show (updA B 2 K) = (updA (updA B 2 K) 2 K) from updsA_eq2 (F := B) (l1 := [(2, K)]) (l2 := [(2, K), (2, K)]) (V := [K, K, K]) rfl rfl) hP
    have hD : va_D A (mW G h0 a (upd (upd (upd (upd (upd (upd (upd (upd F 15 0) 27 (nI nd)) 31 (nI wr)) 64 (nI at0)) 65 (nI ne)) 66 (nI lk)) 15 (nI 0)) 64 (nI at0)) (updA (updA B 2 K) 2 K)) := mW_D hD
    refine pc_V0 (G := G) (As := []) (rest := [.ref h0]) hx hb hml hown hq hE hX pX0_al hP hD hS hA hl.1 (R_kind l G h0 a (upd (upd (upd (upd (upd (upd F 15 0) 27 (nI nd)) 31 (nI wr)) 64 (nI at0)) 65 (nI ne)) 66 (nI lk)) (updA B 2 K) at0 T 0 K (by omega) (by omega) hK (by omega)) (gV pw_1626 pw_1627 pw_1628 pw_1523 pw_1591) hV_X12_kind 0 9 rfl rfl rfl rfl (Nat.le_of_ble_eq_true rfl) dX12_statementOf_312 ⟨Nat.le_of_ble_eq_true rfl, Nat.le_of_ble_eq_true rfl⟩ ⟨(by show 2 + 1 ≤ (26 * n + 44); omega), (by show 8 + (1 + 11) + 60 ≤ (2000 * n + 4400); omega)⟩ (fun v216 u214 H locs hw215 hP hD hS => ?_)
    obtain rfl : v216 = some (.int (K at0)) := hw215
    have hP : va_P G.1 pCl (mW G h0 a (upd (upd (upd (upd (upd (upd F 15 0) 27 (nI nd)) 31 (nI wr)) 64 (nI at0)) 65 (nI ne)) 66 (nI lk)) (updA B 2 K)) _ := mW_to (F := F) (l1 := [(15, 0), (27, (nI nd)), (31, (nI wr)), (64, (nI at0)), (65, (nI ne)), (66, (nI lk)), (15, (nI 0)), (64, (nI at0))]) (l2 := [(15, 0), (27, (nI nd)), (31, (nI wr)), (64, (nI at0)), (65, (nI ne)), (66, (nI lk))]) (V := [0, (nI nd), (nI wr), (nI at0), (nI ne), (nI lk), 0, (nI at0), 0, (nI nd), (nI wr), (nI at0), (nI ne), (nI lk)]) rfl rfl (show (updA (updA B 2 K) 2 K) = (updA B 2 K) from updsA_eq2 (F := B) (l1 := [(2, K), (2, K)]) (l2 := [(2, K)]) (V := [K, K, K]) rfl rfl) hP
    have hD : va_D A (mW G h0 a (upd (upd (upd (upd (upd (upd F 15 0) 27 (nI nd)) 31 (nI wr)) 64 (nI at0)) 65 (nI ne)) 66 (nI lk)) (updA B 2 K)) := mW_D hD
    refine W.widen (k := 0) (n := 0) (Nat.le_of_ble_eq_true rfl) (Nat.le_of_ble_eq_true rfl) ?_
    refine W.eq (g2 := F0 m 315 ls [.int (K at0), .ref h0]) rfl ?_
    refine lv_sipush (v := 312) hx hb dX12_statementOf_315 (by decide) ?_
    refine lv_icmp_ne (tgt := 326) hx hb dX12_statementOf_318 (by decide) (fun c217 => ?_) (fun c217 => ?_)
    · refine lv_bipush (v := 39) hx hb dX12_statementOf_326 (by decide) ?_
      refine lv_iload_n hx hb dX12_statementOf_328 rfl (lv_at hl 0 rfl) ?_
      refine lv_iload_n hx hb dX12_statementOf_329 rfl (lv_at hl 0 rfl) ?_
      refine lv_iconst (v := (-1)) hx hb dX12_statementOf_330 (by decide) ?_
      refine lv_iconst (v := (-1)) hx hb dX12_statementOf_331 (by decide) ?_
      have hP : va_P G.1 pCl (mW G h0 a (upd (upd (upd (upd (upd (upd (upd F 15 0) 27 (nI nd)) 31 (nI wr)) 64 (nI at0)) 65 (nI ne)) 66 (nI lk)) 27 (nI nd)) (updA B 2 K)) _ := mW_to (F := F) (l1 := [(15, 0), (27, (nI nd)), (31, (nI wr)), (64, (nI at0)), (65, (nI ne)), (66, (nI lk))]) (l2 := [(15, 0), (27, (nI nd)), (31, (nI wr)), (64, (nI at0)), (65, (nI ne)), (66, (nI lk)), (27, (nI nd))]) (V := [0, (nI nd), (nI wr), (nI at0), (nI ne), (nI lk), 0, (nI nd), (nI wr), (nI at0), (nI ne), (nI lk), (nI nd)]) rfl rfl rfl hP
      have hD : va_D A (mW G h0 a (upd (upd (upd (upd (upd (upd (upd F 15 0) 27 (nI nd)) 31 (nI wr)) 64 (nI at0)) 65 (nI ne)) 66 (nI lk)) 27 (nI nd)) (updA B 2 K)) := mW_D hD
      refine pc_V0 (G := G) (As := [.int 39, .int (nI at0), .int (nI at0), .int (-1), .int (-1)]) (rest := []) hx hb hml hown hq hE hX pX0_al hP hD hS hA hl.1 (R_nodeB l G h0 a (upd (upd (upd (upd (upd (upd F 15 0) 27 (nI nd)) 31 (nI wr)) 64 (nI at0)) 65 (nI ne)) 66 (nI lk)) B 39 (nI at0) (nI at0) (-1) (-1) nd K (by omega)) (gV pw_1650 pw_1651 pw_1652 pw_1523 pw_1589) hV_X12_node 0 9 rfl rfl rfl rfl (Nat.le_of_ble_eq_true rfl) dX12_statementOf_332 ⟨Nat.le_of_ble_eq_true rfl, Nat.le_of_ble_eq_true rfl⟩ ⟨(by show 2 + 1 ≤ (26 * n + 44); omega), (by show 8 + (7 + 11) + 60 ≤ (2000 * n + 4400); omega)⟩ (fun v220 u218 H locs hw219 hP hD hS => ?_)
      obtain ⟨X221, rfl⟩ : ∃ z, z = u218 := ⟨_, rfl⟩
      obtain ⟨hw219, h222⟩ := hw219
      have h222 : NewN B X221 nd 39 (nI at0) (nI at0) (-1) (-1) := h222
      obtain rfl : v220 = some (.int (nI nd)) := hw219
      have hP : va_P G.1 pCl (mW G h0 a (upd (upd (upd (upd (upd (upd F 15 0) 27 (nI (nd + 1))) 31 (nI wr)) 64 (nI at0)) 65 (nI ne)) 66 (nI lk)) (updA X221 2 K)) _ := mW_to (F := F) (l1 := [(15, 0), (27, (nI nd)), (31, (nI wr)), (64, (nI at0)), (65, (nI ne)), (66, (nI lk)), (27, (nI (nd + 1)))]) (l2 := [(15, 0), (27, (nI (nd + 1))), (31, (nI wr)), (64, (nI at0)), (65, (nI ne)), (66, (nI lk))]) (V := [0, (nI (nd + 1)), (nI wr), (nI at0), (nI ne), (nI lk), (nI (nd + 1)), 0, (nI (nd + 1)), (nI wr), (nI at0), (nI ne), (nI lk)]) rfl rfl rfl hP
      have hD : va_D A (mW G h0 a (upd (upd (upd (upd (upd (upd F 15 0) 27 (nI (nd + 1))) 31 (nI wr)) 64 (nI at0)) 65 (nI ne)) 66 (nI lk)) (updA X221 2 K)) := mW_D hD
      refine W.widen (k := 0) (n := 0) (Nat.le_of_ble_eq_true rfl) (Nat.le_of_ble_eq_true rfl) ?_
      refine W.eq (g2 := F0 m 335 ls [.int (nI nd)]) rfl ?_
      have hkp223 : Kp B X221 wr T := (Kp.new hkp1 h222)
      have hlo224 : Low B X221 nd wr := (Low.new hlo2 h222 (by omega))
      have hf225 : Frs K T wr X221 nd (nd + 1) nd [(nd, 0)] := (Frs.new0 (k := 39) Frs.nil (Nat.le_refl _) (Nat.le_refl _) h222 rfl (by decide) (by decide) (by omega) (by omega) (fun e => absurd e (by decide)) (newOK.m1 (by decide)) (newOK.m1 (by decide)) (newOK.m1 (by decide)) (newOK.m1 (by decide)))
      have hn226 : Nd X221 nd 39 (-1) (-1) (-1) (-1) := (NewN.toNd h222)
      have hf227 : Frs K T wr X221 nd (nd + 1) 20000 [(nd, 0)] := (Frs.fin (k := 39) hf225 hn226 rfl (by decide) (fun h => absurd h (by decide)) (fun h => absurd h (by decide)) (fun h => absurd h (by decide)) (fun h => absurd h (by decide)))
      refine lv_istore_n (lv' := [(2, .int (nI nd)), (1, .int (nI at0)), (0, .ref h0)]) hx hb dX12_statementOf_335 rfl hl (by decide) rfl (fun ls hl => ?_)
      refine lv_aload_n hx hb dX12_statementOf_336 rfl (lv_at hl 2 rfl) ?_
      refine lv_dup hx hb dX12_statementOf_337 rfl ?_
      refine r_get (v := .int (nI at0)) hx hb hown hq hE hP 64 343 tFX12_64 (by decide) pw_1592 rfl dX12_statementOf_338 ?_
      refine lv_iconst (v := 1) hx hb dX12_statementOf_341 (by decide) ?_
      refine lv_iadd hx hb dX12_statementOf_342 ?_
      refine lv_topi (fun x228 e229 => ?_)
      obtain rfl : x228 = nI (at0 + 1) := e229.trans (nI_add (at0) (1))
      refine r_put (v := (nI (at0 + 1))) (ty := .int) hx hb hown hq hE hP hD hS 64 343 tFX12_64 (by decide) pw_1592 (by decide) rfl rfl (ms_64 a _ _) dX12_statementOf_343 (fun H locs hP hD hS => ?_)
      refine lv_aload_n hx hb dX12_statementOf_346 rfl (lv_at hl 2 rfl) ?_
      refine lv_bipush (v := 59) hx hb dX12_statementOf_347 (by decide) ?_
      have hP : va_P G.1 pCl (mW G h0 a (upd (upd (upd (upd (upd (upd (upd (upd F 15 0) 27 (nI (nd + 1))) 31 (nI wr)) 64 (nI (at0 + 1))) 65 (nI ne)) 66 (nI lk)) 15 (nI 0)) 64 (nI (at0 + 1))) (updA (updA X221 2 K) 2 K)) _ := mW_to (F := F) (l1 := [(15, 0), (27, (nI (nd + 1))), (31, (nI wr)), (64, (nI at0)), (65, (nI ne)), (66, (nI lk)), (64, (nI (at0 + 1)))]) (l2 := [(15, 0), (27, (nI (nd + 1))), (31, (nI wr)), (64, (nI (at0 + 1))), (65, (nI ne)), (66, (nI lk)), (15, (nI 0)), (64, (nI (at0 + 1)))]) (V := [(nI 0), (nI (nd + 1)), (nI wr), (nI (at0 + 1)), (nI ne), (nI lk), (nI (at0 + 1)), (nI 0), (nI (nd + 1)), (nI wr), (nI (at0 + 1)), (nI ne), (nI lk), (nI 0), (nI (at0 + 1))]) rfl rfl (show (updA X221 2 K) = (updA (updA X221 2 K) 2 K) from updsA_eq2 (F := X221) (l1 := [(2, K)]) (l2 := [(2, K), (2, K)]) (V := [K, K, K]) rfl rfl) hP
      have hD : va_D A (mW G h0 a (upd (upd (upd (upd (upd (upd (upd (upd F 15 0) 27 (nI (nd + 1))) 31 (nI wr)) 64 (nI (at0 + 1))) 65 (nI ne)) 66 (nI lk)) 15 (nI 0)) 64 (nI (at0 + 1))) (updA (updA X221 2 K) 2 K)) := mW_D hD
      refine pc_V0 (G := G) (As := [.int 59]) (rest := []) hx hb hml hown hq hE hX pX0_al hP hD hS hA hl.1 (R_take l G h0 a (upd (upd (upd (upd (upd (upd F 15 0) 27 (nI (nd + 1))) 31 (nI wr)) 64 (nI (at0 + 1))) 65 (nI ne)) 66 (nI lk)) (updA X221 2 K) (at0 + 1) T 0 K 59 (by omega) (by omega) hK (by omega) (by decide) (by decide)) (gV pw_1614 pw_1615 pw_1616 pw_1523 pw_1601) hV_X12_take 0 9 rfl rfl rfl rfl (Nat.le_of_ble_eq_true rfl) dX12_statementOf_349 ⟨Nat.le_of_ble_eq_true rfl, Nat.le_of_ble_eq_true rfl⟩ ⟨(by show 4 + 1 ≤ (26 * n + 44); omega), (by show 8 + (2 + 11) + 103 ≤ (2000 * n + 4400); omega)⟩ (fun v232 u230 H locs hw231 hP hD hS => ?_)
      obtain ⟨at233, fa234, pl235⟩ := u230
      obtain ⟨hw231, h236, h237, h238, h239, h240, h241, h242, h243⟩ := hw231
      have h236 : (at0 + 1) ≤ at233 := h236
      have h237 : at233 ≤ T := h237
      have h238 : 0 ≤ fa234 := h238
      have h239 : fa234 ≤ 100 := h239
      have h240 : If (0 < 0) (at233 = (at0 + 1) ∧ fa234 = 0) := h240
      have h241 : at233 ≤ (at0 + 1) + 1 := h241
      have h242 : (at0 + 1) + 1 ≤ at233 + fa234 := h242
      have h243 : If (fa234 = 0) (K (at0 + 1) = 59) := h243
      obtain rfl : v232 = none := hw231
      have hP : va_P G.1 pCl (mW G h0 a (upd (upd (upd (upd (upd (upd (upd F 15 (nI fa234)) 16 pl235) 27 (nI (nd + 1))) 31 (nI wr)) 64 (nI at233)) 65 (nI ne)) 66 (nI lk)) (updA X221 2 K)) _ := mW_to (F := F) (l1 := [(15, 0), (27, (nI (nd + 1))), (31, (nI wr)), (64, (nI (at0 + 1))), (65, (nI ne)), (66, (nI lk)), (15, (nI fa234)), (16, pl235), (64, (nI at233))]) (l2 := [(15, (nI fa234)), (16, pl235), (27, (nI (nd + 1))), (31, (nI wr)), (64, (nI at233)), (65, (nI ne)), (66, (nI lk))]) (V := [(nI fa234), (nI (nd + 1)), (nI wr), (nI at233), (nI ne), (nI lk), (nI fa234), pl235, (nI at233), (nI fa234), pl235, (nI (nd + 1)), (nI wr), (nI at233), (nI ne), (nI lk)]) rfl rfl (show (updA (updA X221 2 K) 2 K) = (updA X221 2 K) from updsA_eq2 (F := X221) (l1 := [(2, K), (2, K)]) (l2 := [(2, K)]) (V := [K, K, K]) rfl rfl) hP
      have hD : va_D A (mW G h0 a (upd (upd (upd (upd (upd (upd (upd F 15 (nI fa234)) 16 pl235) 27 (nI (nd + 1))) 31 (nI wr)) 64 (nI at233)) 65 (nI ne)) 66 (nI lk)) (updA X221 2 K)) := mW_D hD
      refine W.widen (k := 0) (n := 0) (Nat.le_of_ble_eq_true rfl) (Nat.le_of_ble_eq_true rfl) ?_
      refine W.eq (g2 := F0 m 352 ls []) rfl ?_
      rcases Nat.eq_zero_or_pos fa234 with e244 | e244
      · subst e244
        have hP : va_P G.1 pCl (mW G h0 a (upd (upd (upd (upd (upd (upd (upd F 15 0) 16 pl235) 27 (nI (nd + 1))) 31 (nI wr)) 64 (nI at233)) 65 (nI ne)) 66 (nI lk)) (updA X221 2 K)) _ := hP
        have hD : va_D A (mW G h0 a (upd (upd (upd (upd (upd (upd (upd F 15 0) 16 pl235) 27 (nI (nd + 1))) 31 (nI wr)) 64 (nI at233)) 65 (nI ne)) 66 (nI lk)) (updA X221 2 K)) := mW_D hD
        refine lv_iload_n hx hb dX12_statementOf_352 rfl (lv_at hl 0 rfl) ?_
        have hz245 : at0 ≤ at233 := (by omega)
        have hz246 : at233 ≤ T := (by omega)
        have hz247 : 0 ≤ 100 := (by omega)
        have hz248 : nd ≤ (nd + 1) := (by omega)
        have hz249 : (nd + 1) + 2 * at0 ≤ nd + 2 * at233 + 100000 * 0 := (by omega)
        have hz250 : (nd + 1) + 2 * at0 ≤ nd + 2 * at233 + (60 * (21 - ne) + 40) := (by omega)
        have hz251 : wr ≤ wr := (by omega)
        have hz252 : wr + at0 ≤ wr + at233 := (by omega)
        have hz253 : lk ≤ lk := (by omega)
        have hz254 : lk ≤ 60 + 100 * 0 := (by omega)
        have hz255 : at0 + 1 ≤ at233 + 0 := (by omega)
        have hz256 : nd ≤ (nd + 1) := (by omega)
        have hz257 : Kp B X221 wr T := hkp223
        have hz258 : If (0 = 0) (Low B X221 nd wr ∧ Frs K T wr X221 nd (nd + 1) 20000 [(nd, (280 + 4 * (21 - ne)))] ∧ kcl 3 (X221 9 nd) = true) := (fun _ => ⟨hlo224, Frs.up hf227 (by omega), (by rw [hn226.1]; decide)⟩)
        have hP : va_P G.1 pCl (mW G h0 a (upd (upd (upd (upd (upd (upd (upd F 15 (nI 0)) 16 pl235) 27 (nI (nd + 1))) 31 (nI wr)) 64 (nI at233)) 65 (nI ne)) 66 (nI lk)) (updA X221 2 K)) _ := mW_to (F := F) (l1 := [(15, 0), (16, pl235), (27, (nI (nd + 1))), (31, (nI wr)), (64, (nI at233)), (65, (nI ne)), (66, (nI lk))]) (l2 := [(15, (nI 0)), (16, pl235), (27, (nI (nd + 1))), (31, (nI wr)), (64, (nI at233)), (65, (nI ne)), (66, (nI lk))]) (V := [(nI 0), pl235, (nI (nd + 1)), (nI wr), (nI at233), (nI ne), (nI lk), (nI 0), pl235, (nI (nd + 1)), (nI wr), (nI at233), (nI ne), (nI lk)]) rfl rfl rfl hP
        have hD : va_D A (mW G h0 a (upd (upd (upd (upd (upd (upd (upd F 15 (nI 0)) 16 pl235) 27 (nI (nd + 1))) 31 (nI wr)) 64 (nI at233)) 65 (nI ne)) 66 (nI lk)) (updA X221 2 K)) := mW_D hD
        exact W.iret (v := (nI nd)) hx hb hr (fun t9 ht9 hW9 => ⟨⟨_, (at233, 0, pl235, (nd + 1), lk, wr, nd, X221), rfl, ⟨rfl, hz245, hz246, hz247, hz248, hz249, hz250, hz251, hz252, hz253, hz254, hz255, hz256, hz257, hz258⟩, by rw [ht9]; exact hP, hD⟩, hS.F ht9⟩) hS.2.2 dX12_statementOf_353
      · have e244 := e244
        refine lv_iload_n hx hb dX12_statementOf_352 rfl (lv_at hl 0 rfl) ?_
        have hz259 : at0 ≤ at233 := (by omega)
        have hz260 : at233 ≤ T := (by omega)
        have hz261 : fa234 ≤ 100 := (by omega)
        have hz262 : nd ≤ (nd + 1) := (by omega)
        have hz263 : (nd + 1) + 2 * at0 ≤ nd + 2 * at233 + 100000 * fa234 := (by omega)
        have hz264 : (nd + 1) + 2 * at0 ≤ nd + 2 * at233 + (60 * (21 - ne) + 40) := (by omega)
        have hz265 : wr ≤ wr := (by omega)
        have hz266 : wr + at0 ≤ wr + at233 := (by omega)
        have hz267 : lk ≤ lk := (by omega)
        have hz268 : lk ≤ 60 + 100 * fa234 := (by omega)
        have hz269 : at0 + 1 ≤ at233 + fa234 := (by omega)
        have hz270 : nd ≤ (nd + 1) := (by omega)
        have hz271 : Kp B X221 wr T := hkp223
        have hz272 : If (fa234 = 0) (Low B X221 nd wr ∧ Frs K T wr X221 nd (nd + 1) 20000 [(nd, (280 + 4 * (21 - ne)))] ∧ kcl 3 (X221 9 nd) = true) := (fun e => absurd e (by omega))
        have hP : va_P G.1 pCl (mW G h0 a (upd (upd (upd (upd (upd (upd (upd F 15 (nI fa234)) 16 pl235) 27 (nI (nd + 1))) 31 (nI wr)) 64 (nI at233)) 65 (nI ne)) 66 (nI lk)) (updA X221 2 K)) _ := hP
        have hD : va_D A (mW G h0 a (upd (upd (upd (upd (upd (upd (upd F 15 (nI fa234)) 16 pl235) 27 (nI (nd + 1))) 31 (nI wr)) 64 (nI at233)) 65 (nI ne)) 66 (nI lk)) (updA X221 2 K)) := mW_D hD
        exact W.iret (v := (nI nd)) hx hb hr (fun t9 ht9 hW9 => ⟨⟨_, (at233, fa234, pl235, (nd + 1), lk, wr, nd, X221), rfl, ⟨rfl, hz259, hz260, hz261, hz262, hz263, hz264, hz265, hz266, hz267, hz268, hz269, hz270, hz271, hz272⟩, by rw [ht9]; exact hP, hD⟩, hS.F ht9⟩) hS.2.2 dX12_statementOf_353
    · refine lv_bipush (v := 38) hx hb dX12_statementOf_321 (by decide) ?_
      refine lv_goto (tgt := 328) hx hb dX12_statementOf_323 (by decide) ?_
      refine lv_iload_n hx hb dX12_statementOf_328 rfl (lv_at hl 0 rfl) ?_
      refine lv_iload_n hx hb dX12_statementOf_329 rfl (lv_at hl 0 rfl) ?_
      refine lv_iconst (v := (-1)) hx hb dX12_statementOf_330 (by decide) ?_
      refine lv_iconst (v := (-1)) hx hb dX12_statementOf_331 (by decide) ?_
      have hP : va_P G.1 pCl (mW G h0 a (upd (upd (upd (upd (upd (upd (upd F 15 0) 27 (nI nd)) 31 (nI wr)) 64 (nI at0)) 65 (nI ne)) 66 (nI lk)) 27 (nI nd)) (updA B 2 K)) _ := mW_to (F := F) (l1 := [(15, 0), (27, (nI nd)), (31, (nI wr)), (64, (nI at0)), (65, (nI ne)), (66, (nI lk))]) (l2 := [(15, 0), (27, (nI nd)), (31, (nI wr)), (64, (nI at0)), (65, (nI ne)), (66, (nI lk)), (27, (nI nd))]) (V := [0, (nI nd), (nI wr), (nI at0), (nI ne), (nI lk), 0, (nI nd), (nI wr), (nI at0), (nI ne), (nI lk), (nI nd)]) rfl rfl rfl hP
      have hD : va_D A (mW G h0 a (upd (upd (upd (upd (upd (upd (upd F 15 0) 27 (nI nd)) 31 (nI wr)) 64 (nI at0)) 65 (nI ne)) 66 (nI lk)) 27 (nI nd)) (updA B 2 K)) := mW_D hD
      refine pc_V0 (G := G) (As := [.int 38, .int (nI at0), .int (nI at0), .int (-1), .int (-1)]) (rest := []) hx hb hml hown hq hE hX pX0_al hP hD hS hA hl.1 (R_nodeB l G h0 a (upd (upd (upd (upd (upd (upd F 15 0) 27 (nI nd)) 31 (nI wr)) 64 (nI at0)) 65 (nI ne)) 66 (nI lk)) B 38 (nI at0) (nI at0) (-1) (-1) nd K (by omega)) (gV pw_1650 pw_1651 pw_1652 pw_1523 pw_1589) hV_X12_node 0 9 rfl rfl rfl rfl (Nat.le_of_ble_eq_true rfl) dX12_statementOf_332 ⟨Nat.le_of_ble_eq_true rfl, Nat.le_of_ble_eq_true rfl⟩ ⟨(by show 2 + 1 ≤ (26 * n + 44); omega), (by show 8 + (7 + 11) + 60 ≤ (2000 * n + 4400); omega)⟩ (fun v275 u273 H locs hw274 hP hD hS => ?_)
      obtain ⟨X276, rfl⟩ : ∃ z, z = u273 := ⟨_, rfl⟩
      obtain ⟨hw274, h277⟩ := hw274
      have h277 : NewN B X276 nd 38 (nI at0) (nI at0) (-1) (-1) := h277
      obtain rfl : v275 = some (.int (nI nd)) := hw274
      have hP : va_P G.1 pCl (mW G h0 a (upd (upd (upd (upd (upd (upd F 15 0) 27 (nI (nd + 1))) 31 (nI wr)) 64 (nI at0)) 65 (nI ne)) 66 (nI lk)) (updA X276 2 K)) _ := mW_to (F := F) (l1 := [(15, 0), (27, (nI nd)), (31, (nI wr)), (64, (nI at0)), (65, (nI ne)), (66, (nI lk)), (27, (nI (nd + 1)))]) (l2 := [(15, 0), (27, (nI (nd + 1))), (31, (nI wr)), (64, (nI at0)), (65, (nI ne)), (66, (nI lk))]) (V := [0, (nI (nd + 1)), (nI wr), (nI at0), (nI ne), (nI lk), (nI (nd + 1)), 0, (nI (nd + 1)), (nI wr), (nI at0), (nI ne), (nI lk)]) rfl rfl rfl hP
      have hD : va_D A (mW G h0 a (upd (upd (upd (upd (upd (upd F 15 0) 27 (nI (nd + 1))) 31 (nI wr)) 64 (nI at0)) 65 (nI ne)) 66 (nI lk)) (updA X276 2 K)) := mW_D hD
      refine W.widen (k := 0) (n := 0) (Nat.le_of_ble_eq_true rfl) (Nat.le_of_ble_eq_true rfl) ?_
      refine W.eq (g2 := F0 m 335 ls [.int (nI nd)]) rfl ?_
      have hkp278 : Kp B X276 wr T := (Kp.new hkp1 h277)
      have hlo279 : Low B X276 nd wr := (Low.new hlo2 h277 (by omega))
      have hf280 : Frs K T wr X276 nd (nd + 1) nd [(nd, 0)] := (Frs.new0 (k := 38) Frs.nil (Nat.le_refl _) (Nat.le_refl _) h277 rfl (by decide) (by decide) (by omega) (by omega) (fun e => absurd e (by decide)) (newOK.m1 (by decide)) (newOK.m1 (by decide)) (newOK.m1 (by decide)) (newOK.m1 (by decide)))
      have hn281 : Nd X276 nd 38 (-1) (-1) (-1) (-1) := (NewN.toNd h277)
      have hf282 : Frs K T wr X276 nd (nd + 1) 20000 [(nd, 0)] := (Frs.fin (k := 38) hf280 hn281 rfl (by decide) (fun h => absurd h (by decide)) (fun h => absurd h (by decide)) (fun h => absurd h (by decide)) (fun h => absurd h (by decide)))
      refine lv_istore_n (lv' := [(2, .int (nI nd)), (1, .int (nI at0)), (0, .ref h0)]) hx hb dX12_statementOf_335 rfl hl (by decide) rfl (fun ls hl => ?_)
      refine lv_aload_n hx hb dX12_statementOf_336 rfl (lv_at hl 2 rfl) ?_
      refine lv_dup hx hb dX12_statementOf_337 rfl ?_
      refine r_get (v := .int (nI at0)) hx hb hown hq hE hP 64 343 tFX12_64 (by decide) pw_1592 rfl dX12_statementOf_338 ?_
      refine lv_iconst (v := 1) hx hb dX12_statementOf_341 (by decide) ?_
      refine lv_iadd hx hb dX12_statementOf_342 ?_
      refine lv_topi (fun x283 e284 => ?_)
      obtain rfl : x283 = nI (at0 + 1) := e284.trans (nI_add (at0) (1))
      refine r_put (v := (nI (at0 + 1))) (ty := .int) hx hb hown hq hE hP hD hS 64 343 tFX12_64 (by decide) pw_1592 (by decide) rfl rfl (ms_64 a _ _) dX12_statementOf_343 (fun H locs hP hD hS => ?_)
      refine lv_aload_n hx hb dX12_statementOf_346 rfl (lv_at hl 2 rfl) ?_
      refine lv_bipush (v := 59) hx hb dX12_statementOf_347 (by decide) ?_
      have hP : va_P G.1 pCl (mW G h0 a (upd (upd (upd (upd (upd (upd (upd (upd F 15 0) 27 (nI (nd + 1))) 31 (nI wr)) 64 (nI (at0 + 1))) 65 (nI ne)) 66 (nI lk)) 15 (nI 0)) 64 (nI (at0 + 1))) (updA (updA X276 2 K) 2 K)) _ := mW_to (F := F) (l1 := [(15, 0), (27, (nI (nd + 1))), (31, (nI wr)), (64, (nI at0)), (65, (nI ne)), (66, (nI lk)), (64, (nI (at0 + 1)))]) (l2 := [(15, 0), (27, (nI (nd + 1))), (31, (nI wr)), (64, (nI (at0 + 1))), (65, (nI ne)), (66, (nI lk)), (15, (nI 0)), (64, (nI (at0 + 1)))]) (V := [(nI 0), (nI (nd + 1)), (nI wr), (nI (at0 + 1)), (nI ne), (nI lk), (nI (at0 + 1)), (nI 0), (nI (nd + 1)), (nI wr), (nI (at0 + 1)), (nI ne), (nI lk), (nI 0), (nI (at0 + 1))]) rfl rfl (show (updA X276 2 K) = (updA (updA X276 2 K) 2 K) from updsA_eq2 (F := X276) (l1 := [(2, K)]) (l2 := [(2, K), (2, K)]) (V := [K, K, K]) rfl rfl) hP
      have hD : va_D A (mW G h0 a (upd (upd (upd (upd (upd (upd (upd (upd F 15 0) 27 (nI (nd + 1))) 31 (nI wr)) 64 (nI (at0 + 1))) 65 (nI ne)) 66 (nI lk)) 15 (nI 0)) 64 (nI (at0 + 1))) (updA (updA X276 2 K) 2 K)) := mW_D hD
      refine pc_V0 (G := G) (As := [.int 59]) (rest := []) hx hb hml hown hq hE hX pX0_al hP hD hS hA hl.1 (R_take l G h0 a (upd (upd (upd (upd (upd (upd F 15 0) 27 (nI (nd + 1))) 31 (nI wr)) 64 (nI (at0 + 1))) 65 (nI ne)) 66 (nI lk)) (updA X276 2 K) (at0 + 1) T 0 K 59 (by omega) (by omega) hK (by omega) (by decide) (by decide)) (gV pw_1614 pw_1615 pw_1616 pw_1523 pw_1601) hV_X12_take 0 9 rfl rfl rfl rfl (Nat.le_of_ble_eq_true rfl) dX12_statementOf_349 ⟨Nat.le_of_ble_eq_true rfl, Nat.le_of_ble_eq_true rfl⟩ ⟨(by show 4 + 1 ≤ (26 * n + 44); omega), (by show 8 + (2 + 11) + 103 ≤ (2000 * n + 4400); omega)⟩ (fun v287 u285 H locs hw286 hP hD hS => ?_)
      obtain ⟨at288, fa289, pl290⟩ := u285
      obtain ⟨hw286, h291, h292, h293, h294, h295, h296, h297, h298⟩ := hw286
      have h291 : (at0 + 1) ≤ at288 := h291
      have h292 : at288 ≤ T := h292
      have h293 : 0 ≤ fa289 := h293
      have h294 : fa289 ≤ 100 := h294
      have h295 : If (0 < 0) (at288 = (at0 + 1) ∧ fa289 = 0) := h295
      have h296 : at288 ≤ (at0 + 1) + 1 := h296
      have h297 : (at0 + 1) + 1 ≤ at288 + fa289 := h297
      have h298 : If (fa289 = 0) (K (at0 + 1) = 59) := h298
      obtain rfl : v287 = none := hw286
      have hP : va_P G.1 pCl (mW G h0 a (upd (upd (upd (upd (upd (upd (upd F 15 (nI fa289)) 16 pl290) 27 (nI (nd + 1))) 31 (nI wr)) 64 (nI at288)) 65 (nI ne)) 66 (nI lk)) (updA X276 2 K)) _ := mW_to (F := F) (l1 := [(15, 0), (27, (nI (nd + 1))), (31, (nI wr)), (64, (nI (at0 + 1))), (65, (nI ne)), (66, (nI lk)), (15, (nI fa289)), (16, pl290), (64, (nI at288))]) (l2 := [(15, (nI fa289)), (16, pl290), (27, (nI (nd + 1))), (31, (nI wr)), (64, (nI at288)), (65, (nI ne)), (66, (nI lk))]) (V := [(nI fa289), (nI (nd + 1)), (nI wr), (nI at288), (nI ne), (nI lk), (nI fa289), pl290, (nI at288), (nI fa289), pl290, (nI (nd + 1)), (nI wr), (nI at288), (nI ne), (nI lk)]) rfl rfl (show (updA (updA X276 2 K) 2 K) = (updA X276 2 K) from updsA_eq2 (F := X276) (l1 := [(2, K), (2, K)]) (l2 := [(2, K)]) (V := [K, K, K]) rfl rfl) hP
      have hD : va_D A (mW G h0 a (upd (upd (upd (upd (upd (upd (upd F 15 (nI fa289)) 16 pl290) 27 (nI (nd + 1))) 31 (nI wr)) 64 (nI at288)) 65 (nI ne)) 66 (nI lk)) (updA X276 2 K)) := mW_D hD
      refine W.widen (k := 0) (n := 0) (Nat.le_of_ble_eq_true rfl) (Nat.le_of_ble_eq_true rfl) ?_
      refine W.eq (g2 := F0 m 352 ls []) rfl ?_
      rcases Nat.eq_zero_or_pos fa289 with e299 | e299
      · subst e299
        have hP : va_P G.1 pCl (mW G h0 a (upd (upd (upd (upd (upd (upd (upd F 15 0) 16 pl290) 27 (nI (nd + 1))) 31 (nI wr)) 64 (nI at288)) 65 (nI ne)) 66 (nI lk)) (updA X276 2 K)) _ := hP
        have hD : va_D A (mW G h0 a (upd (upd (upd (upd (upd (upd (upd F 15 0) 16 pl290) 27 (nI (nd + 1))) 31 (nI wr)) 64 (nI at288)) 65 (nI ne)) 66 (nI lk)) (updA X276 2 K)) := mW_D hD
        refine lv_iload_n hx hb dX12_statementOf_352 rfl (lv_at hl 0 rfl) ?_
        have hz300 : at0 ≤ at288 := (by omega)
        have hz301 : at288 ≤ T := (by omega)
        have hz302 : 0 ≤ 100 := (by omega)
        have hz303 : nd ≤ (nd + 1) := (by omega)
        have hz304 : (nd + 1) + 2 * at0 ≤ nd + 2 * at288 + 100000 * 0 := (by omega)
        have hz305 : (nd + 1) + 2 * at0 ≤ nd + 2 * at288 + (60 * (21 - ne) + 40) := (by omega)
        have hz306 : wr ≤ wr := (by omega)
        have hz307 : wr + at0 ≤ wr + at288 := (by omega)
        have hz308 : lk ≤ lk := (by omega)
        have hz309 : lk ≤ 60 + 100 * 0 := (by omega)
        have hz310 : at0 + 1 ≤ at288 + 0 := (by omega)
        have hz311 : nd ≤ (nd + 1) := (by omega)
        have hz312 : Kp B X276 wr T := hkp278
        have hz313 : If (0 = 0) (Low B X276 nd wr ∧ Frs K T wr X276 nd (nd + 1) 20000 [(nd, (280 + 4 * (21 - ne)))] ∧ kcl 3 (X276 9 nd) = true) := (fun _ => ⟨hlo279, Frs.up hf282 (by omega), (by rw [hn281.1]; decide)⟩)
        have hP : va_P G.1 pCl (mW G h0 a (upd (upd (upd (upd (upd (upd (upd F 15 (nI 0)) 16 pl290) 27 (nI (nd + 1))) 31 (nI wr)) 64 (nI at288)) 65 (nI ne)) 66 (nI lk)) (updA X276 2 K)) _ := mW_to (F := F) (l1 := [(15, 0), (16, pl290), (27, (nI (nd + 1))), (31, (nI wr)), (64, (nI at288)), (65, (nI ne)), (66, (nI lk))]) (l2 := [(15, (nI 0)), (16, pl290), (27, (nI (nd + 1))), (31, (nI wr)), (64, (nI at288)), (65, (nI ne)), (66, (nI lk))]) (V := [(nI 0), pl290, (nI (nd + 1)), (nI wr), (nI at288), (nI ne), (nI lk), (nI 0), pl290, (nI (nd + 1)), (nI wr), (nI at288), (nI ne), (nI lk)]) rfl rfl rfl hP
        have hD : va_D A (mW G h0 a (upd (upd (upd (upd (upd (upd (upd F 15 (nI 0)) 16 pl290) 27 (nI (nd + 1))) 31 (nI wr)) 64 (nI at288)) 65 (nI ne)) 66 (nI lk)) (updA X276 2 K)) := mW_D hD
        exact W.iret (v := (nI nd)) hx hb hr (fun t9 ht9 hW9 => ⟨⟨_, (at288, 0, pl290, (nd + 1), lk, wr, nd, X276), rfl, ⟨rfl, hz300, hz301, hz302, hz303, hz304, hz305, hz306, hz307, hz308, hz309, hz310, hz311, hz312, hz313⟩, by rw [ht9]; exact hP, hD⟩, hS.F ht9⟩) hS.2.2 dX12_statementOf_353
      · have e299 := e299
        refine lv_iload_n hx hb dX12_statementOf_352 rfl (lv_at hl 0 rfl) ?_
        have hz314 : at0 ≤ at288 := (by omega)
        have hz315 : at288 ≤ T := (by omega)
        have hz316 : fa289 ≤ 100 := (by omega)
        have hz317 : nd ≤ (nd + 1) := (by omega)
        have hz318 : (nd + 1) + 2 * at0 ≤ nd + 2 * at288 + 100000 * fa289 := (by omega)
        have hz319 : (nd + 1) + 2 * at0 ≤ nd + 2 * at288 + (60 * (21 - ne) + 40) := (by omega)
        have hz320 : wr ≤ wr := (by omega)
        have hz321 : wr + at0 ≤ wr + at288 := (by omega)
        have hz322 : lk ≤ lk := (by omega)
        have hz323 : lk ≤ 60 + 100 * fa289 := (by omega)
        have hz324 : at0 + 1 ≤ at288 + fa289 := (by omega)
        have hz325 : nd ≤ (nd + 1) := (by omega)
        have hz326 : Kp B X276 wr T := hkp278
        have hz327 : If (fa289 = 0) (Low B X276 nd wr ∧ Frs K T wr X276 nd (nd + 1) 20000 [(nd, (280 + 4 * (21 - ne)))] ∧ kcl 3 (X276 9 nd) = true) := (fun e => absurd e (by omega))
        have hP : va_P G.1 pCl (mW G h0 a (upd (upd (upd (upd (upd (upd (upd F 15 (nI fa289)) 16 pl290) 27 (nI (nd + 1))) 31 (nI wr)) 64 (nI at288)) 65 (nI ne)) 66 (nI lk)) (updA X276 2 K)) _ := hP
        have hD : va_D A (mW G h0 a (upd (upd (upd (upd (upd (upd (upd F 15 (nI fa289)) 16 pl290) 27 (nI (nd + 1))) 31 (nI wr)) 64 (nI at288)) 65 (nI ne)) 66 (nI lk)) (updA X276 2 K)) := mW_D hD
        exact W.iret (v := (nI nd)) hx hb hr (fun t9 ht9 hW9 => ⟨⟨_, (at288, fa289, pl290, (nd + 1), lk, wr, nd, X276), rfl, ⟨rfl, hz314, hz315, hz316, hz317, hz318, hz319, hz320, hz321, hz322, hz323, hz324, hz325, hz326, hz327⟩, by rw [ht9]; exact hP, hD⟩, hS.F ht9⟩) hS.2.2 dX12_statementOf_353
  by_cases h328 : (K at0) = 320
  · refine lv_lookup (tgt := 250) (off := 241) hx hb dX12_statementOf_9 (by decide) (by rw [h328]; decide) (by decide) ?_
    have n329 : at0 < T := tk_lt hat hK h328 (by decide) (by decide)
    refine lv_aload_n hx hb dX12_statementOf_250 rfl (lv_at hl 1 rfl) ?_
    have hP : va_P G.1 pCl (mW G h0 a (upd (upd (upd (upd (upd (upd (upd (upd (upd (upd (upd (upd F 15 0) 27 (nI nd)) 31 (nI wr)) 64 (nI at0)) 65 (nI ne)) 66 (nI lk)) 15 0) 27 (nI nd)) 31 (nI wr)) 64 (nI at0)) 65 (nI ne)) 66 (nI lk)) (updA B 2 K)) _ := mW_to (F := F) (l1 := [(15, 0), (27, (nI nd)), (31, (nI wr)), (64, (nI at0)), (65, (nI ne)), (66, (nI lk))]) (l2 := [(15, 0), (27, (nI nd)), (31, (nI wr)), (64, (nI at0)), (65, (nI ne)), (66, (nI lk)), (15, 0), (27, (nI nd)), (31, (nI wr)), (64, (nI at0)), (65, (nI ne)), (66, (nI lk))]) (V := [0, (nI nd), (nI wr), (nI at0), (nI ne), (nI lk), 0, (nI nd), (nI wr), (nI at0), (nI ne), (nI lk), 0, (nI nd), (nI wr), (nI at0), (nI ne), (nI lk)]) rfl rfl rfl hP
    have hD : va_D A (mW G h0 a (upd (upd (upd (upd (upd (upd (upd (upd (upd (upd (upd (upd F 15 0) 27 (nI nd)) 31 (nI wr)) 64 (nI at0)) 65 (nI ne)) 66 (nI lk)) 15 0) 27 (nI nd)) 31 (nI wr)) 64 (nI at0)) 65 (nI ne)) 66 (nI lk)) (updA B 2 K)) := mW_D hD
    refine pc_V0 (G := G) (As := []) (rest := []) hx hb hml hown hq hE hX pX0_al hP hD hS hA hl.1 (hLo h0 a (upd (upd (upd (upd (upd (upd F 15 0) 27 (nI nd)) 31 (nI wr)) 64 (nI at0)) 65 (nI ne)) 66 (nI lk)) B at0 T ne nd wr lk K (by omega) (by omega) hK (by omega) (by omega) (by omega) (by omega) (hkp1).2 (by omega) (by omega)) (gV pw_1714 pw_1715 pw_1716 pw_1523 pw_1692) hV_X12_loop 0 9 rfl rfl rfl rfl (Nat.le_of_ble_eq_true rfl) dX12_statementOf_251 ⟨Nat.le_of_ble_eq_true rfl, Nat.le_of_ble_eq_true rfl⟩ ⟨(by show (26 * n + 43) + 1 ≤ (26 * n + 44); omega), (by show 8 + (5 + 11) + (2000 * n + 4300) ≤ (2000 * n + 4400); omega)⟩ (fun v332 u330 H locs hw331 hP hD hS => ?_)
    obtain ⟨at333, fa334, pl335, nd336, lk337, wr338, r339, X340⟩ := u330
    obtain ⟨hw331, h341, h342, h343, h344, h345, h346, h347, h348, h349, h350, h351, h352, h353, h354⟩ := hw331
    have h341 : at0 ≤ at333 := h341
    have h342 : at333 ≤ T := h342
    have h343 : fa334 ≤ 100 := h343
    have h344 : nd ≤ nd336 := h344
    have h345 : nd336 + 2 * at0 ≤ nd + 2 * at333 + 100000 * fa334 := h345
    have h346 : nd336 + 2 * at0 ≤ nd + 2 * at333 + (60 * (21 - ne) + 40) := h346
    have h347 : wr ≤ wr338 := h347
    have h348 : wr338 + at0 ≤ wr + at333 := h348
    have h349 : lk ≤ lk337 := h349
    have h350 : lk337 ≤ 60 + 100 * fa334 := h350
    have h351 : at0 + 1 ≤ at333 + fa334 := h351
    have h352 : r339 ≤ nd336 := h352
    have h353 : Kp B X340 wr338 T := h353
    have h354 : If (fa334 = 0) (Low B X340 nd wr ∧ Frs K T wr338 X340 nd nd336 20000 [(r339, (280 + 4 * (21 - ne)))] ∧ kcl 3 (X340 9 r339) = true) := h354
    obtain rfl : v332 = some (.int (nI r339)) := hw331
    have hP : va_P G.1 pCl (mW G h0 a (upd (upd (upd (upd (upd (upd (upd F 15 (nI fa334)) 16 pl335) 27 (nI nd336)) 31 (nI wr338)) 64 (nI at333)) 65 (nI ne)) 66 (nI lk337)) (updA X340 2 K)) _ := mW_to (F := F) (l1 := [(15, 0), (27, (nI nd)), (31, (nI wr)), (64, (nI at0)), (65, (nI ne)), (66, (nI lk)), (15, (nI fa334)), (16, pl335), (27, (nI nd336)), (31, (nI wr338)), (64, (nI at333)), (65, (nI ne)), (66, (nI lk337))]) (l2 := [(15, (nI fa334)), (16, pl335), (27, (nI nd336)), (31, (nI wr338)), (64, (nI at333)), (65, (nI ne)), (66, (nI lk337))]) (V := [(nI fa334), (nI nd336), (nI wr338), (nI at333), (nI ne), (nI lk337), (nI fa334), pl335, (nI nd336), (nI wr338), (nI at333), (nI ne), (nI lk337), (nI fa334), pl335, (nI nd336), (nI wr338), (nI at333), (nI ne), (nI lk337)]) rfl rfl rfl hP
    have hD : va_D A (mW G h0 a (upd (upd (upd (upd (upd (upd (upd F 15 (nI fa334)) 16 pl335) 27 (nI nd336)) 31 (nI wr338)) 64 (nI at333)) 65 (nI ne)) 66 (nI lk337)) (updA X340 2 K)) := mW_D hD
    refine W.widen (k := 0) (n := 0) (Nat.le_of_ble_eq_true rfl) (Nat.le_of_ble_eq_true rfl) ?_
    refine W.eq (g2 := F0 m 254 ls [.int (nI r339)]) rfl ?_
    have hkp355 : Kp B X340 wr338 T := (Kp.trans hkp1 h353)
    rcases Nat.eq_zero_or_pos fa334 with e356 | e356
    · subst e356
      have hP : va_P G.1 pCl (mW G h0 a (upd (upd (upd (upd (upd (upd (upd F 15 0) 16 pl335) 27 (nI nd336)) 31 (nI wr338)) 64 (nI at333)) 65 (nI ne)) 66 (nI lk337)) (updA X340 2 K)) _ := hP
      have hD : va_D A (mW G h0 a (upd (upd (upd (upd (upd (upd (upd F 15 0) 16 pl335) 27 (nI nd336)) 31 (nI wr338)) 64 (nI at333)) 65 (nI ne)) 66 (nI lk337)) (updA X340 2 K)) := mW_D hD
      obtain ⟨hlw357, hf358, hc359⟩ := h354 rfl
      have hlo360 : Low B X340 nd wr := (Low.trans hlo2 hlw357 (by omega) (by omega))
      have hm361 := Frs.mem hf358
      have hz362 : at0 ≤ at333 := (by omega)
      have hz363 : at333 ≤ T := (by omega)
      have hz364 : 0 ≤ 100 := (by omega)
      have hz365 : nd ≤ nd336 := (by omega)
      have hz366 : nd336 + 2 * at0 ≤ nd + 2 * at333 + 100000 * 0 := (by omega)
      have hz367 : nd336 + 2 * at0 ≤ nd + 2 * at333 + (60 * (21 - ne) + 40) := (by omega)
      have hz368 : wr ≤ wr338 := (by omega)
      have hz369 : wr338 + at0 ≤ wr + at333 := (by omega)
      have hz370 : lk ≤ lk337 := (by omega)
      have hz371 : lk337 ≤ 60 + 100 * 0 := (by omega)
      have hz372 : at0 + 1 ≤ at333 + 0 := (by omega)
      have hz373 : r339 ≤ nd336 := (by omega)
      have hz374 : Kp B X340 wr338 T := hkp355
      have hz375 : If (0 = 0) (Low B X340 nd wr ∧ Frs K T wr338 X340 nd nd336 20000 [(r339, (280 + 4 * (21 - ne)))] ∧ kcl 3 (X340 9 r339) = true) := (fun _ => ⟨hlo360, Frs.up hf358 (by omega), hc359⟩)
      have hP : va_P G.1 pCl (mW G h0 a (upd (upd (upd (upd (upd (upd (upd F 15 (nI 0)) 16 pl335) 27 (nI nd336)) 31 (nI wr338)) 64 (nI at333)) 65 (nI ne)) 66 (nI lk337)) (updA X340 2 K)) _ := mW_to (F := F) (l1 := [(15, 0), (16, pl335), (27, (nI nd336)), (31, (nI wr338)), (64, (nI at333)), (65, (nI ne)), (66, (nI lk337))]) (l2 := [(15, (nI 0)), (16, pl335), (27, (nI nd336)), (31, (nI wr338)), (64, (nI at333)), (65, (nI ne)), (66, (nI lk337))]) (V := [(nI 0), pl335, (nI nd336), (nI wr338), (nI at333), (nI ne), (nI lk337), (nI 0), pl335, (nI nd336), (nI wr338), (nI at333), (nI ne), (nI lk337)]) rfl rfl rfl hP
      have hD : va_D A (mW G h0 a (upd (upd (upd (upd (upd (upd (upd F 15 (nI 0)) 16 pl335) 27 (nI nd336)) 31 (nI wr338)) 64 (nI at333)) 65 (nI ne)) 66 (nI lk337)) (updA X340 2 K)) := mW_D hD
      exact W.iret (v := (nI r339)) hx hb hr (fun t9 ht9 hW9 => ⟨⟨_, (at333, 0, pl335, nd336, lk337, wr338, r339, X340), rfl, ⟨rfl, hz362, hz363, hz364, hz365, hz366, hz367, hz368, hz369, hz370, hz371, hz372, hz373, hz374, hz375⟩, by rw [ht9]; exact hP, hD⟩, hS.F ht9⟩) hS.2.2 dX12_statementOf_254
    · have e356 := e356
      have hz376 : at0 ≤ at333 := (by omega)
      have hz377 : at333 ≤ T := (by omega)
      have hz378 : fa334 ≤ 100 := (by omega)
      have hz379 : nd ≤ nd336 := (by omega)
      have hz380 : nd336 + 2 * at0 ≤ nd + 2 * at333 + 100000 * fa334 := (by omega)
      have hz381 : nd336 + 2 * at0 ≤ nd + 2 * at333 + (60 * (21 - ne) + 40) := (by omega)
      have hz382 : wr ≤ wr338 := (by omega)
      have hz383 : wr338 + at0 ≤ wr + at333 := (by omega)
      have hz384 : lk ≤ lk337 := (by omega)
      have hz385 : lk337 ≤ 60 + 100 * fa334 := (by omega)
      have hz386 : at0 + 1 ≤ at333 + fa334 := (by omega)
      have hz387 : r339 ≤ nd336 := (by omega)
      have hz388 : Kp B X340 wr338 T := hkp355
      have hz389 : If (fa334 = 0) (Low B X340 nd wr ∧ Frs K T wr338 X340 nd nd336 20000 [(r339, (280 + 4 * (21 - ne)))] ∧ kcl 3 (X340 9 r339) = true) := (fun e => absurd e (by omega))
      have hP : va_P G.1 pCl (mW G h0 a (upd (upd (upd (upd (upd (upd (upd F 15 (nI fa334)) 16 pl335) 27 (nI nd336)) 31 (nI wr338)) 64 (nI at333)) 65 (nI ne)) 66 (nI lk337)) (updA X340 2 K)) _ := hP
      have hD : va_D A (mW G h0 a (upd (upd (upd (upd (upd (upd (upd F 15 (nI fa334)) 16 pl335) 27 (nI nd336)) 31 (nI wr338)) 64 (nI at333)) 65 (nI ne)) 66 (nI lk337)) (updA X340 2 K)) := mW_D hD
      exact W.iret (v := (nI r339)) hx hb hr (fun t9 ht9 hW9 => ⟨⟨_, (at333, fa334, pl335, nd336, lk337, wr338, r339, X340), rfl, ⟨rfl, hz376, hz377, hz378, hz379, hz380, hz381, hz382, hz383, hz384, hz385, hz386, hz387, hz388, hz389⟩, by rw [ht9]; exact hP, hD⟩, hS.F ht9⟩) hS.2.2 dX12_statementOf_254
  by_cases h390 : (K at0) = 321
  · refine lv_lookup (tgt := 134) (off := 125) hx hb dX12_statementOf_9 (by decide) (by rw [h390]; decide) (by decide) ?_
    have n391 : at0 < T := tk_lt hat hK h390 (by decide) (by decide)
    refine lv_aload_n hx hb dX12_statementOf_134 rfl (lv_at hl 1 rfl) ?_
    refine lv_dup hx hb dX12_statementOf_135 rfl ?_
    refine r_get (v := .int (nI at0)) hx hb hown hq hE hP 64 343 tFX12_64 (by decide) pw_1592 rfl dX12_statementOf_136 ?_
    refine lv_iconst (v := 1) hx hb dX12_statementOf_139 (by decide) ?_
    refine lv_iadd hx hb dX12_statementOf_140 ?_
    refine lv_topi (fun x392 e393 => ?_)
    obtain rfl : x392 = nI (at0 + 1) := e393.trans (nI_add (at0) (1))
    refine r_put (v := (nI (at0 + 1))) (ty := .int) hx hb hown hq hE hP hD hS 64 343 tFX12_64 (by decide) pw_1592 (by decide) rfl rfl (ms_64 a _ _) dX12_statementOf_141 (fun H locs hP hD hS => ?_)
    refine lv_aload_n hx hb dX12_statementOf_144 rfl (lv_at hl 1 rfl) ?_
    refine lv_bipush (v := 40) hx hb dX12_statementOf_145 (by decide) ?_
    have hP : va_P G.1 pCl (mW G h0 a (upd (upd (upd (upd (upd (upd (upd (upd F 15 0) 27 (nI nd)) 31 (nI wr)) 64 (nI (at0 + 1))) 65 (nI ne)) 66 (nI lk)) 15 (nI 0)) 64 (nI (at0 + 1))) (updA (updA B 2 K) 2 K)) _ := mW_to (F := F) (l1 := [(15, 0), (27, (nI nd)), (31, (nI wr)), (64, (nI at0)), (65, (nI ne)), (66, (nI lk)), (64, (nI (at0 + 1)))]) (l2 := [(15, 0), (27, (nI nd)), (31, (nI wr)), (64, (nI (at0 + 1))), (65, (nI ne)), (66, (nI lk)), (15, (nI 0)), (64, (nI (at0 + 1)))]) (V := [(nI 0), (nI nd), (nI wr), (nI (at0 + 1)), (nI ne), (nI lk), (nI (at0 + 1)), (nI 0), (nI nd), (nI wr), (nI (at0 + 1)), (nI ne), (nI lk), (nI 0), (nI (at0 + 1))]) rfl rfl (show (updA B 2 K) = (updA (updA B 2 K) 2 K) from updsA_eq2 (F := B) (l1 := [(2, K)]) (l2 := [(2, K), (2, K)]) (V := [K, K, K]) rfl rfl) hP
    have hD : va_D A (mW G h0 a (upd (upd (upd (upd (upd (upd (upd (upd F 15 0) 27 (nI nd)) 31 (nI wr)) 64 (nI (at0 + 1))) 65 (nI ne)) 66 (nI lk)) 15 (nI 0)) 64 (nI (at0 + 1))) (updA (updA B 2 K) 2 K)) := mW_D hD
    refine pc_V0 (G := G) (As := [.int 40]) (rest := []) hx hb hml hown hq hE hX pX0_al hP hD hS hA hl.1 (R_take l G h0 a (upd (upd (upd (upd (upd (upd F 15 0) 27 (nI nd)) 31 (nI wr)) 64 (nI (at0 + 1))) 65 (nI ne)) 66 (nI lk)) (updA B 2 K) (at0 + 1) T 0 K 40 (by omega) (by omega) hK (by omega) (by decide) (by decide)) (gV pw_1614 pw_1615 pw_1616 pw_1523 pw_1601) hV_X12_take 0 9 rfl rfl rfl rfl (Nat.le_of_ble_eq_true rfl) dX12_statementOf_147 ⟨Nat.le_of_ble_eq_true rfl, Nat.le_of_ble_eq_true rfl⟩ ⟨(by show 4 + 1 ≤ (26 * n + 44); omega), (by show 8 + (2 + 11) + 103 ≤ (2000 * n + 4400); omega)⟩ (fun v396 u394 H locs hw395 hP hD hS => ?_)
    obtain ⟨at397, fa398, pl399⟩ := u394
    obtain ⟨hw395, h400, h401, h402, h403, h404, h405, h406, h407⟩ := hw395
    have h400 : (at0 + 1) ≤ at397 := h400
    have h401 : at397 ≤ T := h401
    have h402 : 0 ≤ fa398 := h402
    have h403 : fa398 ≤ 100 := h403
    have h404 : If (0 < 0) (at397 = (at0 + 1) ∧ fa398 = 0) := h404
    have h405 : at397 ≤ (at0 + 1) + 1 := h405
    have h406 : (at0 + 1) + 1 ≤ at397 + fa398 := h406
    have h407 : If (fa398 = 0) (K (at0 + 1) = 40) := h407
    obtain rfl : v396 = none := hw395
    have hP : va_P G.1 pCl (mW G h0 a (upd (upd (upd (upd (upd (upd (upd F 15 (nI fa398)) 16 pl399) 27 (nI nd)) 31 (nI wr)) 64 (nI at397)) 65 (nI ne)) 66 (nI lk)) (updA B 2 K)) _ := mW_to (F := F) (l1 := [(15, 0), (27, (nI nd)), (31, (nI wr)), (64, (nI (at0 + 1))), (65, (nI ne)), (66, (nI lk)), (15, (nI fa398)), (16, pl399), (64, (nI at397))]) (l2 := [(15, (nI fa398)), (16, pl399), (27, (nI nd)), (31, (nI wr)), (64, (nI at397)), (65, (nI ne)), (66, (nI lk))]) (V := [(nI fa398), (nI nd), (nI wr), (nI at397), (nI ne), (nI lk), (nI fa398), pl399, (nI at397), (nI fa398), pl399, (nI nd), (nI wr), (nI at397), (nI ne), (nI lk)]) rfl rfl (show (updA (updA B 2 K) 2 K) = (updA B 2 K) from updsA_eq2 (F := B) (l1 := [(2, K), (2, K)]) (l2 := [(2, K)]) (V := [K, K, K]) rfl rfl) hP
    have hD : va_D A (mW G h0 a (upd (upd (upd (upd (upd (upd (upd F 15 (nI fa398)) 16 pl399) 27 (nI nd)) 31 (nI wr)) 64 (nI at397)) 65 (nI ne)) 66 (nI lk)) (updA B 2 K)) := mW_D hD
    refine W.widen (k := 0) (n := 0) (Nat.le_of_ble_eq_true rfl) (Nat.le_of_ble_eq_true rfl) ?_
    refine W.eq (g2 := F0 m 150 ls []) rfl ?_
    rcases Nat.eq_zero_or_pos fa398 with e408 | e408
    · subst e408
      have hP : va_P G.1 pCl (mW G h0 a (upd (upd (upd (upd (upd (upd (upd F 15 0) 16 pl399) 27 (nI nd)) 31 (nI wr)) 64 (nI at397)) 65 (nI ne)) 66 (nI lk)) (updA B 2 K)) _ := hP
      have hD : va_D A (mW G h0 a (upd (upd (upd (upd (upd (upd (upd F 15 0) 16 pl399) 27 (nI nd)) 31 (nI wr)) 64 (nI at397)) 65 (nI ne)) 66 (nI lk)) (updA B 2 K)) := mW_D hD
      refine lv_aload_n hx hb dX12_statementOf_150 rfl (lv_at hl 1 rfl) ?_
      refine lv_bipush (v := 34) hx hb dX12_statementOf_151 (by decide) ?_
      refine lv_iload_n hx hb dX12_statementOf_153 rfl (lv_at hl 0 rfl) ?_
      refine lv_iload_n hx hb dX12_statementOf_154 rfl (lv_at hl 0 rfl) ?_
      refine lv_aload_n hx hb dX12_statementOf_155 rfl (lv_at hl 1 rfl) ?_
      have hP : va_P G.1 pCl (mW G h0 a (upd (upd (upd (upd (upd (upd (upd (upd (upd (upd (upd (upd (upd F 15 0) 16 pl399) 27 (nI nd)) 31 (nI wr)) 64 (nI at397)) 65 (nI ne)) 66 (nI lk)) 15 0) 27 (nI nd)) 31 (nI wr)) 64 (nI at397)) 65 (nI ne)) 66 (nI lk)) (updA B 2 K)) _ := mW_to (F := F) (l1 := [(15, 0), (16, pl399), (27, (nI nd)), (31, (nI wr)), (64, (nI at397)), (65, (nI ne)), (66, (nI lk))]) (l2 := [(15, 0), (16, pl399), (27, (nI nd)), (31, (nI wr)), (64, (nI at397)), (65, (nI ne)), (66, (nI lk)), (15, 0), (27, (nI nd)), (31, (nI wr)), (64, (nI at397)), (65, (nI ne)), (66, (nI lk))]) (V := [0, pl399, (nI nd), (nI wr), (nI at397), (nI ne), (nI lk), 0, pl399, (nI nd), (nI wr), (nI at397), (nI ne), (nI lk), 0, (nI nd), (nI wr), (nI at397), (nI ne), (nI lk)]) rfl rfl rfl hP
      have hD : va_D A (mW G h0 a (upd (upd (upd (upd (upd (upd (upd (upd (upd (upd (upd (upd (upd F 15 0) 16 pl399) 27 (nI nd)) 31 (nI wr)) 64 (nI at397)) 65 (nI ne)) 66 (nI lk)) 15 0) 27 (nI nd)) 31 (nI wr)) 64 (nI at397)) 65 (nI ne)) 66 (nI lk)) (updA B 2 K)) := mW_D hD
      refine pc_V0 (G := G) (As := []) (rest := [.int (nI at0), .int (nI at0), .int 34, .ref h0]) hx hb hml hown hq hE hX pX0_al hP hD hS hA hl.1 (hEc h0 a (upd (upd (upd (upd (upd (upd (upd F 15 0) 16 pl399) 27 (nI nd)) 31 (nI wr)) 64 (nI at397)) 65 (nI ne)) 66 (nI lk)) B at397 T ne nd wr lk K (by omega) (by omega) hK (by omega) (by omega) (by omega) (by omega) (hkp1).2 (by omega)) (gV pw_1640 pw_1641 pw_1642 pw_1523 pw_1656) hV_X12_choice 0 9 rfl rfl rfl rfl (Nat.le_of_ble_eq_true rfl) dX12_statementOf_156 ⟨Nat.le_of_ble_eq_true rfl, Nat.le_of_ble_eq_true rfl⟩ ⟨(by show (20 * n + 27) + 1 ≤ (26 * n + 44); omega), (by show 8 + (4 + 11) + (1000 * n + 40 * 27) ≤ (2000 * n + 4400); omega)⟩ (fun v411 u409 H locs hw410 hP hD hS => ?_)
      obtain ⟨at412, fa413, pl414, nd415, lk416, wr417, r418, X419⟩ := u409
      obtain ⟨hw410, h420, h421, h422, h423, h424, h425, h426, h427, h428, h429, h430, h431, h432, h433⟩ := hw410
      have h420 : at397 ≤ at412 := h420
      have h421 : at412 ≤ T := h421
      have h422 : fa413 ≤ 100 := h422
      have h423 : nd ≤ nd415 := h423
      have h424 : nd415 + 2 * at397 ≤ nd + 2 * at412 + 100000 * fa413 := h424
      have h425 : nd415 + 2 * at397 ≤ nd + 2 * at412 + 40 * (21 - ne) := h425
      have h426 : wr ≤ wr417 := h426
      have h427 : wr417 + at397 ≤ wr + at412 := h427
      have h428 : lk ≤ lk416 := h428
      have h429 : lk416 ≤ 60 + 100 * fa413 := h429
      have h430 : at397 + 1 ≤ at412 + fa413 := h430
      have h431 : r418 ≤ nd415 := h431
      have h432 : Kp B X419 wr417 T := h432
      have h433 : If (fa413 = 0) (Low B X419 nd wr ∧ Frs K T wr417 X419 nd nd415 20000 [(r418, (211 + lk416 - (10 * ne + lk)))] ∧ kcl 1 (X419 9 r418) = true) := h433
      obtain rfl : v411 = some (.int (nI r418)) := hw410
      have hP : va_P G.1 pCl (mW G h0 a (upd (upd (upd (upd (upd (upd (upd F 15 (nI fa413)) 16 pl414) 27 (nI nd415)) 31 (nI wr417)) 64 (nI at412)) 65 (nI ne)) 66 (nI lk416)) (updA X419 2 K)) _ := mW_to (F := F) (l1 := [(15, 0), (16, pl399), (27, (nI nd)), (31, (nI wr)), (64, (nI at397)), (65, (nI ne)), (66, (nI lk)), (15, (nI fa413)), (16, pl414), (27, (nI nd415)), (31, (nI wr417)), (64, (nI at412)), (65, (nI ne)), (66, (nI lk416))]) (l2 := [(15, (nI fa413)), (16, pl414), (27, (nI nd415)), (31, (nI wr417)), (64, (nI at412)), (65, (nI ne)), (66, (nI lk416))]) (V := [(nI fa413), pl414, (nI nd415), (nI wr417), (nI at412), (nI ne), (nI lk416), (nI fa413), pl414, (nI nd415), (nI wr417), (nI at412), (nI ne), (nI lk416), (nI fa413), pl414, (nI nd415), (nI wr417), (nI at412), (nI ne), (nI lk416)]) rfl rfl rfl hP
      have hD : va_D A (mW G h0 a (upd (upd (upd (upd (upd (upd (upd F 15 (nI fa413)) 16 pl414) 27 (nI nd415)) 31 (nI wr417)) 64 (nI at412)) 65 (nI ne)) 66 (nI lk416)) (updA X419 2 K)) := mW_D hD
      refine W.widen (k := 0) (n := 0) (Nat.le_of_ble_eq_true rfl) (Nat.le_of_ble_eq_true rfl) ?_
      refine W.eq (g2 := F0 m 159 ls [.int (nI r418), .int (nI at0), .int (nI at0), .int 34, .ref h0]) rfl ?_
      have hkp434 : Kp B X419 wr417 T := (Kp.trans hkp1 h432)
      rcases Nat.eq_zero_or_pos fa413 with e435 | e435
      · subst e435
        have hP : va_P G.1 pCl (mW G h0 a (upd (upd (upd (upd (upd (upd (upd F 15 0) 16 pl414) 27 (nI nd415)) 31 (nI wr417)) 64 (nI at412)) 65 (nI ne)) 66 (nI lk416)) (updA X419 2 K)) _ := hP
        have hD : va_D A (mW G h0 a (upd (upd (upd (upd (upd (upd (upd F 15 0) 16 pl414) 27 (nI nd415)) 31 (nI wr417)) 64 (nI at412)) 65 (nI ne)) 66 (nI lk416)) (updA X419 2 K)) := mW_D hD
        obtain ⟨hlw436, hf437, hc438⟩ := h433 rfl
        have hlo439 : Low B X419 nd wr := (Low.trans hlo2 hlw436 (by omega) (by omega))
        have hm440 := Frs.mem hf437
        refine lv_iconst (v := (-1)) hx hb dX12_statementOf_159 (by decide) ?_
        have hP : va_P G.1 pCl (mW G h0 a (upd (upd (upd (upd (upd (upd (upd (upd F 15 0) 16 pl414) 27 (nI nd415)) 31 (nI wr417)) 64 (nI at412)) 65 (nI ne)) 66 (nI lk416)) 27 (nI nd415)) (updA X419 2 K)) _ := mW_to (F := F) (l1 := [(15, 0), (16, pl414), (27, (nI nd415)), (31, (nI wr417)), (64, (nI at412)), (65, (nI ne)), (66, (nI lk416))]) (l2 := [(15, 0), (16, pl414), (27, (nI nd415)), (31, (nI wr417)), (64, (nI at412)), (65, (nI ne)), (66, (nI lk416)), (27, (nI nd415))]) (V := [0, pl414, (nI nd415), (nI wr417), (nI at412), (nI ne), (nI lk416), 0, pl414, (nI nd415), (nI wr417), (nI at412), (nI ne), (nI lk416), (nI nd415)]) rfl rfl rfl hP
        have hD : va_D A (mW G h0 a (upd (upd (upd (upd (upd (upd (upd (upd F 15 0) 16 pl414) 27 (nI nd415)) 31 (nI wr417)) 64 (nI at412)) 65 (nI ne)) 66 (nI lk416)) 27 (nI nd415)) (updA X419 2 K)) := mW_D hD
        refine pc_V0 (G := G) (As := [.int 34, .int (nI at0), .int (nI at0), .int (nI r418), .int (-1)]) (rest := []) hx hb hml hown hq hE hX pX0_al hP hD hS hA hl.1 (R_nodeB l G h0 a (upd (upd (upd (upd (upd (upd (upd F 15 0) 16 pl414) 27 (nI nd415)) 31 (nI wr417)) 64 (nI at412)) 65 (nI ne)) 66 (nI lk416)) X419 34 (nI at0) (nI at0) (nI r418) (-1) nd415 K (by omega)) (gV pw_1650 pw_1651 pw_1652 pw_1523 pw_1589) hV_X12_node 0 9 rfl rfl rfl rfl (Nat.le_of_ble_eq_true rfl) dX12_statementOf_160 ⟨Nat.le_of_ble_eq_true rfl, Nat.le_of_ble_eq_true rfl⟩ ⟨(by show 2 + 1 ≤ (26 * n + 44); omega), (by show 8 + (7 + 11) + 60 ≤ (2000 * n + 4400); omega)⟩ (fun v443 u441 H locs hw442 hP hD hS => ?_)
        obtain ⟨X444, rfl⟩ : ∃ z, z = u441 := ⟨_, rfl⟩
        obtain ⟨hw442, h445⟩ := hw442
        have h445 : NewN X419 X444 nd415 34 (nI at0) (nI at0) (nI r418) (-1) := h445
        obtain rfl : v443 = some (.int (nI nd415)) := hw442
        have hP : va_P G.1 pCl (mW G h0 a (upd (upd (upd (upd (upd (upd (upd F 15 0) 16 pl414) 27 (nI (nd415 + 1))) 31 (nI wr417)) 64 (nI at412)) 65 (nI ne)) 66 (nI lk416)) (updA X444 2 K)) _ := mW_to (F := F) (l1 := [(15, 0), (16, pl414), (27, (nI nd415)), (31, (nI wr417)), (64, (nI at412)), (65, (nI ne)), (66, (nI lk416)), (27, (nI (nd415 + 1)))]) (l2 := [(15, 0), (16, pl414), (27, (nI (nd415 + 1))), (31, (nI wr417)), (64, (nI at412)), (65, (nI ne)), (66, (nI lk416))]) (V := [0, pl414, (nI (nd415 + 1)), (nI wr417), (nI at412), (nI ne), (nI lk416), (nI (nd415 + 1)), 0, pl414, (nI (nd415 + 1)), (nI wr417), (nI at412), (nI ne), (nI lk416)]) rfl rfl rfl hP
        have hD : va_D A (mW G h0 a (upd (upd (upd (upd (upd (upd (upd F 15 0) 16 pl414) 27 (nI (nd415 + 1))) 31 (nI wr417)) 64 (nI at412)) 65 (nI ne)) 66 (nI lk416)) (updA X444 2 K)) := mW_D hD
        refine W.widen (k := 0) (n := 0) (Nat.le_of_ble_eq_true rfl) (Nat.le_of_ble_eq_true rfl) ?_
        refine W.eq (g2 := F0 m 163 ls [.int (nI nd415)]) rfl ?_
        have hkp446 : Kp B X444 wr417 T := (Kp.new hkp434 h445)
        have hlo447 : Low B X444 nd wr := (Low.new hlo439 h445 (by omega))
        have hc448 : kcl 1 (X444 9 r418) = true := by rw [h445.2.1 9 r418 (by omega)]; exact hc438
        have hf449 : Frs K T wr417 X444 nd (nd415 + 1) nd415 [(nd415, (280 + 4 * (21 - ne)))] := (Frs.new1 (k := 34) hf437 (by omega) (by omega) (by omega) h445 rfl rfl (by decide) (by decide) (by omega) (by omega) (by decide) (by simp) ⟨by decide, by decide, by decide, by decide⟩ hc438 (newOK.m1 (by decide)) (newOK.m1 (by decide)) (newOK.m1 (by decide)) (by omega))
        have hn450 : Nd X444 nd415 34 (nI r418) (-1) (-1) (-1) := (NewN.toNd h445)
        refine lv_istore_n (lv' := [(2, .int (nI nd415)), (1, .int (nI at0)), (0, .ref h0)]) hx hb dX12_statementOf_163 rfl hl (by decide) rfl (fun ls hl => ?_)
        refine lv_aload_n hx hb dX12_statementOf_164 rfl (lv_at hl 2 rfl) ?_
        refine lv_bipush (v := 41) hx hb dX12_statementOf_165 (by decide) ?_
        have hP : va_P G.1 pCl (mW G h0 a (upd (upd (upd (upd (upd (upd (upd (upd (upd F 15 0) 16 pl414) 27 (nI (nd415 + 1))) 31 (nI wr417)) 64 (nI at412)) 65 (nI ne)) 66 (nI lk416)) 15 (nI 0)) 64 (nI at412)) (updA (updA X444 2 K) 2 K)) _ := mW_to (F := F) (l1 := [(15, 0), (16, pl414), (27, (nI (nd415 + 1))), (31, (nI wr417)), (64, (nI at412)), (65, (nI ne)), (66, (nI lk416))]) (l2 := [(15, 0), (16, pl414), (27, (nI (nd415 + 1))), (31, (nI wr417)), (64, (nI at412)), (65, (nI ne)), (66, (nI lk416)), (15, (nI 0)), (64, (nI at412))]) (V := [(nI 0), pl414, (nI (nd415 + 1)), (nI wr417), (nI at412), (nI ne), (nI lk416), (nI 0), pl414, (nI (nd415 + 1)), (nI wr417), (nI at412), (nI ne), (nI lk416), (nI 0), (nI at412)]) rfl rfl (show (updA X444 2 K) = (updA (updA X444 2 K) 2 K) from updsA_eq2 (F := X444) (l1 := [(2, K)]) (l2 := [(2, K), (2, K)]) (V := [K, K, K]) rfl rfl) hP
        have hD : va_D A (mW G h0 a (upd (upd (upd (upd (upd (upd (upd (upd (upd F 15 0) 16 pl414) 27 (nI (nd415 + 1))) 31 (nI wr417)) 64 (nI at412)) 65 (nI ne)) 66 (nI lk416)) 15 (nI 0)) 64 (nI at412)) (updA (updA X444 2 K) 2 K)) := mW_D hD
        refine pc_V0 (G := G) (As := [.int 41]) (rest := []) hx hb hml hown hq hE hX pX0_al hP hD hS hA hl.1 (R_take l G h0 a (upd (upd (upd (upd (upd (upd (upd F 15 0) 16 pl414) 27 (nI (nd415 + 1))) 31 (nI wr417)) 64 (nI at412)) 65 (nI ne)) 66 (nI lk416)) (updA X444 2 K) at412 T 0 K 41 (by omega) (by omega) hK (by omega) (by decide) (by decide)) (gV pw_1614 pw_1615 pw_1616 pw_1523 pw_1601) hV_X12_take 0 9 rfl rfl rfl rfl (Nat.le_of_ble_eq_true rfl) dX12_statementOf_167 ⟨Nat.le_of_ble_eq_true rfl, Nat.le_of_ble_eq_true rfl⟩ ⟨(by show 4 + 1 ≤ (26 * n + 44); omega), (by show 8 + (2 + 11) + 103 ≤ (2000 * n + 4400); omega)⟩ (fun v453 u451 H locs hw452 hP hD hS => ?_)
        obtain ⟨at454, fa455, pl456⟩ := u451
        obtain ⟨hw452, h457, h458, h459, h460, h461, h462, h463, h464⟩ := hw452
        have h457 : at412 ≤ at454 := h457
        have h458 : at454 ≤ T := h458
        have h459 : 0 ≤ fa455 := h459
        have h460 : fa455 ≤ 100 := h460
        have h461 : If (0 < 0) (at454 = at412 ∧ fa455 = 0) := h461
        have h462 : at454 ≤ at412 + 1 := h462
        have h463 : at412 + 1 ≤ at454 + fa455 := h463
        have h464 : If (fa455 = 0) (K at412 = 41) := h464
        obtain rfl : v453 = none := hw452
        have hP : va_P G.1 pCl (mW G h0 a (upd (upd (upd (upd (upd (upd (upd F 15 (nI fa455)) 16 pl456) 27 (nI (nd415 + 1))) 31 (nI wr417)) 64 (nI at454)) 65 (nI ne)) 66 (nI lk416)) (updA X444 2 K)) _ := mW_to (F := F) (l1 := [(15, 0), (16, pl414), (27, (nI (nd415 + 1))), (31, (nI wr417)), (64, (nI at412)), (65, (nI ne)), (66, (nI lk416)), (15, (nI fa455)), (16, pl456), (64, (nI at454))]) (l2 := [(15, (nI fa455)), (16, pl456), (27, (nI (nd415 + 1))), (31, (nI wr417)), (64, (nI at454)), (65, (nI ne)), (66, (nI lk416))]) (V := [(nI fa455), pl456, (nI (nd415 + 1)), (nI wr417), (nI at454), (nI ne), (nI lk416), (nI fa455), pl456, (nI at454), (nI fa455), pl456, (nI (nd415 + 1)), (nI wr417), (nI at454), (nI ne), (nI lk416)]) rfl rfl (show (updA (updA X444 2 K) 2 K) = (updA X444 2 K) from updsA_eq2 (F := X444) (l1 := [(2, K), (2, K)]) (l2 := [(2, K)]) (V := [K, K, K]) rfl rfl) hP
        have hD : va_D A (mW G h0 a (upd (upd (upd (upd (upd (upd (upd F 15 (nI fa455)) 16 pl456) 27 (nI (nd415 + 1))) 31 (nI wr417)) 64 (nI at454)) 65 (nI ne)) 66 (nI lk416)) (updA X444 2 K)) := mW_D hD
        refine W.widen (k := 0) (n := 0) (Nat.le_of_ble_eq_true rfl) (Nat.le_of_ble_eq_true rfl) ?_
        refine W.eq (g2 := F0 m 170 ls []) rfl ?_
        rcases Nat.eq_zero_or_pos fa455 with e465 | e465
        · subst e465
          have hP : va_P G.1 pCl (mW G h0 a (upd (upd (upd (upd (upd (upd (upd F 15 0) 16 pl456) 27 (nI (nd415 + 1))) 31 (nI wr417)) 64 (nI at454)) 65 (nI ne)) 66 (nI lk416)) (updA X444 2 K)) _ := hP
          have hD : va_D A (mW G h0 a (upd (upd (upd (upd (upd (upd (upd F 15 0) 16 pl456) 27 (nI (nd415 + 1))) 31 (nI wr417)) 64 (nI at454)) 65 (nI ne)) 66 (nI lk416)) (updA X444 2 K)) := mW_D hD
          refine lv_aload_n hx hb dX12_statementOf_170 rfl (lv_at hl 2 rfl) ?_
          refine r_get (v := .ref (a 13)) hx hb hown hq hE hP 21 50 tFX12_21 (by decide) pw_1443 rfl dX12_statementOf_171 ?_
          refine lv_iload_n hx hb dX12_statementOf_174 rfl (lv_at hl 0 rfl) ?_
          refine lv_aload_n hx hb dX12_statementOf_175 rfl (lv_at hl 2 rfl) ?_
          have hP : va_P G.1 pCl (mW G h0 a (upd (upd (upd (upd (upd (upd (upd (upd (upd (upd (upd (upd (upd F 15 0) 16 pl456) 27 (nI (nd415 + 1))) 31 (nI wr417)) 64 (nI at454)) 65 (nI ne)) 66 (nI lk416)) 15 0) 27 (nI (nd415 + 1))) 31 (nI wr417)) 64 (nI at454)) 65 (nI ne)) 66 (nI lk416)) (updA X444 2 K)) _ := mW_to (F := F) (l1 := [(15, 0), (16, pl456), (27, (nI (nd415 + 1))), (31, (nI wr417)), (64, (nI at454)), (65, (nI ne)), (66, (nI lk416))]) (l2 := [(15, 0), (16, pl456), (27, (nI (nd415 + 1))), (31, (nI wr417)), (64, (nI at454)), (65, (nI ne)), (66, (nI lk416)), (15, 0), (27, (nI (nd415 + 1))), (31, (nI wr417)), (64, (nI at454)), (65, (nI ne)), (66, (nI lk416))]) (V := [0, pl456, (nI (nd415 + 1)), (nI wr417), (nI at454), (nI ne), (nI lk416), 0, pl456, (nI (nd415 + 1)), (nI wr417), (nI at454), (nI ne), (nI lk416), 0, (nI (nd415 + 1)), (nI wr417), (nI at454), (nI ne), (nI lk416)]) rfl rfl rfl hP
          have hD : va_D A (mW G h0 a (upd (upd (upd (upd (upd (upd (upd (upd (upd (upd (upd (upd (upd F 15 0) 16 pl456) 27 (nI (nd415 + 1))) 31 (nI wr417)) 64 (nI at454)) 65 (nI ne)) 66 (nI lk416)) 15 0) 27 (nI (nd415 + 1))) 31 (nI wr417)) 64 (nI at454)) 65 (nI ne)) 66 (nI lk416)) (updA X444 2 K)) := mW_D hD
          refine pc_V0 (G := G) (As := []) (rest := [.int (nI nd415), .ref (a 13)]) hx hb hml hown hq hE hX pX0_al hP hD hS hA hl.1 (hSt h0 a (upd (upd (upd (upd (upd (upd (upd F 15 0) 16 pl456) 27 (nI (nd415 + 1))) 31 (nI wr417)) 64 (nI at454)) 65 (nI ne)) 66 (nI lk416)) X444 at454 T ne (nd415 + 1) wr417 lk416 K (by omega) (by omega) hK (by omega) (by omega) (by omega) (by omega) (hkp446).2 (by omega)) (gV pw_1699 pw_1700 pw_1701 pw_1523 pw_1706) hV_X12_statement 0 9 rfl rfl rfl rfl (Nat.le_of_ble_eq_true rfl) dX12_statementOf_176 ⟨Nat.le_of_ble_eq_true rfl, Nat.le_of_ble_eq_true rfl⟩ ⟨(by show (26 * n + 40) + 1 ≤ (26 * n + 44); omega), (by show 8 + (3 + 11) + (2000 * n + 4000) ≤ (2000 * n + 4400); omega)⟩ (fun v468 u466 H locs hw467 hP hD hS => ?_)
          obtain ⟨at469, fa470, pl471, nd472, lk473, wr474, r475, X476⟩ := u466
          obtain ⟨hw467, h477, h478, h479, h480, h481, h482, h483, h484, h485, h486, h487, h488, h489, h490⟩ := hw467
          have h477 : at454 ≤ at469 := h477
          have h478 : at469 ≤ T := h478
          have h479 : fa470 ≤ 100 := h479
          have h480 : (nd415 + 1) ≤ nd472 := h480
          have h481 : nd472 + 2 * at454 ≤ (nd415 + 1) + 2 * at469 + 100000 * fa470 := h481
          have h482 : nd472 + 2 * at454 ≤ (nd415 + 1) + 2 * at469 + (60 * (20 - ne) + 40) := h482
          have h483 : wr417 ≤ wr474 := h483
          have h484 : wr474 + at454 ≤ wr417 + at469 := h484
          have h485 : lk416 ≤ lk473 := h485
          have h486 : lk473 ≤ lk416 := h486
          have h487 : at454 + 1 ≤ at469 + fa470 := h487
          have h488 : r475 ≤ nd472 := h488
          have h489 : Kp X444 X476 wr474 T := h489
          have h490 : If (fa470 = 0) (Low X444 X476 (nd415 + 1) wr417 ∧ Frs K T wr474 X476 (nd415 + 1) nd472 20000 [(r475, (280 + 4 * (20 - ne)))] ∧ kcl 3 (X476 9 r475) = true) := h490
          obtain rfl : v468 = some (.int (nI r475)) := hw467
          have hP : va_P G.1 pCl (mW G h0 a (upd (upd (upd (upd (upd (upd (upd F 15 (nI fa470)) 16 pl471) 27 (nI nd472)) 31 (nI wr474)) 64 (nI at469)) 65 (nI ne)) 66 (nI lk473)) (updA X476 2 K)) _ := mW_to (F := F) (l1 := [(15, 0), (16, pl456), (27, (nI (nd415 + 1))), (31, (nI wr417)), (64, (nI at454)), (65, (nI ne)), (66, (nI lk416)), (15, (nI fa470)), (16, pl471), (27, (nI nd472)), (31, (nI wr474)), (64, (nI at469)), (65, (nI ne)), (66, (nI lk473))]) (l2 := [(15, (nI fa470)), (16, pl471), (27, (nI nd472)), (31, (nI wr474)), (64, (nI at469)), (65, (nI ne)), (66, (nI lk473))]) (V := [(nI fa470), pl471, (nI nd472), (nI wr474), (nI at469), (nI ne), (nI lk473), (nI fa470), pl471, (nI nd472), (nI wr474), (nI at469), (nI ne), (nI lk473), (nI fa470), pl471, (nI nd472), (nI wr474), (nI at469), (nI ne), (nI lk473)]) rfl rfl rfl hP
          have hD : va_D A (mW G h0 a (upd (upd (upd (upd (upd (upd (upd F 15 (nI fa470)) 16 pl471) 27 (nI nd472)) 31 (nI wr474)) 64 (nI at469)) 65 (nI ne)) 66 (nI lk473)) (updA X476 2 K)) := mW_D hD
          refine W.widen (k := 0) (n := 0) (Nat.le_of_ble_eq_true rfl) (Nat.le_of_ble_eq_true rfl) ?_
          refine W.eq (g2 := F0 m 179 ls [.int (nI r475), .int (nI nd415), .ref (a 13)]) rfl ?_
          have hkp491 : Kp B X476 wr474 T := (Kp.trans hkp446 h489)
          rcases Nat.eq_zero_or_pos fa470 with e492 | e492
          · subst e492
            have hP : va_P G.1 pCl (mW G h0 a (upd (upd (upd (upd (upd (upd (upd F 15 0) 16 pl471) 27 (nI nd472)) 31 (nI wr474)) 64 (nI at469)) 65 (nI ne)) 66 (nI lk473)) (updA X476 2 K)) _ := hP
            have hD : va_D A (mW G h0 a (upd (upd (upd (upd (upd (upd (upd F 15 0) 16 pl471) 27 (nI nd472)) 31 (nI wr474)) 64 (nI at469)) 65 (nI ne)) 66 (nI lk473)) (updA X476 2 K)) := mW_D hD
            obtain ⟨hlw493, hf494, hc495⟩ := h490 rfl
            have hlo496 : Low B X476 nd wr := (Low.trans hlo447 hlw493 (by omega) (by omega))
            have hf497 : Frs K T wr474 X476 nd (nd415 + 1) nd415 [(nd415, (280 + 4 * (21 - ne)))] := (Frs.same hf449 (by omega) (fun j i q1 q2 q3 q4 => (hlw493.1 j i q1 (by omega) (by omega))))
            have hn498 : Nd X476 nd415 34 (nI r418) (-1) (-1) (-1) := (Nd.low hn450 hlw493 (by omega))
            have hm499 := Frs.mem hf494
            refine r_sti (f := (X476 13)) (j := nd415) hx hb hE hP hD hS 13 (ma_13 G a _) rfl (mas_13 G a _) (by omega) (by decide) dX12_statementOf_179 (fun H locs hP hD hS => ?_)
            have hP : va_P G.1 pCl (mW G h0 a (upd (upd (upd (upd (upd (upd (upd F 15 0) 16 pl471) 27 (nI nd472)) 31 (nI wr474)) 64 (nI at469)) 65 (nI ne)) 66 (nI lk473)) (updA (stR X476 13 nd415 (nI r475)) 2 K)) _ := mW_to (F := F) (l1 := [(15, 0), (16, pl471), (27, (nI nd472)), (31, (nI wr474)), (64, (nI at469)), (65, (nI ne)), (66, (nI lk473))]) (l2 := [(15, 0), (16, pl471), (27, (nI nd472)), (31, (nI wr474)), (64, (nI at469)), (65, (nI ne)), (66, (nI lk473))]) (V := [0, pl471, (nI nd472), (nI wr474), (nI at469), (nI ne), (nI lk473), 0, pl471, (nI nd472), (nI wr474), (nI at469), (nI ne), (nI lk473)]) rfl rfl (show (updA (updA X476 2 K) 13 (upd (X476 13) nd415 (nI r475))) = (updA (stR X476 13 nd415 (nI r475)) 2 K) from updsA_eq2 (F := X476) (l1 := [(2, K), (13, (upd (X476 13) nd415 (nI r475)))]) (l2 := [(13, (upd (X476 13) nd415 (nI r475))), (2, K)]) (V := [K, (upd (X476 13) nd415 (nI r475)), (upd (X476 13) nd415 (nI r475)), K]) rfl rfl) hP
            have hD : va_D A (mW G h0 a (upd (upd (upd (upd (upd (upd (upd F 15 0) 16 pl471) 27 (nI nd472)) 31 (nI wr474)) 64 (nI at469)) 65 (nI ne)) 66 (nI lk473)) (updA (stR X476 13 nd415 (nI r475)) 2 K)) := mW_D hD
            have hkp500 : Kp B (stR X476 13 nd415 (nI r475)) wr474 T := (Kp.row hkp491 (by omega))
            have hlo501 : Low B (stR X476 13 nd415 (nI r475)) nd wr := (Low.st hlo496 (by omega) (by omega))
            have hf502 : Frs K T wr474 X476 nd nd472 nd415 [(nd415, (280 + 4 * (21 - ne))), (r475, (280 + 4 * (20 - ne)))] := (Frs.join hf497 hf494 (by omega) (by omega) (by omega))
            have hn503 : Nd (stR X476 13 nd415 (nI r475)) nd415 34 (nI r418) (nI r475) (-1) (-1) := (Nd.st hn498 (by omega))
            have hc504 : kcl 3 ((stR X476 13 nd415 (nI r475)) 9 r475) = true := by rw [st_ne (by omega)]; exact hc495
            have hf505 : Frs K T wr474 (stR X476 13 nd415 (nI r475)) nd nd472 nd415 [(nd415, (280 + 4 * (21 - ne)))] := (Frs.set (s := 2) (k := 34) hf502 (by omega) (by omega) (by simp) (by omega) (by omega) hn498.2.2.1 hn498.1 (by decide) ⟨by decide, by decide, by decide, hc495, fun h => absurd h (by decide)⟩ (by omega) (by omega) (by decide) (fun h1 h2 => by omega))
            have hf506 : Frs K T wr474 (stR X476 13 nd415 (nI r475)) nd nd472 20000 [(nd415, (280 + 4 * (21 - ne)))] := (Frs.fin (k := 34) hf505 hn503 rfl (by decide) (fun _ => nI_m1 (by omega)) (fun _ => nI_m1 (by omega)) (fun h => absurd h (by decide)) (fun h => absurd h (by decide)))
            refine lv_aload_n hx hb dX12_statementOf_180 rfl (lv_at hl 2 rfl) ?_
            refine lv_sipush (v := 316) hx hb dX12_statementOf_181 (by decide) ?_
            have hP : va_P G.1 pCl (mW G h0 a (upd (upd (upd (upd (upd (upd (upd (upd (upd F 15 0) 16 pl471) 27 (nI nd472)) 31 (nI wr474)) 64 (nI at469)) 65 (nI ne)) 66 (nI lk473)) 15 (nI 0)) 64 (nI at469)) (updA (updA (stR X476 13 nd415 (nI r475)) 2 K) 2 K)) _ := mW_to (F := F) (l1 := [(15, 0), (16, pl471), (27, (nI nd472)), (31, (nI wr474)), (64, (nI at469)), (65, (nI ne)), (66, (nI lk473))]) (l2 := [(15, 0), (16, pl471), (27, (nI nd472)), (31, (nI wr474)), (64, (nI at469)), (65, (nI ne)), (66, (nI lk473)), (15, (nI 0)), (64, (nI at469))]) (V := [(nI 0), pl471, (nI nd472), (nI wr474), (nI at469), (nI ne), (nI lk473), (nI 0), pl471, (nI nd472), (nI wr474), (nI at469), (nI ne), (nI lk473), (nI 0), (nI at469)]) rfl rfl (show (updA (stR X476 13 nd415 (nI r475)) 2 K) = (updA (updA (stR X476 13 nd415 (nI r475)) 2 K) 2 K) from updsA_eq2 (F := X476) (l1 := [(13, (upd (X476 13) nd415 (nI r475))), (2, K)]) (l2 := [(13, (upd (X476 13) nd415 (nI r475))), (2, K), (2, K)]) (V := [(upd (X476 13) nd415 (nI r475)), K, (upd (X476 13) nd415 (nI r475)), K, K]) rfl rfl) hP
            have hD : va_D A (mW G h0 a (upd (upd (upd (upd (upd (upd (upd (upd (upd F 15 0) 16 pl471) 27 (nI nd472)) 31 (nI wr474)) 64 (nI at469)) 65 (nI ne)) 66 (nI lk473)) 15 (nI 0)) 64 (nI at469)) (updA (updA (stR X476 13 nd415 (nI r475)) 2 K) 2 K)) := mW_D hD
            refine pc_V0 (G := G) (As := [.int 316]) (rest := []) hx hb hml hown hq hE hX pX0_al hP hD hS hA hl.1 (R_may l G h0 a (upd (upd (upd (upd (upd (upd (upd F 15 0) 16 pl471) 27 (nI nd472)) 31 (nI wr474)) 64 (nI at469)) 65 (nI ne)) 66 (nI lk473)) (updA (stR X476 13 nd415 (nI r475)) 2 K) at469 T 0 K 316 (by omega) (by omega) hK (by omega) (by decide) (by decide)) (gV pw_1621 pw_1622 pw_1623 pw_1523 pw_1605) hV_X12_may 0 9 rfl rfl rfl rfl (Nat.le_of_ble_eq_true rfl) dX12_statementOf_184 ⟨Nat.le_of_ble_eq_true rfl, Nat.le_of_ble_eq_true rfl⟩ ⟨(by show 3 + 1 ≤ (26 * n + 44); omega), (by show 8 + (3 + 11) + 81 ≤ (2000 * n + 4400); omega)⟩ (fun v509 u507 H locs hw508 hP hD hS => ?_)
            obtain ⟨at510, r511⟩ := u507
            obtain ⟨hw508, h512, h513, h514, h515, h516, h517⟩ := hw508
            have h512 : r511 ≤ 1 := h512
            have h513 : 0 + 100 * r511 ≤ 100 := h513
            have h514 : at510 = at469 + r511 := h514
            have h515 : at510 ≤ T := h515
            have h516 : If (r511 = 1) (K at469 = 316) := h516
            have h517 : If (r511 = 0) (0 = 0 → ¬ K at469 = 316) := h517
            obtain rfl : v509 = some (.int (nI r511)) := hw508
            have hP : va_P G.1 pCl (mW G h0 a (upd (upd (upd (upd (upd (upd (upd F 15 0) 16 pl471) 27 (nI nd472)) 31 (nI wr474)) 64 (nI at510)) 65 (nI ne)) 66 (nI lk473)) (updA (stR X476 13 nd415 (nI r475)) 2 K)) _ := mW_to (F := F) (l1 := [(15, 0), (16, pl471), (27, (nI nd472)), (31, (nI wr474)), (64, (nI at469)), (65, (nI ne)), (66, (nI lk473)), (15, (nI 0)), (64, (nI at510))]) (l2 := [(15, 0), (16, pl471), (27, (nI nd472)), (31, (nI wr474)), (64, (nI at510)), (65, (nI ne)), (66, (nI lk473))]) (V := [0, pl471, (nI nd472), (nI wr474), (nI at510), (nI ne), (nI lk473), 0, (nI at510), 0, pl471, (nI nd472), (nI wr474), (nI at510), (nI ne), (nI lk473)]) rfl rfl (show (updA (updA (stR X476 13 nd415 (nI r475)) 2 K) 2 K) = (updA (stR X476 13 nd415 (nI r475)) 2 K) from updsA_eq2 (F := X476) (l1 := [(13, (upd (X476 13) nd415 (nI r475))), (2, K), (2, K)]) (l2 := [(13, (upd (X476 13) nd415 (nI r475))), (2, K)]) (V := [(upd (X476 13) nd415 (nI r475)), K, K, (upd (X476 13) nd415 (nI r475)), K]) rfl rfl) hP
            have hD : va_D A (mW G h0 a (upd (upd (upd (upd (upd (upd (upd F 15 0) 16 pl471) 27 (nI nd472)) 31 (nI wr474)) 64 (nI at510)) 65 (nI ne)) 66 (nI lk473)) (updA (stR X476 13 nd415 (nI r475)) 2 K)) := mW_D hD
            refine W.widen (k := 0) (n := 0) (Nat.le_of_ble_eq_true rfl) (Nat.le_of_ble_eq_true rfl) ?_
            refine W.eq (g2 := F0 m 187 ls [.int (nI r511)]) rfl ?_
            refine lv_if_eq (tgt := 200) hx hb dX12_statementOf_187 (by decide) (fun c518 => ?_) (fun c518 => ?_)
            · have n519 : r511 = 0 := (nI_eq (a := r511) (b := 0) (by omega) (by omega)).mp c518
              refine lv_iload_n hx hb dX12_statementOf_200 rfl (lv_at hl 0 rfl) ?_
              have hz520 : at0 ≤ at510 := (by omega)
              have hz521 : at510 ≤ T := (by omega)
              have hz522 : 0 ≤ 100 := (by omega)
              have hz523 : nd ≤ nd472 := (by omega)
              have hz524 : nd472 + 2 * at0 ≤ nd + 2 * at510 + 100000 * 0 := (by omega)
              have hz525 : nd472 + 2 * at0 ≤ nd + 2 * at510 + (60 * (21 - ne) + 40) := (by omega)
              have hz526 : wr ≤ wr474 := (by omega)
              have hz527 : wr474 + at0 ≤ wr + at510 := (by omega)
              have hz528 : lk ≤ lk473 := (by omega)
              have hz529 : lk473 ≤ 60 + 100 * 0 := (by omega)
              have hz530 : at0 + 1 ≤ at510 + 0 := (by omega)
              have hz531 : nd415 ≤ nd472 := (by omega)
              have hz532 : Kp B (stR X476 13 nd415 (nI r475)) wr474 T := hkp500
              have hz533 : If (0 = 0) (Low B (stR X476 13 nd415 (nI r475)) nd wr ∧ Frs K T wr474 (stR X476 13 nd415 (nI r475)) nd nd472 20000 [(nd415, (280 + 4 * (21 - ne)))] ∧ kcl 3 ((stR X476 13 nd415 (nI r475)) 9 nd415) = true) := (fun _ => ⟨hlo501, Frs.up hf506 (by omega), (by rw [hn503.1]; decide)⟩)
              have hP : va_P G.1 pCl (mW G h0 a (upd (upd (upd (upd (upd (upd (upd F 15 (nI 0)) 16 pl471) 27 (nI nd472)) 31 (nI wr474)) 64 (nI at510)) 65 (nI ne)) 66 (nI lk473)) (updA (stR X476 13 nd415 (nI r475)) 2 K)) _ := mW_to (F := F) (l1 := [(15, 0), (16, pl471), (27, (nI nd472)), (31, (nI wr474)), (64, (nI at510)), (65, (nI ne)), (66, (nI lk473))]) (l2 := [(15, (nI 0)), (16, pl471), (27, (nI nd472)), (31, (nI wr474)), (64, (nI at510)), (65, (nI ne)), (66, (nI lk473))]) (V := [(nI 0), pl471, (nI nd472), (nI wr474), (nI at510), (nI ne), (nI lk473), (nI 0), pl471, (nI nd472), (nI wr474), (nI at510), (nI ne), (nI lk473)]) rfl rfl rfl hP
              have hD : va_D A (mW G h0 a (upd (upd (upd (upd (upd (upd (upd F 15 (nI 0)) 16 pl471) 27 (nI nd472)) 31 (nI wr474)) 64 (nI at510)) 65 (nI ne)) 66 (nI lk473)) (updA (stR X476 13 nd415 (nI r475)) 2 K)) := mW_D hD
              exact W.iret (v := (nI nd415)) hx hb hr (fun t9 ht9 hW9 => ⟨⟨_, (at510, 0, pl471, nd472, lk473, wr474, nd415, (stR X476 13 nd415 (nI r475))), rfl, ⟨rfl, hz520, hz521, hz522, hz523, hz524, hz525, hz526, hz527, hz528, hz529, hz530, hz531, hz532, hz533⟩, by rw [ht9]; exact hP, hD⟩, hS.F ht9⟩) hS.2.2 dX12_statementOf_201
            · have n534 : ¬ (r511 = 0) := fun h9 => c518 ((nI_eq (a := r511) (b := 0) (by omega) (by omega)).mpr h9)
              refine lv_aload_n hx hb dX12_statementOf_190 rfl (lv_at hl 2 rfl) ?_
              refine r_get (v := .ref (a 14)) hx hb hown hq hE hP 22 53 tFX12_22 (by decide) pw_1444 rfl dX12_statementOf_191 ?_
              refine lv_iload_n hx hb dX12_statementOf_194 rfl (lv_at hl 0 rfl) ?_
              refine lv_aload_n hx hb dX12_statementOf_195 rfl (lv_at hl 2 rfl) ?_
              have hP : va_P G.1 pCl (mW G h0 a (upd (upd (upd (upd (upd (upd (upd (upd (upd (upd (upd (upd (upd F 15 0) 16 pl471) 27 (nI nd472)) 31 (nI wr474)) 64 (nI at510)) 65 (nI ne)) 66 (nI lk473)) 15 0) 27 (nI nd472)) 31 (nI wr474)) 64 (nI at510)) 65 (nI ne)) 66 (nI lk473)) (updA (stR X476 13 nd415 (nI r475)) 2 K)) _ := mW_to (F := F) (l1 := [(15, 0), (16, pl471), (27, (nI nd472)), (31, (nI wr474)), (64, (nI at510)), (65, (nI ne)), (66, (nI lk473))]) (l2 := [(15, 0), (16, pl471), (27, (nI nd472)), (31, (nI wr474)), (64, (nI at510)), (65, (nI ne)), (66, (nI lk473)), (15, 0), (27, (nI nd472)), (31, (nI wr474)), (64, (nI at510)), (65, (nI ne)), (66, (nI lk473))]) (V := [0, pl471, (nI nd472), (nI wr474), (nI at510), (nI ne), (nI lk473), 0, pl471, (nI nd472), (nI wr474), (nI at510), (nI ne), (nI lk473), 0, (nI nd472), (nI wr474), (nI at510), (nI ne), (nI lk473)]) rfl rfl rfl hP
              have hD : va_D A (mW G h0 a (upd (upd (upd (upd (upd (upd (upd (upd (upd (upd (upd (upd (upd F 15 0) 16 pl471) 27 (nI nd472)) 31 (nI wr474)) 64 (nI at510)) 65 (nI ne)) 66 (nI lk473)) 15 0) 27 (nI nd472)) 31 (nI wr474)) 64 (nI at510)) 65 (nI ne)) 66 (nI lk473)) (updA (stR X476 13 nd415 (nI r475)) 2 K)) := mW_D hD
              refine pc_V0 (G := G) (As := []) (rest := [.int (nI nd415), .ref (a 14)]) hx hb hml hown hq hE hX pX0_al hP hD hS hA hl.1 (hSt h0 a (upd (upd (upd (upd (upd (upd (upd F 15 0) 16 pl471) 27 (nI nd472)) 31 (nI wr474)) 64 (nI at510)) 65 (nI ne)) 66 (nI lk473)) (stR X476 13 nd415 (nI r475)) at510 T ne nd472 wr474 lk473 K (by omega) (by omega) hK (by omega) (by omega) (by omega) (by omega) (hkp500).2 (by omega)) (gV pw_1699 pw_1700 pw_1701 pw_1523 pw_1706) hV_X12_statement 0 9 rfl rfl rfl rfl (Nat.le_of_ble_eq_true rfl) dX12_statementOf_196 ⟨Nat.le_of_ble_eq_true rfl, Nat.le_of_ble_eq_true rfl⟩ ⟨(by show (26 * n + 40) + 1 ≤ (26 * n + 44); omega), (by show 8 + (3 + 11) + (2000 * n + 4000) ≤ (2000 * n + 4400); omega)⟩ (fun v537 u535 H locs hw536 hP hD hS => ?_)
              obtain ⟨at538, fa539, pl540, nd541, lk542, wr543, r544, X545⟩ := u535
              obtain ⟨hw536, h546, h547, h548, h549, h550, h551, h552, h553, h554, h555, h556, h557, h558, h559⟩ := hw536
              have h546 : at510 ≤ at538 := h546
              have h547 : at538 ≤ T := h547
              have h548 : fa539 ≤ 100 := h548
              have h549 : nd472 ≤ nd541 := h549
              have h550 : nd541 + 2 * at510 ≤ nd472 + 2 * at538 + 100000 * fa539 := h550
              have h551 : nd541 + 2 * at510 ≤ nd472 + 2 * at538 + (60 * (20 - ne) + 40) := h551
              have h552 : wr474 ≤ wr543 := h552
              have h553 : wr543 + at510 ≤ wr474 + at538 := h553
              have h554 : lk473 ≤ lk542 := h554
              have h555 : lk542 ≤ lk473 := h555
              have h556 : at510 + 1 ≤ at538 + fa539 := h556
              have h557 : r544 ≤ nd541 := h557
              have h558 : Kp (stR X476 13 nd415 (nI r475)) X545 wr543 T := h558
              have h559 : If (fa539 = 0) (Low (stR X476 13 nd415 (nI r475)) X545 nd472 wr474 ∧ Frs K T wr543 X545 nd472 nd541 20000 [(r544, (280 + 4 * (20 - ne)))] ∧ kcl 3 (X545 9 r544) = true) := h559
              obtain rfl : v537 = some (.int (nI r544)) := hw536
              have hP : va_P G.1 pCl (mW G h0 a (upd (upd (upd (upd (upd (upd (upd F 15 (nI fa539)) 16 pl540) 27 (nI nd541)) 31 (nI wr543)) 64 (nI at538)) 65 (nI ne)) 66 (nI lk542)) (updA X545 2 K)) _ := mW_to (F := F) (l1 := [(15, 0), (16, pl471), (27, (nI nd472)), (31, (nI wr474)), (64, (nI at510)), (65, (nI ne)), (66, (nI lk473)), (15, (nI fa539)), (16, pl540), (27, (nI nd541)), (31, (nI wr543)), (64, (nI at538)), (65, (nI ne)), (66, (nI lk542))]) (l2 := [(15, (nI fa539)), (16, pl540), (27, (nI nd541)), (31, (nI wr543)), (64, (nI at538)), (65, (nI ne)), (66, (nI lk542))]) (V := [(nI fa539), pl540, (nI nd541), (nI wr543), (nI at538), (nI ne), (nI lk542), (nI fa539), pl540, (nI nd541), (nI wr543), (nI at538), (nI ne), (nI lk542), (nI fa539), pl540, (nI nd541), (nI wr543), (nI at538), (nI ne), (nI lk542)]) rfl rfl rfl hP
              have hD : va_D A (mW G h0 a (upd (upd (upd (upd (upd (upd (upd F 15 (nI fa539)) 16 pl540) 27 (nI nd541)) 31 (nI wr543)) 64 (nI at538)) 65 (nI ne)) 66 (nI lk542)) (updA X545 2 K)) := mW_D hD
              refine W.widen (k := 0) (n := 0) (Nat.le_of_ble_eq_true rfl) (Nat.le_of_ble_eq_true rfl) ?_
              refine W.eq (g2 := F0 m 199 ls [.int (nI r544), .int (nI nd415), .ref (a 14)]) rfl ?_
              have hkp560 : Kp B X545 wr543 T := (Kp.trans hkp500 h558)
              rcases Nat.eq_zero_or_pos fa539 with e561 | e561
              · subst e561
                have hP : va_P G.1 pCl (mW G h0 a (upd (upd (upd (upd (upd (upd (upd F 15 0) 16 pl540) 27 (nI nd541)) 31 (nI wr543)) 64 (nI at538)) 65 (nI ne)) 66 (nI lk542)) (updA X545 2 K)) _ := hP
                have hD : va_D A (mW G h0 a (upd (upd (upd (upd (upd (upd (upd F 15 0) 16 pl540) 27 (nI nd541)) 31 (nI wr543)) 64 (nI at538)) 65 (nI ne)) 66 (nI lk542)) (updA X545 2 K)) := mW_D hD
                obtain ⟨hlw562, hf563, hc564⟩ := h559 rfl
                have hlo565 : Low B X545 nd wr := (Low.trans hlo501 hlw562 (by omega) (by omega))
                have hf566 : Frs K T wr543 X545 nd nd472 20000 [(nd415, (280 + 4 * (21 - ne)))] := (Frs.same hf506 (by omega) (fun j i q1 q2 q3 q4 => (hlw562.1 j i q1 (by omega) (by omega))))
                have hn567 : Nd X545 nd415 34 (nI r418) (nI r475) (-1) (-1) := (Nd.low hn503 hlw562 (by omega))
                have hm568 := Frs.mem hf563
                refine r_sti (f := (X545 14)) (j := nd415) hx hb hE hP hD hS 14 (ma_14 G a _) rfl (mas_14 G a _) (by omega) (by decide) dX12_statementOf_199 (fun H locs hP hD hS => ?_)
                have hP : va_P G.1 pCl (mW G h0 a (upd (upd (upd (upd (upd (upd (upd F 15 0) 16 pl540) 27 (nI nd541)) 31 (nI wr543)) 64 (nI at538)) 65 (nI ne)) 66 (nI lk542)) (updA (stR X545 14 nd415 (nI r544)) 2 K)) _ := mW_to (F := F) (l1 := [(15, 0), (16, pl540), (27, (nI nd541)), (31, (nI wr543)), (64, (nI at538)), (65, (nI ne)), (66, (nI lk542))]) (l2 := [(15, 0), (16, pl540), (27, (nI nd541)), (31, (nI wr543)), (64, (nI at538)), (65, (nI ne)), (66, (nI lk542))]) (V := [0, pl540, (nI nd541), (nI wr543), (nI at538), (nI ne), (nI lk542), 0, pl540, (nI nd541), (nI wr543), (nI at538), (nI ne), (nI lk542)]) rfl rfl (show (updA (updA X545 2 K) 14 (upd (X545 14) nd415 (nI r544))) = (updA (stR X545 14 nd415 (nI r544)) 2 K) from updsA_eq2 (F := X545) (l1 := [(2, K), (14, (upd (X545 14) nd415 (nI r544)))]) (l2 := [(14, (upd (X545 14) nd415 (nI r544))), (2, K)]) (V := [K, (upd (X545 14) nd415 (nI r544)), (upd (X545 14) nd415 (nI r544)), K]) rfl rfl) hP
                have hD : va_D A (mW G h0 a (upd (upd (upd (upd (upd (upd (upd F 15 0) 16 pl540) 27 (nI nd541)) 31 (nI wr543)) 64 (nI at538)) 65 (nI ne)) 66 (nI lk542)) (updA (stR X545 14 nd415 (nI r544)) 2 K)) := mW_D hD
                have hkp569 : Kp B (stR X545 14 nd415 (nI r544)) wr543 T := (Kp.row hkp560 (by omega))
                have hlo570 : Low B (stR X545 14 nd415 (nI r544)) nd wr := (Low.st hlo565 (by omega) (by omega))
                have hf571 : Frs K T wr543 X545 nd nd541 20000 [(nd415, (280 + 4 * (21 - ne))), (r544, (280 + 4 * (20 - ne)))] := (Frs.join hf566 hf563 (by omega) (by omega) (by omega))
                have hn572 : Nd (stR X545 14 nd415 (nI r544)) nd415 34 (nI r418) (nI r475) (nI r544) (-1) := (Nd.st hn567 (by omega))
                have hc573 : kcl 3 ((stR X545 14 nd415 (nI r544)) 9 r544) = true := by rw [st_ne (by omega)]; exact hc564
                have hf574 : Frs K T wr543 (stR X545 14 nd415 (nI r544)) nd nd541 20000 [(nd415, (280 + 4 * (21 - ne)))] := (Frs.set (s := 3) (k := 34) hf571 (by omega) (by omega) (by simp) (by omega) (by omega) hn567.2.2.2.1 hn567.1 (by decide) ⟨by decide, by decide, by decide, hc564, fun h => absurd h (by decide)⟩ (by omega) (by omega) (by decide) (fun h1 h2 => by omega))
                refine lv_iload_n hx hb dX12_statementOf_200 rfl (lv_at hl 0 rfl) ?_
                have hz575 : at0 ≤ at538 := (by omega)
                have hz576 : at538 ≤ T := (by omega)
                have hz577 : 0 ≤ 100 := (by omega)
                have hz578 : nd ≤ nd541 := (by omega)
                have hz579 : nd541 + 2 * at0 ≤ nd + 2 * at538 + 100000 * 0 := (by omega)
                have hz580 : nd541 + 2 * at0 ≤ nd + 2 * at538 + (60 * (21 - ne) + 40) := (by omega)
                have hz581 : wr ≤ wr543 := (by omega)
                have hz582 : wr543 + at0 ≤ wr + at538 := (by omega)
                have hz583 : lk ≤ lk542 := (by omega)
                have hz584 : lk542 ≤ 60 + 100 * 0 := (by omega)
                have hz585 : at0 + 1 ≤ at538 + 0 := (by omega)
                have hz586 : nd415 ≤ nd541 := (by omega)
                have hz587 : Kp B (stR X545 14 nd415 (nI r544)) wr543 T := hkp569
                have hz588 : If (0 = 0) (Low B (stR X545 14 nd415 (nI r544)) nd wr ∧ Frs K T wr543 (stR X545 14 nd415 (nI r544)) nd nd541 20000 [(nd415, (280 + 4 * (21 - ne)))] ∧ kcl 3 ((stR X545 14 nd415 (nI r544)) 9 nd415) = true) := (fun _ => ⟨hlo570, Frs.up hf574 (by omega), (by rw [hn572.1]; decide)⟩)
                have hP : va_P G.1 pCl (mW G h0 a (upd (upd (upd (upd (upd (upd (upd F 15 (nI 0)) 16 pl540) 27 (nI nd541)) 31 (nI wr543)) 64 (nI at538)) 65 (nI ne)) 66 (nI lk542)) (updA (stR X545 14 nd415 (nI r544)) 2 K)) _ := mW_to (F := F) (l1 := [(15, 0), (16, pl540), (27, (nI nd541)), (31, (nI wr543)), (64, (nI at538)), (65, (nI ne)), (66, (nI lk542))]) (l2 := [(15, (nI 0)), (16, pl540), (27, (nI nd541)), (31, (nI wr543)), (64, (nI at538)), (65, (nI ne)), (66, (nI lk542))]) (V := [(nI 0), pl540, (nI nd541), (nI wr543), (nI at538), (nI ne), (nI lk542), (nI 0), pl540, (nI nd541), (nI wr543), (nI at538), (nI ne), (nI lk542)]) rfl rfl rfl hP
                have hD : va_D A (mW G h0 a (upd (upd (upd (upd (upd (upd (upd F 15 (nI 0)) 16 pl540) 27 (nI nd541)) 31 (nI wr543)) 64 (nI at538)) 65 (nI ne)) 66 (nI lk542)) (updA (stR X545 14 nd415 (nI r544)) 2 K)) := mW_D hD
                exact W.iret (v := (nI nd415)) hx hb hr (fun t9 ht9 hW9 => ⟨⟨_, (at538, 0, pl540, nd541, lk542, wr543, nd415, (stR X545 14 nd415 (nI r544))), rfl, ⟨rfl, hz575, hz576, hz577, hz578, hz579, hz580, hz581, hz582, hz583, hz584, hz585, hz586, hz587, hz588⟩, by rw [ht9]; exact hP, hD⟩, hS.F ht9⟩) hS.2.2 dX12_statementOf_201
              · have e561 := e561
                refine r_sti (f := (X545 14)) (j := nd415) hx hb hE hP hD hS 14 (ma_14 G a _) rfl (mas_14 G a _) (by omega) (by decide) dX12_statementOf_199 (fun H locs hP hD hS => ?_)
                have hP : va_P G.1 pCl (mW G h0 a (upd (upd (upd (upd (upd (upd (upd F 15 (nI fa539)) 16 pl540) 27 (nI nd541)) 31 (nI wr543)) 64 (nI at538)) 65 (nI ne)) 66 (nI lk542)) (updA (stR X545 14 nd415 (nI r544)) 2 K)) _ := mW_to (F := F) (l1 := [(15, (nI fa539)), (16, pl540), (27, (nI nd541)), (31, (nI wr543)), (64, (nI at538)), (65, (nI ne)), (66, (nI lk542))]) (l2 := [(15, (nI fa539)), (16, pl540), (27, (nI nd541)), (31, (nI wr543)), (64, (nI at538)), (65, (nI ne)), (66, (nI lk542))]) (V := [(nI fa539), pl540, (nI nd541), (nI wr543), (nI at538), (nI ne), (nI lk542), (nI fa539), pl540, (nI nd541), (nI wr543), (nI at538), (nI ne), (nI lk542)]) rfl rfl (show (updA (updA X545 2 K) 14 (upd (X545 14) nd415 (nI r544))) = (updA (stR X545 14 nd415 (nI r544)) 2 K) from updsA_eq2 (F := X545) (l1 := [(2, K), (14, (upd (X545 14) nd415 (nI r544)))]) (l2 := [(14, (upd (X545 14) nd415 (nI r544))), (2, K)]) (V := [K, (upd (X545 14) nd415 (nI r544)), (upd (X545 14) nd415 (nI r544)), K]) rfl rfl) hP
                have hD : va_D A (mW G h0 a (upd (upd (upd (upd (upd (upd (upd F 15 (nI fa539)) 16 pl540) 27 (nI nd541)) 31 (nI wr543)) 64 (nI at538)) 65 (nI ne)) 66 (nI lk542)) (updA (stR X545 14 nd415 (nI r544)) 2 K)) := mW_D hD
                have hkp589 : Kp B (stR X545 14 nd415 (nI r544)) wr543 T := (Kp.row hkp560 (by omega))
                refine lv_iload_n hx hb dX12_statementOf_200 rfl (lv_at hl 0 rfl) ?_
                have hz590 : at0 ≤ at538 := (by omega)
                have hz591 : at538 ≤ T := (by omega)
                have hz592 : fa539 ≤ 100 := (by omega)
                have hz593 : nd ≤ nd541 := (by omega)
                have hz594 : nd541 + 2 * at0 ≤ nd + 2 * at538 + 100000 * fa539 := (by omega)
                have hz595 : nd541 + 2 * at0 ≤ nd + 2 * at538 + (60 * (21 - ne) + 40) := (by omega)
                have hz596 : wr ≤ wr543 := (by omega)
                have hz597 : wr543 + at0 ≤ wr + at538 := (by omega)
                have hz598 : lk ≤ lk542 := (by omega)
                have hz599 : lk542 ≤ 60 + 100 * fa539 := (by omega)
                have hz600 : at0 + 1 ≤ at538 + fa539 := (by omega)
                have hz601 : nd415 ≤ nd541 := (by omega)
                have hz602 : Kp B (stR X545 14 nd415 (nI r544)) wr543 T := hkp589
                have hz603 : If (fa539 = 0) (Low B (stR X545 14 nd415 (nI r544)) nd wr ∧ Frs K T wr543 (stR X545 14 nd415 (nI r544)) nd nd541 20000 [(nd415, (280 + 4 * (21 - ne)))] ∧ kcl 3 ((stR X545 14 nd415 (nI r544)) 9 nd415) = true) := (fun e => absurd e (by omega))
                have hP : va_P G.1 pCl (mW G h0 a (upd (upd (upd (upd (upd (upd (upd F 15 (nI fa539)) 16 pl540) 27 (nI nd541)) 31 (nI wr543)) 64 (nI at538)) 65 (nI ne)) 66 (nI lk542)) (updA (stR X545 14 nd415 (nI r544)) 2 K)) _ := hP
                have hD : va_D A (mW G h0 a (upd (upd (upd (upd (upd (upd (upd F 15 (nI fa539)) 16 pl540) 27 (nI nd541)) 31 (nI wr543)) 64 (nI at538)) 65 (nI ne)) 66 (nI lk542)) (updA (stR X545 14 nd415 (nI r544)) 2 K)) := mW_D hD
                exact W.iret (v := (nI nd415)) hx hb hr (fun t9 ht9 hW9 => ⟨⟨_, (at538, fa539, pl540, nd541, lk542, wr543, nd415, (stR X545 14 nd415 (nI r544))), rfl, ⟨rfl, hz590, hz591, hz592, hz593, hz594, hz595, hz596, hz597, hz598, hz599, hz600, hz601, hz602, hz603⟩, by rw [ht9]; exact hP, hD⟩, hS.F ht9⟩) hS.2.2 dX12_statementOf_201
          · have e492 := e492
            refine r_sti (f := (X476 13)) (j := nd415) hx hb hE hP hD hS 13 (ma_13 G a _) rfl (mas_13 G a _) (by omega) (by decide) dX12_statementOf_179 (fun H locs hP hD hS => ?_)
            have hP : va_P G.1 pCl (mW G h0 a (upd (upd (upd (upd (upd (upd (upd F 15 (nI fa470)) 16 pl471) 27 (nI nd472)) 31 (nI wr474)) 64 (nI at469)) 65 (nI ne)) 66 (nI lk473)) (updA (stR X476 13 nd415 (nI r475)) 2 K)) _ := mW_to (F := F) (l1 := [(15, (nI fa470)), (16, pl471), (27, (nI nd472)), (31, (nI wr474)), (64, (nI at469)), (65, (nI ne)), (66, (nI lk473))]) (l2 := [(15, (nI fa470)), (16, pl471), (27, (nI nd472)), (31, (nI wr474)), (64, (nI at469)), (65, (nI ne)), (66, (nI lk473))]) (V := [(nI fa470), pl471, (nI nd472), (nI wr474), (nI at469), (nI ne), (nI lk473), (nI fa470), pl471, (nI nd472), (nI wr474), (nI at469), (nI ne), (nI lk473)]) rfl rfl (show (updA (updA X476 2 K) 13 (upd (X476 13) nd415 (nI r475))) = (updA (stR X476 13 nd415 (nI r475)) 2 K) from updsA_eq2 (F := X476) (l1 := [(2, K), (13, (upd (X476 13) nd415 (nI r475)))]) (l2 := [(13, (upd (X476 13) nd415 (nI r475))), (2, K)]) (V := [K, (upd (X476 13) nd415 (nI r475)), (upd (X476 13) nd415 (nI r475)), K]) rfl rfl) hP
            have hD : va_D A (mW G h0 a (upd (upd (upd (upd (upd (upd (upd F 15 (nI fa470)) 16 pl471) 27 (nI nd472)) 31 (nI wr474)) 64 (nI at469)) 65 (nI ne)) 66 (nI lk473)) (updA (stR X476 13 nd415 (nI r475)) 2 K)) := mW_D hD
            have hkp604 : Kp B (stR X476 13 nd415 (nI r475)) wr474 T := (Kp.row hkp491 (by omega))
            refine lv_aload_n hx hb dX12_statementOf_180 rfl (lv_at hl 2 rfl) ?_
            refine lv_sipush (v := 316) hx hb dX12_statementOf_181 (by decide) ?_
            have hP : va_P G.1 pCl (mW G h0 a (upd (upd (upd (upd (upd (upd (upd (upd (upd F 15 (nI fa470)) 16 pl471) 27 (nI nd472)) 31 (nI wr474)) 64 (nI at469)) 65 (nI ne)) 66 (nI lk473)) 15 (nI fa470)) 64 (nI at469)) (updA (updA (stR X476 13 nd415 (nI r475)) 2 K) 2 K)) _ := mW_to (F := F) (l1 := [(15, (nI fa470)), (16, pl471), (27, (nI nd472)), (31, (nI wr474)), (64, (nI at469)), (65, (nI ne)), (66, (nI lk473))]) (l2 := [(15, (nI fa470)), (16, pl471), (27, (nI nd472)), (31, (nI wr474)), (64, (nI at469)), (65, (nI ne)), (66, (nI lk473)), (15, (nI fa470)), (64, (nI at469))]) (V := [(nI fa470), pl471, (nI nd472), (nI wr474), (nI at469), (nI ne), (nI lk473), (nI fa470), pl471, (nI nd472), (nI wr474), (nI at469), (nI ne), (nI lk473), (nI fa470), (nI at469)]) rfl rfl (show (updA (stR X476 13 nd415 (nI r475)) 2 K) = (updA (updA (stR X476 13 nd415 (nI r475)) 2 K) 2 K) from updsA_eq2 (F := X476) (l1 := [(13, (upd (X476 13) nd415 (nI r475))), (2, K)]) (l2 := [(13, (upd (X476 13) nd415 (nI r475))), (2, K), (2, K)]) (V := [(upd (X476 13) nd415 (nI r475)), K, (upd (X476 13) nd415 (nI r475)), K, K]) rfl rfl) hP
            have hD : va_D A (mW G h0 a (upd (upd (upd (upd (upd (upd (upd (upd (upd F 15 (nI fa470)) 16 pl471) 27 (nI nd472)) 31 (nI wr474)) 64 (nI at469)) 65 (nI ne)) 66 (nI lk473)) 15 (nI fa470)) 64 (nI at469)) (updA (updA (stR X476 13 nd415 (nI r475)) 2 K) 2 K)) := mW_D hD
            refine pc_V0 (G := G) (As := [.int 316]) (rest := []) hx hb hml hown hq hE hX pX0_al hP hD hS hA hl.1 (R_may l G h0 a (upd (upd (upd (upd (upd (upd (upd F 15 (nI fa470)) 16 pl471) 27 (nI nd472)) 31 (nI wr474)) 64 (nI at469)) 65 (nI ne)) 66 (nI lk473)) (updA (stR X476 13 nd415 (nI r475)) 2 K) at469 T fa470 K 316 (by omega) (by omega) hK (by omega) (by decide) (by decide)) (gV pw_1621 pw_1622 pw_1623 pw_1523 pw_1605) hV_X12_may 0 9 rfl rfl rfl rfl (Nat.le_of_ble_eq_true rfl) dX12_statementOf_184 ⟨Nat.le_of_ble_eq_true rfl, Nat.le_of_ble_eq_true rfl⟩ ⟨(by show 3 + 1 ≤ (26 * n + 44); omega), (by show 8 + (3 + 11) + 81 ≤ (2000 * n + 4400); omega)⟩ (fun v607 u605 H locs hw606 hP hD hS => ?_)
            obtain ⟨at608, r609⟩ := u605
            obtain ⟨hw606, h610, h611, h612, h613, h614, h615⟩ := hw606
            have h610 : r609 ≤ 1 := h610
            have h611 : fa470 + 100 * r609 ≤ 100 := h611
            have h612 : at608 = at469 + r609 := h612
            have h613 : at608 ≤ T := h613
            have h614 : If (r609 = 1) (K at469 = 316) := h614
            have h615 : If (r609 = 0) (fa470 = 0 → ¬ K at469 = 316) := h615
            obtain rfl : v607 = some (.int (nI r609)) := hw606
            have hP : va_P G.1 pCl (mW G h0 a (upd (upd (upd (upd (upd (upd (upd F 15 (nI fa470)) 16 pl471) 27 (nI nd472)) 31 (nI wr474)) 64 (nI at608)) 65 (nI ne)) 66 (nI lk473)) (updA (stR X476 13 nd415 (nI r475)) 2 K)) _ := mW_to (F := F) (l1 := [(15, (nI fa470)), (16, pl471), (27, (nI nd472)), (31, (nI wr474)), (64, (nI at469)), (65, (nI ne)), (66, (nI lk473)), (15, (nI fa470)), (64, (nI at608))]) (l2 := [(15, (nI fa470)), (16, pl471), (27, (nI nd472)), (31, (nI wr474)), (64, (nI at608)), (65, (nI ne)), (66, (nI lk473))]) (V := [(nI fa470), pl471, (nI nd472), (nI wr474), (nI at608), (nI ne), (nI lk473), (nI fa470), (nI at608), (nI fa470), pl471, (nI nd472), (nI wr474), (nI at608), (nI ne), (nI lk473)]) rfl rfl (show (updA (updA (stR X476 13 nd415 (nI r475)) 2 K) 2 K) = (updA (stR X476 13 nd415 (nI r475)) 2 K) from updsA_eq2 (F := X476) (l1 := [(13, (upd (X476 13) nd415 (nI r475))), (2, K), (2, K)]) (l2 := [(13, (upd (X476 13) nd415 (nI r475))), (2, K)]) (V := [(upd (X476 13) nd415 (nI r475)), K, K, (upd (X476 13) nd415 (nI r475)), K]) rfl rfl) hP
            have hD : va_D A (mW G h0 a (upd (upd (upd (upd (upd (upd (upd F 15 (nI fa470)) 16 pl471) 27 (nI nd472)) 31 (nI wr474)) 64 (nI at608)) 65 (nI ne)) 66 (nI lk473)) (updA (stR X476 13 nd415 (nI r475)) 2 K)) := mW_D hD
            refine W.widen (k := 0) (n := 0) (Nat.le_of_ble_eq_true rfl) (Nat.le_of_ble_eq_true rfl) ?_
            refine W.eq (g2 := F0 m 187 ls [.int (nI r609)]) rfl ?_
            obtain rfl : at469 = at608 := (by omega)
            refine lv_if_eq (tgt := 200) hx hb dX12_statementOf_187 (by decide) (fun c616 => ?_) (fun c616 => (by have n617 : ¬ (r609 = 0) := fun h9 => c616 ((nI_eq (a := r609) (b := 0) (by omega) (by omega)).mpr h9); omega))
            refine lv_iload_n hx hb dX12_statementOf_200 rfl (lv_at hl 0 rfl) ?_
            have hz618 : at0 ≤ at469 := (by omega)
            have hz619 : at469 ≤ T := (by omega)
            have hz620 : fa470 ≤ 100 := (by omega)
            have hz621 : nd ≤ nd472 := (by omega)
            have hz622 : nd472 + 2 * at0 ≤ nd + 2 * at469 + 100000 * fa470 := (by omega)
            have hz623 : nd472 + 2 * at0 ≤ nd + 2 * at469 + (60 * (21 - ne) + 40) := (by omega)
            have hz624 : wr ≤ wr474 := (by omega)
            have hz625 : wr474 + at0 ≤ wr + at469 := (by omega)
            have hz626 : lk ≤ lk473 := (by omega)
            have hz627 : lk473 ≤ 60 + 100 * fa470 := (by omega)
            have hz628 : at0 + 1 ≤ at469 + fa470 := (by omega)
            have hz629 : nd415 ≤ nd472 := (by omega)
            have hz630 : Kp B (stR X476 13 nd415 (nI r475)) wr474 T := hkp604
            have hz631 : If (fa470 = 0) (Low B (stR X476 13 nd415 (nI r475)) nd wr ∧ Frs K T wr474 (stR X476 13 nd415 (nI r475)) nd nd472 20000 [(nd415, (280 + 4 * (21 - ne)))] ∧ kcl 3 ((stR X476 13 nd415 (nI r475)) 9 nd415) = true) := (fun e => absurd e (by omega))
            have hP : va_P G.1 pCl (mW G h0 a (upd (upd (upd (upd (upd (upd (upd F 15 (nI fa470)) 16 pl471) 27 (nI nd472)) 31 (nI wr474)) 64 (nI at469)) 65 (nI ne)) 66 (nI lk473)) (updA (stR X476 13 nd415 (nI r475)) 2 K)) _ := hP
            have hD : va_D A (mW G h0 a (upd (upd (upd (upd (upd (upd (upd F 15 (nI fa470)) 16 pl471) 27 (nI nd472)) 31 (nI wr474)) 64 (nI at469)) 65 (nI ne)) 66 (nI lk473)) (updA (stR X476 13 nd415 (nI r475)) 2 K)) := mW_D hD
            exact W.iret (v := (nI nd415)) hx hb hr (fun t9 ht9 hW9 => ⟨⟨_, (at469, fa470, pl471, nd472, lk473, wr474, nd415, (stR X476 13 nd415 (nI r475))), rfl, ⟨rfl, hz618, hz619, hz620, hz621, hz622, hz623, hz624, hz625, hz626, hz627, hz628, hz629, hz630, hz631⟩, by rw [ht9]; exact hP, hD⟩, hS.F ht9⟩) hS.2.2 dX12_statementOf_201
        · have e465 := e465
          refine lv_aload_n hx hb dX12_statementOf_170 rfl (lv_at hl 2 rfl) ?_
          refine r_get (v := .ref (a 13)) hx hb hown hq hE hP 21 50 tFX12_21 (by decide) pw_1443 rfl dX12_statementOf_171 ?_
          refine lv_iload_n hx hb dX12_statementOf_174 rfl (lv_at hl 0 rfl) ?_
          refine lv_aload_n hx hb dX12_statementOf_175 rfl (lv_at hl 2 rfl) ?_
          have hP : va_P G.1 pCl (mW G h0 a (upd (upd (upd (upd (upd (upd (upd (upd (upd F 15 (nI fa455)) 16 pl456) 27 (nI (nd415 + 1))) 31 (nI wr417)) 64 (nI at454)) 65 (nI ne)) 66 (nI lk416)) 15 (nI fa455)) 64 (nI at454)) (updA (updA X444 2 K) 2 K)) _ := mW_to (F := F) (l1 := [(15, (nI fa455)), (16, pl456), (27, (nI (nd415 + 1))), (31, (nI wr417)), (64, (nI at454)), (65, (nI ne)), (66, (nI lk416))]) (l2 := [(15, (nI fa455)), (16, pl456), (27, (nI (nd415 + 1))), (31, (nI wr417)), (64, (nI at454)), (65, (nI ne)), (66, (nI lk416)), (15, (nI fa455)), (64, (nI at454))]) (V := [(nI fa455), pl456, (nI (nd415 + 1)), (nI wr417), (nI at454), (nI ne), (nI lk416), (nI fa455), pl456, (nI (nd415 + 1)), (nI wr417), (nI at454), (nI ne), (nI lk416), (nI fa455), (nI at454)]) rfl rfl (show (updA X444 2 K) = (updA (updA X444 2 K) 2 K) from updsA_eq2 (F := X444) (l1 := [(2, K)]) (l2 := [(2, K), (2, K)]) (V := [K, K, K]) rfl rfl) hP
          have hD : va_D A (mW G h0 a (upd (upd (upd (upd (upd (upd (upd (upd (upd F 15 (nI fa455)) 16 pl456) 27 (nI (nd415 + 1))) 31 (nI wr417)) 64 (nI at454)) 65 (nI ne)) 66 (nI lk416)) 15 (nI fa455)) 64 (nI at454)) (updA (updA X444 2 K) 2 K)) := mW_D hD
          refine pc_V0 (G := G) (As := []) (rest := [.int (nI nd415), .ref (a 13)]) hx hb hml hown hq hE hX pX0_al hP hD hS hA hl.1 (RF_statement l G h0 a (upd (upd (upd (upd (upd (upd (upd F 15 (nI fa455)) 16 pl456) 27 (nI (nd415 + 1))) 31 (nI wr417)) 64 (nI at454)) 65 (nI ne)) 66 (nI lk416)) (updA X444 2 K) at454 T fa455 K (by omega) (by omega) hK (by omega) e465) (gV pw_1699 pw_1700 pw_1701 pw_1523 pw_1706) hV_X12_statement 0 9 rfl rfl rfl rfl (Nat.le_of_ble_eq_true rfl) dX12_statementOf_176 ⟨Nat.le_of_ble_eq_true rfl, Nat.le_of_ble_eq_true rfl⟩ ⟨(by show 2 + 1 ≤ (26 * n + 44); omega), (by show 8 + (3 + 11) + 60 ≤ (2000 * n + 4400); omega)⟩ (fun v634 u632 H locs hw633 hP hD hS => ?_)
          obtain rfl : v634 = some (.int 0) := hw633
          have hP : va_P G.1 pCl (mW G h0 a (upd (upd (upd (upd (upd (upd (upd F 15 (nI fa455)) 16 pl456) 27 (nI (nd415 + 1))) 31 (nI wr417)) 64 (nI at454)) 65 (nI ne)) 66 (nI lk416)) (updA X444 2 K)) _ := mW_to (F := F) (l1 := [(15, (nI fa455)), (16, pl456), (27, (nI (nd415 + 1))), (31, (nI wr417)), (64, (nI at454)), (65, (nI ne)), (66, (nI lk416)), (15, (nI fa455)), (64, (nI at454))]) (l2 := [(15, (nI fa455)), (16, pl456), (27, (nI (nd415 + 1))), (31, (nI wr417)), (64, (nI at454)), (65, (nI ne)), (66, (nI lk416))]) (V := [(nI fa455), pl456, (nI (nd415 + 1)), (nI wr417), (nI at454), (nI ne), (nI lk416), (nI fa455), (nI at454), (nI fa455), pl456, (nI (nd415 + 1)), (nI wr417), (nI at454), (nI ne), (nI lk416)]) rfl rfl (show (updA (updA X444 2 K) 2 K) = (updA X444 2 K) from updsA_eq2 (F := X444) (l1 := [(2, K), (2, K)]) (l2 := [(2, K)]) (V := [K, K, K]) rfl rfl) hP
          have hD : va_D A (mW G h0 a (upd (upd (upd (upd (upd (upd (upd F 15 (nI fa455)) 16 pl456) 27 (nI (nd415 + 1))) 31 (nI wr417)) 64 (nI at454)) 65 (nI ne)) 66 (nI lk416)) (updA X444 2 K)) := mW_D hD
          refine W.widen (k := 0) (n := 0) (Nat.le_of_ble_eq_true rfl) (Nat.le_of_ble_eq_true rfl) ?_
          refine W.eq (g2 := F0 m 179 ls [.int 0, .int (nI nd415), .ref (a 13)]) rfl ?_
          refine r_sti (f := (X444 13)) (j := nd415) hx hb hE hP hD hS 13 (ma_13 G a _) rfl (mas_13 G a _) (by omega) (by decide) dX12_statementOf_179 (fun H locs hP hD hS => ?_)
          have hP : va_P G.1 pCl (mW G h0 a (upd (upd (upd (upd (upd (upd (upd F 15 (nI fa455)) 16 pl456) 27 (nI (nd415 + 1))) 31 (nI wr417)) 64 (nI at454)) 65 (nI ne)) 66 (nI lk416)) (updA (stR X444 13 nd415 0) 2 K)) _ := mW_to (F := F) (l1 := [(15, (nI fa455)), (16, pl456), (27, (nI (nd415 + 1))), (31, (nI wr417)), (64, (nI at454)), (65, (nI ne)), (66, (nI lk416))]) (l2 := [(15, (nI fa455)), (16, pl456), (27, (nI (nd415 + 1))), (31, (nI wr417)), (64, (nI at454)), (65, (nI ne)), (66, (nI lk416))]) (V := [(nI fa455), pl456, (nI (nd415 + 1)), (nI wr417), (nI at454), (nI ne), (nI lk416), (nI fa455), pl456, (nI (nd415 + 1)), (nI wr417), (nI at454), (nI ne), (nI lk416)]) rfl rfl (show (updA (updA X444 2 K) 13 (upd (X444 13) nd415 0)) = (updA (stR X444 13 nd415 0) 2 K) from updsA_eq2 (F := X444) (l1 := [(2, K), (13, (upd (X444 13) nd415 0))]) (l2 := [(13, (upd (X444 13) nd415 0)), (2, K)]) (V := [K, (upd (X444 13) nd415 0), (upd (X444 13) nd415 0), K]) rfl rfl) hP
          have hD : va_D A (mW G h0 a (upd (upd (upd (upd (upd (upd (upd F 15 (nI fa455)) 16 pl456) 27 (nI (nd415 + 1))) 31 (nI wr417)) 64 (nI at454)) 65 (nI ne)) 66 (nI lk416)) (updA (stR X444 13 nd415 0) 2 K)) := mW_D hD
          have hkp635 : Kp B (stR X444 13 nd415 0) wr417 T := (Kp.row hkp446 (by omega))
          refine lv_aload_n hx hb dX12_statementOf_180 rfl (lv_at hl 2 rfl) ?_
          refine lv_sipush (v := 316) hx hb dX12_statementOf_181 (by decide) ?_
          have hP : va_P G.1 pCl (mW G h0 a (upd (upd (upd (upd (upd (upd (upd (upd (upd F 15 (nI fa455)) 16 pl456) 27 (nI (nd415 + 1))) 31 (nI wr417)) 64 (nI at454)) 65 (nI ne)) 66 (nI lk416)) 15 (nI fa455)) 64 (nI at454)) (updA (updA (stR X444 13 nd415 0) 2 K) 2 K)) _ := mW_to (F := F) (l1 := [(15, (nI fa455)), (16, pl456), (27, (nI (nd415 + 1))), (31, (nI wr417)), (64, (nI at454)), (65, (nI ne)), (66, (nI lk416))]) (l2 := [(15, (nI fa455)), (16, pl456), (27, (nI (nd415 + 1))), (31, (nI wr417)), (64, (nI at454)), (65, (nI ne)), (66, (nI lk416)), (15, (nI fa455)), (64, (nI at454))]) (V := [(nI fa455), pl456, (nI (nd415 + 1)), (nI wr417), (nI at454), (nI ne), (nI lk416), (nI fa455), pl456, (nI (nd415 + 1)), (nI wr417), (nI at454), (nI ne), (nI lk416), (nI fa455), (nI at454)]) rfl rfl (show (updA (stR X444 13 nd415 0) 2 K) = (updA (updA (stR X444 13 nd415 0) 2 K) 2 K) from updsA_eq2 (F := X444) (l1 := [(13, (upd (X444 13) nd415 0)), (2, K)]) (l2 := [(13, (upd (X444 13) nd415 0)), (2, K), (2, K)]) (V := [(upd (X444 13) nd415 0), K, (upd (X444 13) nd415 0), K, K]) rfl rfl) hP
          have hD : va_D A (mW G h0 a (upd (upd (upd (upd (upd (upd (upd (upd (upd F 15 (nI fa455)) 16 pl456) 27 (nI (nd415 + 1))) 31 (nI wr417)) 64 (nI at454)) 65 (nI ne)) 66 (nI lk416)) 15 (nI fa455)) 64 (nI at454)) (updA (updA (stR X444 13 nd415 0) 2 K) 2 K)) := mW_D hD
          refine pc_V0 (G := G) (As := [.int 316]) (rest := []) hx hb hml hown hq hE hX pX0_al hP hD hS hA hl.1 (R_may l G h0 a (upd (upd (upd (upd (upd (upd (upd F 15 (nI fa455)) 16 pl456) 27 (nI (nd415 + 1))) 31 (nI wr417)) 64 (nI at454)) 65 (nI ne)) 66 (nI lk416)) (updA (stR X444 13 nd415 0) 2 K) at454 T fa455 K 316 (by omega) (by omega) hK (by omega) (by decide) (by decide)) (gV pw_1621 pw_1622 pw_1623 pw_1523 pw_1605) hV_X12_may 0 9 rfl rfl rfl rfl (Nat.le_of_ble_eq_true rfl) dX12_statementOf_184 ⟨Nat.le_of_ble_eq_true rfl, Nat.le_of_ble_eq_true rfl⟩ ⟨(by show 3 + 1 ≤ (26 * n + 44); omega), (by show 8 + (3 + 11) + 81 ≤ (2000 * n + 4400); omega)⟩ (fun v638 u636 H locs hw637 hP hD hS => ?_)
          obtain ⟨at639, r640⟩ := u636
          obtain ⟨hw637, h641, h642, h643, h644, h645, h646⟩ := hw637
          have h641 : r640 ≤ 1 := h641
          have h642 : fa455 + 100 * r640 ≤ 100 := h642
          have h643 : at639 = at454 + r640 := h643
          have h644 : at639 ≤ T := h644
          have h645 : If (r640 = 1) (K at454 = 316) := h645
          have h646 : If (r640 = 0) (fa455 = 0 → ¬ K at454 = 316) := h646
          obtain rfl : v638 = some (.int (nI r640)) := hw637
          have hP : va_P G.1 pCl (mW G h0 a (upd (upd (upd (upd (upd (upd (upd F 15 (nI fa455)) 16 pl456) 27 (nI (nd415 + 1))) 31 (nI wr417)) 64 (nI at639)) 65 (nI ne)) 66 (nI lk416)) (updA (stR X444 13 nd415 0) 2 K)) _ := mW_to (F := F) (l1 := [(15, (nI fa455)), (16, pl456), (27, (nI (nd415 + 1))), (31, (nI wr417)), (64, (nI at454)), (65, (nI ne)), (66, (nI lk416)), (15, (nI fa455)), (64, (nI at639))]) (l2 := [(15, (nI fa455)), (16, pl456), (27, (nI (nd415 + 1))), (31, (nI wr417)), (64, (nI at639)), (65, (nI ne)), (66, (nI lk416))]) (V := [(nI fa455), pl456, (nI (nd415 + 1)), (nI wr417), (nI at639), (nI ne), (nI lk416), (nI fa455), (nI at639), (nI fa455), pl456, (nI (nd415 + 1)), (nI wr417), (nI at639), (nI ne), (nI lk416)]) rfl rfl (show (updA (updA (stR X444 13 nd415 0) 2 K) 2 K) = (updA (stR X444 13 nd415 0) 2 K) from updsA_eq2 (F := X444) (l1 := [(13, (upd (X444 13) nd415 0)), (2, K), (2, K)]) (l2 := [(13, (upd (X444 13) nd415 0)), (2, K)]) (V := [(upd (X444 13) nd415 0), K, K, (upd (X444 13) nd415 0), K]) rfl rfl) hP
          have hD : va_D A (mW G h0 a (upd (upd (upd (upd (upd (upd (upd F 15 (nI fa455)) 16 pl456) 27 (nI (nd415 + 1))) 31 (nI wr417)) 64 (nI at639)) 65 (nI ne)) 66 (nI lk416)) (updA (stR X444 13 nd415 0) 2 K)) := mW_D hD
          refine W.widen (k := 0) (n := 0) (Nat.le_of_ble_eq_true rfl) (Nat.le_of_ble_eq_true rfl) ?_
          refine W.eq (g2 := F0 m 187 ls [.int (nI r640)]) rfl ?_
          obtain rfl : at454 = at639 := (by omega)
          refine lv_if_eq (tgt := 200) hx hb dX12_statementOf_187 (by decide) (fun c647 => ?_) (fun c647 => (by have n648 : ¬ (r640 = 0) := fun h9 => c647 ((nI_eq (a := r640) (b := 0) (by omega) (by omega)).mpr h9); omega))
          refine lv_iload_n hx hb dX12_statementOf_200 rfl (lv_at hl 0 rfl) ?_
          have hz649 : at0 ≤ at454 := (by omega)
          have hz650 : at454 ≤ T := (by omega)
          have hz651 : fa455 ≤ 100 := (by omega)
          have hz652 : nd ≤ (nd415 + 1) := (by omega)
          have hz653 : (nd415 + 1) + 2 * at0 ≤ nd + 2 * at454 + 100000 * fa455 := (by omega)
          have hz654 : (nd415 + 1) + 2 * at0 ≤ nd + 2 * at454 + (60 * (21 - ne) + 40) := (by omega)
          have hz655 : wr ≤ wr417 := (by omega)
          have hz656 : wr417 + at0 ≤ wr + at454 := (by omega)
          have hz657 : lk ≤ lk416 := (by omega)
          have hz658 : lk416 ≤ 60 + 100 * fa455 := (by omega)
          have hz659 : at0 + 1 ≤ at454 + fa455 := (by omega)
          have hz660 : nd415 ≤ (nd415 + 1) := (by omega)
          have hz661 : Kp B (stR X444 13 nd415 0) wr417 T := hkp635
          have hz662 : If (fa455 = 0) (Low B (stR X444 13 nd415 0) nd wr ∧ Frs K T wr417 (stR X444 13 nd415 0) nd (nd415 + 1) 20000 [(nd415, (280 + 4 * (21 - ne)))] ∧ kcl 3 ((stR X444 13 nd415 0) 9 nd415) = true) := (fun e => absurd e (by omega))
          have hP : va_P G.1 pCl (mW G h0 a (upd (upd (upd (upd (upd (upd (upd F 15 (nI fa455)) 16 pl456) 27 (nI (nd415 + 1))) 31 (nI wr417)) 64 (nI at454)) 65 (nI ne)) 66 (nI lk416)) (updA (stR X444 13 nd415 0) 2 K)) _ := hP
          have hD : va_D A (mW G h0 a (upd (upd (upd (upd (upd (upd (upd F 15 (nI fa455)) 16 pl456) 27 (nI (nd415 + 1))) 31 (nI wr417)) 64 (nI at454)) 65 (nI ne)) 66 (nI lk416)) (updA (stR X444 13 nd415 0) 2 K)) := mW_D hD
          exact W.iret (v := (nI nd415)) hx hb hr (fun t9 ht9 hW9 => ⟨⟨_, (at454, fa455, pl456, (nd415 + 1), lk416, wr417, nd415, (stR X444 13 nd415 0)), rfl, ⟨rfl, hz649, hz650, hz651, hz652, hz653, hz654, hz655, hz656, hz657, hz658, hz659, hz660, hz661, hz662⟩, by rw [ht9]; exact hP, hD⟩, hS.F ht9⟩) hS.2.2 dX12_statementOf_201
      · have e435 := e435
        refine lv_iconst (v := (-1)) hx hb dX12_statementOf_159 (by decide) ?_
        have hP : va_P G.1 pCl (mW G h0 a (upd (upd (upd (upd (upd (upd (upd (upd F 15 (nI fa413)) 16 pl414) 27 (nI nd415)) 31 (nI wr417)) 64 (nI at412)) 65 (nI ne)) 66 (nI lk416)) 27 (nI nd415)) (updA X419 2 K)) _ := mW_to (F := F) (l1 := [(15, (nI fa413)), (16, pl414), (27, (nI nd415)), (31, (nI wr417)), (64, (nI at412)), (65, (nI ne)), (66, (nI lk416))]) (l2 := [(15, (nI fa413)), (16, pl414), (27, (nI nd415)), (31, (nI wr417)), (64, (nI at412)), (65, (nI ne)), (66, (nI lk416)), (27, (nI nd415))]) (V := [(nI fa413), pl414, (nI nd415), (nI wr417), (nI at412), (nI ne), (nI lk416), (nI fa413), pl414, (nI nd415), (nI wr417), (nI at412), (nI ne), (nI lk416), (nI nd415)]) rfl rfl rfl hP
        have hD : va_D A (mW G h0 a (upd (upd (upd (upd (upd (upd (upd (upd F 15 (nI fa413)) 16 pl414) 27 (nI nd415)) 31 (nI wr417)) 64 (nI at412)) 65 (nI ne)) 66 (nI lk416)) 27 (nI nd415)) (updA X419 2 K)) := mW_D hD
        refine pc_V0 (G := G) (As := [.int 34, .int (nI at0), .int (nI at0), .int (nI r418), .int (-1)]) (rest := []) hx hb hml hown hq hE hX pX0_al hP hD hS hA hl.1 (R_nodeB l G h0 a (upd (upd (upd (upd (upd (upd (upd F 15 (nI fa413)) 16 pl414) 27 (nI nd415)) 31 (nI wr417)) 64 (nI at412)) 65 (nI ne)) 66 (nI lk416)) X419 34 (nI at0) (nI at0) (nI r418) (-1) nd415 K (by omega)) (gV pw_1650 pw_1651 pw_1652 pw_1523 pw_1589) hV_X12_node 0 9 rfl rfl rfl rfl (Nat.le_of_ble_eq_true rfl) dX12_statementOf_160 ⟨Nat.le_of_ble_eq_true rfl, Nat.le_of_ble_eq_true rfl⟩ ⟨(by show 2 + 1 ≤ (26 * n + 44); omega), (by show 8 + (7 + 11) + 60 ≤ (2000 * n + 4400); omega)⟩ (fun v665 u663 H locs hw664 hP hD hS => ?_)
        obtain ⟨X666, rfl⟩ : ∃ z, z = u663 := ⟨_, rfl⟩
        obtain ⟨hw664, h667⟩ := hw664
        have h667 : NewN X419 X666 nd415 34 (nI at0) (nI at0) (nI r418) (-1) := h667
        obtain rfl : v665 = some (.int (nI nd415)) := hw664
        have hP : va_P G.1 pCl (mW G h0 a (upd (upd (upd (upd (upd (upd (upd F 15 (nI fa413)) 16 pl414) 27 (nI (nd415 + 1))) 31 (nI wr417)) 64 (nI at412)) 65 (nI ne)) 66 (nI lk416)) (updA X666 2 K)) _ := mW_to (F := F) (l1 := [(15, (nI fa413)), (16, pl414), (27, (nI nd415)), (31, (nI wr417)), (64, (nI at412)), (65, (nI ne)), (66, (nI lk416)), (27, (nI (nd415 + 1)))]) (l2 := [(15, (nI fa413)), (16, pl414), (27, (nI (nd415 + 1))), (31, (nI wr417)), (64, (nI at412)), (65, (nI ne)), (66, (nI lk416))]) (V := [(nI fa413), pl414, (nI (nd415 + 1)), (nI wr417), (nI at412), (nI ne), (nI lk416), (nI (nd415 + 1)), (nI fa413), pl414, (nI (nd415 + 1)), (nI wr417), (nI at412), (nI ne), (nI lk416)]) rfl rfl rfl hP
        have hD : va_D A (mW G h0 a (upd (upd (upd (upd (upd (upd (upd F 15 (nI fa413)) 16 pl414) 27 (nI (nd415 + 1))) 31 (nI wr417)) 64 (nI at412)) 65 (nI ne)) 66 (nI lk416)) (updA X666 2 K)) := mW_D hD
        refine W.widen (k := 0) (n := 0) (Nat.le_of_ble_eq_true rfl) (Nat.le_of_ble_eq_true rfl) ?_
        refine W.eq (g2 := F0 m 163 ls [.int (nI nd415)]) rfl ?_
        have hkp668 : Kp B X666 wr417 T := (Kp.new hkp434 h667)
        refine lv_istore_n (lv' := [(2, .int (nI nd415)), (1, .int (nI at0)), (0, .ref h0)]) hx hb dX12_statementOf_163 rfl hl (by decide) rfl (fun ls hl => ?_)
        refine lv_aload_n hx hb dX12_statementOf_164 rfl (lv_at hl 2 rfl) ?_
        refine lv_bipush (v := 41) hx hb dX12_statementOf_165 (by decide) ?_
        have hP : va_P G.1 pCl (mW G h0 a (upd (upd (upd (upd (upd (upd (upd (upd (upd F 15 (nI fa413)) 16 pl414) 27 (nI (nd415 + 1))) 31 (nI wr417)) 64 (nI at412)) 65 (nI ne)) 66 (nI lk416)) 15 (nI fa413)) 64 (nI at412)) (updA (updA X666 2 K) 2 K)) _ := mW_to (F := F) (l1 := [(15, (nI fa413)), (16, pl414), (27, (nI (nd415 + 1))), (31, (nI wr417)), (64, (nI at412)), (65, (nI ne)), (66, (nI lk416))]) (l2 := [(15, (nI fa413)), (16, pl414), (27, (nI (nd415 + 1))), (31, (nI wr417)), (64, (nI at412)), (65, (nI ne)), (66, (nI lk416)), (15, (nI fa413)), (64, (nI at412))]) (V := [(nI fa413), pl414, (nI (nd415 + 1)), (nI wr417), (nI at412), (nI ne), (nI lk416), (nI fa413), pl414, (nI (nd415 + 1)), (nI wr417), (nI at412), (nI ne), (nI lk416), (nI fa413), (nI at412)]) rfl rfl (show (updA X666 2 K) = (updA (updA X666 2 K) 2 K) from updsA_eq2 (F := X666) (l1 := [(2, K)]) (l2 := [(2, K), (2, K)]) (V := [K, K, K]) rfl rfl) hP
        have hD : va_D A (mW G h0 a (upd (upd (upd (upd (upd (upd (upd (upd (upd F 15 (nI fa413)) 16 pl414) 27 (nI (nd415 + 1))) 31 (nI wr417)) 64 (nI at412)) 65 (nI ne)) 66 (nI lk416)) 15 (nI fa413)) 64 (nI at412)) (updA (updA X666 2 K) 2 K)) := mW_D hD
        refine pc_V0 (G := G) (As := [.int 41]) (rest := []) hx hb hml hown hq hE hX pX0_al hP hD hS hA hl.1 (R_take l G h0 a (upd (upd (upd (upd (upd (upd (upd F 15 (nI fa413)) 16 pl414) 27 (nI (nd415 + 1))) 31 (nI wr417)) 64 (nI at412)) 65 (nI ne)) 66 (nI lk416)) (updA X666 2 K) at412 T fa413 K 41 (by omega) (by omega) hK (by omega) (by decide) (by decide)) (gV pw_1614 pw_1615 pw_1616 pw_1523 pw_1601) hV_X12_take 0 9 rfl rfl rfl rfl (Nat.le_of_ble_eq_true rfl) dX12_statementOf_167 ⟨Nat.le_of_ble_eq_true rfl, Nat.le_of_ble_eq_true rfl⟩ ⟨(by show 4 + 1 ≤ (26 * n + 44); omega), (by show 8 + (2 + 11) + 103 ≤ (2000 * n + 4400); omega)⟩ (fun v671 u669 H locs hw670 hP hD hS => ?_)
        obtain ⟨at672, fa673, pl674⟩ := u669
        obtain ⟨hw670, h675, h676, h677, h678, h679, h680, h681, h682⟩ := hw670
        have h675 : at412 ≤ at672 := h675
        have h676 : at672 ≤ T := h676
        have h677 : fa413 ≤ fa673 := h677
        have h678 : fa673 ≤ 100 := h678
        have h679 : If (0 < fa413) (at672 = at412 ∧ fa673 = fa413) := h679
        have h680 : at672 ≤ at412 + 1 := h680
        have h681 : at412 + 1 ≤ at672 + fa673 := h681
        have h682 : If (fa673 = 0) (K at412 = 41) := h682
        obtain rfl : v671 = none := hw670
        have hP : va_P G.1 pCl (mW G h0 a (upd (upd (upd (upd (upd (upd (upd F 15 (nI fa673)) 16 pl674) 27 (nI (nd415 + 1))) 31 (nI wr417)) 64 (nI at672)) 65 (nI ne)) 66 (nI lk416)) (updA X666 2 K)) _ := mW_to (F := F) (l1 := [(15, (nI fa413)), (16, pl414), (27, (nI (nd415 + 1))), (31, (nI wr417)), (64, (nI at412)), (65, (nI ne)), (66, (nI lk416)), (15, (nI fa673)), (16, pl674), (64, (nI at672))]) (l2 := [(15, (nI fa673)), (16, pl674), (27, (nI (nd415 + 1))), (31, (nI wr417)), (64, (nI at672)), (65, (nI ne)), (66, (nI lk416))]) (V := [(nI fa673), pl674, (nI (nd415 + 1)), (nI wr417), (nI at672), (nI ne), (nI lk416), (nI fa673), pl674, (nI at672), (nI fa673), pl674, (nI (nd415 + 1)), (nI wr417), (nI at672), (nI ne), (nI lk416)]) rfl rfl (show (updA (updA X666 2 K) 2 K) = (updA X666 2 K) from updsA_eq2 (F := X666) (l1 := [(2, K), (2, K)]) (l2 := [(2, K)]) (V := [K, K, K]) rfl rfl) hP
        have hD : va_D A (mW G h0 a (upd (upd (upd (upd (upd (upd (upd F 15 (nI fa673)) 16 pl674) 27 (nI (nd415 + 1))) 31 (nI wr417)) 64 (nI at672)) 65 (nI ne)) 66 (nI lk416)) (updA X666 2 K)) := mW_D hD
        refine W.widen (k := 0) (n := 0) (Nat.le_of_ble_eq_true rfl) (Nat.le_of_ble_eq_true rfl) ?_
        refine W.eq (g2 := F0 m 170 ls []) rfl ?_
        obtain ⟨n684, n683⟩ := h679 e435
        replace n684 := n684.symm
        subst n684
        replace n683 := n683.symm
        subst n683
        refine lv_aload_n hx hb dX12_statementOf_170 rfl (lv_at hl 2 rfl) ?_
        refine r_get (v := .ref (a 13)) hx hb hown hq hE hP 21 50 tFX12_21 (by decide) pw_1443 rfl dX12_statementOf_171 ?_
        refine lv_iload_n hx hb dX12_statementOf_174 rfl (lv_at hl 0 rfl) ?_
        refine lv_aload_n hx hb dX12_statementOf_175 rfl (lv_at hl 2 rfl) ?_
        have hP : va_P G.1 pCl (mW G h0 a (upd (upd (upd (upd (upd (upd (upd (upd (upd F 15 (nI fa413)) 16 pl674) 27 (nI (nd415 + 1))) 31 (nI wr417)) 64 (nI at412)) 65 (nI ne)) 66 (nI lk416)) 15 (nI fa413)) 64 (nI at412)) (updA (updA X666 2 K) 2 K)) _ := hP
        have hD : va_D A (mW G h0 a (upd (upd (upd (upd (upd (upd (upd (upd (upd F 15 (nI fa413)) 16 pl674) 27 (nI (nd415 + 1))) 31 (nI wr417)) 64 (nI at412)) 65 (nI ne)) 66 (nI lk416)) 15 (nI fa413)) 64 (nI at412)) (updA (updA X666 2 K) 2 K)) := mW_D hD
        refine pc_V0 (G := G) (As := []) (rest := [.int (nI nd415), .ref (a 13)]) hx hb hml hown hq hE hX pX0_al hP hD hS hA hl.1 (RF_statement l G h0 a (upd (upd (upd (upd (upd (upd (upd F 15 (nI fa413)) 16 pl674) 27 (nI (nd415 + 1))) 31 (nI wr417)) 64 (nI at412)) 65 (nI ne)) 66 (nI lk416)) (updA X666 2 K) at412 T fa413 K (by omega) (by omega) hK (by omega) e435) (gV pw_1699 pw_1700 pw_1701 pw_1523 pw_1706) hV_X12_statement 0 9 rfl rfl rfl rfl (Nat.le_of_ble_eq_true rfl) dX12_statementOf_176 ⟨Nat.le_of_ble_eq_true rfl, Nat.le_of_ble_eq_true rfl⟩ ⟨(by show 2 + 1 ≤ (26 * n + 44); omega), (by show 8 + (3 + 11) + 60 ≤ (2000 * n + 4400); omega)⟩ (fun v687 u685 H locs hw686 hP hD hS => ?_)
        obtain rfl : v687 = some (.int 0) := hw686
        have hP : va_P G.1 pCl (mW G h0 a (upd (upd (upd (upd (upd (upd (upd F 15 (nI fa413)) 16 pl674) 27 (nI (nd415 + 1))) 31 (nI wr417)) 64 (nI at412)) 65 (nI ne)) 66 (nI lk416)) (updA X666 2 K)) _ := mW_to (F := F) (l1 := [(15, (nI fa413)), (16, pl674), (27, (nI (nd415 + 1))), (31, (nI wr417)), (64, (nI at412)), (65, (nI ne)), (66, (nI lk416)), (15, (nI fa413)), (64, (nI at412))]) (l2 := [(15, (nI fa413)), (16, pl674), (27, (nI (nd415 + 1))), (31, (nI wr417)), (64, (nI at412)), (65, (nI ne)), (66, (nI lk416))]) (V := [(nI fa413), pl674, (nI (nd415 + 1)), (nI wr417), (nI at412), (nI ne), (nI lk416), (nI fa413), (nI at412), (nI fa413), pl674, (nI (nd415 + 1)), (nI wr417), (nI at412), (nI ne), (nI lk416)]) rfl rfl (show (updA (updA X666 2 K) 2 K) = (updA X666 2 K) from updsA_eq2 (F := X666) (l1 := [(2, K), (2, K)]) (l2 := [(2, K)]) (V := [K, K, K]) rfl rfl) hP
        have hD : va_D A (mW G h0 a (upd (upd (upd (upd (upd (upd (upd F 15 (nI fa413)) 16 pl674) 27 (nI (nd415 + 1))) 31 (nI wr417)) 64 (nI at412)) 65 (nI ne)) 66 (nI lk416)) (updA X666 2 K)) := mW_D hD
        refine W.widen (k := 0) (n := 0) (Nat.le_of_ble_eq_true rfl) (Nat.le_of_ble_eq_true rfl) ?_
        refine W.eq (g2 := F0 m 179 ls [.int 0, .int (nI nd415), .ref (a 13)]) rfl ?_
        refine r_sti (f := (X666 13)) (j := nd415) hx hb hE hP hD hS 13 (ma_13 G a _) rfl (mas_13 G a _) (by omega) (by decide) dX12_statementOf_179 (fun H locs hP hD hS => ?_)
        have hP : va_P G.1 pCl (mW G h0 a (upd (upd (upd (upd (upd (upd (upd F 15 (nI fa413)) 16 pl674) 27 (nI (nd415 + 1))) 31 (nI wr417)) 64 (nI at412)) 65 (nI ne)) 66 (nI lk416)) (updA (stR X666 13 nd415 0) 2 K)) _ := mW_to (F := F) (l1 := [(15, (nI fa413)), (16, pl674), (27, (nI (nd415 + 1))), (31, (nI wr417)), (64, (nI at412)), (65, (nI ne)), (66, (nI lk416))]) (l2 := [(15, (nI fa413)), (16, pl674), (27, (nI (nd415 + 1))), (31, (nI wr417)), (64, (nI at412)), (65, (nI ne)), (66, (nI lk416))]) (V := [(nI fa413), pl674, (nI (nd415 + 1)), (nI wr417), (nI at412), (nI ne), (nI lk416), (nI fa413), pl674, (nI (nd415 + 1)), (nI wr417), (nI at412), (nI ne), (nI lk416)]) rfl rfl (show (updA (updA X666 2 K) 13 (upd (X666 13) nd415 0)) = (updA (stR X666 13 nd415 0) 2 K) from updsA_eq2 (F := X666) (l1 := [(2, K), (13, (upd (X666 13) nd415 0))]) (l2 := [(13, (upd (X666 13) nd415 0)), (2, K)]) (V := [K, (upd (X666 13) nd415 0), (upd (X666 13) nd415 0), K]) rfl rfl) hP
        have hD : va_D A (mW G h0 a (upd (upd (upd (upd (upd (upd (upd F 15 (nI fa413)) 16 pl674) 27 (nI (nd415 + 1))) 31 (nI wr417)) 64 (nI at412)) 65 (nI ne)) 66 (nI lk416)) (updA (stR X666 13 nd415 0) 2 K)) := mW_D hD
        have hkp688 : Kp B (stR X666 13 nd415 0) wr417 T := (Kp.row hkp668 (by omega))
        refine lv_aload_n hx hb dX12_statementOf_180 rfl (lv_at hl 2 rfl) ?_
        refine lv_sipush (v := 316) hx hb dX12_statementOf_181 (by decide) ?_
        have hP : va_P G.1 pCl (mW G h0 a (upd (upd (upd (upd (upd (upd (upd (upd (upd F 15 (nI fa413)) 16 pl674) 27 (nI (nd415 + 1))) 31 (nI wr417)) 64 (nI at412)) 65 (nI ne)) 66 (nI lk416)) 15 (nI fa413)) 64 (nI at412)) (updA (updA (stR X666 13 nd415 0) 2 K) 2 K)) _ := mW_to (F := F) (l1 := [(15, (nI fa413)), (16, pl674), (27, (nI (nd415 + 1))), (31, (nI wr417)), (64, (nI at412)), (65, (nI ne)), (66, (nI lk416))]) (l2 := [(15, (nI fa413)), (16, pl674), (27, (nI (nd415 + 1))), (31, (nI wr417)), (64, (nI at412)), (65, (nI ne)), (66, (nI lk416)), (15, (nI fa413)), (64, (nI at412))]) (V := [(nI fa413), pl674, (nI (nd415 + 1)), (nI wr417), (nI at412), (nI ne), (nI lk416), (nI fa413), pl674, (nI (nd415 + 1)), (nI wr417), (nI at412), (nI ne), (nI lk416), (nI fa413), (nI at412)]) rfl rfl (show (updA (stR X666 13 nd415 0) 2 K) = (updA (updA (stR X666 13 nd415 0) 2 K) 2 K) from updsA_eq2 (F := X666) (l1 := [(13, (upd (X666 13) nd415 0)), (2, K)]) (l2 := [(13, (upd (X666 13) nd415 0)), (2, K), (2, K)]) (V := [(upd (X666 13) nd415 0), K, (upd (X666 13) nd415 0), K, K]) rfl rfl) hP
        have hD : va_D A (mW G h0 a (upd (upd (upd (upd (upd (upd (upd (upd (upd F 15 (nI fa413)) 16 pl674) 27 (nI (nd415 + 1))) 31 (nI wr417)) 64 (nI at412)) 65 (nI ne)) 66 (nI lk416)) 15 (nI fa413)) 64 (nI at412)) (updA (updA (stR X666 13 nd415 0) 2 K) 2 K)) := mW_D hD
        refine pc_V0 (G := G) (As := [.int 316]) (rest := []) hx hb hml hown hq hE hX pX0_al hP hD hS hA hl.1 (R_may l G h0 a (upd (upd (upd (upd (upd (upd (upd F 15 (nI fa413)) 16 pl674) 27 (nI (nd415 + 1))) 31 (nI wr417)) 64 (nI at412)) 65 (nI ne)) 66 (nI lk416)) (updA (stR X666 13 nd415 0) 2 K) at412 T fa413 K 316 (by omega) (by omega) hK (by omega) (by decide) (by decide)) (gV pw_1621 pw_1622 pw_1623 pw_1523 pw_1605) hV_X12_may 0 9 rfl rfl rfl rfl (Nat.le_of_ble_eq_true rfl) dX12_statementOf_184 ⟨Nat.le_of_ble_eq_true rfl, Nat.le_of_ble_eq_true rfl⟩ ⟨(by show 3 + 1 ≤ (26 * n + 44); omega), (by show 8 + (3 + 11) + 81 ≤ (2000 * n + 4400); omega)⟩ (fun v691 u689 H locs hw690 hP hD hS => ?_)
        obtain ⟨at692, r693⟩ := u689
        obtain ⟨hw690, h694, h695, h696, h697, h698, h699⟩ := hw690
        have h694 : r693 ≤ 1 := h694
        have h695 : fa413 + 100 * r693 ≤ 100 := h695
        have h696 : at692 = at412 + r693 := h696
        have h697 : at692 ≤ T := h697
        have h698 : If (r693 = 1) (K at412 = 316) := h698
        have h699 : If (r693 = 0) (fa413 = 0 → ¬ K at412 = 316) := h699
        obtain rfl : v691 = some (.int (nI r693)) := hw690
        have hP : va_P G.1 pCl (mW G h0 a (upd (upd (upd (upd (upd (upd (upd F 15 (nI fa413)) 16 pl674) 27 (nI (nd415 + 1))) 31 (nI wr417)) 64 (nI at692)) 65 (nI ne)) 66 (nI lk416)) (updA (stR X666 13 nd415 0) 2 K)) _ := mW_to (F := F) (l1 := [(15, (nI fa413)), (16, pl674), (27, (nI (nd415 + 1))), (31, (nI wr417)), (64, (nI at412)), (65, (nI ne)), (66, (nI lk416)), (15, (nI fa413)), (64, (nI at692))]) (l2 := [(15, (nI fa413)), (16, pl674), (27, (nI (nd415 + 1))), (31, (nI wr417)), (64, (nI at692)), (65, (nI ne)), (66, (nI lk416))]) (V := [(nI fa413), pl674, (nI (nd415 + 1)), (nI wr417), (nI at692), (nI ne), (nI lk416), (nI fa413), (nI at692), (nI fa413), pl674, (nI (nd415 + 1)), (nI wr417), (nI at692), (nI ne), (nI lk416)]) rfl rfl (show (updA (updA (stR X666 13 nd415 0) 2 K) 2 K) = (updA (stR X666 13 nd415 0) 2 K) from updsA_eq2 (F := X666) (l1 := [(13, (upd (X666 13) nd415 0)), (2, K), (2, K)]) (l2 := [(13, (upd (X666 13) nd415 0)), (2, K)]) (V := [(upd (X666 13) nd415 0), K, K, (upd (X666 13) nd415 0), K]) rfl rfl) hP
        have hD : va_D A (mW G h0 a (upd (upd (upd (upd (upd (upd (upd F 15 (nI fa413)) 16 pl674) 27 (nI (nd415 + 1))) 31 (nI wr417)) 64 (nI at692)) 65 (nI ne)) 66 (nI lk416)) (updA (stR X666 13 nd415 0) 2 K)) := mW_D hD
        refine W.widen (k := 0) (n := 0) (Nat.le_of_ble_eq_true rfl) (Nat.le_of_ble_eq_true rfl) ?_
        refine W.eq (g2 := F0 m 187 ls [.int (nI r693)]) rfl ?_
        obtain rfl : at412 = at692 := (by omega)
        refine lv_if_eq (tgt := 200) hx hb dX12_statementOf_187 (by decide) (fun c700 => ?_) (fun c700 => (by have n701 : ¬ (r693 = 0) := fun h9 => c700 ((nI_eq (a := r693) (b := 0) (by omega) (by omega)).mpr h9); omega))
        refine lv_iload_n hx hb dX12_statementOf_200 rfl (lv_at hl 0 rfl) ?_
        have hz702 : at0 ≤ at412 := (by omega)
        have hz703 : at412 ≤ T := (by omega)
        have hz704 : fa413 ≤ 100 := (by omega)
        have hz705 : nd ≤ (nd415 + 1) := (by omega)
        have hz706 : (nd415 + 1) + 2 * at0 ≤ nd + 2 * at412 + 100000 * fa413 := (by omega)
        have hz707 : (nd415 + 1) + 2 * at0 ≤ nd + 2 * at412 + (60 * (21 - ne) + 40) := (by omega)
        have hz708 : wr ≤ wr417 := (by omega)
        have hz709 : wr417 + at0 ≤ wr + at412 := (by omega)
        have hz710 : lk ≤ lk416 := (by omega)
        have hz711 : lk416 ≤ 60 + 100 * fa413 := (by omega)
        have hz712 : at0 + 1 ≤ at412 + fa413 := (by omega)
        have hz713 : nd415 ≤ (nd415 + 1) := (by omega)
        have hz714 : Kp B (stR X666 13 nd415 0) wr417 T := hkp688
        have hz715 : If (fa413 = 0) (Low B (stR X666 13 nd415 0) nd wr ∧ Frs K T wr417 (stR X666 13 nd415 0) nd (nd415 + 1) 20000 [(nd415, (280 + 4 * (21 - ne)))] ∧ kcl 3 ((stR X666 13 nd415 0) 9 nd415) = true) := (fun e => absurd e (by omega))
        have hP : va_P G.1 pCl (mW G h0 a (upd (upd (upd (upd (upd (upd (upd F 15 (nI fa413)) 16 pl674) 27 (nI (nd415 + 1))) 31 (nI wr417)) 64 (nI at412)) 65 (nI ne)) 66 (nI lk416)) (updA (stR X666 13 nd415 0) 2 K)) _ := hP
        have hD : va_D A (mW G h0 a (upd (upd (upd (upd (upd (upd (upd F 15 (nI fa413)) 16 pl674) 27 (nI (nd415 + 1))) 31 (nI wr417)) 64 (nI at412)) 65 (nI ne)) 66 (nI lk416)) (updA (stR X666 13 nd415 0) 2 K)) := mW_D hD
        exact W.iret (v := (nI nd415)) hx hb hr (fun t9 ht9 hW9 => ⟨⟨_, (at412, fa413, pl674, (nd415 + 1), lk416, wr417, nd415, (stR X666 13 nd415 0)), rfl, ⟨rfl, hz702, hz703, hz704, hz705, hz706, hz707, hz708, hz709, hz710, hz711, hz712, hz713, hz714, hz715⟩, by rw [ht9]; exact hP, hD⟩, hS.F ht9⟩) hS.2.2 dX12_statementOf_201
    · have e408 := e408
      refine lv_aload_n hx hb dX12_statementOf_150 rfl (lv_at hl 1 rfl) ?_
      refine lv_bipush (v := 34) hx hb dX12_statementOf_151 (by decide) ?_
      refine lv_iload_n hx hb dX12_statementOf_153 rfl (lv_at hl 0 rfl) ?_
      refine lv_iload_n hx hb dX12_statementOf_154 rfl (lv_at hl 0 rfl) ?_
      refine lv_aload_n hx hb dX12_statementOf_155 rfl (lv_at hl 1 rfl) ?_
      have hP : va_P G.1 pCl (mW G h0 a (upd (upd (upd (upd (upd (upd (upd (upd (upd F 15 (nI fa398)) 16 pl399) 27 (nI nd)) 31 (nI wr)) 64 (nI at397)) 65 (nI ne)) 66 (nI lk)) 15 (nI fa398)) 64 (nI at397)) (updA (updA B 2 K) 2 K)) _ := mW_to (F := F) (l1 := [(15, (nI fa398)), (16, pl399), (27, (nI nd)), (31, (nI wr)), (64, (nI at397)), (65, (nI ne)), (66, (nI lk))]) (l2 := [(15, (nI fa398)), (16, pl399), (27, (nI nd)), (31, (nI wr)), (64, (nI at397)), (65, (nI ne)), (66, (nI lk)), (15, (nI fa398)), (64, (nI at397))]) (V := [(nI fa398), pl399, (nI nd), (nI wr), (nI at397), (nI ne), (nI lk), (nI fa398), pl399, (nI nd), (nI wr), (nI at397), (nI ne), (nI lk), (nI fa398), (nI at397)]) rfl rfl (show (updA B 2 K) = (updA (updA B 2 K) 2 K) from updsA_eq2 (F := B) (l1 := [(2, K)]) (l2 := [(2, K), (2, K)]) (V := [K, K, K]) rfl rfl) hP
      have hD : va_D A (mW G h0 a (upd (upd (upd (upd (upd (upd (upd (upd (upd F 15 (nI fa398)) 16 pl399) 27 (nI nd)) 31 (nI wr)) 64 (nI at397)) 65 (nI ne)) 66 (nI lk)) 15 (nI fa398)) 64 (nI at397)) (updA (updA B 2 K) 2 K)) := mW_D hD
      refine pc_V0 (G := G) (As := []) (rest := [.int (nI at0), .int (nI at0), .int 34, .ref h0]) hx hb hml hown hq hE hX pX0_al hP hD hS hA hl.1 (RF_choice l G h0 a (upd (upd (upd (upd (upd (upd (upd F 15 (nI fa398)) 16 pl399) 27 (nI nd)) 31 (nI wr)) 64 (nI at397)) 65 (nI ne)) 66 (nI lk)) (updA B 2 K) at397 T fa398 K (by omega) (by omega) hK (by omega) e408) (gV pw_1640 pw_1641 pw_1642 pw_1523 pw_1656) hV_X12_choice 0 9 rfl rfl rfl rfl (Nat.le_of_ble_eq_true rfl) dX12_statementOf_156 ⟨Nat.le_of_ble_eq_true rfl, Nat.le_of_ble_eq_true rfl⟩ ⟨(by show 16 + 1 ≤ (26 * n + 44); omega), (by show 8 + (4 + 11) + 405 ≤ (2000 * n + 4400); omega)⟩ (fun v718 u716 H locs hw717 hP hD hS => ?_)
      obtain rfl : v718 = some (.int 0) := hw717
      have hP : va_P G.1 pCl (mW G h0 a (upd (upd (upd (upd (upd (upd (upd F 15 (nI fa398)) 16 pl399) 27 (nI nd)) 31 (nI wr)) 64 (nI at397)) 65 (nI ne)) 66 (nI lk)) (updA B 2 K)) _ := mW_to (F := F) (l1 := [(15, (nI fa398)), (16, pl399), (27, (nI nd)), (31, (nI wr)), (64, (nI at397)), (65, (nI ne)), (66, (nI lk)), (15, (nI fa398)), (64, (nI at397))]) (l2 := [(15, (nI fa398)), (16, pl399), (27, (nI nd)), (31, (nI wr)), (64, (nI at397)), (65, (nI ne)), (66, (nI lk))]) (V := [(nI fa398), pl399, (nI nd), (nI wr), (nI at397), (nI ne), (nI lk), (nI fa398), (nI at397), (nI fa398), pl399, (nI nd), (nI wr), (nI at397), (nI ne), (nI lk)]) rfl rfl (show (updA (updA B 2 K) 2 K) = (updA B 2 K) from updsA_eq2 (F := B) (l1 := [(2, K), (2, K)]) (l2 := [(2, K)]) (V := [K, K, K]) rfl rfl) hP
      have hD : va_D A (mW G h0 a (upd (upd (upd (upd (upd (upd (upd F 15 (nI fa398)) 16 pl399) 27 (nI nd)) 31 (nI wr)) 64 (nI at397)) 65 (nI ne)) 66 (nI lk)) (updA B 2 K)) := mW_D hD
      refine W.widen (k := 0) (n := 0) (Nat.le_of_ble_eq_true rfl) (Nat.le_of_ble_eq_true rfl) ?_
      refine W.eq (g2 := F0 m 159 ls [.int 0, .int (nI at0), .int (nI at0), .int 34, .ref h0]) rfl ?_
      refine lv_iconst (v := (-1)) hx hb dX12_statementOf_159 (by decide) ?_
      have hP : va_P G.1 pCl (mW G h0 a (upd (upd (upd (upd (upd (upd (upd (upd F 15 (nI fa398)) 16 pl399) 27 (nI nd)) 31 (nI wr)) 64 (nI at397)) 65 (nI ne)) 66 (nI lk)) 27 (nI nd)) (updA B 2 K)) _ := mW_to (F := F) (l1 := [(15, (nI fa398)), (16, pl399), (27, (nI nd)), (31, (nI wr)), (64, (nI at397)), (65, (nI ne)), (66, (nI lk))]) (l2 := [(15, (nI fa398)), (16, pl399), (27, (nI nd)), (31, (nI wr)), (64, (nI at397)), (65, (nI ne)), (66, (nI lk)), (27, (nI nd))]) (V := [(nI fa398), pl399, (nI nd), (nI wr), (nI at397), (nI ne), (nI lk), (nI fa398), pl399, (nI nd), (nI wr), (nI at397), (nI ne), (nI lk), (nI nd)]) rfl rfl rfl hP
      have hD : va_D A (mW G h0 a (upd (upd (upd (upd (upd (upd (upd (upd F 15 (nI fa398)) 16 pl399) 27 (nI nd)) 31 (nI wr)) 64 (nI at397)) 65 (nI ne)) 66 (nI lk)) 27 (nI nd)) (updA B 2 K)) := mW_D hD
      refine pc_V0 (G := G) (As := [.int 34, .int (nI at0), .int (nI at0), .int 0, .int (-1)]) (rest := []) hx hb hml hown hq hE hX pX0_al hP hD hS hA hl.1 (R_nodeB l G h0 a (upd (upd (upd (upd (upd (upd (upd F 15 (nI fa398)) 16 pl399) 27 (nI nd)) 31 (nI wr)) 64 (nI at397)) 65 (nI ne)) 66 (nI lk)) B 34 (nI at0) (nI at0) 0 (-1) nd K (by omega)) (gV pw_1650 pw_1651 pw_1652 pw_1523 pw_1589) hV_X12_node 0 9 rfl rfl rfl rfl (Nat.le_of_ble_eq_true rfl) dX12_statementOf_160 ⟨Nat.le_of_ble_eq_true rfl, Nat.le_of_ble_eq_true rfl⟩ ⟨(by show 2 + 1 ≤ (26 * n + 44); omega), (by show 8 + (7 + 11) + 60 ≤ (2000 * n + 4400); omega)⟩ (fun v721 u719 H locs hw720 hP hD hS => ?_)
      obtain ⟨X722, rfl⟩ : ∃ z, z = u719 := ⟨_, rfl⟩
      obtain ⟨hw720, h723⟩ := hw720
      have h723 : NewN B X722 nd 34 (nI at0) (nI at0) 0 (-1) := h723
      obtain rfl : v721 = some (.int (nI nd)) := hw720
      have hP : va_P G.1 pCl (mW G h0 a (upd (upd (upd (upd (upd (upd (upd F 15 (nI fa398)) 16 pl399) 27 (nI (nd + 1))) 31 (nI wr)) 64 (nI at397)) 65 (nI ne)) 66 (nI lk)) (updA X722 2 K)) _ := mW_to (F := F) (l1 := [(15, (nI fa398)), (16, pl399), (27, (nI nd)), (31, (nI wr)), (64, (nI at397)), (65, (nI ne)), (66, (nI lk)), (27, (nI (nd + 1)))]) (l2 := [(15, (nI fa398)), (16, pl399), (27, (nI (nd + 1))), (31, (nI wr)), (64, (nI at397)), (65, (nI ne)), (66, (nI lk))]) (V := [(nI fa398), pl399, (nI (nd + 1)), (nI wr), (nI at397), (nI ne), (nI lk), (nI (nd + 1)), (nI fa398), pl399, (nI (nd + 1)), (nI wr), (nI at397), (nI ne), (nI lk)]) rfl rfl rfl hP
      have hD : va_D A (mW G h0 a (upd (upd (upd (upd (upd (upd (upd F 15 (nI fa398)) 16 pl399) 27 (nI (nd + 1))) 31 (nI wr)) 64 (nI at397)) 65 (nI ne)) 66 (nI lk)) (updA X722 2 K)) := mW_D hD
      refine W.widen (k := 0) (n := 0) (Nat.le_of_ble_eq_true rfl) (Nat.le_of_ble_eq_true rfl) ?_
      refine W.eq (g2 := F0 m 163 ls [.int (nI nd)]) rfl ?_
      have hkp724 : Kp B X722 wr T := (Kp.new hkp1 h723)
      refine lv_istore_n (lv' := [(2, .int (nI nd)), (1, .int (nI at0)), (0, .ref h0)]) hx hb dX12_statementOf_163 rfl hl (by decide) rfl (fun ls hl => ?_)
      refine lv_aload_n hx hb dX12_statementOf_164 rfl (lv_at hl 2 rfl) ?_
      refine lv_bipush (v := 41) hx hb dX12_statementOf_165 (by decide) ?_
      have hP : va_P G.1 pCl (mW G h0 a (upd (upd (upd (upd (upd (upd (upd (upd (upd F 15 (nI fa398)) 16 pl399) 27 (nI (nd + 1))) 31 (nI wr)) 64 (nI at397)) 65 (nI ne)) 66 (nI lk)) 15 (nI fa398)) 64 (nI at397)) (updA (updA X722 2 K) 2 K)) _ := mW_to (F := F) (l1 := [(15, (nI fa398)), (16, pl399), (27, (nI (nd + 1))), (31, (nI wr)), (64, (nI at397)), (65, (nI ne)), (66, (nI lk))]) (l2 := [(15, (nI fa398)), (16, pl399), (27, (nI (nd + 1))), (31, (nI wr)), (64, (nI at397)), (65, (nI ne)), (66, (nI lk)), (15, (nI fa398)), (64, (nI at397))]) (V := [(nI fa398), pl399, (nI (nd + 1)), (nI wr), (nI at397), (nI ne), (nI lk), (nI fa398), pl399, (nI (nd + 1)), (nI wr), (nI at397), (nI ne), (nI lk), (nI fa398), (nI at397)]) rfl rfl (show (updA X722 2 K) = (updA (updA X722 2 K) 2 K) from updsA_eq2 (F := X722) (l1 := [(2, K)]) (l2 := [(2, K), (2, K)]) (V := [K, K, K]) rfl rfl) hP
      have hD : va_D A (mW G h0 a (upd (upd (upd (upd (upd (upd (upd (upd (upd F 15 (nI fa398)) 16 pl399) 27 (nI (nd + 1))) 31 (nI wr)) 64 (nI at397)) 65 (nI ne)) 66 (nI lk)) 15 (nI fa398)) 64 (nI at397)) (updA (updA X722 2 K) 2 K)) := mW_D hD
      refine pc_V0 (G := G) (As := [.int 41]) (rest := []) hx hb hml hown hq hE hX pX0_al hP hD hS hA hl.1 (R_take l G h0 a (upd (upd (upd (upd (upd (upd (upd F 15 (nI fa398)) 16 pl399) 27 (nI (nd + 1))) 31 (nI wr)) 64 (nI at397)) 65 (nI ne)) 66 (nI lk)) (updA X722 2 K) at397 T fa398 K 41 (by omega) (by omega) hK (by omega) (by decide) (by decide)) (gV pw_1614 pw_1615 pw_1616 pw_1523 pw_1601) hV_X12_take 0 9 rfl rfl rfl rfl (Nat.le_of_ble_eq_true rfl) dX12_statementOf_167 ⟨Nat.le_of_ble_eq_true rfl, Nat.le_of_ble_eq_true rfl⟩ ⟨(by show 4 + 1 ≤ (26 * n + 44); omega), (by show 8 + (2 + 11) + 103 ≤ (2000 * n + 4400); omega)⟩ (fun v727 u725 H locs hw726 hP hD hS => ?_)
      obtain ⟨at728, fa729, pl730⟩ := u725
      obtain ⟨hw726, h731, h732, h733, h734, h735, h736, h737, h738⟩ := hw726
      have h731 : at397 ≤ at728 := h731
      have h732 : at728 ≤ T := h732
      have h733 : fa398 ≤ fa729 := h733
      have h734 : fa729 ≤ 100 := h734
      have h735 : If (0 < fa398) (at728 = at397 ∧ fa729 = fa398) := h735
      have h736 : at728 ≤ at397 + 1 := h736
      have h737 : at397 + 1 ≤ at728 + fa729 := h737
      have h738 : If (fa729 = 0) (K at397 = 41) := h738
      obtain rfl : v727 = none := hw726
      have hP : va_P G.1 pCl (mW G h0 a (upd (upd (upd (upd (upd (upd (upd F 15 (nI fa729)) 16 pl730) 27 (nI (nd + 1))) 31 (nI wr)) 64 (nI at728)) 65 (nI ne)) 66 (nI lk)) (updA X722 2 K)) _ := mW_to (F := F) (l1 := [(15, (nI fa398)), (16, pl399), (27, (nI (nd + 1))), (31, (nI wr)), (64, (nI at397)), (65, (nI ne)), (66, (nI lk)), (15, (nI fa729)), (16, pl730), (64, (nI at728))]) (l2 := [(15, (nI fa729)), (16, pl730), (27, (nI (nd + 1))), (31, (nI wr)), (64, (nI at728)), (65, (nI ne)), (66, (nI lk))]) (V := [(nI fa729), pl730, (nI (nd + 1)), (nI wr), (nI at728), (nI ne), (nI lk), (nI fa729), pl730, (nI at728), (nI fa729), pl730, (nI (nd + 1)), (nI wr), (nI at728), (nI ne), (nI lk)]) rfl rfl (show (updA (updA X722 2 K) 2 K) = (updA X722 2 K) from updsA_eq2 (F := X722) (l1 := [(2, K), (2, K)]) (l2 := [(2, K)]) (V := [K, K, K]) rfl rfl) hP
      have hD : va_D A (mW G h0 a (upd (upd (upd (upd (upd (upd (upd F 15 (nI fa729)) 16 pl730) 27 (nI (nd + 1))) 31 (nI wr)) 64 (nI at728)) 65 (nI ne)) 66 (nI lk)) (updA X722 2 K)) := mW_D hD
      refine W.widen (k := 0) (n := 0) (Nat.le_of_ble_eq_true rfl) (Nat.le_of_ble_eq_true rfl) ?_
      refine W.eq (g2 := F0 m 170 ls []) rfl ?_
      obtain ⟨n740, n739⟩ := h735 e408
      replace n740 := n740.symm
      subst n740
      replace n739 := n739.symm
      subst n739
      refine lv_aload_n hx hb dX12_statementOf_170 rfl (lv_at hl 2 rfl) ?_
      refine r_get (v := .ref (a 13)) hx hb hown hq hE hP 21 50 tFX12_21 (by decide) pw_1443 rfl dX12_statementOf_171 ?_
      refine lv_iload_n hx hb dX12_statementOf_174 rfl (lv_at hl 0 rfl) ?_
      refine lv_aload_n hx hb dX12_statementOf_175 rfl (lv_at hl 2 rfl) ?_
      have hP : va_P G.1 pCl (mW G h0 a (upd (upd (upd (upd (upd (upd (upd (upd (upd F 15 (nI fa398)) 16 pl730) 27 (nI (nd + 1))) 31 (nI wr)) 64 (nI at397)) 65 (nI ne)) 66 (nI lk)) 15 (nI fa398)) 64 (nI at397)) (updA (updA X722 2 K) 2 K)) _ := hP
      have hD : va_D A (mW G h0 a (upd (upd (upd (upd (upd (upd (upd (upd (upd F 15 (nI fa398)) 16 pl730) 27 (nI (nd + 1))) 31 (nI wr)) 64 (nI at397)) 65 (nI ne)) 66 (nI lk)) 15 (nI fa398)) 64 (nI at397)) (updA (updA X722 2 K) 2 K)) := mW_D hD
      refine pc_V0 (G := G) (As := []) (rest := [.int (nI nd), .ref (a 13)]) hx hb hml hown hq hE hX pX0_al hP hD hS hA hl.1 (RF_statement l G h0 a (upd (upd (upd (upd (upd (upd (upd F 15 (nI fa398)) 16 pl730) 27 (nI (nd + 1))) 31 (nI wr)) 64 (nI at397)) 65 (nI ne)) 66 (nI lk)) (updA X722 2 K) at397 T fa398 K (by omega) (by omega) hK (by omega) e408) (gV pw_1699 pw_1700 pw_1701 pw_1523 pw_1706) hV_X12_statement 0 9 rfl rfl rfl rfl (Nat.le_of_ble_eq_true rfl) dX12_statementOf_176 ⟨Nat.le_of_ble_eq_true rfl, Nat.le_of_ble_eq_true rfl⟩ ⟨(by show 2 + 1 ≤ (26 * n + 44); omega), (by show 8 + (3 + 11) + 60 ≤ (2000 * n + 4400); omega)⟩ (fun v743 u741 H locs hw742 hP hD hS => ?_)
      obtain rfl : v743 = some (.int 0) := hw742
      have hP : va_P G.1 pCl (mW G h0 a (upd (upd (upd (upd (upd (upd (upd F 15 (nI fa398)) 16 pl730) 27 (nI (nd + 1))) 31 (nI wr)) 64 (nI at397)) 65 (nI ne)) 66 (nI lk)) (updA X722 2 K)) _ := mW_to (F := F) (l1 := [(15, (nI fa398)), (16, pl730), (27, (nI (nd + 1))), (31, (nI wr)), (64, (nI at397)), (65, (nI ne)), (66, (nI lk)), (15, (nI fa398)), (64, (nI at397))]) (l2 := [(15, (nI fa398)), (16, pl730), (27, (nI (nd + 1))), (31, (nI wr)), (64, (nI at397)), (65, (nI ne)), (66, (nI lk))]) (V := [(nI fa398), pl730, (nI (nd + 1)), (nI wr), (nI at397), (nI ne), (nI lk), (nI fa398), (nI at397), (nI fa398), pl730, (nI (nd + 1)), (nI wr), (nI at397), (nI ne), (nI lk)]) rfl rfl (show (updA (updA X722 2 K) 2 K) = (updA X722 2 K) from updsA_eq2 (F := X722) (l1 := [(2, K), (2, K)]) (l2 := [(2, K)]) (V := [K, K, K]) rfl rfl) hP
      have hD : va_D A (mW G h0 a (upd (upd (upd (upd (upd (upd (upd F 15 (nI fa398)) 16 pl730) 27 (nI (nd + 1))) 31 (nI wr)) 64 (nI at397)) 65 (nI ne)) 66 (nI lk)) (updA X722 2 K)) := mW_D hD
      refine W.widen (k := 0) (n := 0) (Nat.le_of_ble_eq_true rfl) (Nat.le_of_ble_eq_true rfl) ?_
      refine W.eq (g2 := F0 m 179 ls [.int 0, .int (nI nd), .ref (a 13)]) rfl ?_
      refine r_sti (f := (X722 13)) (j := nd) hx hb hE hP hD hS 13 (ma_13 G a _) rfl (mas_13 G a _) (by omega) (by decide) dX12_statementOf_179 (fun H locs hP hD hS => ?_)
      have hP : va_P G.1 pCl (mW G h0 a (upd (upd (upd (upd (upd (upd (upd F 15 (nI fa398)) 16 pl730) 27 (nI (nd + 1))) 31 (nI wr)) 64 (nI at397)) 65 (nI ne)) 66 (nI lk)) (updA (stR X722 13 nd 0) 2 K)) _ := mW_to (F := F) (l1 := [(15, (nI fa398)), (16, pl730), (27, (nI (nd + 1))), (31, (nI wr)), (64, (nI at397)), (65, (nI ne)), (66, (nI lk))]) (l2 := [(15, (nI fa398)), (16, pl730), (27, (nI (nd + 1))), (31, (nI wr)), (64, (nI at397)), (65, (nI ne)), (66, (nI lk))]) (V := [(nI fa398), pl730, (nI (nd + 1)), (nI wr), (nI at397), (nI ne), (nI lk), (nI fa398), pl730, (nI (nd + 1)), (nI wr), (nI at397), (nI ne), (nI lk)]) rfl rfl (show (updA (updA X722 2 K) 13 (upd (X722 13) nd 0)) = (updA (stR X722 13 nd 0) 2 K) from updsA_eq2 (F := X722) (l1 := [(2, K), (13, (upd (X722 13) nd 0))]) (l2 := [(13, (upd (X722 13) nd 0)), (2, K)]) (V := [K, (upd (X722 13) nd 0), (upd (X722 13) nd 0), K]) rfl rfl) hP
      have hD : va_D A (mW G h0 a (upd (upd (upd (upd (upd (upd (upd F 15 (nI fa398)) 16 pl730) 27 (nI (nd + 1))) 31 (nI wr)) 64 (nI at397)) 65 (nI ne)) 66 (nI lk)) (updA (stR X722 13 nd 0) 2 K)) := mW_D hD
      have hkp744 : Kp B (stR X722 13 nd 0) wr T := (Kp.row hkp724 (by omega))
      refine lv_aload_n hx hb dX12_statementOf_180 rfl (lv_at hl 2 rfl) ?_
      refine lv_sipush (v := 316) hx hb dX12_statementOf_181 (by decide) ?_
      have hP : va_P G.1 pCl (mW G h0 a (upd (upd (upd (upd (upd (upd (upd (upd (upd F 15 (nI fa398)) 16 pl730) 27 (nI (nd + 1))) 31 (nI wr)) 64 (nI at397)) 65 (nI ne)) 66 (nI lk)) 15 (nI fa398)) 64 (nI at397)) (updA (updA (stR X722 13 nd 0) 2 K) 2 K)) _ := mW_to (F := F) (l1 := [(15, (nI fa398)), (16, pl730), (27, (nI (nd + 1))), (31, (nI wr)), (64, (nI at397)), (65, (nI ne)), (66, (nI lk))]) (l2 := [(15, (nI fa398)), (16, pl730), (27, (nI (nd + 1))), (31, (nI wr)), (64, (nI at397)), (65, (nI ne)), (66, (nI lk)), (15, (nI fa398)), (64, (nI at397))]) (V := [(nI fa398), pl730, (nI (nd + 1)), (nI wr), (nI at397), (nI ne), (nI lk), (nI fa398), pl730, (nI (nd + 1)), (nI wr), (nI at397), (nI ne), (nI lk), (nI fa398), (nI at397)]) rfl rfl (show (updA (stR X722 13 nd 0) 2 K) = (updA (updA (stR X722 13 nd 0) 2 K) 2 K) from updsA_eq2 (F := X722) (l1 := [(13, (upd (X722 13) nd 0)), (2, K)]) (l2 := [(13, (upd (X722 13) nd 0)), (2, K), (2, K)]) (V := [(upd (X722 13) nd 0), K, (upd (X722 13) nd 0), K, K]) rfl rfl) hP
      have hD : va_D A (mW G h0 a (upd (upd (upd (upd (upd (upd (upd (upd (upd F 15 (nI fa398)) 16 pl730) 27 (nI (nd + 1))) 31 (nI wr)) 64 (nI at397)) 65 (nI ne)) 66 (nI lk)) 15 (nI fa398)) 64 (nI at397)) (updA (updA (stR X722 13 nd 0) 2 K) 2 K)) := mW_D hD
      refine pc_V0 (G := G) (As := [.int 316]) (rest := []) hx hb hml hown hq hE hX pX0_al hP hD hS hA hl.1 (R_may l G h0 a (upd (upd (upd (upd (upd (upd (upd F 15 (nI fa398)) 16 pl730) 27 (nI (nd + 1))) 31 (nI wr)) 64 (nI at397)) 65 (nI ne)) 66 (nI lk)) (updA (stR X722 13 nd 0) 2 K) at397 T fa398 K 316 (by omega) (by omega) hK (by omega) (by decide) (by decide)) (gV pw_1621 pw_1622 pw_1623 pw_1523 pw_1605) hV_X12_may 0 9 rfl rfl rfl rfl (Nat.le_of_ble_eq_true rfl) dX12_statementOf_184 ⟨Nat.le_of_ble_eq_true rfl, Nat.le_of_ble_eq_true rfl⟩ ⟨(by show 3 + 1 ≤ (26 * n + 44); omega), (by show 8 + (3 + 11) + 81 ≤ (2000 * n + 4400); omega)⟩ (fun v747 u745 H locs hw746 hP hD hS => ?_)
      obtain ⟨at748, r749⟩ := u745
      obtain ⟨hw746, h750, h751, h752, h753, h754, h755⟩ := hw746
      have h750 : r749 ≤ 1 := h750
      have h751 : fa398 + 100 * r749 ≤ 100 := h751
      have h752 : at748 = at397 + r749 := h752
      have h753 : at748 ≤ T := h753
      have h754 : If (r749 = 1) (K at397 = 316) := h754
      have h755 : If (r749 = 0) (fa398 = 0 → ¬ K at397 = 316) := h755
      obtain rfl : v747 = some (.int (nI r749)) := hw746
      have hP : va_P G.1 pCl (mW G h0 a (upd (upd (upd (upd (upd (upd (upd F 15 (nI fa398)) 16 pl730) 27 (nI (nd + 1))) 31 (nI wr)) 64 (nI at748)) 65 (nI ne)) 66 (nI lk)) (updA (stR X722 13 nd 0) 2 K)) _ := mW_to (F := F) (l1 := [(15, (nI fa398)), (16, pl730), (27, (nI (nd + 1))), (31, (nI wr)), (64, (nI at397)), (65, (nI ne)), (66, (nI lk)), (15, (nI fa398)), (64, (nI at748))]) (l2 := [(15, (nI fa398)), (16, pl730), (27, (nI (nd + 1))), (31, (nI wr)), (64, (nI at748)), (65, (nI ne)), (66, (nI lk))]) (V := [(nI fa398), pl730, (nI (nd + 1)), (nI wr), (nI at748), (nI ne), (nI lk), (nI fa398), (nI at748), (nI fa398), pl730, (nI (nd + 1)), (nI wr), (nI at748), (nI ne), (nI lk)]) rfl rfl (show (updA (updA (stR X722 13 nd 0) 2 K) 2 K) = (updA (stR X722 13 nd 0) 2 K) from updsA_eq2 (F := X722) (l1 := [(13, (upd (X722 13) nd 0)), (2, K), (2, K)]) (l2 := [(13, (upd (X722 13) nd 0)), (2, K)]) (V := [(upd (X722 13) nd 0), K, K, (upd (X722 13) nd 0), K]) rfl rfl) hP
      have hD : va_D A (mW G h0 a (upd (upd (upd (upd (upd (upd (upd F 15 (nI fa398)) 16 pl730) 27 (nI (nd + 1))) 31 (nI wr)) 64 (nI at748)) 65 (nI ne)) 66 (nI lk)) (updA (stR X722 13 nd 0) 2 K)) := mW_D hD
      refine W.widen (k := 0) (n := 0) (Nat.le_of_ble_eq_true rfl) (Nat.le_of_ble_eq_true rfl) ?_
      refine W.eq (g2 := F0 m 187 ls [.int (nI r749)]) rfl ?_
      obtain rfl : at397 = at748 := (by omega)
      refine lv_if_eq (tgt := 200) hx hb dX12_statementOf_187 (by decide) (fun c756 => ?_) (fun c756 => (by have n757 : ¬ (r749 = 0) := fun h9 => c756 ((nI_eq (a := r749) (b := 0) (by omega) (by omega)).mpr h9); omega))
      refine lv_iload_n hx hb dX12_statementOf_200 rfl (lv_at hl 0 rfl) ?_
      have hz758 : at0 ≤ at397 := (by omega)
      have hz759 : at397 ≤ T := (by omega)
      have hz760 : fa398 ≤ 100 := (by omega)
      have hz761 : nd ≤ (nd + 1) := (by omega)
      have hz762 : (nd + 1) + 2 * at0 ≤ nd + 2 * at397 + 100000 * fa398 := (by omega)
      have hz763 : (nd + 1) + 2 * at0 ≤ nd + 2 * at397 + (60 * (21 - ne) + 40) := (by omega)
      have hz764 : wr ≤ wr := (by omega)
      have hz765 : wr + at0 ≤ wr + at397 := (by omega)
      have hz766 : lk ≤ lk := (by omega)
      have hz767 : lk ≤ 60 + 100 * fa398 := (by omega)
      have hz768 : at0 + 1 ≤ at397 + fa398 := (by omega)
      have hz769 : nd ≤ (nd + 1) := (by omega)
      have hz770 : Kp B (stR X722 13 nd 0) wr T := hkp744
      have hz771 : If (fa398 = 0) (Low B (stR X722 13 nd 0) nd wr ∧ Frs K T wr (stR X722 13 nd 0) nd (nd + 1) 20000 [(nd, (280 + 4 * (21 - ne)))] ∧ kcl 3 ((stR X722 13 nd 0) 9 nd) = true) := (fun e => absurd e (by omega))
      have hP : va_P G.1 pCl (mW G h0 a (upd (upd (upd (upd (upd (upd (upd F 15 (nI fa398)) 16 pl730) 27 (nI (nd + 1))) 31 (nI wr)) 64 (nI at397)) 65 (nI ne)) 66 (nI lk)) (updA (stR X722 13 nd 0) 2 K)) _ := hP
      have hD : va_D A (mW G h0 a (upd (upd (upd (upd (upd (upd (upd F 15 (nI fa398)) 16 pl730) 27 (nI (nd + 1))) 31 (nI wr)) 64 (nI at397)) 65 (nI ne)) 66 (nI lk)) (updA (stR X722 13 nd 0) 2 K)) := mW_D hD
      exact W.iret (v := (nI nd)) hx hb hr (fun t9 ht9 hW9 => ⟨⟨_, (at397, fa398, pl730, (nd + 1), lk, wr, nd, (stR X722 13 nd 0)), rfl, ⟨rfl, hz758, hz759, hz760, hz761, hz762, hz763, hz764, hz765, hz766, hz767, hz768, hz769, hz770, hz771⟩, by rw [ht9]; exact hP, hD⟩, hS.F ht9⟩) hS.2.2 dX12_statementOf_201
  by_cases h772 : (K at0) = 329
  · refine lv_lookup (tgt := 391) (off := 382) hx hb dX12_statementOf_9 (by decide) (by rw [h772]; decide) (by decide) ?_
    have n773 : at0 < T := tk_lt hat hK h772 (by decide) (by decide)
    refine lv_aload_n hx hb dX12_statementOf_391 rfl (lv_at hl 1 rfl) ?_
    refine lv_dup hx hb dX12_statementOf_392 rfl ?_
    refine r_get (v := .int (nI at0)) hx hb hown hq hE hP 64 343 tFX12_64 (by decide) pw_1592 rfl dX12_statementOf_393 ?_
    refine lv_iconst (v := 1) hx hb dX12_statementOf_396 (by decide) ?_
    refine lv_iadd hx hb dX12_statementOf_397 ?_
    refine lv_topi (fun x774 e775 => ?_)
    obtain rfl : x774 = nI (at0 + 1) := e775.trans (nI_add (at0) (1))
    refine r_put (v := (nI (at0 + 1))) (ty := .int) hx hb hown hq hE hP hD hS 64 343 tFX12_64 (by decide) pw_1592 (by decide) rfl rfl (ms_64 a _ _) dX12_statementOf_398 (fun H locs hP hD hS => ?_)
    refine lv_aload_n hx hb dX12_statementOf_401 rfl (lv_at hl 1 rfl) ?_
    refine lv_bipush (v := 40) hx hb dX12_statementOf_402 (by decide) ?_
    have hP : va_P G.1 pCl (mW G h0 a (upd (upd (upd (upd (upd (upd (upd (upd F 15 0) 27 (nI nd)) 31 (nI wr)) 64 (nI (at0 + 1))) 65 (nI ne)) 66 (nI lk)) 15 (nI 0)) 64 (nI (at0 + 1))) (updA (updA B 2 K) 2 K)) _ := mW_to (F := F) (l1 := [(15, 0), (27, (nI nd)), (31, (nI wr)), (64, (nI at0)), (65, (nI ne)), (66, (nI lk)), (64, (nI (at0 + 1)))]) (l2 := [(15, 0), (27, (nI nd)), (31, (nI wr)), (64, (nI (at0 + 1))), (65, (nI ne)), (66, (nI lk)), (15, (nI 0)), (64, (nI (at0 + 1)))]) (V := [(nI 0), (nI nd), (nI wr), (nI (at0 + 1)), (nI ne), (nI lk), (nI (at0 + 1)), (nI 0), (nI nd), (nI wr), (nI (at0 + 1)), (nI ne), (nI lk), (nI 0), (nI (at0 + 1))]) rfl rfl (show (updA B 2 K) = (updA (updA B 2 K) 2 K) from updsA_eq2 (F := B) (l1 := [(2, K)]) (l2 := [(2, K), (2, K)]) (V := [K, K, K]) rfl rfl) hP
    have hD : va_D A (mW G h0 a (upd (upd (upd (upd (upd (upd (upd (upd F 15 0) 27 (nI nd)) 31 (nI wr)) 64 (nI (at0 + 1))) 65 (nI ne)) 66 (nI lk)) 15 (nI 0)) 64 (nI (at0 + 1))) (updA (updA B 2 K) 2 K)) := mW_D hD
    refine pc_V0 (G := G) (As := [.int 40]) (rest := []) hx hb hml hown hq hE hX pX0_al hP hD hS hA hl.1 (R_take l G h0 a (upd (upd (upd (upd (upd (upd F 15 0) 27 (nI nd)) 31 (nI wr)) 64 (nI (at0 + 1))) 65 (nI ne)) 66 (nI lk)) (updA B 2 K) (at0 + 1) T 0 K 40 (by omega) (by omega) hK (by omega) (by decide) (by decide)) (gV pw_1614 pw_1615 pw_1616 pw_1523 pw_1601) hV_X12_take 0 9 rfl rfl rfl rfl (Nat.le_of_ble_eq_true rfl) dX12_statementOf_404 ⟨Nat.le_of_ble_eq_true rfl, Nat.le_of_ble_eq_true rfl⟩ ⟨(by show 4 + 1 ≤ (26 * n + 44); omega), (by show 8 + (2 + 11) + 103 ≤ (2000 * n + 4400); omega)⟩ (fun v778 u776 H locs hw777 hP hD hS => ?_)
    obtain ⟨at779, fa780, pl781⟩ := u776
    obtain ⟨hw777, h782, h783, h784, h785, h786, h787, h788, h789⟩ := hw777
    have h782 : (at0 + 1) ≤ at779 := h782
    have h783 : at779 ≤ T := h783
    have h784 : 0 ≤ fa780 := h784
    have h785 : fa780 ≤ 100 := h785
    have h786 : If (0 < 0) (at779 = (at0 + 1) ∧ fa780 = 0) := h786
    have h787 : at779 ≤ (at0 + 1) + 1 := h787
    have h788 : (at0 + 1) + 1 ≤ at779 + fa780 := h788
    have h789 : If (fa780 = 0) (K (at0 + 1) = 40) := h789
    obtain rfl : v778 = none := hw777
    have hP : va_P G.1 pCl (mW G h0 a (upd (upd (upd (upd (upd (upd (upd F 15 (nI fa780)) 16 pl781) 27 (nI nd)) 31 (nI wr)) 64 (nI at779)) 65 (nI ne)) 66 (nI lk)) (updA B 2 K)) _ := mW_to (F := F) (l1 := [(15, 0), (27, (nI nd)), (31, (nI wr)), (64, (nI (at0 + 1))), (65, (nI ne)), (66, (nI lk)), (15, (nI fa780)), (16, pl781), (64, (nI at779))]) (l2 := [(15, (nI fa780)), (16, pl781), (27, (nI nd)), (31, (nI wr)), (64, (nI at779)), (65, (nI ne)), (66, (nI lk))]) (V := [(nI fa780), (nI nd), (nI wr), (nI at779), (nI ne), (nI lk), (nI fa780), pl781, (nI at779), (nI fa780), pl781, (nI nd), (nI wr), (nI at779), (nI ne), (nI lk)]) rfl rfl (show (updA (updA B 2 K) 2 K) = (updA B 2 K) from updsA_eq2 (F := B) (l1 := [(2, K), (2, K)]) (l2 := [(2, K)]) (V := [K, K, K]) rfl rfl) hP
    have hD : va_D A (mW G h0 a (upd (upd (upd (upd (upd (upd (upd F 15 (nI fa780)) 16 pl781) 27 (nI nd)) 31 (nI wr)) 64 (nI at779)) 65 (nI ne)) 66 (nI lk)) (updA B 2 K)) := mW_D hD
    refine W.widen (k := 0) (n := 0) (Nat.le_of_ble_eq_true rfl) (Nat.le_of_ble_eq_true rfl) ?_
    refine W.eq (g2 := F0 m 407 ls []) rfl ?_
    rcases Nat.eq_zero_or_pos fa780 with e790 | e790
    · subst e790
      have hP : va_P G.1 pCl (mW G h0 a (upd (upd (upd (upd (upd (upd (upd F 15 0) 16 pl781) 27 (nI nd)) 31 (nI wr)) 64 (nI at779)) 65 (nI ne)) 66 (nI lk)) (updA B 2 K)) _ := hP
      have hD : va_D A (mW G h0 a (upd (upd (upd (upd (upd (upd (upd F 15 0) 16 pl781) 27 (nI nd)) 31 (nI wr)) 64 (nI at779)) 65 (nI ne)) 66 (nI lk)) (updA B 2 K)) := mW_D hD
      refine lv_aload_n hx hb dX12_statementOf_407 rfl (lv_at hl 1 rfl) ?_
      refine lv_bipush (v := 42) hx hb dX12_statementOf_408 (by decide) ?_
      refine lv_iload_n hx hb dX12_statementOf_410 rfl (lv_at hl 0 rfl) ?_
      refine lv_iload_n hx hb dX12_statementOf_411 rfl (lv_at hl 0 rfl) ?_
      refine lv_aload_n hx hb dX12_statementOf_412 rfl (lv_at hl 1 rfl) ?_
      have hP : va_P G.1 pCl (mW G h0 a (upd (upd (upd (upd (upd (upd (upd (upd (upd (upd (upd (upd (upd F 15 0) 16 pl781) 27 (nI nd)) 31 (nI wr)) 64 (nI at779)) 65 (nI ne)) 66 (nI lk)) 15 0) 27 (nI nd)) 31 (nI wr)) 64 (nI at779)) 65 (nI ne)) 66 (nI lk)) (updA B 2 K)) _ := mW_to (F := F) (l1 := [(15, 0), (16, pl781), (27, (nI nd)), (31, (nI wr)), (64, (nI at779)), (65, (nI ne)), (66, (nI lk))]) (l2 := [(15, 0), (16, pl781), (27, (nI nd)), (31, (nI wr)), (64, (nI at779)), (65, (nI ne)), (66, (nI lk)), (15, 0), (27, (nI nd)), (31, (nI wr)), (64, (nI at779)), (65, (nI ne)), (66, (nI lk))]) (V := [0, pl781, (nI nd), (nI wr), (nI at779), (nI ne), (nI lk), 0, pl781, (nI nd), (nI wr), (nI at779), (nI ne), (nI lk), 0, (nI nd), (nI wr), (nI at779), (nI ne), (nI lk)]) rfl rfl rfl hP
      have hD : va_D A (mW G h0 a (upd (upd (upd (upd (upd (upd (upd (upd (upd (upd (upd (upd (upd F 15 0) 16 pl781) 27 (nI nd)) 31 (nI wr)) 64 (nI at779)) 65 (nI ne)) 66 (nI lk)) 15 0) 27 (nI nd)) 31 (nI wr)) 64 (nI at779)) 65 (nI ne)) 66 (nI lk)) (updA B 2 K)) := mW_D hD
      refine pc_V0 (G := G) (As := []) (rest := [.int (nI at0), .int (nI at0), .int 42, .ref h0]) hx hb hml hown hq hE hX pX0_al hP hD hS hA hl.1 (hEc h0 a (upd (upd (upd (upd (upd (upd (upd F 15 0) 16 pl781) 27 (nI nd)) 31 (nI wr)) 64 (nI at779)) 65 (nI ne)) 66 (nI lk)) B at779 T ne nd wr lk K (by omega) (by omega) hK (by omega) (by omega) (by omega) (by omega) (hkp1).2 (by omega)) (gV pw_1640 pw_1641 pw_1642 pw_1523 pw_1656) hV_X12_choice 0 9 rfl rfl rfl rfl (Nat.le_of_ble_eq_true rfl) dX12_statementOf_413 ⟨Nat.le_of_ble_eq_true rfl, Nat.le_of_ble_eq_true rfl⟩ ⟨(by show (20 * n + 27) + 1 ≤ (26 * n + 44); omega), (by show 8 + (4 + 11) + (1000 * n + 40 * 27) ≤ (2000 * n + 4400); omega)⟩ (fun v793 u791 H locs hw792 hP hD hS => ?_)
      obtain ⟨at794, fa795, pl796, nd797, lk798, wr799, r800, X801⟩ := u791
      obtain ⟨hw792, h802, h803, h804, h805, h806, h807, h808, h809, h810, h811, h812, h813, h814, h815⟩ := hw792
      have h802 : at779 ≤ at794 := h802
      have h803 : at794 ≤ T := h803
      have h804 : fa795 ≤ 100 := h804
      have h805 : nd ≤ nd797 := h805
      have h806 : nd797 + 2 * at779 ≤ nd + 2 * at794 + 100000 * fa795 := h806
      have h807 : nd797 + 2 * at779 ≤ nd + 2 * at794 + 40 * (21 - ne) := h807
      have h808 : wr ≤ wr799 := h808
      have h809 : wr799 + at779 ≤ wr + at794 := h809
      have h810 : lk ≤ lk798 := h810
      have h811 : lk798 ≤ 60 + 100 * fa795 := h811
      have h812 : at779 + 1 ≤ at794 + fa795 := h812
      have h813 : r800 ≤ nd797 := h813
      have h814 : Kp B X801 wr799 T := h814
      have h815 : If (fa795 = 0) (Low B X801 nd wr ∧ Frs K T wr799 X801 nd nd797 20000 [(r800, (211 + lk798 - (10 * ne + lk)))] ∧ kcl 1 (X801 9 r800) = true) := h815
      obtain rfl : v793 = some (.int (nI r800)) := hw792
      have hP : va_P G.1 pCl (mW G h0 a (upd (upd (upd (upd (upd (upd (upd F 15 (nI fa795)) 16 pl796) 27 (nI nd797)) 31 (nI wr799)) 64 (nI at794)) 65 (nI ne)) 66 (nI lk798)) (updA X801 2 K)) _ := mW_to (F := F) (l1 := [(15, 0), (16, pl781), (27, (nI nd)), (31, (nI wr)), (64, (nI at779)), (65, (nI ne)), (66, (nI lk)), (15, (nI fa795)), (16, pl796), (27, (nI nd797)), (31, (nI wr799)), (64, (nI at794)), (65, (nI ne)), (66, (nI lk798))]) (l2 := [(15, (nI fa795)), (16, pl796), (27, (nI nd797)), (31, (nI wr799)), (64, (nI at794)), (65, (nI ne)), (66, (nI lk798))]) (V := [(nI fa795), pl796, (nI nd797), (nI wr799), (nI at794), (nI ne), (nI lk798), (nI fa795), pl796, (nI nd797), (nI wr799), (nI at794), (nI ne), (nI lk798), (nI fa795), pl796, (nI nd797), (nI wr799), (nI at794), (nI ne), (nI lk798)]) rfl rfl rfl hP
      have hD : va_D A (mW G h0 a (upd (upd (upd (upd (upd (upd (upd F 15 (nI fa795)) 16 pl796) 27 (nI nd797)) 31 (nI wr799)) 64 (nI at794)) 65 (nI ne)) 66 (nI lk798)) (updA X801 2 K)) := mW_D hD
      refine W.widen (k := 0) (n := 0) (Nat.le_of_ble_eq_true rfl) (Nat.le_of_ble_eq_true rfl) ?_
      refine W.eq (g2 := F0 m 416 ls [.int (nI r800), .int (nI at0), .int (nI at0), .int 42, .ref h0]) rfl ?_
      have hkp816 : Kp B X801 wr799 T := (Kp.trans hkp1 h814)
      rcases Nat.eq_zero_or_pos fa795 with e817 | e817
      · subst e817
        have hP : va_P G.1 pCl (mW G h0 a (upd (upd (upd (upd (upd (upd (upd F 15 0) 16 pl796) 27 (nI nd797)) 31 (nI wr799)) 64 (nI at794)) 65 (nI ne)) 66 (nI lk798)) (updA X801 2 K)) _ := hP
        have hD : va_D A (mW G h0 a (upd (upd (upd (upd (upd (upd (upd F 15 0) 16 pl796) 27 (nI nd797)) 31 (nI wr799)) 64 (nI at794)) 65 (nI ne)) 66 (nI lk798)) (updA X801 2 K)) := mW_D hD
        obtain ⟨hlw818, hf819, hc820⟩ := h815 rfl
        have hlo821 : Low B X801 nd wr := (Low.trans hlo2 hlw818 (by omega) (by omega))
        have hm822 := Frs.mem hf819
        refine lv_iconst (v := (-1)) hx hb dX12_statementOf_416 (by decide) ?_
        have hP : va_P G.1 pCl (mW G h0 a (upd (upd (upd (upd (upd (upd (upd (upd F 15 0) 16 pl796) 27 (nI nd797)) 31 (nI wr799)) 64 (nI at794)) 65 (nI ne)) 66 (nI lk798)) 27 (nI nd797)) (updA X801 2 K)) _ := mW_to (F := F) (l1 := [(15, 0), (16, pl796), (27, (nI nd797)), (31, (nI wr799)), (64, (nI at794)), (65, (nI ne)), (66, (nI lk798))]) (l2 := [(15, 0), (16, pl796), (27, (nI nd797)), (31, (nI wr799)), (64, (nI at794)), (65, (nI ne)), (66, (nI lk798)), (27, (nI nd797))]) (V := [0, pl796, (nI nd797), (nI wr799), (nI at794), (nI ne), (nI lk798), 0, pl796, (nI nd797), (nI wr799), (nI at794), (nI ne), (nI lk798), (nI nd797)]) rfl rfl rfl hP
        have hD : va_D A (mW G h0 a (upd (upd (upd (upd (upd (upd (upd (upd F 15 0) 16 pl796) 27 (nI nd797)) 31 (nI wr799)) 64 (nI at794)) 65 (nI ne)) 66 (nI lk798)) 27 (nI nd797)) (updA X801 2 K)) := mW_D hD
        refine pc_V0 (G := G) (As := [.int 42, .int (nI at0), .int (nI at0), .int (nI r800), .int (-1)]) (rest := []) hx hb hml hown hq hE hX pX0_al hP hD hS hA hl.1 (R_nodeB l G h0 a (upd (upd (upd (upd (upd (upd (upd F 15 0) 16 pl796) 27 (nI nd797)) 31 (nI wr799)) 64 (nI at794)) 65 (nI ne)) 66 (nI lk798)) X801 42 (nI at0) (nI at0) (nI r800) (-1) nd797 K (by omega)) (gV pw_1650 pw_1651 pw_1652 pw_1523 pw_1589) hV_X12_node 0 9 rfl rfl rfl rfl (Nat.le_of_ble_eq_true rfl) dX12_statementOf_417 ⟨Nat.le_of_ble_eq_true rfl, Nat.le_of_ble_eq_true rfl⟩ ⟨(by show 2 + 1 ≤ (26 * n + 44); omega), (by show 8 + (7 + 11) + 60 ≤ (2000 * n + 4400); omega)⟩ (fun v825 u823 H locs hw824 hP hD hS => ?_)
        obtain ⟨X826, rfl⟩ : ∃ z, z = u823 := ⟨_, rfl⟩
        obtain ⟨hw824, h827⟩ := hw824
        have h827 : NewN X801 X826 nd797 42 (nI at0) (nI at0) (nI r800) (-1) := h827
        obtain rfl : v825 = some (.int (nI nd797)) := hw824
        have hP : va_P G.1 pCl (mW G h0 a (upd (upd (upd (upd (upd (upd (upd F 15 0) 16 pl796) 27 (nI (nd797 + 1))) 31 (nI wr799)) 64 (nI at794)) 65 (nI ne)) 66 (nI lk798)) (updA X826 2 K)) _ := mW_to (F := F) (l1 := [(15, 0), (16, pl796), (27, (nI nd797)), (31, (nI wr799)), (64, (nI at794)), (65, (nI ne)), (66, (nI lk798)), (27, (nI (nd797 + 1)))]) (l2 := [(15, 0), (16, pl796), (27, (nI (nd797 + 1))), (31, (nI wr799)), (64, (nI at794)), (65, (nI ne)), (66, (nI lk798))]) (V := [0, pl796, (nI (nd797 + 1)), (nI wr799), (nI at794), (nI ne), (nI lk798), (nI (nd797 + 1)), 0, pl796, (nI (nd797 + 1)), (nI wr799), (nI at794), (nI ne), (nI lk798)]) rfl rfl rfl hP
        have hD : va_D A (mW G h0 a (upd (upd (upd (upd (upd (upd (upd F 15 0) 16 pl796) 27 (nI (nd797 + 1))) 31 (nI wr799)) 64 (nI at794)) 65 (nI ne)) 66 (nI lk798)) (updA X826 2 K)) := mW_D hD
        refine W.widen (k := 0) (n := 0) (Nat.le_of_ble_eq_true rfl) (Nat.le_of_ble_eq_true rfl) ?_
        refine W.eq (g2 := F0 m 420 ls [.int (nI nd797)]) rfl ?_
        have hkp828 : Kp B X826 wr799 T := (Kp.new hkp816 h827)
        have hlo829 : Low B X826 nd wr := (Low.new hlo821 h827 (by omega))
        have hc830 : kcl 1 (X826 9 r800) = true := by rw [h827.2.1 9 r800 (by omega)]; exact hc820
        have hf831 : Frs K T wr799 X826 nd (nd797 + 1) nd797 [(nd797, (280 + 4 * (21 - ne)))] := (Frs.new1 (k := 42) hf819 (by omega) (by omega) (by omega) h827 rfl rfl (by decide) (by decide) (by omega) (by omega) (by decide) (by simp) ⟨by decide, by decide, by decide, by decide⟩ hc820 (newOK.m1 (by decide)) (newOK.m1 (by decide)) (newOK.m1 (by decide)) (by omega))
        have hn832 : Nd X826 nd797 42 (nI r800) (-1) (-1) (-1) := (NewN.toNd h827)
        have hf833 : Frs K T wr799 X826 nd (nd797 + 1) 20000 [(nd797, (280 + 4 * (21 - ne)))] := (Frs.fin (k := 42) hf831 hn832 rfl (by decide) (fun _ => nI_m1 (by omega)) (fun h => absurd h (by decide)) (fun h => absurd h (by decide)) (fun h => absurd h (by decide)))
        refine lv_istore_n (lv' := [(2, .int (nI nd797)), (1, .int (nI at0)), (0, .ref h0)]) hx hb dX12_statementOf_420 rfl hl (by decide) rfl (fun ls hl => ?_)
        refine lv_aload_n hx hb dX12_statementOf_421 rfl (lv_at hl 2 rfl) ?_
        refine lv_bipush (v := 41) hx hb dX12_statementOf_422 (by decide) ?_
        have hP : va_P G.1 pCl (mW G h0 a (upd (upd (upd (upd (upd (upd (upd (upd (upd F 15 0) 16 pl796) 27 (nI (nd797 + 1))) 31 (nI wr799)) 64 (nI at794)) 65 (nI ne)) 66 (nI lk798)) 15 (nI 0)) 64 (nI at794)) (updA (updA X826 2 K) 2 K)) _ := mW_to (F := F) (l1 := [(15, 0), (16, pl796), (27, (nI (nd797 + 1))), (31, (nI wr799)), (64, (nI at794)), (65, (nI ne)), (66, (nI lk798))]) (l2 := [(15, 0), (16, pl796), (27, (nI (nd797 + 1))), (31, (nI wr799)), (64, (nI at794)), (65, (nI ne)), (66, (nI lk798)), (15, (nI 0)), (64, (nI at794))]) (V := [(nI 0), pl796, (nI (nd797 + 1)), (nI wr799), (nI at794), (nI ne), (nI lk798), (nI 0), pl796, (nI (nd797 + 1)), (nI wr799), (nI at794), (nI ne), (nI lk798), (nI 0), (nI at794)]) rfl rfl (show (updA X826 2 K) = (updA (updA X826 2 K) 2 K) from updsA_eq2 (F := X826) (l1 := [(2, K)]) (l2 := [(2, K), (2, K)]) (V := [K, K, K]) rfl rfl) hP
        have hD : va_D A (mW G h0 a (upd (upd (upd (upd (upd (upd (upd (upd (upd F 15 0) 16 pl796) 27 (nI (nd797 + 1))) 31 (nI wr799)) 64 (nI at794)) 65 (nI ne)) 66 (nI lk798)) 15 (nI 0)) 64 (nI at794)) (updA (updA X826 2 K) 2 K)) := mW_D hD
        refine pc_V0 (G := G) (As := [.int 41]) (rest := []) hx hb hml hown hq hE hX pX0_al hP hD hS hA hl.1 (R_take l G h0 a (upd (upd (upd (upd (upd (upd (upd F 15 0) 16 pl796) 27 (nI (nd797 + 1))) 31 (nI wr799)) 64 (nI at794)) 65 (nI ne)) 66 (nI lk798)) (updA X826 2 K) at794 T 0 K 41 (by omega) (by omega) hK (by omega) (by decide) (by decide)) (gV pw_1614 pw_1615 pw_1616 pw_1523 pw_1601) hV_X12_take 0 9 rfl rfl rfl rfl (Nat.le_of_ble_eq_true rfl) dX12_statementOf_424 ⟨Nat.le_of_ble_eq_true rfl, Nat.le_of_ble_eq_true rfl⟩ ⟨(by show 4 + 1 ≤ (26 * n + 44); omega), (by show 8 + (2 + 11) + 103 ≤ (2000 * n + 4400); omega)⟩ (fun v836 u834 H locs hw835 hP hD hS => ?_)
        obtain ⟨at837, fa838, pl839⟩ := u834
        obtain ⟨hw835, h840, h841, h842, h843, h844, h845, h846, h847⟩ := hw835
        have h840 : at794 ≤ at837 := h840
        have h841 : at837 ≤ T := h841
        have h842 : 0 ≤ fa838 := h842
        have h843 : fa838 ≤ 100 := h843
        have h844 : If (0 < 0) (at837 = at794 ∧ fa838 = 0) := h844
        have h845 : at837 ≤ at794 + 1 := h845
        have h846 : at794 + 1 ≤ at837 + fa838 := h846
        have h847 : If (fa838 = 0) (K at794 = 41) := h847
        obtain rfl : v836 = none := hw835
        have hP : va_P G.1 pCl (mW G h0 a (upd (upd (upd (upd (upd (upd (upd F 15 (nI fa838)) 16 pl839) 27 (nI (nd797 + 1))) 31 (nI wr799)) 64 (nI at837)) 65 (nI ne)) 66 (nI lk798)) (updA X826 2 K)) _ := mW_to (F := F) (l1 := [(15, 0), (16, pl796), (27, (nI (nd797 + 1))), (31, (nI wr799)), (64, (nI at794)), (65, (nI ne)), (66, (nI lk798)), (15, (nI fa838)), (16, pl839), (64, (nI at837))]) (l2 := [(15, (nI fa838)), (16, pl839), (27, (nI (nd797 + 1))), (31, (nI wr799)), (64, (nI at837)), (65, (nI ne)), (66, (nI lk798))]) (V := [(nI fa838), pl839, (nI (nd797 + 1)), (nI wr799), (nI at837), (nI ne), (nI lk798), (nI fa838), pl839, (nI at837), (nI fa838), pl839, (nI (nd797 + 1)), (nI wr799), (nI at837), (nI ne), (nI lk798)]) rfl rfl (show (updA (updA X826 2 K) 2 K) = (updA X826 2 K) from updsA_eq2 (F := X826) (l1 := [(2, K), (2, K)]) (l2 := [(2, K)]) (V := [K, K, K]) rfl rfl) hP
        have hD : va_D A (mW G h0 a (upd (upd (upd (upd (upd (upd (upd F 15 (nI fa838)) 16 pl839) 27 (nI (nd797 + 1))) 31 (nI wr799)) 64 (nI at837)) 65 (nI ne)) 66 (nI lk798)) (updA X826 2 K)) := mW_D hD
        refine W.widen (k := 0) (n := 0) (Nat.le_of_ble_eq_true rfl) (Nat.le_of_ble_eq_true rfl) ?_
        refine W.eq (g2 := F0 m 427 ls []) rfl ?_
        rcases Nat.eq_zero_or_pos fa838 with e848 | e848
        · subst e848
          have hP : va_P G.1 pCl (mW G h0 a (upd (upd (upd (upd (upd (upd (upd F 15 0) 16 pl839) 27 (nI (nd797 + 1))) 31 (nI wr799)) 64 (nI at837)) 65 (nI ne)) 66 (nI lk798)) (updA X826 2 K)) _ := hP
          have hD : va_D A (mW G h0 a (upd (upd (upd (upd (upd (upd (upd F 15 0) 16 pl839) 27 (nI (nd797 + 1))) 31 (nI wr799)) 64 (nI at837)) 65 (nI ne)) 66 (nI lk798)) (updA X826 2 K)) := mW_D hD
          refine lv_aload_n hx hb dX12_statementOf_427 rfl (lv_at hl 2 rfl) ?_
          refine lv_bipush (v := 59) hx hb dX12_statementOf_428 (by decide) ?_
          have hP : va_P G.1 pCl (mW G h0 a (upd (upd (upd (upd (upd (upd (upd (upd (upd F 15 0) 16 pl839) 27 (nI (nd797 + 1))) 31 (nI wr799)) 64 (nI at837)) 65 (nI ne)) 66 (nI lk798)) 15 (nI 0)) 64 (nI at837)) (updA (updA X826 2 K) 2 K)) _ := mW_to (F := F) (l1 := [(15, 0), (16, pl839), (27, (nI (nd797 + 1))), (31, (nI wr799)), (64, (nI at837)), (65, (nI ne)), (66, (nI lk798))]) (l2 := [(15, 0), (16, pl839), (27, (nI (nd797 + 1))), (31, (nI wr799)), (64, (nI at837)), (65, (nI ne)), (66, (nI lk798)), (15, (nI 0)), (64, (nI at837))]) (V := [(nI 0), pl839, (nI (nd797 + 1)), (nI wr799), (nI at837), (nI ne), (nI lk798), (nI 0), pl839, (nI (nd797 + 1)), (nI wr799), (nI at837), (nI ne), (nI lk798), (nI 0), (nI at837)]) rfl rfl (show (updA X826 2 K) = (updA (updA X826 2 K) 2 K) from updsA_eq2 (F := X826) (l1 := [(2, K)]) (l2 := [(2, K), (2, K)]) (V := [K, K, K]) rfl rfl) hP
          have hD : va_D A (mW G h0 a (upd (upd (upd (upd (upd (upd (upd (upd (upd F 15 0) 16 pl839) 27 (nI (nd797 + 1))) 31 (nI wr799)) 64 (nI at837)) 65 (nI ne)) 66 (nI lk798)) 15 (nI 0)) 64 (nI at837)) (updA (updA X826 2 K) 2 K)) := mW_D hD
          refine pc_V0 (G := G) (As := [.int 59]) (rest := []) hx hb hml hown hq hE hX pX0_al hP hD hS hA hl.1 (R_take l G h0 a (upd (upd (upd (upd (upd (upd (upd F 15 0) 16 pl839) 27 (nI (nd797 + 1))) 31 (nI wr799)) 64 (nI at837)) 65 (nI ne)) 66 (nI lk798)) (updA X826 2 K) at837 T 0 K 59 (by omega) (by omega) hK (by omega) (by decide) (by decide)) (gV pw_1614 pw_1615 pw_1616 pw_1523 pw_1601) hV_X12_take 0 9 rfl rfl rfl rfl (Nat.le_of_ble_eq_true rfl) dX12_statementOf_430 ⟨Nat.le_of_ble_eq_true rfl, Nat.le_of_ble_eq_true rfl⟩ ⟨(by show 4 + 1 ≤ (26 * n + 44); omega), (by show 8 + (2 + 11) + 103 ≤ (2000 * n + 4400); omega)⟩ (fun v851 u849 H locs hw850 hP hD hS => ?_)
          obtain ⟨at852, fa853, pl854⟩ := u849
          obtain ⟨hw850, h855, h856, h857, h858, h859, h860, h861, h862⟩ := hw850
          have h855 : at837 ≤ at852 := h855
          have h856 : at852 ≤ T := h856
          have h857 : 0 ≤ fa853 := h857
          have h858 : fa853 ≤ 100 := h858
          have h859 : If (0 < 0) (at852 = at837 ∧ fa853 = 0) := h859
          have h860 : at852 ≤ at837 + 1 := h860
          have h861 : at837 + 1 ≤ at852 + fa853 := h861
          have h862 : If (fa853 = 0) (K at837 = 59) := h862
          obtain rfl : v851 = none := hw850
          have hP : va_P G.1 pCl (mW G h0 a (upd (upd (upd (upd (upd (upd (upd F 15 (nI fa853)) 16 pl854) 27 (nI (nd797 + 1))) 31 (nI wr799)) 64 (nI at852)) 65 (nI ne)) 66 (nI lk798)) (updA X826 2 K)) _ := mW_to (F := F) (l1 := [(15, 0), (16, pl839), (27, (nI (nd797 + 1))), (31, (nI wr799)), (64, (nI at837)), (65, (nI ne)), (66, (nI lk798)), (15, (nI fa853)), (16, pl854), (64, (nI at852))]) (l2 := [(15, (nI fa853)), (16, pl854), (27, (nI (nd797 + 1))), (31, (nI wr799)), (64, (nI at852)), (65, (nI ne)), (66, (nI lk798))]) (V := [(nI fa853), pl854, (nI (nd797 + 1)), (nI wr799), (nI at852), (nI ne), (nI lk798), (nI fa853), pl854, (nI at852), (nI fa853), pl854, (nI (nd797 + 1)), (nI wr799), (nI at852), (nI ne), (nI lk798)]) rfl rfl (show (updA (updA X826 2 K) 2 K) = (updA X826 2 K) from updsA_eq2 (F := X826) (l1 := [(2, K), (2, K)]) (l2 := [(2, K)]) (V := [K, K, K]) rfl rfl) hP
          have hD : va_D A (mW G h0 a (upd (upd (upd (upd (upd (upd (upd F 15 (nI fa853)) 16 pl854) 27 (nI (nd797 + 1))) 31 (nI wr799)) 64 (nI at852)) 65 (nI ne)) 66 (nI lk798)) (updA X826 2 K)) := mW_D hD
          refine W.widen (k := 0) (n := 0) (Nat.le_of_ble_eq_true rfl) (Nat.le_of_ble_eq_true rfl) ?_
          refine W.eq (g2 := F0 m 433 ls []) rfl ?_
          rcases Nat.eq_zero_or_pos fa853 with e863 | e863
          · subst e863
            have hP : va_P G.1 pCl (mW G h0 a (upd (upd (upd (upd (upd (upd (upd F 15 0) 16 pl854) 27 (nI (nd797 + 1))) 31 (nI wr799)) 64 (nI at852)) 65 (nI ne)) 66 (nI lk798)) (updA X826 2 K)) _ := hP
            have hD : va_D A (mW G h0 a (upd (upd (upd (upd (upd (upd (upd F 15 0) 16 pl854) 27 (nI (nd797 + 1))) 31 (nI wr799)) 64 (nI at852)) 65 (nI ne)) 66 (nI lk798)) (updA X826 2 K)) := mW_D hD
            refine lv_iload_n hx hb dX12_statementOf_433 rfl (lv_at hl 0 rfl) ?_
            have hz864 : at0 ≤ at852 := (by omega)
            have hz865 : at852 ≤ T := (by omega)
            have hz866 : 0 ≤ 100 := (by omega)
            have hz867 : nd ≤ (nd797 + 1) := (by omega)
            have hz868 : (nd797 + 1) + 2 * at0 ≤ nd + 2 * at852 + 100000 * 0 := (by omega)
            have hz869 : (nd797 + 1) + 2 * at0 ≤ nd + 2 * at852 + (60 * (21 - ne) + 40) := (by omega)
            have hz870 : wr ≤ wr799 := (by omega)
            have hz871 : wr799 + at0 ≤ wr + at852 := (by omega)
            have hz872 : lk ≤ lk798 := (by omega)
            have hz873 : lk798 ≤ 60 + 100 * 0 := (by omega)
            have hz874 : at0 + 1 ≤ at852 + 0 := (by omega)
            have hz875 : nd797 ≤ (nd797 + 1) := (by omega)
            have hz876 : Kp B X826 wr799 T := hkp828
            have hz877 : If (0 = 0) (Low B X826 nd wr ∧ Frs K T wr799 X826 nd (nd797 + 1) 20000 [(nd797, (280 + 4 * (21 - ne)))] ∧ kcl 3 (X826 9 nd797) = true) := (fun _ => ⟨hlo829, Frs.up hf833 (by omega), (by rw [hn832.1]; decide)⟩)
            have hP : va_P G.1 pCl (mW G h0 a (upd (upd (upd (upd (upd (upd (upd F 15 (nI 0)) 16 pl854) 27 (nI (nd797 + 1))) 31 (nI wr799)) 64 (nI at852)) 65 (nI ne)) 66 (nI lk798)) (updA X826 2 K)) _ := mW_to (F := F) (l1 := [(15, 0), (16, pl854), (27, (nI (nd797 + 1))), (31, (nI wr799)), (64, (nI at852)), (65, (nI ne)), (66, (nI lk798))]) (l2 := [(15, (nI 0)), (16, pl854), (27, (nI (nd797 + 1))), (31, (nI wr799)), (64, (nI at852)), (65, (nI ne)), (66, (nI lk798))]) (V := [(nI 0), pl854, (nI (nd797 + 1)), (nI wr799), (nI at852), (nI ne), (nI lk798), (nI 0), pl854, (nI (nd797 + 1)), (nI wr799), (nI at852), (nI ne), (nI lk798)]) rfl rfl rfl hP
            have hD : va_D A (mW G h0 a (upd (upd (upd (upd (upd (upd (upd F 15 (nI 0)) 16 pl854) 27 (nI (nd797 + 1))) 31 (nI wr799)) 64 (nI at852)) 65 (nI ne)) 66 (nI lk798)) (updA X826 2 K)) := mW_D hD
            exact W.iret (v := (nI nd797)) hx hb hr (fun t9 ht9 hW9 => ⟨⟨_, (at852, 0, pl854, (nd797 + 1), lk798, wr799, nd797, X826), rfl, ⟨rfl, hz864, hz865, hz866, hz867, hz868, hz869, hz870, hz871, hz872, hz873, hz874, hz875, hz876, hz877⟩, by rw [ht9]; exact hP, hD⟩, hS.F ht9⟩) hS.2.2 dX12_statementOf_434
          · have e863 := e863
            refine lv_iload_n hx hb dX12_statementOf_433 rfl (lv_at hl 0 rfl) ?_
            have hz878 : at0 ≤ at852 := (by omega)
            have hz879 : at852 ≤ T := (by omega)
            have hz880 : fa853 ≤ 100 := (by omega)
            have hz881 : nd ≤ (nd797 + 1) := (by omega)
            have hz882 : (nd797 + 1) + 2 * at0 ≤ nd + 2 * at852 + 100000 * fa853 := (by omega)
            have hz883 : (nd797 + 1) + 2 * at0 ≤ nd + 2 * at852 + (60 * (21 - ne) + 40) := (by omega)
            have hz884 : wr ≤ wr799 := (by omega)
            have hz885 : wr799 + at0 ≤ wr + at852 := (by omega)
            have hz886 : lk ≤ lk798 := (by omega)
            have hz887 : lk798 ≤ 60 + 100 * fa853 := (by omega)
            have hz888 : at0 + 1 ≤ at852 + fa853 := (by omega)
            have hz889 : nd797 ≤ (nd797 + 1) := (by omega)
            have hz890 : Kp B X826 wr799 T := hkp828
            have hz891 : If (fa853 = 0) (Low B X826 nd wr ∧ Frs K T wr799 X826 nd (nd797 + 1) 20000 [(nd797, (280 + 4 * (21 - ne)))] ∧ kcl 3 (X826 9 nd797) = true) := (fun e => absurd e (by omega))
            have hP : va_P G.1 pCl (mW G h0 a (upd (upd (upd (upd (upd (upd (upd F 15 (nI fa853)) 16 pl854) 27 (nI (nd797 + 1))) 31 (nI wr799)) 64 (nI at852)) 65 (nI ne)) 66 (nI lk798)) (updA X826 2 K)) _ := hP
            have hD : va_D A (mW G h0 a (upd (upd (upd (upd (upd (upd (upd F 15 (nI fa853)) 16 pl854) 27 (nI (nd797 + 1))) 31 (nI wr799)) 64 (nI at852)) 65 (nI ne)) 66 (nI lk798)) (updA X826 2 K)) := mW_D hD
            exact W.iret (v := (nI nd797)) hx hb hr (fun t9 ht9 hW9 => ⟨⟨_, (at852, fa853, pl854, (nd797 + 1), lk798, wr799, nd797, X826), rfl, ⟨rfl, hz878, hz879, hz880, hz881, hz882, hz883, hz884, hz885, hz886, hz887, hz888, hz889, hz890, hz891⟩, by rw [ht9]; exact hP, hD⟩, hS.F ht9⟩) hS.2.2 dX12_statementOf_434
        · have e848 := e848
          refine lv_aload_n hx hb dX12_statementOf_427 rfl (lv_at hl 2 rfl) ?_
          refine lv_bipush (v := 59) hx hb dX12_statementOf_428 (by decide) ?_
          have hP : va_P G.1 pCl (mW G h0 a (upd (upd (upd (upd (upd (upd (upd (upd (upd F 15 (nI fa838)) 16 pl839) 27 (nI (nd797 + 1))) 31 (nI wr799)) 64 (nI at837)) 65 (nI ne)) 66 (nI lk798)) 15 (nI fa838)) 64 (nI at837)) (updA (updA X826 2 K) 2 K)) _ := mW_to (F := F) (l1 := [(15, (nI fa838)), (16, pl839), (27, (nI (nd797 + 1))), (31, (nI wr799)), (64, (nI at837)), (65, (nI ne)), (66, (nI lk798))]) (l2 := [(15, (nI fa838)), (16, pl839), (27, (nI (nd797 + 1))), (31, (nI wr799)), (64, (nI at837)), (65, (nI ne)), (66, (nI lk798)), (15, (nI fa838)), (64, (nI at837))]) (V := [(nI fa838), pl839, (nI (nd797 + 1)), (nI wr799), (nI at837), (nI ne), (nI lk798), (nI fa838), pl839, (nI (nd797 + 1)), (nI wr799), (nI at837), (nI ne), (nI lk798), (nI fa838), (nI at837)]) rfl rfl (show (updA X826 2 K) = (updA (updA X826 2 K) 2 K) from updsA_eq2 (F := X826) (l1 := [(2, K)]) (l2 := [(2, K), (2, K)]) (V := [K, K, K]) rfl rfl) hP
          have hD : va_D A (mW G h0 a (upd (upd (upd (upd (upd (upd (upd (upd (upd F 15 (nI fa838)) 16 pl839) 27 (nI (nd797 + 1))) 31 (nI wr799)) 64 (nI at837)) 65 (nI ne)) 66 (nI lk798)) 15 (nI fa838)) 64 (nI at837)) (updA (updA X826 2 K) 2 K)) := mW_D hD
          refine pc_V0 (G := G) (As := [.int 59]) (rest := []) hx hb hml hown hq hE hX pX0_al hP hD hS hA hl.1 (R_take l G h0 a (upd (upd (upd (upd (upd (upd (upd F 15 (nI fa838)) 16 pl839) 27 (nI (nd797 + 1))) 31 (nI wr799)) 64 (nI at837)) 65 (nI ne)) 66 (nI lk798)) (updA X826 2 K) at837 T fa838 K 59 (by omega) (by omega) hK (by omega) (by decide) (by decide)) (gV pw_1614 pw_1615 pw_1616 pw_1523 pw_1601) hV_X12_take 0 9 rfl rfl rfl rfl (Nat.le_of_ble_eq_true rfl) dX12_statementOf_430 ⟨Nat.le_of_ble_eq_true rfl, Nat.le_of_ble_eq_true rfl⟩ ⟨(by show 4 + 1 ≤ (26 * n + 44); omega), (by show 8 + (2 + 11) + 103 ≤ (2000 * n + 4400); omega)⟩ (fun v894 u892 H locs hw893 hP hD hS => ?_)
          obtain ⟨at895, fa896, pl897⟩ := u892
          obtain ⟨hw893, h898, h899, h900, h901, h902, h903, h904, h905⟩ := hw893
          have h898 : at837 ≤ at895 := h898
          have h899 : at895 ≤ T := h899
          have h900 : fa838 ≤ fa896 := h900
          have h901 : fa896 ≤ 100 := h901
          have h902 : If (0 < fa838) (at895 = at837 ∧ fa896 = fa838) := h902
          have h903 : at895 ≤ at837 + 1 := h903
          have h904 : at837 + 1 ≤ at895 + fa896 := h904
          have h905 : If (fa896 = 0) (K at837 = 59) := h905
          obtain rfl : v894 = none := hw893
          have hP : va_P G.1 pCl (mW G h0 a (upd (upd (upd (upd (upd (upd (upd F 15 (nI fa896)) 16 pl897) 27 (nI (nd797 + 1))) 31 (nI wr799)) 64 (nI at895)) 65 (nI ne)) 66 (nI lk798)) (updA X826 2 K)) _ := mW_to (F := F) (l1 := [(15, (nI fa838)), (16, pl839), (27, (nI (nd797 + 1))), (31, (nI wr799)), (64, (nI at837)), (65, (nI ne)), (66, (nI lk798)), (15, (nI fa896)), (16, pl897), (64, (nI at895))]) (l2 := [(15, (nI fa896)), (16, pl897), (27, (nI (nd797 + 1))), (31, (nI wr799)), (64, (nI at895)), (65, (nI ne)), (66, (nI lk798))]) (V := [(nI fa896), pl897, (nI (nd797 + 1)), (nI wr799), (nI at895), (nI ne), (nI lk798), (nI fa896), pl897, (nI at895), (nI fa896), pl897, (nI (nd797 + 1)), (nI wr799), (nI at895), (nI ne), (nI lk798)]) rfl rfl (show (updA (updA X826 2 K) 2 K) = (updA X826 2 K) from updsA_eq2 (F := X826) (l1 := [(2, K), (2, K)]) (l2 := [(2, K)]) (V := [K, K, K]) rfl rfl) hP
          have hD : va_D A (mW G h0 a (upd (upd (upd (upd (upd (upd (upd F 15 (nI fa896)) 16 pl897) 27 (nI (nd797 + 1))) 31 (nI wr799)) 64 (nI at895)) 65 (nI ne)) 66 (nI lk798)) (updA X826 2 K)) := mW_D hD
          refine W.widen (k := 0) (n := 0) (Nat.le_of_ble_eq_true rfl) (Nat.le_of_ble_eq_true rfl) ?_
          refine W.eq (g2 := F0 m 433 ls []) rfl ?_
          obtain ⟨n907, n906⟩ := h902 e848
          replace n907 := n907.symm
          subst n907
          replace n906 := n906.symm
          subst n906
          refine lv_iload_n hx hb dX12_statementOf_433 rfl (lv_at hl 0 rfl) ?_
          have hz908 : at0 ≤ at837 := (by omega)
          have hz909 : at837 ≤ T := (by omega)
          have hz910 : fa838 ≤ 100 := (by omega)
          have hz911 : nd ≤ (nd797 + 1) := (by omega)
          have hz912 : (nd797 + 1) + 2 * at0 ≤ nd + 2 * at837 + 100000 * fa838 := (by omega)
          have hz913 : (nd797 + 1) + 2 * at0 ≤ nd + 2 * at837 + (60 * (21 - ne) + 40) := (by omega)
          have hz914 : wr ≤ wr799 := (by omega)
          have hz915 : wr799 + at0 ≤ wr + at837 := (by omega)
          have hz916 : lk ≤ lk798 := (by omega)
          have hz917 : lk798 ≤ 60 + 100 * fa838 := (by omega)
          have hz918 : at0 + 1 ≤ at837 + fa838 := (by omega)
          have hz919 : nd797 ≤ (nd797 + 1) := (by omega)
          have hz920 : Kp B X826 wr799 T := hkp828
          have hz921 : If (fa838 = 0) (Low B X826 nd wr ∧ Frs K T wr799 X826 nd (nd797 + 1) 20000 [(nd797, (280 + 4 * (21 - ne)))] ∧ kcl 3 (X826 9 nd797) = true) := (fun e => absurd e (by omega))
          have hP : va_P G.1 pCl (mW G h0 a (upd (upd (upd (upd (upd (upd (upd F 15 (nI fa838)) 16 pl897) 27 (nI (nd797 + 1))) 31 (nI wr799)) 64 (nI at837)) 65 (nI ne)) 66 (nI lk798)) (updA X826 2 K)) _ := hP
          have hD : va_D A (mW G h0 a (upd (upd (upd (upd (upd (upd (upd F 15 (nI fa838)) 16 pl897) 27 (nI (nd797 + 1))) 31 (nI wr799)) 64 (nI at837)) 65 (nI ne)) 66 (nI lk798)) (updA X826 2 K)) := mW_D hD
          exact W.iret (v := (nI nd797)) hx hb hr (fun t9 ht9 hW9 => ⟨⟨_, (at837, fa838, pl897, (nd797 + 1), lk798, wr799, nd797, X826), rfl, ⟨rfl, hz908, hz909, hz910, hz911, hz912, hz913, hz914, hz915, hz916, hz917, hz918, hz919, hz920, hz921⟩, by rw [ht9]; exact hP, hD⟩, hS.F ht9⟩) hS.2.2 dX12_statementOf_434
      · have e817 := e817
        refine lv_iconst (v := (-1)) hx hb dX12_statementOf_416 (by decide) ?_
        have hP : va_P G.1 pCl (mW G h0 a (upd (upd (upd (upd (upd (upd (upd (upd F 15 (nI fa795)) 16 pl796) 27 (nI nd797)) 31 (nI wr799)) 64 (nI at794)) 65 (nI ne)) 66 (nI lk798)) 27 (nI nd797)) (updA X801 2 K)) _ := mW_to (F := F) (l1 := [(15, (nI fa795)), (16, pl796), (27, (nI nd797)), (31, (nI wr799)), (64, (nI at794)), (65, (nI ne)), (66, (nI lk798))]) (l2 := [(15, (nI fa795)), (16, pl796), (27, (nI nd797)), (31, (nI wr799)), (64, (nI at794)), (65, (nI ne)), (66, (nI lk798)), (27, (nI nd797))]) (V := [(nI fa795), pl796, (nI nd797), (nI wr799), (nI at794), (nI ne), (nI lk798), (nI fa795), pl796, (nI nd797), (nI wr799), (nI at794), (nI ne), (nI lk798), (nI nd797)]) rfl rfl rfl hP
        have hD : va_D A (mW G h0 a (upd (upd (upd (upd (upd (upd (upd (upd F 15 (nI fa795)) 16 pl796) 27 (nI nd797)) 31 (nI wr799)) 64 (nI at794)) 65 (nI ne)) 66 (nI lk798)) 27 (nI nd797)) (updA X801 2 K)) := mW_D hD
        refine pc_V0 (G := G) (As := [.int 42, .int (nI at0), .int (nI at0), .int (nI r800), .int (-1)]) (rest := []) hx hb hml hown hq hE hX pX0_al hP hD hS hA hl.1 (R_nodeB l G h0 a (upd (upd (upd (upd (upd (upd (upd F 15 (nI fa795)) 16 pl796) 27 (nI nd797)) 31 (nI wr799)) 64 (nI at794)) 65 (nI ne)) 66 (nI lk798)) X801 42 (nI at0) (nI at0) (nI r800) (-1) nd797 K (by omega)) (gV pw_1650 pw_1651 pw_1652 pw_1523 pw_1589) hV_X12_node 0 9 rfl rfl rfl rfl (Nat.le_of_ble_eq_true rfl) dX12_statementOf_417 ⟨Nat.le_of_ble_eq_true rfl, Nat.le_of_ble_eq_true rfl⟩ ⟨(by show 2 + 1 ≤ (26 * n + 44); omega), (by show 8 + (7 + 11) + 60 ≤ (2000 * n + 4400); omega)⟩ (fun v924 u922 H locs hw923 hP hD hS => ?_)
        obtain ⟨X925, rfl⟩ : ∃ z, z = u922 := ⟨_, rfl⟩
        obtain ⟨hw923, h926⟩ := hw923
        have h926 : NewN X801 X925 nd797 42 (nI at0) (nI at0) (nI r800) (-1) := h926
        obtain rfl : v924 = some (.int (nI nd797)) := hw923
        have hP : va_P G.1 pCl (mW G h0 a (upd (upd (upd (upd (upd (upd (upd F 15 (nI fa795)) 16 pl796) 27 (nI (nd797 + 1))) 31 (nI wr799)) 64 (nI at794)) 65 (nI ne)) 66 (nI lk798)) (updA X925 2 K)) _ := mW_to (F := F) (l1 := [(15, (nI fa795)), (16, pl796), (27, (nI nd797)), (31, (nI wr799)), (64, (nI at794)), (65, (nI ne)), (66, (nI lk798)), (27, (nI (nd797 + 1)))]) (l2 := [(15, (nI fa795)), (16, pl796), (27, (nI (nd797 + 1))), (31, (nI wr799)), (64, (nI at794)), (65, (nI ne)), (66, (nI lk798))]) (V := [(nI fa795), pl796, (nI (nd797 + 1)), (nI wr799), (nI at794), (nI ne), (nI lk798), (nI (nd797 + 1)), (nI fa795), pl796, (nI (nd797 + 1)), (nI wr799), (nI at794), (nI ne), (nI lk798)]) rfl rfl rfl hP
        have hD : va_D A (mW G h0 a (upd (upd (upd (upd (upd (upd (upd F 15 (nI fa795)) 16 pl796) 27 (nI (nd797 + 1))) 31 (nI wr799)) 64 (nI at794)) 65 (nI ne)) 66 (nI lk798)) (updA X925 2 K)) := mW_D hD
        refine W.widen (k := 0) (n := 0) (Nat.le_of_ble_eq_true rfl) (Nat.le_of_ble_eq_true rfl) ?_
        refine W.eq (g2 := F0 m 420 ls [.int (nI nd797)]) rfl ?_
        have hkp927 : Kp B X925 wr799 T := (Kp.new hkp816 h926)
        refine lv_istore_n (lv' := [(2, .int (nI nd797)), (1, .int (nI at0)), (0, .ref h0)]) hx hb dX12_statementOf_420 rfl hl (by decide) rfl (fun ls hl => ?_)
        refine lv_aload_n hx hb dX12_statementOf_421 rfl (lv_at hl 2 rfl) ?_
        refine lv_bipush (v := 41) hx hb dX12_statementOf_422 (by decide) ?_
        have hP : va_P G.1 pCl (mW G h0 a (upd (upd (upd (upd (upd (upd (upd (upd (upd F 15 (nI fa795)) 16 pl796) 27 (nI (nd797 + 1))) 31 (nI wr799)) 64 (nI at794)) 65 (nI ne)) 66 (nI lk798)) 15 (nI fa795)) 64 (nI at794)) (updA (updA X925 2 K) 2 K)) _ := mW_to (F := F) (l1 := [(15, (nI fa795)), (16, pl796), (27, (nI (nd797 + 1))), (31, (nI wr799)), (64, (nI at794)), (65, (nI ne)), (66, (nI lk798))]) (l2 := [(15, (nI fa795)), (16, pl796), (27, (nI (nd797 + 1))), (31, (nI wr799)), (64, (nI at794)), (65, (nI ne)), (66, (nI lk798)), (15, (nI fa795)), (64, (nI at794))]) (V := [(nI fa795), pl796, (nI (nd797 + 1)), (nI wr799), (nI at794), (nI ne), (nI lk798), (nI fa795), pl796, (nI (nd797 + 1)), (nI wr799), (nI at794), (nI ne), (nI lk798), (nI fa795), (nI at794)]) rfl rfl (show (updA X925 2 K) = (updA (updA X925 2 K) 2 K) from updsA_eq2 (F := X925) (l1 := [(2, K)]) (l2 := [(2, K), (2, K)]) (V := [K, K, K]) rfl rfl) hP
        have hD : va_D A (mW G h0 a (upd (upd (upd (upd (upd (upd (upd (upd (upd F 15 (nI fa795)) 16 pl796) 27 (nI (nd797 + 1))) 31 (nI wr799)) 64 (nI at794)) 65 (nI ne)) 66 (nI lk798)) 15 (nI fa795)) 64 (nI at794)) (updA (updA X925 2 K) 2 K)) := mW_D hD
        refine pc_V0 (G := G) (As := [.int 41]) (rest := []) hx hb hml hown hq hE hX pX0_al hP hD hS hA hl.1 (R_take l G h0 a (upd (upd (upd (upd (upd (upd (upd F 15 (nI fa795)) 16 pl796) 27 (nI (nd797 + 1))) 31 (nI wr799)) 64 (nI at794)) 65 (nI ne)) 66 (nI lk798)) (updA X925 2 K) at794 T fa795 K 41 (by omega) (by omega) hK (by omega) (by decide) (by decide)) (gV pw_1614 pw_1615 pw_1616 pw_1523 pw_1601) hV_X12_take 0 9 rfl rfl rfl rfl (Nat.le_of_ble_eq_true rfl) dX12_statementOf_424 ⟨Nat.le_of_ble_eq_true rfl, Nat.le_of_ble_eq_true rfl⟩ ⟨(by show 4 + 1 ≤ (26 * n + 44); omega), (by show 8 + (2 + 11) + 103 ≤ (2000 * n + 4400); omega)⟩ (fun v930 u928 H locs hw929 hP hD hS => ?_)
        obtain ⟨at931, fa932, pl933⟩ := u928
        obtain ⟨hw929, h934, h935, h936, h937, h938, h939, h940, h941⟩ := hw929
        have h934 : at794 ≤ at931 := h934
        have h935 : at931 ≤ T := h935
        have h936 : fa795 ≤ fa932 := h936
        have h937 : fa932 ≤ 100 := h937
        have h938 : If (0 < fa795) (at931 = at794 ∧ fa932 = fa795) := h938
        have h939 : at931 ≤ at794 + 1 := h939
        have h940 : at794 + 1 ≤ at931 + fa932 := h940
        have h941 : If (fa932 = 0) (K at794 = 41) := h941
        obtain rfl : v930 = none := hw929
        have hP : va_P G.1 pCl (mW G h0 a (upd (upd (upd (upd (upd (upd (upd F 15 (nI fa932)) 16 pl933) 27 (nI (nd797 + 1))) 31 (nI wr799)) 64 (nI at931)) 65 (nI ne)) 66 (nI lk798)) (updA X925 2 K)) _ := mW_to (F := F) (l1 := [(15, (nI fa795)), (16, pl796), (27, (nI (nd797 + 1))), (31, (nI wr799)), (64, (nI at794)), (65, (nI ne)), (66, (nI lk798)), (15, (nI fa932)), (16, pl933), (64, (nI at931))]) (l2 := [(15, (nI fa932)), (16, pl933), (27, (nI (nd797 + 1))), (31, (nI wr799)), (64, (nI at931)), (65, (nI ne)), (66, (nI lk798))]) (V := [(nI fa932), pl933, (nI (nd797 + 1)), (nI wr799), (nI at931), (nI ne), (nI lk798), (nI fa932), pl933, (nI at931), (nI fa932), pl933, (nI (nd797 + 1)), (nI wr799), (nI at931), (nI ne), (nI lk798)]) rfl rfl (show (updA (updA X925 2 K) 2 K) = (updA X925 2 K) from updsA_eq2 (F := X925) (l1 := [(2, K), (2, K)]) (l2 := [(2, K)]) (V := [K, K, K]) rfl rfl) hP
        have hD : va_D A (mW G h0 a (upd (upd (upd (upd (upd (upd (upd F 15 (nI fa932)) 16 pl933) 27 (nI (nd797 + 1))) 31 (nI wr799)) 64 (nI at931)) 65 (nI ne)) 66 (nI lk798)) (updA X925 2 K)) := mW_D hD
        refine W.widen (k := 0) (n := 0) (Nat.le_of_ble_eq_true rfl) (Nat.le_of_ble_eq_true rfl) ?_
        refine W.eq (g2 := F0 m 427 ls []) rfl ?_
        obtain ⟨n943, n942⟩ := h938 e817
        replace n943 := n943.symm
        subst n943
        replace n942 := n942.symm
        subst n942
        refine lv_aload_n hx hb dX12_statementOf_427 rfl (lv_at hl 2 rfl) ?_
        refine lv_bipush (v := 59) hx hb dX12_statementOf_428 (by decide) ?_
        have hP : va_P G.1 pCl (mW G h0 a (upd (upd (upd (upd (upd (upd (upd (upd (upd F 15 (nI fa795)) 16 pl933) 27 (nI (nd797 + 1))) 31 (nI wr799)) 64 (nI at794)) 65 (nI ne)) 66 (nI lk798)) 15 (nI fa795)) 64 (nI at794)) (updA (updA X925 2 K) 2 K)) _ := hP
        have hD : va_D A (mW G h0 a (upd (upd (upd (upd (upd (upd (upd (upd (upd F 15 (nI fa795)) 16 pl933) 27 (nI (nd797 + 1))) 31 (nI wr799)) 64 (nI at794)) 65 (nI ne)) 66 (nI lk798)) 15 (nI fa795)) 64 (nI at794)) (updA (updA X925 2 K) 2 K)) := mW_D hD
        refine pc_V0 (G := G) (As := [.int 59]) (rest := []) hx hb hml hown hq hE hX pX0_al hP hD hS hA hl.1 (R_take l G h0 a (upd (upd (upd (upd (upd (upd (upd F 15 (nI fa795)) 16 pl933) 27 (nI (nd797 + 1))) 31 (nI wr799)) 64 (nI at794)) 65 (nI ne)) 66 (nI lk798)) (updA X925 2 K) at794 T fa795 K 59 (by omega) (by omega) hK (by omega) (by decide) (by decide)) (gV pw_1614 pw_1615 pw_1616 pw_1523 pw_1601) hV_X12_take 0 9 rfl rfl rfl rfl (Nat.le_of_ble_eq_true rfl) dX12_statementOf_430 ⟨Nat.le_of_ble_eq_true rfl, Nat.le_of_ble_eq_true rfl⟩ ⟨(by show 4 + 1 ≤ (26 * n + 44); omega), (by show 8 + (2 + 11) + 103 ≤ (2000 * n + 4400); omega)⟩ (fun v946 u944 H locs hw945 hP hD hS => ?_)
        obtain ⟨at947, fa948, pl949⟩ := u944
        obtain ⟨hw945, h950, h951, h952, h953, h954, h955, h956, h957⟩ := hw945
        have h950 : at794 ≤ at947 := h950
        have h951 : at947 ≤ T := h951
        have h952 : fa795 ≤ fa948 := h952
        have h953 : fa948 ≤ 100 := h953
        have h954 : If (0 < fa795) (at947 = at794 ∧ fa948 = fa795) := h954
        have h955 : at947 ≤ at794 + 1 := h955
        have h956 : at794 + 1 ≤ at947 + fa948 := h956
        have h957 : If (fa948 = 0) (K at794 = 59) := h957
        obtain rfl : v946 = none := hw945
        have hP : va_P G.1 pCl (mW G h0 a (upd (upd (upd (upd (upd (upd (upd F 15 (nI fa948)) 16 pl949) 27 (nI (nd797 + 1))) 31 (nI wr799)) 64 (nI at947)) 65 (nI ne)) 66 (nI lk798)) (updA X925 2 K)) _ := mW_to (F := F) (l1 := [(15, (nI fa795)), (16, pl933), (27, (nI (nd797 + 1))), (31, (nI wr799)), (64, (nI at794)), (65, (nI ne)), (66, (nI lk798)), (15, (nI fa948)), (16, pl949), (64, (nI at947))]) (l2 := [(15, (nI fa948)), (16, pl949), (27, (nI (nd797 + 1))), (31, (nI wr799)), (64, (nI at947)), (65, (nI ne)), (66, (nI lk798))]) (V := [(nI fa948), pl949, (nI (nd797 + 1)), (nI wr799), (nI at947), (nI ne), (nI lk798), (nI fa948), pl949, (nI at947), (nI fa948), pl949, (nI (nd797 + 1)), (nI wr799), (nI at947), (nI ne), (nI lk798)]) rfl rfl (show (updA (updA X925 2 K) 2 K) = (updA X925 2 K) from updsA_eq2 (F := X925) (l1 := [(2, K), (2, K)]) (l2 := [(2, K)]) (V := [K, K, K]) rfl rfl) hP
        have hD : va_D A (mW G h0 a (upd (upd (upd (upd (upd (upd (upd F 15 (nI fa948)) 16 pl949) 27 (nI (nd797 + 1))) 31 (nI wr799)) 64 (nI at947)) 65 (nI ne)) 66 (nI lk798)) (updA X925 2 K)) := mW_D hD
        refine W.widen (k := 0) (n := 0) (Nat.le_of_ble_eq_true rfl) (Nat.le_of_ble_eq_true rfl) ?_
        refine W.eq (g2 := F0 m 433 ls []) rfl ?_
        obtain ⟨n959, n958⟩ := h954 e817
        replace n959 := n959.symm
        subst n959
        replace n958 := n958.symm
        subst n958
        refine lv_iload_n hx hb dX12_statementOf_433 rfl (lv_at hl 0 rfl) ?_
        have hz960 : at0 ≤ at794 := (by omega)
        have hz961 : at794 ≤ T := (by omega)
        have hz962 : fa795 ≤ 100 := (by omega)
        have hz963 : nd ≤ (nd797 + 1) := (by omega)
        have hz964 : (nd797 + 1) + 2 * at0 ≤ nd + 2 * at794 + 100000 * fa795 := (by omega)
        have hz965 : (nd797 + 1) + 2 * at0 ≤ nd + 2 * at794 + (60 * (21 - ne) + 40) := (by omega)
        have hz966 : wr ≤ wr799 := (by omega)
        have hz967 : wr799 + at0 ≤ wr + at794 := (by omega)
        have hz968 : lk ≤ lk798 := (by omega)
        have hz969 : lk798 ≤ 60 + 100 * fa795 := (by omega)
        have hz970 : at0 + 1 ≤ at794 + fa795 := (by omega)
        have hz971 : nd797 ≤ (nd797 + 1) := (by omega)
        have hz972 : Kp B X925 wr799 T := hkp927
        have hz973 : If (fa795 = 0) (Low B X925 nd wr ∧ Frs K T wr799 X925 nd (nd797 + 1) 20000 [(nd797, (280 + 4 * (21 - ne)))] ∧ kcl 3 (X925 9 nd797) = true) := (fun e => absurd e (by omega))
        have hP : va_P G.1 pCl (mW G h0 a (upd (upd (upd (upd (upd (upd (upd F 15 (nI fa795)) 16 pl949) 27 (nI (nd797 + 1))) 31 (nI wr799)) 64 (nI at794)) 65 (nI ne)) 66 (nI lk798)) (updA X925 2 K)) _ := hP
        have hD : va_D A (mW G h0 a (upd (upd (upd (upd (upd (upd (upd F 15 (nI fa795)) 16 pl949) 27 (nI (nd797 + 1))) 31 (nI wr799)) 64 (nI at794)) 65 (nI ne)) 66 (nI lk798)) (updA X925 2 K)) := mW_D hD
        exact W.iret (v := (nI nd797)) hx hb hr (fun t9 ht9 hW9 => ⟨⟨_, (at794, fa795, pl949, (nd797 + 1), lk798, wr799, nd797, X925), rfl, ⟨rfl, hz960, hz961, hz962, hz963, hz964, hz965, hz966, hz967, hz968, hz969, hz970, hz971, hz972, hz973⟩, by rw [ht9]; exact hP, hD⟩, hS.F ht9⟩) hS.2.2 dX12_statementOf_434
    · have e790 := e790
      refine lv_aload_n hx hb dX12_statementOf_407 rfl (lv_at hl 1 rfl) ?_
      refine lv_bipush (v := 42) hx hb dX12_statementOf_408 (by decide) ?_
      refine lv_iload_n hx hb dX12_statementOf_410 rfl (lv_at hl 0 rfl) ?_
      refine lv_iload_n hx hb dX12_statementOf_411 rfl (lv_at hl 0 rfl) ?_
      refine lv_aload_n hx hb dX12_statementOf_412 rfl (lv_at hl 1 rfl) ?_
      have hP : va_P G.1 pCl (mW G h0 a (upd (upd (upd (upd (upd (upd (upd (upd (upd F 15 (nI fa780)) 16 pl781) 27 (nI nd)) 31 (nI wr)) 64 (nI at779)) 65 (nI ne)) 66 (nI lk)) 15 (nI fa780)) 64 (nI at779)) (updA (updA B 2 K) 2 K)) _ := mW_to (F := F) (l1 := [(15, (nI fa780)), (16, pl781), (27, (nI nd)), (31, (nI wr)), (64, (nI at779)), (65, (nI ne)), (66, (nI lk))]) (l2 := [(15, (nI fa780)), (16, pl781), (27, (nI nd)), (31, (nI wr)), (64, (nI at779)), (65, (nI ne)), (66, (nI lk)), (15, (nI fa780)), (64, (nI at779))]) (V := [(nI fa780), pl781, (nI nd), (nI wr), (nI at779), (nI ne), (nI lk), (nI fa780), pl781, (nI nd), (nI wr), (nI at779), (nI ne), (nI lk), (nI fa780), (nI at779)]) rfl rfl (show (updA B 2 K) = (updA (updA B 2 K) 2 K) from updsA_eq2 (F := B) (l1 := [(2, K)]) (l2 := [(2, K), (2, K)]) (V := [K, K, K]) rfl rfl) hP
      have hD : va_D A (mW G h0 a (upd (upd (upd (upd (upd (upd (upd (upd (upd F 15 (nI fa780)) 16 pl781) 27 (nI nd)) 31 (nI wr)) 64 (nI at779)) 65 (nI ne)) 66 (nI lk)) 15 (nI fa780)) 64 (nI at779)) (updA (updA B 2 K) 2 K)) := mW_D hD
      refine pc_V0 (G := G) (As := []) (rest := [.int (nI at0), .int (nI at0), .int 42, .ref h0]) hx hb hml hown hq hE hX pX0_al hP hD hS hA hl.1 (RF_choice l G h0 a (upd (upd (upd (upd (upd (upd (upd F 15 (nI fa780)) 16 pl781) 27 (nI nd)) 31 (nI wr)) 64 (nI at779)) 65 (nI ne)) 66 (nI lk)) (updA B 2 K) at779 T fa780 K (by omega) (by omega) hK (by omega) e790) (gV pw_1640 pw_1641 pw_1642 pw_1523 pw_1656) hV_X12_choice 0 9 rfl rfl rfl rfl (Nat.le_of_ble_eq_true rfl) dX12_statementOf_413 ⟨Nat.le_of_ble_eq_true rfl, Nat.le_of_ble_eq_true rfl⟩ ⟨(by show 16 + 1 ≤ (26 * n + 44); omega), (by show 8 + (4 + 11) + 405 ≤ (2000 * n + 4400); omega)⟩ (fun v976 u974 H locs hw975 hP hD hS => ?_)
      obtain rfl : v976 = some (.int 0) := hw975
      have hP : va_P G.1 pCl (mW G h0 a (upd (upd (upd (upd (upd (upd (upd F 15 (nI fa780)) 16 pl781) 27 (nI nd)) 31 (nI wr)) 64 (nI at779)) 65 (nI ne)) 66 (nI lk)) (updA B 2 K)) _ := mW_to (F := F) (l1 := [(15, (nI fa780)), (16, pl781), (27, (nI nd)), (31, (nI wr)), (64, (nI at779)), (65, (nI ne)), (66, (nI lk)), (15, (nI fa780)), (64, (nI at779))]) (l2 := [(15, (nI fa780)), (16, pl781), (27, (nI nd)), (31, (nI wr)), (64, (nI at779)), (65, (nI ne)), (66, (nI lk))]) (V := [(nI fa780), pl781, (nI nd), (nI wr), (nI at779), (nI ne), (nI lk), (nI fa780), (nI at779), (nI fa780), pl781, (nI nd), (nI wr), (nI at779), (nI ne), (nI lk)]) rfl rfl (show (updA (updA B 2 K) 2 K) = (updA B 2 K) from updsA_eq2 (F := B) (l1 := [(2, K), (2, K)]) (l2 := [(2, K)]) (V := [K, K, K]) rfl rfl) hP
      have hD : va_D A (mW G h0 a (upd (upd (upd (upd (upd (upd (upd F 15 (nI fa780)) 16 pl781) 27 (nI nd)) 31 (nI wr)) 64 (nI at779)) 65 (nI ne)) 66 (nI lk)) (updA B 2 K)) := mW_D hD
      refine W.widen (k := 0) (n := 0) (Nat.le_of_ble_eq_true rfl) (Nat.le_of_ble_eq_true rfl) ?_
      refine W.eq (g2 := F0 m 416 ls [.int 0, .int (nI at0), .int (nI at0), .int 42, .ref h0]) rfl ?_
      refine lv_iconst (v := (-1)) hx hb dX12_statementOf_416 (by decide) ?_
      have hP : va_P G.1 pCl (mW G h0 a (upd (upd (upd (upd (upd (upd (upd (upd F 15 (nI fa780)) 16 pl781) 27 (nI nd)) 31 (nI wr)) 64 (nI at779)) 65 (nI ne)) 66 (nI lk)) 27 (nI nd)) (updA B 2 K)) _ := mW_to (F := F) (l1 := [(15, (nI fa780)), (16, pl781), (27, (nI nd)), (31, (nI wr)), (64, (nI at779)), (65, (nI ne)), (66, (nI lk))]) (l2 := [(15, (nI fa780)), (16, pl781), (27, (nI nd)), (31, (nI wr)), (64, (nI at779)), (65, (nI ne)), (66, (nI lk)), (27, (nI nd))]) (V := [(nI fa780), pl781, (nI nd), (nI wr), (nI at779), (nI ne), (nI lk), (nI fa780), pl781, (nI nd), (nI wr), (nI at779), (nI ne), (nI lk), (nI nd)]) rfl rfl rfl hP
      have hD : va_D A (mW G h0 a (upd (upd (upd (upd (upd (upd (upd (upd F 15 (nI fa780)) 16 pl781) 27 (nI nd)) 31 (nI wr)) 64 (nI at779)) 65 (nI ne)) 66 (nI lk)) 27 (nI nd)) (updA B 2 K)) := mW_D hD
      refine pc_V0 (G := G) (As := [.int 42, .int (nI at0), .int (nI at0), .int 0, .int (-1)]) (rest := []) hx hb hml hown hq hE hX pX0_al hP hD hS hA hl.1 (R_nodeB l G h0 a (upd (upd (upd (upd (upd (upd (upd F 15 (nI fa780)) 16 pl781) 27 (nI nd)) 31 (nI wr)) 64 (nI at779)) 65 (nI ne)) 66 (nI lk)) B 42 (nI at0) (nI at0) 0 (-1) nd K (by omega)) (gV pw_1650 pw_1651 pw_1652 pw_1523 pw_1589) hV_X12_node 0 9 rfl rfl rfl rfl (Nat.le_of_ble_eq_true rfl) dX12_statementOf_417 ⟨Nat.le_of_ble_eq_true rfl, Nat.le_of_ble_eq_true rfl⟩ ⟨(by show 2 + 1 ≤ (26 * n + 44); omega), (by show 8 + (7 + 11) + 60 ≤ (2000 * n + 4400); omega)⟩ (fun v979 u977 H locs hw978 hP hD hS => ?_)
      obtain ⟨X980, rfl⟩ : ∃ z, z = u977 := ⟨_, rfl⟩
      obtain ⟨hw978, h981⟩ := hw978
      have h981 : NewN B X980 nd 42 (nI at0) (nI at0) 0 (-1) := h981
      obtain rfl : v979 = some (.int (nI nd)) := hw978
      have hP : va_P G.1 pCl (mW G h0 a (upd (upd (upd (upd (upd (upd (upd F 15 (nI fa780)) 16 pl781) 27 (nI (nd + 1))) 31 (nI wr)) 64 (nI at779)) 65 (nI ne)) 66 (nI lk)) (updA X980 2 K)) _ := mW_to (F := F) (l1 := [(15, (nI fa780)), (16, pl781), (27, (nI nd)), (31, (nI wr)), (64, (nI at779)), (65, (nI ne)), (66, (nI lk)), (27, (nI (nd + 1)))]) (l2 := [(15, (nI fa780)), (16, pl781), (27, (nI (nd + 1))), (31, (nI wr)), (64, (nI at779)), (65, (nI ne)), (66, (nI lk))]) (V := [(nI fa780), pl781, (nI (nd + 1)), (nI wr), (nI at779), (nI ne), (nI lk), (nI (nd + 1)), (nI fa780), pl781, (nI (nd + 1)), (nI wr), (nI at779), (nI ne), (nI lk)]) rfl rfl rfl hP
      have hD : va_D A (mW G h0 a (upd (upd (upd (upd (upd (upd (upd F 15 (nI fa780)) 16 pl781) 27 (nI (nd + 1))) 31 (nI wr)) 64 (nI at779)) 65 (nI ne)) 66 (nI lk)) (updA X980 2 K)) := mW_D hD
      refine W.widen (k := 0) (n := 0) (Nat.le_of_ble_eq_true rfl) (Nat.le_of_ble_eq_true rfl) ?_
      refine W.eq (g2 := F0 m 420 ls [.int (nI nd)]) rfl ?_
      have hkp982 : Kp B X980 wr T := (Kp.new hkp1 h981)
      refine lv_istore_n (lv' := [(2, .int (nI nd)), (1, .int (nI at0)), (0, .ref h0)]) hx hb dX12_statementOf_420 rfl hl (by decide) rfl (fun ls hl => ?_)
      refine lv_aload_n hx hb dX12_statementOf_421 rfl (lv_at hl 2 rfl) ?_
      refine lv_bipush (v := 41) hx hb dX12_statementOf_422 (by decide) ?_
      have hP : va_P G.1 pCl (mW G h0 a (upd (upd (upd (upd (upd (upd (upd (upd (upd F 15 (nI fa780)) 16 pl781) 27 (nI (nd + 1))) 31 (nI wr)) 64 (nI at779)) 65 (nI ne)) 66 (nI lk)) 15 (nI fa780)) 64 (nI at779)) (updA (updA X980 2 K) 2 K)) _ := mW_to (F := F) (l1 := [(15, (nI fa780)), (16, pl781), (27, (nI (nd + 1))), (31, (nI wr)), (64, (nI at779)), (65, (nI ne)), (66, (nI lk))]) (l2 := [(15, (nI fa780)), (16, pl781), (27, (nI (nd + 1))), (31, (nI wr)), (64, (nI at779)), (65, (nI ne)), (66, (nI lk)), (15, (nI fa780)), (64, (nI at779))]) (V := [(nI fa780), pl781, (nI (nd + 1)), (nI wr), (nI at779), (nI ne), (nI lk), (nI fa780), pl781, (nI (nd + 1)), (nI wr), (nI at779), (nI ne), (nI lk), (nI fa780), (nI at779)]) rfl rfl (show (updA X980 2 K) = (updA (updA X980 2 K) 2 K) from updsA_eq2 (F := X980) (l1 := [(2, K)]) (l2 := [(2, K), (2, K)]) (V := [K, K, K]) rfl rfl) hP
      have hD : va_D A (mW G h0 a (upd (upd (upd (upd (upd (upd (upd (upd (upd F 15 (nI fa780)) 16 pl781) 27 (nI (nd + 1))) 31 (nI wr)) 64 (nI at779)) 65 (nI ne)) 66 (nI lk)) 15 (nI fa780)) 64 (nI at779)) (updA (updA X980 2 K) 2 K)) := mW_D hD
      refine pc_V0 (G := G) (As := [.int 41]) (rest := []) hx hb hml hown hq hE hX pX0_al hP hD hS hA hl.1 (R_take l G h0 a (upd (upd (upd (upd (upd (upd (upd F 15 (nI fa780)) 16 pl781) 27 (nI (nd + 1))) 31 (nI wr)) 64 (nI at779)) 65 (nI ne)) 66 (nI lk)) (updA X980 2 K) at779 T fa780 K 41 (by omega) (by omega) hK (by omega) (by decide) (by decide)) (gV pw_1614 pw_1615 pw_1616 pw_1523 pw_1601) hV_X12_take 0 9 rfl rfl rfl rfl (Nat.le_of_ble_eq_true rfl) dX12_statementOf_424 ⟨Nat.le_of_ble_eq_true rfl, Nat.le_of_ble_eq_true rfl⟩ ⟨(by show 4 + 1 ≤ (26 * n + 44); omega), (by show 8 + (2 + 11) + 103 ≤ (2000 * n + 4400); omega)⟩ (fun v985 u983 H locs hw984 hP hD hS => ?_)
      obtain ⟨at986, fa987, pl988⟩ := u983
      obtain ⟨hw984, h989, h990, h991, h992, h993, h994, h995, h996⟩ := hw984
      have h989 : at779 ≤ at986 := h989
      have h990 : at986 ≤ T := h990
      have h991 : fa780 ≤ fa987 := h991
      have h992 : fa987 ≤ 100 := h992
      have h993 : If (0 < fa780) (at986 = at779 ∧ fa987 = fa780) := h993
      have h994 : at986 ≤ at779 + 1 := h994
      have h995 : at779 + 1 ≤ at986 + fa987 := h995
      have h996 : If (fa987 = 0) (K at779 = 41) := h996
      obtain rfl : v985 = none := hw984
      have hP : va_P G.1 pCl (mW G h0 a (upd (upd (upd (upd (upd (upd (upd F 15 (nI fa987)) 16 pl988) 27 (nI (nd + 1))) 31 (nI wr)) 64 (nI at986)) 65 (nI ne)) 66 (nI lk)) (updA X980 2 K)) _ := mW_to (F := F) (l1 := [(15, (nI fa780)), (16, pl781), (27, (nI (nd + 1))), (31, (nI wr)), (64, (nI at779)), (65, (nI ne)), (66, (nI lk)), (15, (nI fa987)), (16, pl988), (64, (nI at986))]) (l2 := [(15, (nI fa987)), (16, pl988), (27, (nI (nd + 1))), (31, (nI wr)), (64, (nI at986)), (65, (nI ne)), (66, (nI lk))]) (V := [(nI fa987), pl988, (nI (nd + 1)), (nI wr), (nI at986), (nI ne), (nI lk), (nI fa987), pl988, (nI at986), (nI fa987), pl988, (nI (nd + 1)), (nI wr), (nI at986), (nI ne), (nI lk)]) rfl rfl (show (updA (updA X980 2 K) 2 K) = (updA X980 2 K) from updsA_eq2 (F := X980) (l1 := [(2, K), (2, K)]) (l2 := [(2, K)]) (V := [K, K, K]) rfl rfl) hP
      have hD : va_D A (mW G h0 a (upd (upd (upd (upd (upd (upd (upd F 15 (nI fa987)) 16 pl988) 27 (nI (nd + 1))) 31 (nI wr)) 64 (nI at986)) 65 (nI ne)) 66 (nI lk)) (updA X980 2 K)) := mW_D hD
      refine W.widen (k := 0) (n := 0) (Nat.le_of_ble_eq_true rfl) (Nat.le_of_ble_eq_true rfl) ?_
      refine W.eq (g2 := F0 m 427 ls []) rfl ?_
      obtain ⟨n998, n997⟩ := h993 e790
      replace n998 := n998.symm
      subst n998
      replace n997 := n997.symm
      subst n997
      refine lv_aload_n hx hb dX12_statementOf_427 rfl (lv_at hl 2 rfl) ?_
      refine lv_bipush (v := 59) hx hb dX12_statementOf_428 (by decide) ?_
      have hP : va_P G.1 pCl (mW G h0 a (upd (upd (upd (upd (upd (upd (upd (upd (upd F 15 (nI fa780)) 16 pl988) 27 (nI (nd + 1))) 31 (nI wr)) 64 (nI at779)) 65 (nI ne)) 66 (nI lk)) 15 (nI fa780)) 64 (nI at779)) (updA (updA X980 2 K) 2 K)) _ := hP
      have hD : va_D A (mW G h0 a (upd (upd (upd (upd (upd (upd (upd (upd (upd F 15 (nI fa780)) 16 pl988) 27 (nI (nd + 1))) 31 (nI wr)) 64 (nI at779)) 65 (nI ne)) 66 (nI lk)) 15 (nI fa780)) 64 (nI at779)) (updA (updA X980 2 K) 2 K)) := mW_D hD
      refine pc_V0 (G := G) (As := [.int 59]) (rest := []) hx hb hml hown hq hE hX pX0_al hP hD hS hA hl.1 (R_take l G h0 a (upd (upd (upd (upd (upd (upd (upd F 15 (nI fa780)) 16 pl988) 27 (nI (nd + 1))) 31 (nI wr)) 64 (nI at779)) 65 (nI ne)) 66 (nI lk)) (updA X980 2 K) at779 T fa780 K 59 (by omega) (by omega) hK (by omega) (by decide) (by decide)) (gV pw_1614 pw_1615 pw_1616 pw_1523 pw_1601) hV_X12_take 0 9 rfl rfl rfl rfl (Nat.le_of_ble_eq_true rfl) dX12_statementOf_430 ⟨Nat.le_of_ble_eq_true rfl, Nat.le_of_ble_eq_true rfl⟩ ⟨(by show 4 + 1 ≤ (26 * n + 44); omega), (by show 8 + (2 + 11) + 103 ≤ (2000 * n + 4400); omega)⟩ (fun v1001 u999 H locs hw1000 hP hD hS => ?_)
      obtain ⟨at1002, fa1003, pl1004⟩ := u999
      obtain ⟨hw1000, h1005, h1006, h1007, h1008, h1009, h1010, h1011, h1012⟩ := hw1000
      have h1005 : at779 ≤ at1002 := h1005
      have h1006 : at1002 ≤ T := h1006
      have h1007 : fa780 ≤ fa1003 := h1007
      have h1008 : fa1003 ≤ 100 := h1008
      have h1009 : If (0 < fa780) (at1002 = at779 ∧ fa1003 = fa780) := h1009
      have h1010 : at1002 ≤ at779 + 1 := h1010
      have h1011 : at779 + 1 ≤ at1002 + fa1003 := h1011
      have h1012 : If (fa1003 = 0) (K at779 = 59) := h1012
      obtain rfl : v1001 = none := hw1000
      have hP : va_P G.1 pCl (mW G h0 a (upd (upd (upd (upd (upd (upd (upd F 15 (nI fa1003)) 16 pl1004) 27 (nI (nd + 1))) 31 (nI wr)) 64 (nI at1002)) 65 (nI ne)) 66 (nI lk)) (updA X980 2 K)) _ := mW_to (F := F) (l1 := [(15, (nI fa780)), (16, pl988), (27, (nI (nd + 1))), (31, (nI wr)), (64, (nI at779)), (65, (nI ne)), (66, (nI lk)), (15, (nI fa1003)), (16, pl1004), (64, (nI at1002))]) (l2 := [(15, (nI fa1003)), (16, pl1004), (27, (nI (nd + 1))), (31, (nI wr)), (64, (nI at1002)), (65, (nI ne)), (66, (nI lk))]) (V := [(nI fa1003), pl1004, (nI (nd + 1)), (nI wr), (nI at1002), (nI ne), (nI lk), (nI fa1003), pl1004, (nI at1002), (nI fa1003), pl1004, (nI (nd + 1)), (nI wr), (nI at1002), (nI ne), (nI lk)]) rfl rfl (show (updA (updA X980 2 K) 2 K) = (updA X980 2 K) from updsA_eq2 (F := X980) (l1 := [(2, K), (2, K)]) (l2 := [(2, K)]) (V := [K, K, K]) rfl rfl) hP
      have hD : va_D A (mW G h0 a (upd (upd (upd (upd (upd (upd (upd F 15 (nI fa1003)) 16 pl1004) 27 (nI (nd + 1))) 31 (nI wr)) 64 (nI at1002)) 65 (nI ne)) 66 (nI lk)) (updA X980 2 K)) := mW_D hD
      refine W.widen (k := 0) (n := 0) (Nat.le_of_ble_eq_true rfl) (Nat.le_of_ble_eq_true rfl) ?_
      refine W.eq (g2 := F0 m 433 ls []) rfl ?_
      obtain ⟨n1014, n1013⟩ := h1009 e790
      replace n1014 := n1014.symm
      subst n1014
      replace n1013 := n1013.symm
      subst n1013
      refine lv_iload_n hx hb dX12_statementOf_433 rfl (lv_at hl 0 rfl) ?_
      have hz1015 : at0 ≤ at779 := (by omega)
      have hz1016 : at779 ≤ T := (by omega)
      have hz1017 : fa780 ≤ 100 := (by omega)
      have hz1018 : nd ≤ (nd + 1) := (by omega)
      have hz1019 : (nd + 1) + 2 * at0 ≤ nd + 2 * at779 + 100000 * fa780 := (by omega)
      have hz1020 : (nd + 1) + 2 * at0 ≤ nd + 2 * at779 + (60 * (21 - ne) + 40) := (by omega)
      have hz1021 : wr ≤ wr := (by omega)
      have hz1022 : wr + at0 ≤ wr + at779 := (by omega)
      have hz1023 : lk ≤ lk := (by omega)
      have hz1024 : lk ≤ 60 + 100 * fa780 := (by omega)
      have hz1025 : at0 + 1 ≤ at779 + fa780 := (by omega)
      have hz1026 : nd ≤ (nd + 1) := (by omega)
      have hz1027 : Kp B X980 wr T := hkp982
      have hz1028 : If (fa780 = 0) (Low B X980 nd wr ∧ Frs K T wr X980 nd (nd + 1) 20000 [(nd, (280 + 4 * (21 - ne)))] ∧ kcl 3 (X980 9 nd) = true) := (fun e => absurd e (by omega))
      have hP : va_P G.1 pCl (mW G h0 a (upd (upd (upd (upd (upd (upd (upd F 15 (nI fa780)) 16 pl1004) 27 (nI (nd + 1))) 31 (nI wr)) 64 (nI at779)) 65 (nI ne)) 66 (nI lk)) (updA X980 2 K)) _ := hP
      have hD : va_D A (mW G h0 a (upd (upd (upd (upd (upd (upd (upd F 15 (nI fa780)) 16 pl1004) 27 (nI (nd + 1))) 31 (nI wr)) 64 (nI at779)) 65 (nI ne)) 66 (nI lk)) (updA X980 2 K)) := mW_D hD
      exact W.iret (v := (nI nd)) hx hb hr (fun t9 ht9 hW9 => ⟨⟨_, (at779, fa780, pl1004, (nd + 1), lk, wr, nd, X980), rfl, ⟨rfl, hz1015, hz1016, hz1017, hz1018, hz1019, hz1020, hz1021, hz1022, hz1023, hz1024, hz1025, hz1026, hz1027, hz1028⟩, by rw [ht9]; exact hP, hD⟩, hS.F ht9⟩) hS.2.2 dX12_statementOf_434
  by_cases h1029 : (K at0) = 331
  · refine lv_lookup (tgt := 255) (off := 246) hx hb dX12_statementOf_9 (by decide) (by rw [h1029]; decide) (by decide) ?_
    have n1030 : at0 < T := tk_lt hat hK h1029 (by decide) (by decide)
    refine lv_aload_n hx hb dX12_statementOf_255 rfl (lv_at hl 1 rfl) ?_
    refine lv_dup hx hb dX12_statementOf_256 rfl ?_
    refine r_get (v := .int (nI at0)) hx hb hown hq hE hP 64 343 tFX12_64 (by decide) pw_1592 rfl dX12_statementOf_257 ?_
    refine lv_iconst (v := 1) hx hb dX12_statementOf_260 (by decide) ?_
    refine lv_iadd hx hb dX12_statementOf_261 ?_
    refine lv_topi (fun x1031 e1032 => ?_)
    obtain rfl : x1031 = nI (at0 + 1) := e1032.trans (nI_add (at0) (1))
    refine r_put (v := (nI (at0 + 1))) (ty := .int) hx hb hown hq hE hP hD hS 64 343 tFX12_64 (by decide) pw_1592 (by decide) rfl rfl (ms_64 a _ _) dX12_statementOf_262 (fun H locs hP hD hS => ?_)
    refine lv_aload_n hx hb dX12_statementOf_265 rfl (lv_at hl 1 rfl) ?_
    refine lv_bipush (v := 37) hx hb dX12_statementOf_266 (by decide) ?_
    refine lv_iload_n hx hb dX12_statementOf_268 rfl (lv_at hl 0 rfl) ?_
    refine lv_iload_n hx hb dX12_statementOf_269 rfl (lv_at hl 0 rfl) ?_
    refine lv_iconst (v := (-1)) hx hb dX12_statementOf_270 (by decide) ?_
    refine lv_iconst (v := (-1)) hx hb dX12_statementOf_271 (by decide) ?_
    have hP : va_P G.1 pCl (mW G h0 a (upd (upd (upd (upd (upd (upd (upd F 15 0) 27 (nI nd)) 31 (nI wr)) 64 (nI (at0 + 1))) 65 (nI ne)) 66 (nI lk)) 27 (nI nd)) (updA B 2 K)) _ := mW_to (F := F) (l1 := [(15, 0), (27, (nI nd)), (31, (nI wr)), (64, (nI at0)), (65, (nI ne)), (66, (nI lk)), (64, (nI (at0 + 1)))]) (l2 := [(15, 0), (27, (nI nd)), (31, (nI wr)), (64, (nI (at0 + 1))), (65, (nI ne)), (66, (nI lk)), (27, (nI nd))]) (V := [0, (nI nd), (nI wr), (nI (at0 + 1)), (nI ne), (nI lk), (nI (at0 + 1)), 0, (nI nd), (nI wr), (nI (at0 + 1)), (nI ne), (nI lk), (nI nd)]) rfl rfl rfl hP
    have hD : va_D A (mW G h0 a (upd (upd (upd (upd (upd (upd (upd F 15 0) 27 (nI nd)) 31 (nI wr)) 64 (nI (at0 + 1))) 65 (nI ne)) 66 (nI lk)) 27 (nI nd)) (updA B 2 K)) := mW_D hD
    refine pc_V0 (G := G) (As := [.int 37, .int (nI at0), .int (nI at0), .int (-1), .int (-1)]) (rest := []) hx hb hml hown hq hE hX pX0_al hP hD hS hA hl.1 (R_nodeB l G h0 a (upd (upd (upd (upd (upd (upd F 15 0) 27 (nI nd)) 31 (nI wr)) 64 (nI (at0 + 1))) 65 (nI ne)) 66 (nI lk)) B 37 (nI at0) (nI at0) (-1) (-1) nd K (by omega)) (gV pw_1650 pw_1651 pw_1652 pw_1523 pw_1589) hV_X12_node 0 9 rfl rfl rfl rfl (Nat.le_of_ble_eq_true rfl) dX12_statementOf_272 ⟨Nat.le_of_ble_eq_true rfl, Nat.le_of_ble_eq_true rfl⟩ ⟨(by show 2 + 1 ≤ (26 * n + 44); omega), (by show 8 + (7 + 11) + 60 ≤ (2000 * n + 4400); omega)⟩ (fun v1035 u1033 H locs hw1034 hP hD hS => ?_)
    obtain ⟨X1036, rfl⟩ : ∃ z, z = u1033 := ⟨_, rfl⟩
    obtain ⟨hw1034, h1037⟩ := hw1034
    have h1037 : NewN B X1036 nd 37 (nI at0) (nI at0) (-1) (-1) := h1037
    obtain rfl : v1035 = some (.int (nI nd)) := hw1034
    have hP : va_P G.1 pCl (mW G h0 a (upd (upd (upd (upd (upd (upd F 15 0) 27 (nI (nd + 1))) 31 (nI wr)) 64 (nI (at0 + 1))) 65 (nI ne)) 66 (nI lk)) (updA X1036 2 K)) _ := mW_to (F := F) (l1 := [(15, 0), (27, (nI nd)), (31, (nI wr)), (64, (nI (at0 + 1))), (65, (nI ne)), (66, (nI lk)), (27, (nI (nd + 1)))]) (l2 := [(15, 0), (27, (nI (nd + 1))), (31, (nI wr)), (64, (nI (at0 + 1))), (65, (nI ne)), (66, (nI lk))]) (V := [0, (nI (nd + 1)), (nI wr), (nI (at0 + 1)), (nI ne), (nI lk), (nI (nd + 1)), 0, (nI (nd + 1)), (nI wr), (nI (at0 + 1)), (nI ne), (nI lk)]) rfl rfl rfl hP
    have hD : va_D A (mW G h0 a (upd (upd (upd (upd (upd (upd F 15 0) 27 (nI (nd + 1))) 31 (nI wr)) 64 (nI (at0 + 1))) 65 (nI ne)) 66 (nI lk)) (updA X1036 2 K)) := mW_D hD
    refine W.widen (k := 0) (n := 0) (Nat.le_of_ble_eq_true rfl) (Nat.le_of_ble_eq_true rfl) ?_
    refine W.eq (g2 := F0 m 275 ls [.int (nI nd)]) rfl ?_
    have hkp1038 : Kp B X1036 wr T := (Kp.new hkp1 h1037)
    have hlo1039 : Low B X1036 nd wr := (Low.new hlo2 h1037 (by omega))
    have hf1040 : Frs K T wr X1036 nd (nd + 1) nd [(nd, 0)] := (Frs.new0 (k := 37) Frs.nil (Nat.le_refl _) (Nat.le_refl _) h1037 rfl (by decide) (by decide) (by omega) (by omega) (fun e => absurd e (by decide)) (newOK.m1 (by decide)) (newOK.m1 (by decide)) (newOK.m1 (by decide)) (newOK.m1 (by decide)))
    have hn1041 : Nd X1036 nd 37 (-1) (-1) (-1) (-1) := (NewN.toNd h1037)
    have hf1042 : Frs K T wr X1036 nd (nd + 1) 20000 [(nd, 0)] := (Frs.fin (k := 37) hf1040 hn1041 rfl (by decide) (fun h => absurd h (by decide)) (fun h => absurd h (by decide)) (fun h => absurd h (by decide)) (fun h => absurd h (by decide)))
    refine lv_istore_n (lv' := [(2, .int (nI nd)), (1, .int (nI at0)), (0, .ref h0)]) hx hb dX12_statementOf_275 rfl hl (by decide) rfl (fun ls hl => ?_)
    refine lv_aload_n hx hb dX12_statementOf_276 rfl (lv_at hl 2 rfl) ?_
    refine r_get (v := .int 0) hx hb hown hq hE hP 15 350 tFX12_15 (by decide) pw_1594 rfl dX12_statementOf_277 ?_
    refine lv_if_ne (tgt := 302) hx hb dX12_statementOf_280 (by decide) (fun c1043 => absurd c1043 (by decide)) (fun c1043 => ?_)
    refine lv_aload_n hx hb dX12_statementOf_283 rfl (lv_at hl 2 rfl) ?_
    have hP : va_P G.1 pCl (mW G h0 a (upd (upd (upd (upd (upd (upd (upd (upd F 15 0) 27 (nI (nd + 1))) 31 (nI wr)) 64 (nI (at0 + 1))) 65 (nI ne)) 66 (nI lk)) 15 (nI 0)) 64 (nI (at0 + 1))) (updA (updA X1036 2 K) 2 K)) _ := mW_to (F := F) (l1 := [(15, 0), (27, (nI (nd + 1))), (31, (nI wr)), (64, (nI (at0 + 1))), (65, (nI ne)), (66, (nI lk))]) (l2 := [(15, 0), (27, (nI (nd + 1))), (31, (nI wr)), (64, (nI (at0 + 1))), (65, (nI ne)), (66, (nI lk)), (15, (nI 0)), (64, (nI (at0 + 1)))]) (V := [(nI 0), (nI (nd + 1)), (nI wr), (nI (at0 + 1)), (nI ne), (nI lk), (nI 0), (nI (nd + 1)), (nI wr), (nI (at0 + 1)), (nI ne), (nI lk), (nI 0), (nI (at0 + 1))]) rfl rfl (show (updA X1036 2 K) = (updA (updA X1036 2 K) 2 K) from updsA_eq2 (F := X1036) (l1 := [(2, K)]) (l2 := [(2, K), (2, K)]) (V := [K, K, K]) rfl rfl) hP
    have hD : va_D A (mW G h0 a (upd (upd (upd (upd (upd (upd (upd (upd F 15 0) 27 (nI (nd + 1))) 31 (nI wr)) 64 (nI (at0 + 1))) 65 (nI ne)) 66 (nI lk)) 15 (nI 0)) 64 (nI (at0 + 1))) (updA (updA X1036 2 K) 2 K)) := mW_D hD
    refine pc_V0 (G := G) (As := []) (rest := []) hx hb hml hown hq hE hX pX0_al hP hD hS hA hl.1 (R_kind l G h0 a (upd (upd (upd (upd (upd (upd F 15 0) 27 (nI (nd + 1))) 31 (nI wr)) 64 (nI (at0 + 1))) 65 (nI ne)) 66 (nI lk)) (updA X1036 2 K) (at0 + 1) T 0 K (by omega) (by omega) hK (by omega)) (gV pw_1626 pw_1627 pw_1628 pw_1523 pw_1591) hV_X12_kind 0 9 rfl rfl rfl rfl (Nat.le_of_ble_eq_true rfl) dX12_statementOf_284 ⟨Nat.le_of_ble_eq_true rfl, Nat.le_of_ble_eq_true rfl⟩ ⟨(by show 2 + 1 ≤ (26 * n + 44); omega), (by show 8 + (1 + 11) + 60 ≤ (2000 * n + 4400); omega)⟩ (fun v1046 u1044 H locs hw1045 hP hD hS => ?_)
    obtain rfl : v1046 = some (.int (K (at0 + 1))) := hw1045
    have hP : va_P G.1 pCl (mW G h0 a (upd (upd (upd (upd (upd (upd F 15 0) 27 (nI (nd + 1))) 31 (nI wr)) 64 (nI (at0 + 1))) 65 (nI ne)) 66 (nI lk)) (updA X1036 2 K)) _ := mW_to (F := F) (l1 := [(15, 0), (27, (nI (nd + 1))), (31, (nI wr)), (64, (nI (at0 + 1))), (65, (nI ne)), (66, (nI lk)), (15, (nI 0)), (64, (nI (at0 + 1)))]) (l2 := [(15, 0), (27, (nI (nd + 1))), (31, (nI wr)), (64, (nI (at0 + 1))), (65, (nI ne)), (66, (nI lk))]) (V := [0, (nI (nd + 1)), (nI wr), (nI (at0 + 1)), (nI ne), (nI lk), 0, (nI (at0 + 1)), 0, (nI (nd + 1)), (nI wr), (nI (at0 + 1)), (nI ne), (nI lk)]) rfl rfl (show (updA (updA X1036 2 K) 2 K) = (updA X1036 2 K) from updsA_eq2 (F := X1036) (l1 := [(2, K), (2, K)]) (l2 := [(2, K)]) (V := [K, K, K]) rfl rfl) hP
    have hD : va_D A (mW G h0 a (upd (upd (upd (upd (upd (upd F 15 0) 27 (nI (nd + 1))) 31 (nI wr)) 64 (nI (at0 + 1))) 65 (nI ne)) 66 (nI lk)) (updA X1036 2 K)) := mW_D hD
    refine W.widen (k := 0) (n := 0) (Nat.le_of_ble_eq_true rfl) (Nat.le_of_ble_eq_true rfl) ?_
    refine W.eq (g2 := F0 m 287 ls [.int (K (at0 + 1))]) rfl ?_
    refine lv_bipush (v := 59) hx hb dX12_statementOf_287 (by decide) ?_
    refine lv_icmp_eq (tgt := 302) hx hb dX12_statementOf_289 (by decide) (fun c1047 => ?_) (fun c1047 => ?_)
    · refine lv_aload_n hx hb dX12_statementOf_302 rfl (lv_at hl 2 rfl) ?_
      refine lv_bipush (v := 59) hx hb dX12_statementOf_303 (by decide) ?_
      have hP : va_P G.1 pCl (mW G h0 a (upd (upd (upd (upd (upd (upd (upd (upd F 15 0) 27 (nI (nd + 1))) 31 (nI wr)) 64 (nI (at0 + 1))) 65 (nI ne)) 66 (nI lk)) 15 (nI 0)) 64 (nI (at0 + 1))) (updA (updA X1036 2 K) 2 K)) _ := mW_to (F := F) (l1 := [(15, 0), (27, (nI (nd + 1))), (31, (nI wr)), (64, (nI (at0 + 1))), (65, (nI ne)), (66, (nI lk))]) (l2 := [(15, 0), (27, (nI (nd + 1))), (31, (nI wr)), (64, (nI (at0 + 1))), (65, (nI ne)), (66, (nI lk)), (15, (nI 0)), (64, (nI (at0 + 1)))]) (V := [(nI 0), (nI (nd + 1)), (nI wr), (nI (at0 + 1)), (nI ne), (nI lk), (nI 0), (nI (nd + 1)), (nI wr), (nI (at0 + 1)), (nI ne), (nI lk), (nI 0), (nI (at0 + 1))]) rfl rfl (show (updA X1036 2 K) = (updA (updA X1036 2 K) 2 K) from updsA_eq2 (F := X1036) (l1 := [(2, K)]) (l2 := [(2, K), (2, K)]) (V := [K, K, K]) rfl rfl) hP
      have hD : va_D A (mW G h0 a (upd (upd (upd (upd (upd (upd (upd (upd F 15 0) 27 (nI (nd + 1))) 31 (nI wr)) 64 (nI (at0 + 1))) 65 (nI ne)) 66 (nI lk)) 15 (nI 0)) 64 (nI (at0 + 1))) (updA (updA X1036 2 K) 2 K)) := mW_D hD
      refine pc_V0 (G := G) (As := [.int 59]) (rest := []) hx hb hml hown hq hE hX pX0_al hP hD hS hA hl.1 (R_take l G h0 a (upd (upd (upd (upd (upd (upd F 15 0) 27 (nI (nd + 1))) 31 (nI wr)) 64 (nI (at0 + 1))) 65 (nI ne)) 66 (nI lk)) (updA X1036 2 K) (at0 + 1) T 0 K 59 (by omega) (by omega) hK (by omega) (by decide) (by decide)) (gV pw_1614 pw_1615 pw_1616 pw_1523 pw_1601) hV_X12_take 0 9 rfl rfl rfl rfl (Nat.le_of_ble_eq_true rfl) dX12_statementOf_305 ⟨Nat.le_of_ble_eq_true rfl, Nat.le_of_ble_eq_true rfl⟩ ⟨(by show 4 + 1 ≤ (26 * n + 44); omega), (by show 8 + (2 + 11) + 103 ≤ (2000 * n + 4400); omega)⟩ (fun v1050 u1048 H locs hw1049 hP hD hS => ?_)
      obtain ⟨at1051, fa1052, pl1053⟩ := u1048
      obtain ⟨hw1049, h1054, h1055, h1056, h1057, h1058, h1059, h1060, h1061⟩ := hw1049
      have h1054 : (at0 + 1) ≤ at1051 := h1054
      have h1055 : at1051 ≤ T := h1055
      have h1056 : 0 ≤ fa1052 := h1056
      have h1057 : fa1052 ≤ 100 := h1057
      have h1058 : If (0 < 0) (at1051 = (at0 + 1) ∧ fa1052 = 0) := h1058
      have h1059 : at1051 ≤ (at0 + 1) + 1 := h1059
      have h1060 : (at0 + 1) + 1 ≤ at1051 + fa1052 := h1060
      have h1061 : If (fa1052 = 0) (K (at0 + 1) = 59) := h1061
      obtain rfl : v1050 = none := hw1049
      have hP : va_P G.1 pCl (mW G h0 a (upd (upd (upd (upd (upd (upd (upd F 15 (nI fa1052)) 16 pl1053) 27 (nI (nd + 1))) 31 (nI wr)) 64 (nI at1051)) 65 (nI ne)) 66 (nI lk)) (updA X1036 2 K)) _ := mW_to (F := F) (l1 := [(15, 0), (27, (nI (nd + 1))), (31, (nI wr)), (64, (nI (at0 + 1))), (65, (nI ne)), (66, (nI lk)), (15, (nI fa1052)), (16, pl1053), (64, (nI at1051))]) (l2 := [(15, (nI fa1052)), (16, pl1053), (27, (nI (nd + 1))), (31, (nI wr)), (64, (nI at1051)), (65, (nI ne)), (66, (nI lk))]) (V := [(nI fa1052), (nI (nd + 1)), (nI wr), (nI at1051), (nI ne), (nI lk), (nI fa1052), pl1053, (nI at1051), (nI fa1052), pl1053, (nI (nd + 1)), (nI wr), (nI at1051), (nI ne), (nI lk)]) rfl rfl (show (updA (updA X1036 2 K) 2 K) = (updA X1036 2 K) from updsA_eq2 (F := X1036) (l1 := [(2, K), (2, K)]) (l2 := [(2, K)]) (V := [K, K, K]) rfl rfl) hP
      have hD : va_D A (mW G h0 a (upd (upd (upd (upd (upd (upd (upd F 15 (nI fa1052)) 16 pl1053) 27 (nI (nd + 1))) 31 (nI wr)) 64 (nI at1051)) 65 (nI ne)) 66 (nI lk)) (updA X1036 2 K)) := mW_D hD
      refine W.widen (k := 0) (n := 0) (Nat.le_of_ble_eq_true rfl) (Nat.le_of_ble_eq_true rfl) ?_
      refine W.eq (g2 := F0 m 308 ls []) rfl ?_
      rcases Nat.eq_zero_or_pos fa1052 with e1062 | e1062
      · subst e1062
        have hP : va_P G.1 pCl (mW G h0 a (upd (upd (upd (upd (upd (upd (upd F 15 0) 16 pl1053) 27 (nI (nd + 1))) 31 (nI wr)) 64 (nI at1051)) 65 (nI ne)) 66 (nI lk)) (updA X1036 2 K)) _ := hP
        have hD : va_D A (mW G h0 a (upd (upd (upd (upd (upd (upd (upd F 15 0) 16 pl1053) 27 (nI (nd + 1))) 31 (nI wr)) 64 (nI at1051)) 65 (nI ne)) 66 (nI lk)) (updA X1036 2 K)) := mW_D hD
        refine lv_iload_n hx hb dX12_statementOf_308 rfl (lv_at hl 0 rfl) ?_
        have hz1063 : at0 ≤ at1051 := (by omega)
        have hz1064 : at1051 ≤ T := (by omega)
        have hz1065 : 0 ≤ 100 := (by omega)
        have hz1066 : nd ≤ (nd + 1) := (by omega)
        have hz1067 : (nd + 1) + 2 * at0 ≤ nd + 2 * at1051 + 100000 * 0 := (by omega)
        have hz1068 : (nd + 1) + 2 * at0 ≤ nd + 2 * at1051 + (60 * (21 - ne) + 40) := (by omega)
        have hz1069 : wr ≤ wr := (by omega)
        have hz1070 : wr + at0 ≤ wr + at1051 := (by omega)
        have hz1071 : lk ≤ lk := (by omega)
        have hz1072 : lk ≤ 60 + 100 * 0 := (by omega)
        have hz1073 : at0 + 1 ≤ at1051 + 0 := (by omega)
        have hz1074 : nd ≤ (nd + 1) := (by omega)
        have hz1075 : Kp B X1036 wr T := hkp1038
        have hz1076 : If (0 = 0) (Low B X1036 nd wr ∧ Frs K T wr X1036 nd (nd + 1) 20000 [(nd, (280 + 4 * (21 - ne)))] ∧ kcl 3 (X1036 9 nd) = true) := (fun _ => ⟨hlo1039, Frs.up hf1042 (by omega), (by rw [hn1041.1]; decide)⟩)
        have hP : va_P G.1 pCl (mW G h0 a (upd (upd (upd (upd (upd (upd (upd F 15 (nI 0)) 16 pl1053) 27 (nI (nd + 1))) 31 (nI wr)) 64 (nI at1051)) 65 (nI ne)) 66 (nI lk)) (updA X1036 2 K)) _ := mW_to (F := F) (l1 := [(15, 0), (16, pl1053), (27, (nI (nd + 1))), (31, (nI wr)), (64, (nI at1051)), (65, (nI ne)), (66, (nI lk))]) (l2 := [(15, (nI 0)), (16, pl1053), (27, (nI (nd + 1))), (31, (nI wr)), (64, (nI at1051)), (65, (nI ne)), (66, (nI lk))]) (V := [(nI 0), pl1053, (nI (nd + 1)), (nI wr), (nI at1051), (nI ne), (nI lk), (nI 0), pl1053, (nI (nd + 1)), (nI wr), (nI at1051), (nI ne), (nI lk)]) rfl rfl rfl hP
        have hD : va_D A (mW G h0 a (upd (upd (upd (upd (upd (upd (upd F 15 (nI 0)) 16 pl1053) 27 (nI (nd + 1))) 31 (nI wr)) 64 (nI at1051)) 65 (nI ne)) 66 (nI lk)) (updA X1036 2 K)) := mW_D hD
        exact W.iret (v := (nI nd)) hx hb hr (fun t9 ht9 hW9 => ⟨⟨_, (at1051, 0, pl1053, (nd + 1), lk, wr, nd, X1036), rfl, ⟨rfl, hz1063, hz1064, hz1065, hz1066, hz1067, hz1068, hz1069, hz1070, hz1071, hz1072, hz1073, hz1074, hz1075, hz1076⟩, by rw [ht9]; exact hP, hD⟩, hS.F ht9⟩) hS.2.2 dX12_statementOf_309
      · have e1062 := e1062
        refine lv_iload_n hx hb dX12_statementOf_308 rfl (lv_at hl 0 rfl) ?_
        have hz1077 : at0 ≤ at1051 := (by omega)
        have hz1078 : at1051 ≤ T := (by omega)
        have hz1079 : fa1052 ≤ 100 := (by omega)
        have hz1080 : nd ≤ (nd + 1) := (by omega)
        have hz1081 : (nd + 1) + 2 * at0 ≤ nd + 2 * at1051 + 100000 * fa1052 := (by omega)
        have hz1082 : (nd + 1) + 2 * at0 ≤ nd + 2 * at1051 + (60 * (21 - ne) + 40) := (by omega)
        have hz1083 : wr ≤ wr := (by omega)
        have hz1084 : wr + at0 ≤ wr + at1051 := (by omega)
        have hz1085 : lk ≤ lk := (by omega)
        have hz1086 : lk ≤ 60 + 100 * fa1052 := (by omega)
        have hz1087 : at0 + 1 ≤ at1051 + fa1052 := (by omega)
        have hz1088 : nd ≤ (nd + 1) := (by omega)
        have hz1089 : Kp B X1036 wr T := hkp1038
        have hz1090 : If (fa1052 = 0) (Low B X1036 nd wr ∧ Frs K T wr X1036 nd (nd + 1) 20000 [(nd, (280 + 4 * (21 - ne)))] ∧ kcl 3 (X1036 9 nd) = true) := (fun e => absurd e (by omega))
        have hP : va_P G.1 pCl (mW G h0 a (upd (upd (upd (upd (upd (upd (upd F 15 (nI fa1052)) 16 pl1053) 27 (nI (nd + 1))) 31 (nI wr)) 64 (nI at1051)) 65 (nI ne)) 66 (nI lk)) (updA X1036 2 K)) _ := hP
        have hD : va_D A (mW G h0 a (upd (upd (upd (upd (upd (upd (upd F 15 (nI fa1052)) 16 pl1053) 27 (nI (nd + 1))) 31 (nI wr)) 64 (nI at1051)) 65 (nI ne)) 66 (nI lk)) (updA X1036 2 K)) := mW_D hD
        exact W.iret (v := (nI nd)) hx hb hr (fun t9 ht9 hW9 => ⟨⟨_, (at1051, fa1052, pl1053, (nd + 1), lk, wr, nd, X1036), rfl, ⟨rfl, hz1077, hz1078, hz1079, hz1080, hz1081, hz1082, hz1083, hz1084, hz1085, hz1086, hz1087, hz1088, hz1089, hz1090⟩, by rw [ht9]; exact hP, hD⟩, hS.F ht9⟩) hS.2.2 dX12_statementOf_309
    · refine lv_aload_n hx hb dX12_statementOf_292 rfl (lv_at hl 2 rfl) ?_
      refine r_get (v := .ref (a 12)) hx hb hown hq hE hP 20 47 tFX12_20 (by decide) pw_1442 rfl dX12_statementOf_293 ?_
      refine lv_iload_n hx hb dX12_statementOf_296 rfl (lv_at hl 0 rfl) ?_
      refine lv_aload_n hx hb dX12_statementOf_297 rfl (lv_at hl 2 rfl) ?_
      have hP : va_P G.1 pCl (mW G h0 a (upd (upd (upd (upd (upd (upd (upd (upd (upd (upd (upd (upd F 15 0) 27 (nI (nd + 1))) 31 (nI wr)) 64 (nI (at0 + 1))) 65 (nI ne)) 66 (nI lk)) 15 0) 27 (nI (nd + 1))) 31 (nI wr)) 64 (nI (at0 + 1))) 65 (nI ne)) 66 (nI lk)) (updA X1036 2 K)) _ := mW_to (F := F) (l1 := [(15, 0), (27, (nI (nd + 1))), (31, (nI wr)), (64, (nI (at0 + 1))), (65, (nI ne)), (66, (nI lk))]) (l2 := [(15, 0), (27, (nI (nd + 1))), (31, (nI wr)), (64, (nI (at0 + 1))), (65, (nI ne)), (66, (nI lk)), (15, 0), (27, (nI (nd + 1))), (31, (nI wr)), (64, (nI (at0 + 1))), (65, (nI ne)), (66, (nI lk))]) (V := [0, (nI (nd + 1)), (nI wr), (nI (at0 + 1)), (nI ne), (nI lk), 0, (nI (nd + 1)), (nI wr), (nI (at0 + 1)), (nI ne), (nI lk), 0, (nI (nd + 1)), (nI wr), (nI (at0 + 1)), (nI ne), (nI lk)]) rfl rfl rfl hP
      have hD : va_D A (mW G h0 a (upd (upd (upd (upd (upd (upd (upd (upd (upd (upd (upd (upd F 15 0) 27 (nI (nd + 1))) 31 (nI wr)) 64 (nI (at0 + 1))) 65 (nI ne)) 66 (nI lk)) 15 0) 27 (nI (nd + 1))) 31 (nI wr)) 64 (nI (at0 + 1))) 65 (nI ne)) 66 (nI lk)) (updA X1036 2 K)) := mW_D hD
      refine pc_V0 (G := G) (As := []) (rest := [.int (nI nd), .ref (a 12)]) hx hb hml hown hq hE hX pX0_al hP hD hS hA hl.1 (hEc h0 a (upd (upd (upd (upd (upd (upd F 15 0) 27 (nI (nd + 1))) 31 (nI wr)) 64 (nI (at0 + 1))) 65 (nI ne)) 66 (nI lk)) X1036 (at0 + 1) T ne (nd + 1) wr lk K (by omega) (by omega) hK (by omega) (by omega) (by omega) (by omega) (hkp1038).2 (by omega)) (gV pw_1640 pw_1641 pw_1642 pw_1523 pw_1656) hV_X12_choice 0 9 rfl rfl rfl rfl (Nat.le_of_ble_eq_true rfl) dX12_statementOf_298 ⟨Nat.le_of_ble_eq_true rfl, Nat.le_of_ble_eq_true rfl⟩ ⟨(by show (20 * n + 27) + 1 ≤ (26 * n + 44); omega), (by show 8 + (4 + 11) + (1000 * n + 40 * 27) ≤ (2000 * n + 4400); omega)⟩ (fun v1093 u1091 H locs hw1092 hP hD hS => ?_)
      obtain ⟨at1094, fa1095, pl1096, nd1097, lk1098, wr1099, r1100, X1101⟩ := u1091
      obtain ⟨hw1092, h1102, h1103, h1104, h1105, h1106, h1107, h1108, h1109, h1110, h1111, h1112, h1113, h1114, h1115⟩ := hw1092
      have h1102 : (at0 + 1) ≤ at1094 := h1102
      have h1103 : at1094 ≤ T := h1103
      have h1104 : fa1095 ≤ 100 := h1104
      have h1105 : (nd + 1) ≤ nd1097 := h1105
      have h1106 : nd1097 + 2 * (at0 + 1) ≤ (nd + 1) + 2 * at1094 + 100000 * fa1095 := h1106
      have h1107 : nd1097 + 2 * (at0 + 1) ≤ (nd + 1) + 2 * at1094 + 40 * (21 - ne) := h1107
      have h1108 : wr ≤ wr1099 := h1108
      have h1109 : wr1099 + (at0 + 1) ≤ wr + at1094 := h1109
      have h1110 : lk ≤ lk1098 := h1110
      have h1111 : lk1098 ≤ 60 + 100 * fa1095 := h1111
      have h1112 : (at0 + 1) + 1 ≤ at1094 + fa1095 := h1112
      have h1113 : r1100 ≤ nd1097 := h1113
      have h1114 : Kp X1036 X1101 wr1099 T := h1114
      have h1115 : If (fa1095 = 0) (Low X1036 X1101 (nd + 1) wr ∧ Frs K T wr1099 X1101 (nd + 1) nd1097 20000 [(r1100, (211 + lk1098 - (10 * ne + lk)))] ∧ kcl 1 (X1101 9 r1100) = true) := h1115
      obtain rfl : v1093 = some (.int (nI r1100)) := hw1092
      have hP : va_P G.1 pCl (mW G h0 a (upd (upd (upd (upd (upd (upd (upd F 15 (nI fa1095)) 16 pl1096) 27 (nI nd1097)) 31 (nI wr1099)) 64 (nI at1094)) 65 (nI ne)) 66 (nI lk1098)) (updA X1101 2 K)) _ := mW_to (F := F) (l1 := [(15, 0), (27, (nI (nd + 1))), (31, (nI wr)), (64, (nI (at0 + 1))), (65, (nI ne)), (66, (nI lk)), (15, (nI fa1095)), (16, pl1096), (27, (nI nd1097)), (31, (nI wr1099)), (64, (nI at1094)), (65, (nI ne)), (66, (nI lk1098))]) (l2 := [(15, (nI fa1095)), (16, pl1096), (27, (nI nd1097)), (31, (nI wr1099)), (64, (nI at1094)), (65, (nI ne)), (66, (nI lk1098))]) (V := [(nI fa1095), (nI nd1097), (nI wr1099), (nI at1094), (nI ne), (nI lk1098), (nI fa1095), pl1096, (nI nd1097), (nI wr1099), (nI at1094), (nI ne), (nI lk1098), (nI fa1095), pl1096, (nI nd1097), (nI wr1099), (nI at1094), (nI ne), (nI lk1098)]) rfl rfl rfl hP
      have hD : va_D A (mW G h0 a (upd (upd (upd (upd (upd (upd (upd F 15 (nI fa1095)) 16 pl1096) 27 (nI nd1097)) 31 (nI wr1099)) 64 (nI at1094)) 65 (nI ne)) 66 (nI lk1098)) (updA X1101 2 K)) := mW_D hD
      refine W.widen (k := 0) (n := 0) (Nat.le_of_ble_eq_true rfl) (Nat.le_of_ble_eq_true rfl) ?_
      refine W.eq (g2 := F0 m 301 ls [.int (nI r1100), .int (nI nd), .ref (a 12)]) rfl ?_
      have hkp1116 : Kp B X1101 wr1099 T := (Kp.trans hkp1038 h1114)
      rcases Nat.eq_zero_or_pos fa1095 with e1117 | e1117
      · subst e1117
        have hP : va_P G.1 pCl (mW G h0 a (upd (upd (upd (upd (upd (upd (upd F 15 0) 16 pl1096) 27 (nI nd1097)) 31 (nI wr1099)) 64 (nI at1094)) 65 (nI ne)) 66 (nI lk1098)) (updA X1101 2 K)) _ := hP
        have hD : va_D A (mW G h0 a (upd (upd (upd (upd (upd (upd (upd F 15 0) 16 pl1096) 27 (nI nd1097)) 31 (nI wr1099)) 64 (nI at1094)) 65 (nI ne)) 66 (nI lk1098)) (updA X1101 2 K)) := mW_D hD
        obtain ⟨hlw1118, hf1119, hc1120⟩ := h1115 rfl
        have hlo1121 : Low B X1101 nd wr := (Low.trans hlo1039 hlw1118 (by omega) (by omega))
        have hf1122 : Frs K T wr1099 X1101 nd (nd + 1) 20000 [(nd, 0)] := (Frs.same hf1042 (by omega) (fun j i q1 q2 q3 q4 => (hlw1118.1 j i q1 (by omega) (by omega))))
        have hn1123 : Nd X1101 nd 37 (-1) (-1) (-1) (-1) := (Nd.low hn1041 hlw1118 (by omega))
        have hm1124 := Frs.mem hf1119
        refine r_sti (f := (X1101 12)) (j := nd) hx hb hE hP hD hS 12 (ma_12 G a _) rfl (mas_12 G a _) (by omega) (by decide) dX12_statementOf_301 (fun H locs hP hD hS => ?_)
        have hP : va_P G.1 pCl (mW G h0 a (upd (upd (upd (upd (upd (upd (upd F 15 0) 16 pl1096) 27 (nI nd1097)) 31 (nI wr1099)) 64 (nI at1094)) 65 (nI ne)) 66 (nI lk1098)) (updA (stR X1101 12 nd (nI r1100)) 2 K)) _ := mW_to (F := F) (l1 := [(15, 0), (16, pl1096), (27, (nI nd1097)), (31, (nI wr1099)), (64, (nI at1094)), (65, (nI ne)), (66, (nI lk1098))]) (l2 := [(15, 0), (16, pl1096), (27, (nI nd1097)), (31, (nI wr1099)), (64, (nI at1094)), (65, (nI ne)), (66, (nI lk1098))]) (V := [0, pl1096, (nI nd1097), (nI wr1099), (nI at1094), (nI ne), (nI lk1098), 0, pl1096, (nI nd1097), (nI wr1099), (nI at1094), (nI ne), (nI lk1098)]) rfl rfl (show (updA (updA X1101 2 K) 12 (upd (X1101 12) nd (nI r1100))) = (updA (stR X1101 12 nd (nI r1100)) 2 K) from updsA_eq2 (F := X1101) (l1 := [(2, K), (12, (upd (X1101 12) nd (nI r1100)))]) (l2 := [(12, (upd (X1101 12) nd (nI r1100))), (2, K)]) (V := [K, (upd (X1101 12) nd (nI r1100)), (upd (X1101 12) nd (nI r1100)), K]) rfl rfl) hP
        have hD : va_D A (mW G h0 a (upd (upd (upd (upd (upd (upd (upd F 15 0) 16 pl1096) 27 (nI nd1097)) 31 (nI wr1099)) 64 (nI at1094)) 65 (nI ne)) 66 (nI lk1098)) (updA (stR X1101 12 nd (nI r1100)) 2 K)) := mW_D hD
        have hkp1125 : Kp B (stR X1101 12 nd (nI r1100)) wr1099 T := (Kp.row hkp1116 (by omega))
        have hlo1126 : Low B (stR X1101 12 nd (nI r1100)) nd wr := (Low.st hlo1121 (by omega) (by omega))
        have hf1127 : Frs K T wr1099 X1101 nd nd1097 20000 [(nd, 0), (r1100, (211 + lk1098 - (10 * ne + lk)))] := (Frs.join hf1122 hf1119 (by omega) (by omega) (by omega))
        have hn1128 : Nd (stR X1101 12 nd (nI r1100)) nd 37 (nI r1100) (-1) (-1) (-1) := (Nd.st hn1123 (by omega))
        have hc1129 : kcl 1 ((stR X1101 12 nd (nI r1100)) 9 r1100) = true := by rw [st_ne (by omega)]; exact hc1120
        have hf1130 : Frs K T wr1099 (stR X1101 12 nd (nI r1100)) nd nd1097 20000 [(nd, (280 + 4 * (21 - ne)))] := (Frs.set (s := 1) (k := 37) hf1127 (by omega) (by omega) (by simp) (by omega) (by omega) hn1123.2.1 hn1123.1 (by decide) ⟨by decide, by decide, by decide, hc1120, fun h => absurd h (by decide)⟩ (by omega) (by omega) (by decide) (fun h1 h2 => by omega))
        refine lv_aload_n hx hb dX12_statementOf_302 rfl (lv_at hl 2 rfl) ?_
        refine lv_bipush (v := 59) hx hb dX12_statementOf_303 (by decide) ?_
        have hP : va_P G.1 pCl (mW G h0 a (upd (upd (upd (upd (upd (upd (upd (upd (upd F 15 0) 16 pl1096) 27 (nI nd1097)) 31 (nI wr1099)) 64 (nI at1094)) 65 (nI ne)) 66 (nI lk1098)) 15 (nI 0)) 64 (nI at1094)) (updA (updA (stR X1101 12 nd (nI r1100)) 2 K) 2 K)) _ := mW_to (F := F) (l1 := [(15, 0), (16, pl1096), (27, (nI nd1097)), (31, (nI wr1099)), (64, (nI at1094)), (65, (nI ne)), (66, (nI lk1098))]) (l2 := [(15, 0), (16, pl1096), (27, (nI nd1097)), (31, (nI wr1099)), (64, (nI at1094)), (65, (nI ne)), (66, (nI lk1098)), (15, (nI 0)), (64, (nI at1094))]) (V := [(nI 0), pl1096, (nI nd1097), (nI wr1099), (nI at1094), (nI ne), (nI lk1098), (nI 0), pl1096, (nI nd1097), (nI wr1099), (nI at1094), (nI ne), (nI lk1098), (nI 0), (nI at1094)]) rfl rfl (show (updA (stR X1101 12 nd (nI r1100)) 2 K) = (updA (updA (stR X1101 12 nd (nI r1100)) 2 K) 2 K) from updsA_eq2 (F := X1101) (l1 := [(12, (upd (X1101 12) nd (nI r1100))), (2, K)]) (l2 := [(12, (upd (X1101 12) nd (nI r1100))), (2, K), (2, K)]) (V := [(upd (X1101 12) nd (nI r1100)), K, (upd (X1101 12) nd (nI r1100)), K, K]) rfl rfl) hP
        have hD : va_D A (mW G h0 a (upd (upd (upd (upd (upd (upd (upd (upd (upd F 15 0) 16 pl1096) 27 (nI nd1097)) 31 (nI wr1099)) 64 (nI at1094)) 65 (nI ne)) 66 (nI lk1098)) 15 (nI 0)) 64 (nI at1094)) (updA (updA (stR X1101 12 nd (nI r1100)) 2 K) 2 K)) := mW_D hD
        refine pc_V0 (G := G) (As := [.int 59]) (rest := []) hx hb hml hown hq hE hX pX0_al hP hD hS hA hl.1 (R_take l G h0 a (upd (upd (upd (upd (upd (upd (upd F 15 0) 16 pl1096) 27 (nI nd1097)) 31 (nI wr1099)) 64 (nI at1094)) 65 (nI ne)) 66 (nI lk1098)) (updA (stR X1101 12 nd (nI r1100)) 2 K) at1094 T 0 K 59 (by omega) (by omega) hK (by omega) (by decide) (by decide)) (gV pw_1614 pw_1615 pw_1616 pw_1523 pw_1601) hV_X12_take 0 9 rfl rfl rfl rfl (Nat.le_of_ble_eq_true rfl) dX12_statementOf_305 ⟨Nat.le_of_ble_eq_true rfl, Nat.le_of_ble_eq_true rfl⟩ ⟨(by show 4 + 1 ≤ (26 * n + 44); omega), (by show 8 + (2 + 11) + 103 ≤ (2000 * n + 4400); omega)⟩ (fun v1133 u1131 H locs hw1132 hP hD hS => ?_)
        obtain ⟨at1134, fa1135, pl1136⟩ := u1131
        obtain ⟨hw1132, h1137, h1138, h1139, h1140, h1141, h1142, h1143, h1144⟩ := hw1132
        have h1137 : at1094 ≤ at1134 := h1137
        have h1138 : at1134 ≤ T := h1138
        have h1139 : 0 ≤ fa1135 := h1139
        have h1140 : fa1135 ≤ 100 := h1140
        have h1141 : If (0 < 0) (at1134 = at1094 ∧ fa1135 = 0) := h1141
        have h1142 : at1134 ≤ at1094 + 1 := h1142
        have h1143 : at1094 + 1 ≤ at1134 + fa1135 := h1143
        have h1144 : If (fa1135 = 0) (K at1094 = 59) := h1144
        obtain rfl : v1133 = none := hw1132
        have hP : va_P G.1 pCl (mW G h0 a (upd (upd (upd (upd (upd (upd (upd F 15 (nI fa1135)) 16 pl1136) 27 (nI nd1097)) 31 (nI wr1099)) 64 (nI at1134)) 65 (nI ne)) 66 (nI lk1098)) (updA (stR X1101 12 nd (nI r1100)) 2 K)) _ := mW_to (F := F) (l1 := [(15, 0), (16, pl1096), (27, (nI nd1097)), (31, (nI wr1099)), (64, (nI at1094)), (65, (nI ne)), (66, (nI lk1098)), (15, (nI fa1135)), (16, pl1136), (64, (nI at1134))]) (l2 := [(15, (nI fa1135)), (16, pl1136), (27, (nI nd1097)), (31, (nI wr1099)), (64, (nI at1134)), (65, (nI ne)), (66, (nI lk1098))]) (V := [(nI fa1135), pl1136, (nI nd1097), (nI wr1099), (nI at1134), (nI ne), (nI lk1098), (nI fa1135), pl1136, (nI at1134), (nI fa1135), pl1136, (nI nd1097), (nI wr1099), (nI at1134), (nI ne), (nI lk1098)]) rfl rfl (show (updA (updA (stR X1101 12 nd (nI r1100)) 2 K) 2 K) = (updA (stR X1101 12 nd (nI r1100)) 2 K) from updsA_eq2 (F := X1101) (l1 := [(12, (upd (X1101 12) nd (nI r1100))), (2, K), (2, K)]) (l2 := [(12, (upd (X1101 12) nd (nI r1100))), (2, K)]) (V := [(upd (X1101 12) nd (nI r1100)), K, K, (upd (X1101 12) nd (nI r1100)), K]) rfl rfl) hP
        have hD : va_D A (mW G h0 a (upd (upd (upd (upd (upd (upd (upd F 15 (nI fa1135)) 16 pl1136) 27 (nI nd1097)) 31 (nI wr1099)) 64 (nI at1134)) 65 (nI ne)) 66 (nI lk1098)) (updA (stR X1101 12 nd (nI r1100)) 2 K)) := mW_D hD
        refine W.widen (k := 0) (n := 0) (Nat.le_of_ble_eq_true rfl) (Nat.le_of_ble_eq_true rfl) ?_
        refine W.eq (g2 := F0 m 308 ls []) rfl ?_
        rcases Nat.eq_zero_or_pos fa1135 with e1145 | e1145
        · subst e1145
          have hP : va_P G.1 pCl (mW G h0 a (upd (upd (upd (upd (upd (upd (upd F 15 0) 16 pl1136) 27 (nI nd1097)) 31 (nI wr1099)) 64 (nI at1134)) 65 (nI ne)) 66 (nI lk1098)) (updA (stR X1101 12 nd (nI r1100)) 2 K)) _ := hP
          have hD : va_D A (mW G h0 a (upd (upd (upd (upd (upd (upd (upd F 15 0) 16 pl1136) 27 (nI nd1097)) 31 (nI wr1099)) 64 (nI at1134)) 65 (nI ne)) 66 (nI lk1098)) (updA (stR X1101 12 nd (nI r1100)) 2 K)) := mW_D hD
          refine lv_iload_n hx hb dX12_statementOf_308 rfl (lv_at hl 0 rfl) ?_
          have hz1146 : at0 ≤ at1134 := (by omega)
          have hz1147 : at1134 ≤ T := (by omega)
          have hz1148 : 0 ≤ 100 := (by omega)
          have hz1149 : nd ≤ nd1097 := (by omega)
          have hz1150 : nd1097 + 2 * at0 ≤ nd + 2 * at1134 + 100000 * 0 := (by omega)
          have hz1151 : nd1097 + 2 * at0 ≤ nd + 2 * at1134 + (60 * (21 - ne) + 40) := (by omega)
          have hz1152 : wr ≤ wr1099 := (by omega)
          have hz1153 : wr1099 + at0 ≤ wr + at1134 := (by omega)
          have hz1154 : lk ≤ lk1098 := (by omega)
          have hz1155 : lk1098 ≤ 60 + 100 * 0 := (by omega)
          have hz1156 : at0 + 1 ≤ at1134 + 0 := (by omega)
          have hz1157 : nd ≤ nd1097 := (by omega)
          have hz1158 : Kp B (stR X1101 12 nd (nI r1100)) wr1099 T := hkp1125
          have hz1159 : If (0 = 0) (Low B (stR X1101 12 nd (nI r1100)) nd wr ∧ Frs K T wr1099 (stR X1101 12 nd (nI r1100)) nd nd1097 20000 [(nd, (280 + 4 * (21 - ne)))] ∧ kcl 3 ((stR X1101 12 nd (nI r1100)) 9 nd) = true) := (fun _ => ⟨hlo1126, Frs.up hf1130 (by omega), (by rw [hn1128.1]; decide)⟩)
          have hP : va_P G.1 pCl (mW G h0 a (upd (upd (upd (upd (upd (upd (upd F 15 (nI 0)) 16 pl1136) 27 (nI nd1097)) 31 (nI wr1099)) 64 (nI at1134)) 65 (nI ne)) 66 (nI lk1098)) (updA (stR X1101 12 nd (nI r1100)) 2 K)) _ := mW_to (F := F) (l1 := [(15, 0), (16, pl1136), (27, (nI nd1097)), (31, (nI wr1099)), (64, (nI at1134)), (65, (nI ne)), (66, (nI lk1098))]) (l2 := [(15, (nI 0)), (16, pl1136), (27, (nI nd1097)), (31, (nI wr1099)), (64, (nI at1134)), (65, (nI ne)), (66, (nI lk1098))]) (V := [(nI 0), pl1136, (nI nd1097), (nI wr1099), (nI at1134), (nI ne), (nI lk1098), (nI 0), pl1136, (nI nd1097), (nI wr1099), (nI at1134), (nI ne), (nI lk1098)]) rfl rfl rfl hP
          have hD : va_D A (mW G h0 a (upd (upd (upd (upd (upd (upd (upd F 15 (nI 0)) 16 pl1136) 27 (nI nd1097)) 31 (nI wr1099)) 64 (nI at1134)) 65 (nI ne)) 66 (nI lk1098)) (updA (stR X1101 12 nd (nI r1100)) 2 K)) := mW_D hD
          exact W.iret (v := (nI nd)) hx hb hr (fun t9 ht9 hW9 => ⟨⟨_, (at1134, 0, pl1136, nd1097, lk1098, wr1099, nd, (stR X1101 12 nd (nI r1100))), rfl, ⟨rfl, hz1146, hz1147, hz1148, hz1149, hz1150, hz1151, hz1152, hz1153, hz1154, hz1155, hz1156, hz1157, hz1158, hz1159⟩, by rw [ht9]; exact hP, hD⟩, hS.F ht9⟩) hS.2.2 dX12_statementOf_309
        · have e1145 := e1145
          refine lv_iload_n hx hb dX12_statementOf_308 rfl (lv_at hl 0 rfl) ?_
          have hz1160 : at0 ≤ at1134 := (by omega)
          have hz1161 : at1134 ≤ T := (by omega)
          have hz1162 : fa1135 ≤ 100 := (by omega)
          have hz1163 : nd ≤ nd1097 := (by omega)
          have hz1164 : nd1097 + 2 * at0 ≤ nd + 2 * at1134 + 100000 * fa1135 := (by omega)
          have hz1165 : nd1097 + 2 * at0 ≤ nd + 2 * at1134 + (60 * (21 - ne) + 40) := (by omega)
          have hz1166 : wr ≤ wr1099 := (by omega)
          have hz1167 : wr1099 + at0 ≤ wr + at1134 := (by omega)
          have hz1168 : lk ≤ lk1098 := (by omega)
          have hz1169 : lk1098 ≤ 60 + 100 * fa1135 := (by omega)
          have hz1170 : at0 + 1 ≤ at1134 + fa1135 := (by omega)
          have hz1171 : nd ≤ nd1097 := (by omega)
          have hz1172 : Kp B (stR X1101 12 nd (nI r1100)) wr1099 T := hkp1125
          have hz1173 : If (fa1135 = 0) (Low B (stR X1101 12 nd (nI r1100)) nd wr ∧ Frs K T wr1099 (stR X1101 12 nd (nI r1100)) nd nd1097 20000 [(nd, (280 + 4 * (21 - ne)))] ∧ kcl 3 ((stR X1101 12 nd (nI r1100)) 9 nd) = true) := (fun e => absurd e (by omega))
          have hP : va_P G.1 pCl (mW G h0 a (upd (upd (upd (upd (upd (upd (upd F 15 (nI fa1135)) 16 pl1136) 27 (nI nd1097)) 31 (nI wr1099)) 64 (nI at1134)) 65 (nI ne)) 66 (nI lk1098)) (updA (stR X1101 12 nd (nI r1100)) 2 K)) _ := hP
          have hD : va_D A (mW G h0 a (upd (upd (upd (upd (upd (upd (upd F 15 (nI fa1135)) 16 pl1136) 27 (nI nd1097)) 31 (nI wr1099)) 64 (nI at1134)) 65 (nI ne)) 66 (nI lk1098)) (updA (stR X1101 12 nd (nI r1100)) 2 K)) := mW_D hD
          exact W.iret (v := (nI nd)) hx hb hr (fun t9 ht9 hW9 => ⟨⟨_, (at1134, fa1135, pl1136, nd1097, lk1098, wr1099, nd, (stR X1101 12 nd (nI r1100))), rfl, ⟨rfl, hz1160, hz1161, hz1162, hz1163, hz1164, hz1165, hz1166, hz1167, hz1168, hz1169, hz1170, hz1171, hz1172, hz1173⟩, by rw [ht9]; exact hP, hD⟩, hS.F ht9⟩) hS.2.2 dX12_statementOf_309
      · have e1117 := e1117
        refine r_sti (f := (X1101 12)) (j := nd) hx hb hE hP hD hS 12 (ma_12 G a _) rfl (mas_12 G a _) (by omega) (by decide) dX12_statementOf_301 (fun H locs hP hD hS => ?_)
        have hP : va_P G.1 pCl (mW G h0 a (upd (upd (upd (upd (upd (upd (upd F 15 (nI fa1095)) 16 pl1096) 27 (nI nd1097)) 31 (nI wr1099)) 64 (nI at1094)) 65 (nI ne)) 66 (nI lk1098)) (updA (stR X1101 12 nd (nI r1100)) 2 K)) _ := mW_to (F := F) (l1 := [(15, (nI fa1095)), (16, pl1096), (27, (nI nd1097)), (31, (nI wr1099)), (64, (nI at1094)), (65, (nI ne)), (66, (nI lk1098))]) (l2 := [(15, (nI fa1095)), (16, pl1096), (27, (nI nd1097)), (31, (nI wr1099)), (64, (nI at1094)), (65, (nI ne)), (66, (nI lk1098))]) (V := [(nI fa1095), pl1096, (nI nd1097), (nI wr1099), (nI at1094), (nI ne), (nI lk1098), (nI fa1095), pl1096, (nI nd1097), (nI wr1099), (nI at1094), (nI ne), (nI lk1098)]) rfl rfl (show (updA (updA X1101 2 K) 12 (upd (X1101 12) nd (nI r1100))) = (updA (stR X1101 12 nd (nI r1100)) 2 K) from updsA_eq2 (F := X1101) (l1 := [(2, K), (12, (upd (X1101 12) nd (nI r1100)))]) (l2 := [(12, (upd (X1101 12) nd (nI r1100))), (2, K)]) (V := [K, (upd (X1101 12) nd (nI r1100)), (upd (X1101 12) nd (nI r1100)), K]) rfl rfl) hP
        have hD : va_D A (mW G h0 a (upd (upd (upd (upd (upd (upd (upd F 15 (nI fa1095)) 16 pl1096) 27 (nI nd1097)) 31 (nI wr1099)) 64 (nI at1094)) 65 (nI ne)) 66 (nI lk1098)) (updA (stR X1101 12 nd (nI r1100)) 2 K)) := mW_D hD
        have hkp1174 : Kp B (stR X1101 12 nd (nI r1100)) wr1099 T := (Kp.row hkp1116 (by omega))
        refine lv_aload_n hx hb dX12_statementOf_302 rfl (lv_at hl 2 rfl) ?_
        refine lv_bipush (v := 59) hx hb dX12_statementOf_303 (by decide) ?_
        have hP : va_P G.1 pCl (mW G h0 a (upd (upd (upd (upd (upd (upd (upd (upd (upd F 15 (nI fa1095)) 16 pl1096) 27 (nI nd1097)) 31 (nI wr1099)) 64 (nI at1094)) 65 (nI ne)) 66 (nI lk1098)) 15 (nI fa1095)) 64 (nI at1094)) (updA (updA (stR X1101 12 nd (nI r1100)) 2 K) 2 K)) _ := mW_to (F := F) (l1 := [(15, (nI fa1095)), (16, pl1096), (27, (nI nd1097)), (31, (nI wr1099)), (64, (nI at1094)), (65, (nI ne)), (66, (nI lk1098))]) (l2 := [(15, (nI fa1095)), (16, pl1096), (27, (nI nd1097)), (31, (nI wr1099)), (64, (nI at1094)), (65, (nI ne)), (66, (nI lk1098)), (15, (nI fa1095)), (64, (nI at1094))]) (V := [(nI fa1095), pl1096, (nI nd1097), (nI wr1099), (nI at1094), (nI ne), (nI lk1098), (nI fa1095), pl1096, (nI nd1097), (nI wr1099), (nI at1094), (nI ne), (nI lk1098), (nI fa1095), (nI at1094)]) rfl rfl (show (updA (stR X1101 12 nd (nI r1100)) 2 K) = (updA (updA (stR X1101 12 nd (nI r1100)) 2 K) 2 K) from updsA_eq2 (F := X1101) (l1 := [(12, (upd (X1101 12) nd (nI r1100))), (2, K)]) (l2 := [(12, (upd (X1101 12) nd (nI r1100))), (2, K), (2, K)]) (V := [(upd (X1101 12) nd (nI r1100)), K, (upd (X1101 12) nd (nI r1100)), K, K]) rfl rfl) hP
        have hD : va_D A (mW G h0 a (upd (upd (upd (upd (upd (upd (upd (upd (upd F 15 (nI fa1095)) 16 pl1096) 27 (nI nd1097)) 31 (nI wr1099)) 64 (nI at1094)) 65 (nI ne)) 66 (nI lk1098)) 15 (nI fa1095)) 64 (nI at1094)) (updA (updA (stR X1101 12 nd (nI r1100)) 2 K) 2 K)) := mW_D hD
        refine pc_V0 (G := G) (As := [.int 59]) (rest := []) hx hb hml hown hq hE hX pX0_al hP hD hS hA hl.1 (R_take l G h0 a (upd (upd (upd (upd (upd (upd (upd F 15 (nI fa1095)) 16 pl1096) 27 (nI nd1097)) 31 (nI wr1099)) 64 (nI at1094)) 65 (nI ne)) 66 (nI lk1098)) (updA (stR X1101 12 nd (nI r1100)) 2 K) at1094 T fa1095 K 59 (by omega) (by omega) hK (by omega) (by decide) (by decide)) (gV pw_1614 pw_1615 pw_1616 pw_1523 pw_1601) hV_X12_take 0 9 rfl rfl rfl rfl (Nat.le_of_ble_eq_true rfl) dX12_statementOf_305 ⟨Nat.le_of_ble_eq_true rfl, Nat.le_of_ble_eq_true rfl⟩ ⟨(by show 4 + 1 ≤ (26 * n + 44); omega), (by show 8 + (2 + 11) + 103 ≤ (2000 * n + 4400); omega)⟩ (fun v1177 u1175 H locs hw1176 hP hD hS => ?_)
        obtain ⟨at1178, fa1179, pl1180⟩ := u1175
        obtain ⟨hw1176, h1181, h1182, h1183, h1184, h1185, h1186, h1187, h1188⟩ := hw1176
        have h1181 : at1094 ≤ at1178 := h1181
        have h1182 : at1178 ≤ T := h1182
        have h1183 : fa1095 ≤ fa1179 := h1183
        have h1184 : fa1179 ≤ 100 := h1184
        have h1185 : If (0 < fa1095) (at1178 = at1094 ∧ fa1179 = fa1095) := h1185
        have h1186 : at1178 ≤ at1094 + 1 := h1186
        have h1187 : at1094 + 1 ≤ at1178 + fa1179 := h1187
        have h1188 : If (fa1179 = 0) (K at1094 = 59) := h1188
        obtain rfl : v1177 = none := hw1176
        have hP : va_P G.1 pCl (mW G h0 a (upd (upd (upd (upd (upd (upd (upd F 15 (nI fa1179)) 16 pl1180) 27 (nI nd1097)) 31 (nI wr1099)) 64 (nI at1178)) 65 (nI ne)) 66 (nI lk1098)) (updA (stR X1101 12 nd (nI r1100)) 2 K)) _ := mW_to (F := F) (l1 := [(15, (nI fa1095)), (16, pl1096), (27, (nI nd1097)), (31, (nI wr1099)), (64, (nI at1094)), (65, (nI ne)), (66, (nI lk1098)), (15, (nI fa1179)), (16, pl1180), (64, (nI at1178))]) (l2 := [(15, (nI fa1179)), (16, pl1180), (27, (nI nd1097)), (31, (nI wr1099)), (64, (nI at1178)), (65, (nI ne)), (66, (nI lk1098))]) (V := [(nI fa1179), pl1180, (nI nd1097), (nI wr1099), (nI at1178), (nI ne), (nI lk1098), (nI fa1179), pl1180, (nI at1178), (nI fa1179), pl1180, (nI nd1097), (nI wr1099), (nI at1178), (nI ne), (nI lk1098)]) rfl rfl (show (updA (updA (stR X1101 12 nd (nI r1100)) 2 K) 2 K) = (updA (stR X1101 12 nd (nI r1100)) 2 K) from updsA_eq2 (F := X1101) (l1 := [(12, (upd (X1101 12) nd (nI r1100))), (2, K), (2, K)]) (l2 := [(12, (upd (X1101 12) nd (nI r1100))), (2, K)]) (V := [(upd (X1101 12) nd (nI r1100)), K, K, (upd (X1101 12) nd (nI r1100)), K]) rfl rfl) hP
        have hD : va_D A (mW G h0 a (upd (upd (upd (upd (upd (upd (upd F 15 (nI fa1179)) 16 pl1180) 27 (nI nd1097)) 31 (nI wr1099)) 64 (nI at1178)) 65 (nI ne)) 66 (nI lk1098)) (updA (stR X1101 12 nd (nI r1100)) 2 K)) := mW_D hD
        refine W.widen (k := 0) (n := 0) (Nat.le_of_ble_eq_true rfl) (Nat.le_of_ble_eq_true rfl) ?_
        refine W.eq (g2 := F0 m 308 ls []) rfl ?_
        obtain ⟨n1190, n1189⟩ := h1185 e1117
        replace n1190 := n1190.symm
        subst n1190
        replace n1189 := n1189.symm
        subst n1189
        refine lv_iload_n hx hb dX12_statementOf_308 rfl (lv_at hl 0 rfl) ?_
        have hz1191 : at0 ≤ at1094 := (by omega)
        have hz1192 : at1094 ≤ T := (by omega)
        have hz1193 : fa1095 ≤ 100 := (by omega)
        have hz1194 : nd ≤ nd1097 := (by omega)
        have hz1195 : nd1097 + 2 * at0 ≤ nd + 2 * at1094 + 100000 * fa1095 := (by omega)
        have hz1196 : nd1097 + 2 * at0 ≤ nd + 2 * at1094 + (60 * (21 - ne) + 40) := (by omega)
        have hz1197 : wr ≤ wr1099 := (by omega)
        have hz1198 : wr1099 + at0 ≤ wr + at1094 := (by omega)
        have hz1199 : lk ≤ lk1098 := (by omega)
        have hz1200 : lk1098 ≤ 60 + 100 * fa1095 := (by omega)
        have hz1201 : at0 + 1 ≤ at1094 + fa1095 := (by omega)
        have hz1202 : nd ≤ nd1097 := (by omega)
        have hz1203 : Kp B (stR X1101 12 nd (nI r1100)) wr1099 T := hkp1174
        have hz1204 : If (fa1095 = 0) (Low B (stR X1101 12 nd (nI r1100)) nd wr ∧ Frs K T wr1099 (stR X1101 12 nd (nI r1100)) nd nd1097 20000 [(nd, (280 + 4 * (21 - ne)))] ∧ kcl 3 ((stR X1101 12 nd (nI r1100)) 9 nd) = true) := (fun e => absurd e (by omega))
        have hP : va_P G.1 pCl (mW G h0 a (upd (upd (upd (upd (upd (upd (upd F 15 (nI fa1095)) 16 pl1180) 27 (nI nd1097)) 31 (nI wr1099)) 64 (nI at1094)) 65 (nI ne)) 66 (nI lk1098)) (updA (stR X1101 12 nd (nI r1100)) 2 K)) _ := hP
        have hD : va_D A (mW G h0 a (upd (upd (upd (upd (upd (upd (upd F 15 (nI fa1095)) 16 pl1180) 27 (nI nd1097)) 31 (nI wr1099)) 64 (nI at1094)) 65 (nI ne)) 66 (nI lk1098)) (updA (stR X1101 12 nd (nI r1100)) 2 K)) := mW_D hD
        exact W.iret (v := (nI nd)) hx hb hr (fun t9 ht9 hW9 => ⟨⟨_, (at1094, fa1095, pl1180, nd1097, lk1098, wr1099, nd, (stR X1101 12 nd (nI r1100))), rfl, ⟨rfl, hz1191, hz1192, hz1193, hz1194, hz1195, hz1196, hz1197, hz1198, hz1199, hz1200, hz1201, hz1202, hz1203, hz1204⟩, by rw [ht9]; exact hP, hD⟩, hS.F ht9⟩) hS.2.2 dX12_statementOf_309
  by_cases h1205 : (K at0) = 334
  · refine lv_lookup (tgt := 354) (off := 345) hx hb dX12_statementOf_9 (by decide) (by rw [h1205]; decide) (by decide) ?_
    have n1206 : at0 < T := tk_lt hat hK h1205 (by decide) (by decide)
    refine lv_aload_n hx hb dX12_statementOf_354 rfl (lv_at hl 1 rfl) ?_
    refine lv_dup hx hb dX12_statementOf_355 rfl ?_
    refine r_get (v := .int (nI at0)) hx hb hown hq hE hP 64 343 tFX12_64 (by decide) pw_1592 rfl dX12_statementOf_356 ?_
    refine lv_iconst (v := 1) hx hb dX12_statementOf_359 (by decide) ?_
    refine lv_iadd hx hb dX12_statementOf_360 ?_
    refine lv_topi (fun x1207 e1208 => ?_)
    obtain rfl : x1207 = nI (at0 + 1) := e1208.trans (nI_add (at0) (1))
    refine r_put (v := (nI (at0 + 1))) (ty := .int) hx hb hown hq hE hP hD hS 64 343 tFX12_64 (by decide) pw_1592 (by decide) rfl rfl (ms_64 a _ _) dX12_statementOf_361 (fun H locs hP hD hS => ?_)
    refine lv_aload_n hx hb dX12_statementOf_364 rfl (lv_at hl 1 rfl) ?_
    refine lv_bipush (v := 40) hx hb dX12_statementOf_365 (by decide) ?_
    refine lv_iload_n hx hb dX12_statementOf_367 rfl (lv_at hl 0 rfl) ?_
    refine lv_iload_n hx hb dX12_statementOf_368 rfl (lv_at hl 0 rfl) ?_
    refine lv_aload_n hx hb dX12_statementOf_369 rfl (lv_at hl 1 rfl) ?_
    have hP : va_P G.1 pCl (mW G h0 a (upd (upd (upd (upd (upd (upd (upd (upd (upd (upd (upd (upd F 15 0) 27 (nI nd)) 31 (nI wr)) 64 (nI (at0 + 1))) 65 (nI ne)) 66 (nI lk)) 15 0) 27 (nI nd)) 31 (nI wr)) 64 (nI (at0 + 1))) 65 (nI ne)) 66 (nI lk)) (updA B 2 K)) _ := mW_to (F := F) (l1 := [(15, 0), (27, (nI nd)), (31, (nI wr)), (64, (nI at0)), (65, (nI ne)), (66, (nI lk)), (64, (nI (at0 + 1)))]) (l2 := [(15, 0), (27, (nI nd)), (31, (nI wr)), (64, (nI (at0 + 1))), (65, (nI ne)), (66, (nI lk)), (15, 0), (27, (nI nd)), (31, (nI wr)), (64, (nI (at0 + 1))), (65, (nI ne)), (66, (nI lk))]) (V := [0, (nI nd), (nI wr), (nI (at0 + 1)), (nI ne), (nI lk), (nI (at0 + 1)), 0, (nI nd), (nI wr), (nI (at0 + 1)), (nI ne), (nI lk), 0, (nI nd), (nI wr), (nI (at0 + 1)), (nI ne), (nI lk)]) rfl rfl rfl hP
    have hD : va_D A (mW G h0 a (upd (upd (upd (upd (upd (upd (upd (upd (upd (upd (upd (upd F 15 0) 27 (nI nd)) 31 (nI wr)) 64 (nI (at0 + 1))) 65 (nI ne)) 66 (nI lk)) 15 0) 27 (nI nd)) 31 (nI wr)) 64 (nI (at0 + 1))) 65 (nI ne)) 66 (nI lk)) (updA B 2 K)) := mW_D hD
    refine pc_V0 (G := G) (As := []) (rest := [.int (nI at0), .int (nI at0), .int 40, .ref h0]) hx hb hml hown hq hE hX pX0_al hP hD hS hA hl.1 (hEc h0 a (upd (upd (upd (upd (upd (upd F 15 0) 27 (nI nd)) 31 (nI wr)) 64 (nI (at0 + 1))) 65 (nI ne)) 66 (nI lk)) B (at0 + 1) T ne nd wr lk K (by omega) (by omega) hK (by omega) (by omega) (by omega) (by omega) (hkp1).2 (by omega)) (gV pw_1640 pw_1641 pw_1642 pw_1523 pw_1656) hV_X12_choice 0 9 rfl rfl rfl rfl (Nat.le_of_ble_eq_true rfl) dX12_statementOf_370 ⟨Nat.le_of_ble_eq_true rfl, Nat.le_of_ble_eq_true rfl⟩ ⟨(by show (20 * n + 27) + 1 ≤ (26 * n + 44); omega), (by show 8 + (4 + 11) + (1000 * n + 40 * 27) ≤ (2000 * n + 4400); omega)⟩ (fun v1211 u1209 H locs hw1210 hP hD hS => ?_)
    obtain ⟨at1212, fa1213, pl1214, nd1215, lk1216, wr1217, r1218, X1219⟩ := u1209
    obtain ⟨hw1210, h1220, h1221, h1222, h1223, h1224, h1225, h1226, h1227, h1228, h1229, h1230, h1231, h1232, h1233⟩ := hw1210
    have h1220 : (at0 + 1) ≤ at1212 := h1220
    have h1221 : at1212 ≤ T := h1221
    have h1222 : fa1213 ≤ 100 := h1222
    have h1223 : nd ≤ nd1215 := h1223
    have h1224 : nd1215 + 2 * (at0 + 1) ≤ nd + 2 * at1212 + 100000 * fa1213 := h1224
    have h1225 : nd1215 + 2 * (at0 + 1) ≤ nd + 2 * at1212 + 40 * (21 - ne) := h1225
    have h1226 : wr ≤ wr1217 := h1226
    have h1227 : wr1217 + (at0 + 1) ≤ wr + at1212 := h1227
    have h1228 : lk ≤ lk1216 := h1228
    have h1229 : lk1216 ≤ 60 + 100 * fa1213 := h1229
    have h1230 : (at0 + 1) + 1 ≤ at1212 + fa1213 := h1230
    have h1231 : r1218 ≤ nd1215 := h1231
    have h1232 : Kp B X1219 wr1217 T := h1232
    have h1233 : If (fa1213 = 0) (Low B X1219 nd wr ∧ Frs K T wr1217 X1219 nd nd1215 20000 [(r1218, (211 + lk1216 - (10 * ne + lk)))] ∧ kcl 1 (X1219 9 r1218) = true) := h1233
    obtain rfl : v1211 = some (.int (nI r1218)) := hw1210
    have hP : va_P G.1 pCl (mW G h0 a (upd (upd (upd (upd (upd (upd (upd F 15 (nI fa1213)) 16 pl1214) 27 (nI nd1215)) 31 (nI wr1217)) 64 (nI at1212)) 65 (nI ne)) 66 (nI lk1216)) (updA X1219 2 K)) _ := mW_to (F := F) (l1 := [(15, 0), (27, (nI nd)), (31, (nI wr)), (64, (nI (at0 + 1))), (65, (nI ne)), (66, (nI lk)), (15, (nI fa1213)), (16, pl1214), (27, (nI nd1215)), (31, (nI wr1217)), (64, (nI at1212)), (65, (nI ne)), (66, (nI lk1216))]) (l2 := [(15, (nI fa1213)), (16, pl1214), (27, (nI nd1215)), (31, (nI wr1217)), (64, (nI at1212)), (65, (nI ne)), (66, (nI lk1216))]) (V := [(nI fa1213), (nI nd1215), (nI wr1217), (nI at1212), (nI ne), (nI lk1216), (nI fa1213), pl1214, (nI nd1215), (nI wr1217), (nI at1212), (nI ne), (nI lk1216), (nI fa1213), pl1214, (nI nd1215), (nI wr1217), (nI at1212), (nI ne), (nI lk1216)]) rfl rfl rfl hP
    have hD : va_D A (mW G h0 a (upd (upd (upd (upd (upd (upd (upd F 15 (nI fa1213)) 16 pl1214) 27 (nI nd1215)) 31 (nI wr1217)) 64 (nI at1212)) 65 (nI ne)) 66 (nI lk1216)) (updA X1219 2 K)) := mW_D hD
    refine W.widen (k := 0) (n := 0) (Nat.le_of_ble_eq_true rfl) (Nat.le_of_ble_eq_true rfl) ?_
    refine W.eq (g2 := F0 m 373 ls [.int (nI r1218), .int (nI at0), .int (nI at0), .int 40, .ref h0]) rfl ?_
    have hkp1234 : Kp B X1219 wr1217 T := (Kp.trans hkp1 h1232)
    rcases Nat.eq_zero_or_pos fa1213 with e1235 | e1235
    · subst e1235
      have hP : va_P G.1 pCl (mW G h0 a (upd (upd (upd (upd (upd (upd (upd F 15 0) 16 pl1214) 27 (nI nd1215)) 31 (nI wr1217)) 64 (nI at1212)) 65 (nI ne)) 66 (nI lk1216)) (updA X1219 2 K)) _ := hP
      have hD : va_D A (mW G h0 a (upd (upd (upd (upd (upd (upd (upd F 15 0) 16 pl1214) 27 (nI nd1215)) 31 (nI wr1217)) 64 (nI at1212)) 65 (nI ne)) 66 (nI lk1216)) (updA X1219 2 K)) := mW_D hD
      obtain ⟨hlw1236, hf1237, hc1238⟩ := h1233 rfl
      have hlo1239 : Low B X1219 nd wr := (Low.trans hlo2 hlw1236 (by omega) (by omega))
      have hm1240 := Frs.mem hf1237
      refine lv_iconst (v := (-1)) hx hb dX12_statementOf_373 (by decide) ?_
      have hP : va_P G.1 pCl (mW G h0 a (upd (upd (upd (upd (upd (upd (upd (upd F 15 0) 16 pl1214) 27 (nI nd1215)) 31 (nI wr1217)) 64 (nI at1212)) 65 (nI ne)) 66 (nI lk1216)) 27 (nI nd1215)) (updA X1219 2 K)) _ := mW_to (F := F) (l1 := [(15, 0), (16, pl1214), (27, (nI nd1215)), (31, (nI wr1217)), (64, (nI at1212)), (65, (nI ne)), (66, (nI lk1216))]) (l2 := [(15, 0), (16, pl1214), (27, (nI nd1215)), (31, (nI wr1217)), (64, (nI at1212)), (65, (nI ne)), (66, (nI lk1216)), (27, (nI nd1215))]) (V := [0, pl1214, (nI nd1215), (nI wr1217), (nI at1212), (nI ne), (nI lk1216), 0, pl1214, (nI nd1215), (nI wr1217), (nI at1212), (nI ne), (nI lk1216), (nI nd1215)]) rfl rfl rfl hP
      have hD : va_D A (mW G h0 a (upd (upd (upd (upd (upd (upd (upd (upd F 15 0) 16 pl1214) 27 (nI nd1215)) 31 (nI wr1217)) 64 (nI at1212)) 65 (nI ne)) 66 (nI lk1216)) 27 (nI nd1215)) (updA X1219 2 K)) := mW_D hD
      refine pc_V0 (G := G) (As := [.int 40, .int (nI at0), .int (nI at0), .int (nI r1218), .int (-1)]) (rest := []) hx hb hml hown hq hE hX pX0_al hP hD hS hA hl.1 (R_nodeB l G h0 a (upd (upd (upd (upd (upd (upd (upd F 15 0) 16 pl1214) 27 (nI nd1215)) 31 (nI wr1217)) 64 (nI at1212)) 65 (nI ne)) 66 (nI lk1216)) X1219 40 (nI at0) (nI at0) (nI r1218) (-1) nd1215 K (by omega)) (gV pw_1650 pw_1651 pw_1652 pw_1523 pw_1589) hV_X12_node 0 9 rfl rfl rfl rfl (Nat.le_of_ble_eq_true rfl) dX12_statementOf_374 ⟨Nat.le_of_ble_eq_true rfl, Nat.le_of_ble_eq_true rfl⟩ ⟨(by show 2 + 1 ≤ (26 * n + 44); omega), (by show 8 + (7 + 11) + 60 ≤ (2000 * n + 4400); omega)⟩ (fun v1243 u1241 H locs hw1242 hP hD hS => ?_)
      obtain ⟨X1244, rfl⟩ : ∃ z, z = u1241 := ⟨_, rfl⟩
      obtain ⟨hw1242, h1245⟩ := hw1242
      have h1245 : NewN X1219 X1244 nd1215 40 (nI at0) (nI at0) (nI r1218) (-1) := h1245
      obtain rfl : v1243 = some (.int (nI nd1215)) := hw1242
      have hP : va_P G.1 pCl (mW G h0 a (upd (upd (upd (upd (upd (upd (upd F 15 0) 16 pl1214) 27 (nI (nd1215 + 1))) 31 (nI wr1217)) 64 (nI at1212)) 65 (nI ne)) 66 (nI lk1216)) (updA X1244 2 K)) _ := mW_to (F := F) (l1 := [(15, 0), (16, pl1214), (27, (nI nd1215)), (31, (nI wr1217)), (64, (nI at1212)), (65, (nI ne)), (66, (nI lk1216)), (27, (nI (nd1215 + 1)))]) (l2 := [(15, 0), (16, pl1214), (27, (nI (nd1215 + 1))), (31, (nI wr1217)), (64, (nI at1212)), (65, (nI ne)), (66, (nI lk1216))]) (V := [0, pl1214, (nI (nd1215 + 1)), (nI wr1217), (nI at1212), (nI ne), (nI lk1216), (nI (nd1215 + 1)), 0, pl1214, (nI (nd1215 + 1)), (nI wr1217), (nI at1212), (nI ne), (nI lk1216)]) rfl rfl rfl hP
      have hD : va_D A (mW G h0 a (upd (upd (upd (upd (upd (upd (upd F 15 0) 16 pl1214) 27 (nI (nd1215 + 1))) 31 (nI wr1217)) 64 (nI at1212)) 65 (nI ne)) 66 (nI lk1216)) (updA X1244 2 K)) := mW_D hD
      refine W.widen (k := 0) (n := 0) (Nat.le_of_ble_eq_true rfl) (Nat.le_of_ble_eq_true rfl) ?_
      refine W.eq (g2 := F0 m 377 ls [.int (nI nd1215)]) rfl ?_
      have hkp1246 : Kp B X1244 wr1217 T := (Kp.new hkp1234 h1245)
      have hlo1247 : Low B X1244 nd wr := (Low.new hlo1239 h1245 (by omega))
      have hc1248 : kcl 1 (X1244 9 r1218) = true := by rw [h1245.2.1 9 r1218 (by omega)]; exact hc1238
      have hf1249 : Frs K T wr1217 X1244 nd (nd1215 + 1) nd1215 [(nd1215, (280 + 4 * (21 - ne)))] := (Frs.new1 (k := 40) hf1237 (by omega) (by omega) (by omega) h1245 rfl rfl (by decide) (by decide) (by omega) (by omega) (by decide) (by simp) ⟨by decide, by decide, by decide, by decide⟩ hc1238 (newOK.m1 (by decide)) (newOK.m1 (by decide)) (newOK.m1 (by decide)) (by omega))
      have hn1250 : Nd X1244 nd1215 40 (nI r1218) (-1) (-1) (-1) := (NewN.toNd h1245)
      have hf1251 : Frs K T wr1217 X1244 nd (nd1215 + 1) 20000 [(nd1215, (280 + 4 * (21 - ne)))] := (Frs.fin (k := 40) hf1249 hn1250 rfl (by decide) (fun _ => nI_m1 (by omega)) (fun h => absurd h (by decide)) (fun h => absurd h (by decide)) (fun h => absurd h (by decide)))
      refine lv_istore_n (lv' := [(2, .int (nI nd1215)), (1, .int (nI at0)), (0, .ref h0)]) hx hb dX12_statementOf_377 rfl hl (by decide) rfl (fun ls hl => ?_)
      refine lv_aload_n hx hb dX12_statementOf_378 rfl (lv_at hl 2 rfl) ?_
      refine lv_bipush (v := 59) hx hb dX12_statementOf_379 (by decide) ?_
      have hP : va_P G.1 pCl (mW G h0 a (upd (upd (upd (upd (upd (upd (upd (upd (upd F 15 0) 16 pl1214) 27 (nI (nd1215 + 1))) 31 (nI wr1217)) 64 (nI at1212)) 65 (nI ne)) 66 (nI lk1216)) 15 (nI 0)) 64 (nI at1212)) (updA (updA X1244 2 K) 2 K)) _ := mW_to (F := F) (l1 := [(15, 0), (16, pl1214), (27, (nI (nd1215 + 1))), (31, (nI wr1217)), (64, (nI at1212)), (65, (nI ne)), (66, (nI lk1216))]) (l2 := [(15, 0), (16, pl1214), (27, (nI (nd1215 + 1))), (31, (nI wr1217)), (64, (nI at1212)), (65, (nI ne)), (66, (nI lk1216)), (15, (nI 0)), (64, (nI at1212))]) (V := [(nI 0), pl1214, (nI (nd1215 + 1)), (nI wr1217), (nI at1212), (nI ne), (nI lk1216), (nI 0), pl1214, (nI (nd1215 + 1)), (nI wr1217), (nI at1212), (nI ne), (nI lk1216), (nI 0), (nI at1212)]) rfl rfl (show (updA X1244 2 K) = (updA (updA X1244 2 K) 2 K) from updsA_eq2 (F := X1244) (l1 := [(2, K)]) (l2 := [(2, K), (2, K)]) (V := [K, K, K]) rfl rfl) hP
      have hD : va_D A (mW G h0 a (upd (upd (upd (upd (upd (upd (upd (upd (upd F 15 0) 16 pl1214) 27 (nI (nd1215 + 1))) 31 (nI wr1217)) 64 (nI at1212)) 65 (nI ne)) 66 (nI lk1216)) 15 (nI 0)) 64 (nI at1212)) (updA (updA X1244 2 K) 2 K)) := mW_D hD
      refine pc_V0 (G := G) (As := [.int 59]) (rest := []) hx hb hml hown hq hE hX pX0_al hP hD hS hA hl.1 (R_take l G h0 a (upd (upd (upd (upd (upd (upd (upd F 15 0) 16 pl1214) 27 (nI (nd1215 + 1))) 31 (nI wr1217)) 64 (nI at1212)) 65 (nI ne)) 66 (nI lk1216)) (updA X1244 2 K) at1212 T 0 K 59 (by omega) (by omega) hK (by omega) (by decide) (by decide)) (gV pw_1614 pw_1615 pw_1616 pw_1523 pw_1601) hV_X12_take 0 9 rfl rfl rfl rfl (Nat.le_of_ble_eq_true rfl) dX12_statementOf_381 ⟨Nat.le_of_ble_eq_true rfl, Nat.le_of_ble_eq_true rfl⟩ ⟨(by show 4 + 1 ≤ (26 * n + 44); omega), (by show 8 + (2 + 11) + 103 ≤ (2000 * n + 4400); omega)⟩ (fun v1254 u1252 H locs hw1253 hP hD hS => ?_)
      obtain ⟨at1255, fa1256, pl1257⟩ := u1252
      obtain ⟨hw1253, h1258, h1259, h1260, h1261, h1262, h1263, h1264, h1265⟩ := hw1253
      have h1258 : at1212 ≤ at1255 := h1258
      have h1259 : at1255 ≤ T := h1259
      have h1260 : 0 ≤ fa1256 := h1260
      have h1261 : fa1256 ≤ 100 := h1261
      have h1262 : If (0 < 0) (at1255 = at1212 ∧ fa1256 = 0) := h1262
      have h1263 : at1255 ≤ at1212 + 1 := h1263
      have h1264 : at1212 + 1 ≤ at1255 + fa1256 := h1264
      have h1265 : If (fa1256 = 0) (K at1212 = 59) := h1265
      obtain rfl : v1254 = none := hw1253
      have hP : va_P G.1 pCl (mW G h0 a (upd (upd (upd (upd (upd (upd (upd F 15 (nI fa1256)) 16 pl1257) 27 (nI (nd1215 + 1))) 31 (nI wr1217)) 64 (nI at1255)) 65 (nI ne)) 66 (nI lk1216)) (updA X1244 2 K)) _ := mW_to (F := F) (l1 := [(15, 0), (16, pl1214), (27, (nI (nd1215 + 1))), (31, (nI wr1217)), (64, (nI at1212)), (65, (nI ne)), (66, (nI lk1216)), (15, (nI fa1256)), (16, pl1257), (64, (nI at1255))]) (l2 := [(15, (nI fa1256)), (16, pl1257), (27, (nI (nd1215 + 1))), (31, (nI wr1217)), (64, (nI at1255)), (65, (nI ne)), (66, (nI lk1216))]) (V := [(nI fa1256), pl1257, (nI (nd1215 + 1)), (nI wr1217), (nI at1255), (nI ne), (nI lk1216), (nI fa1256), pl1257, (nI at1255), (nI fa1256), pl1257, (nI (nd1215 + 1)), (nI wr1217), (nI at1255), (nI ne), (nI lk1216)]) rfl rfl (show (updA (updA X1244 2 K) 2 K) = (updA X1244 2 K) from updsA_eq2 (F := X1244) (l1 := [(2, K), (2, K)]) (l2 := [(2, K)]) (V := [K, K, K]) rfl rfl) hP
      have hD : va_D A (mW G h0 a (upd (upd (upd (upd (upd (upd (upd F 15 (nI fa1256)) 16 pl1257) 27 (nI (nd1215 + 1))) 31 (nI wr1217)) 64 (nI at1255)) 65 (nI ne)) 66 (nI lk1216)) (updA X1244 2 K)) := mW_D hD
      refine W.widen (k := 0) (n := 0) (Nat.le_of_ble_eq_true rfl) (Nat.le_of_ble_eq_true rfl) ?_
      refine W.eq (g2 := F0 m 384 ls []) rfl ?_
      rcases Nat.eq_zero_or_pos fa1256 with e1266 | e1266
      · subst e1266
        have hP : va_P G.1 pCl (mW G h0 a (upd (upd (upd (upd (upd (upd (upd F 15 0) 16 pl1257) 27 (nI (nd1215 + 1))) 31 (nI wr1217)) 64 (nI at1255)) 65 (nI ne)) 66 (nI lk1216)) (updA X1244 2 K)) _ := hP
        have hD : va_D A (mW G h0 a (upd (upd (upd (upd (upd (upd (upd F 15 0) 16 pl1257) 27 (nI (nd1215 + 1))) 31 (nI wr1217)) 64 (nI at1255)) 65 (nI ne)) 66 (nI lk1216)) (updA X1244 2 K)) := mW_D hD
        refine lv_iload_n hx hb dX12_statementOf_384 rfl (lv_at hl 0 rfl) ?_
        have hz1267 : at0 ≤ at1255 := (by omega)
        have hz1268 : at1255 ≤ T := (by omega)
        have hz1269 : 0 ≤ 100 := (by omega)
        have hz1270 : nd ≤ (nd1215 + 1) := (by omega)
        have hz1271 : (nd1215 + 1) + 2 * at0 ≤ nd + 2 * at1255 + 100000 * 0 := (by omega)
        have hz1272 : (nd1215 + 1) + 2 * at0 ≤ nd + 2 * at1255 + (60 * (21 - ne) + 40) := (by omega)
        have hz1273 : wr ≤ wr1217 := (by omega)
        have hz1274 : wr1217 + at0 ≤ wr + at1255 := (by omega)
        have hz1275 : lk ≤ lk1216 := (by omega)
        have hz1276 : lk1216 ≤ 60 + 100 * 0 := (by omega)
        have hz1277 : at0 + 1 ≤ at1255 + 0 := (by omega)
        have hz1278 : nd1215 ≤ (nd1215 + 1) := (by omega)
        have hz1279 : Kp B X1244 wr1217 T := hkp1246
        have hz1280 : If (0 = 0) (Low B X1244 nd wr ∧ Frs K T wr1217 X1244 nd (nd1215 + 1) 20000 [(nd1215, (280 + 4 * (21 - ne)))] ∧ kcl 3 (X1244 9 nd1215) = true) := (fun _ => ⟨hlo1247, Frs.up hf1251 (by omega), (by rw [hn1250.1]; decide)⟩)
        have hP : va_P G.1 pCl (mW G h0 a (upd (upd (upd (upd (upd (upd (upd F 15 (nI 0)) 16 pl1257) 27 (nI (nd1215 + 1))) 31 (nI wr1217)) 64 (nI at1255)) 65 (nI ne)) 66 (nI lk1216)) (updA X1244 2 K)) _ := mW_to (F := F) (l1 := [(15, 0), (16, pl1257), (27, (nI (nd1215 + 1))), (31, (nI wr1217)), (64, (nI at1255)), (65, (nI ne)), (66, (nI lk1216))]) (l2 := [(15, (nI 0)), (16, pl1257), (27, (nI (nd1215 + 1))), (31, (nI wr1217)), (64, (nI at1255)), (65, (nI ne)), (66, (nI lk1216))]) (V := [(nI 0), pl1257, (nI (nd1215 + 1)), (nI wr1217), (nI at1255), (nI ne), (nI lk1216), (nI 0), pl1257, (nI (nd1215 + 1)), (nI wr1217), (nI at1255), (nI ne), (nI lk1216)]) rfl rfl rfl hP
        have hD : va_D A (mW G h0 a (upd (upd (upd (upd (upd (upd (upd F 15 (nI 0)) 16 pl1257) 27 (nI (nd1215 + 1))) 31 (nI wr1217)) 64 (nI at1255)) 65 (nI ne)) 66 (nI lk1216)) (updA X1244 2 K)) := mW_D hD
        exact W.iret (v := (nI nd1215)) hx hb hr (fun t9 ht9 hW9 => ⟨⟨_, (at1255, 0, pl1257, (nd1215 + 1), lk1216, wr1217, nd1215, X1244), rfl, ⟨rfl, hz1267, hz1268, hz1269, hz1270, hz1271, hz1272, hz1273, hz1274, hz1275, hz1276, hz1277, hz1278, hz1279, hz1280⟩, by rw [ht9]; exact hP, hD⟩, hS.F ht9⟩) hS.2.2 dX12_statementOf_385
      · have e1266 := e1266
        refine lv_iload_n hx hb dX12_statementOf_384 rfl (lv_at hl 0 rfl) ?_
        have hz1281 : at0 ≤ at1255 := (by omega)
        have hz1282 : at1255 ≤ T := (by omega)
        have hz1283 : fa1256 ≤ 100 := (by omega)
        have hz1284 : nd ≤ (nd1215 + 1) := (by omega)
        have hz1285 : (nd1215 + 1) + 2 * at0 ≤ nd + 2 * at1255 + 100000 * fa1256 := (by omega)
        have hz1286 : (nd1215 + 1) + 2 * at0 ≤ nd + 2 * at1255 + (60 * (21 - ne) + 40) := (by omega)
        have hz1287 : wr ≤ wr1217 := (by omega)
        have hz1288 : wr1217 + at0 ≤ wr + at1255 := (by omega)
        have hz1289 : lk ≤ lk1216 := (by omega)
        have hz1290 : lk1216 ≤ 60 + 100 * fa1256 := (by omega)
        have hz1291 : at0 + 1 ≤ at1255 + fa1256 := (by omega)
        have hz1292 : nd1215 ≤ (nd1215 + 1) := (by omega)
        have hz1293 : Kp B X1244 wr1217 T := hkp1246
        have hz1294 : If (fa1256 = 0) (Low B X1244 nd wr ∧ Frs K T wr1217 X1244 nd (nd1215 + 1) 20000 [(nd1215, (280 + 4 * (21 - ne)))] ∧ kcl 3 (X1244 9 nd1215) = true) := (fun e => absurd e (by omega))
        have hP : va_P G.1 pCl (mW G h0 a (upd (upd (upd (upd (upd (upd (upd F 15 (nI fa1256)) 16 pl1257) 27 (nI (nd1215 + 1))) 31 (nI wr1217)) 64 (nI at1255)) 65 (nI ne)) 66 (nI lk1216)) (updA X1244 2 K)) _ := hP
        have hD : va_D A (mW G h0 a (upd (upd (upd (upd (upd (upd (upd F 15 (nI fa1256)) 16 pl1257) 27 (nI (nd1215 + 1))) 31 (nI wr1217)) 64 (nI at1255)) 65 (nI ne)) 66 (nI lk1216)) (updA X1244 2 K)) := mW_D hD
        exact W.iret (v := (nI nd1215)) hx hb hr (fun t9 ht9 hW9 => ⟨⟨_, (at1255, fa1256, pl1257, (nd1215 + 1), lk1216, wr1217, nd1215, X1244), rfl, ⟨rfl, hz1281, hz1282, hz1283, hz1284, hz1285, hz1286, hz1287, hz1288, hz1289, hz1290, hz1291, hz1292, hz1293, hz1294⟩, by rw [ht9]; exact hP, hD⟩, hS.F ht9⟩) hS.2.2 dX12_statementOf_385
    · have e1235 := e1235
      refine lv_iconst (v := (-1)) hx hb dX12_statementOf_373 (by decide) ?_
      have hP : va_P G.1 pCl (mW G h0 a (upd (upd (upd (upd (upd (upd (upd (upd F 15 (nI fa1213)) 16 pl1214) 27 (nI nd1215)) 31 (nI wr1217)) 64 (nI at1212)) 65 (nI ne)) 66 (nI lk1216)) 27 (nI nd1215)) (updA X1219 2 K)) _ := mW_to (F := F) (l1 := [(15, (nI fa1213)), (16, pl1214), (27, (nI nd1215)), (31, (nI wr1217)), (64, (nI at1212)), (65, (nI ne)), (66, (nI lk1216))]) (l2 := [(15, (nI fa1213)), (16, pl1214), (27, (nI nd1215)), (31, (nI wr1217)), (64, (nI at1212)), (65, (nI ne)), (66, (nI lk1216)), (27, (nI nd1215))]) (V := [(nI fa1213), pl1214, (nI nd1215), (nI wr1217), (nI at1212), (nI ne), (nI lk1216), (nI fa1213), pl1214, (nI nd1215), (nI wr1217), (nI at1212), (nI ne), (nI lk1216), (nI nd1215)]) rfl rfl rfl hP
      have hD : va_D A (mW G h0 a (upd (upd (upd (upd (upd (upd (upd (upd F 15 (nI fa1213)) 16 pl1214) 27 (nI nd1215)) 31 (nI wr1217)) 64 (nI at1212)) 65 (nI ne)) 66 (nI lk1216)) 27 (nI nd1215)) (updA X1219 2 K)) := mW_D hD
      refine pc_V0 (G := G) (As := [.int 40, .int (nI at0), .int (nI at0), .int (nI r1218), .int (-1)]) (rest := []) hx hb hml hown hq hE hX pX0_al hP hD hS hA hl.1 (R_nodeB l G h0 a (upd (upd (upd (upd (upd (upd (upd F 15 (nI fa1213)) 16 pl1214) 27 (nI nd1215)) 31 (nI wr1217)) 64 (nI at1212)) 65 (nI ne)) 66 (nI lk1216)) X1219 40 (nI at0) (nI at0) (nI r1218) (-1) nd1215 K (by omega)) (gV pw_1650 pw_1651 pw_1652 pw_1523 pw_1589) hV_X12_node 0 9 rfl rfl rfl rfl (Nat.le_of_ble_eq_true rfl) dX12_statementOf_374 ⟨Nat.le_of_ble_eq_true rfl, Nat.le_of_ble_eq_true rfl⟩ ⟨(by show 2 + 1 ≤ (26 * n + 44); omega), (by show 8 + (7 + 11) + 60 ≤ (2000 * n + 4400); omega)⟩ (fun v1297 u1295 H locs hw1296 hP hD hS => ?_)
      obtain ⟨X1298, rfl⟩ : ∃ z, z = u1295 := ⟨_, rfl⟩
      obtain ⟨hw1296, h1299⟩ := hw1296
      have h1299 : NewN X1219 X1298 nd1215 40 (nI at0) (nI at0) (nI r1218) (-1) := h1299
      obtain rfl : v1297 = some (.int (nI nd1215)) := hw1296
      have hP : va_P G.1 pCl (mW G h0 a (upd (upd (upd (upd (upd (upd (upd F 15 (nI fa1213)) 16 pl1214) 27 (nI (nd1215 + 1))) 31 (nI wr1217)) 64 (nI at1212)) 65 (nI ne)) 66 (nI lk1216)) (updA X1298 2 K)) _ := mW_to (F := F) (l1 := [(15, (nI fa1213)), (16, pl1214), (27, (nI nd1215)), (31, (nI wr1217)), (64, (nI at1212)), (65, (nI ne)), (66, (nI lk1216)), (27, (nI (nd1215 + 1)))]) (l2 := [(15, (nI fa1213)), (16, pl1214), (27, (nI (nd1215 + 1))), (31, (nI wr1217)), (64, (nI at1212)), (65, (nI ne)), (66, (nI lk1216))]) (V := [(nI fa1213), pl1214, (nI (nd1215 + 1)), (nI wr1217), (nI at1212), (nI ne), (nI lk1216), (nI (nd1215 + 1)), (nI fa1213), pl1214, (nI (nd1215 + 1)), (nI wr1217), (nI at1212), (nI ne), (nI lk1216)]) rfl rfl rfl hP
      have hD : va_D A (mW G h0 a (upd (upd (upd (upd (upd (upd (upd F 15 (nI fa1213)) 16 pl1214) 27 (nI (nd1215 + 1))) 31 (nI wr1217)) 64 (nI at1212)) 65 (nI ne)) 66 (nI lk1216)) (updA X1298 2 K)) := mW_D hD
      refine W.widen (k := 0) (n := 0) (Nat.le_of_ble_eq_true rfl) (Nat.le_of_ble_eq_true rfl) ?_
      refine W.eq (g2 := F0 m 377 ls [.int (nI nd1215)]) rfl ?_
      have hkp1300 : Kp B X1298 wr1217 T := (Kp.new hkp1234 h1299)
      refine lv_istore_n (lv' := [(2, .int (nI nd1215)), (1, .int (nI at0)), (0, .ref h0)]) hx hb dX12_statementOf_377 rfl hl (by decide) rfl (fun ls hl => ?_)
      refine lv_aload_n hx hb dX12_statementOf_378 rfl (lv_at hl 2 rfl) ?_
      refine lv_bipush (v := 59) hx hb dX12_statementOf_379 (by decide) ?_
      have hP : va_P G.1 pCl (mW G h0 a (upd (upd (upd (upd (upd (upd (upd (upd (upd F 15 (nI fa1213)) 16 pl1214) 27 (nI (nd1215 + 1))) 31 (nI wr1217)) 64 (nI at1212)) 65 (nI ne)) 66 (nI lk1216)) 15 (nI fa1213)) 64 (nI at1212)) (updA (updA X1298 2 K) 2 K)) _ := mW_to (F := F) (l1 := [(15, (nI fa1213)), (16, pl1214), (27, (nI (nd1215 + 1))), (31, (nI wr1217)), (64, (nI at1212)), (65, (nI ne)), (66, (nI lk1216))]) (l2 := [(15, (nI fa1213)), (16, pl1214), (27, (nI (nd1215 + 1))), (31, (nI wr1217)), (64, (nI at1212)), (65, (nI ne)), (66, (nI lk1216)), (15, (nI fa1213)), (64, (nI at1212))]) (V := [(nI fa1213), pl1214, (nI (nd1215 + 1)), (nI wr1217), (nI at1212), (nI ne), (nI lk1216), (nI fa1213), pl1214, (nI (nd1215 + 1)), (nI wr1217), (nI at1212), (nI ne), (nI lk1216), (nI fa1213), (nI at1212)]) rfl rfl (show (updA X1298 2 K) = (updA (updA X1298 2 K) 2 K) from updsA_eq2 (F := X1298) (l1 := [(2, K)]) (l2 := [(2, K), (2, K)]) (V := [K, K, K]) rfl rfl) hP
      have hD : va_D A (mW G h0 a (upd (upd (upd (upd (upd (upd (upd (upd (upd F 15 (nI fa1213)) 16 pl1214) 27 (nI (nd1215 + 1))) 31 (nI wr1217)) 64 (nI at1212)) 65 (nI ne)) 66 (nI lk1216)) 15 (nI fa1213)) 64 (nI at1212)) (updA (updA X1298 2 K) 2 K)) := mW_D hD
      refine pc_V0 (G := G) (As := [.int 59]) (rest := []) hx hb hml hown hq hE hX pX0_al hP hD hS hA hl.1 (R_take l G h0 a (upd (upd (upd (upd (upd (upd (upd F 15 (nI fa1213)) 16 pl1214) 27 (nI (nd1215 + 1))) 31 (nI wr1217)) 64 (nI at1212)) 65 (nI ne)) 66 (nI lk1216)) (updA X1298 2 K) at1212 T fa1213 K 59 (by omega) (by omega) hK (by omega) (by decide) (by decide)) (gV pw_1614 pw_1615 pw_1616 pw_1523 pw_1601) hV_X12_take 0 9 rfl rfl rfl rfl (Nat.le_of_ble_eq_true rfl) dX12_statementOf_381 ⟨Nat.le_of_ble_eq_true rfl, Nat.le_of_ble_eq_true rfl⟩ ⟨(by show 4 + 1 ≤ (26 * n + 44); omega), (by show 8 + (2 + 11) + 103 ≤ (2000 * n + 4400); omega)⟩ (fun v1303 u1301 H locs hw1302 hP hD hS => ?_)
      obtain ⟨at1304, fa1305, pl1306⟩ := u1301
      obtain ⟨hw1302, h1307, h1308, h1309, h1310, h1311, h1312, h1313, h1314⟩ := hw1302
      have h1307 : at1212 ≤ at1304 := h1307
      have h1308 : at1304 ≤ T := h1308
      have h1309 : fa1213 ≤ fa1305 := h1309
      have h1310 : fa1305 ≤ 100 := h1310
      have h1311 : If (0 < fa1213) (at1304 = at1212 ∧ fa1305 = fa1213) := h1311
      have h1312 : at1304 ≤ at1212 + 1 := h1312
      have h1313 : at1212 + 1 ≤ at1304 + fa1305 := h1313
      have h1314 : If (fa1305 = 0) (K at1212 = 59) := h1314
      obtain rfl : v1303 = none := hw1302
      have hP : va_P G.1 pCl (mW G h0 a (upd (upd (upd (upd (upd (upd (upd F 15 (nI fa1305)) 16 pl1306) 27 (nI (nd1215 + 1))) 31 (nI wr1217)) 64 (nI at1304)) 65 (nI ne)) 66 (nI lk1216)) (updA X1298 2 K)) _ := mW_to (F := F) (l1 := [(15, (nI fa1213)), (16, pl1214), (27, (nI (nd1215 + 1))), (31, (nI wr1217)), (64, (nI at1212)), (65, (nI ne)), (66, (nI lk1216)), (15, (nI fa1305)), (16, pl1306), (64, (nI at1304))]) (l2 := [(15, (nI fa1305)), (16, pl1306), (27, (nI (nd1215 + 1))), (31, (nI wr1217)), (64, (nI at1304)), (65, (nI ne)), (66, (nI lk1216))]) (V := [(nI fa1305), pl1306, (nI (nd1215 + 1)), (nI wr1217), (nI at1304), (nI ne), (nI lk1216), (nI fa1305), pl1306, (nI at1304), (nI fa1305), pl1306, (nI (nd1215 + 1)), (nI wr1217), (nI at1304), (nI ne), (nI lk1216)]) rfl rfl (show (updA (updA X1298 2 K) 2 K) = (updA X1298 2 K) from updsA_eq2 (F := X1298) (l1 := [(2, K), (2, K)]) (l2 := [(2, K)]) (V := [K, K, K]) rfl rfl) hP
      have hD : va_D A (mW G h0 a (upd (upd (upd (upd (upd (upd (upd F 15 (nI fa1305)) 16 pl1306) 27 (nI (nd1215 + 1))) 31 (nI wr1217)) 64 (nI at1304)) 65 (nI ne)) 66 (nI lk1216)) (updA X1298 2 K)) := mW_D hD
      refine W.widen (k := 0) (n := 0) (Nat.le_of_ble_eq_true rfl) (Nat.le_of_ble_eq_true rfl) ?_
      refine W.eq (g2 := F0 m 384 ls []) rfl ?_
      obtain ⟨n1316, n1315⟩ := h1311 e1235
      replace n1316 := n1316.symm
      subst n1316
      replace n1315 := n1315.symm
      subst n1315
      refine lv_iload_n hx hb dX12_statementOf_384 rfl (lv_at hl 0 rfl) ?_
      have hz1317 : at0 ≤ at1212 := (by omega)
      have hz1318 : at1212 ≤ T := (by omega)
      have hz1319 : fa1213 ≤ 100 := (by omega)
      have hz1320 : nd ≤ (nd1215 + 1) := (by omega)
      have hz1321 : (nd1215 + 1) + 2 * at0 ≤ nd + 2 * at1212 + 100000 * fa1213 := (by omega)
      have hz1322 : (nd1215 + 1) + 2 * at0 ≤ nd + 2 * at1212 + (60 * (21 - ne) + 40) := (by omega)
      have hz1323 : wr ≤ wr1217 := (by omega)
      have hz1324 : wr1217 + at0 ≤ wr + at1212 := (by omega)
      have hz1325 : lk ≤ lk1216 := (by omega)
      have hz1326 : lk1216 ≤ 60 + 100 * fa1213 := (by omega)
      have hz1327 : at0 + 1 ≤ at1212 + fa1213 := (by omega)
      have hz1328 : nd1215 ≤ (nd1215 + 1) := (by omega)
      have hz1329 : Kp B X1298 wr1217 T := hkp1300
      have hz1330 : If (fa1213 = 0) (Low B X1298 nd wr ∧ Frs K T wr1217 X1298 nd (nd1215 + 1) 20000 [(nd1215, (280 + 4 * (21 - ne)))] ∧ kcl 3 (X1298 9 nd1215) = true) := (fun e => absurd e (by omega))
      have hP : va_P G.1 pCl (mW G h0 a (upd (upd (upd (upd (upd (upd (upd F 15 (nI fa1213)) 16 pl1306) 27 (nI (nd1215 + 1))) 31 (nI wr1217)) 64 (nI at1212)) 65 (nI ne)) 66 (nI lk1216)) (updA X1298 2 K)) _ := hP
      have hD : va_D A (mW G h0 a (upd (upd (upd (upd (upd (upd (upd F 15 (nI fa1213)) 16 pl1306) 27 (nI (nd1215 + 1))) 31 (nI wr1217)) 64 (nI at1212)) 65 (nI ne)) 66 (nI lk1216)) (updA X1298 2 K)) := mW_D hD
      exact W.iret (v := (nI nd1215)) hx hb hr (fun t9 ht9 hW9 => ⟨⟨_, (at1212, fa1213, pl1306, (nd1215 + 1), lk1216, wr1217, nd1215, X1298), rfl, ⟨rfl, hz1317, hz1318, hz1319, hz1320, hz1321, hz1322, hz1323, hz1324, hz1325, hz1326, hz1327, hz1328, hz1329, hz1330⟩, by rw [ht9]; exact hP, hD⟩, hS.F ht9⟩) hS.2.2 dX12_statementOf_385
  by_cases h1331 : (K at0) = 336
  · refine lv_lookup (tgt := 386) (off := 377) hx hb dX12_statementOf_9 (by decide) (by rw [h1331]; decide) (by decide) ?_
    have n1332 : at0 < T := tk_lt hat hK h1331 (by decide) (by decide)
    refine lv_aload_n hx hb dX12_statementOf_386 rfl (lv_at hl 1 rfl) ?_
    have hP : va_P G.1 pCl (mW G h0 a (upd (upd (upd (upd (upd (upd (upd (upd (upd (upd (upd (upd F 15 0) 27 (nI nd)) 31 (nI wr)) 64 (nI at0)) 65 (nI ne)) 66 (nI lk)) 15 0) 27 (nI nd)) 31 (nI wr)) 64 (nI at0)) 65 (nI ne)) 66 (nI lk)) (updA B 2 K)) _ := mW_to (F := F) (l1 := [(15, 0), (27, (nI nd)), (31, (nI wr)), (64, (nI at0)), (65, (nI ne)), (66, (nI lk))]) (l2 := [(15, 0), (27, (nI nd)), (31, (nI wr)), (64, (nI at0)), (65, (nI ne)), (66, (nI lk)), (15, 0), (27, (nI nd)), (31, (nI wr)), (64, (nI at0)), (65, (nI ne)), (66, (nI lk))]) (V := [0, (nI nd), (nI wr), (nI at0), (nI ne), (nI lk), 0, (nI nd), (nI wr), (nI at0), (nI ne), (nI lk), 0, (nI nd), (nI wr), (nI at0), (nI ne), (nI lk)]) rfl rfl rfl hP
    have hD : va_D A (mW G h0 a (upd (upd (upd (upd (upd (upd (upd (upd (upd (upd (upd (upd F 15 0) 27 (nI nd)) 31 (nI wr)) 64 (nI at0)) 65 (nI ne)) 66 (nI lk)) 15 0) 27 (nI nd)) 31 (nI wr)) 64 (nI at0)) 65 (nI ne)) 66 (nI lk)) (updA B 2 K)) := mW_D hD
    refine pc_V0 (G := G) (As := []) (rest := []) hx hb hml hown hq hE hX pX0_al hP hD hS hA hl.1 (hTr h0 a (upd (upd (upd (upd (upd (upd F 15 0) 27 (nI nd)) 31 (nI wr)) 64 (nI at0)) 65 (nI ne)) 66 (nI lk)) B at0 T ne nd wr lk K (by omega) (by omega) hK (by omega) (by omega) (by omega) (by omega) (hkp1).2 (by omega) (by omega)) (gV pw_1717 pw_1718 pw_1719 pw_1523 pw_1720) hV_X12_attempt 0 9 rfl rfl rfl rfl (Nat.le_of_ble_eq_true rfl) dX12_statementOf_387 ⟨Nat.le_of_ble_eq_true rfl, Nat.le_of_ble_eq_true rfl⟩ ⟨(by show (26 * n + 43) + 1 ≤ (26 * n + 44); omega), (by show 8 + (7 + 11) + (2000 * n + 4300) ≤ (2000 * n + 4400); omega)⟩ (fun v1335 u1333 H locs hw1334 hP hD hS => ?_)
    obtain ⟨at1336, fa1337, pl1338, nd1339, lk1340, wr1341, r1342, X1343⟩ := u1333
    obtain ⟨hw1334, h1344, h1345, h1346, h1347, h1348, h1349, h1350, h1351, h1352, h1353, h1354, h1355, h1356, h1357⟩ := hw1334
    have h1344 : at0 ≤ at1336 := h1344
    have h1345 : at1336 ≤ T := h1345
    have h1346 : fa1337 ≤ 100 := h1346
    have h1347 : nd ≤ nd1339 := h1347
    have h1348 : nd1339 + 2 * at0 ≤ nd + 2 * at1336 + 100000 * fa1337 := h1348
    have h1349 : nd1339 + 2 * at0 ≤ nd + 2 * at1336 + (60 * (21 - ne) + 40) := h1349
    have h1350 : wr ≤ wr1341 := h1350
    have h1351 : wr1341 + at0 ≤ wr + at1336 := h1351
    have h1352 : lk ≤ lk1340 := h1352
    have h1353 : lk1340 ≤ 60 + 100 * fa1337 := h1353
    have h1354 : at0 + 1 ≤ at1336 + fa1337 := h1354
    have h1355 : r1342 ≤ nd1339 := h1355
    have h1356 : Kp B X1343 wr1341 T := h1356
    have h1357 : If (fa1337 = 0) (Low B X1343 nd wr ∧ Frs K T wr1341 X1343 nd nd1339 20000 [(r1342, (280 + 4 * (21 - ne)))] ∧ kcl 3 (X1343 9 r1342) = true) := h1357
    obtain rfl : v1335 = some (.int (nI r1342)) := hw1334
    have hP : va_P G.1 pCl (mW G h0 a (upd (upd (upd (upd (upd (upd (upd F 15 (nI fa1337)) 16 pl1338) 27 (nI nd1339)) 31 (nI wr1341)) 64 (nI at1336)) 65 (nI ne)) 66 (nI lk1340)) (updA X1343 2 K)) _ := mW_to (F := F) (l1 := [(15, 0), (27, (nI nd)), (31, (nI wr)), (64, (nI at0)), (65, (nI ne)), (66, (nI lk)), (15, (nI fa1337)), (16, pl1338), (27, (nI nd1339)), (31, (nI wr1341)), (64, (nI at1336)), (65, (nI ne)), (66, (nI lk1340))]) (l2 := [(15, (nI fa1337)), (16, pl1338), (27, (nI nd1339)), (31, (nI wr1341)), (64, (nI at1336)), (65, (nI ne)), (66, (nI lk1340))]) (V := [(nI fa1337), (nI nd1339), (nI wr1341), (nI at1336), (nI ne), (nI lk1340), (nI fa1337), pl1338, (nI nd1339), (nI wr1341), (nI at1336), (nI ne), (nI lk1340), (nI fa1337), pl1338, (nI nd1339), (nI wr1341), (nI at1336), (nI ne), (nI lk1340)]) rfl rfl rfl hP
    have hD : va_D A (mW G h0 a (upd (upd (upd (upd (upd (upd (upd F 15 (nI fa1337)) 16 pl1338) 27 (nI nd1339)) 31 (nI wr1341)) 64 (nI at1336)) 65 (nI ne)) 66 (nI lk1340)) (updA X1343 2 K)) := mW_D hD
    refine W.widen (k := 0) (n := 0) (Nat.le_of_ble_eq_true rfl) (Nat.le_of_ble_eq_true rfl) ?_
    refine W.eq (g2 := F0 m 390 ls [.int (nI r1342)]) rfl ?_
    have hkp1358 : Kp B X1343 wr1341 T := (Kp.trans hkp1 h1356)
    rcases Nat.eq_zero_or_pos fa1337 with e1359 | e1359
    · subst e1359
      have hP : va_P G.1 pCl (mW G h0 a (upd (upd (upd (upd (upd (upd (upd F 15 0) 16 pl1338) 27 (nI nd1339)) 31 (nI wr1341)) 64 (nI at1336)) 65 (nI ne)) 66 (nI lk1340)) (updA X1343 2 K)) _ := hP
      have hD : va_D A (mW G h0 a (upd (upd (upd (upd (upd (upd (upd F 15 0) 16 pl1338) 27 (nI nd1339)) 31 (nI wr1341)) 64 (nI at1336)) 65 (nI ne)) 66 (nI lk1340)) (updA X1343 2 K)) := mW_D hD
      obtain ⟨hlw1360, hf1361, hc1362⟩ := h1357 rfl
      have hlo1363 : Low B X1343 nd wr := (Low.trans hlo2 hlw1360 (by omega) (by omega))
      have hm1364 := Frs.mem hf1361
      have hz1365 : at0 ≤ at1336 := (by omega)
      have hz1366 : at1336 ≤ T := (by omega)
      have hz1367 : 0 ≤ 100 := (by omega)
      have hz1368 : nd ≤ nd1339 := (by omega)
      have hz1369 : nd1339 + 2 * at0 ≤ nd + 2 * at1336 + 100000 * 0 := (by omega)
      have hz1370 : nd1339 + 2 * at0 ≤ nd + 2 * at1336 + (60 * (21 - ne) + 40) := (by omega)
      have hz1371 : wr ≤ wr1341 := (by omega)
      have hz1372 : wr1341 + at0 ≤ wr + at1336 := (by omega)
      have hz1373 : lk ≤ lk1340 := (by omega)
      have hz1374 : lk1340 ≤ 60 + 100 * 0 := (by omega)
      have hz1375 : at0 + 1 ≤ at1336 + 0 := (by omega)
      have hz1376 : r1342 ≤ nd1339 := (by omega)
      have hz1377 : Kp B X1343 wr1341 T := hkp1358
      have hz1378 : If (0 = 0) (Low B X1343 nd wr ∧ Frs K T wr1341 X1343 nd nd1339 20000 [(r1342, (280 + 4 * (21 - ne)))] ∧ kcl 3 (X1343 9 r1342) = true) := (fun _ => ⟨hlo1363, Frs.up hf1361 (by omega), hc1362⟩)
      have hP : va_P G.1 pCl (mW G h0 a (upd (upd (upd (upd (upd (upd (upd F 15 (nI 0)) 16 pl1338) 27 (nI nd1339)) 31 (nI wr1341)) 64 (nI at1336)) 65 (nI ne)) 66 (nI lk1340)) (updA X1343 2 K)) _ := mW_to (F := F) (l1 := [(15, 0), (16, pl1338), (27, (nI nd1339)), (31, (nI wr1341)), (64, (nI at1336)), (65, (nI ne)), (66, (nI lk1340))]) (l2 := [(15, (nI 0)), (16, pl1338), (27, (nI nd1339)), (31, (nI wr1341)), (64, (nI at1336)), (65, (nI ne)), (66, (nI lk1340))]) (V := [(nI 0), pl1338, (nI nd1339), (nI wr1341), (nI at1336), (nI ne), (nI lk1340), (nI 0), pl1338, (nI nd1339), (nI wr1341), (nI at1336), (nI ne), (nI lk1340)]) rfl rfl rfl hP
      have hD : va_D A (mW G h0 a (upd (upd (upd (upd (upd (upd (upd F 15 (nI 0)) 16 pl1338) 27 (nI nd1339)) 31 (nI wr1341)) 64 (nI at1336)) 65 (nI ne)) 66 (nI lk1340)) (updA X1343 2 K)) := mW_D hD
      exact W.iret (v := (nI r1342)) hx hb hr (fun t9 ht9 hW9 => ⟨⟨_, (at1336, 0, pl1338, nd1339, lk1340, wr1341, r1342, X1343), rfl, ⟨rfl, hz1365, hz1366, hz1367, hz1368, hz1369, hz1370, hz1371, hz1372, hz1373, hz1374, hz1375, hz1376, hz1377, hz1378⟩, by rw [ht9]; exact hP, hD⟩, hS.F ht9⟩) hS.2.2 dX12_statementOf_390
    · have e1359 := e1359
      have hz1379 : at0 ≤ at1336 := (by omega)
      have hz1380 : at1336 ≤ T := (by omega)
      have hz1381 : fa1337 ≤ 100 := (by omega)
      have hz1382 : nd ≤ nd1339 := (by omega)
      have hz1383 : nd1339 + 2 * at0 ≤ nd + 2 * at1336 + 100000 * fa1337 := (by omega)
      have hz1384 : nd1339 + 2 * at0 ≤ nd + 2 * at1336 + (60 * (21 - ne) + 40) := (by omega)
      have hz1385 : wr ≤ wr1341 := (by omega)
      have hz1386 : wr1341 + at0 ≤ wr + at1336 := (by omega)
      have hz1387 : lk ≤ lk1340 := (by omega)
      have hz1388 : lk1340 ≤ 60 + 100 * fa1337 := (by omega)
      have hz1389 : at0 + 1 ≤ at1336 + fa1337 := (by omega)
      have hz1390 : r1342 ≤ nd1339 := (by omega)
      have hz1391 : Kp B X1343 wr1341 T := hkp1358
      have hz1392 : If (fa1337 = 0) (Low B X1343 nd wr ∧ Frs K T wr1341 X1343 nd nd1339 20000 [(r1342, (280 + 4 * (21 - ne)))] ∧ kcl 3 (X1343 9 r1342) = true) := (fun e => absurd e (by omega))
      have hP : va_P G.1 pCl (mW G h0 a (upd (upd (upd (upd (upd (upd (upd F 15 (nI fa1337)) 16 pl1338) 27 (nI nd1339)) 31 (nI wr1341)) 64 (nI at1336)) 65 (nI ne)) 66 (nI lk1340)) (updA X1343 2 K)) _ := hP
      have hD : va_D A (mW G h0 a (upd (upd (upd (upd (upd (upd (upd F 15 (nI fa1337)) 16 pl1338) 27 (nI nd1339)) 31 (nI wr1341)) 64 (nI at1336)) 65 (nI ne)) 66 (nI lk1340)) (updA X1343 2 K)) := mW_D hD
      exact W.iret (v := (nI r1342)) hx hb hr (fun t9 ht9 hW9 => ⟨⟨_, (at1336, fa1337, pl1338, nd1339, lk1340, wr1341, r1342, X1343), rfl, ⟨rfl, hz1379, hz1380, hz1381, hz1382, hz1383, hz1384, hz1385, hz1386, hz1387, hz1388, hz1389, hz1390, hz1391, hz1392⟩, by rw [ht9]; exact hP, hD⟩, hS.F ht9⟩) hS.2.2 dX12_statementOf_390
  by_cases h1393 : (K at0) = 338
  · refine lv_lookup (tgt := 202) (off := 193) hx hb dX12_statementOf_9 (by decide) (by rw [h1393]; decide) (by decide) ?_
    have n1394 : at0 < T := tk_lt hat hK h1393 (by decide) (by decide)
    refine lv_aload_n hx hb dX12_statementOf_202 rfl (lv_at hl 1 rfl) ?_
    refine lv_dup hx hb dX12_statementOf_203 rfl ?_
    refine r_get (v := .int (nI at0)) hx hb hown hq hE hP 64 343 tFX12_64 (by decide) pw_1592 rfl dX12_statementOf_204 ?_
    refine lv_iconst (v := 1) hx hb dX12_statementOf_207 (by decide) ?_
    refine lv_iadd hx hb dX12_statementOf_208 ?_
    refine lv_topi (fun x1395 e1396 => ?_)
    obtain rfl : x1395 = nI (at0 + 1) := e1396.trans (nI_add (at0) (1))
    refine r_put (v := (nI (at0 + 1))) (ty := .int) hx hb hown hq hE hP hD hS 64 343 tFX12_64 (by decide) pw_1592 (by decide) rfl rfl (ms_64 a _ _) dX12_statementOf_209 (fun H locs hP hD hS => ?_)
    refine lv_aload_n hx hb dX12_statementOf_212 rfl (lv_at hl 1 rfl) ?_
    refine lv_bipush (v := 40) hx hb dX12_statementOf_213 (by decide) ?_
    have hP : va_P G.1 pCl (mW G h0 a (upd (upd (upd (upd (upd (upd (upd (upd F 15 0) 27 (nI nd)) 31 (nI wr)) 64 (nI (at0 + 1))) 65 (nI ne)) 66 (nI lk)) 15 (nI 0)) 64 (nI (at0 + 1))) (updA (updA B 2 K) 2 K)) _ := mW_to (F := F) (l1 := [(15, 0), (27, (nI nd)), (31, (nI wr)), (64, (nI at0)), (65, (nI ne)), (66, (nI lk)), (64, (nI (at0 + 1)))]) (l2 := [(15, 0), (27, (nI nd)), (31, (nI wr)), (64, (nI (at0 + 1))), (65, (nI ne)), (66, (nI lk)), (15, (nI 0)), (64, (nI (at0 + 1)))]) (V := [(nI 0), (nI nd), (nI wr), (nI (at0 + 1)), (nI ne), (nI lk), (nI (at0 + 1)), (nI 0), (nI nd), (nI wr), (nI (at0 + 1)), (nI ne), (nI lk), (nI 0), (nI (at0 + 1))]) rfl rfl (show (updA B 2 K) = (updA (updA B 2 K) 2 K) from updsA_eq2 (F := B) (l1 := [(2, K)]) (l2 := [(2, K), (2, K)]) (V := [K, K, K]) rfl rfl) hP
    have hD : va_D A (mW G h0 a (upd (upd (upd (upd (upd (upd (upd (upd F 15 0) 27 (nI nd)) 31 (nI wr)) 64 (nI (at0 + 1))) 65 (nI ne)) 66 (nI lk)) 15 (nI 0)) 64 (nI (at0 + 1))) (updA (updA B 2 K) 2 K)) := mW_D hD
    refine pc_V0 (G := G) (As := [.int 40]) (rest := []) hx hb hml hown hq hE hX pX0_al hP hD hS hA hl.1 (R_take l G h0 a (upd (upd (upd (upd (upd (upd F 15 0) 27 (nI nd)) 31 (nI wr)) 64 (nI (at0 + 1))) 65 (nI ne)) 66 (nI lk)) (updA B 2 K) (at0 + 1) T 0 K 40 (by omega) (by omega) hK (by omega) (by decide) (by decide)) (gV pw_1614 pw_1615 pw_1616 pw_1523 pw_1601) hV_X12_take 0 9 rfl rfl rfl rfl (Nat.le_of_ble_eq_true rfl) dX12_statementOf_215 ⟨Nat.le_of_ble_eq_true rfl, Nat.le_of_ble_eq_true rfl⟩ ⟨(by show 4 + 1 ≤ (26 * n + 44); omega), (by show 8 + (2 + 11) + 103 ≤ (2000 * n + 4400); omega)⟩ (fun v1399 u1397 H locs hw1398 hP hD hS => ?_)
    obtain ⟨at1400, fa1401, pl1402⟩ := u1397
    obtain ⟨hw1398, h1403, h1404, h1405, h1406, h1407, h1408, h1409, h1410⟩ := hw1398
    have h1403 : (at0 + 1) ≤ at1400 := h1403
    have h1404 : at1400 ≤ T := h1404
    have h1405 : 0 ≤ fa1401 := h1405
    have h1406 : fa1401 ≤ 100 := h1406
    have h1407 : If (0 < 0) (at1400 = (at0 + 1) ∧ fa1401 = 0) := h1407
    have h1408 : at1400 ≤ (at0 + 1) + 1 := h1408
    have h1409 : (at0 + 1) + 1 ≤ at1400 + fa1401 := h1409
    have h1410 : If (fa1401 = 0) (K (at0 + 1) = 40) := h1410
    obtain rfl : v1399 = none := hw1398
    have hP : va_P G.1 pCl (mW G h0 a (upd (upd (upd (upd (upd (upd (upd F 15 (nI fa1401)) 16 pl1402) 27 (nI nd)) 31 (nI wr)) 64 (nI at1400)) 65 (nI ne)) 66 (nI lk)) (updA B 2 K)) _ := mW_to (F := F) (l1 := [(15, 0), (27, (nI nd)), (31, (nI wr)), (64, (nI (at0 + 1))), (65, (nI ne)), (66, (nI lk)), (15, (nI fa1401)), (16, pl1402), (64, (nI at1400))]) (l2 := [(15, (nI fa1401)), (16, pl1402), (27, (nI nd)), (31, (nI wr)), (64, (nI at1400)), (65, (nI ne)), (66, (nI lk))]) (V := [(nI fa1401), (nI nd), (nI wr), (nI at1400), (nI ne), (nI lk), (nI fa1401), pl1402, (nI at1400), (nI fa1401), pl1402, (nI nd), (nI wr), (nI at1400), (nI ne), (nI lk)]) rfl rfl (show (updA (updA B 2 K) 2 K) = (updA B 2 K) from updsA_eq2 (F := B) (l1 := [(2, K), (2, K)]) (l2 := [(2, K)]) (V := [K, K, K]) rfl rfl) hP
    have hD : va_D A (mW G h0 a (upd (upd (upd (upd (upd (upd (upd F 15 (nI fa1401)) 16 pl1402) 27 (nI nd)) 31 (nI wr)) 64 (nI at1400)) 65 (nI ne)) 66 (nI lk)) (updA B 2 K)) := mW_D hD
    refine W.widen (k := 0) (n := 0) (Nat.le_of_ble_eq_true rfl) (Nat.le_of_ble_eq_true rfl) ?_
    refine W.eq (g2 := F0 m 218 ls []) rfl ?_
    rcases Nat.eq_zero_or_pos fa1401 with e1411 | e1411
    · subst e1411
      have hP : va_P G.1 pCl (mW G h0 a (upd (upd (upd (upd (upd (upd (upd F 15 0) 16 pl1402) 27 (nI nd)) 31 (nI wr)) 64 (nI at1400)) 65 (nI ne)) 66 (nI lk)) (updA B 2 K)) _ := hP
      have hD : va_D A (mW G h0 a (upd (upd (upd (upd (upd (upd (upd F 15 0) 16 pl1402) 27 (nI nd)) 31 (nI wr)) 64 (nI at1400)) 65 (nI ne)) 66 (nI lk)) (updA B 2 K)) := mW_D hD
      refine lv_aload_n hx hb dX12_statementOf_218 rfl (lv_at hl 1 rfl) ?_
      refine lv_bipush (v := 35) hx hb dX12_statementOf_219 (by decide) ?_
      refine lv_iload_n hx hb dX12_statementOf_221 rfl (lv_at hl 0 rfl) ?_
      refine lv_iload_n hx hb dX12_statementOf_222 rfl (lv_at hl 0 rfl) ?_
      refine lv_aload_n hx hb dX12_statementOf_223 rfl (lv_at hl 1 rfl) ?_
      have hP : va_P G.1 pCl (mW G h0 a (upd (upd (upd (upd (upd (upd (upd (upd (upd (upd (upd (upd (upd F 15 0) 16 pl1402) 27 (nI nd)) 31 (nI wr)) 64 (nI at1400)) 65 (nI ne)) 66 (nI lk)) 15 0) 27 (nI nd)) 31 (nI wr)) 64 (nI at1400)) 65 (nI ne)) 66 (nI lk)) (updA B 2 K)) _ := mW_to (F := F) (l1 := [(15, 0), (16, pl1402), (27, (nI nd)), (31, (nI wr)), (64, (nI at1400)), (65, (nI ne)), (66, (nI lk))]) (l2 := [(15, 0), (16, pl1402), (27, (nI nd)), (31, (nI wr)), (64, (nI at1400)), (65, (nI ne)), (66, (nI lk)), (15, 0), (27, (nI nd)), (31, (nI wr)), (64, (nI at1400)), (65, (nI ne)), (66, (nI lk))]) (V := [0, pl1402, (nI nd), (nI wr), (nI at1400), (nI ne), (nI lk), 0, pl1402, (nI nd), (nI wr), (nI at1400), (nI ne), (nI lk), 0, (nI nd), (nI wr), (nI at1400), (nI ne), (nI lk)]) rfl rfl rfl hP
      have hD : va_D A (mW G h0 a (upd (upd (upd (upd (upd (upd (upd (upd (upd (upd (upd (upd (upd F 15 0) 16 pl1402) 27 (nI nd)) 31 (nI wr)) 64 (nI at1400)) 65 (nI ne)) 66 (nI lk)) 15 0) 27 (nI nd)) 31 (nI wr)) 64 (nI at1400)) 65 (nI ne)) 66 (nI lk)) (updA B 2 K)) := mW_D hD
      refine pc_V0 (G := G) (As := []) (rest := [.int (nI at0), .int (nI at0), .int 35, .ref h0]) hx hb hml hown hq hE hX pX0_al hP hD hS hA hl.1 (hEc h0 a (upd (upd (upd (upd (upd (upd (upd F 15 0) 16 pl1402) 27 (nI nd)) 31 (nI wr)) 64 (nI at1400)) 65 (nI ne)) 66 (nI lk)) B at1400 T ne nd wr lk K (by omega) (by omega) hK (by omega) (by omega) (by omega) (by omega) (hkp1).2 (by omega)) (gV pw_1640 pw_1641 pw_1642 pw_1523 pw_1656) hV_X12_choice 0 9 rfl rfl rfl rfl (Nat.le_of_ble_eq_true rfl) dX12_statementOf_224 ⟨Nat.le_of_ble_eq_true rfl, Nat.le_of_ble_eq_true rfl⟩ ⟨(by show (20 * n + 27) + 1 ≤ (26 * n + 44); omega), (by show 8 + (4 + 11) + (1000 * n + 40 * 27) ≤ (2000 * n + 4400); omega)⟩ (fun v1414 u1412 H locs hw1413 hP hD hS => ?_)
      obtain ⟨at1415, fa1416, pl1417, nd1418, lk1419, wr1420, r1421, X1422⟩ := u1412
      obtain ⟨hw1413, h1423, h1424, h1425, h1426, h1427, h1428, h1429, h1430, h1431, h1432, h1433, h1434, h1435, h1436⟩ := hw1413
      have h1423 : at1400 ≤ at1415 := h1423
      have h1424 : at1415 ≤ T := h1424
      have h1425 : fa1416 ≤ 100 := h1425
      have h1426 : nd ≤ nd1418 := h1426
      have h1427 : nd1418 + 2 * at1400 ≤ nd + 2 * at1415 + 100000 * fa1416 := h1427
      have h1428 : nd1418 + 2 * at1400 ≤ nd + 2 * at1415 + 40 * (21 - ne) := h1428
      have h1429 : wr ≤ wr1420 := h1429
      have h1430 : wr1420 + at1400 ≤ wr + at1415 := h1430
      have h1431 : lk ≤ lk1419 := h1431
      have h1432 : lk1419 ≤ 60 + 100 * fa1416 := h1432
      have h1433 : at1400 + 1 ≤ at1415 + fa1416 := h1433
      have h1434 : r1421 ≤ nd1418 := h1434
      have h1435 : Kp B X1422 wr1420 T := h1435
      have h1436 : If (fa1416 = 0) (Low B X1422 nd wr ∧ Frs K T wr1420 X1422 nd nd1418 20000 [(r1421, (211 + lk1419 - (10 * ne + lk)))] ∧ kcl 1 (X1422 9 r1421) = true) := h1436
      obtain rfl : v1414 = some (.int (nI r1421)) := hw1413
      have hP : va_P G.1 pCl (mW G h0 a (upd (upd (upd (upd (upd (upd (upd F 15 (nI fa1416)) 16 pl1417) 27 (nI nd1418)) 31 (nI wr1420)) 64 (nI at1415)) 65 (nI ne)) 66 (nI lk1419)) (updA X1422 2 K)) _ := mW_to (F := F) (l1 := [(15, 0), (16, pl1402), (27, (nI nd)), (31, (nI wr)), (64, (nI at1400)), (65, (nI ne)), (66, (nI lk)), (15, (nI fa1416)), (16, pl1417), (27, (nI nd1418)), (31, (nI wr1420)), (64, (nI at1415)), (65, (nI ne)), (66, (nI lk1419))]) (l2 := [(15, (nI fa1416)), (16, pl1417), (27, (nI nd1418)), (31, (nI wr1420)), (64, (nI at1415)), (65, (nI ne)), (66, (nI lk1419))]) (V := [(nI fa1416), pl1417, (nI nd1418), (nI wr1420), (nI at1415), (nI ne), (nI lk1419), (nI fa1416), pl1417, (nI nd1418), (nI wr1420), (nI at1415), (nI ne), (nI lk1419), (nI fa1416), pl1417, (nI nd1418), (nI wr1420), (nI at1415), (nI ne), (nI lk1419)]) rfl rfl rfl hP
      have hD : va_D A (mW G h0 a (upd (upd (upd (upd (upd (upd (upd F 15 (nI fa1416)) 16 pl1417) 27 (nI nd1418)) 31 (nI wr1420)) 64 (nI at1415)) 65 (nI ne)) 66 (nI lk1419)) (updA X1422 2 K)) := mW_D hD
      refine W.widen (k := 0) (n := 0) (Nat.le_of_ble_eq_true rfl) (Nat.le_of_ble_eq_true rfl) ?_
      refine W.eq (g2 := F0 m 227 ls [.int (nI r1421), .int (nI at0), .int (nI at0), .int 35, .ref h0]) rfl ?_
      have hkp1437 : Kp B X1422 wr1420 T := (Kp.trans hkp1 h1435)
      rcases Nat.eq_zero_or_pos fa1416 with e1438 | e1438
      · subst e1438
        have hP : va_P G.1 pCl (mW G h0 a (upd (upd (upd (upd (upd (upd (upd F 15 0) 16 pl1417) 27 (nI nd1418)) 31 (nI wr1420)) 64 (nI at1415)) 65 (nI ne)) 66 (nI lk1419)) (updA X1422 2 K)) _ := hP
        have hD : va_D A (mW G h0 a (upd (upd (upd (upd (upd (upd (upd F 15 0) 16 pl1417) 27 (nI nd1418)) 31 (nI wr1420)) 64 (nI at1415)) 65 (nI ne)) 66 (nI lk1419)) (updA X1422 2 K)) := mW_D hD
        obtain ⟨hlw1439, hf1440, hc1441⟩ := h1436 rfl
        have hlo1442 : Low B X1422 nd wr := (Low.trans hlo2 hlw1439 (by omega) (by omega))
        have hm1443 := Frs.mem hf1440
        refine lv_iconst (v := (-1)) hx hb dX12_statementOf_227 (by decide) ?_
        have hP : va_P G.1 pCl (mW G h0 a (upd (upd (upd (upd (upd (upd (upd (upd F 15 0) 16 pl1417) 27 (nI nd1418)) 31 (nI wr1420)) 64 (nI at1415)) 65 (nI ne)) 66 (nI lk1419)) 27 (nI nd1418)) (updA X1422 2 K)) _ := mW_to (F := F) (l1 := [(15, 0), (16, pl1417), (27, (nI nd1418)), (31, (nI wr1420)), (64, (nI at1415)), (65, (nI ne)), (66, (nI lk1419))]) (l2 := [(15, 0), (16, pl1417), (27, (nI nd1418)), (31, (nI wr1420)), (64, (nI at1415)), (65, (nI ne)), (66, (nI lk1419)), (27, (nI nd1418))]) (V := [0, pl1417, (nI nd1418), (nI wr1420), (nI at1415), (nI ne), (nI lk1419), 0, pl1417, (nI nd1418), (nI wr1420), (nI at1415), (nI ne), (nI lk1419), (nI nd1418)]) rfl rfl rfl hP
        have hD : va_D A (mW G h0 a (upd (upd (upd (upd (upd (upd (upd (upd F 15 0) 16 pl1417) 27 (nI nd1418)) 31 (nI wr1420)) 64 (nI at1415)) 65 (nI ne)) 66 (nI lk1419)) 27 (nI nd1418)) (updA X1422 2 K)) := mW_D hD
        refine pc_V0 (G := G) (As := [.int 35, .int (nI at0), .int (nI at0), .int (nI r1421), .int (-1)]) (rest := []) hx hb hml hown hq hE hX pX0_al hP hD hS hA hl.1 (R_nodeB l G h0 a (upd (upd (upd (upd (upd (upd (upd F 15 0) 16 pl1417) 27 (nI nd1418)) 31 (nI wr1420)) 64 (nI at1415)) 65 (nI ne)) 66 (nI lk1419)) X1422 35 (nI at0) (nI at0) (nI r1421) (-1) nd1418 K (by omega)) (gV pw_1650 pw_1651 pw_1652 pw_1523 pw_1589) hV_X12_node 0 9 rfl rfl rfl rfl (Nat.le_of_ble_eq_true rfl) dX12_statementOf_228 ⟨Nat.le_of_ble_eq_true rfl, Nat.le_of_ble_eq_true rfl⟩ ⟨(by show 2 + 1 ≤ (26 * n + 44); omega), (by show 8 + (7 + 11) + 60 ≤ (2000 * n + 4400); omega)⟩ (fun v1446 u1444 H locs hw1445 hP hD hS => ?_)
        obtain ⟨X1447, rfl⟩ : ∃ z, z = u1444 := ⟨_, rfl⟩
        obtain ⟨hw1445, h1448⟩ := hw1445
        have h1448 : NewN X1422 X1447 nd1418 35 (nI at0) (nI at0) (nI r1421) (-1) := h1448
        obtain rfl : v1446 = some (.int (nI nd1418)) := hw1445
        have hP : va_P G.1 pCl (mW G h0 a (upd (upd (upd (upd (upd (upd (upd F 15 0) 16 pl1417) 27 (nI (nd1418 + 1))) 31 (nI wr1420)) 64 (nI at1415)) 65 (nI ne)) 66 (nI lk1419)) (updA X1447 2 K)) _ := mW_to (F := F) (l1 := [(15, 0), (16, pl1417), (27, (nI nd1418)), (31, (nI wr1420)), (64, (nI at1415)), (65, (nI ne)), (66, (nI lk1419)), (27, (nI (nd1418 + 1)))]) (l2 := [(15, 0), (16, pl1417), (27, (nI (nd1418 + 1))), (31, (nI wr1420)), (64, (nI at1415)), (65, (nI ne)), (66, (nI lk1419))]) (V := [0, pl1417, (nI (nd1418 + 1)), (nI wr1420), (nI at1415), (nI ne), (nI lk1419), (nI (nd1418 + 1)), 0, pl1417, (nI (nd1418 + 1)), (nI wr1420), (nI at1415), (nI ne), (nI lk1419)]) rfl rfl rfl hP
        have hD : va_D A (mW G h0 a (upd (upd (upd (upd (upd (upd (upd F 15 0) 16 pl1417) 27 (nI (nd1418 + 1))) 31 (nI wr1420)) 64 (nI at1415)) 65 (nI ne)) 66 (nI lk1419)) (updA X1447 2 K)) := mW_D hD
        refine W.widen (k := 0) (n := 0) (Nat.le_of_ble_eq_true rfl) (Nat.le_of_ble_eq_true rfl) ?_
        refine W.eq (g2 := F0 m 231 ls [.int (nI nd1418)]) rfl ?_
        have hkp1449 : Kp B X1447 wr1420 T := (Kp.new hkp1437 h1448)
        have hlo1450 : Low B X1447 nd wr := (Low.new hlo1442 h1448 (by omega))
        have hc1451 : kcl 1 (X1447 9 r1421) = true := by rw [h1448.2.1 9 r1421 (by omega)]; exact hc1441
        have hf1452 : Frs K T wr1420 X1447 nd (nd1418 + 1) nd1418 [(nd1418, (280 + 4 * (21 - ne)))] := (Frs.new1 (k := 35) hf1440 (by omega) (by omega) (by omega) h1448 rfl rfl (by decide) (by decide) (by omega) (by omega) (by decide) (by simp) ⟨by decide, by decide, by decide, by decide⟩ hc1441 (newOK.m1 (by decide)) (newOK.m1 (by decide)) (newOK.m1 (by decide)) (by omega))
        have hn1453 : Nd X1447 nd1418 35 (nI r1421) (-1) (-1) (-1) := (NewN.toNd h1448)
        refine lv_istore_n (lv' := [(2, .int (nI nd1418)), (1, .int (nI at0)), (0, .ref h0)]) hx hb dX12_statementOf_231 rfl hl (by decide) rfl (fun ls hl => ?_)
        refine lv_aload_n hx hb dX12_statementOf_232 rfl (lv_at hl 2 rfl) ?_
        refine lv_bipush (v := 41) hx hb dX12_statementOf_233 (by decide) ?_
        have hP : va_P G.1 pCl (mW G h0 a (upd (upd (upd (upd (upd (upd (upd (upd (upd F 15 0) 16 pl1417) 27 (nI (nd1418 + 1))) 31 (nI wr1420)) 64 (nI at1415)) 65 (nI ne)) 66 (nI lk1419)) 15 (nI 0)) 64 (nI at1415)) (updA (updA X1447 2 K) 2 K)) _ := mW_to (F := F) (l1 := [(15, 0), (16, pl1417), (27, (nI (nd1418 + 1))), (31, (nI wr1420)), (64, (nI at1415)), (65, (nI ne)), (66, (nI lk1419))]) (l2 := [(15, 0), (16, pl1417), (27, (nI (nd1418 + 1))), (31, (nI wr1420)), (64, (nI at1415)), (65, (nI ne)), (66, (nI lk1419)), (15, (nI 0)), (64, (nI at1415))]) (V := [(nI 0), pl1417, (nI (nd1418 + 1)), (nI wr1420), (nI at1415), (nI ne), (nI lk1419), (nI 0), pl1417, (nI (nd1418 + 1)), (nI wr1420), (nI at1415), (nI ne), (nI lk1419), (nI 0), (nI at1415)]) rfl rfl (show (updA X1447 2 K) = (updA (updA X1447 2 K) 2 K) from updsA_eq2 (F := X1447) (l1 := [(2, K)]) (l2 := [(2, K), (2, K)]) (V := [K, K, K]) rfl rfl) hP
        have hD : va_D A (mW G h0 a (upd (upd (upd (upd (upd (upd (upd (upd (upd F 15 0) 16 pl1417) 27 (nI (nd1418 + 1))) 31 (nI wr1420)) 64 (nI at1415)) 65 (nI ne)) 66 (nI lk1419)) 15 (nI 0)) 64 (nI at1415)) (updA (updA X1447 2 K) 2 K)) := mW_D hD
        refine pc_V0 (G := G) (As := [.int 41]) (rest := []) hx hb hml hown hq hE hX pX0_al hP hD hS hA hl.1 (R_take l G h0 a (upd (upd (upd (upd (upd (upd (upd F 15 0) 16 pl1417) 27 (nI (nd1418 + 1))) 31 (nI wr1420)) 64 (nI at1415)) 65 (nI ne)) 66 (nI lk1419)) (updA X1447 2 K) at1415 T 0 K 41 (by omega) (by omega) hK (by omega) (by decide) (by decide)) (gV pw_1614 pw_1615 pw_1616 pw_1523 pw_1601) hV_X12_take 0 9 rfl rfl rfl rfl (Nat.le_of_ble_eq_true rfl) dX12_statementOf_235 ⟨Nat.le_of_ble_eq_true rfl, Nat.le_of_ble_eq_true rfl⟩ ⟨(by show 4 + 1 ≤ (26 * n + 44); omega), (by show 8 + (2 + 11) + 103 ≤ (2000 * n + 4400); omega)⟩ (fun v1456 u1454 H locs hw1455 hP hD hS => ?_)
        obtain ⟨at1457, fa1458, pl1459⟩ := u1454
        obtain ⟨hw1455, h1460, h1461, h1462, h1463, h1464, h1465, h1466, h1467⟩ := hw1455
        have h1460 : at1415 ≤ at1457 := h1460
        have h1461 : at1457 ≤ T := h1461
        have h1462 : 0 ≤ fa1458 := h1462
        have h1463 : fa1458 ≤ 100 := h1463
        have h1464 : If (0 < 0) (at1457 = at1415 ∧ fa1458 = 0) := h1464
        have h1465 : at1457 ≤ at1415 + 1 := h1465
        have h1466 : at1415 + 1 ≤ at1457 + fa1458 := h1466
        have h1467 : If (fa1458 = 0) (K at1415 = 41) := h1467
        obtain rfl : v1456 = none := hw1455
        have hP : va_P G.1 pCl (mW G h0 a (upd (upd (upd (upd (upd (upd (upd F 15 (nI fa1458)) 16 pl1459) 27 (nI (nd1418 + 1))) 31 (nI wr1420)) 64 (nI at1457)) 65 (nI ne)) 66 (nI lk1419)) (updA X1447 2 K)) _ := mW_to (F := F) (l1 := [(15, 0), (16, pl1417), (27, (nI (nd1418 + 1))), (31, (nI wr1420)), (64, (nI at1415)), (65, (nI ne)), (66, (nI lk1419)), (15, (nI fa1458)), (16, pl1459), (64, (nI at1457))]) (l2 := [(15, (nI fa1458)), (16, pl1459), (27, (nI (nd1418 + 1))), (31, (nI wr1420)), (64, (nI at1457)), (65, (nI ne)), (66, (nI lk1419))]) (V := [(nI fa1458), pl1459, (nI (nd1418 + 1)), (nI wr1420), (nI at1457), (nI ne), (nI lk1419), (nI fa1458), pl1459, (nI at1457), (nI fa1458), pl1459, (nI (nd1418 + 1)), (nI wr1420), (nI at1457), (nI ne), (nI lk1419)]) rfl rfl (show (updA (updA X1447 2 K) 2 K) = (updA X1447 2 K) from updsA_eq2 (F := X1447) (l1 := [(2, K), (2, K)]) (l2 := [(2, K)]) (V := [K, K, K]) rfl rfl) hP
        have hD : va_D A (mW G h0 a (upd (upd (upd (upd (upd (upd (upd F 15 (nI fa1458)) 16 pl1459) 27 (nI (nd1418 + 1))) 31 (nI wr1420)) 64 (nI at1457)) 65 (nI ne)) 66 (nI lk1419)) (updA X1447 2 K)) := mW_D hD
        refine W.widen (k := 0) (n := 0) (Nat.le_of_ble_eq_true rfl) (Nat.le_of_ble_eq_true rfl) ?_
        refine W.eq (g2 := F0 m 238 ls []) rfl ?_
        rcases Nat.eq_zero_or_pos fa1458 with e1468 | e1468
        · subst e1468
          have hP : va_P G.1 pCl (mW G h0 a (upd (upd (upd (upd (upd (upd (upd F 15 0) 16 pl1459) 27 (nI (nd1418 + 1))) 31 (nI wr1420)) 64 (nI at1457)) 65 (nI ne)) 66 (nI lk1419)) (updA X1447 2 K)) _ := hP
          have hD : va_D A (mW G h0 a (upd (upd (upd (upd (upd (upd (upd F 15 0) 16 pl1459) 27 (nI (nd1418 + 1))) 31 (nI wr1420)) 64 (nI at1457)) 65 (nI ne)) 66 (nI lk1419)) (updA X1447 2 K)) := mW_D hD
          refine lv_aload_n hx hb dX12_statementOf_238 rfl (lv_at hl 2 rfl) ?_
          refine r_get (v := .ref (a 13)) hx hb hown hq hE hP 21 50 tFX12_21 (by decide) pw_1443 rfl dX12_statementOf_239 ?_
          refine lv_iload_n hx hb dX12_statementOf_242 rfl (lv_at hl 0 rfl) ?_
          refine lv_aload_n hx hb dX12_statementOf_243 rfl (lv_at hl 2 rfl) ?_
          have hP : va_P G.1 pCl (mW G h0 a (upd (upd (upd (upd (upd (upd (upd (upd (upd (upd (upd (upd (upd F 15 0) 16 pl1459) 27 (nI (nd1418 + 1))) 31 (nI wr1420)) 64 (nI at1457)) 65 (nI ne)) 66 (nI lk1419)) 15 0) 27 (nI (nd1418 + 1))) 31 (nI wr1420)) 64 (nI at1457)) 65 (nI ne)) 66 (nI lk1419)) (updA X1447 2 K)) _ := mW_to (F := F) (l1 := [(15, 0), (16, pl1459), (27, (nI (nd1418 + 1))), (31, (nI wr1420)), (64, (nI at1457)), (65, (nI ne)), (66, (nI lk1419))]) (l2 := [(15, 0), (16, pl1459), (27, (nI (nd1418 + 1))), (31, (nI wr1420)), (64, (nI at1457)), (65, (nI ne)), (66, (nI lk1419)), (15, 0), (27, (nI (nd1418 + 1))), (31, (nI wr1420)), (64, (nI at1457)), (65, (nI ne)), (66, (nI lk1419))]) (V := [0, pl1459, (nI (nd1418 + 1)), (nI wr1420), (nI at1457), (nI ne), (nI lk1419), 0, pl1459, (nI (nd1418 + 1)), (nI wr1420), (nI at1457), (nI ne), (nI lk1419), 0, (nI (nd1418 + 1)), (nI wr1420), (nI at1457), (nI ne), (nI lk1419)]) rfl rfl rfl hP
          have hD : va_D A (mW G h0 a (upd (upd (upd (upd (upd (upd (upd (upd (upd (upd (upd (upd (upd F 15 0) 16 pl1459) 27 (nI (nd1418 + 1))) 31 (nI wr1420)) 64 (nI at1457)) 65 (nI ne)) 66 (nI lk1419)) 15 0) 27 (nI (nd1418 + 1))) 31 (nI wr1420)) 64 (nI at1457)) 65 (nI ne)) 66 (nI lk1419)) (updA X1447 2 K)) := mW_D hD
          refine pc_V0 (G := G) (As := []) (rest := [.int (nI nd1418), .ref (a 13)]) hx hb hml hown hq hE hX pX0_al hP hD hS hA hl.1 (hSt h0 a (upd (upd (upd (upd (upd (upd (upd F 15 0) 16 pl1459) 27 (nI (nd1418 + 1))) 31 (nI wr1420)) 64 (nI at1457)) 65 (nI ne)) 66 (nI lk1419)) X1447 at1457 T ne (nd1418 + 1) wr1420 lk1419 K (by omega) (by omega) hK (by omega) (by omega) (by omega) (by omega) (hkp1449).2 (by omega)) (gV pw_1699 pw_1700 pw_1701 pw_1523 pw_1706) hV_X12_statement 0 9 rfl rfl rfl rfl (Nat.le_of_ble_eq_true rfl) dX12_statementOf_244 ⟨Nat.le_of_ble_eq_true rfl, Nat.le_of_ble_eq_true rfl⟩ ⟨(by show (26 * n + 40) + 1 ≤ (26 * n + 44); omega), (by show 8 + (3 + 11) + (2000 * n + 4000) ≤ (2000 * n + 4400); omega)⟩ (fun v1471 u1469 H locs hw1470 hP hD hS => ?_)
          obtain ⟨at1472, fa1473, pl1474, nd1475, lk1476, wr1477, r1478, X1479⟩ := u1469
          obtain ⟨hw1470, h1480, h1481, h1482, h1483, h1484, h1485, h1486, h1487, h1488, h1489, h1490, h1491, h1492, h1493⟩ := hw1470
          have h1480 : at1457 ≤ at1472 := h1480
          have h1481 : at1472 ≤ T := h1481
          have h1482 : fa1473 ≤ 100 := h1482
          have h1483 : (nd1418 + 1) ≤ nd1475 := h1483
          have h1484 : nd1475 + 2 * at1457 ≤ (nd1418 + 1) + 2 * at1472 + 100000 * fa1473 := h1484
          have h1485 : nd1475 + 2 * at1457 ≤ (nd1418 + 1) + 2 * at1472 + (60 * (20 - ne) + 40) := h1485
          have h1486 : wr1420 ≤ wr1477 := h1486
          have h1487 : wr1477 + at1457 ≤ wr1420 + at1472 := h1487
          have h1488 : lk1419 ≤ lk1476 := h1488
          have h1489 : lk1476 ≤ lk1419 := h1489
          have h1490 : at1457 + 1 ≤ at1472 + fa1473 := h1490
          have h1491 : r1478 ≤ nd1475 := h1491
          have h1492 : Kp X1447 X1479 wr1477 T := h1492
          have h1493 : If (fa1473 = 0) (Low X1447 X1479 (nd1418 + 1) wr1420 ∧ Frs K T wr1477 X1479 (nd1418 + 1) nd1475 20000 [(r1478, (280 + 4 * (20 - ne)))] ∧ kcl 3 (X1479 9 r1478) = true) := h1493
          obtain rfl : v1471 = some (.int (nI r1478)) := hw1470
          have hP : va_P G.1 pCl (mW G h0 a (upd (upd (upd (upd (upd (upd (upd F 15 (nI fa1473)) 16 pl1474) 27 (nI nd1475)) 31 (nI wr1477)) 64 (nI at1472)) 65 (nI ne)) 66 (nI lk1476)) (updA X1479 2 K)) _ := mW_to (F := F) (l1 := [(15, 0), (16, pl1459), (27, (nI (nd1418 + 1))), (31, (nI wr1420)), (64, (nI at1457)), (65, (nI ne)), (66, (nI lk1419)), (15, (nI fa1473)), (16, pl1474), (27, (nI nd1475)), (31, (nI wr1477)), (64, (nI at1472)), (65, (nI ne)), (66, (nI lk1476))]) (l2 := [(15, (nI fa1473)), (16, pl1474), (27, (nI nd1475)), (31, (nI wr1477)), (64, (nI at1472)), (65, (nI ne)), (66, (nI lk1476))]) (V := [(nI fa1473), pl1474, (nI nd1475), (nI wr1477), (nI at1472), (nI ne), (nI lk1476), (nI fa1473), pl1474, (nI nd1475), (nI wr1477), (nI at1472), (nI ne), (nI lk1476), (nI fa1473), pl1474, (nI nd1475), (nI wr1477), (nI at1472), (nI ne), (nI lk1476)]) rfl rfl rfl hP
          have hD : va_D A (mW G h0 a (upd (upd (upd (upd (upd (upd (upd F 15 (nI fa1473)) 16 pl1474) 27 (nI nd1475)) 31 (nI wr1477)) 64 (nI at1472)) 65 (nI ne)) 66 (nI lk1476)) (updA X1479 2 K)) := mW_D hD
          refine W.widen (k := 0) (n := 0) (Nat.le_of_ble_eq_true rfl) (Nat.le_of_ble_eq_true rfl) ?_
          refine W.eq (g2 := F0 m 247 ls [.int (nI r1478), .int (nI nd1418), .ref (a 13)]) rfl ?_
          have hkp1494 : Kp B X1479 wr1477 T := (Kp.trans hkp1449 h1492)
          rcases Nat.eq_zero_or_pos fa1473 with e1495 | e1495
          · subst e1495
            have hP : va_P G.1 pCl (mW G h0 a (upd (upd (upd (upd (upd (upd (upd F 15 0) 16 pl1474) 27 (nI nd1475)) 31 (nI wr1477)) 64 (nI at1472)) 65 (nI ne)) 66 (nI lk1476)) (updA X1479 2 K)) _ := hP
            have hD : va_D A (mW G h0 a (upd (upd (upd (upd (upd (upd (upd F 15 0) 16 pl1474) 27 (nI nd1475)) 31 (nI wr1477)) 64 (nI at1472)) 65 (nI ne)) 66 (nI lk1476)) (updA X1479 2 K)) := mW_D hD
            obtain ⟨hlw1496, hf1497, hc1498⟩ := h1493 rfl
            have hlo1499 : Low B X1479 nd wr := (Low.trans hlo1450 hlw1496 (by omega) (by omega))
            have hf1500 : Frs K T wr1477 X1479 nd (nd1418 + 1) nd1418 [(nd1418, (280 + 4 * (21 - ne)))] := (Frs.same hf1452 (by omega) (fun j i q1 q2 q3 q4 => (hlw1496.1 j i q1 (by omega) (by omega))))
            have hn1501 : Nd X1479 nd1418 35 (nI r1421) (-1) (-1) (-1) := (Nd.low hn1453 hlw1496 (by omega))
            have hm1502 := Frs.mem hf1497
            refine r_sti (f := (X1479 13)) (j := nd1418) hx hb hE hP hD hS 13 (ma_13 G a _) rfl (mas_13 G a _) (by omega) (by decide) dX12_statementOf_247 (fun H locs hP hD hS => ?_)
            have hP : va_P G.1 pCl (mW G h0 a (upd (upd (upd (upd (upd (upd (upd F 15 0) 16 pl1474) 27 (nI nd1475)) 31 (nI wr1477)) 64 (nI at1472)) 65 (nI ne)) 66 (nI lk1476)) (updA (stR X1479 13 nd1418 (nI r1478)) 2 K)) _ := mW_to (F := F) (l1 := [(15, 0), (16, pl1474), (27, (nI nd1475)), (31, (nI wr1477)), (64, (nI at1472)), (65, (nI ne)), (66, (nI lk1476))]) (l2 := [(15, 0), (16, pl1474), (27, (nI nd1475)), (31, (nI wr1477)), (64, (nI at1472)), (65, (nI ne)), (66, (nI lk1476))]) (V := [0, pl1474, (nI nd1475), (nI wr1477), (nI at1472), (nI ne), (nI lk1476), 0, pl1474, (nI nd1475), (nI wr1477), (nI at1472), (nI ne), (nI lk1476)]) rfl rfl (show (updA (updA X1479 2 K) 13 (upd (X1479 13) nd1418 (nI r1478))) = (updA (stR X1479 13 nd1418 (nI r1478)) 2 K) from updsA_eq2 (F := X1479) (l1 := [(2, K), (13, (upd (X1479 13) nd1418 (nI r1478)))]) (l2 := [(13, (upd (X1479 13) nd1418 (nI r1478))), (2, K)]) (V := [K, (upd (X1479 13) nd1418 (nI r1478)), (upd (X1479 13) nd1418 (nI r1478)), K]) rfl rfl) hP
            have hD : va_D A (mW G h0 a (upd (upd (upd (upd (upd (upd (upd F 15 0) 16 pl1474) 27 (nI nd1475)) 31 (nI wr1477)) 64 (nI at1472)) 65 (nI ne)) 66 (nI lk1476)) (updA (stR X1479 13 nd1418 (nI r1478)) 2 K)) := mW_D hD
            have hkp1503 : Kp B (stR X1479 13 nd1418 (nI r1478)) wr1477 T := (Kp.row hkp1494 (by omega))
            have hlo1504 : Low B (stR X1479 13 nd1418 (nI r1478)) nd wr := (Low.st hlo1499 (by omega) (by omega))
            have hf1505 : Frs K T wr1477 X1479 nd nd1475 nd1418 [(nd1418, (280 + 4 * (21 - ne))), (r1478, (280 + 4 * (20 - ne)))] := (Frs.join hf1500 hf1497 (by omega) (by omega) (by omega))
            have hn1506 : Nd (stR X1479 13 nd1418 (nI r1478)) nd1418 35 (nI r1421) (nI r1478) (-1) (-1) := (Nd.st hn1501 (by omega))
            have hc1507 : kcl 3 ((stR X1479 13 nd1418 (nI r1478)) 9 r1478) = true := by rw [st_ne (by omega)]; exact hc1498
            have hf1508 : Frs K T wr1477 (stR X1479 13 nd1418 (nI r1478)) nd nd1475 nd1418 [(nd1418, (280 + 4 * (21 - ne)))] := (Frs.set (s := 2) (k := 35) hf1505 (by omega) (by omega) (by simp) (by omega) (by omega) hn1501.2.2.1 hn1501.1 (by decide) ⟨by decide, by decide, by decide, hc1498, fun h => absurd h (by decide)⟩ (by omega) (by omega) (by decide) (fun h1 h2 => by omega))
            have hf1509 : Frs K T wr1477 (stR X1479 13 nd1418 (nI r1478)) nd nd1475 20000 [(nd1418, (280 + 4 * (21 - ne)))] := (Frs.fin (k := 35) hf1508 hn1506 rfl (by decide) (fun _ => nI_m1 (by omega)) (fun _ => nI_m1 (by omega)) (fun h => absurd h (by decide)) (fun h => absurd h (by decide)))
            refine lv_iload_n hx hb dX12_statementOf_248 rfl (lv_at hl 0 rfl) ?_
            have hz1510 : at0 ≤ at1472 := (by omega)
            have hz1511 : at1472 ≤ T := (by omega)
            have hz1512 : 0 ≤ 100 := (by omega)
            have hz1513 : nd ≤ nd1475 := (by omega)
            have hz1514 : nd1475 + 2 * at0 ≤ nd + 2 * at1472 + 100000 * 0 := (by omega)
            have hz1515 : nd1475 + 2 * at0 ≤ nd + 2 * at1472 + (60 * (21 - ne) + 40) := (by omega)
            have hz1516 : wr ≤ wr1477 := (by omega)
            have hz1517 : wr1477 + at0 ≤ wr + at1472 := (by omega)
            have hz1518 : lk ≤ lk1476 := (by omega)
            have hz1519 : lk1476 ≤ 60 + 100 * 0 := (by omega)
            have hz1520 : at0 + 1 ≤ at1472 + 0 := (by omega)
            have hz1521 : nd1418 ≤ nd1475 := (by omega)
            have hz1522 : Kp B (stR X1479 13 nd1418 (nI r1478)) wr1477 T := hkp1503
            have hz1523 : If (0 = 0) (Low B (stR X1479 13 nd1418 (nI r1478)) nd wr ∧ Frs K T wr1477 (stR X1479 13 nd1418 (nI r1478)) nd nd1475 20000 [(nd1418, (280 + 4 * (21 - ne)))] ∧ kcl 3 ((stR X1479 13 nd1418 (nI r1478)) 9 nd1418) = true) := (fun _ => ⟨hlo1504, Frs.up hf1509 (by omega), (by rw [hn1506.1]; decide)⟩)
            have hP : va_P G.1 pCl (mW G h0 a (upd (upd (upd (upd (upd (upd (upd F 15 (nI 0)) 16 pl1474) 27 (nI nd1475)) 31 (nI wr1477)) 64 (nI at1472)) 65 (nI ne)) 66 (nI lk1476)) (updA (stR X1479 13 nd1418 (nI r1478)) 2 K)) _ := mW_to (F := F) (l1 := [(15, 0), (16, pl1474), (27, (nI nd1475)), (31, (nI wr1477)), (64, (nI at1472)), (65, (nI ne)), (66, (nI lk1476))]) (l2 := [(15, (nI 0)), (16, pl1474), (27, (nI nd1475)), (31, (nI wr1477)), (64, (nI at1472)), (65, (nI ne)), (66, (nI lk1476))]) (V := [(nI 0), pl1474, (nI nd1475), (nI wr1477), (nI at1472), (nI ne), (nI lk1476), (nI 0), pl1474, (nI nd1475), (nI wr1477), (nI at1472), (nI ne), (nI lk1476)]) rfl rfl rfl hP
            have hD : va_D A (mW G h0 a (upd (upd (upd (upd (upd (upd (upd F 15 (nI 0)) 16 pl1474) 27 (nI nd1475)) 31 (nI wr1477)) 64 (nI at1472)) 65 (nI ne)) 66 (nI lk1476)) (updA (stR X1479 13 nd1418 (nI r1478)) 2 K)) := mW_D hD
            exact W.iret (v := (nI nd1418)) hx hb hr (fun t9 ht9 hW9 => ⟨⟨_, (at1472, 0, pl1474, nd1475, lk1476, wr1477, nd1418, (stR X1479 13 nd1418 (nI r1478))), rfl, ⟨rfl, hz1510, hz1511, hz1512, hz1513, hz1514, hz1515, hz1516, hz1517, hz1518, hz1519, hz1520, hz1521, hz1522, hz1523⟩, by rw [ht9]; exact hP, hD⟩, hS.F ht9⟩) hS.2.2 dX12_statementOf_249
          · have e1495 := e1495
            refine r_sti (f := (X1479 13)) (j := nd1418) hx hb hE hP hD hS 13 (ma_13 G a _) rfl (mas_13 G a _) (by omega) (by decide) dX12_statementOf_247 (fun H locs hP hD hS => ?_)
            have hP : va_P G.1 pCl (mW G h0 a (upd (upd (upd (upd (upd (upd (upd F 15 (nI fa1473)) 16 pl1474) 27 (nI nd1475)) 31 (nI wr1477)) 64 (nI at1472)) 65 (nI ne)) 66 (nI lk1476)) (updA (stR X1479 13 nd1418 (nI r1478)) 2 K)) _ := mW_to (F := F) (l1 := [(15, (nI fa1473)), (16, pl1474), (27, (nI nd1475)), (31, (nI wr1477)), (64, (nI at1472)), (65, (nI ne)), (66, (nI lk1476))]) (l2 := [(15, (nI fa1473)), (16, pl1474), (27, (nI nd1475)), (31, (nI wr1477)), (64, (nI at1472)), (65, (nI ne)), (66, (nI lk1476))]) (V := [(nI fa1473), pl1474, (nI nd1475), (nI wr1477), (nI at1472), (nI ne), (nI lk1476), (nI fa1473), pl1474, (nI nd1475), (nI wr1477), (nI at1472), (nI ne), (nI lk1476)]) rfl rfl (show (updA (updA X1479 2 K) 13 (upd (X1479 13) nd1418 (nI r1478))) = (updA (stR X1479 13 nd1418 (nI r1478)) 2 K) from updsA_eq2 (F := X1479) (l1 := [(2, K), (13, (upd (X1479 13) nd1418 (nI r1478)))]) (l2 := [(13, (upd (X1479 13) nd1418 (nI r1478))), (2, K)]) (V := [K, (upd (X1479 13) nd1418 (nI r1478)), (upd (X1479 13) nd1418 (nI r1478)), K]) rfl rfl) hP
            have hD : va_D A (mW G h0 a (upd (upd (upd (upd (upd (upd (upd F 15 (nI fa1473)) 16 pl1474) 27 (nI nd1475)) 31 (nI wr1477)) 64 (nI at1472)) 65 (nI ne)) 66 (nI lk1476)) (updA (stR X1479 13 nd1418 (nI r1478)) 2 K)) := mW_D hD
            have hkp1524 : Kp B (stR X1479 13 nd1418 (nI r1478)) wr1477 T := (Kp.row hkp1494 (by omega))
            refine lv_iload_n hx hb dX12_statementOf_248 rfl (lv_at hl 0 rfl) ?_
            have hz1525 : at0 ≤ at1472 := (by omega)
            have hz1526 : at1472 ≤ T := (by omega)
            have hz1527 : fa1473 ≤ 100 := (by omega)
            have hz1528 : nd ≤ nd1475 := (by omega)
            have hz1529 : nd1475 + 2 * at0 ≤ nd + 2 * at1472 + 100000 * fa1473 := (by omega)
            have hz1530 : nd1475 + 2 * at0 ≤ nd + 2 * at1472 + (60 * (21 - ne) + 40) := (by omega)
            have hz1531 : wr ≤ wr1477 := (by omega)
            have hz1532 : wr1477 + at0 ≤ wr + at1472 := (by omega)
            have hz1533 : lk ≤ lk1476 := (by omega)
            have hz1534 : lk1476 ≤ 60 + 100 * fa1473 := (by omega)
            have hz1535 : at0 + 1 ≤ at1472 + fa1473 := (by omega)
            have hz1536 : nd1418 ≤ nd1475 := (by omega)
            have hz1537 : Kp B (stR X1479 13 nd1418 (nI r1478)) wr1477 T := hkp1524
            have hz1538 : If (fa1473 = 0) (Low B (stR X1479 13 nd1418 (nI r1478)) nd wr ∧ Frs K T wr1477 (stR X1479 13 nd1418 (nI r1478)) nd nd1475 20000 [(nd1418, (280 + 4 * (21 - ne)))] ∧ kcl 3 ((stR X1479 13 nd1418 (nI r1478)) 9 nd1418) = true) := (fun e => absurd e (by omega))
            have hP : va_P G.1 pCl (mW G h0 a (upd (upd (upd (upd (upd (upd (upd F 15 (nI fa1473)) 16 pl1474) 27 (nI nd1475)) 31 (nI wr1477)) 64 (nI at1472)) 65 (nI ne)) 66 (nI lk1476)) (updA (stR X1479 13 nd1418 (nI r1478)) 2 K)) _ := hP
            have hD : va_D A (mW G h0 a (upd (upd (upd (upd (upd (upd (upd F 15 (nI fa1473)) 16 pl1474) 27 (nI nd1475)) 31 (nI wr1477)) 64 (nI at1472)) 65 (nI ne)) 66 (nI lk1476)) (updA (stR X1479 13 nd1418 (nI r1478)) 2 K)) := mW_D hD
            exact W.iret (v := (nI nd1418)) hx hb hr (fun t9 ht9 hW9 => ⟨⟨_, (at1472, fa1473, pl1474, nd1475, lk1476, wr1477, nd1418, (stR X1479 13 nd1418 (nI r1478))), rfl, ⟨rfl, hz1525, hz1526, hz1527, hz1528, hz1529, hz1530, hz1531, hz1532, hz1533, hz1534, hz1535, hz1536, hz1537, hz1538⟩, by rw [ht9]; exact hP, hD⟩, hS.F ht9⟩) hS.2.2 dX12_statementOf_249
        · have e1468 := e1468
          refine lv_aload_n hx hb dX12_statementOf_238 rfl (lv_at hl 2 rfl) ?_
          refine r_get (v := .ref (a 13)) hx hb hown hq hE hP 21 50 tFX12_21 (by decide) pw_1443 rfl dX12_statementOf_239 ?_
          refine lv_iload_n hx hb dX12_statementOf_242 rfl (lv_at hl 0 rfl) ?_
          refine lv_aload_n hx hb dX12_statementOf_243 rfl (lv_at hl 2 rfl) ?_
          have hP : va_P G.1 pCl (mW G h0 a (upd (upd (upd (upd (upd (upd (upd (upd (upd F 15 (nI fa1458)) 16 pl1459) 27 (nI (nd1418 + 1))) 31 (nI wr1420)) 64 (nI at1457)) 65 (nI ne)) 66 (nI lk1419)) 15 (nI fa1458)) 64 (nI at1457)) (updA (updA X1447 2 K) 2 K)) _ := mW_to (F := F) (l1 := [(15, (nI fa1458)), (16, pl1459), (27, (nI (nd1418 + 1))), (31, (nI wr1420)), (64, (nI at1457)), (65, (nI ne)), (66, (nI lk1419))]) (l2 := [(15, (nI fa1458)), (16, pl1459), (27, (nI (nd1418 + 1))), (31, (nI wr1420)), (64, (nI at1457)), (65, (nI ne)), (66, (nI lk1419)), (15, (nI fa1458)), (64, (nI at1457))]) (V := [(nI fa1458), pl1459, (nI (nd1418 + 1)), (nI wr1420), (nI at1457), (nI ne), (nI lk1419), (nI fa1458), pl1459, (nI (nd1418 + 1)), (nI wr1420), (nI at1457), (nI ne), (nI lk1419), (nI fa1458), (nI at1457)]) rfl rfl (show (updA X1447 2 K) = (updA (updA X1447 2 K) 2 K) from updsA_eq2 (F := X1447) (l1 := [(2, K)]) (l2 := [(2, K), (2, K)]) (V := [K, K, K]) rfl rfl) hP
          have hD : va_D A (mW G h0 a (upd (upd (upd (upd (upd (upd (upd (upd (upd F 15 (nI fa1458)) 16 pl1459) 27 (nI (nd1418 + 1))) 31 (nI wr1420)) 64 (nI at1457)) 65 (nI ne)) 66 (nI lk1419)) 15 (nI fa1458)) 64 (nI at1457)) (updA (updA X1447 2 K) 2 K)) := mW_D hD
          refine pc_V0 (G := G) (As := []) (rest := [.int (nI nd1418), .ref (a 13)]) hx hb hml hown hq hE hX pX0_al hP hD hS hA hl.1 (RF_statement l G h0 a (upd (upd (upd (upd (upd (upd (upd F 15 (nI fa1458)) 16 pl1459) 27 (nI (nd1418 + 1))) 31 (nI wr1420)) 64 (nI at1457)) 65 (nI ne)) 66 (nI lk1419)) (updA X1447 2 K) at1457 T fa1458 K (by omega) (by omega) hK (by omega) e1468) (gV pw_1699 pw_1700 pw_1701 pw_1523 pw_1706) hV_X12_statement 0 9 rfl rfl rfl rfl (Nat.le_of_ble_eq_true rfl) dX12_statementOf_244 ⟨Nat.le_of_ble_eq_true rfl, Nat.le_of_ble_eq_true rfl⟩ ⟨(by show 2 + 1 ≤ (26 * n + 44); omega), (by show 8 + (3 + 11) + 60 ≤ (2000 * n + 4400); omega)⟩ (fun v1541 u1539 H locs hw1540 hP hD hS => ?_)
          obtain rfl : v1541 = some (.int 0) := hw1540
          have hP : va_P G.1 pCl (mW G h0 a (upd (upd (upd (upd (upd (upd (upd F 15 (nI fa1458)) 16 pl1459) 27 (nI (nd1418 + 1))) 31 (nI wr1420)) 64 (nI at1457)) 65 (nI ne)) 66 (nI lk1419)) (updA X1447 2 K)) _ := mW_to (F := F) (l1 := [(15, (nI fa1458)), (16, pl1459), (27, (nI (nd1418 + 1))), (31, (nI wr1420)), (64, (nI at1457)), (65, (nI ne)), (66, (nI lk1419)), (15, (nI fa1458)), (64, (nI at1457))]) (l2 := [(15, (nI fa1458)), (16, pl1459), (27, (nI (nd1418 + 1))), (31, (nI wr1420)), (64, (nI at1457)), (65, (nI ne)), (66, (nI lk1419))]) (V := [(nI fa1458), pl1459, (nI (nd1418 + 1)), (nI wr1420), (nI at1457), (nI ne), (nI lk1419), (nI fa1458), (nI at1457), (nI fa1458), pl1459, (nI (nd1418 + 1)), (nI wr1420), (nI at1457), (nI ne), (nI lk1419)]) rfl rfl (show (updA (updA X1447 2 K) 2 K) = (updA X1447 2 K) from updsA_eq2 (F := X1447) (l1 := [(2, K), (2, K)]) (l2 := [(2, K)]) (V := [K, K, K]) rfl rfl) hP
          have hD : va_D A (mW G h0 a (upd (upd (upd (upd (upd (upd (upd F 15 (nI fa1458)) 16 pl1459) 27 (nI (nd1418 + 1))) 31 (nI wr1420)) 64 (nI at1457)) 65 (nI ne)) 66 (nI lk1419)) (updA X1447 2 K)) := mW_D hD
          refine W.widen (k := 0) (n := 0) (Nat.le_of_ble_eq_true rfl) (Nat.le_of_ble_eq_true rfl) ?_
          refine W.eq (g2 := F0 m 247 ls [.int 0, .int (nI nd1418), .ref (a 13)]) rfl ?_
          refine r_sti (f := (X1447 13)) (j := nd1418) hx hb hE hP hD hS 13 (ma_13 G a _) rfl (mas_13 G a _) (by omega) (by decide) dX12_statementOf_247 (fun H locs hP hD hS => ?_)
          have hP : va_P G.1 pCl (mW G h0 a (upd (upd (upd (upd (upd (upd (upd F 15 (nI fa1458)) 16 pl1459) 27 (nI (nd1418 + 1))) 31 (nI wr1420)) 64 (nI at1457)) 65 (nI ne)) 66 (nI lk1419)) (updA (stR X1447 13 nd1418 0) 2 K)) _ := mW_to (F := F) (l1 := [(15, (nI fa1458)), (16, pl1459), (27, (nI (nd1418 + 1))), (31, (nI wr1420)), (64, (nI at1457)), (65, (nI ne)), (66, (nI lk1419))]) (l2 := [(15, (nI fa1458)), (16, pl1459), (27, (nI (nd1418 + 1))), (31, (nI wr1420)), (64, (nI at1457)), (65, (nI ne)), (66, (nI lk1419))]) (V := [(nI fa1458), pl1459, (nI (nd1418 + 1)), (nI wr1420), (nI at1457), (nI ne), (nI lk1419), (nI fa1458), pl1459, (nI (nd1418 + 1)), (nI wr1420), (nI at1457), (nI ne), (nI lk1419)]) rfl rfl (show (updA (updA X1447 2 K) 13 (upd (X1447 13) nd1418 0)) = (updA (stR X1447 13 nd1418 0) 2 K) from updsA_eq2 (F := X1447) (l1 := [(2, K), (13, (upd (X1447 13) nd1418 0))]) (l2 := [(13, (upd (X1447 13) nd1418 0)), (2, K)]) (V := [K, (upd (X1447 13) nd1418 0), (upd (X1447 13) nd1418 0), K]) rfl rfl) hP
          have hD : va_D A (mW G h0 a (upd (upd (upd (upd (upd (upd (upd F 15 (nI fa1458)) 16 pl1459) 27 (nI (nd1418 + 1))) 31 (nI wr1420)) 64 (nI at1457)) 65 (nI ne)) 66 (nI lk1419)) (updA (stR X1447 13 nd1418 0) 2 K)) := mW_D hD
          have hkp1542 : Kp B (stR X1447 13 nd1418 0) wr1420 T := (Kp.row hkp1449 (by omega))
          refine lv_iload_n hx hb dX12_statementOf_248 rfl (lv_at hl 0 rfl) ?_
          have hz1543 : at0 ≤ at1457 := (by omega)
          have hz1544 : at1457 ≤ T := (by omega)
          have hz1545 : fa1458 ≤ 100 := (by omega)
          have hz1546 : nd ≤ (nd1418 + 1) := (by omega)
          have hz1547 : (nd1418 + 1) + 2 * at0 ≤ nd + 2 * at1457 + 100000 * fa1458 := (by omega)
          have hz1548 : (nd1418 + 1) + 2 * at0 ≤ nd + 2 * at1457 + (60 * (21 - ne) + 40) := (by omega)
          have hz1549 : wr ≤ wr1420 := (by omega)
          have hz1550 : wr1420 + at0 ≤ wr + at1457 := (by omega)
          have hz1551 : lk ≤ lk1419 := (by omega)
          have hz1552 : lk1419 ≤ 60 + 100 * fa1458 := (by omega)
          have hz1553 : at0 + 1 ≤ at1457 + fa1458 := (by omega)
          have hz1554 : nd1418 ≤ (nd1418 + 1) := (by omega)
          have hz1555 : Kp B (stR X1447 13 nd1418 0) wr1420 T := hkp1542
          have hz1556 : If (fa1458 = 0) (Low B (stR X1447 13 nd1418 0) nd wr ∧ Frs K T wr1420 (stR X1447 13 nd1418 0) nd (nd1418 + 1) 20000 [(nd1418, (280 + 4 * (21 - ne)))] ∧ kcl 3 ((stR X1447 13 nd1418 0) 9 nd1418) = true) := (fun e => absurd e (by omega))
          have hP : va_P G.1 pCl (mW G h0 a (upd (upd (upd (upd (upd (upd (upd F 15 (nI fa1458)) 16 pl1459) 27 (nI (nd1418 + 1))) 31 (nI wr1420)) 64 (nI at1457)) 65 (nI ne)) 66 (nI lk1419)) (updA (stR X1447 13 nd1418 0) 2 K)) _ := hP
          have hD : va_D A (mW G h0 a (upd (upd (upd (upd (upd (upd (upd F 15 (nI fa1458)) 16 pl1459) 27 (nI (nd1418 + 1))) 31 (nI wr1420)) 64 (nI at1457)) 65 (nI ne)) 66 (nI lk1419)) (updA (stR X1447 13 nd1418 0) 2 K)) := mW_D hD
          exact W.iret (v := (nI nd1418)) hx hb hr (fun t9 ht9 hW9 => ⟨⟨_, (at1457, fa1458, pl1459, (nd1418 + 1), lk1419, wr1420, nd1418, (stR X1447 13 nd1418 0)), rfl, ⟨rfl, hz1543, hz1544, hz1545, hz1546, hz1547, hz1548, hz1549, hz1550, hz1551, hz1552, hz1553, hz1554, hz1555, hz1556⟩, by rw [ht9]; exact hP, hD⟩, hS.F ht9⟩) hS.2.2 dX12_statementOf_249
      · have e1438 := e1438
        refine lv_iconst (v := (-1)) hx hb dX12_statementOf_227 (by decide) ?_
        have hP : va_P G.1 pCl (mW G h0 a (upd (upd (upd (upd (upd (upd (upd (upd F 15 (nI fa1416)) 16 pl1417) 27 (nI nd1418)) 31 (nI wr1420)) 64 (nI at1415)) 65 (nI ne)) 66 (nI lk1419)) 27 (nI nd1418)) (updA X1422 2 K)) _ := mW_to (F := F) (l1 := [(15, (nI fa1416)), (16, pl1417), (27, (nI nd1418)), (31, (nI wr1420)), (64, (nI at1415)), (65, (nI ne)), (66, (nI lk1419))]) (l2 := [(15, (nI fa1416)), (16, pl1417), (27, (nI nd1418)), (31, (nI wr1420)), (64, (nI at1415)), (65, (nI ne)), (66, (nI lk1419)), (27, (nI nd1418))]) (V := [(nI fa1416), pl1417, (nI nd1418), (nI wr1420), (nI at1415), (nI ne), (nI lk1419), (nI fa1416), pl1417, (nI nd1418), (nI wr1420), (nI at1415), (nI ne), (nI lk1419), (nI nd1418)]) rfl rfl rfl hP
        have hD : va_D A (mW G h0 a (upd (upd (upd (upd (upd (upd (upd (upd F 15 (nI fa1416)) 16 pl1417) 27 (nI nd1418)) 31 (nI wr1420)) 64 (nI at1415)) 65 (nI ne)) 66 (nI lk1419)) 27 (nI nd1418)) (updA X1422 2 K)) := mW_D hD
        refine pc_V0 (G := G) (As := [.int 35, .int (nI at0), .int (nI at0), .int (nI r1421), .int (-1)]) (rest := []) hx hb hml hown hq hE hX pX0_al hP hD hS hA hl.1 (R_nodeB l G h0 a (upd (upd (upd (upd (upd (upd (upd F 15 (nI fa1416)) 16 pl1417) 27 (nI nd1418)) 31 (nI wr1420)) 64 (nI at1415)) 65 (nI ne)) 66 (nI lk1419)) X1422 35 (nI at0) (nI at0) (nI r1421) (-1) nd1418 K (by omega)) (gV pw_1650 pw_1651 pw_1652 pw_1523 pw_1589) hV_X12_node 0 9 rfl rfl rfl rfl (Nat.le_of_ble_eq_true rfl) dX12_statementOf_228 ⟨Nat.le_of_ble_eq_true rfl, Nat.le_of_ble_eq_true rfl⟩ ⟨(by show 2 + 1 ≤ (26 * n + 44); omega), (by show 8 + (7 + 11) + 60 ≤ (2000 * n + 4400); omega)⟩ (fun v1559 u1557 H locs hw1558 hP hD hS => ?_)
        obtain ⟨X1560, rfl⟩ : ∃ z, z = u1557 := ⟨_, rfl⟩
        obtain ⟨hw1558, h1561⟩ := hw1558
        have h1561 : NewN X1422 X1560 nd1418 35 (nI at0) (nI at0) (nI r1421) (-1) := h1561
        obtain rfl : v1559 = some (.int (nI nd1418)) := hw1558
        have hP : va_P G.1 pCl (mW G h0 a (upd (upd (upd (upd (upd (upd (upd F 15 (nI fa1416)) 16 pl1417) 27 (nI (nd1418 + 1))) 31 (nI wr1420)) 64 (nI at1415)) 65 (nI ne)) 66 (nI lk1419)) (updA X1560 2 K)) _ := mW_to (F := F) (l1 := [(15, (nI fa1416)), (16, pl1417), (27, (nI nd1418)), (31, (nI wr1420)), (64, (nI at1415)), (65, (nI ne)), (66, (nI lk1419)), (27, (nI (nd1418 + 1)))]) (l2 := [(15, (nI fa1416)), (16, pl1417), (27, (nI (nd1418 + 1))), (31, (nI wr1420)), (64, (nI at1415)), (65, (nI ne)), (66, (nI lk1419))]) (V := [(nI fa1416), pl1417, (nI (nd1418 + 1)), (nI wr1420), (nI at1415), (nI ne), (nI lk1419), (nI (nd1418 + 1)), (nI fa1416), pl1417, (nI (nd1418 + 1)), (nI wr1420), (nI at1415), (nI ne), (nI lk1419)]) rfl rfl rfl hP
        have hD : va_D A (mW G h0 a (upd (upd (upd (upd (upd (upd (upd F 15 (nI fa1416)) 16 pl1417) 27 (nI (nd1418 + 1))) 31 (nI wr1420)) 64 (nI at1415)) 65 (nI ne)) 66 (nI lk1419)) (updA X1560 2 K)) := mW_D hD
        refine W.widen (k := 0) (n := 0) (Nat.le_of_ble_eq_true rfl) (Nat.le_of_ble_eq_true rfl) ?_
        refine W.eq (g2 := F0 m 231 ls [.int (nI nd1418)]) rfl ?_
        have hkp1562 : Kp B X1560 wr1420 T := (Kp.new hkp1437 h1561)
        refine lv_istore_n (lv' := [(2, .int (nI nd1418)), (1, .int (nI at0)), (0, .ref h0)]) hx hb dX12_statementOf_231 rfl hl (by decide) rfl (fun ls hl => ?_)
        refine lv_aload_n hx hb dX12_statementOf_232 rfl (lv_at hl 2 rfl) ?_
        refine lv_bipush (v := 41) hx hb dX12_statementOf_233 (by decide) ?_
        have hP : va_P G.1 pCl (mW G h0 a (upd (upd (upd (upd (upd (upd (upd (upd (upd F 15 (nI fa1416)) 16 pl1417) 27 (nI (nd1418 + 1))) 31 (nI wr1420)) 64 (nI at1415)) 65 (nI ne)) 66 (nI lk1419)) 15 (nI fa1416)) 64 (nI at1415)) (updA (updA X1560 2 K) 2 K)) _ := mW_to (F := F) (l1 := [(15, (nI fa1416)), (16, pl1417), (27, (nI (nd1418 + 1))), (31, (nI wr1420)), (64, (nI at1415)), (65, (nI ne)), (66, (nI lk1419))]) (l2 := [(15, (nI fa1416)), (16, pl1417), (27, (nI (nd1418 + 1))), (31, (nI wr1420)), (64, (nI at1415)), (65, (nI ne)), (66, (nI lk1419)), (15, (nI fa1416)), (64, (nI at1415))]) (V := [(nI fa1416), pl1417, (nI (nd1418 + 1)), (nI wr1420), (nI at1415), (nI ne), (nI lk1419), (nI fa1416), pl1417, (nI (nd1418 + 1)), (nI wr1420), (nI at1415), (nI ne), (nI lk1419), (nI fa1416), (nI at1415)]) rfl rfl (show (updA X1560 2 K) = (updA (updA X1560 2 K) 2 K) from updsA_eq2 (F := X1560) (l1 := [(2, K)]) (l2 := [(2, K), (2, K)]) (V := [K, K, K]) rfl rfl) hP
        have hD : va_D A (mW G h0 a (upd (upd (upd (upd (upd (upd (upd (upd (upd F 15 (nI fa1416)) 16 pl1417) 27 (nI (nd1418 + 1))) 31 (nI wr1420)) 64 (nI at1415)) 65 (nI ne)) 66 (nI lk1419)) 15 (nI fa1416)) 64 (nI at1415)) (updA (updA X1560 2 K) 2 K)) := mW_D hD
        refine pc_V0 (G := G) (As := [.int 41]) (rest := []) hx hb hml hown hq hE hX pX0_al hP hD hS hA hl.1 (R_take l G h0 a (upd (upd (upd (upd (upd (upd (upd F 15 (nI fa1416)) 16 pl1417) 27 (nI (nd1418 + 1))) 31 (nI wr1420)) 64 (nI at1415)) 65 (nI ne)) 66 (nI lk1419)) (updA X1560 2 K) at1415 T fa1416 K 41 (by omega) (by omega) hK (by omega) (by decide) (by decide)) (gV pw_1614 pw_1615 pw_1616 pw_1523 pw_1601) hV_X12_take 0 9 rfl rfl rfl rfl (Nat.le_of_ble_eq_true rfl) dX12_statementOf_235 ⟨Nat.le_of_ble_eq_true rfl, Nat.le_of_ble_eq_true rfl⟩ ⟨(by show 4 + 1 ≤ (26 * n + 44); omega), (by show 8 + (2 + 11) + 103 ≤ (2000 * n + 4400); omega)⟩ (fun v1565 u1563 H locs hw1564 hP hD hS => ?_)
        obtain ⟨at1566, fa1567, pl1568⟩ := u1563
        obtain ⟨hw1564, h1569, h1570, h1571, h1572, h1573, h1574, h1575, h1576⟩ := hw1564
        have h1569 : at1415 ≤ at1566 := h1569
        have h1570 : at1566 ≤ T := h1570
        have h1571 : fa1416 ≤ fa1567 := h1571
        have h1572 : fa1567 ≤ 100 := h1572
        have h1573 : If (0 < fa1416) (at1566 = at1415 ∧ fa1567 = fa1416) := h1573
        have h1574 : at1566 ≤ at1415 + 1 := h1574
        have h1575 : at1415 + 1 ≤ at1566 + fa1567 := h1575
        have h1576 : If (fa1567 = 0) (K at1415 = 41) := h1576
        obtain rfl : v1565 = none := hw1564
        have hP : va_P G.1 pCl (mW G h0 a (upd (upd (upd (upd (upd (upd (upd F 15 (nI fa1567)) 16 pl1568) 27 (nI (nd1418 + 1))) 31 (nI wr1420)) 64 (nI at1566)) 65 (nI ne)) 66 (nI lk1419)) (updA X1560 2 K)) _ := mW_to (F := F) (l1 := [(15, (nI fa1416)), (16, pl1417), (27, (nI (nd1418 + 1))), (31, (nI wr1420)), (64, (nI at1415)), (65, (nI ne)), (66, (nI lk1419)), (15, (nI fa1567)), (16, pl1568), (64, (nI at1566))]) (l2 := [(15, (nI fa1567)), (16, pl1568), (27, (nI (nd1418 + 1))), (31, (nI wr1420)), (64, (nI at1566)), (65, (nI ne)), (66, (nI lk1419))]) (V := [(nI fa1567), pl1568, (nI (nd1418 + 1)), (nI wr1420), (nI at1566), (nI ne), (nI lk1419), (nI fa1567), pl1568, (nI at1566), (nI fa1567), pl1568, (nI (nd1418 + 1)), (nI wr1420), (nI at1566), (nI ne), (nI lk1419)]) rfl rfl (show (updA (updA X1560 2 K) 2 K) = (updA X1560 2 K) from updsA_eq2 (F := X1560) (l1 := [(2, K), (2, K)]) (l2 := [(2, K)]) (V := [K, K, K]) rfl rfl) hP
        have hD : va_D A (mW G h0 a (upd (upd (upd (upd (upd (upd (upd F 15 (nI fa1567)) 16 pl1568) 27 (nI (nd1418 + 1))) 31 (nI wr1420)) 64 (nI at1566)) 65 (nI ne)) 66 (nI lk1419)) (updA X1560 2 K)) := mW_D hD
        refine W.widen (k := 0) (n := 0) (Nat.le_of_ble_eq_true rfl) (Nat.le_of_ble_eq_true rfl) ?_
        refine W.eq (g2 := F0 m 238 ls []) rfl ?_
        obtain ⟨n1578, n1577⟩ := h1573 e1438
        replace n1578 := n1578.symm
        subst n1578
        replace n1577 := n1577.symm
        subst n1577
        refine lv_aload_n hx hb dX12_statementOf_238 rfl (lv_at hl 2 rfl) ?_
        refine r_get (v := .ref (a 13)) hx hb hown hq hE hP 21 50 tFX12_21 (by decide) pw_1443 rfl dX12_statementOf_239 ?_
        refine lv_iload_n hx hb dX12_statementOf_242 rfl (lv_at hl 0 rfl) ?_
        refine lv_aload_n hx hb dX12_statementOf_243 rfl (lv_at hl 2 rfl) ?_
        have hP : va_P G.1 pCl (mW G h0 a (upd (upd (upd (upd (upd (upd (upd (upd (upd F 15 (nI fa1416)) 16 pl1568) 27 (nI (nd1418 + 1))) 31 (nI wr1420)) 64 (nI at1415)) 65 (nI ne)) 66 (nI lk1419)) 15 (nI fa1416)) 64 (nI at1415)) (updA (updA X1560 2 K) 2 K)) _ := hP
        have hD : va_D A (mW G h0 a (upd (upd (upd (upd (upd (upd (upd (upd (upd F 15 (nI fa1416)) 16 pl1568) 27 (nI (nd1418 + 1))) 31 (nI wr1420)) 64 (nI at1415)) 65 (nI ne)) 66 (nI lk1419)) 15 (nI fa1416)) 64 (nI at1415)) (updA (updA X1560 2 K) 2 K)) := mW_D hD
        refine pc_V0 (G := G) (As := []) (rest := [.int (nI nd1418), .ref (a 13)]) hx hb hml hown hq hE hX pX0_al hP hD hS hA hl.1 (RF_statement l G h0 a (upd (upd (upd (upd (upd (upd (upd F 15 (nI fa1416)) 16 pl1568) 27 (nI (nd1418 + 1))) 31 (nI wr1420)) 64 (nI at1415)) 65 (nI ne)) 66 (nI lk1419)) (updA X1560 2 K) at1415 T fa1416 K (by omega) (by omega) hK (by omega) e1438) (gV pw_1699 pw_1700 pw_1701 pw_1523 pw_1706) hV_X12_statement 0 9 rfl rfl rfl rfl (Nat.le_of_ble_eq_true rfl) dX12_statementOf_244 ⟨Nat.le_of_ble_eq_true rfl, Nat.le_of_ble_eq_true rfl⟩ ⟨(by show 2 + 1 ≤ (26 * n + 44); omega), (by show 8 + (3 + 11) + 60 ≤ (2000 * n + 4400); omega)⟩ (fun v1581 u1579 H locs hw1580 hP hD hS => ?_)
        obtain rfl : v1581 = some (.int 0) := hw1580
        have hP : va_P G.1 pCl (mW G h0 a (upd (upd (upd (upd (upd (upd (upd F 15 (nI fa1416)) 16 pl1568) 27 (nI (nd1418 + 1))) 31 (nI wr1420)) 64 (nI at1415)) 65 (nI ne)) 66 (nI lk1419)) (updA X1560 2 K)) _ := mW_to (F := F) (l1 := [(15, (nI fa1416)), (16, pl1568), (27, (nI (nd1418 + 1))), (31, (nI wr1420)), (64, (nI at1415)), (65, (nI ne)), (66, (nI lk1419)), (15, (nI fa1416)), (64, (nI at1415))]) (l2 := [(15, (nI fa1416)), (16, pl1568), (27, (nI (nd1418 + 1))), (31, (nI wr1420)), (64, (nI at1415)), (65, (nI ne)), (66, (nI lk1419))]) (V := [(nI fa1416), pl1568, (nI (nd1418 + 1)), (nI wr1420), (nI at1415), (nI ne), (nI lk1419), (nI fa1416), (nI at1415), (nI fa1416), pl1568, (nI (nd1418 + 1)), (nI wr1420), (nI at1415), (nI ne), (nI lk1419)]) rfl rfl (show (updA (updA X1560 2 K) 2 K) = (updA X1560 2 K) from updsA_eq2 (F := X1560) (l1 := [(2, K), (2, K)]) (l2 := [(2, K)]) (V := [K, K, K]) rfl rfl) hP
        have hD : va_D A (mW G h0 a (upd (upd (upd (upd (upd (upd (upd F 15 (nI fa1416)) 16 pl1568) 27 (nI (nd1418 + 1))) 31 (nI wr1420)) 64 (nI at1415)) 65 (nI ne)) 66 (nI lk1419)) (updA X1560 2 K)) := mW_D hD
        refine W.widen (k := 0) (n := 0) (Nat.le_of_ble_eq_true rfl) (Nat.le_of_ble_eq_true rfl) ?_
        refine W.eq (g2 := F0 m 247 ls [.int 0, .int (nI nd1418), .ref (a 13)]) rfl ?_
        refine r_sti (f := (X1560 13)) (j := nd1418) hx hb hE hP hD hS 13 (ma_13 G a _) rfl (mas_13 G a _) (by omega) (by decide) dX12_statementOf_247 (fun H locs hP hD hS => ?_)
        have hP : va_P G.1 pCl (mW G h0 a (upd (upd (upd (upd (upd (upd (upd F 15 (nI fa1416)) 16 pl1568) 27 (nI (nd1418 + 1))) 31 (nI wr1420)) 64 (nI at1415)) 65 (nI ne)) 66 (nI lk1419)) (updA (stR X1560 13 nd1418 0) 2 K)) _ := mW_to (F := F) (l1 := [(15, (nI fa1416)), (16, pl1568), (27, (nI (nd1418 + 1))), (31, (nI wr1420)), (64, (nI at1415)), (65, (nI ne)), (66, (nI lk1419))]) (l2 := [(15, (nI fa1416)), (16, pl1568), (27, (nI (nd1418 + 1))), (31, (nI wr1420)), (64, (nI at1415)), (65, (nI ne)), (66, (nI lk1419))]) (V := [(nI fa1416), pl1568, (nI (nd1418 + 1)), (nI wr1420), (nI at1415), (nI ne), (nI lk1419), (nI fa1416), pl1568, (nI (nd1418 + 1)), (nI wr1420), (nI at1415), (nI ne), (nI lk1419)]) rfl rfl (show (updA (updA X1560 2 K) 13 (upd (X1560 13) nd1418 0)) = (updA (stR X1560 13 nd1418 0) 2 K) from updsA_eq2 (F := X1560) (l1 := [(2, K), (13, (upd (X1560 13) nd1418 0))]) (l2 := [(13, (upd (X1560 13) nd1418 0)), (2, K)]) (V := [K, (upd (X1560 13) nd1418 0), (upd (X1560 13) nd1418 0), K]) rfl rfl) hP
        have hD : va_D A (mW G h0 a (upd (upd (upd (upd (upd (upd (upd F 15 (nI fa1416)) 16 pl1568) 27 (nI (nd1418 + 1))) 31 (nI wr1420)) 64 (nI at1415)) 65 (nI ne)) 66 (nI lk1419)) (updA (stR X1560 13 nd1418 0) 2 K)) := mW_D hD
        have hkp1582 : Kp B (stR X1560 13 nd1418 0) wr1420 T := (Kp.row hkp1562 (by omega))
        refine lv_iload_n hx hb dX12_statementOf_248 rfl (lv_at hl 0 rfl) ?_
        have hz1583 : at0 ≤ at1415 := (by omega)
        have hz1584 : at1415 ≤ T := (by omega)
        have hz1585 : fa1416 ≤ 100 := (by omega)
        have hz1586 : nd ≤ (nd1418 + 1) := (by omega)
        have hz1587 : (nd1418 + 1) + 2 * at0 ≤ nd + 2 * at1415 + 100000 * fa1416 := (by omega)
        have hz1588 : (nd1418 + 1) + 2 * at0 ≤ nd + 2 * at1415 + (60 * (21 - ne) + 40) := (by omega)
        have hz1589 : wr ≤ wr1420 := (by omega)
        have hz1590 : wr1420 + at0 ≤ wr + at1415 := (by omega)
        have hz1591 : lk ≤ lk1419 := (by omega)
        have hz1592 : lk1419 ≤ 60 + 100 * fa1416 := (by omega)
        have hz1593 : at0 + 1 ≤ at1415 + fa1416 := (by omega)
        have hz1594 : nd1418 ≤ (nd1418 + 1) := (by omega)
        have hz1595 : Kp B (stR X1560 13 nd1418 0) wr1420 T := hkp1582
        have hz1596 : If (fa1416 = 0) (Low B (stR X1560 13 nd1418 0) nd wr ∧ Frs K T wr1420 (stR X1560 13 nd1418 0) nd (nd1418 + 1) 20000 [(nd1418, (280 + 4 * (21 - ne)))] ∧ kcl 3 ((stR X1560 13 nd1418 0) 9 nd1418) = true) := (fun e => absurd e (by omega))
        have hP : va_P G.1 pCl (mW G h0 a (upd (upd (upd (upd (upd (upd (upd F 15 (nI fa1416)) 16 pl1568) 27 (nI (nd1418 + 1))) 31 (nI wr1420)) 64 (nI at1415)) 65 (nI ne)) 66 (nI lk1419)) (updA (stR X1560 13 nd1418 0) 2 K)) _ := hP
        have hD : va_D A (mW G h0 a (upd (upd (upd (upd (upd (upd (upd F 15 (nI fa1416)) 16 pl1568) 27 (nI (nd1418 + 1))) 31 (nI wr1420)) 64 (nI at1415)) 65 (nI ne)) 66 (nI lk1419)) (updA (stR X1560 13 nd1418 0) 2 K)) := mW_D hD
        exact W.iret (v := (nI nd1418)) hx hb hr (fun t9 ht9 hW9 => ⟨⟨_, (at1415, fa1416, pl1568, (nd1418 + 1), lk1419, wr1420, nd1418, (stR X1560 13 nd1418 0)), rfl, ⟨rfl, hz1583, hz1584, hz1585, hz1586, hz1587, hz1588, hz1589, hz1590, hz1591, hz1592, hz1593, hz1594, hz1595, hz1596⟩, by rw [ht9]; exact hP, hD⟩, hS.F ht9⟩) hS.2.2 dX12_statementOf_249
    · have e1411 := e1411
      refine lv_aload_n hx hb dX12_statementOf_218 rfl (lv_at hl 1 rfl) ?_
      refine lv_bipush (v := 35) hx hb dX12_statementOf_219 (by decide) ?_
      refine lv_iload_n hx hb dX12_statementOf_221 rfl (lv_at hl 0 rfl) ?_
      refine lv_iload_n hx hb dX12_statementOf_222 rfl (lv_at hl 0 rfl) ?_
      refine lv_aload_n hx hb dX12_statementOf_223 rfl (lv_at hl 1 rfl) ?_
      have hP : va_P G.1 pCl (mW G h0 a (upd (upd (upd (upd (upd (upd (upd (upd (upd F 15 (nI fa1401)) 16 pl1402) 27 (nI nd)) 31 (nI wr)) 64 (nI at1400)) 65 (nI ne)) 66 (nI lk)) 15 (nI fa1401)) 64 (nI at1400)) (updA (updA B 2 K) 2 K)) _ := mW_to (F := F) (l1 := [(15, (nI fa1401)), (16, pl1402), (27, (nI nd)), (31, (nI wr)), (64, (nI at1400)), (65, (nI ne)), (66, (nI lk))]) (l2 := [(15, (nI fa1401)), (16, pl1402), (27, (nI nd)), (31, (nI wr)), (64, (nI at1400)), (65, (nI ne)), (66, (nI lk)), (15, (nI fa1401)), (64, (nI at1400))]) (V := [(nI fa1401), pl1402, (nI nd), (nI wr), (nI at1400), (nI ne), (nI lk), (nI fa1401), pl1402, (nI nd), (nI wr), (nI at1400), (nI ne), (nI lk), (nI fa1401), (nI at1400)]) rfl rfl (show (updA B 2 K) = (updA (updA B 2 K) 2 K) from updsA_eq2 (F := B) (l1 := [(2, K)]) (l2 := [(2, K), (2, K)]) (V := [K, K, K]) rfl rfl) hP
      have hD : va_D A (mW G h0 a (upd (upd (upd (upd (upd (upd (upd (upd (upd F 15 (nI fa1401)) 16 pl1402) 27 (nI nd)) 31 (nI wr)) 64 (nI at1400)) 65 (nI ne)) 66 (nI lk)) 15 (nI fa1401)) 64 (nI at1400)) (updA (updA B 2 K) 2 K)) := mW_D hD
      refine pc_V0 (G := G) (As := []) (rest := [.int (nI at0), .int (nI at0), .int 35, .ref h0]) hx hb hml hown hq hE hX pX0_al hP hD hS hA hl.1 (RF_choice l G h0 a (upd (upd (upd (upd (upd (upd (upd F 15 (nI fa1401)) 16 pl1402) 27 (nI nd)) 31 (nI wr)) 64 (nI at1400)) 65 (nI ne)) 66 (nI lk)) (updA B 2 K) at1400 T fa1401 K (by omega) (by omega) hK (by omega) e1411) (gV pw_1640 pw_1641 pw_1642 pw_1523 pw_1656) hV_X12_choice 0 9 rfl rfl rfl rfl (Nat.le_of_ble_eq_true rfl) dX12_statementOf_224 ⟨Nat.le_of_ble_eq_true rfl, Nat.le_of_ble_eq_true rfl⟩ ⟨(by show 16 + 1 ≤ (26 * n + 44); omega), (by show 8 + (4 + 11) + 405 ≤ (2000 * n + 4400); omega)⟩ (fun v1599 u1597 H locs hw1598 hP hD hS => ?_)
      obtain rfl : v1599 = some (.int 0) := hw1598
      have hP : va_P G.1 pCl (mW G h0 a (upd (upd (upd (upd (upd (upd (upd F 15 (nI fa1401)) 16 pl1402) 27 (nI nd)) 31 (nI wr)) 64 (nI at1400)) 65 (nI ne)) 66 (nI lk)) (updA B 2 K)) _ := mW_to (F := F) (l1 := [(15, (nI fa1401)), (16, pl1402), (27, (nI nd)), (31, (nI wr)), (64, (nI at1400)), (65, (nI ne)), (66, (nI lk)), (15, (nI fa1401)), (64, (nI at1400))]) (l2 := [(15, (nI fa1401)), (16, pl1402), (27, (nI nd)), (31, (nI wr)), (64, (nI at1400)), (65, (nI ne)), (66, (nI lk))]) (V := [(nI fa1401), pl1402, (nI nd), (nI wr), (nI at1400), (nI ne), (nI lk), (nI fa1401), (nI at1400), (nI fa1401), pl1402, (nI nd), (nI wr), (nI at1400), (nI ne), (nI lk)]) rfl rfl (show (updA (updA B 2 K) 2 K) = (updA B 2 K) from updsA_eq2 (F := B) (l1 := [(2, K), (2, K)]) (l2 := [(2, K)]) (V := [K, K, K]) rfl rfl) hP
      have hD : va_D A (mW G h0 a (upd (upd (upd (upd (upd (upd (upd F 15 (nI fa1401)) 16 pl1402) 27 (nI nd)) 31 (nI wr)) 64 (nI at1400)) 65 (nI ne)) 66 (nI lk)) (updA B 2 K)) := mW_D hD
      refine W.widen (k := 0) (n := 0) (Nat.le_of_ble_eq_true rfl) (Nat.le_of_ble_eq_true rfl) ?_
      refine W.eq (g2 := F0 m 227 ls [.int 0, .int (nI at0), .int (nI at0), .int 35, .ref h0]) rfl ?_
      refine lv_iconst (v := (-1)) hx hb dX12_statementOf_227 (by decide) ?_
      have hP : va_P G.1 pCl (mW G h0 a (upd (upd (upd (upd (upd (upd (upd (upd F 15 (nI fa1401)) 16 pl1402) 27 (nI nd)) 31 (nI wr)) 64 (nI at1400)) 65 (nI ne)) 66 (nI lk)) 27 (nI nd)) (updA B 2 K)) _ := mW_to (F := F) (l1 := [(15, (nI fa1401)), (16, pl1402), (27, (nI nd)), (31, (nI wr)), (64, (nI at1400)), (65, (nI ne)), (66, (nI lk))]) (l2 := [(15, (nI fa1401)), (16, pl1402), (27, (nI nd)), (31, (nI wr)), (64, (nI at1400)), (65, (nI ne)), (66, (nI lk)), (27, (nI nd))]) (V := [(nI fa1401), pl1402, (nI nd), (nI wr), (nI at1400), (nI ne), (nI lk), (nI fa1401), pl1402, (nI nd), (nI wr), (nI at1400), (nI ne), (nI lk), (nI nd)]) rfl rfl rfl hP
      have hD : va_D A (mW G h0 a (upd (upd (upd (upd (upd (upd (upd (upd F 15 (nI fa1401)) 16 pl1402) 27 (nI nd)) 31 (nI wr)) 64 (nI at1400)) 65 (nI ne)) 66 (nI lk)) 27 (nI nd)) (updA B 2 K)) := mW_D hD
      refine pc_V0 (G := G) (As := [.int 35, .int (nI at0), .int (nI at0), .int 0, .int (-1)]) (rest := []) hx hb hml hown hq hE hX pX0_al hP hD hS hA hl.1 (R_nodeB l G h0 a (upd (upd (upd (upd (upd (upd (upd F 15 (nI fa1401)) 16 pl1402) 27 (nI nd)) 31 (nI wr)) 64 (nI at1400)) 65 (nI ne)) 66 (nI lk)) B 35 (nI at0) (nI at0) 0 (-1) nd K (by omega)) (gV pw_1650 pw_1651 pw_1652 pw_1523 pw_1589) hV_X12_node 0 9 rfl rfl rfl rfl (Nat.le_of_ble_eq_true rfl) dX12_statementOf_228 ⟨Nat.le_of_ble_eq_true rfl, Nat.le_of_ble_eq_true rfl⟩ ⟨(by show 2 + 1 ≤ (26 * n + 44); omega), (by show 8 + (7 + 11) + 60 ≤ (2000 * n + 4400); omega)⟩ (fun v1602 u1600 H locs hw1601 hP hD hS => ?_)
      obtain ⟨X1603, rfl⟩ : ∃ z, z = u1600 := ⟨_, rfl⟩
      obtain ⟨hw1601, h1604⟩ := hw1601
      have h1604 : NewN B X1603 nd 35 (nI at0) (nI at0) 0 (-1) := h1604
      obtain rfl : v1602 = some (.int (nI nd)) := hw1601
      have hP : va_P G.1 pCl (mW G h0 a (upd (upd (upd (upd (upd (upd (upd F 15 (nI fa1401)) 16 pl1402) 27 (nI (nd + 1))) 31 (nI wr)) 64 (nI at1400)) 65 (nI ne)) 66 (nI lk)) (updA X1603 2 K)) _ := mW_to (F := F) (l1 := [(15, (nI fa1401)), (16, pl1402), (27, (nI nd)), (31, (nI wr)), (64, (nI at1400)), (65, (nI ne)), (66, (nI lk)), (27, (nI (nd + 1)))]) (l2 := [(15, (nI fa1401)), (16, pl1402), (27, (nI (nd + 1))), (31, (nI wr)), (64, (nI at1400)), (65, (nI ne)), (66, (nI lk))]) (V := [(nI fa1401), pl1402, (nI (nd + 1)), (nI wr), (nI at1400), (nI ne), (nI lk), (nI (nd + 1)), (nI fa1401), pl1402, (nI (nd + 1)), (nI wr), (nI at1400), (nI ne), (nI lk)]) rfl rfl rfl hP
      have hD : va_D A (mW G h0 a (upd (upd (upd (upd (upd (upd (upd F 15 (nI fa1401)) 16 pl1402) 27 (nI (nd + 1))) 31 (nI wr)) 64 (nI at1400)) 65 (nI ne)) 66 (nI lk)) (updA X1603 2 K)) := mW_D hD
      refine W.widen (k := 0) (n := 0) (Nat.le_of_ble_eq_true rfl) (Nat.le_of_ble_eq_true rfl) ?_
      refine W.eq (g2 := F0 m 231 ls [.int (nI nd)]) rfl ?_
      have hkp1605 : Kp B X1603 wr T := (Kp.new hkp1 h1604)
      refine lv_istore_n (lv' := [(2, .int (nI nd)), (1, .int (nI at0)), (0, .ref h0)]) hx hb dX12_statementOf_231 rfl hl (by decide) rfl (fun ls hl => ?_)
      refine lv_aload_n hx hb dX12_statementOf_232 rfl (lv_at hl 2 rfl) ?_
      refine lv_bipush (v := 41) hx hb dX12_statementOf_233 (by decide) ?_
      have hP : va_P G.1 pCl (mW G h0 a (upd (upd (upd (upd (upd (upd (upd (upd (upd F 15 (nI fa1401)) 16 pl1402) 27 (nI (nd + 1))) 31 (nI wr)) 64 (nI at1400)) 65 (nI ne)) 66 (nI lk)) 15 (nI fa1401)) 64 (nI at1400)) (updA (updA X1603 2 K) 2 K)) _ := mW_to (F := F) (l1 := [(15, (nI fa1401)), (16, pl1402), (27, (nI (nd + 1))), (31, (nI wr)), (64, (nI at1400)), (65, (nI ne)), (66, (nI lk))]) (l2 := [(15, (nI fa1401)), (16, pl1402), (27, (nI (nd + 1))), (31, (nI wr)), (64, (nI at1400)), (65, (nI ne)), (66, (nI lk)), (15, (nI fa1401)), (64, (nI at1400))]) (V := [(nI fa1401), pl1402, (nI (nd + 1)), (nI wr), (nI at1400), (nI ne), (nI lk), (nI fa1401), pl1402, (nI (nd + 1)), (nI wr), (nI at1400), (nI ne), (nI lk), (nI fa1401), (nI at1400)]) rfl rfl (show (updA X1603 2 K) = (updA (updA X1603 2 K) 2 K) from updsA_eq2 (F := X1603) (l1 := [(2, K)]) (l2 := [(2, K), (2, K)]) (V := [K, K, K]) rfl rfl) hP
      have hD : va_D A (mW G h0 a (upd (upd (upd (upd (upd (upd (upd (upd (upd F 15 (nI fa1401)) 16 pl1402) 27 (nI (nd + 1))) 31 (nI wr)) 64 (nI at1400)) 65 (nI ne)) 66 (nI lk)) 15 (nI fa1401)) 64 (nI at1400)) (updA (updA X1603 2 K) 2 K)) := mW_D hD
      refine pc_V0 (G := G) (As := [.int 41]) (rest := []) hx hb hml hown hq hE hX pX0_al hP hD hS hA hl.1 (R_take l G h0 a (upd (upd (upd (upd (upd (upd (upd F 15 (nI fa1401)) 16 pl1402) 27 (nI (nd + 1))) 31 (nI wr)) 64 (nI at1400)) 65 (nI ne)) 66 (nI lk)) (updA X1603 2 K) at1400 T fa1401 K 41 (by omega) (by omega) hK (by omega) (by decide) (by decide)) (gV pw_1614 pw_1615 pw_1616 pw_1523 pw_1601) hV_X12_take 0 9 rfl rfl rfl rfl (Nat.le_of_ble_eq_true rfl) dX12_statementOf_235 ⟨Nat.le_of_ble_eq_true rfl, Nat.le_of_ble_eq_true rfl⟩ ⟨(by show 4 + 1 ≤ (26 * n + 44); omega), (by show 8 + (2 + 11) + 103 ≤ (2000 * n + 4400); omega)⟩ (fun v1608 u1606 H locs hw1607 hP hD hS => ?_)
      obtain ⟨at1609, fa1610, pl1611⟩ := u1606
      obtain ⟨hw1607, h1612, h1613, h1614, h1615, h1616, h1617, h1618, h1619⟩ := hw1607
      have h1612 : at1400 ≤ at1609 := h1612
      have h1613 : at1609 ≤ T := h1613
      have h1614 : fa1401 ≤ fa1610 := h1614
      have h1615 : fa1610 ≤ 100 := h1615
      have h1616 : If (0 < fa1401) (at1609 = at1400 ∧ fa1610 = fa1401) := h1616
      have h1617 : at1609 ≤ at1400 + 1 := h1617
      have h1618 : at1400 + 1 ≤ at1609 + fa1610 := h1618
      have h1619 : If (fa1610 = 0) (K at1400 = 41) := h1619
      obtain rfl : v1608 = none := hw1607
      have hP : va_P G.1 pCl (mW G h0 a (upd (upd (upd (upd (upd (upd (upd F 15 (nI fa1610)) 16 pl1611) 27 (nI (nd + 1))) 31 (nI wr)) 64 (nI at1609)) 65 (nI ne)) 66 (nI lk)) (updA X1603 2 K)) _ := mW_to (F := F) (l1 := [(15, (nI fa1401)), (16, pl1402), (27, (nI (nd + 1))), (31, (nI wr)), (64, (nI at1400)), (65, (nI ne)), (66, (nI lk)), (15, (nI fa1610)), (16, pl1611), (64, (nI at1609))]) (l2 := [(15, (nI fa1610)), (16, pl1611), (27, (nI (nd + 1))), (31, (nI wr)), (64, (nI at1609)), (65, (nI ne)), (66, (nI lk))]) (V := [(nI fa1610), pl1611, (nI (nd + 1)), (nI wr), (nI at1609), (nI ne), (nI lk), (nI fa1610), pl1611, (nI at1609), (nI fa1610), pl1611, (nI (nd + 1)), (nI wr), (nI at1609), (nI ne), (nI lk)]) rfl rfl (show (updA (updA X1603 2 K) 2 K) = (updA X1603 2 K) from updsA_eq2 (F := X1603) (l1 := [(2, K), (2, K)]) (l2 := [(2, K)]) (V := [K, K, K]) rfl rfl) hP
      have hD : va_D A (mW G h0 a (upd (upd (upd (upd (upd (upd (upd F 15 (nI fa1610)) 16 pl1611) 27 (nI (nd + 1))) 31 (nI wr)) 64 (nI at1609)) 65 (nI ne)) 66 (nI lk)) (updA X1603 2 K)) := mW_D hD
      refine W.widen (k := 0) (n := 0) (Nat.le_of_ble_eq_true rfl) (Nat.le_of_ble_eq_true rfl) ?_
      refine W.eq (g2 := F0 m 238 ls []) rfl ?_
      obtain ⟨n1621, n1620⟩ := h1616 e1411
      replace n1621 := n1621.symm
      subst n1621
      replace n1620 := n1620.symm
      subst n1620
      refine lv_aload_n hx hb dX12_statementOf_238 rfl (lv_at hl 2 rfl) ?_
      refine r_get (v := .ref (a 13)) hx hb hown hq hE hP 21 50 tFX12_21 (by decide) pw_1443 rfl dX12_statementOf_239 ?_
      refine lv_iload_n hx hb dX12_statementOf_242 rfl (lv_at hl 0 rfl) ?_
      refine lv_aload_n hx hb dX12_statementOf_243 rfl (lv_at hl 2 rfl) ?_
      have hP : va_P G.1 pCl (mW G h0 a (upd (upd (upd (upd (upd (upd (upd (upd (upd F 15 (nI fa1401)) 16 pl1611) 27 (nI (nd + 1))) 31 (nI wr)) 64 (nI at1400)) 65 (nI ne)) 66 (nI lk)) 15 (nI fa1401)) 64 (nI at1400)) (updA (updA X1603 2 K) 2 K)) _ := hP
      have hD : va_D A (mW G h0 a (upd (upd (upd (upd (upd (upd (upd (upd (upd F 15 (nI fa1401)) 16 pl1611) 27 (nI (nd + 1))) 31 (nI wr)) 64 (nI at1400)) 65 (nI ne)) 66 (nI lk)) 15 (nI fa1401)) 64 (nI at1400)) (updA (updA X1603 2 K) 2 K)) := mW_D hD
      refine pc_V0 (G := G) (As := []) (rest := [.int (nI nd), .ref (a 13)]) hx hb hml hown hq hE hX pX0_al hP hD hS hA hl.1 (RF_statement l G h0 a (upd (upd (upd (upd (upd (upd (upd F 15 (nI fa1401)) 16 pl1611) 27 (nI (nd + 1))) 31 (nI wr)) 64 (nI at1400)) 65 (nI ne)) 66 (nI lk)) (updA X1603 2 K) at1400 T fa1401 K (by omega) (by omega) hK (by omega) e1411) (gV pw_1699 pw_1700 pw_1701 pw_1523 pw_1706) hV_X12_statement 0 9 rfl rfl rfl rfl (Nat.le_of_ble_eq_true rfl) dX12_statementOf_244 ⟨Nat.le_of_ble_eq_true rfl, Nat.le_of_ble_eq_true rfl⟩ ⟨(by show 2 + 1 ≤ (26 * n + 44); omega), (by show 8 + (3 + 11) + 60 ≤ (2000 * n + 4400); omega)⟩ (fun v1624 u1622 H locs hw1623 hP hD hS => ?_)
      obtain rfl : v1624 = some (.int 0) := hw1623
      have hP : va_P G.1 pCl (mW G h0 a (upd (upd (upd (upd (upd (upd (upd F 15 (nI fa1401)) 16 pl1611) 27 (nI (nd + 1))) 31 (nI wr)) 64 (nI at1400)) 65 (nI ne)) 66 (nI lk)) (updA X1603 2 K)) _ := mW_to (F := F) (l1 := [(15, (nI fa1401)), (16, pl1611), (27, (nI (nd + 1))), (31, (nI wr)), (64, (nI at1400)), (65, (nI ne)), (66, (nI lk)), (15, (nI fa1401)), (64, (nI at1400))]) (l2 := [(15, (nI fa1401)), (16, pl1611), (27, (nI (nd + 1))), (31, (nI wr)), (64, (nI at1400)), (65, (nI ne)), (66, (nI lk))]) (V := [(nI fa1401), pl1611, (nI (nd + 1)), (nI wr), (nI at1400), (nI ne), (nI lk), (nI fa1401), (nI at1400), (nI fa1401), pl1611, (nI (nd + 1)), (nI wr), (nI at1400), (nI ne), (nI lk)]) rfl rfl (show (updA (updA X1603 2 K) 2 K) = (updA X1603 2 K) from updsA_eq2 (F := X1603) (l1 := [(2, K), (2, K)]) (l2 := [(2, K)]) (V := [K, K, K]) rfl rfl) hP
      have hD : va_D A (mW G h0 a (upd (upd (upd (upd (upd (upd (upd F 15 (nI fa1401)) 16 pl1611) 27 (nI (nd + 1))) 31 (nI wr)) 64 (nI at1400)) 65 (nI ne)) 66 (nI lk)) (updA X1603 2 K)) := mW_D hD
      refine W.widen (k := 0) (n := 0) (Nat.le_of_ble_eq_true rfl) (Nat.le_of_ble_eq_true rfl) ?_
      refine W.eq (g2 := F0 m 247 ls [.int 0, .int (nI nd), .ref (a 13)]) rfl ?_
      refine r_sti (f := (X1603 13)) (j := nd) hx hb hE hP hD hS 13 (ma_13 G a _) rfl (mas_13 G a _) (by omega) (by decide) dX12_statementOf_247 (fun H locs hP hD hS => ?_)
      have hP : va_P G.1 pCl (mW G h0 a (upd (upd (upd (upd (upd (upd (upd F 15 (nI fa1401)) 16 pl1611) 27 (nI (nd + 1))) 31 (nI wr)) 64 (nI at1400)) 65 (nI ne)) 66 (nI lk)) (updA (stR X1603 13 nd 0) 2 K)) _ := mW_to (F := F) (l1 := [(15, (nI fa1401)), (16, pl1611), (27, (nI (nd + 1))), (31, (nI wr)), (64, (nI at1400)), (65, (nI ne)), (66, (nI lk))]) (l2 := [(15, (nI fa1401)), (16, pl1611), (27, (nI (nd + 1))), (31, (nI wr)), (64, (nI at1400)), (65, (nI ne)), (66, (nI lk))]) (V := [(nI fa1401), pl1611, (nI (nd + 1)), (nI wr), (nI at1400), (nI ne), (nI lk), (nI fa1401), pl1611, (nI (nd + 1)), (nI wr), (nI at1400), (nI ne), (nI lk)]) rfl rfl (show (updA (updA X1603 2 K) 13 (upd (X1603 13) nd 0)) = (updA (stR X1603 13 nd 0) 2 K) from updsA_eq2 (F := X1603) (l1 := [(2, K), (13, (upd (X1603 13) nd 0))]) (l2 := [(13, (upd (X1603 13) nd 0)), (2, K)]) (V := [K, (upd (X1603 13) nd 0), (upd (X1603 13) nd 0), K]) rfl rfl) hP
      have hD : va_D A (mW G h0 a (upd (upd (upd (upd (upd (upd (upd F 15 (nI fa1401)) 16 pl1611) 27 (nI (nd + 1))) 31 (nI wr)) 64 (nI at1400)) 65 (nI ne)) 66 (nI lk)) (updA (stR X1603 13 nd 0) 2 K)) := mW_D hD
      have hkp1625 : Kp B (stR X1603 13 nd 0) wr T := (Kp.row hkp1605 (by omega))
      refine lv_iload_n hx hb dX12_statementOf_248 rfl (lv_at hl 0 rfl) ?_
      have hz1626 : at0 ≤ at1400 := (by omega)
      have hz1627 : at1400 ≤ T := (by omega)
      have hz1628 : fa1401 ≤ 100 := (by omega)
      have hz1629 : nd ≤ (nd + 1) := (by omega)
      have hz1630 : (nd + 1) + 2 * at0 ≤ nd + 2 * at1400 + 100000 * fa1401 := (by omega)
      have hz1631 : (nd + 1) + 2 * at0 ≤ nd + 2 * at1400 + (60 * (21 - ne) + 40) := (by omega)
      have hz1632 : wr ≤ wr := (by omega)
      have hz1633 : wr + at0 ≤ wr + at1400 := (by omega)
      have hz1634 : lk ≤ lk := (by omega)
      have hz1635 : lk ≤ 60 + 100 * fa1401 := (by omega)
      have hz1636 : at0 + 1 ≤ at1400 + fa1401 := (by omega)
      have hz1637 : nd ≤ (nd + 1) := (by omega)
      have hz1638 : Kp B (stR X1603 13 nd 0) wr T := hkp1625
      have hz1639 : If (fa1401 = 0) (Low B (stR X1603 13 nd 0) nd wr ∧ Frs K T wr (stR X1603 13 nd 0) nd (nd + 1) 20000 [(nd, (280 + 4 * (21 - ne)))] ∧ kcl 3 ((stR X1603 13 nd 0) 9 nd) = true) := (fun e => absurd e (by omega))
      have hP : va_P G.1 pCl (mW G h0 a (upd (upd (upd (upd (upd (upd (upd F 15 (nI fa1401)) 16 pl1611) 27 (nI (nd + 1))) 31 (nI wr)) 64 (nI at1400)) 65 (nI ne)) 66 (nI lk)) (updA (stR X1603 13 nd 0) 2 K)) _ := hP
      have hD : va_D A (mW G h0 a (upd (upd (upd (upd (upd (upd (upd F 15 (nI fa1401)) 16 pl1611) 27 (nI (nd + 1))) 31 (nI wr)) 64 (nI at1400)) 65 (nI ne)) 66 (nI lk)) (updA (stR X1603 13 nd 0) 2 K)) := mW_D hD
      exact W.iret (v := (nI nd)) hx hb hr (fun t9 ht9 hW9 => ⟨⟨_, (at1400, fa1401, pl1611, (nd + 1), lk, wr, nd, (stR X1603 13 nd 0)), rfl, ⟨rfl, hz1626, hz1627, hz1628, hz1629, hz1630, hz1631, hz1632, hz1633, hz1634, hz1635, hz1636, hz1637, hz1638, hz1639⟩, by rw [ht9]; exact hP, hD⟩, hS.F ht9⟩) hS.2.2 dX12_statementOf_249
  refine lv_lookup (tgt := 435) (off := 426) hx hb dX12_statementOf_9 (by decide) ((lv_osw h6 (by decide)).trans ((lv_osw h34 (by decide)).trans ((lv_osw h96 (by decide)).trans ((lv_osw h212 (by decide)).trans ((lv_osw h328 (by decide)).trans ((lv_osw h390 (by decide)).trans ((lv_osw h772 (by decide)).trans ((lv_osw h1029 (by decide)).trans ((lv_osw h1205 (by decide)).trans ((lv_osw h1331 (by decide)).trans ((lv_osw h1393 (by decide)).trans rfl))))))))))) (by decide) ?_
  refine lv_aload_n hx hb dX12_statementOf_435 rfl (lv_at hl 1 rfl) ?_
  refine lv_iconst (v := 1) hx hb dX12_statementOf_436 (by decide) ?_
  have hP : va_P G.1 pCl (mW G h0 a (upd (upd (upd (upd (upd (upd (upd (upd (upd (upd (upd (upd F 15 0) 27 (nI nd)) 31 (nI wr)) 64 (nI at0)) 65 (nI ne)) 66 (nI lk)) 15 0) 27 (nI nd)) 31 (nI wr)) 64 (nI at0)) 65 (nI ne)) 66 (nI lk)) (updA B 2 K)) _ := mW_to (F := F) (l1 := [(15, 0), (27, (nI nd)), (31, (nI wr)), (64, (nI at0)), (65, (nI ne)), (66, (nI lk))]) (l2 := [(15, 0), (27, (nI nd)), (31, (nI wr)), (64, (nI at0)), (65, (nI ne)), (66, (nI lk)), (15, 0), (27, (nI nd)), (31, (nI wr)), (64, (nI at0)), (65, (nI ne)), (66, (nI lk))]) (V := [0, (nI nd), (nI wr), (nI at0), (nI ne), (nI lk), 0, (nI nd), (nI wr), (nI at0), (nI ne), (nI lk), 0, (nI nd), (nI wr), (nI at0), (nI ne), (nI lk)]) rfl rfl rfl hP
  have hD : va_D A (mW G h0 a (upd (upd (upd (upd (upd (upd (upd (upd (upd (upd (upd (upd F 15 0) 27 (nI nd)) 31 (nI wr)) 64 (nI at0)) 65 (nI ne)) 66 (nI lk)) 15 0) 27 (nI nd)) 31 (nI wr)) 64 (nI at0)) 65 (nI ne)) 66 (nI lk)) (updA B 2 K)) := mW_D hD
  refine pc_V0 (G := G) (As := [.int 1]) (rest := []) hx hb hml hown hq hE hX pX0_al hP hD hS hA hl.1 (hS1 h0 a (upd (upd (upd (upd (upd (upd F 15 0) 27 (nI nd)) 31 (nI wr)) 64 (nI at0)) 65 (nI ne)) 66 (nI lk)) B at0 T ne nd wr lk K (by omega) (by omega) hK (by omega) (by omega) (by omega) (by omega) (hkp1).2 (by omega)) (gV pw_1696 pw_1697 pw_1698 pw_1523 pw_1682) hV_X12_simple 0 9 rfl rfl rfl rfl (Nat.le_of_ble_eq_true rfl) dX12_statementOf_437 ⟨Nat.le_of_ble_eq_true rfl, Nat.le_of_ble_eq_true rfl⟩ ⟨(by show (26 * n + 30) + 1 ≤ (26 * n + 44); omega), (by show 8 + (6 + 11) + (2000 * n + 3000) ≤ (2000 * n + 4400); omega)⟩ (fun v1642 u1640 H locs hw1641 hP hD hS => ?_)
  obtain ⟨at1643, fa1644, pl1645, nd1646, lk1647, wr1648, r1649, X1650⟩ := u1640
  obtain ⟨hw1641, h1651, h1652, h1653, h1654, h1655, h1656, h1657, h1658, h1659, h1660, h1661, h1662, h1663, h1664⟩ := hw1641
  have h1651 : at0 ≤ at1643 := h1651
  have h1652 : at1643 ≤ T := h1652
  have h1653 : fa1644 ≤ 100 := h1653
  have h1654 : nd ≤ nd1646 := h1654
  have h1655 : nd1646 + 2 * at0 ≤ nd + 2 * at1643 + 1 + 100000 * fa1644 := h1655
  have h1656 : nd1646 + 2 * at0 ≤ nd + 2 * at1643 + (40 * (21 - ne) + 5) := h1656
  have h1657 : wr ≤ wr1648 := h1657
  have h1658 : wr1648 + at0 ≤ wr + at1643 := h1658
  have h1659 : lk ≤ lk1647 := h1659
  have h1660 : lk1647 ≤ 60 + 100 * fa1644 := h1660
  have h1661 : at0 + 1 ≤ at1643 + fa1644 := h1661
  have h1662 : r1649 ≤ nd1646 := h1662
  have h1663 : Kp B X1650 wr1648 T := h1663
  have h1664 : If (fa1644 = 0) (Low B X1650 nd wr ∧ Frs K T wr1648 X1650 nd nd1646 20000 [(r1649, 280)] ∧ kcl 15 (X1650 9 r1649) = true) := h1664
  obtain rfl : v1642 = some (.int (nI r1649)) := hw1641
  have hP : va_P G.1 pCl (mW G h0 a (upd (upd (upd (upd (upd (upd (upd F 15 (nI fa1644)) 16 pl1645) 27 (nI nd1646)) 31 (nI wr1648)) 64 (nI at1643)) 65 (nI ne)) 66 (nI lk1647)) (updA X1650 2 K)) _ := mW_to (F := F) (l1 := [(15, 0), (27, (nI nd)), (31, (nI wr)), (64, (nI at0)), (65, (nI ne)), (66, (nI lk)), (15, (nI fa1644)), (16, pl1645), (27, (nI nd1646)), (31, (nI wr1648)), (64, (nI at1643)), (65, (nI ne)), (66, (nI lk1647))]) (l2 := [(15, (nI fa1644)), (16, pl1645), (27, (nI nd1646)), (31, (nI wr1648)), (64, (nI at1643)), (65, (nI ne)), (66, (nI lk1647))]) (V := [(nI fa1644), (nI nd1646), (nI wr1648), (nI at1643), (nI ne), (nI lk1647), (nI fa1644), pl1645, (nI nd1646), (nI wr1648), (nI at1643), (nI ne), (nI lk1647), (nI fa1644), pl1645, (nI nd1646), (nI wr1648), (nI at1643), (nI ne), (nI lk1647)]) rfl rfl rfl hP
  have hD : va_D A (mW G h0 a (upd (upd (upd (upd (upd (upd (upd F 15 (nI fa1644)) 16 pl1645) 27 (nI nd1646)) 31 (nI wr1648)) 64 (nI at1643)) 65 (nI ne)) 66 (nI lk1647)) (updA X1650 2 K)) := mW_D hD
  refine W.widen (k := 0) (n := 0) (Nat.le_of_ble_eq_true rfl) (Nat.le_of_ble_eq_true rfl) ?_
  refine W.eq (g2 := F0 m 440 ls [.int (nI r1649)]) rfl ?_
  have hkp1665 : Kp B X1650 wr1648 T := (Kp.trans hkp1 h1663)
  rcases Nat.eq_zero_or_pos fa1644 with e1666 | e1666
  · subst e1666
    have hP : va_P G.1 pCl (mW G h0 a (upd (upd (upd (upd (upd (upd (upd F 15 0) 16 pl1645) 27 (nI nd1646)) 31 (nI wr1648)) 64 (nI at1643)) 65 (nI ne)) 66 (nI lk1647)) (updA X1650 2 K)) _ := hP
    have hD : va_D A (mW G h0 a (upd (upd (upd (upd (upd (upd (upd F 15 0) 16 pl1645) 27 (nI nd1646)) 31 (nI wr1648)) 64 (nI at1643)) 65 (nI ne)) 66 (nI lk1647)) (updA X1650 2 K)) := mW_D hD
    obtain ⟨hlw1667, hf1668, hc1669⟩ := h1664 rfl
    have hlo1670 : Low B X1650 nd wr := (Low.trans hlo2 hlw1667 (by omega) (by omega))
    have hm1671 := Frs.mem hf1668
    refine lv_istore_n (lv' := [(2, .int (nI r1649)), (1, .int (nI at0)), (0, .ref h0)]) hx hb dX12_statementOf_440 rfl hl (by decide) rfl (fun ls hl => ?_)
    refine lv_aload_n hx hb dX12_statementOf_441 rfl (lv_at hl 2 rfl) ?_
    refine lv_bipush (v := 59) hx hb dX12_statementOf_442 (by decide) ?_
    have hP : va_P G.1 pCl (mW G h0 a (upd (upd (upd (upd (upd (upd (upd (upd (upd F 15 0) 16 pl1645) 27 (nI nd1646)) 31 (nI wr1648)) 64 (nI at1643)) 65 (nI ne)) 66 (nI lk1647)) 15 (nI 0)) 64 (nI at1643)) (updA (updA X1650 2 K) 2 K)) _ := mW_to (F := F) (l1 := [(15, 0), (16, pl1645), (27, (nI nd1646)), (31, (nI wr1648)), (64, (nI at1643)), (65, (nI ne)), (66, (nI lk1647))]) (l2 := [(15, 0), (16, pl1645), (27, (nI nd1646)), (31, (nI wr1648)), (64, (nI at1643)), (65, (nI ne)), (66, (nI lk1647)), (15, (nI 0)), (64, (nI at1643))]) (V := [(nI 0), pl1645, (nI nd1646), (nI wr1648), (nI at1643), (nI ne), (nI lk1647), (nI 0), pl1645, (nI nd1646), (nI wr1648), (nI at1643), (nI ne), (nI lk1647), (nI 0), (nI at1643)]) rfl rfl (show (updA X1650 2 K) = (updA (updA X1650 2 K) 2 K) from updsA_eq2 (F := X1650) (l1 := [(2, K)]) (l2 := [(2, K), (2, K)]) (V := [K, K, K]) rfl rfl) hP
    have hD : va_D A (mW G h0 a (upd (upd (upd (upd (upd (upd (upd (upd (upd F 15 0) 16 pl1645) 27 (nI nd1646)) 31 (nI wr1648)) 64 (nI at1643)) 65 (nI ne)) 66 (nI lk1647)) 15 (nI 0)) 64 (nI at1643)) (updA (updA X1650 2 K) 2 K)) := mW_D hD
    refine pc_V0 (G := G) (As := [.int 59]) (rest := []) hx hb hml hown hq hE hX pX0_al hP hD hS hA hl.1 (R_take l G h0 a (upd (upd (upd (upd (upd (upd (upd F 15 0) 16 pl1645) 27 (nI nd1646)) 31 (nI wr1648)) 64 (nI at1643)) 65 (nI ne)) 66 (nI lk1647)) (updA X1650 2 K) at1643 T 0 K 59 (by omega) (by omega) hK (by omega) (by decide) (by decide)) (gV pw_1614 pw_1615 pw_1616 pw_1523 pw_1601) hV_X12_take 0 9 rfl rfl rfl rfl (Nat.le_of_ble_eq_true rfl) dX12_statementOf_444 ⟨Nat.le_of_ble_eq_true rfl, Nat.le_of_ble_eq_true rfl⟩ ⟨(by show 4 + 1 ≤ (26 * n + 44); omega), (by show 8 + (2 + 11) + 103 ≤ (2000 * n + 4400); omega)⟩ (fun v1674 u1672 H locs hw1673 hP hD hS => ?_)
    obtain ⟨at1675, fa1676, pl1677⟩ := u1672
    obtain ⟨hw1673, h1678, h1679, h1680, h1681, h1682, h1683, h1684, h1685⟩ := hw1673
    have h1678 : at1643 ≤ at1675 := h1678
    have h1679 : at1675 ≤ T := h1679
    have h1680 : 0 ≤ fa1676 := h1680
    have h1681 : fa1676 ≤ 100 := h1681
    have h1682 : If (0 < 0) (at1675 = at1643 ∧ fa1676 = 0) := h1682
    have h1683 : at1675 ≤ at1643 + 1 := h1683
    have h1684 : at1643 + 1 ≤ at1675 + fa1676 := h1684
    have h1685 : If (fa1676 = 0) (K at1643 = 59) := h1685
    obtain rfl : v1674 = none := hw1673
    have hP : va_P G.1 pCl (mW G h0 a (upd (upd (upd (upd (upd (upd (upd F 15 (nI fa1676)) 16 pl1677) 27 (nI nd1646)) 31 (nI wr1648)) 64 (nI at1675)) 65 (nI ne)) 66 (nI lk1647)) (updA X1650 2 K)) _ := mW_to (F := F) (l1 := [(15, 0), (16, pl1645), (27, (nI nd1646)), (31, (nI wr1648)), (64, (nI at1643)), (65, (nI ne)), (66, (nI lk1647)), (15, (nI fa1676)), (16, pl1677), (64, (nI at1675))]) (l2 := [(15, (nI fa1676)), (16, pl1677), (27, (nI nd1646)), (31, (nI wr1648)), (64, (nI at1675)), (65, (nI ne)), (66, (nI lk1647))]) (V := [(nI fa1676), pl1677, (nI nd1646), (nI wr1648), (nI at1675), (nI ne), (nI lk1647), (nI fa1676), pl1677, (nI at1675), (nI fa1676), pl1677, (nI nd1646), (nI wr1648), (nI at1675), (nI ne), (nI lk1647)]) rfl rfl (show (updA (updA X1650 2 K) 2 K) = (updA X1650 2 K) from updsA_eq2 (F := X1650) (l1 := [(2, K), (2, K)]) (l2 := [(2, K)]) (V := [K, K, K]) rfl rfl) hP
    have hD : va_D A (mW G h0 a (upd (upd (upd (upd (upd (upd (upd F 15 (nI fa1676)) 16 pl1677) 27 (nI nd1646)) 31 (nI wr1648)) 64 (nI at1675)) 65 (nI ne)) 66 (nI lk1647)) (updA X1650 2 K)) := mW_D hD
    refine W.widen (k := 0) (n := 0) (Nat.le_of_ble_eq_true rfl) (Nat.le_of_ble_eq_true rfl) ?_
    refine W.eq (g2 := F0 m 447 ls []) rfl ?_
    rcases Nat.eq_zero_or_pos fa1676 with e1686 | e1686
    · subst e1686
      have hP : va_P G.1 pCl (mW G h0 a (upd (upd (upd (upd (upd (upd (upd F 15 0) 16 pl1677) 27 (nI nd1646)) 31 (nI wr1648)) 64 (nI at1675)) 65 (nI ne)) 66 (nI lk1647)) (updA X1650 2 K)) _ := hP
      have hD : va_D A (mW G h0 a (upd (upd (upd (upd (upd (upd (upd F 15 0) 16 pl1677) 27 (nI nd1646)) 31 (nI wr1648)) 64 (nI at1675)) 65 (nI ne)) 66 (nI lk1647)) (updA X1650 2 K)) := mW_D hD
      refine lv_iload_n hx hb dX12_statementOf_447 rfl (lv_at hl 0 rfl) ?_
      have hz1687 : at0 ≤ at1675 := (by omega)
      have hz1688 : at1675 ≤ T := (by omega)
      have hz1689 : 0 ≤ 100 := (by omega)
      have hz1690 : nd ≤ nd1646 := (by omega)
      have hz1691 : nd1646 + 2 * at0 ≤ nd + 2 * at1675 + 100000 * 0 := (by omega)
      have hz1692 : nd1646 + 2 * at0 ≤ nd + 2 * at1675 + (60 * (21 - ne) + 40) := (by omega)
      have hz1693 : wr ≤ wr1648 := (by omega)
      have hz1694 : wr1648 + at0 ≤ wr + at1675 := (by omega)
      have hz1695 : lk ≤ lk1647 := (by omega)
      have hz1696 : lk1647 ≤ 60 + 100 * 0 := (by omega)
      have hz1697 : at0 + 1 ≤ at1675 + 0 := (by omega)
      have hz1698 : r1649 ≤ nd1646 := (by omega)
      have hz1699 : Kp B X1650 wr1648 T := hkp1665
      have hz1700 : If (0 = 0) (Low B X1650 nd wr ∧ Frs K T wr1648 X1650 nd nd1646 20000 [(r1649, (280 + 4 * (21 - ne)))] ∧ kcl 3 (X1650 9 r1649) = true) := (fun _ => ⟨hlo1670, Frs.up hf1668 (by omega), (kcl_15_3 hc1669)⟩)
      have hP : va_P G.1 pCl (mW G h0 a (upd (upd (upd (upd (upd (upd (upd F 15 (nI 0)) 16 pl1677) 27 (nI nd1646)) 31 (nI wr1648)) 64 (nI at1675)) 65 (nI ne)) 66 (nI lk1647)) (updA X1650 2 K)) _ := mW_to (F := F) (l1 := [(15, 0), (16, pl1677), (27, (nI nd1646)), (31, (nI wr1648)), (64, (nI at1675)), (65, (nI ne)), (66, (nI lk1647))]) (l2 := [(15, (nI 0)), (16, pl1677), (27, (nI nd1646)), (31, (nI wr1648)), (64, (nI at1675)), (65, (nI ne)), (66, (nI lk1647))]) (V := [(nI 0), pl1677, (nI nd1646), (nI wr1648), (nI at1675), (nI ne), (nI lk1647), (nI 0), pl1677, (nI nd1646), (nI wr1648), (nI at1675), (nI ne), (nI lk1647)]) rfl rfl rfl hP
      have hD : va_D A (mW G h0 a (upd (upd (upd (upd (upd (upd (upd F 15 (nI 0)) 16 pl1677) 27 (nI nd1646)) 31 (nI wr1648)) 64 (nI at1675)) 65 (nI ne)) 66 (nI lk1647)) (updA X1650 2 K)) := mW_D hD
      exact W.iret (v := (nI r1649)) hx hb hr (fun t9 ht9 hW9 => ⟨⟨_, (at1675, 0, pl1677, nd1646, lk1647, wr1648, r1649, X1650), rfl, ⟨rfl, hz1687, hz1688, hz1689, hz1690, hz1691, hz1692, hz1693, hz1694, hz1695, hz1696, hz1697, hz1698, hz1699, hz1700⟩, by rw [ht9]; exact hP, hD⟩, hS.F ht9⟩) hS.2.2 dX12_statementOf_448
    · have e1686 := e1686
      refine lv_iload_n hx hb dX12_statementOf_447 rfl (lv_at hl 0 rfl) ?_
      have hz1701 : at0 ≤ at1675 := (by omega)
      have hz1702 : at1675 ≤ T := (by omega)
      have hz1703 : fa1676 ≤ 100 := (by omega)
      have hz1704 : nd ≤ nd1646 := (by omega)
      have hz1705 : nd1646 + 2 * at0 ≤ nd + 2 * at1675 + 100000 * fa1676 := (by omega)
      have hz1706 : nd1646 + 2 * at0 ≤ nd + 2 * at1675 + (60 * (21 - ne) + 40) := (by omega)
      have hz1707 : wr ≤ wr1648 := (by omega)
      have hz1708 : wr1648 + at0 ≤ wr + at1675 := (by omega)
      have hz1709 : lk ≤ lk1647 := (by omega)
      have hz1710 : lk1647 ≤ 60 + 100 * fa1676 := (by omega)
      have hz1711 : at0 + 1 ≤ at1675 + fa1676 := (by omega)
      have hz1712 : r1649 ≤ nd1646 := (by omega)
      have hz1713 : Kp B X1650 wr1648 T := hkp1665
      have hz1714 : If (fa1676 = 0) (Low B X1650 nd wr ∧ Frs K T wr1648 X1650 nd nd1646 20000 [(r1649, (280 + 4 * (21 - ne)))] ∧ kcl 3 (X1650 9 r1649) = true) := (fun e => absurd e (by omega))
      have hP : va_P G.1 pCl (mW G h0 a (upd (upd (upd (upd (upd (upd (upd F 15 (nI fa1676)) 16 pl1677) 27 (nI nd1646)) 31 (nI wr1648)) 64 (nI at1675)) 65 (nI ne)) 66 (nI lk1647)) (updA X1650 2 K)) _ := hP
      have hD : va_D A (mW G h0 a (upd (upd (upd (upd (upd (upd (upd F 15 (nI fa1676)) 16 pl1677) 27 (nI nd1646)) 31 (nI wr1648)) 64 (nI at1675)) 65 (nI ne)) 66 (nI lk1647)) (updA X1650 2 K)) := mW_D hD
      exact W.iret (v := (nI r1649)) hx hb hr (fun t9 ht9 hW9 => ⟨⟨_, (at1675, fa1676, pl1677, nd1646, lk1647, wr1648, r1649, X1650), rfl, ⟨rfl, hz1701, hz1702, hz1703, hz1704, hz1705, hz1706, hz1707, hz1708, hz1709, hz1710, hz1711, hz1712, hz1713, hz1714⟩, by rw [ht9]; exact hP, hD⟩, hS.F ht9⟩) hS.2.2 dX12_statementOf_448
  · have e1666 := e1666
    refine lv_istore_n (lv' := [(2, .int (nI r1649)), (1, .int (nI at0)), (0, .ref h0)]) hx hb dX12_statementOf_440 rfl hl (by decide) rfl (fun ls hl => ?_)
    refine lv_aload_n hx hb dX12_statementOf_441 rfl (lv_at hl 2 rfl) ?_
    refine lv_bipush (v := 59) hx hb dX12_statementOf_442 (by decide) ?_
    have hP : va_P G.1 pCl (mW G h0 a (upd (upd (upd (upd (upd (upd (upd (upd (upd F 15 (nI fa1644)) 16 pl1645) 27 (nI nd1646)) 31 (nI wr1648)) 64 (nI at1643)) 65 (nI ne)) 66 (nI lk1647)) 15 (nI fa1644)) 64 (nI at1643)) (updA (updA X1650 2 K) 2 K)) _ := mW_to (F := F) (l1 := [(15, (nI fa1644)), (16, pl1645), (27, (nI nd1646)), (31, (nI wr1648)), (64, (nI at1643)), (65, (nI ne)), (66, (nI lk1647))]) (l2 := [(15, (nI fa1644)), (16, pl1645), (27, (nI nd1646)), (31, (nI wr1648)), (64, (nI at1643)), (65, (nI ne)), (66, (nI lk1647)), (15, (nI fa1644)), (64, (nI at1643))]) (V := [(nI fa1644), pl1645, (nI nd1646), (nI wr1648), (nI at1643), (nI ne), (nI lk1647), (nI fa1644), pl1645, (nI nd1646), (nI wr1648), (nI at1643), (nI ne), (nI lk1647), (nI fa1644), (nI at1643)]) rfl rfl (show (updA X1650 2 K) = (updA (updA X1650 2 K) 2 K) from updsA_eq2 (F := X1650) (l1 := [(2, K)]) (l2 := [(2, K), (2, K)]) (V := [K, K, K]) rfl rfl) hP
    have hD : va_D A (mW G h0 a (upd (upd (upd (upd (upd (upd (upd (upd (upd F 15 (nI fa1644)) 16 pl1645) 27 (nI nd1646)) 31 (nI wr1648)) 64 (nI at1643)) 65 (nI ne)) 66 (nI lk1647)) 15 (nI fa1644)) 64 (nI at1643)) (updA (updA X1650 2 K) 2 K)) := mW_D hD
    refine pc_V0 (G := G) (As := [.int 59]) (rest := []) hx hb hml hown hq hE hX pX0_al hP hD hS hA hl.1 (R_take l G h0 a (upd (upd (upd (upd (upd (upd (upd F 15 (nI fa1644)) 16 pl1645) 27 (nI nd1646)) 31 (nI wr1648)) 64 (nI at1643)) 65 (nI ne)) 66 (nI lk1647)) (updA X1650 2 K) at1643 T fa1644 K 59 (by omega) (by omega) hK (by omega) (by decide) (by decide)) (gV pw_1614 pw_1615 pw_1616 pw_1523 pw_1601) hV_X12_take 0 9 rfl rfl rfl rfl (Nat.le_of_ble_eq_true rfl) dX12_statementOf_444 ⟨Nat.le_of_ble_eq_true rfl, Nat.le_of_ble_eq_true rfl⟩ ⟨(by show 4 + 1 ≤ (26 * n + 44); omega), (by show 8 + (2 + 11) + 103 ≤ (2000 * n + 4400); omega)⟩ (fun v1717 u1715 H locs hw1716 hP hD hS => ?_)
    obtain ⟨at1718, fa1719, pl1720⟩ := u1715
    obtain ⟨hw1716, h1721, h1722, h1723, h1724, h1725, h1726, h1727, h1728⟩ := hw1716
    have h1721 : at1643 ≤ at1718 := h1721
    have h1722 : at1718 ≤ T := h1722
    have h1723 : fa1644 ≤ fa1719 := h1723
    have h1724 : fa1719 ≤ 100 := h1724
    have h1725 : If (0 < fa1644) (at1718 = at1643 ∧ fa1719 = fa1644) := h1725
    have h1726 : at1718 ≤ at1643 + 1 := h1726
    have h1727 : at1643 + 1 ≤ at1718 + fa1719 := h1727
    have h1728 : If (fa1719 = 0) (K at1643 = 59) := h1728
    obtain rfl : v1717 = none := hw1716
    have hP : va_P G.1 pCl (mW G h0 a (upd (upd (upd (upd (upd (upd (upd F 15 (nI fa1719)) 16 pl1720) 27 (nI nd1646)) 31 (nI wr1648)) 64 (nI at1718)) 65 (nI ne)) 66 (nI lk1647)) (updA X1650 2 K)) _ := mW_to (F := F) (l1 := [(15, (nI fa1644)), (16, pl1645), (27, (nI nd1646)), (31, (nI wr1648)), (64, (nI at1643)), (65, (nI ne)), (66, (nI lk1647)), (15, (nI fa1719)), (16, pl1720), (64, (nI at1718))]) (l2 := [(15, (nI fa1719)), (16, pl1720), (27, (nI nd1646)), (31, (nI wr1648)), (64, (nI at1718)), (65, (nI ne)), (66, (nI lk1647))]) (V := [(nI fa1719), pl1720, (nI nd1646), (nI wr1648), (nI at1718), (nI ne), (nI lk1647), (nI fa1719), pl1720, (nI at1718), (nI fa1719), pl1720, (nI nd1646), (nI wr1648), (nI at1718), (nI ne), (nI lk1647)]) rfl rfl (show (updA (updA X1650 2 K) 2 K) = (updA X1650 2 K) from updsA_eq2 (F := X1650) (l1 := [(2, K), (2, K)]) (l2 := [(2, K)]) (V := [K, K, K]) rfl rfl) hP
    have hD : va_D A (mW G h0 a (upd (upd (upd (upd (upd (upd (upd F 15 (nI fa1719)) 16 pl1720) 27 (nI nd1646)) 31 (nI wr1648)) 64 (nI at1718)) 65 (nI ne)) 66 (nI lk1647)) (updA X1650 2 K)) := mW_D hD
    refine W.widen (k := 0) (n := 0) (Nat.le_of_ble_eq_true rfl) (Nat.le_of_ble_eq_true rfl) ?_
    refine W.eq (g2 := F0 m 447 ls []) rfl ?_
    obtain ⟨n1730, n1729⟩ := h1725 e1666
    replace n1730 := n1730.symm
    subst n1730
    replace n1729 := n1729.symm
    subst n1729
    refine lv_iload_n hx hb dX12_statementOf_447 rfl (lv_at hl 0 rfl) ?_
    have hz1731 : at0 ≤ at1643 := (by omega)
    have hz1732 : at1643 ≤ T := (by omega)
    have hz1733 : fa1644 ≤ 100 := (by omega)
    have hz1734 : nd ≤ nd1646 := (by omega)
    have hz1735 : nd1646 + 2 * at0 ≤ nd + 2 * at1643 + 100000 * fa1644 := (by omega)
    have hz1736 : nd1646 + 2 * at0 ≤ nd + 2 * at1643 + (60 * (21 - ne) + 40) := (by omega)
    have hz1737 : wr ≤ wr1648 := (by omega)
    have hz1738 : wr1648 + at0 ≤ wr + at1643 := (by omega)
    have hz1739 : lk ≤ lk1647 := (by omega)
    have hz1740 : lk1647 ≤ 60 + 100 * fa1644 := (by omega)
    have hz1741 : at0 + 1 ≤ at1643 + fa1644 := (by omega)
    have hz1742 : r1649 ≤ nd1646 := (by omega)
    have hz1743 : Kp B X1650 wr1648 T := hkp1665
    have hz1744 : If (fa1644 = 0) (Low B X1650 nd wr ∧ Frs K T wr1648 X1650 nd nd1646 20000 [(r1649, (280 + 4 * (21 - ne)))] ∧ kcl 3 (X1650 9 r1649) = true) := (fun e => absurd e (by omega))
    have hP : va_P G.1 pCl (mW G h0 a (upd (upd (upd (upd (upd (upd (upd F 15 (nI fa1644)) 16 pl1720) 27 (nI nd1646)) 31 (nI wr1648)) 64 (nI at1643)) 65 (nI ne)) 66 (nI lk1647)) (updA X1650 2 K)) _ := hP
    have hD : va_D A (mW G h0 a (upd (upd (upd (upd (upd (upd (upd F 15 (nI fa1644)) 16 pl1720) 27 (nI nd1646)) 31 (nI wr1648)) 64 (nI at1643)) 65 (nI ne)) 66 (nI lk1647)) (updA X1650 2 K)) := mW_D hD
    exact W.iret (v := (nI r1649)) hx hb hr (fun t9 ht9 hW9 => ⟨⟨_, (at1643, fa1644, pl1720, nd1646, lk1647, wr1648, r1649, X1650), rfl, ⟨rfl, hz1731, hz1732, hz1733, hz1734, hz1735, hz1736, hz1737, hz1738, hz1739, hz1740, hz1741, hz1742, hz1743, hz1744⟩, by rw [ht9]; exact hP, hD⟩, hS.F ht9⟩) hS.2.2 dX12_statementOf_448

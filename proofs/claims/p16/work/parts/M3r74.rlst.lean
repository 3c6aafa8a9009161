theorem dX12_lookStatement_0 : decode cX12_lookStatement 0 = .ok (.aload_n 0, 1) := by decide +kernel
theorem dX12_lookStatement_1 : decode cX12_lookStatement 1 = .ok (.getfield 38, 3) := by decide +kernel
theorem dX12_lookStatement_4 : decode cX12_lookStatement 4 = .ok (.iload_n 1, 1) := by decide +kernel
theorem dX12_lookStatement_5 : decode cX12_lookStatement 5 = .ok (.iaload, 1) := by decide +kernel
theorem dX12_lookStatement_6 : decode cX12_lookStatement 6 = .ok (.tableswitch 469 30 42 #[66, 74, 97, 105, 119, 202, 210, 218, 302, 302, 375, 447, 455], 66) := by decide +kernel
theorem dX12_lookStatement_72 : decode cX12_lookStatement 72 = .ok (.aload_n 0, 1) := by decide +kernel
theorem dX12_lookStatement_73 : decode cX12_lookStatement 73 = .ok (.iload_n 1, 1) := by decide +kernel
theorem dX12_lookStatement_74 : decode cX12_lookStatement 74 = .ok (.invokevirtual 609, 3) := by decide +kernel
theorem dX12_lookStatement_77 : decode cX12_lookStatement 77 = .ok (.goto 398, 3) := by decide +kernel
theorem dX12_lookStatement_475 : decode cX12_lookStatement 475 = .ok (.return_, 1) := by decide +kernel
theorem dX12_lookStatement_80 : decode cX12_lookStatement 80 = .ok (.aload_n 0, 1) := by decide +kernel
theorem dX12_lookStatement_81 : decode cX12_lookStatement 81 = .ok (.getfield 65, 3) := by decide +kernel
theorem dX12_lookStatement_84 : decode cX12_lookStatement 84 = .ok (.iload_n 1, 1) := by decide +kernel
theorem dX12_lookStatement_85 : decode cX12_lookStatement 85 = .ok (.aload_n 0, 1) := by decide +kernel
theorem dX12_lookStatement_86 : decode cX12_lookStatement 86 = .ok (.getfield 537, 3) := by decide +kernel
theorem dX12_lookStatement_89 : decode cX12_lookStatement 89 = .ok (.iastore, 1) := by decide +kernel
theorem dX12_lookStatement_90 : decode cX12_lookStatement 90 = .ok (.aload_n 0, 1) := by decide +kernel
theorem dX12_lookStatement_91 : decode cX12_lookStatement 91 = .ok (.aload_n 0, 1) := by decide +kernel
theorem dX12_lookStatement_92 : decode cX12_lookStatement 92 = .ok (.getfield 47, 3) := by decide +kernel
theorem dX12_lookStatement_95 : decode cX12_lookStatement 95 = .ok (.iload_n 1, 1) := by decide +kernel
theorem dX12_lookStatement_96 : decode cX12_lookStatement 96 = .ok (.iaload, 1) := by decide +kernel
theorem dX12_lookStatement_97 : decode cX12_lookStatement 97 = .ok (.invokevirtual 612, 3) := by decide +kernel
theorem dX12_lookStatement_100 : decode cX12_lookStatement 100 = .ok (.goto 375, 3) := by decide +kernel
theorem dX12_lookStatement_103 : decode cX12_lookStatement 103 = .ok (.aload_n 0, 1) := by decide +kernel
theorem dX12_lookStatement_104 : decode cX12_lookStatement 104 = .ok (.iload_n 1, 1) := by decide +kernel
theorem dX12_lookStatement_105 : decode cX12_lookStatement 105 = .ok (.invokevirtual 615, 3) := by decide +kernel
theorem dX12_lookStatement_108 : decode cX12_lookStatement 108 = .ok (.goto 367, 3) := by decide +kernel
theorem dX12_lookStatement_111 : decode cX12_lookStatement 111 = .ok (.aload_n 0, 1) := by decide +kernel
theorem dX12_lookStatement_112 : decode cX12_lookStatement 112 = .ok (.aload_n 0, 1) := by decide +kernel
theorem dX12_lookStatement_113 : decode cX12_lookStatement 113 = .ok (.getfield 47, 3) := by decide +kernel
theorem dX12_lookStatement_116 : decode cX12_lookStatement 116 = .ok (.iload_n 1, 1) := by decide +kernel
theorem dX12_lookStatement_117 : decode cX12_lookStatement 117 = .ok (.iaload, 1) := by decide +kernel
theorem dX12_lookStatement_118 : decode cX12_lookStatement 118 = .ok (.invokevirtual 557, 3) := by decide +kernel
theorem dX12_lookStatement_121 : decode cX12_lookStatement 121 = .ok (.pop, 1) := by decide +kernel
theorem dX12_lookStatement_122 : decode cX12_lookStatement 122 = .ok (.goto 353, 3) := by decide +kernel
theorem dX12_lookStatement_125 : decode cX12_lookStatement 125 = .ok (.aload_n 0, 1) := by decide +kernel
theorem dX12_lookStatement_126 : decode cX12_lookStatement 126 = .ok (.aload_n 0, 1) := by decide +kernel
theorem dX12_lookStatement_127 : decode cX12_lookStatement 127 = .ok (.getfield 47, 3) := by decide +kernel
theorem dX12_lookStatement_130 : decode cX12_lookStatement 130 = .ok (.iload_n 1, 1) := by decide +kernel
theorem dX12_lookStatement_131 : decode cX12_lookStatement 131 = .ok (.iaload, 1) := by decide +kernel
theorem dX12_lookStatement_132 : decode cX12_lookStatement 132 = .ok (.invokevirtual 618, 3) := by decide +kernel
theorem dX12_lookStatement_135 : decode cX12_lookStatement 135 = .ok (.aload_n 0, 1) := by decide +kernel
theorem dX12_lookStatement_136 : decode cX12_lookStatement 136 = .ok (.getfield 554, 3) := by decide +kernel
theorem dX12_lookStatement_139 : decode cX12_lookStatement 139 = .ok (.istore_n 2, 1) := by decide +kernel
theorem dX12_lookStatement_140 : decode cX12_lookStatement 140 = .ok (.aload_n 0, 1) := by decide +kernel
theorem dX12_lookStatement_141 : decode cX12_lookStatement 141 = .ok (.aload_n 0, 1) := by decide +kernel
theorem dX12_lookStatement_142 : decode cX12_lookStatement 142 = .ok (.getfield 551, 3) := by decide +kernel
theorem dX12_lookStatement_145 : decode cX12_lookStatement 145 = .ok (.putfield 544, 3) := by decide +kernel
theorem dX12_lookStatement_148 : decode cX12_lookStatement 148 = .ok (.aload_n 0, 1) := by decide +kernel
theorem dX12_lookStatement_149 : decode cX12_lookStatement 149 = .ok (.aload_n 0, 1) := by decide +kernel
theorem dX12_lookStatement_150 : decode cX12_lookStatement 150 = .ok (.getfield 50, 3) := by decide +kernel
theorem dX12_lookStatement_153 : decode cX12_lookStatement 153 = .ok (.iload_n 1, 1) := by decide +kernel
theorem dX12_lookStatement_154 : decode cX12_lookStatement 154 = .ok (.iaload, 1) := by decide +kernel
theorem dX12_lookStatement_155 : decode cX12_lookStatement 155 = .ok (.invokevirtual 606, 3) := by decide +kernel
theorem dX12_lookStatement_158 : decode cX12_lookStatement 158 = .ok (.aload_n 0, 1) := by decide +kernel
theorem dX12_lookStatement_159 : decode cX12_lookStatement 159 = .ok (.getfield 544, 3) := by decide +kernel
theorem dX12_lookStatement_162 : decode cX12_lookStatement 162 = .ok (.istore_n 3, 1) := by decide +kernel
theorem dX12_lookStatement_163 : decode cX12_lookStatement 163 = .ok (.aload_n 0, 1) := by decide +kernel
theorem dX12_lookStatement_164 : decode cX12_lookStatement 164 = .ok (.iload_n 2, 1) := by decide +kernel
theorem dX12_lookStatement_165 : decode cX12_lookStatement 165 = .ok (.putfield 544, 3) := by decide +kernel
theorem dX12_lookStatement_168 : decode cX12_lookStatement 168 = .ok (.aload_n 0, 1) := by decide +kernel
theorem dX12_lookStatement_169 : decode cX12_lookStatement 169 = .ok (.getfield 53, 3) := by decide +kernel
theorem dX12_lookStatement_172 : decode cX12_lookStatement 172 = .ok (.iload_n 1, 1) := by decide +kernel
theorem dX12_lookStatement_173 : decode cX12_lookStatement 173 = .ok (.iaload, 1) := by decide +kernel
theorem dX12_lookStatement_174 : decode cX12_lookStatement 174 = .ok (.iconst (-1), 1) := by decide +kernel
theorem dX12_lookStatement_175 : decode cX12_lookStatement 175 = .ok (.if_icmp .eq 20, 3) := by decide +kernel
theorem dX12_lookStatement_195 : decode cX12_lookStatement 195 = .ok (.aload_n 0, 1) := by decide +kernel
theorem dX12_lookStatement_196 : decode cX12_lookStatement 196 = .ok (.dup, 1) := by decide +kernel
theorem dX12_lookStatement_197 : decode cX12_lookStatement 197 = .ok (.getfield 544, 3) := by decide +kernel
theorem dX12_lookStatement_200 : decode cX12_lookStatement 200 = .ok (.iload_n 3, 1) := by decide +kernel
theorem dX12_lookStatement_201 : decode cX12_lookStatement 201 = .ok (.iand, 1) := by decide +kernel
theorem dX12_lookStatement_202 : decode cX12_lookStatement 202 = .ok (.putfield 544, 3) := by decide +kernel
theorem dX12_lookStatement_205 : decode cX12_lookStatement 205 = .ok (.goto 270, 3) := by decide +kernel
theorem dX12_lookStatement_178 : decode cX12_lookStatement 178 = .ok (.aload_n 0, 1) := by decide +kernel
theorem dX12_lookStatement_179 : decode cX12_lookStatement 179 = .ok (.getfield 350, 3) := by decide +kernel
theorem dX12_lookStatement_182 : decode cX12_lookStatement 182 = .ok (.ifCond .ne 13, 3) := by decide +kernel
theorem dX12_lookStatement_185 : decode cX12_lookStatement 185 = .ok (.aload_n 0, 1) := by decide +kernel
theorem dX12_lookStatement_186 : decode cX12_lookStatement 186 = .ok (.aload_n 0, 1) := by decide +kernel
theorem dX12_lookStatement_187 : decode cX12_lookStatement 187 = .ok (.getfield 53, 3) := by decide +kernel
theorem dX12_lookStatement_190 : decode cX12_lookStatement 190 = .ok (.iload_n 1, 1) := by decide +kernel
theorem dX12_lookStatement_191 : decode cX12_lookStatement 191 = .ok (.iaload, 1) := by decide +kernel
theorem dX12_lookStatement_192 : decode cX12_lookStatement 192 = .ok (.invokevirtual 606, 3) := by decide +kernel
theorem dX12_lookStatement_208 : decode cX12_lookStatement 208 = .ok (.aload_n 0, 1) := by decide +kernel
theorem dX12_lookStatement_209 : decode cX12_lookStatement 209 = .ok (.iload_n 1, 1) := by decide +kernel
theorem dX12_lookStatement_210 : decode cX12_lookStatement 210 = .ok (.invokevirtual 621, 3) := by decide +kernel
theorem dX12_lookStatement_213 : decode cX12_lookStatement 213 = .ok (.goto 262, 3) := by decide +kernel
theorem dX12_lookStatement_216 : decode cX12_lookStatement 216 = .ok (.aload_n 0, 1) := by decide +kernel
theorem dX12_lookStatement_217 : decode cX12_lookStatement 217 = .ok (.iload_n 1, 1) := by decide +kernel
theorem dX12_lookStatement_218 : decode cX12_lookStatement 218 = .ok (.invokevirtual 624, 3) := by decide +kernel
theorem dX12_lookStatement_221 : decode cX12_lookStatement 221 = .ok (.goto 254, 3) := by decide +kernel
theorem dX12_lookStatement_224 : decode cX12_lookStatement 224 = .ok (.aload_n 0, 1) := by decide +kernel
theorem dX12_lookStatement_225 : decode cX12_lookStatement 225 = .ok (.getfield 47, 3) := by decide +kernel
theorem dX12_lookStatement_228 : decode cX12_lookStatement 228 = .ok (.iload_n 1, 1) := by decide +kernel
theorem dX12_lookStatement_229 : decode cX12_lookStatement 229 = .ok (.iaload, 1) := by decide +kernel
theorem dX12_lookStatement_230 : decode cX12_lookStatement 230 = .ok (.iconst (-1), 1) := by decide +kernel
theorem dX12_lookStatement_231 : decode cX12_lookStatement 231 = .ok (.if_icmp .ne 31, 3) := by decide +kernel
theorem dX12_lookStatement_234 : decode cX12_lookStatement 234 = .ok (.aload_n 0, 1) := by decide +kernel
theorem dX12_lookStatement_235 : decode cX12_lookStatement 235 = .ok (.aload_n 0, 1) := by decide +kernel
theorem dX12_lookStatement_236 : decode cX12_lookStatement 236 = .ok (.getfield 627, 3) := by decide +kernel
theorem dX12_lookStatement_239 : decode cX12_lookStatement 239 = .ok (.ifCond .ne 7, 3) := by decide +kernel
theorem dX12_lookStatement_246 : decode cX12_lookStatement 246 = .ok (.iconst 0, 1) := by decide +kernel
theorem dX12_lookStatement_247 : decode cX12_lookStatement 247 = .ok (.bipush 11, 2) := by decide +kernel
theorem dX12_lookStatement_249 : decode cX12_lookStatement 249 = .ok (.aload_n 0, 1) := by decide +kernel
theorem dX12_lookStatement_250 : decode cX12_lookStatement 250 = .ok (.getfield 41, 3) := by decide +kernel
theorem dX12_lookStatement_253 : decode cX12_lookStatement 253 = .ok (.iload_n 1, 1) := by decide +kernel
theorem dX12_lookStatement_254 : decode cX12_lookStatement 254 = .ok (.iaload, 1) := by decide +kernel
theorem dX12_lookStatement_255 : decode cX12_lookStatement 255 = .ok (.invokevirtual 540, 3) := by decide +kernel
theorem dX12_lookStatement_258 : decode cX12_lookStatement 258 = .ok (.pop, 1) := by decide +kernel
theorem dX12_lookStatement_259 : decode cX12_lookStatement 259 = .ok (.goto 41, 3) := by decide +kernel
theorem dX12_lookStatement_300 : decode cX12_lookStatement 300 = .ok (.aload_n 0, 1) := by decide +kernel
theorem dX12_lookStatement_301 : decode cX12_lookStatement 301 = .ok (.iconst (-1), 1) := by decide +kernel
theorem dX12_lookStatement_302 : decode cX12_lookStatement 302 = .ok (.putfield 544, 3) := by decide +kernel
theorem dX12_lookStatement_305 : decode cX12_lookStatement 305 = .ok (.goto 170, 3) := by decide +kernel
theorem dX12_lookStatement_242 : decode cX12_lookStatement 242 = .ok (.iconst 1, 1) := by decide +kernel
theorem dX12_lookStatement_243 : decode cX12_lookStatement 243 = .ok (.goto 4, 3) := by decide +kernel
theorem dX12_lookStatement_262 : decode cX12_lookStatement 262 = .ok (.aload_n 0, 1) := by decide +kernel
theorem dX12_lookStatement_263 : decode cX12_lookStatement 263 = .ok (.aload_n 0, 1) := by decide +kernel
theorem dX12_lookStatement_264 : decode cX12_lookStatement 264 = .ok (.getfield 47, 3) := by decide +kernel
theorem dX12_lookStatement_267 : decode cX12_lookStatement 267 = .ok (.iload_n 1, 1) := by decide +kernel
theorem dX12_lookStatement_268 : decode cX12_lookStatement 268 = .ok (.iaload, 1) := by decide +kernel
theorem dX12_lookStatement_269 : decode cX12_lookStatement 269 = .ok (.invokevirtual 557, 3) := by decide +kernel
theorem dX12_lookStatement_272 : decode cX12_lookStatement 272 = .ok (.istore_n 2, 1) := by decide +kernel
theorem dX12_lookStatement_273 : decode cX12_lookStatement 273 = .ok (.aload_n 0, 1) := by decide +kernel
theorem dX12_lookStatement_274 : decode cX12_lookStatement 274 = .ok (.aload_n 0, 1) := by decide +kernel
theorem dX12_lookStatement_275 : decode cX12_lookStatement 275 = .ok (.iload_n 2, 1) := by decide +kernel
theorem dX12_lookStatement_276 : decode cX12_lookStatement 276 = .ok (.aload_n 0, 1) := by decide +kernel
theorem dX12_lookStatement_277 : decode cX12_lookStatement 277 = .ok (.getfield 627, 3) := by decide +kernel
theorem dX12_lookStatement_280 : decode cX12_lookStatement 280 = .ok (.invokevirtual 534, 3) := by decide +kernel
theorem dX12_lookStatement_283 : decode cX12_lookStatement 283 = .ok (.bipush 11, 2) := by decide +kernel
theorem dX12_lookStatement_285 : decode cX12_lookStatement 285 = .ok (.aload_n 0, 1) := by decide +kernel
theorem dX12_lookStatement_286 : decode cX12_lookStatement 286 = .ok (.getfield 41, 3) := by decide +kernel
theorem dX12_lookStatement_289 : decode cX12_lookStatement 289 = .ok (.aload_n 0, 1) := by decide +kernel
theorem dX12_lookStatement_290 : decode cX12_lookStatement 290 = .ok (.getfield 47, 3) := by decide +kernel
theorem dX12_lookStatement_293 : decode cX12_lookStatement 293 = .ok (.iload_n 1, 1) := by decide +kernel
theorem dX12_lookStatement_294 : decode cX12_lookStatement 294 = .ok (.iaload, 1) := by decide +kernel
theorem dX12_lookStatement_295 : decode cX12_lookStatement 295 = .ok (.iaload, 1) := by decide +kernel
theorem dX12_lookStatement_296 : decode cX12_lookStatement 296 = .ok (.invokevirtual 540, 3) := by decide +kernel
theorem dX12_lookStatement_299 : decode cX12_lookStatement 299 = .ok (.pop, 1) := by decide +kernel
theorem dX12_lookStatement_308 : decode cX12_lookStatement 308 = .ok (.aload_n 0, 1) := by decide +kernel
theorem dX12_lookStatement_309 : decode cX12_lookStatement 309 = .ok (.aload_n 0, 1) := by decide +kernel
theorem dX12_lookStatement_310 : decode cX12_lookStatement 310 = .ok (.getfield 630, 3) := by decide +kernel
theorem dX12_lookStatement_313 : decode cX12_lookStatement 313 = .ok (.ifCond .le 7, 3) := by decide +kernel
theorem dX12_lookStatement_320 : decode cX12_lookStatement 320 = .ok (.iconst 0, 1) := by decide +kernel
theorem dX12_lookStatement_321 : decode cX12_lookStatement 321 = .ok (.bipush 14, 2) := by decide +kernel
theorem dX12_lookStatement_323 : decode cX12_lookStatement 323 = .ok (.aload_n 0, 1) := by decide +kernel
theorem dX12_lookStatement_324 : decode cX12_lookStatement 324 = .ok (.getfield 41, 3) := by decide +kernel
theorem dX12_lookStatement_327 : decode cX12_lookStatement 327 = .ok (.iload_n 1, 1) := by decide +kernel
theorem dX12_lookStatement_328 : decode cX12_lookStatement 328 = .ok (.iaload, 1) := by decide +kernel
theorem dX12_lookStatement_329 : decode cX12_lookStatement 329 = .ok (.invokevirtual 540, 3) := by decide +kernel
theorem dX12_lookStatement_332 : decode cX12_lookStatement 332 = .ok (.pop, 1) := by decide +kernel
theorem dX12_lookStatement_333 : decode cX12_lookStatement 333 = .ok (.aload_n 0, 1) := by decide +kernel
theorem dX12_lookStatement_334 : decode cX12_lookStatement 334 = .ok (.getfield 38, 3) := by decide +kernel
theorem dX12_lookStatement_337 : decode cX12_lookStatement 337 = .ok (.iload_n 1, 1) := by decide +kernel
theorem dX12_lookStatement_338 : decode cX12_lookStatement 338 = .ok (.iaload, 1) := by decide +kernel
theorem dX12_lookStatement_339 : decode cX12_lookStatement 339 = .ok (.bipush 38, 2) := by decide +kernel
theorem dX12_lookStatement_341 : decode cX12_lookStatement 341 = .ok (.if_icmp .ne 19, 3) := by decide +kernel
theorem dX12_lookStatement_344 : decode cX12_lookStatement 344 = .ok (.aload_n 0, 1) := by decide +kernel
theorem dX12_lookStatement_345 : decode cX12_lookStatement 345 = .ok (.dup, 1) := by decide +kernel
theorem dX12_lookStatement_346 : decode cX12_lookStatement 346 = .ok (.getfield 633, 3) := by decide +kernel
theorem dX12_lookStatement_349 : decode cX12_lookStatement 349 = .ok (.aload_n 0, 1) := by decide +kernel
theorem dX12_lookStatement_350 : decode cX12_lookStatement 350 = .ok (.getfield 544, 3) := by decide +kernel
theorem dX12_lookStatement_353 : decode cX12_lookStatement 353 = .ok (.iand, 1) := by decide +kernel
theorem dX12_lookStatement_354 : decode cX12_lookStatement 354 = .ok (.putfield 633, 3) := by decide +kernel
theorem dX12_lookStatement_357 : decode cX12_lookStatement 357 = .ok (.goto 16, 3) := by decide +kernel
theorem dX12_lookStatement_373 : decode cX12_lookStatement 373 = .ok (.aload_n 0, 1) := by decide +kernel
theorem dX12_lookStatement_374 : decode cX12_lookStatement 374 = .ok (.iconst (-1), 1) := by decide +kernel
theorem dX12_lookStatement_375 : decode cX12_lookStatement 375 = .ok (.putfield 544, 3) := by decide +kernel
theorem dX12_lookStatement_378 : decode cX12_lookStatement 378 = .ok (.goto 97, 3) := by decide +kernel
theorem dX12_lookStatement_316 : decode cX12_lookStatement 316 = .ok (.iconst 1, 1) := by decide +kernel
theorem dX12_lookStatement_317 : decode cX12_lookStatement 317 = .ok (.goto 4, 3) := by decide +kernel
theorem dX12_lookStatement_360 : decode cX12_lookStatement 360 = .ok (.aload_n 0, 1) := by decide +kernel
theorem dX12_lookStatement_361 : decode cX12_lookStatement 361 = .ok (.dup, 1) := by decide +kernel
theorem dX12_lookStatement_362 : decode cX12_lookStatement 362 = .ok (.getfield 636, 3) := by decide +kernel
theorem dX12_lookStatement_365 : decode cX12_lookStatement 365 = .ok (.aload_n 0, 1) := by decide +kernel
theorem dX12_lookStatement_366 : decode cX12_lookStatement 366 = .ok (.getfield 544, 3) := by decide +kernel
theorem dX12_lookStatement_369 : decode cX12_lookStatement 369 = .ok (.iand, 1) := by decide +kernel
theorem dX12_lookStatement_370 : decode cX12_lookStatement 370 = .ok (.putfield 636, 3) := by decide +kernel
theorem dX12_lookStatement_381 : decode cX12_lookStatement 381 = .ok (.aload_n 0, 1) := by decide +kernel
theorem dX12_lookStatement_382 : decode cX12_lookStatement 382 = .ok (.aload_n 0, 1) := by decide +kernel
theorem dX12_lookStatement_383 : decode cX12_lookStatement 383 = .ok (.getfield 47, 3) := by decide +kernel
theorem dX12_lookStatement_386 : decode cX12_lookStatement 386 = .ok (.iload_n 1, 1) := by decide +kernel
theorem dX12_lookStatement_387 : decode cX12_lookStatement 387 = .ok (.iaload, 1) := by decide +kernel
theorem dX12_lookStatement_388 : decode cX12_lookStatement 388 = .ok (.invokevirtual 557, 3) := by decide +kernel
theorem dX12_lookStatement_391 : decode cX12_lookStatement 391 = .ok (.istore_n 2, 1) := by decide +kernel
theorem dX12_lookStatement_392 : decode cX12_lookStatement 392 = .ok (.aload_n 0, 1) := by decide +kernel
theorem dX12_lookStatement_393 : decode cX12_lookStatement 393 = .ok (.iload_n 2, 1) := by decide +kernel
theorem dX12_lookStatement_394 : decode cX12_lookStatement 394 = .ok (.invokestatic 528, 3) := by decide +kernel
theorem dX12_lookStatement_397 : decode cX12_lookStatement 397 = .ok (.ifCond .eq 30, 3) := by decide +kernel
theorem dX12_lookStatement_427 : decode cX12_lookStatement 427 = .ok (.iconst 0, 1) := by decide +kernel
theorem dX12_lookStatement_428 : decode cX12_lookStatement 428 = .ok (.bipush 11, 2) := by decide +kernel
theorem dX12_lookStatement_430 : decode cX12_lookStatement 430 = .ok (.aload_n 0, 1) := by decide +kernel
theorem dX12_lookStatement_431 : decode cX12_lookStatement 431 = .ok (.getfield 41, 3) := by decide +kernel
theorem dX12_lookStatement_434 : decode cX12_lookStatement 434 = .ok (.aload_n 0, 1) := by decide +kernel
theorem dX12_lookStatement_435 : decode cX12_lookStatement 435 = .ok (.getfield 47, 3) := by decide +kernel
theorem dX12_lookStatement_438 : decode cX12_lookStatement 438 = .ok (.iload_n 1, 1) := by decide +kernel
theorem dX12_lookStatement_439 : decode cX12_lookStatement 439 = .ok (.iaload, 1) := by decide +kernel
theorem dX12_lookStatement_440 : decode cX12_lookStatement 440 = .ok (.iaload, 1) := by decide +kernel
theorem dX12_lookStatement_441 : decode cX12_lookStatement 441 = .ok (.invokevirtual 540, 3) := by decide +kernel
theorem dX12_lookStatement_444 : decode cX12_lookStatement 444 = .ok (.pop, 1) := by decide +kernel
theorem dX12_lookStatement_445 : decode cX12_lookStatement 445 = .ok (.aload_n 0, 1) := by decide +kernel
theorem dX12_lookStatement_446 : decode cX12_lookStatement 446 = .ok (.iconst (-1), 1) := by decide +kernel
theorem dX12_lookStatement_447 : decode cX12_lookStatement 447 = .ok (.putfield 544, 3) := by decide +kernel
theorem dX12_lookStatement_450 : decode cX12_lookStatement 450 = .ok (.goto 25, 3) := by decide +kernel
theorem dX12_lookStatement_400 : decode cX12_lookStatement 400 = .ok (.aload_n 0, 1) := by decide +kernel
theorem dX12_lookStatement_401 : decode cX12_lookStatement 401 = .ok (.getfield 90, 3) := by decide +kernel
theorem dX12_lookStatement_404 : decode cX12_lookStatement 404 = .ok (.iload_n 2, 1) := by decide +kernel
theorem dX12_lookStatement_405 : decode cX12_lookStatement 405 = .ok (.invokestatic 528, 3) := by decide +kernel
theorem dX12_lookStatement_408 : decode cX12_lookStatement 408 = .ok (.ifCond .eq 10, 3) := by decide +kernel
theorem dX12_lookStatement_411 : decode cX12_lookStatement 411 = .ok (.iload_n 2, 1) := by decide +kernel
theorem dX12_lookStatement_412 : decode cX12_lookStatement 412 = .ok (.bipush 10, 2) := by decide +kernel
theorem dX12_lookStatement_414 : decode cX12_lookStatement 414 = .ok (.isub, 1) := by decide +kernel
theorem dX12_lookStatement_415 : decode cX12_lookStatement 415 = .ok (.goto 4, 3) := by decide +kernel
theorem dX12_lookStatement_419 : decode cX12_lookStatement 419 = .ok (.baload, 1) := by decide +kernel
theorem dX12_lookStatement_420 : decode cX12_lookStatement 420 = .ok (.ifCond .ne 7, 3) := by decide +kernel
theorem dX12_lookStatement_423 : decode cX12_lookStatement 423 = .ok (.iconst 1, 1) := by decide +kernel
theorem dX12_lookStatement_424 : decode cX12_lookStatement 424 = .ok (.goto 4, 3) := by decide +kernel
theorem dX12_lookStatement_453 : decode cX12_lookStatement 453 = .ok (.aload_n 0, 1) := by decide +kernel
theorem dX12_lookStatement_454 : decode cX12_lookStatement 454 = .ok (.iload_n 1, 1) := by decide +kernel
theorem dX12_lookStatement_455 : decode cX12_lookStatement 455 = .ok (.invokevirtual 639, 3) := by decide +kernel
theorem dX12_lookStatement_458 : decode cX12_lookStatement 458 = .ok (.goto 17, 3) := by decide +kernel
theorem dX12_lookStatement_461 : decode cX12_lookStatement 461 = .ok (.aload_n 0, 1) := by decide +kernel
theorem dX12_lookStatement_462 : decode cX12_lookStatement 462 = .ok (.aload_n 0, 1) := by decide +kernel
theorem dX12_lookStatement_463 : decode cX12_lookStatement 463 = .ok (.getfield 47, 3) := by decide +kernel
theorem dX12_lookStatement_466 : decode cX12_lookStatement 466 = .ok (.iload_n 1, 1) := by decide +kernel
theorem dX12_lookStatement_467 : decode cX12_lookStatement 467 = .ok (.iaload, 1) := by decide +kernel
theorem dX12_lookStatement_468 : decode cX12_lookStatement 468 = .ok (.iconst 1, 1) := by decide +kernel
theorem dX12_lookStatement_469 : decode cX12_lookStatement 469 = .ok (.invokevirtual 573, 3) := by decide +kernel
theorem dX12_lookStatement_472 : decode cX12_lookStatement 472 = .ok (.goto 3, 3) := by decide +kernel
theorem hV_X12_lookLocal : yX12_lookLocal.cls = RX12 ∧ yX12_lookLocal.cls ≠ "java/lang/invoke/MethodHandle" ∧ yX12_lookLocal.cls ≠ "java/lang/invoke/VarHandle" ∧ (parseMethodDescriptor yX12_lookLocal.desc).map (fun d => d.parameters.length) = some 1 := by decide +kernel
theorem hV_X12_lookAtRow : yX12_lookAtRow.cls = RX12 ∧ yX12_lookAtRow.cls ≠ "java/lang/invoke/MethodHandle" ∧ yX12_lookAtRow.cls ≠ "java/lang/invoke/VarHandle" ∧ (parseMethodDescriptor yX12_lookAtRow.desc).map (fun d => d.parameters.length) = some 1 := by decide +kernel
theorem hV_X12_lookSet : yX12_lookSet.cls = RX12 ∧ yX12_lookSet.cls ≠ "java/lang/invoke/MethodHandle" ∧ yX12_lookSet.cls ≠ "java/lang/invoke/VarHandle" ∧ (parseMethodDescriptor yX12_lookSet.desc).map (fun d => d.parameters.length) = some 1 := by decide +kernel
theorem hV_X12_lookWhile : yX12_lookWhile.cls = RX12 ∧ yX12_lookWhile.cls ≠ "java/lang/invoke/MethodHandle" ∧ yX12_lookWhile.cls ≠ "java/lang/invoke/VarHandle" ∧ (parseMethodDescriptor yX12_lookWhile.desc).map (fun d => d.parameters.length) = some 1 := by decide +kernel
theorem hV_X12_lookFor : yX12_lookFor.cls = RX12 ∧ yX12_lookFor.cls ≠ "java/lang/invoke/MethodHandle" ∧ yX12_lookFor.cls ≠ "java/lang/invoke/VarHandle" ∧ (parseMethodDescriptor yX12_lookFor.desc).map (fun d => d.parameters.length) = some 1 := by decide +kernel
theorem hV_X12_lookTry : yX12_lookTry.cls = RX12 ∧ yX12_lookTry.cls ≠ "java/lang/invoke/MethodHandle" ∧ yX12_lookTry.cls ≠ "java/lang/invoke/VarHandle" ∧ (parseMethodDescriptor yX12_lookTry.desc).map (fun d => d.parameters.length) = some 1 := by decide +kernel
set_option maxHeartbeats 20000000 in
set_option maxRecDepth 100000 in
/-- lookStatement(n) -/
theorem L_lookStatement (l : Launch) (G : pT) (h0 : Nat) (a : Nat → Nat) (F : Nat → Int32) (B : Nat → Nat → Int32) (n9 : Nat) (z9 : Nat) (fa : Nat) (sc : Nat) (il : Nat) (k9 : Nat) (rs : Nat) (nd : Nat) (T : Nat) (nm : Nat) (wr : Nat) (lz : Nat) (dc : Nat) (fd : Nat) (md : Nat) (pr : Nat) (bk : Nat) (gh : Nat → Nat → Nat) (dn : Int32) (wt : Int32) (wf : Int32) (ab : Int32) (ac : Int32) (nc : Nat → Int32) (ty : Nat → Int32) (mn : Nat → Int32) (vn : Nat → Int32) (vt : Nat → Int32) (ev : Nat → Int32) (hst : St B gh nd T nm wr lz dc fd md pr bk) (hnm : nd ≤ 12000 ∧ T ≤ 5000 ∧ wr ≤ 5000 ∧ 7 ≤ dc ∧ dc ≤ 37 ∧ fd ≤ 620 ∧ md ≤ 920 ∧ pr ≤ 5000) (hn9 : n9 < nd) (hz : gh 1 n9 < z9) (hfa : fa ≤ 15) (hsc : sc ≤ 30) (hk9 : 7 ≤ k9 ∧ k9 < dc) (hnc : ∀ i : Nat, i < nd → ¬ B 9 i = 44 → nc i = B 14 i) (hmn : mnN B nd mn) (hil : il + z9 ≤ 1000) (hrs : TyC dc rs) (hrs5 : rs ≤ 2050) (hmc : mnC B nd n9 mn) (hvt : ∀ i : Nat, i < sc → tyOK dc (vt i)) (hve : ∀ i : Nat, i < sc → vt i = ev i) (hkc : kcl 7 (B 9 n9) = true) (ihS : PlookStatement l G (z9 - 1)) : PM l G pX0 yX12_lookStatement cX12_lookStatement 4 none ({ frames := (4 * z9 + 14), cells := 0, slots := 0, locals := (160 * z9 + 1700) }) [.ref h0, .int (nI n9)] (mW G h0 a (upd (upd (upd (upd (upd (upd (upd (upd (upd (upd (upd (upd F 15 (nI fa)) 44 (nI fd)) 49 (nI md)) 73 (nI sc)) 74 (nI k9)) 75 (nI rs)) 76 (nI il)) 77 dn) 78 wt) 79 wf) 80 ab) 81 ac) (updA (updA (updA (updA (updA B 14 nc) 17 ty) 18 mn) 48 vn) 49 vt)) (fun (v : Option Value) (u : Nat × Nat × Int32 × Int32 × Int32 × Int32 × Int32 × Int32 × (Nat → Int32) × (Nat → Int32) × (Nat → Int32) × (Nat → Int32) × (Nat → Int32)) => v = none ∧ (fa ≤ u.1) ∧ (u.1 ≤ 15) ∧ (sc ≤ u.2.1) ∧ (u.2.1 ≤ 30) ∧ (ChS B nd n9 ty u.2.2.2.2.2.2.2.2.2.1 mn u.2.2.2.2.2.2.2.2.2.2.1 nc u.2.2.2.2.2.2.2.2.1) ∧ (mnN B nd u.2.2.2.2.2.2.2.2.2.2.1) ∧ (∀ i : Nat, i < nd → ¬ (B) 9 i = 44 → u.2.2.2.2.2.2.2.2.1 i = (B) 14 i) ∧ (∀ i : Nat, i < sc → u.2.2.2.2.2.2.2.2.2.2.2.2 i = vt i) ∧ (If (u.1 = 0) (TyS B dc fd md nd u.2.2.2.2.2.2.2.2.2.1 u.2.2.2.2.2.2.2.2.2.2.1 u.2.2.2.2.2.2.2.2.1 k9 rs n9 (sc, il, ev) ∧ u.2.1 = (aft B n9 (sc, il, ev)).1 ∧ ∀ i : Nat, i < u.2.1 → u.2.2.2.2.2.2.2.2.2.2.2.2 i = (aft B n9 (sc, il, ev)).2.2 i ∧ tyOK dc (u.2.2.2.2.2.2.2.2.2.2.2.2 i)))) (fun u => (mW G h0 a (upd (upd (upd (upd (upd (upd (upd (upd (upd (upd (upd (upd (upd F 15 (nI u.1)) 16 u.2.2.1) 44 (nI fd)) 49 (nI md)) 73 (nI u.2.1)) 74 (nI k9)) 75 (nI rs)) 76 (nI il)) 77 u.2.2.2.1) 78 u.2.2.2.2.1) 79 u.2.2.2.2.2.1) 80 u.2.2.2.2.2.2.1) 81 u.2.2.2.2.2.2.2.1) (updA (updA (updA (updA (updA B 14 u.2.2.2.2.2.2.2.2.1) 17 u.2.2.2.2.2.2.2.2.2.1) 18 u.2.2.2.2.2.2.2.2.2.2.1) 48 u.2.2.2.2.2.2.2.2.2.2.2.1) 49 u.2.2.2.2.2.2.2.2.2.2.2.2))) := by
  intro sz
  refine Met.ofW (cc := cX12_lookStatement) (maxL := 4) (ret := none) (by decide) rfl ?_
  intro p e s m args below meth c s₁ B9 hml hv
  obtain ⟨rfl, hsz, hP, hD0, hE, hX⟩ := hv
  have hx := B9.exec
  have hb := B9.bytes
  have hr := B9.returns
  have hts := atoms_spec (ws := Cond.code yX12_lookStatement cX12_lookStatement 4 none :: pw) B9.pre
  have hq : ∀ w ∈ pw, w.before _ s = true := fun w h => hts w (List.mem_cons_of_mem _ h)
  have hown : s.vm.findClass RX12 = some m.cls := findClass_of_methodNamed B9.named
  have hlocks := B9.notSynchronized
  subst hsz
  have hD := hD0.self (sz := s.heap.size)
  have hA : ∀ q : Nat, s.heap.size ≤ q → va_A (mW G h0 a (upd (upd (upd (upd (upd (upd (upd (upd (upd (upd (upd (upd F 15 (nI fa)) 44 (nI fd)) 49 (nI md)) 73 (nI sc)) 74 (nI k9)) 75 (nI rs)) 76 (nI il)) 77 dn) 78 wt) 79 wf) 80 ab) 81 ac) (updA (updA (updA (updA (updA B 14 nc) 17 ty) 18 mn) 48 vn) 49 vt)) s.heap.size q := fun q h => Or.inr h
  have hP : va_P G.1 pCl (mW G h0 a (upd (upd (upd (upd (upd (upd (upd (upd (upd (upd (upd (upd F 15 (nI fa)) 44 (nI fd)) 49 (nI md)) 73 (nI sc)) 74 (nI k9)) 75 (nI rs)) 76 (nI il)) 77 dn) 78 wt) 79 wf) 80 ab) 81 ac) (updA (updA (updA (updA (updA B 14 nc) 17 ty) 18 mn) 48 vn) 49 vt)) s.heap := hP
  generalize va_A (mW G h0 a (upd (upd (upd (upd (upd (upd (upd (upd (upd (upd (upd (upd F 15 (nI fa)) 44 (nI fd)) 49 (nI md)) 73 (nI sc)) 74 (nI k9)) 75 (nI rs)) 76 (nI il)) 77 dn) 78 wt) 79 wf) 80 ab) 81 ac) (updA (updA (updA (updA (updA B 14 nc) 17 ty) 18 mn) 48 vn) 49 vt)) s.heap.size = A at hD hE hA ⊢
  have hS : va_S A s.heap s.heap [] := va_S.rf
  have hl := lv_entry ([.ref h0, .int (nI n9)]) (n := 4) (Nat.le_of_ble_eq_true rfl)
  rw [lg_entry_eq]
  generalize (lg_sl ([.ref h0, .int (nI n9)]) ++ List.replicate (4 - (lg_sl ([.ref h0, .int (nI n9)])).length) Slot.unset).toArray = ls at hl ⊢
  have hl : lv_has ls 4 [(0, .ref h0), (1, .int (nI n9))] := hl
  have hF := hst.1
  have hPS := hst.2.1
  have hBI := hst.2.2.1
  have hRK := hst.2.2.2.1
  have hTY := hst.2.2.2.2.1
  have hNW := hst.2.2.2.2.2.1
  have hTK := hst.2.2.2.2.2.2
  refine lv_aload_n hx hb dX12_lookStatement_0 rfl (lv_at hl 0 rfl) ?_
  refine r_get (v := .ref (a 9)) hx hb hown hq hE hP 17 38 tFX12_17 (by decide) pw_1439 rfl dX12_lookStatement_1 ?_
  refine lv_iload_n hx hb dX12_lookStatement_4 rfl (lv_at hl 1 rfl) ?_
  refine r_ldi (f := (B 9)) (j := n9) hx hb hE hP 9 (ma_9 G a _) rfl (by omega) (by decide) dX12_lookStatement_5 ?_
  obtain ⟨kk, ek, k1, k44, hsl⟩ := Fs2.knd hF hn9
  obtain ⟨kl, kr⟩ := kcl7 hkc ek k44
  clear hsl
  rcases (show kk = 30 ∨ kk = 31 ∨ kk = 32 ∨ kk = 33 ∨ kk = 34 ∨ kk = 35 ∨ kk = 36 ∨ kk = 37 ∨ kk = 38 ∨ kk = 39 ∨ kk = 40 ∨ kk = 41 ∨ kk = 42 ∨ kk = 43 by omega) with rfl | rfl | rfl | rfl | rfl | rfl | rfl | rfl | rfl | rfl | rfl | rfl | rfl | rfl
  · refine lv_topi (fun x1 e2 => ?_)
    obtain rfl : x1 = 30 := e2.trans ek
    refine lv_tableIn (tgt := 72) (off := 66) hx hb dX12_lookStatement_6 (by decide) (by decide) (by decide) (by decide) ?_
    refine lv_aload_n hx hb dX12_lookStatement_72 rfl (lv_at hl 0 rfl) ?_
    refine lv_iload_n hx hb dX12_lookStatement_73 rfl (lv_at hl 1 rfl) ?_
    have hP : va_P G.1 pCl (mW G h0 a (upd (upd (upd (upd (upd (upd (upd (upd (upd (upd (upd (upd (upd (upd (upd (upd (upd (upd (upd (upd (upd (upd (upd (upd F 15 (nI fa)) 44 (nI fd)) 49 (nI md)) 73 (nI sc)) 74 (nI k9)) 75 (nI rs)) 76 (nI il)) 77 dn) 78 wt) 79 wf) 80 ab) 81 ac) 15 (nI fa)) 44 (nI fd)) 49 (nI md)) 73 (nI sc)) 74 (nI k9)) 75 (nI rs)) 76 (nI il)) 77 dn) 78 wt) 79 wf) 80 ab) 81 ac) (updA (updA (updA (updA (updA B 14 nc) 17 ty) 18 mn) 48 vn) 49 vt)) _ := hP
    have hD : va_D A (mW G h0 a (upd (upd (upd (upd (upd (upd (upd (upd (upd (upd (upd (upd (upd (upd (upd (upd (upd (upd (upd (upd (upd (upd (upd (upd F 15 (nI fa)) 44 (nI fd)) 49 (nI md)) 73 (nI sc)) 74 (nI k9)) 75 (nI rs)) 76 (nI il)) 77 dn) 78 wt) 79 wf) 80 ab) 81 ac) 15 (nI fa)) 44 (nI fd)) 49 (nI md)) 73 (nI sc)) 74 (nI k9)) 75 (nI rs)) 76 (nI il)) 77 dn) 78 wt) 79 wf) 80 ab) 81 ac) (updA (updA (updA (updA (updA B 14 nc) 17 ty) 18 mn) 48 vn) 49 vt)) := mW_D hD
    refine pc_V0 (G := G) (As := [.int (nI n9)]) (rest := []) hx hb hml hown hq hE hX pX0_al hP hD hS hA hl.1 (L_lookLocal l G h0 a (upd (upd (upd (upd (upd (upd (upd (upd (upd (upd (upd (upd F 15 (nI fa)) 44 (nI fd)) 49 (nI md)) 73 (nI sc)) 74 (nI k9)) 75 (nI rs)) 76 (nI il)) 77 dn) 78 wt) 79 wf) 80 ab) 81 ac) B n9 z9 fa sc il k9 rs nd T nm wr lz dc fd md pr bk gh dn wt wf ab ac nc ty mn vn vt ev hst hnm hn9 (by omega) (by omega) (by omega) hk9 hnc hmn (by omega) hrs (by omega) hmc hvt hve ek ihS) (gV pw_1886 pw_1887 pw_1888 pw_1523 pw_1871) hV_X12_lookLocal 0 9 rfl rfl rfl rfl (Nat.le_of_ble_eq_true rfl) dX12_lookStatement_74 ⟨Nat.le_of_ble_eq_true rfl, Nat.le_of_ble_eq_true rfl⟩ ⟨(by show (4 * z9 + 13) + 1 ≤ (4 * z9 + 14); omega), (by show 8 + (3 + 11) + (160 * z9 + 1660) ≤ (160 * z9 + 1700); omega)⟩ (fun v5 u3 H locs hw4 hP hD hS => ?_)
    obtain ⟨fa6, sc7, pl8, dn9, wt10, wf11, ab12, ac13, nc14, ty15, mn16, vn17, vt18⟩ := u3
    obtain ⟨hw4, h19, h20, h21, h22, h23, h24, h25, h26, h27⟩ := hw4
    replace h19 : fa ≤ fa6 := h19
    replace h20 : fa6 ≤ 15 := h20
    replace h21 : sc ≤ sc7 := h21
    replace h22 : sc7 ≤ 30 := h22
    replace h23 : ChS B nd n9 ty ty15 mn mn16 nc nc14 := h23
    replace h24 : mnN B nd mn16 := h24
    replace h25 : ∀ i : Nat, i < nd → ¬ (B) 9 i = 44 → nc14 i = (B) 14 i := h25
    replace h26 : ∀ i : Nat, i < sc → vt18 i = vt i := h26
    replace h27 : If (fa6 = 0) (TyS B dc fd md nd ty15 mn16 nc14 k9 rs n9 (sc, il, ev) ∧ sc7 = (aft B n9 (sc, il, ev)).1 ∧ ∀ i : Nat, i < sc7 → vt18 i = (aft B n9 (sc, il, ev)).2.2 i ∧ tyOK dc (vt18 i)) := h27
    obtain rfl : v5 = none := hw4
    have hP : va_P G.1 pCl (mW G h0 a (upd (upd (upd (upd (upd (upd (upd (upd (upd (upd (upd (upd (upd F 15 (nI fa6)) 16 pl8) 44 (nI fd)) 49 (nI md)) 73 (nI sc7)) 74 (nI k9)) 75 (nI rs)) 76 (nI il)) 77 dn9) 78 wt10) 79 wf11) 80 ab12) 81 ac13) (updA (updA (updA (updA (updA B 14 nc14) 17 ty15) 18 mn16) 48 vn17) 49 vt18)) _ := mW_to (F := F) (l1 := [(15, (nI fa)), (44, (nI fd)), (49, (nI md)), (73, (nI sc)), (74, (nI k9)), (75, (nI rs)), (76, (nI il)), (77, dn), (78, wt), (79, wf), (80, ab), (81, ac), (15, (nI fa6)), (16, pl8), (44, (nI fd)), (49, (nI md)), (73, (nI sc7)), (74, (nI k9)), (75, (nI rs)), (76, (nI il)), (77, dn9), (78, wt10), (79, wf11), (80, ab12), (81, ac13)]) (l2 := [(15, (nI fa6)), (16, pl8), (44, (nI fd)), (49, (nI md)), (73, (nI sc7)), (74, (nI k9)), (75, (nI rs)), (76, (nI il)), (77, dn9), (78, wt10), (79, wf11), (80, ab12), (81, ac13)]) (V := [(nI fa6), (nI fd), (nI md), (nI sc7), (nI k9), (nI rs), (nI il), dn9, wt10, wf11, ab12, ac13, (nI fa6), pl8, (nI fd), (nI md), (nI sc7), (nI k9), (nI rs), (nI il), dn9, wt10, wf11, ab12, ac13, (nI fa6), pl8, (nI fd), (nI md), (nI sc7), (nI k9), (nI rs), (nI il), dn9, wt10, wf11, ab12, ac13]) rfl rfl rfl hP
    have hD : va_D A (mW G h0 a (upd (upd (upd (upd (upd (upd (upd (upd (upd (upd (upd (upd (upd F 15 (nI fa6)) 16 pl8) 44 (nI fd)) 49 (nI md)) 73 (nI sc7)) 74 (nI k9)) 75 (nI rs)) 76 (nI il)) 77 dn9) 78 wt10) 79 wf11) 80 ab12) 81 ac13) (updA (updA (updA (updA (updA B 14 nc14) 17 ty15) 18 mn16) 48 vn17) 49 vt18)) := mW_D hD
    refine W.widen (k := 0) (n := 0) (Nat.le_of_ble_eq_true rfl) (Nat.le_of_ble_eq_true rfl) ?_
    refine W.eq (g2 := F0 m 77 ls []) rfl ?_
    have hch28 : ChS B nd n9 ty ty15 mn mn16 nc nc14 := (ChS.trans ChS.rfl h23)
    refine lv_goto (tgt := 475) hx hb dX12_lookStatement_77 (by decide) ?_
    have hz29 : fa ≤ fa6 := (by omega)
    have hz30 : fa6 ≤ 15 := (by omega)
    have hz31 : sc ≤ sc7 := (by omega)
    have hz32 : sc7 ≤ 30 := (by omega)
    have hz33 : ChS B nd n9 ty ty15 mn mn16 nc nc14 := hch28
    have hz34 : mnN B nd mn16 := h24
    have hz35 : ∀ i : Nat, i < nd → ¬ (B) 9 i = 44 → nc14 i = (B) 14 i := h25
    have hz36 : ∀ i : Nat, i < sc → vt18 i = vt i := h26
    have hz37 : If (fa6 = 0) (TyS B dc fd md nd ty15 mn16 nc14 k9 rs n9 (sc, il, ev) ∧ sc7 = (aft B n9 (sc, il, ev)).1 ∧ ∀ i : Nat, i < sc7 → vt18 i = (aft B n9 (sc, il, ev)).2.2 i ∧ tyOK dc (vt18 i)) := (fun e => h27 (by omega))
    have hP : va_P G.1 pCl (mW G h0 a (upd (upd (upd (upd (upd (upd (upd (upd (upd (upd (upd (upd (upd F 15 (nI fa6)) 16 pl8) 44 (nI fd)) 49 (nI md)) 73 (nI sc7)) 74 (nI k9)) 75 (nI rs)) 76 (nI il)) 77 dn9) 78 wt10) 79 wf11) 80 ab12) 81 ac13) (updA (updA (updA (updA (updA B 14 nc14) 17 ty15) 18 mn16) 48 vn17) 49 vt18)) _ := hP
    have hD : va_D A (mW G h0 a (upd (upd (upd (upd (upd (upd (upd (upd (upd (upd (upd (upd (upd F 15 (nI fa6)) 16 pl8) 44 (nI fd)) 49 (nI md)) 73 (nI sc7)) 74 (nI k9)) 75 (nI rs)) 76 (nI il)) 77 dn9) 78 wt10) 79 wf11) 80 ab12) 81 ac13) (updA (updA (updA (updA (updA B 14 nc14) 17 ty15) 18 mn16) 48 vn17) 49 vt18)) := mW_D hD
    exact W.vret hx hb hr (fun t9 ht9 hW9 => ⟨⟨_, (fa6, sc7, pl8, dn9, wt10, wf11, ab12, ac13, nc14, ty15, mn16, vn17, vt18), rfl, ⟨rfl, hz29, hz30, hz31, hz32, hz33, hz34, hz35, hz36, hz37⟩, by rw [ht9]; exact hP, hD⟩, hS.F ht9⟩) hS.2.2 dX12_lookStatement_475
  · refine lv_topi (fun x38 e39 => ?_)
    obtain rfl : x38 = 31 := e39.trans ek
    refine lv_tableIn (tgt := 80) (off := 74) hx hb dX12_lookStatement_6 (by decide) (by decide) (by decide) (by decide) ?_
    refine lv_aload_n hx hb dX12_lookStatement_80 rfl (lv_at hl 0 rfl) ?_
    refine r_get (v := .ref (a 18)) hx hb hown hq hE hP 26 65 tFX12_26 (by decide) pw_1448 rfl dX12_lookStatement_81 ?_
    refine lv_iload_n hx hb dX12_lookStatement_84 rfl (lv_at hl 1 rfl) ?_
    refine lv_aload_n hx hb dX12_lookStatement_85 rfl (lv_at hl 0 rfl) ?_
    refine r_get (v := .int (nI sc)) hx hb hown hq hE hP 73 537 tFX12_73 (by decide) pw_1795 rfl dX12_lookStatement_86 ?_
    refine r_sti (f := mn) (j := n9) hx hb hE hP hD hS 18 (ma_18 G a _) rfl (mas_18 G a _) (by omega) (by decide) dX12_lookStatement_89 (fun H locs hP hD hS => ?_)
    have hch40 : ChS B nd n9 ty ty mn (upd mn n9 (nI sc)) nc nc := (ChS.trans ChS.rfl (ChS.setM sub.rfl))
    have hmn41 : mnN B nd (upd mn n9 (nI sc)) := (mnN.up hmn (by rw [ek]; decide))
    refine lv_aload_n hx hb dX12_lookStatement_90 rfl (lv_at hl 0 rfl) ?_
    refine lv_aload_n hx hb dX12_lookStatement_91 rfl (lv_at hl 0 rfl) ?_
    refine r_get (v := .ref (a 12)) hx hb hown hq hE hP 20 47 tFX12_20 (by decide) pw_1442 rfl dX12_lookStatement_92 ?_
    refine lv_iload_n hx hb dX12_lookStatement_95 rfl (lv_at hl 1 rfl) ?_
    refine r_ldi (f := (B 12)) (j := n9) hx hb hE hP 12 (ma_12 G a _) rfl (by omega) (by decide) dX12_lookStatement_96 ?_
    have hP : va_P G.1 pCl (mW G h0 a (upd (upd (upd (upd (upd (upd (upd (upd (upd (upd (upd (upd (upd (upd (upd (upd (upd (upd (upd (upd (upd (upd (upd (upd F 15 (nI fa)) 44 (nI fd)) 49 (nI md)) 73 (nI sc)) 74 (nI k9)) 75 (nI rs)) 76 (nI il)) 77 dn) 78 wt) 79 wf) 80 ab) 81 ac) 15 (nI fa)) 44 (nI fd)) 49 (nI md)) 73 (nI sc)) 74 (nI k9)) 75 (nI rs)) 76 (nI il)) 77 dn) 78 wt) 79 wf) 80 ab) 81 ac) (updA (updA (updA (updA (updA B 14 nc) 17 ty) 18 (upd mn n9 (nI sc))) 48 vn) 49 vt)) _ := hP
    have hD : va_D A (mW G h0 a (upd (upd (upd (upd (upd (upd (upd (upd (upd (upd (upd (upd (upd (upd (upd (upd (upd (upd (upd (upd (upd (upd (upd (upd F 15 (nI fa)) 44 (nI fd)) 49 (nI md)) 73 (nI sc)) 74 (nI k9)) 75 (nI rs)) 76 (nI il)) 77 dn) 78 wt) 79 wf) 80 ab) 81 ac) 15 (nI fa)) 44 (nI fd)) 49 (nI md)) 73 (nI sc)) 74 (nI k9)) 75 (nI rs)) 76 (nI il)) 77 dn) 78 wt) 79 wf) 80 ab) 81 ac) (updA (updA (updA (updA (updA B 14 nc) 17 ty) 18 (upd mn n9 (nI sc))) 48 vn) 49 vt)) := mW_D hD
    refine pc_V0 (G := G) (As := [.int (B 12 n9)]) (rest := []) hx hb hml hown hq hE hX pX0_al hP hD hS hA hl.1 (L_lookAtRow l G h0 a (upd (upd (upd (upd (upd (upd (upd (upd (upd (upd (upd (upd F 15 (nI fa)) 44 (nI fd)) 49 (nI md)) 73 (nI sc)) 74 (nI k9)) 75 (nI rs)) 76 (nI il)) 77 dn) 78 wt) 79 wf) 80 ab) 81 ac) B n9 z9 fa sc il k9 rs nd T nm wr lz dc fd md pr bk gh dn wt wf ab ac nc ty (upd mn n9 (nI sc)) vn vt ev hst hnm hn9 (by omega) (by omega) (by omega) hk9 hnc hmn41 (by omega) hrs (by omega) (mnC.self hmc (by rw [ek]; decide)) hvt hve ek ihS) (gV pw_1889 pw_1890 pw_1891 pw_1523 pw_1909) hV_X12_lookAtRow 0 9 rfl rfl rfl rfl (Nat.le_of_ble_eq_true rfl) dX12_lookStatement_97 ⟨Nat.le_of_ble_eq_true rfl, Nat.le_of_ble_eq_true rfl⟩ ⟨(by show (4 * z9 + 13) + 1 ≤ (4 * z9 + 14); omega), (by show 8 + (4 + 11) + (160 * z9 + 1660) ≤ (160 * z9 + 1700); omega)⟩ (fun v44 u42 H locs hw43 hP hD hS => ?_)
    obtain ⟨fa45, sc46, pl47, dn48, wt49, wf50, ab51, ac52, nc53, ty54, mn55, vn56, vt57⟩ := u42
    obtain ⟨hw43, h58, h59, h60, h61, h62, h63, h64, h65, h66, h67, h68⟩ := hw43
    replace h58 : fa ≤ fa45 := h58
    replace h59 : fa45 ≤ 15 := h59
    replace h60 : sc ≤ sc46 := h60
    replace h61 : sc46 ≤ 30 := h61
    replace h62 : ChS B nd n9 ty ty54 (upd mn n9 (nI sc)) mn55 nc nc53 := h62
    replace h63 : mnN B nd mn55 := h63
    replace h64 : ∀ i : Nat, i < nd → ¬ (B) 9 i = 44 → nc53 i = (B) 14 i := h64
    replace h65 : ∀ i : Nat, i < sc → vt57 i = vt i := h65
    replace h66 : If (fa45 = 0) (∀ z c : Nat, c < 20000 → itr ((B 16)) ((B 12) n9) z = nI c → TyS B dc fd md nd ty54 mn55 nc53 k9 rs c (envL B ((B 12) n9) (sc, il, ev) z)) := h66
    replace h67 : sc46 ≤ sc := h67
    replace h68 : mn55 n9 = (upd mn n9 (nI sc)) n9 := h68
    obtain rfl : v44 = none := hw43
    have hP : va_P G.1 pCl (mW G h0 a (upd (upd (upd (upd (upd (upd (upd (upd (upd (upd (upd (upd (upd F 15 (nI fa45)) 16 pl47) 44 (nI fd)) 49 (nI md)) 73 (nI sc46)) 74 (nI k9)) 75 (nI rs)) 76 (nI il)) 77 dn48) 78 wt49) 79 wf50) 80 ab51) 81 ac52) (updA (updA (updA (updA (updA B 14 nc53) 17 ty54) 18 mn55) 48 vn56) 49 vt57)) _ := mW_to (F := F) (l1 := [(15, (nI fa)), (44, (nI fd)), (49, (nI md)), (73, (nI sc)), (74, (nI k9)), (75, (nI rs)), (76, (nI il)), (77, dn), (78, wt), (79, wf), (80, ab), (81, ac), (15, (nI fa45)), (16, pl47), (44, (nI fd)), (49, (nI md)), (73, (nI sc46)), (74, (nI k9)), (75, (nI rs)), (76, (nI il)), (77, dn48), (78, wt49), (79, wf50), (80, ab51), (81, ac52)]) (l2 := [(15, (nI fa45)), (16, pl47), (44, (nI fd)), (49, (nI md)), (73, (nI sc46)), (74, (nI k9)), (75, (nI rs)), (76, (nI il)), (77, dn48), (78, wt49), (79, wf50), (80, ab51), (81, ac52)]) (V := [(nI fa45), (nI fd), (nI md), (nI sc46), (nI k9), (nI rs), (nI il), dn48, wt49, wf50, ab51, ac52, (nI fa45), pl47, (nI fd), (nI md), (nI sc46), (nI k9), (nI rs), (nI il), dn48, wt49, wf50, ab51, ac52, (nI fa45), pl47, (nI fd), (nI md), (nI sc46), (nI k9), (nI rs), (nI il), dn48, wt49, wf50, ab51, ac52]) rfl rfl rfl hP
    have hD : va_D A (mW G h0 a (upd (upd (upd (upd (upd (upd (upd (upd (upd (upd (upd (upd (upd F 15 (nI fa45)) 16 pl47) 44 (nI fd)) 49 (nI md)) 73 (nI sc46)) 74 (nI k9)) 75 (nI rs)) 76 (nI il)) 77 dn48) 78 wt49) 79 wf50) 80 ab51) 81 ac52) (updA (updA (updA (updA (updA B 14 nc53) 17 ty54) 18 mn55) 48 vn56) 49 vt57)) := mW_D hD
    refine W.widen (k := 0) (n := 0) (Nat.le_of_ble_eq_true rfl) (Nat.le_of_ble_eq_true rfl) ?_
    refine W.eq (g2 := F0 m 100 ls []) rfl ?_
    have hch69 : ChS B nd n9 ty ty54 mn mn55 nc nc53 := (ChS.trans hch40 h62)
    obtain rfl : sc = sc46 := (by omega)
    have hP : va_P G.1 pCl (mW G h0 a (upd (upd (upd (upd (upd (upd (upd (upd (upd (upd (upd (upd (upd F 15 (nI fa45)) 16 pl47) 44 (nI fd)) 49 (nI md)) 73 (nI sc)) 74 (nI k9)) 75 (nI rs)) 76 (nI il)) 77 dn48) 78 wt49) 79 wf50) 80 ab51) 81 ac52) (updA (updA (updA (updA (updA B 14 nc53) 17 ty54) 18 mn55) 48 vn56) 49 vt57)) _ := hP
    have hD : va_D A (mW G h0 a (upd (upd (upd (upd (upd (upd (upd (upd (upd (upd (upd (upd (upd F 15 (nI fa45)) 16 pl47) 44 (nI fd)) 49 (nI md)) 73 (nI sc)) 74 (nI k9)) 75 (nI rs)) 76 (nI il)) 77 dn48) 78 wt49) 79 wf50) 80 ab51) 81 ac52) (updA (updA (updA (updA (updA B 14 nc53) 17 ty54) 18 mn55) 48 vn56) 49 vt57)) := mW_D hD
    have hve70 : ∀ i : Nat, i < sc → vt57 i = ev i := (fun i h => (h65 i h).trans (hve i h))
    have hvt71 : ∀ i : Nat, i < sc → tyOK dc (vt57 i) := (fun i h => by rw [h65 i h]; exact hvt i h)
    refine lv_goto (tgt := 475) hx hb dX12_lookStatement_100 (by decide) ?_
    have hz72 : fa ≤ fa45 := (by omega)
    have hz73 : fa45 ≤ 15 := (by omega)
    have hz74 : sc ≤ sc := (by omega)
    have hz75 : sc ≤ 30 := (by omega)
    have hz76 : ChS B nd n9 ty ty54 mn mn55 nc nc53 := hch69
    have hz77 : mnN B nd mn55 := h63
    have hz78 : ∀ i : Nat, i < nd → ¬ (B) 9 i = 44 → nc53 i = (B) 14 i := h64
    have hz79 : ∀ i : Nat, i < sc → vt57 i = vt i := h65
    have hz80 : If (fa45 = 0) (TyS B dc fd md nd ty54 mn55 nc53 k9 rs n9 (sc, il, ev) ∧ sc = (aft B n9 (sc, il, ev)).1 ∧ ∀ i : Nat, i < sc → vt57 i = (aft B n9 (sc, il, ev)).2.2 i ∧ tyOK dc (vt57 i)) := (fun e => ⟨TyS.of (steps (kk := 31) ek (by decide) ((fun e => slP.list (by decide) (h66 e)) (by omega)) (slP.no (by decide)) (slP.no (by decide)) (slP.no (by decide))) (LTX.st ek (by decide) (by decide) (show LSk B dc ty54 mn55 nc53 rs n9 (sc, il, ev) 31 from (h68.trans upd_eq))), (by rw [(aft_no (by rw [ek]; decide))]), (fun i h => by rw [(aft_no (by rw [ek]; decide))]; exact ⟨hve70 i h, hvt71 i h⟩)⟩)
    have hP : va_P G.1 pCl (mW G h0 a (upd (upd (upd (upd (upd (upd (upd (upd (upd (upd (upd (upd (upd F 15 (nI fa45)) 16 pl47) 44 (nI fd)) 49 (nI md)) 73 (nI sc)) 74 (nI k9)) 75 (nI rs)) 76 (nI il)) 77 dn48) 78 wt49) 79 wf50) 80 ab51) 81 ac52) (updA (updA (updA (updA (updA B 14 nc53) 17 ty54) 18 mn55) 48 vn56) 49 vt57)) _ := hP
    have hD : va_D A (mW G h0 a (upd (upd (upd (upd (upd (upd (upd (upd (upd (upd (upd (upd (upd F 15 (nI fa45)) 16 pl47) 44 (nI fd)) 49 (nI md)) 73 (nI sc)) 74 (nI k9)) 75 (nI rs)) 76 (nI il)) 77 dn48) 78 wt49) 79 wf50) 80 ab51) 81 ac52) (updA (updA (updA (updA (updA B 14 nc53) 17 ty54) 18 mn55) 48 vn56) 49 vt57)) := mW_D hD
    exact W.vret hx hb hr (fun t9 ht9 hW9 => ⟨⟨_, (fa45, sc, pl47, dn48, wt49, wf50, ab51, ac52, nc53, ty54, mn55, vn56, vt57), rfl, ⟨rfl, hz72, hz73, hz74, hz75, hz76, hz77, hz78, hz79, hz80⟩, by rw [ht9]; exact hP, hD⟩, hS.F ht9⟩) hS.2.2 dX12_lookStatement_475
  · refine lv_topi (fun x81 e82 => ?_)
    obtain rfl : x81 = 32 := e82.trans ek
    refine lv_tableIn (tgt := 103) (off := 97) hx hb dX12_lookStatement_6 (by decide) (by decide) (by decide) (by decide) ?_
    refine lv_aload_n hx hb dX12_lookStatement_103 rfl (lv_at hl 0 rfl) ?_
    refine lv_iload_n hx hb dX12_lookStatement_104 rfl (lv_at hl 1 rfl) ?_
    have hP : va_P G.1 pCl (mW G h0 a (upd (upd (upd (upd (upd (upd (upd (upd (upd (upd (upd (upd (upd (upd (upd (upd (upd (upd (upd (upd (upd (upd (upd (upd F 15 (nI fa)) 44 (nI fd)) 49 (nI md)) 73 (nI sc)) 74 (nI k9)) 75 (nI rs)) 76 (nI il)) 77 dn) 78 wt) 79 wf) 80 ab) 81 ac) 15 (nI fa)) 44 (nI fd)) 49 (nI md)) 73 (nI sc)) 74 (nI k9)) 75 (nI rs)) 76 (nI il)) 77 dn) 78 wt) 79 wf) 80 ab) 81 ac) (updA (updA (updA (updA (updA B 14 nc) 17 ty) 18 mn) 48 vn) 49 vt)) _ := hP
    have hD : va_D A (mW G h0 a (upd (upd (upd (upd (upd (upd (upd (upd (upd (upd (upd (upd (upd (upd (upd (upd (upd (upd (upd (upd (upd (upd (upd (upd F 15 (nI fa)) 44 (nI fd)) 49 (nI md)) 73 (nI sc)) 74 (nI k9)) 75 (nI rs)) 76 (nI il)) 77 dn) 78 wt) 79 wf) 80 ab) 81 ac) 15 (nI fa)) 44 (nI fd)) 49 (nI md)) 73 (nI sc)) 74 (nI k9)) 75 (nI rs)) 76 (nI il)) 77 dn) 78 wt) 79 wf) 80 ab) 81 ac) (updA (updA (updA (updA (updA B 14 nc) 17 ty) 18 mn) 48 vn) 49 vt)) := mW_D hD
    refine pc_V0 (G := G) (As := [.int (nI n9)]) (rest := []) hx hb hml hown hq hE hX pX0_al hP hD hS hA hl.1 (L_lookSet l G h0 a (upd (upd (upd (upd (upd (upd (upd (upd (upd (upd (upd (upd F 15 (nI fa)) 44 (nI fd)) 49 (nI md)) 73 (nI sc)) 74 (nI k9)) 75 (nI rs)) 76 (nI il)) 77 dn) 78 wt) 79 wf) 80 ab) 81 ac) B n9 z9 fa sc il k9 rs nd T nm wr lz dc fd md pr bk gh dn wt wf ab ac nc ty mn vn vt ev hst hnm hn9 (by omega) (by omega) (by omega) hk9 hnc hmn (by omega) hrs (by omega) hmc hvt hve ek ihS) (gV pw_1892 pw_1893 pw_1894 pw_1523 pw_1872) hV_X12_lookSet 0 9 rfl rfl rfl rfl (Nat.le_of_ble_eq_true rfl) dX12_lookStatement_105 ⟨Nat.le_of_ble_eq_true rfl, Nat.le_of_ble_eq_true rfl⟩ ⟨(by show (4 * z9 + 13) + 1 ≤ (4 * z9 + 14); omega), (by show 8 + (5 + 11) + (160 * z9 + 1660) ≤ (160 * z9 + 1700); omega)⟩ (fun v85 u83 H locs hw84 hP hD hS => ?_)
    obtain ⟨fa86, sc87, pl88, dn89, wt90, wf91, ab92, ac93, nc94, ty95, mn96, vn97, vt98⟩ := u83
    obtain ⟨hw84, h99, h100, h101, h102, h103, h104, h105, h106, h107⟩ := hw84
    replace h99 : fa ≤ fa86 := h99
    replace h100 : fa86 ≤ 15 := h100
    replace h101 : sc ≤ sc87 := h101
    replace h102 : sc87 ≤ 30 := h102
    replace h103 : ChS B nd n9 ty ty95 mn mn96 nc nc94 := h103
    replace h104 : mnN B nd mn96 := h104
    replace h105 : ∀ i : Nat, i < nd → ¬ (B) 9 i = 44 → nc94 i = (B) 14 i := h105
    replace h106 : ∀ i : Nat, i < sc → vt98 i = vt i := h106
    replace h107 : If (fa86 = 0) (TyS B dc fd md nd ty95 mn96 nc94 k9 rs n9 (sc, il, ev) ∧ sc87 = (aft B n9 (sc, il, ev)).1 ∧ ∀ i : Nat, i < sc87 → vt98 i = (aft B n9 (sc, il, ev)).2.2 i ∧ tyOK dc (vt98 i)) := h107
    obtain rfl : v85 = none := hw84
    have hP : va_P G.1 pCl (mW G h0 a (upd (upd (upd (upd (upd (upd (upd (upd (upd (upd (upd (upd (upd F 15 (nI fa86)) 16 pl88) 44 (nI fd)) 49 (nI md)) 73 (nI sc87)) 74 (nI k9)) 75 (nI rs)) 76 (nI il)) 77 dn89) 78 wt90) 79 wf91) 80 ab92) 81 ac93) (updA (updA (updA (updA (updA B 14 nc94) 17 ty95) 18 mn96) 48 vn97) 49 vt98)) _ := mW_to (F := F) (l1 := [(15, (nI fa)), (44, (nI fd)), (49, (nI md)), (73, (nI sc)), (74, (nI k9)), (75, (nI rs)), (76, (nI il)), (77, dn), (78, wt), (79, wf), (80, ab), (81, ac), (15, (nI fa86)), (16, pl88), (44, (nI fd)), (49, (nI md)), (73, (nI sc87)), (74, (nI k9)), (75, (nI rs)), (76, (nI il)), (77, dn89), (78, wt90), (79, wf91), (80, ab92), (81, ac93)]) (l2 := [(15, (nI fa86)), (16, pl88), (44, (nI fd)), (49, (nI md)), (73, (nI sc87)), (74, (nI k9)), (75, (nI rs)), (76, (nI il)), (77, dn89), (78, wt90), (79, wf91), (80, ab92), (81, ac93)]) (V := [(nI fa86), (nI fd), (nI md), (nI sc87), (nI k9), (nI rs), (nI il), dn89, wt90, wf91, ab92, ac93, (nI fa86), pl88, (nI fd), (nI md), (nI sc87), (nI k9), (nI rs), (nI il), dn89, wt90, wf91, ab92, ac93, (nI fa86), pl88, (nI fd), (nI md), (nI sc87), (nI k9), (nI rs), (nI il), dn89, wt90, wf91, ab92, ac93]) rfl rfl rfl hP
    have hD : va_D A (mW G h0 a (upd (upd (upd (upd (upd (upd (upd (upd (upd (upd (upd (upd (upd F 15 (nI fa86)) 16 pl88) 44 (nI fd)) 49 (nI md)) 73 (nI sc87)) 74 (nI k9)) 75 (nI rs)) 76 (nI il)) 77 dn89) 78 wt90) 79 wf91) 80 ab92) 81 ac93) (updA (updA (updA (updA (updA B 14 nc94) 17 ty95) 18 mn96) 48 vn97) 49 vt98)) := mW_D hD
    refine W.widen (k := 0) (n := 0) (Nat.le_of_ble_eq_true rfl) (Nat.le_of_ble_eq_true rfl) ?_
    refine W.eq (g2 := F0 m 108 ls []) rfl ?_
    have hch108 : ChS B nd n9 ty ty95 mn mn96 nc nc94 := (ChS.trans ChS.rfl h103)
    refine lv_goto (tgt := 475) hx hb dX12_lookStatement_108 (by decide) ?_
    have hz109 : fa ≤ fa86 := (by omega)
    have hz110 : fa86 ≤ 15 := (by omega)
    have hz111 : sc ≤ sc87 := (by omega)
    have hz112 : sc87 ≤ 30 := (by omega)
    have hz113 : ChS B nd n9 ty ty95 mn mn96 nc nc94 := hch108
    have hz114 : mnN B nd mn96 := h104
    have hz115 : ∀ i : Nat, i < nd → ¬ (B) 9 i = 44 → nc94 i = (B) 14 i := h105
    have hz116 : ∀ i : Nat, i < sc → vt98 i = vt i := h106
    have hz117 : If (fa86 = 0) (TyS B dc fd md nd ty95 mn96 nc94 k9 rs n9 (sc, il, ev) ∧ sc87 = (aft B n9 (sc, il, ev)).1 ∧ ∀ i : Nat, i < sc87 → vt98 i = (aft B n9 (sc, il, ev)).2.2 i ∧ tyOK dc (vt98 i)) := (fun e => h107 (by omega))
    have hP : va_P G.1 pCl (mW G h0 a (upd (upd (upd (upd (upd (upd (upd (upd (upd (upd (upd (upd (upd F 15 (nI fa86)) 16 pl88) 44 (nI fd)) 49 (nI md)) 73 (nI sc87)) 74 (nI k9)) 75 (nI rs)) 76 (nI il)) 77 dn89) 78 wt90) 79 wf91) 80 ab92) 81 ac93) (updA (updA (updA (updA (updA B 14 nc94) 17 ty95) 18 mn96) 48 vn97) 49 vt98)) _ := hP
    have hD : va_D A (mW G h0 a (upd (upd (upd (upd (upd (upd (upd (upd (upd (upd (upd (upd (upd F 15 (nI fa86)) 16 pl88) 44 (nI fd)) 49 (nI md)) 73 (nI sc87)) 74 (nI k9)) 75 (nI rs)) 76 (nI il)) 77 dn89) 78 wt90) 79 wf91) 80 ab92) 81 ac93) (updA (updA (updA (updA (updA B 14 nc94) 17 ty95) 18 mn96) 48 vn97) 49 vt98)) := mW_D hD
    exact W.vret hx hb hr (fun t9 ht9 hW9 => ⟨⟨_, (fa86, sc87, pl88, dn89, wt90, wf91, ab92, ac93, nc94, ty95, mn96, vn97, vt98), rfl, ⟨rfl, hz109, hz110, hz111, hz112, hz113, hz114, hz115, hz116, hz117⟩, by rw [ht9]; exact hP, hD⟩, hS.F ht9⟩) hS.2.2 dX12_lookStatement_475
  · refine lv_topi (fun x118 e119 => ?_)
    obtain rfl : x118 = 33 := e119.trans ek
    refine lv_tableIn (tgt := 111) (off := 105) hx hb dX12_lookStatement_6 (by decide) (by decide) (by decide) (by decide) ?_
    refine lv_aload_n hx hb dX12_lookStatement_111 rfl (lv_at hl 0 rfl) ?_
    refine lv_aload_n hx hb dX12_lookStatement_112 rfl (lv_at hl 0 rfl) ?_
    refine r_get (v := .ref (a 12)) hx hb hown hq hE hP 20 47 tFX12_20 (by decide) pw_1442 rfl dX12_lookStatement_113 ?_
    refine lv_iload_n hx hb dX12_lookStatement_116 rfl (lv_at hl 1 rfl) ?_
    refine r_ldi (f := (B 12)) (j := n9) hx hb hE hP 12 (ma_12 G a _) rfl (by omega) (by decide) dX12_lookStatement_117 ?_
    obtain ⟨c120, e121, h122, hp123, h124, hc125, hh126, hg127⟩ := Fs2.kid (kk := 33) (s := 1) hF hn9 ek (by decide) (by decide) (by decide) (by decide) (by omega)
    refine lv_topi (fun x128 e129 => ?_)
    obtain rfl : x128 = nI c120 := e129.trans e121
    have hP : va_P G.1 pCl (mW G h0 a (upd (upd (upd (upd (upd (upd (upd (upd (upd (upd (upd (upd (upd (upd (upd (upd (upd (upd (upd (upd F 15 (nI fa)) 44 (nI fd)) 49 (nI md)) 73 (nI sc)) 74 (nI k9)) 75 (nI rs)) 76 (nI il)) 77 dn) 78 wt) 79 wf) 80 ab) 81 ac) 15 (nI fa)) 44 (nI fd)) 49 (nI md)) 73 (nI sc)) 74 (nI k9)) 77 dn) 78 wt) 79 wf) (updA (updA (updA (updA (updA B 14 nc) 17 ty) 18 mn) 48 vn) 49 vt)) _ := hP
    have hD : va_D A (mW G h0 a (upd (upd (upd (upd (upd (upd (upd (upd (upd (upd (upd (upd (upd (upd (upd (upd (upd (upd (upd (upd F 15 (nI fa)) 44 (nI fd)) 49 (nI md)) 73 (nI sc)) 74 (nI k9)) 75 (nI rs)) 76 (nI il)) 77 dn) 78 wt) 79 wf) 80 ab) 81 ac) 15 (nI fa)) 44 (nI fd)) 49 (nI md)) 73 (nI sc)) 74 (nI k9)) 77 dn) 78 wt) 79 wf) (updA (updA (updA (updA (updA B 14 nc) 17 ty) 18 mn) 48 vn) 49 vt)) := mW_D hD
    refine pc_V0 (G := G) (As := [.int (nI c120)]) (rest := []) hx hb hml hown hq hE hX pX0_al hP hD hS hA hl.1 ((LK_all l G (z9 - 1)).2.1 h0 a (upd (upd (upd (upd (upd (upd (upd (upd (upd (upd (upd (upd F 15 (nI fa)) 44 (nI fd)) 49 (nI md)) 73 (nI sc)) 74 (nI k9)) 75 (nI rs)) 76 (nI il)) 77 dn) 78 wt) 79 wf) 80 ab) 81 ac) B c120 fa sc k9 nd T nm wr lz dc fd md pr bk gh dn wt wf nc ty mn vn vt hst hnm h122 (by omega) (by omega) (by omega) hk9 hnc hmn hvt (kcl13_1 hc125)) (gV pw_1822 pw_1823 pw_1824 pw_1523 pw_1830) hV_X12_look 0 9 rfl rfl rfl rfl (Nat.le_of_ble_eq_true rfl) dX12_lookStatement_118 ⟨Nat.le_of_ble_eq_true rfl, Nat.le_of_ble_eq_true rfl⟩ ⟨(by show (4 * (z9 - 1) + 11) + 1 ≤ (4 * z9 + 14); omega), (by show 8 + (3 + 11) + (160 * (z9 - 1) + 1440) ≤ (160 * z9 + 1700); omega)⟩ (fun v132 u130 H locs hw131 hP hD hS => ?_)
    obtain ⟨r133, fa134, pl135, dn136, wt137, wf138, ty139, mn140⟩ := u130
    obtain ⟨hw131, h141, h142, h143, h144, h145, h146, h147, h148⟩ := hw131
    replace h141 : fa ≤ fa134 := h141
    replace h142 : fa134 ≤ 15 := h142
    replace h143 : TyC dc r133 := h143
    replace h144 : r133 ≤ 2050 := h144
    replace h145 : ChE B nd c120 ty ty139 mn mn140 := h145
    replace h146 : mnN B nd mn140 := h146
    replace h147 : If (fa134 = 0) (Typ B dc fd md nd ty139 mn140 vt sc k9 c120) := h147
    replace h148 : ty139 c120 = nI r133 := h148
    obtain rfl : v132 = some (.int (nI r133)) := hw131
    have hP : va_P G.1 pCl (mW G h0 a (upd (upd (upd (upd (upd (upd (upd (upd (upd (upd (upd (upd (upd F 15 (nI fa134)) 16 pl135) 44 (nI fd)) 49 (nI md)) 73 (nI sc)) 74 (nI k9)) 75 (nI rs)) 76 (nI il)) 77 dn136) 78 wt137) 79 wf138) 80 ab) 81 ac) (updA (updA (updA (updA (updA B 14 nc) 17 ty139) 18 mn140) 48 vn) 49 vt)) _ := mW_to (F := F) (l1 := [(15, (nI fa)), (44, (nI fd)), (49, (nI md)), (73, (nI sc)), (74, (nI k9)), (75, (nI rs)), (76, (nI il)), (77, dn), (78, wt), (79, wf), (80, ab), (81, ac), (15, (nI fa134)), (16, pl135), (44, (nI fd)), (49, (nI md)), (73, (nI sc)), (74, (nI k9)), (77, dn136), (78, wt137), (79, wf138)]) (l2 := [(15, (nI fa134)), (16, pl135), (44, (nI fd)), (49, (nI md)), (73, (nI sc)), (74, (nI k9)), (75, (nI rs)), (76, (nI il)), (77, dn136), (78, wt137), (79, wf138), (80, ab), (81, ac)]) (V := [(nI fa134), (nI fd), (nI md), (nI sc), (nI k9), (nI rs), (nI il), dn136, wt137, wf138, ab, ac, (nI fa134), pl135, (nI fd), (nI md), (nI sc), (nI k9), dn136, wt137, wf138, (nI fa134), pl135, (nI fd), (nI md), (nI sc), (nI k9), (nI rs), (nI il), dn136, wt137, wf138, ab, ac]) rfl rfl rfl hP
    have hD : va_D A (mW G h0 a (upd (upd (upd (upd (upd (upd (upd (upd (upd (upd (upd (upd (upd F 15 (nI fa134)) 16 pl135) 44 (nI fd)) 49 (nI md)) 73 (nI sc)) 74 (nI k9)) 75 (nI rs)) 76 (nI il)) 77 dn136) 78 wt137) 79 wf138) 80 ab) 81 ac) (updA (updA (updA (updA (updA B 14 nc) 17 ty139) 18 mn140) 48 vn) 49 vt)) := mW_D hD
    refine W.widen (k := 0) (n := 0) (Nat.le_of_ble_eq_true rfl) (Nat.le_of_ble_eq_true rfl) ?_
    refine W.eq (g2 := F0 m 121 ls [.int (nI r133)]) rfl ?_
    have hch149 : ChS B nd n9 ty ty139 mn mn140 nc nc := (ChS.trans ChS.rfl (ChS.kid (ChS.ofE (nc := nc) h145) (by omega) hp123))
    have hsl150 : If (fa134 = 0) (slP B n9 (sc, il, ev) (fun c e9 => TyS B dc fd md nd ty139 mn140 nc k9 rs c e9) 33 1) := (fun e => slP.one (by decide) (by omega) e121 (TyS.ofTyp (nc := nc) (rs := rs) (e := (sc, il, ev)) hF (by omega) h122 (kcl13_1 hc125) (h147 e) hve))
    refine lv_pop hx hb dX12_lookStatement_121 rfl ?_
    refine lv_goto (tgt := 475) hx hb dX12_lookStatement_122 (by decide) ?_
    have hz151 : fa ≤ fa134 := (by omega)
    have hz152 : fa134 ≤ 15 := (by omega)
    have hz153 : sc ≤ sc := (by omega)
    have hz154 : sc ≤ 30 := (by omega)
    have hz155 : ChS B nd n9 ty ty139 mn mn140 nc nc := hch149
    have hz156 : mnN B nd mn140 := h146
    have hz157 : ∀ i : Nat, i < nd → ¬ (B) 9 i = 44 → nc i = (B) 14 i := hnc
    have hz158 : ∀ i : Nat, i < sc → vt i = vt i := (fun i h => rfl)
    have hz159 : If (fa134 = 0) (TyS B dc fd md nd ty139 mn140 nc k9 rs n9 (sc, il, ev) ∧ sc = (aft B n9 (sc, il, ev)).1 ∧ ∀ i : Nat, i < sc → vt i = (aft B n9 (sc, il, ev)).2.2 i ∧ tyOK dc (vt i)) := (fun e => ⟨TyS.of (steps (kk := 33) ek (by decide) (hsl150 (by omega)) (slP.no (by decide)) (slP.no (by decide)) (slP.no (by decide))) (LTX.st ek (by decide) (by decide) (show LSk B dc ty139 mn140 nc rs n9 (sc, il, ev) 33 from trivial)), (by rw [(aft_no (by rw [ek]; decide))]), (fun i h => by rw [(aft_no (by rw [ek]; decide))]; exact ⟨hve i h, hvt i h⟩)⟩)
    have hP : va_P G.1 pCl (mW G h0 a (upd (upd (upd (upd (upd (upd (upd (upd (upd (upd (upd (upd (upd F 15 (nI fa134)) 16 pl135) 44 (nI fd)) 49 (nI md)) 73 (nI sc)) 74 (nI k9)) 75 (nI rs)) 76 (nI il)) 77 dn136) 78 wt137) 79 wf138) 80 ab) 81 ac) (updA (updA (updA (updA (updA B 14 nc) 17 ty139) 18 mn140) 48 vn) 49 vt)) _ := hP
    have hD : va_D A (mW G h0 a (upd (upd (upd (upd (upd (upd (upd (upd (upd (upd (upd (upd (upd F 15 (nI fa134)) 16 pl135) 44 (nI fd)) 49 (nI md)) 73 (nI sc)) 74 (nI k9)) 75 (nI rs)) 76 (nI il)) 77 dn136) 78 wt137) 79 wf138) 80 ab) 81 ac) (updA (updA (updA (updA (updA B 14 nc) 17 ty139) 18 mn140) 48 vn) 49 vt)) := mW_D hD
    exact W.vret hx hb hr (fun t9 ht9 hW9 => ⟨⟨_, (fa134, sc, pl135, dn136, wt137, wf138, ab, ac, nc, ty139, mn140, vn, vt), rfl, ⟨rfl, hz151, hz152, hz153, hz154, hz155, hz156, hz157, hz158, hz159⟩, by rw [ht9]; exact hP, hD⟩, hS.F ht9⟩) hS.2.2 dX12_lookStatement_475
  · refine lv_topi (fun x160 e161 => ?_)
    obtain rfl : x160 = 34 := e161.trans ek
    refine lv_tableIn (tgt := 125) (off := 119) hx hb dX12_lookStatement_6 (by decide) (by decide) (by decide) (by decide) ?_
    refine lv_aload_n hx hb dX12_lookStatement_125 rfl (lv_at hl 0 rfl) ?_
    refine lv_aload_n hx hb dX12_lookStatement_126 rfl (lv_at hl 0 rfl) ?_
    refine r_get (v := .ref (a 12)) hx hb hown hq hE hP 20 47 tFX12_20 (by decide) pw_1442 rfl dX12_lookStatement_127 ?_
    refine lv_iload_n hx hb dX12_lookStatement_130 rfl (lv_at hl 1 rfl) ?_
    refine r_ldi (f := (B 12)) (j := n9) hx hb hE hP 12 (ma_12 G a _) rfl (by omega) (by decide) dX12_lookStatement_131 ?_
    obtain ⟨c162, e163, h164, hp165, h166, hc167, hh168, hg169⟩ := Fs2.kid (kk := 34) (s := 1) hF hn9 ek (by decide) (by decide) (by decide) (by decide) (by omega)
    refine lv_topi (fun x170 e171 => ?_)
    obtain rfl : x170 = nI c162 := e171.trans e163
    have hP : va_P G.1 pCl (mW G h0 a (upd (upd (upd (upd (upd (upd (upd (upd (upd (upd (upd (upd (upd (upd (upd (upd (upd (upd (upd (upd F 15 (nI fa)) 44 (nI fd)) 49 (nI md)) 73 (nI sc)) 74 (nI k9)) 75 (nI rs)) 76 (nI il)) 77 dn) 78 wt) 79 wf) 80 ab) 81 ac) 15 (nI fa)) 44 (nI fd)) 49 (nI md)) 73 (nI sc)) 74 (nI k9)) 77 dn) 78 wt) 79 wf) (updA (updA (updA (updA (updA B 14 nc) 17 ty) 18 mn) 48 vn) 49 vt)) _ := hP
    have hD : va_D A (mW G h0 a (upd (upd (upd (upd (upd (upd (upd (upd (upd (upd (upd (upd (upd (upd (upd (upd (upd (upd (upd (upd F 15 (nI fa)) 44 (nI fd)) 49 (nI md)) 73 (nI sc)) 74 (nI k9)) 75 (nI rs)) 76 (nI il)) 77 dn) 78 wt) 79 wf) 80 ab) 81 ac) 15 (nI fa)) 44 (nI fd)) 49 (nI md)) 73 (nI sc)) 74 (nI k9)) 77 dn) 78 wt) 79 wf) (updA (updA (updA (updA (updA B 14 nc) 17 ty) 18 mn) 48 vn) 49 vt)) := mW_D hD
    refine pc_V0 (G := G) (As := [.int (nI c162)]) (rest := []) hx hb hml hown hq hE hX pX0_al hP hD hS hA hl.1 (L_condition l G h0 a (upd (upd (upd (upd (upd (upd (upd (upd (upd (upd (upd (upd F 15 (nI fa)) 44 (nI fd)) 49 (nI md)) 73 (nI sc)) 74 (nI k9)) 75 (nI rs)) 76 (nI il)) 77 dn) 78 wt) 79 wf) 80 ab) 81 ac) B c162 (z9 - 1) fa sc k9 nd T nm wr lz dc fd md pr bk gh dn wt wf nc ty mn vn vt hst hnm h164 (by omega) (by omega) (by omega) hk9 hnc hmn hvt (show kcl 1 _ = true from hc167)) (gV pw_1881 pw_1882 pw_1883 pw_1523 pw_1867) hV_X12_condition 0 9 rfl rfl rfl rfl (Nat.le_of_ble_eq_true rfl) dX12_lookStatement_132 ⟨Nat.le_of_ble_eq_true rfl, Nat.le_of_ble_eq_true rfl⟩ ⟨(by show (4 * (z9 - 1) + 11) + 1 ≤ (4 * z9 + 14); omega), (by show 8 + (3 + 11) + (160 * (z9 - 1) + 1440) ≤ (160 * z9 + 1700); omega)⟩ (fun v174 u172 H locs hw173 hP hD hS => ?_)
    obtain ⟨fa175, pl176, dn177, wt178, wf179, ty180, mn181⟩ := u172
    obtain ⟨hw173, h182, h183, h184, h185, h186⟩ := hw173
    replace h182 : fa ≤ fa175 := h182
    replace h183 : fa175 ≤ 15 := h183
    replace h184 : ChE B nd c162 ty ty180 mn mn181 := h184
    replace h185 : mnN B nd mn181 := h185
    replace h186 : If (fa175 = 0) (Typ B dc fd md nd ty180 mn181 vt sc k9 c162 ∧ ty180 c162 = 2) := h186
    obtain rfl : v174 = none := hw173
    have hP : va_P G.1 pCl (mW G h0 a (upd (upd (upd (upd (upd (upd (upd (upd (upd (upd (upd (upd (upd F 15 (nI fa175)) 16 pl176) 44 (nI fd)) 49 (nI md)) 73 (nI sc)) 74 (nI k9)) 75 (nI rs)) 76 (nI il)) 77 dn177) 78 wt178) 79 wf179) 80 ab) 81 ac) (updA (updA (updA (updA (updA B 14 nc) 17 ty180) 18 mn181) 48 vn) 49 vt)) _ := mW_to (F := F) (l1 := [(15, (nI fa)), (44, (nI fd)), (49, (nI md)), (73, (nI sc)), (74, (nI k9)), (75, (nI rs)), (76, (nI il)), (77, dn), (78, wt), (79, wf), (80, ab), (81, ac), (15, (nI fa175)), (16, pl176), (44, (nI fd)), (49, (nI md)), (73, (nI sc)), (74, (nI k9)), (77, dn177), (78, wt178), (79, wf179)]) (l2 := [(15, (nI fa175)), (16, pl176), (44, (nI fd)), (49, (nI md)), (73, (nI sc)), (74, (nI k9)), (75, (nI rs)), (76, (nI il)), (77, dn177), (78, wt178), (79, wf179), (80, ab), (81, ac)]) (V := [(nI fa175), (nI fd), (nI md), (nI sc), (nI k9), (nI rs), (nI il), dn177, wt178, wf179, ab, ac, (nI fa175), pl176, (nI fd), (nI md), (nI sc), (nI k9), dn177, wt178, wf179, (nI fa175), pl176, (nI fd), (nI md), (nI sc), (nI k9), (nI rs), (nI il), dn177, wt178, wf179, ab, ac]) rfl rfl rfl hP
    have hD : va_D A (mW G h0 a (upd (upd (upd (upd (upd (upd (upd (upd (upd (upd (upd (upd (upd F 15 (nI fa175)) 16 pl176) 44 (nI fd)) 49 (nI md)) 73 (nI sc)) 74 (nI k9)) 75 (nI rs)) 76 (nI il)) 77 dn177) 78 wt178) 79 wf179) 80 ab) 81 ac) (updA (updA (updA (updA (updA B 14 nc) 17 ty180) 18 mn181) 48 vn) 49 vt)) := mW_D hD
    refine W.widen (k := 0) (n := 0) (Nat.le_of_ble_eq_true rfl) (Nat.le_of_ble_eq_true rfl) ?_
    refine W.eq (g2 := F0 m 135 ls []) rfl ?_
    have hch187 : ChS B nd n9 ty ty180 mn mn181 nc nc := (ChS.trans ChS.rfl (ChS.kid (ChS.ofE (nc := nc) h184) (by omega) hp165))
    have hsl188 : If (fa175 = 0) (slP B n9 (sc, il, ev) (fun c e9 => TyS B dc fd md nd ty180 mn181 nc k9 rs c e9) 34 1) := (fun e => slP.one (by decide) (by omega) e163 (TyS.ofTyp (nc := nc) (rs := rs) (e := (sc, il, ev)) hF (by omega) h164 (show kcl 1 _ = true from hc167) (h186 e).1 hve))
    refine lv_aload_n hx hb dX12_lookStatement_135 rfl (lv_at hl 0 rfl) ?_
    refine r_get (v := .int wf179) hx hb hown hq hE hP 79 554 tFX12_79 (by decide) pw_1806 rfl dX12_lookStatement_136 ?_
    refine lv_istore_n (lv' := [(2, .int wf179), (0, .ref h0), (1, .int (nI n9))]) hx hb dX12_lookStatement_139 rfl hl (by decide) rfl (fun ls hl => ?_)
    refine lv_aload_n hx hb dX12_lookStatement_140 rfl (lv_at hl 1 rfl) ?_
    refine lv_aload_n hx hb dX12_lookStatement_141 rfl (lv_at hl 1 rfl) ?_
    refine r_get (v := .int wt178) hx hb hown hq hE hP 78 551 tFX12_78 (by decide) pw_1805 rfl dX12_lookStatement_142 ?_
    refine r_put (v := wt178) (ty := .int) hx hb hown hq hE hP hD hS 77 544 tFX12_77 (by decide) pw_1796 (by decide) rfl rfl (ms_77 a _ _) dX12_lookStatement_145 (fun H locs hP hD hS => ?_)
    refine lv_aload_n hx hb dX12_lookStatement_148 rfl (lv_at hl 1 rfl) ?_
    refine lv_aload_n hx hb dX12_lookStatement_149 rfl (lv_at hl 1 rfl) ?_
    refine r_get (v := .ref (a 13)) hx hb hown hq hE hP 21 50 tFX12_21 (by decide) pw_1443 rfl dX12_lookStatement_150 ?_
    refine lv_iload_n hx hb dX12_lookStatement_153 rfl (lv_at hl 2 rfl) ?_
    refine r_ldi (f := (B 13)) (j := n9) hx hb hE hP 13 (ma_13 G a _) rfl (by omega) (by decide) dX12_lookStatement_154 ?_
    obtain ⟨c189, e190, h191, hp192, h193, hc194, hh195, hg196⟩ := Fs2.kid (kk := 34) (s := 2) hF hn9 ek (by decide) (by decide) (by decide) (by decide) (by omega)
    refine lv_topi (fun x197 e198 => ?_)
    obtain rfl : x197 = nI c189 := e198.trans e190
    have hP : va_P G.1 pCl (mW G h0 a (upd (upd (upd (upd (upd (upd (upd (upd (upd (upd (upd (upd (upd (upd (upd (upd (upd (upd (upd (upd (upd (upd (upd (upd (upd F 15 (nI fa175)) 16 pl176) 44 (nI fd)) 49 (nI md)) 73 (nI sc)) 74 (nI k9)) 75 (nI rs)) 76 (nI il)) 77 wt178) 78 wt178) 79 wf179) 80 ab) 81 ac) 15 (nI fa175)) 44 (nI fd)) 49 (nI md)) 73 (nI sc)) 74 (nI k9)) 75 (nI rs)) 76 (nI il)) 77 wt178) 78 wt178) 79 wf179) 80 ab) 81 ac) (updA (updA (updA (updA (updA B 14 nc) 17 ty180) 18 mn181) 48 vn) 49 vt)) _ := hP
    have hD : va_D A (mW G h0 a (upd (upd (upd (upd (upd (upd (upd (upd (upd (upd (upd (upd (upd (upd (upd (upd (upd (upd (upd (upd (upd (upd (upd (upd (upd F 15 (nI fa175)) 16 pl176) 44 (nI fd)) 49 (nI md)) 73 (nI sc)) 74 (nI k9)) 75 (nI rs)) 76 (nI il)) 77 wt178) 78 wt178) 79 wf179) 80 ab) 81 ac) 15 (nI fa175)) 44 (nI fd)) 49 (nI md)) 73 (nI sc)) 74 (nI k9)) 75 (nI rs)) 76 (nI il)) 77 wt178) 78 wt178) 79 wf179) 80 ab) 81 ac) (updA (updA (updA (updA (updA B 14 nc) 17 ty180) 18 mn181) 48 vn) 49 vt)) := mW_D hD
    refine pc_V0 (G := G) (As := [.int (nI c189)]) (rest := []) hx hb hml hown hq hE hX pX0_al hP hD hS hA hl.1 (ihS h0 a (upd (upd (upd (upd (upd (upd (upd (upd (upd (upd (upd (upd (upd F 15 (nI fa175)) 16 pl176) 44 (nI fd)) 49 (nI md)) 73 (nI sc)) 74 (nI k9)) 75 (nI rs)) 76 (nI il)) 77 wt178) 78 wt178) 79 wf179) 80 ab) 81 ac) B c189 fa175 sc il k9 rs nd T nm wr lz dc fd md pr bk gh wt178 wt178 wf179 ab ac nc ty180 mn181 vn vt ev hst hnm h191 (by omega) (by omega) (by omega) hk9 hnc h185 (by omega) hrs (by omega) (mnC.beside hF (by omega) hn9 (mnC.kid hmc (by omega) hp192) h191 h164 hp192 hp165 (fun e => by have z := hg196; rw [e] at z; have := hg169; omega) (ChS.ofE (nc := nc) h184)) hvt hve (kcl_3_7 hc194)) (gV pw_1874 pw_1875 pw_1876 pw_1523 pw_1884) hV_X12_lookStatement 0 9 rfl rfl rfl rfl (Nat.le_of_ble_eq_true rfl) dX12_lookStatement_155 ⟨Nat.le_of_ble_eq_true rfl, Nat.le_of_ble_eq_true rfl⟩ ⟨(by show (4 * (z9 - 1) + 14) + 1 ≤ (4 * z9 + 14); omega), (by show 8 + (4 + 11) + (160 * (z9 - 1) + 1700) ≤ (160 * z9 + 1700); omega)⟩ (fun v201 u199 H locs hw200 hP hD hS => ?_)
    obtain ⟨fa202, sc203, pl204, dn205, wt206, wf207, ab208, ac209, nc210, ty211, mn212, vn213, vt214⟩ := u199
    obtain ⟨hw200, h215, h216, h217, h218, h219, h220, h221, h222, h223⟩ := hw200
    replace h215 : fa175 ≤ fa202 := h215
    replace h216 : fa202 ≤ 15 := h216
    replace h217 : sc ≤ sc203 := h217
    replace h218 : sc203 ≤ 30 := h218
    replace h219 : ChS B nd c189 ty180 ty211 mn181 mn212 nc nc210 := h219
    replace h220 : mnN B nd mn212 := h220
    replace h221 : ∀ i : Nat, i < nd → ¬ (B) 9 i = 44 → nc210 i = (B) 14 i := h221
    replace h222 : ∀ i : Nat, i < sc → vt214 i = vt i := h222
    replace h223 : If (fa202 = 0) (TyS B dc fd md nd ty211 mn212 nc210 k9 rs c189 (sc, il, ev) ∧ sc203 = (aft B c189 (sc, il, ev)).1 ∧ ∀ i : Nat, i < sc203 → vt214 i = (aft B c189 (sc, il, ev)).2.2 i ∧ tyOK dc (vt214 i)) := h223
    obtain rfl : v201 = none := hw200
    have hP : va_P G.1 pCl (mW G h0 a (upd (upd (upd (upd (upd (upd (upd (upd (upd (upd (upd (upd (upd F 15 (nI fa202)) 16 pl204) 44 (nI fd)) 49 (nI md)) 73 (nI sc203)) 74 (nI k9)) 75 (nI rs)) 76 (nI il)) 77 dn205) 78 wt206) 79 wf207) 80 ab208) 81 ac209) (updA (updA (updA (updA (updA B 14 nc210) 17 ty211) 18 mn212) 48 vn213) 49 vt214)) _ := mW_to (F := F) (l1 := [(15, (nI fa175)), (16, pl176), (44, (nI fd)), (49, (nI md)), (73, (nI sc)), (74, (nI k9)), (75, (nI rs)), (76, (nI il)), (77, wt178), (78, wt178), (79, wf179), (80, ab), (81, ac), (15, (nI fa202)), (16, pl204), (44, (nI fd)), (49, (nI md)), (73, (nI sc203)), (74, (nI k9)), (75, (nI rs)), (76, (nI il)), (77, dn205), (78, wt206), (79, wf207), (80, ab208), (81, ac209)]) (l2 := [(15, (nI fa202)), (16, pl204), (44, (nI fd)), (49, (nI md)), (73, (nI sc203)), (74, (nI k9)), (75, (nI rs)), (76, (nI il)), (77, dn205), (78, wt206), (79, wf207), (80, ab208), (81, ac209)]) (V := [(nI fa202), pl204, (nI fd), (nI md), (nI sc203), (nI k9), (nI rs), (nI il), dn205, wt206, wf207, ab208, ac209, (nI fa202), pl204, (nI fd), (nI md), (nI sc203), (nI k9), (nI rs), (nI il), dn205, wt206, wf207, ab208, ac209, (nI fa202), pl204, (nI fd), (nI md), (nI sc203), (nI k9), (nI rs), (nI il), dn205, wt206, wf207, ab208, ac209]) rfl rfl rfl hP
    have hD : va_D A (mW G h0 a (upd (upd (upd (upd (upd (upd (upd (upd (upd (upd (upd (upd (upd F 15 (nI fa202)) 16 pl204) 44 (nI fd)) 49 (nI md)) 73 (nI sc203)) 74 (nI k9)) 75 (nI rs)) 76 (nI il)) 77 dn205) 78 wt206) 79 wf207) 80 ab208) 81 ac209) (updA (updA (updA (updA (updA B 14 nc210) 17 ty211) 18 mn212) 48 vn213) 49 vt214)) := mW_D hD
    refine W.widen (k := 0) (n := 0) (Nat.le_of_ble_eq_true rfl) (Nat.le_of_ble_eq_true rfl) ?_
    refine W.eq (g2 := F0 m 158 ls []) rfl ?_
    have hch224 : ChS B nd n9 ty ty211 mn mn212 nc nc210 := (ChS.trans hch187 (ChS.kid h219 (by omega) hp192))
    have hsl225 : If (fa175 = 0) (slP B n9 (sc, il, ev) (fun c e9 => TyS B dc fd md nd ty211 mn212 nc210 k9 rs c e9) 34 1) := (fun e => slP.beside (kk := 34) (s := 1) hF (by omega) hn9 ek (by decide) (by decide) (by decide) h191 hp192 hg196 (by decide) h219 (hsl188 e))
    have hq8226 : ∀ i : Nat, i < sc → vt214 i = vt i := (fun i h => (h222 i (by omega)).trans ((fun i h => rfl) i h))
    have hvt227 : ∀ i : Nat, i < sc → tyOK dc (vt214 i) := (fun i h => by rw [h222 i h]; exact hvt i h)
    have hve228 : ∀ i : Nat, i < sc → vt214 i = ev i := (fun i h => (h222 i h).trans (hve i h))
    have hsl229 : If (fa202 = 0) (slP B n9 (sc, il, ev) (fun c e9 => TyS B dc fd md nd ty211 mn212 nc210 k9 rs c e9) 34 2) := (fun e => slP.one (by decide) (by omega) e190 (h223 e).1)
    refine lv_aload_n hx hb dX12_lookStatement_158 rfl (lv_at hl 1 rfl) ?_
    refine r_get (v := .int dn205) hx hb hown hq hE hP 77 544 tFX12_77 (by decide) pw_1796 rfl dX12_lookStatement_159 ?_
    refine lv_istore_n (lv' := [(3, .int dn205), (2, .int wf179), (0, .ref h0), (1, .int (nI n9))]) hx hb dX12_lookStatement_162 rfl hl (by decide) rfl (fun ls hl => ?_)
    refine lv_aload_n hx hb dX12_lookStatement_163 rfl (lv_at hl 2 rfl) ?_
    refine lv_iload_n hx hb dX12_lookStatement_164 rfl (lv_at hl 1 rfl) ?_
    refine r_put (v := wf179) (ty := .int) hx hb hown hq hE hP hD hS 77 544 tFX12_77 (by decide) pw_1796 (by decide) rfl rfl (ms_77 a _ _) dX12_lookStatement_165 (fun H locs hP hD hS => ?_)
    refine lv_aload_n hx hb dX12_lookStatement_168 rfl (lv_at hl 2 rfl) ?_
    refine r_get (v := .ref (a 14)) hx hb hown hq hE hP 22 53 tFX12_22 (by decide) pw_1444 rfl dX12_lookStatement_169 ?_
    refine lv_iload_n hx hb dX12_lookStatement_172 rfl (lv_at hl 3 rfl) ?_
    refine r_ldi (f := nc210) (j := n9) hx hb hE hP 14 (ma_14 G a _) rfl (by omega) (by decide) dX12_lookStatement_173 ?_
    rcases Fs2.kidO (kk := 34) (s := 3) hF hn9 ek (by decide) (by decide) (by decide) (by decide) (by omega) with e238 | ⟨c230, e231, h232, hp233, h234, hc235, hh236, hg237⟩
    · refine lv_topi (fun x239 e240 => ?_)
      obtain rfl : x239 = (-1) := e240.trans ((h221 n9 hn9 (by rw [ek]; decide)).trans e238)
      refine lv_iconst (v := (-1)) hx hb dX12_lookStatement_174 (by decide) ?_
      refine lv_icmp_eq (tgt := 195) hx hb dX12_lookStatement_175 (by decide) (fun c241 => ?_) (fun c241 => absurd c241 (by decide))
      refine lv_aload_n hx hb dX12_lookStatement_195 rfl (lv_at hl 2 rfl) ?_
      refine lv_dup hx hb dX12_lookStatement_196 rfl ?_
      refine r_get (v := .int wf179) hx hb hown hq hE hP 77 544 tFX12_77 (by decide) pw_1796 rfl dX12_lookStatement_197 ?_
      refine lv_iload_n hx hb dX12_lookStatement_200 rfl (lv_at hl 0 rfl) ?_
      refine lv_iand hx hb dX12_lookStatement_201 ?_
      refine lv_topi (fun x242 e243 => ?_)
      refine r_put (v := x242) (ty := .int) hx hb hown hq hE hP hD hS 77 544 tFX12_77 (by decide) pw_1796 (by decide) rfl rfl (ms_77 a _ _) dX12_lookStatement_202 (fun H locs hP hD hS => ?_)
      refine lv_goto (tgt := 475) hx hb dX12_lookStatement_205 (by decide) ?_
      have hse244 : If (fa202 = 0) (sc203 = sc) := (fun e => by have z := (h223 e).2.1; rw [aft_no (kcl_no30 (q := 3) (by omega) hc194)] at z; exact z)
      have hz245 : fa ≤ fa202 := (by omega)
      have hz246 : fa202 ≤ 15 := (by omega)
      have hz247 : sc ≤ sc203 := (by omega)
      have hz248 : sc203 ≤ 30 := (by omega)
      have hz249 : ChS B nd n9 ty ty211 mn mn212 nc nc210 := hch224
      have hz250 : mnN B nd mn212 := h220
      have hz251 : ∀ i : Nat, i < nd → ¬ (B) 9 i = 44 → nc210 i = (B) 14 i := h221
      have hz252 : ∀ i : Nat, i < sc → vt214 i = vt i := hq8226
      have hz253 : If (fa202 = 0) (TyS B dc fd md nd ty211 mn212 nc210 k9 rs n9 (sc, il, ev) ∧ sc203 = (aft B n9 (sc, il, ev)).1 ∧ ∀ i : Nat, i < sc203 → vt214 i = (aft B n9 (sc, il, ev)).2.2 i ∧ tyOK dc (vt214 i)) := (fun e => ⟨TyS.of (steps (kk := 34) ek (by decide) (hsl225 (by omega)) (hsl229 (by omega)) ((fun _ => slP.none (by decide) e238) (by omega)) (slP.no (by decide))) (LTX.st ek (by decide) (by decide) (show LSk B dc ty211 mn212 nc210 rs n9 (sc, il, ev) 34 from (by show ty211 (chN B 1 n9) = 2; rw [hh168]; exact ((ChS.at hF (by omega) hn9 h164 h191 hp165 hp192 (fun e => by have z := hg169; rw [e] at z; have := hg196; omega) h219).trans (h186 (by omega)).2)))), (by rw [(aft_no (by rw [ek]; decide))]; exact hse244 (by omega)), (fun i h => by rw [(aft_no (by rw [ek]; decide))]; have z := hse244 (by omega); exact ⟨hve228 i (by omega), hvt227 i (by omega)⟩)⟩)
      have hP : va_P G.1 pCl (mW G h0 a (upd (upd (upd (upd (upd (upd (upd (upd (upd (upd (upd (upd (upd F 15 (nI fa202)) 16 pl204) 44 (nI fd)) 49 (nI md)) 73 (nI sc203)) 74 (nI k9)) 75 (nI rs)) 76 (nI il)) 77 x242) 78 wt206) 79 wf207) 80 ab208) 81 ac209) (updA (updA (updA (updA (updA B 14 nc210) 17 ty211) 18 mn212) 48 vn213) 49 vt214)) _ := mW_to (F := F) (l1 := [(15, (nI fa202)), (16, pl204), (44, (nI fd)), (49, (nI md)), (73, (nI sc203)), (74, (nI k9)), (75, (nI rs)), (76, (nI il)), (77, dn205), (78, wt206), (79, wf207), (80, ab208), (81, ac209), (77, wf179), (77, x242)]) (l2 := [(15, (nI fa202)), (16, pl204), (44, (nI fd)), (49, (nI md)), (73, (nI sc203)), (74, (nI k9)), (75, (nI rs)), (76, (nI il)), (77, x242), (78, wt206), (79, wf207), (80, ab208), (81, ac209)]) (V := [(nI fa202), pl204, (nI fd), (nI md), (nI sc203), (nI k9), (nI rs), (nI il), x242, wt206, wf207, ab208, ac209, x242, x242, (nI fa202), pl204, (nI fd), (nI md), (nI sc203), (nI k9), (nI rs), (nI il), x242, wt206, wf207, ab208, ac209]) rfl rfl rfl hP
      have hD : va_D A (mW G h0 a (upd (upd (upd (upd (upd (upd (upd (upd (upd (upd (upd (upd (upd F 15 (nI fa202)) 16 pl204) 44 (nI fd)) 49 (nI md)) 73 (nI sc203)) 74 (nI k9)) 75 (nI rs)) 76 (nI il)) 77 x242) 78 wt206) 79 wf207) 80 ab208) 81 ac209) (updA (updA (updA (updA (updA B 14 nc210) 17 ty211) 18 mn212) 48 vn213) 49 vt214)) := mW_D hD
      exact W.vret hx hb hr (fun t9 ht9 hW9 => ⟨⟨_, (fa202, sc203, pl204, x242, wt206, wf207, ab208, ac209, nc210, ty211, mn212, vn213, vt214), rfl, ⟨rfl, hz245, hz246, hz247, hz248, hz249, hz250, hz251, hz252, hz253⟩, by rw [ht9]; exact hP, hD⟩, hS.F ht9⟩) hS.2.2 dX12_lookStatement_475
    · refine lv_topi (fun x254 e255 => ?_)
      obtain rfl : x254 = nI c230 := e255.trans ((h221 n9 hn9 (by rw [ek]; decide)).trans e231)
      refine lv_iconst (v := (-1)) hx hb dX12_lookStatement_174 (by decide) ?_
      refine lv_icmp_eq (tgt := 195) hx hb dX12_lookStatement_175 (by decide) (fun c256 => absurd c256 (nI_m1 (by omega))) (fun c256 => ?_)
      refine lv_aload_n hx hb dX12_lookStatement_178 rfl (lv_at hl 2 rfl) ?_
      refine r_get (v := .int (nI fa202)) hx hb hown hq hE hP 15 350 tFX12_15 (by decide) pw_1594 rfl dX12_lookStatement_179 ?_
      refine lv_if_ne (tgt := 195) hx hb dX12_lookStatement_182 (by decide) (fun c257 => ?_) (fun c257 => ?_)
      · have n258 : ¬ (fa202 = 0) := fun h9 => c257 ((nI_eq (a := fa202) (b := 0) (by omega) (by omega)).mpr h9)
        refine lv_aload_n hx hb dX12_lookStatement_195 rfl (lv_at hl 2 rfl) ?_
        refine lv_dup hx hb dX12_lookStatement_196 rfl ?_
        refine r_get (v := .int wf179) hx hb hown hq hE hP 77 544 tFX12_77 (by decide) pw_1796 rfl dX12_lookStatement_197 ?_
        refine lv_iload_n hx hb dX12_lookStatement_200 rfl (lv_at hl 0 rfl) ?_
        refine lv_iand hx hb dX12_lookStatement_201 ?_
        refine lv_topi (fun x259 e260 => ?_)
        refine r_put (v := x259) (ty := .int) hx hb hown hq hE hP hD hS 77 544 tFX12_77 (by decide) pw_1796 (by decide) rfl rfl (ms_77 a _ _) dX12_lookStatement_202 (fun H locs hP hD hS => ?_)
        refine lv_goto (tgt := 475) hx hb dX12_lookStatement_205 (by decide) ?_
        have hz261 : fa ≤ fa202 := (by omega)
        have hz262 : fa202 ≤ 15 := (by omega)
        have hz263 : sc ≤ sc203 := (by omega)
        have hz264 : sc203 ≤ 30 := (by omega)
        have hz265 : ChS B nd n9 ty ty211 mn mn212 nc nc210 := hch224
        have hz266 : mnN B nd mn212 := h220
        have hz267 : ∀ i : Nat, i < nd → ¬ (B) 9 i = 44 → nc210 i = (B) 14 i := h221
        have hz268 : ∀ i : Nat, i < sc → vt214 i = vt i := hq8226
        have hz269 : If (fa202 = 0) (TyS B dc fd md nd ty211 mn212 nc210 k9 rs n9 (sc, il, ev) ∧ sc203 = (aft B n9 (sc, il, ev)).1 ∧ ∀ i : Nat, i < sc203 → vt214 i = (aft B n9 (sc, il, ev)).2.2 i ∧ tyOK dc (vt214 i)) := (fun e => absurd e (by omega))
        have hP : va_P G.1 pCl (mW G h0 a (upd (upd (upd (upd (upd (upd (upd (upd (upd (upd (upd (upd (upd F 15 (nI fa202)) 16 pl204) 44 (nI fd)) 49 (nI md)) 73 (nI sc203)) 74 (nI k9)) 75 (nI rs)) 76 (nI il)) 77 x259) 78 wt206) 79 wf207) 80 ab208) 81 ac209) (updA (updA (updA (updA (updA B 14 nc210) 17 ty211) 18 mn212) 48 vn213) 49 vt214)) _ := mW_to (F := F) (l1 := [(15, (nI fa202)), (16, pl204), (44, (nI fd)), (49, (nI md)), (73, (nI sc203)), (74, (nI k9)), (75, (nI rs)), (76, (nI il)), (77, dn205), (78, wt206), (79, wf207), (80, ab208), (81, ac209), (77, wf179), (77, x259)]) (l2 := [(15, (nI fa202)), (16, pl204), (44, (nI fd)), (49, (nI md)), (73, (nI sc203)), (74, (nI k9)), (75, (nI rs)), (76, (nI il)), (77, x259), (78, wt206), (79, wf207), (80, ab208), (81, ac209)]) (V := [(nI fa202), pl204, (nI fd), (nI md), (nI sc203), (nI k9), (nI rs), (nI il), x259, wt206, wf207, ab208, ac209, x259, x259, (nI fa202), pl204, (nI fd), (nI md), (nI sc203), (nI k9), (nI rs), (nI il), x259, wt206, wf207, ab208, ac209]) rfl rfl rfl hP
        have hD : va_D A (mW G h0 a (upd (upd (upd (upd (upd (upd (upd (upd (upd (upd (upd (upd (upd F 15 (nI fa202)) 16 pl204) 44 (nI fd)) 49 (nI md)) 73 (nI sc203)) 74 (nI k9)) 75 (nI rs)) 76 (nI il)) 77 x259) 78 wt206) 79 wf207) 80 ab208) 81 ac209) (updA (updA (updA (updA (updA B 14 nc210) 17 ty211) 18 mn212) 48 vn213) 49 vt214)) := mW_D hD
        exact W.vret hx hb hr (fun t9 ht9 hW9 => ⟨⟨_, (fa202, sc203, pl204, x259, wt206, wf207, ab208, ac209, nc210, ty211, mn212, vn213, vt214), rfl, ⟨rfl, hz261, hz262, hz263, hz264, hz265, hz266, hz267, hz268, hz269⟩, by rw [ht9]; exact hP, hD⟩, hS.F ht9⟩) hS.2.2 dX12_lookStatement_475
      · have n270 : fa202 = 0 := (nI_eq (a := fa202) (b := 0) (by omega) (by omega)).mp c257
        obtain rfl : sc = sc203 := by have z := (h223 (by omega)).2.1; rw [aft_no (kcl_no30 (q := 3) (by omega) hc194)] at z; exact z.symm
        refine lv_aload_n hx hb dX12_lookStatement_185 rfl (lv_at hl 2 rfl) ?_
        refine lv_aload_n hx hb dX12_lookStatement_186 rfl (lv_at hl 2 rfl) ?_
        refine r_get (v := .ref (a 14)) hx hb hown hq hE hP 22 53 tFX12_22 (by decide) pw_1444 rfl dX12_lookStatement_187 ?_
        refine lv_iload_n hx hb dX12_lookStatement_190 rfl (lv_at hl 3 rfl) ?_
        refine r_ldi (f := nc210) (j := n9) hx hb hE hP 14 (ma_14 G a _) rfl (by omega) (by decide) dX12_lookStatement_191 ?_
        refine lv_topi (fun x271 e272 => ?_)
        obtain rfl : x271 = nI c230 := e272.trans ((h221 n9 hn9 (by rw [ek]; decide)).trans e231)
        have hP : va_P G.1 pCl (mW G h0 a (upd (upd (upd (upd (upd (upd (upd (upd (upd (upd (upd (upd (upd (upd (upd (upd (upd (upd (upd (upd (upd (upd (upd (upd (upd F 15 (nI fa202)) 16 pl204) 44 (nI fd)) 49 (nI md)) 73 (nI sc)) 74 (nI k9)) 75 (nI rs)) 76 (nI il)) 77 wf179) 78 wt206) 79 wf207) 80 ab208) 81 ac209) 15 (nI fa202)) 44 (nI fd)) 49 (nI md)) 73 (nI sc)) 74 (nI k9)) 75 (nI rs)) 76 (nI il)) 77 wf179) 78 wt206) 79 wf207) 80 ab208) 81 ac209) (updA (updA (updA (updA (updA B 14 nc210) 17 ty211) 18 mn212) 48 vn213) 49 vt214)) _ := hP
        have hD : va_D A (mW G h0 a (upd (upd (upd (upd (upd (upd (upd (upd (upd (upd (upd (upd (upd (upd (upd (upd (upd (upd (upd (upd (upd (upd (upd (upd (upd F 15 (nI fa202)) 16 pl204) 44 (nI fd)) 49 (nI md)) 73 (nI sc)) 74 (nI k9)) 75 (nI rs)) 76 (nI il)) 77 wf179) 78 wt206) 79 wf207) 80 ab208) 81 ac209) 15 (nI fa202)) 44 (nI fd)) 49 (nI md)) 73 (nI sc)) 74 (nI k9)) 75 (nI rs)) 76 (nI il)) 77 wf179) 78 wt206) 79 wf207) 80 ab208) 81 ac209) (updA (updA (updA (updA (updA B 14 nc210) 17 ty211) 18 mn212) 48 vn213) 49 vt214)) := mW_D hD
        refine pc_V0 (G := G) (As := [.int (nI c230)]) (rest := []) hx hb hml hown hq hE hX pX0_al hP hD hS hA hl.1 (ihS h0 a (upd (upd (upd (upd (upd (upd (upd (upd (upd (upd (upd (upd (upd F 15 (nI fa202)) 16 pl204) 44 (nI fd)) 49 (nI md)) 73 (nI sc)) 74 (nI k9)) 75 (nI rs)) 76 (nI il)) 77 wf179) 78 wt206) 79 wf207) 80 ab208) 81 ac209) B c230 fa202 sc il k9 rs nd T nm wr lz dc fd md pr bk gh wf179 wt206 wf207 ab208 ac209 nc210 ty211 mn212 vn213 vt214 ev hst hnm h232 (by omega) (by omega) (by omega) hk9 h221 h220 (by omega) hrs (by omega) (mnC.beside hF (by omega) hn9 (mnC.beside hF (by omega) hn9 (mnC.kid hmc (by omega) hp233) h232 h164 hp233 hp165 (fun e => by have z := hg237; rw [e] at z; have := hg169; omega) (ChS.ofE (nc := nc) h184)) h232 h191 hp233 hp192 (fun e => by have z := hg237; rw [e] at z; have := hg196; omega) h219) hvt227 hve228 (kcl_3_7 hc235)) (gV pw_1874 pw_1875 pw_1876 pw_1523 pw_1884) hV_X12_lookStatement 0 9 rfl rfl rfl rfl (Nat.le_of_ble_eq_true rfl) dX12_lookStatement_192 ⟨Nat.le_of_ble_eq_true rfl, Nat.le_of_ble_eq_true rfl⟩ ⟨(by show (4 * (z9 - 1) + 14) + 1 ≤ (4 * z9 + 14); omega), (by show 8 + (4 + 11) + (160 * (z9 - 1) + 1700) ≤ (160 * z9 + 1700); omega)⟩ (fun v275 u273 H locs hw274 hP hD hS => ?_)
        obtain ⟨fa276, sc277, pl278, dn279, wt280, wf281, ab282, ac283, nc284, ty285, mn286, vn287, vt288⟩ := u273
        obtain ⟨hw274, h289, h290, h291, h292, h293, h294, h295, h296, h297⟩ := hw274
        replace h289 : fa202 ≤ fa276 := h289
        replace h290 : fa276 ≤ 15 := h290
        replace h291 : sc ≤ sc277 := h291
        replace h292 : sc277 ≤ 30 := h292
        replace h293 : ChS B nd c230 ty211 ty285 mn212 mn286 nc210 nc284 := h293
        replace h294 : mnN B nd mn286 := h294
        replace h295 : ∀ i : Nat, i < nd → ¬ (B) 9 i = 44 → nc284 i = (B) 14 i := h295
        replace h296 : ∀ i : Nat, i < sc → vt288 i = vt214 i := h296
        replace h297 : If (fa276 = 0) (TyS B dc fd md nd ty285 mn286 nc284 k9 rs c230 (sc, il, ev) ∧ sc277 = (aft B c230 (sc, il, ev)).1 ∧ ∀ i : Nat, i < sc277 → vt288 i = (aft B c230 (sc, il, ev)).2.2 i ∧ tyOK dc (vt288 i)) := h297
        obtain rfl : v275 = none := hw274
        have hP : va_P G.1 pCl (mW G h0 a (upd (upd (upd (upd (upd (upd (upd (upd (upd (upd (upd (upd (upd F 15 (nI fa276)) 16 pl278) 44 (nI fd)) 49 (nI md)) 73 (nI sc277)) 74 (nI k9)) 75 (nI rs)) 76 (nI il)) 77 dn279) 78 wt280) 79 wf281) 80 ab282) 81 ac283) (updA (updA (updA (updA (updA B 14 nc284) 17 ty285) 18 mn286) 48 vn287) 49 vt288)) _ := mW_to (F := F) (l1 := [(15, (nI fa202)), (16, pl204), (44, (nI fd)), (49, (nI md)), (73, (nI sc)), (74, (nI k9)), (75, (nI rs)), (76, (nI il)), (77, wf179), (78, wt206), (79, wf207), (80, ab208), (81, ac209), (15, (nI fa276)), (16, pl278), (44, (nI fd)), (49, (nI md)), (73, (nI sc277)), (74, (nI k9)), (75, (nI rs)), (76, (nI il)), (77, dn279), (78, wt280), (79, wf281), (80, ab282), (81, ac283)]) (l2 := [(15, (nI fa276)), (16, pl278), (44, (nI fd)), (49, (nI md)), (73, (nI sc277)), (74, (nI k9)), (75, (nI rs)), (76, (nI il)), (77, dn279), (78, wt280), (79, wf281), (80, ab282), (81, ac283)]) (V := [(nI fa276), pl278, (nI fd), (nI md), (nI sc277), (nI k9), (nI rs), (nI il), dn279, wt280, wf281, ab282, ac283, (nI fa276), pl278, (nI fd), (nI md), (nI sc277), (nI k9), (nI rs), (nI il), dn279, wt280, wf281, ab282, ac283, (nI fa276), pl278, (nI fd), (nI md), (nI sc277), (nI k9), (nI rs), (nI il), dn279, wt280, wf281, ab282, ac283]) rfl rfl rfl hP
        have hD : va_D A (mW G h0 a (upd (upd (upd (upd (upd (upd (upd (upd (upd (upd (upd (upd (upd F 15 (nI fa276)) 16 pl278) 44 (nI fd)) 49 (nI md)) 73 (nI sc277)) 74 (nI k9)) 75 (nI rs)) 76 (nI il)) 77 dn279) 78 wt280) 79 wf281) 80 ab282) 81 ac283) (updA (updA (updA (updA (updA B 14 nc284) 17 ty285) 18 mn286) 48 vn287) 49 vt288)) := mW_D hD
        refine W.widen (k := 0) (n := 0) (Nat.le_of_ble_eq_true rfl) (Nat.le_of_ble_eq_true rfl) ?_
        refine W.eq (g2 := F0 m 195 ls []) rfl ?_
        have hch298 : ChS B nd n9 ty ty285 mn mn286 nc nc284 := (ChS.trans hch224 (ChS.kid h293 (by omega) hp233))
        have hsl299 : If (fa175 = 0) (slP B n9 (sc, il, ev) (fun c e9 => TyS B dc fd md nd ty285 mn286 nc284 k9 rs c e9) 34 1) := (fun e => slP.beside (kk := 34) (s := 1) hF (by omega) hn9 ek (by decide) (by decide) (by decide) h232 hp233 hg237 (by decide) h293 (hsl225 e))
        have hsl300 : If (fa202 = 0) (slP B n9 (sc, il, ev) (fun c e9 => TyS B dc fd md nd ty285 mn286 nc284 k9 rs c e9) 34 2) := (fun e => slP.beside (kk := 34) (s := 2) hF (by omega) hn9 ek (by decide) (by decide) (by decide) h232 hp233 hg237 (by decide) h293 (hsl229 e))
        have hq8301 : ∀ i : Nat, i < sc → vt288 i = vt i := (fun i h => (h296 i (by omega)).trans (hq8226 i h))
        have hvt302 : ∀ i : Nat, i < sc → tyOK dc (vt288 i) := (fun i h => by rw [h296 i h]; exact hvt227 i h)
        have hve303 : ∀ i : Nat, i < sc → vt288 i = ev i := (fun i h => (h296 i h).trans (hve228 i h))
        have hsl304 : If (fa276 = 0) (slP B n9 (sc, il, ev) (fun c e9 => TyS B dc fd md nd ty285 mn286 nc284 k9 rs c e9) 34 3) := (fun e => slP.one (by decide) (by omega) e231 (h297 e).1)
        refine lv_aload_n hx hb dX12_lookStatement_195 rfl (lv_at hl 2 rfl) ?_
        refine lv_dup hx hb dX12_lookStatement_196 rfl ?_
        refine r_get (v := .int dn279) hx hb hown hq hE hP 77 544 tFX12_77 (by decide) pw_1796 rfl dX12_lookStatement_197 ?_
        refine lv_iload_n hx hb dX12_lookStatement_200 rfl (lv_at hl 0 rfl) ?_
        refine lv_iand hx hb dX12_lookStatement_201 ?_
        refine lv_topi (fun x305 e306 => ?_)
        refine r_put (v := x305) (ty := .int) hx hb hown hq hE hP hD hS 77 544 tFX12_77 (by decide) pw_1796 (by decide) rfl rfl (ms_77 a _ _) dX12_lookStatement_202 (fun H locs hP hD hS => ?_)
        refine lv_goto (tgt := 475) hx hb dX12_lookStatement_205 (by decide) ?_
        have hse307 : If (fa276 = 0) (sc277 = sc) := (fun e => by have z := (h297 e).2.1; rw [aft_no (kcl_no30 (q := 3) (by omega) hc235)] at z; exact z)
        have hz308 : fa ≤ fa276 := (by omega)
        have hz309 : fa276 ≤ 15 := (by omega)
        have hz310 : sc ≤ sc277 := (by omega)
        have hz311 : sc277 ≤ 30 := (by omega)
        have hz312 : ChS B nd n9 ty ty285 mn mn286 nc nc284 := hch298
        have hz313 : mnN B nd mn286 := h294
        have hz314 : ∀ i : Nat, i < nd → ¬ (B) 9 i = 44 → nc284 i = (B) 14 i := h295
        have hz315 : ∀ i : Nat, i < sc → vt288 i = vt i := hq8301
        have hz316 : If (fa276 = 0) (TyS B dc fd md nd ty285 mn286 nc284 k9 rs n9 (sc, il, ev) ∧ sc277 = (aft B n9 (sc, il, ev)).1 ∧ ∀ i : Nat, i < sc277 → vt288 i = (aft B n9 (sc, il, ev)).2.2 i ∧ tyOK dc (vt288 i)) := (fun e => ⟨TyS.of (steps (kk := 34) ek (by decide) (hsl299 (by omega)) (hsl300 (by omega)) (hsl304 (by omega)) (slP.no (by decide))) (LTX.st ek (by decide) (by decide) (show LSk B dc ty285 mn286 nc284 rs n9 (sc, il, ev) 34 from (by show ty285 (chN B 1 n9) = 2; rw [hh168]; exact ((ChS.at hF (by omega) hn9 h164 h232 hp165 hp233 (fun e => by have z := hg169; rw [e] at z; have := hg237; omega) h293).trans ((ChS.at hF (by omega) hn9 h164 h191 hp165 hp192 (fun e => by have z := hg169; rw [e] at z; have := hg196; omega) h219).trans (h186 (by omega)).2))))), (by rw [(aft_no (by rw [ek]; decide))]; exact hse307 (by omega)), (fun i h => by rw [(aft_no (by rw [ek]; decide))]; have z := hse307 (by omega); exact ⟨hve303 i (by omega), hvt302 i (by omega)⟩)⟩)
        have hP : va_P G.1 pCl (mW G h0 a (upd (upd (upd (upd (upd (upd (upd (upd (upd (upd (upd (upd (upd F 15 (nI fa276)) 16 pl278) 44 (nI fd)) 49 (nI md)) 73 (nI sc277)) 74 (nI k9)) 75 (nI rs)) 76 (nI il)) 77 x305) 78 wt280) 79 wf281) 80 ab282) 81 ac283) (updA (updA (updA (updA (updA B 14 nc284) 17 ty285) 18 mn286) 48 vn287) 49 vt288)) _ := mW_to (F := F) (l1 := [(15, (nI fa276)), (16, pl278), (44, (nI fd)), (49, (nI md)), (73, (nI sc277)), (74, (nI k9)), (75, (nI rs)), (76, (nI il)), (77, dn279), (78, wt280), (79, wf281), (80, ab282), (81, ac283), (77, x305)]) (l2 := [(15, (nI fa276)), (16, pl278), (44, (nI fd)), (49, (nI md)), (73, (nI sc277)), (74, (nI k9)), (75, (nI rs)), (76, (nI il)), (77, x305), (78, wt280), (79, wf281), (80, ab282), (81, ac283)]) (V := [(nI fa276), pl278, (nI fd), (nI md), (nI sc277), (nI k9), (nI rs), (nI il), x305, wt280, wf281, ab282, ac283, x305, (nI fa276), pl278, (nI fd), (nI md), (nI sc277), (nI k9), (nI rs), (nI il), x305, wt280, wf281, ab282, ac283]) rfl rfl rfl hP
        have hD : va_D A (mW G h0 a (upd (upd (upd (upd (upd (upd (upd (upd (upd (upd (upd (upd (upd F 15 (nI fa276)) 16 pl278) 44 (nI fd)) 49 (nI md)) 73 (nI sc277)) 74 (nI k9)) 75 (nI rs)) 76 (nI il)) 77 x305) 78 wt280) 79 wf281) 80 ab282) 81 ac283) (updA (updA (updA (updA (updA B 14 nc284) 17 ty285) 18 mn286) 48 vn287) 49 vt288)) := mW_D hD
        exact W.vret hx hb hr (fun t9 ht9 hW9 => ⟨⟨_, (fa276, sc277, pl278, x305, wt280, wf281, ab282, ac283, nc284, ty285, mn286, vn287, vt288), rfl, ⟨rfl, hz308, hz309, hz310, hz311, hz312, hz313, hz314, hz315, hz316⟩, by rw [ht9]; exact hP, hD⟩, hS.F ht9⟩) hS.2.2 dX12_lookStatement_475
  · refine lv_topi (fun x317 e318 => ?_)
    obtain rfl : x317 = 35 := e318.trans ek
    refine lv_tableIn (tgt := 208) (off := 202) hx hb dX12_lookStatement_6 (by decide) (by decide) (by decide) (by decide) ?_
    refine lv_aload_n hx hb dX12_lookStatement_208 rfl (lv_at hl 0 rfl) ?_
    refine lv_iload_n hx hb dX12_lookStatement_209 rfl (lv_at hl 1 rfl) ?_
    have hP : va_P G.1 pCl (mW G h0 a (upd (upd (upd (upd (upd (upd (upd (upd (upd (upd (upd (upd (upd (upd (upd (upd (upd (upd (upd (upd (upd (upd (upd (upd F 15 (nI fa)) 44 (nI fd)) 49 (nI md)) 73 (nI sc)) 74 (nI k9)) 75 (nI rs)) 76 (nI il)) 77 dn) 78 wt) 79 wf) 80 ab) 81 ac) 15 (nI fa)) 44 (nI fd)) 49 (nI md)) 73 (nI sc)) 74 (nI k9)) 75 (nI rs)) 76 (nI il)) 77 dn) 78 wt) 79 wf) 80 ab) 81 ac) (updA (updA (updA (updA (updA B 14 nc) 17 ty) 18 mn) 48 vn) 49 vt)) _ := hP
    have hD : va_D A (mW G h0 a (upd (upd (upd (upd (upd (upd (upd (upd (upd (upd (upd (upd (upd (upd (upd (upd (upd (upd (upd (upd (upd (upd (upd (upd F 15 (nI fa)) 44 (nI fd)) 49 (nI md)) 73 (nI sc)) 74 (nI k9)) 75 (nI rs)) 76 (nI il)) 77 dn) 78 wt) 79 wf) 80 ab) 81 ac) 15 (nI fa)) 44 (nI fd)) 49 (nI md)) 73 (nI sc)) 74 (nI k9)) 75 (nI rs)) 76 (nI il)) 77 dn) 78 wt) 79 wf) 80 ab) 81 ac) (updA (updA (updA (updA (updA B 14 nc) 17 ty) 18 mn) 48 vn) 49 vt)) := mW_D hD
    refine pc_V0 (G := G) (As := [.int (nI n9)]) (rest := []) hx hb hml hown hq hE hX pX0_al hP hD hS hA hl.1 (L_lookWhile l G h0 a (upd (upd (upd (upd (upd (upd (upd (upd (upd (upd (upd (upd F 15 (nI fa)) 44 (nI fd)) 49 (nI md)) 73 (nI sc)) 74 (nI k9)) 75 (nI rs)) 76 (nI il)) 77 dn) 78 wt) 79 wf) 80 ab) 81 ac) B n9 z9 fa sc il k9 rs nd T nm wr lz dc fd md pr bk gh dn wt wf ab ac nc ty mn vn vt ev hst hnm hn9 (by omega) (by omega) (by omega) hk9 hnc hmn (by omega) hrs (by omega) hmc hvt hve ek ihS) (gV pw_1895 pw_1896 pw_1897 pw_1523 pw_1908) hV_X12_lookWhile 0 9 rfl rfl rfl rfl (Nat.le_of_ble_eq_true rfl) dX12_lookStatement_210 ⟨Nat.le_of_ble_eq_true rfl, Nat.le_of_ble_eq_true rfl⟩ ⟨(by show (4 * z9 + 13) + 1 ≤ (4 * z9 + 14); omega), (by show 8 + (5 + 11) + (160 * z9 + 1660) ≤ (160 * z9 + 1700); omega)⟩ (fun v321 u319 H locs hw320 hP hD hS => ?_)
    obtain ⟨fa322, sc323, pl324, dn325, wt326, wf327, ab328, ac329, nc330, ty331, mn332, vn333, vt334⟩ := u319
    obtain ⟨hw320, h335, h336, h337, h338, h339, h340, h341, h342, h343⟩ := hw320
    replace h335 : fa ≤ fa322 := h335
    replace h336 : fa322 ≤ 15 := h336
    replace h337 : sc ≤ sc323 := h337
    replace h338 : sc323 ≤ 30 := h338
    replace h339 : ChS B nd n9 ty ty331 mn mn332 nc nc330 := h339
    replace h340 : mnN B nd mn332 := h340
    replace h341 : ∀ i : Nat, i < nd → ¬ (B) 9 i = 44 → nc330 i = (B) 14 i := h341
    replace h342 : ∀ i : Nat, i < sc → vt334 i = vt i := h342
    replace h343 : If (fa322 = 0) (TyS B dc fd md nd ty331 mn332 nc330 k9 rs n9 (sc, il, ev) ∧ sc323 = (aft B n9 (sc, il, ev)).1 ∧ ∀ i : Nat, i < sc323 → vt334 i = (aft B n9 (sc, il, ev)).2.2 i ∧ tyOK dc (vt334 i)) := h343
    obtain rfl : v321 = none := hw320
    have hP : va_P G.1 pCl (mW G h0 a (upd (upd (upd (upd (upd (upd (upd (upd (upd (upd (upd (upd (upd F 15 (nI fa322)) 16 pl324) 44 (nI fd)) 49 (nI md)) 73 (nI sc323)) 74 (nI k9)) 75 (nI rs)) 76 (nI il)) 77 dn325) 78 wt326) 79 wf327) 80 ab328) 81 ac329) (updA (updA (updA (updA (updA B 14 nc330) 17 ty331) 18 mn332) 48 vn333) 49 vt334)) _ := mW_to (F := F) (l1 := [(15, (nI fa)), (44, (nI fd)), (49, (nI md)), (73, (nI sc)), (74, (nI k9)), (75, (nI rs)), (76, (nI il)), (77, dn), (78, wt), (79, wf), (80, ab), (81, ac), (15, (nI fa322)), (16, pl324), (44, (nI fd)), (49, (nI md)), (73, (nI sc323)), (74, (nI k9)), (75, (nI rs)), (76, (nI il)), (77, dn325), (78, wt326), (79, wf327), (80, ab328), (81, ac329)]) (l2 := [(15, (nI fa322)), (16, pl324), (44, (nI fd)), (49, (nI md)), (73, (nI sc323)), (74, (nI k9)), (75, (nI rs)), (76, (nI il)), (77, dn325), (78, wt326), (79, wf327), (80, ab328), (81, ac329)]) (V := [(nI fa322), (nI fd), (nI md), (nI sc323), (nI k9), (nI rs), (nI il), dn325, wt326, wf327, ab328, ac329, (nI fa322), pl324, (nI fd), (nI md), (nI sc323), (nI k9), (nI rs), (nI il), dn325, wt326, wf327, ab328, ac329, (nI fa322), pl324, (nI fd), (nI md), (nI sc323), (nI k9), (nI rs), (nI il), dn325, wt326, wf327, ab328, ac329]) rfl rfl rfl hP
    have hD : va_D A (mW G h0 a (upd (upd (upd (upd (upd (upd (upd (upd (upd (upd (upd (upd (upd F 15 (nI fa322)) 16 pl324) 44 (nI fd)) 49 (nI md)) 73 (nI sc323)) 74 (nI k9)) 75 (nI rs)) 76 (nI il)) 77 dn325) 78 wt326) 79 wf327) 80 ab328) 81 ac329) (updA (updA (updA (updA (updA B 14 nc330) 17 ty331) 18 mn332) 48 vn333) 49 vt334)) := mW_D hD
    refine W.widen (k := 0) (n := 0) (Nat.le_of_ble_eq_true rfl) (Nat.le_of_ble_eq_true rfl) ?_
    refine W.eq (g2 := F0 m 213 ls []) rfl ?_
    have hch344 : ChS B nd n9 ty ty331 mn mn332 nc nc330 := (ChS.trans ChS.rfl h339)
    refine lv_goto (tgt := 475) hx hb dX12_lookStatement_213 (by decide) ?_
    have hz345 : fa ≤ fa322 := (by omega)
    have hz346 : fa322 ≤ 15 := (by omega)
    have hz347 : sc ≤ sc323 := (by omega)
    have hz348 : sc323 ≤ 30 := (by omega)
    have hz349 : ChS B nd n9 ty ty331 mn mn332 nc nc330 := hch344
    have hz350 : mnN B nd mn332 := h340
    have hz351 : ∀ i : Nat, i < nd → ¬ (B) 9 i = 44 → nc330 i = (B) 14 i := h341
    have hz352 : ∀ i : Nat, i < sc → vt334 i = vt i := h342
    have hz353 : If (fa322 = 0) (TyS B dc fd md nd ty331 mn332 nc330 k9 rs n9 (sc, il, ev) ∧ sc323 = (aft B n9 (sc, il, ev)).1 ∧ ∀ i : Nat, i < sc323 → vt334 i = (aft B n9 (sc, il, ev)).2.2 i ∧ tyOK dc (vt334 i)) := (fun e => h343 (by omega))
    have hP : va_P G.1 pCl (mW G h0 a (upd (upd (upd (upd (upd (upd (upd (upd (upd (upd (upd (upd (upd F 15 (nI fa322)) 16 pl324) 44 (nI fd)) 49 (nI md)) 73 (nI sc323)) 74 (nI k9)) 75 (nI rs)) 76 (nI il)) 77 dn325) 78 wt326) 79 wf327) 80 ab328) 81 ac329) (updA (updA (updA (updA (updA B 14 nc330) 17 ty331) 18 mn332) 48 vn333) 49 vt334)) _ := hP
    have hD : va_D A (mW G h0 a (upd (upd (upd (upd (upd (upd (upd (upd (upd (upd (upd (upd (upd F 15 (nI fa322)) 16 pl324) 44 (nI fd)) 49 (nI md)) 73 (nI sc323)) 74 (nI k9)) 75 (nI rs)) 76 (nI il)) 77 dn325) 78 wt326) 79 wf327) 80 ab328) 81 ac329) (updA (updA (updA (updA (updA B 14 nc330) 17 ty331) 18 mn332) 48 vn333) 49 vt334)) := mW_D hD
    exact W.vret hx hb hr (fun t9 ht9 hW9 => ⟨⟨_, (fa322, sc323, pl324, dn325, wt326, wf327, ab328, ac329, nc330, ty331, mn332, vn333, vt334), rfl, ⟨rfl, hz345, hz346, hz347, hz348, hz349, hz350, hz351, hz352, hz353⟩, by rw [ht9]; exact hP, hD⟩, hS.F ht9⟩) hS.2.2 dX12_lookStatement_475
  · refine lv_topi (fun x354 e355 => ?_)
    obtain rfl : x354 = 36 := e355.trans ek
    refine lv_tableIn (tgt := 216) (off := 210) hx hb dX12_lookStatement_6 (by decide) (by decide) (by decide) (by decide) ?_
    refine lv_aload_n hx hb dX12_lookStatement_216 rfl (lv_at hl 0 rfl) ?_
    refine lv_iload_n hx hb dX12_lookStatement_217 rfl (lv_at hl 1 rfl) ?_
    have hP : va_P G.1 pCl (mW G h0 a (upd (upd (upd (upd (upd (upd (upd (upd (upd (upd (upd (upd (upd (upd (upd (upd (upd (upd (upd (upd (upd (upd (upd (upd F 15 (nI fa)) 44 (nI fd)) 49 (nI md)) 73 (nI sc)) 74 (nI k9)) 75 (nI rs)) 76 (nI il)) 77 dn) 78 wt) 79 wf) 80 ab) 81 ac) 15 (nI fa)) 44 (nI fd)) 49 (nI md)) 73 (nI sc)) 74 (nI k9)) 75 (nI rs)) 76 (nI il)) 77 dn) 78 wt) 79 wf) 80 ab) 81 ac) (updA (updA (updA (updA (updA B 14 nc) 17 ty) 18 mn) 48 vn) 49 vt)) _ := hP
    have hD : va_D A (mW G h0 a (upd (upd (upd (upd (upd (upd (upd (upd (upd (upd (upd (upd (upd (upd (upd (upd (upd (upd (upd (upd (upd (upd (upd (upd F 15 (nI fa)) 44 (nI fd)) 49 (nI md)) 73 (nI sc)) 74 (nI k9)) 75 (nI rs)) 76 (nI il)) 77 dn) 78 wt) 79 wf) 80 ab) 81 ac) 15 (nI fa)) 44 (nI fd)) 49 (nI md)) 73 (nI sc)) 74 (nI k9)) 75 (nI rs)) 76 (nI il)) 77 dn) 78 wt) 79 wf) 80 ab) 81 ac) (updA (updA (updA (updA (updA B 14 nc) 17 ty) 18 mn) 48 vn) 49 vt)) := mW_D hD
    refine pc_V0 (G := G) (As := [.int (nI n9)]) (rest := []) hx hb hml hown hq hE hX pX0_al hP hD hS hA hl.1 (L_lookFor l G h0 a (upd (upd (upd (upd (upd (upd (upd (upd (upd (upd (upd (upd F 15 (nI fa)) 44 (nI fd)) 49 (nI md)) 73 (nI sc)) 74 (nI k9)) 75 (nI rs)) 76 (nI il)) 77 dn) 78 wt) 79 wf) 80 ab) 81 ac) B n9 z9 fa sc il k9 rs nd T nm wr lz dc fd md pr bk gh dn wt wf ab ac nc ty mn vn vt ev hst hnm hn9 (by omega) (by omega) (by omega) hk9 hnc hmn (by omega) hrs (by omega) hmc hvt hve ek ihS) (gV pw_1898 pw_1899 pw_1900 pw_1523 pw_1877) hV_X12_lookFor 0 9 rfl rfl rfl rfl (Nat.le_of_ble_eq_true rfl) dX12_lookStatement_218 ⟨Nat.le_of_ble_eq_true rfl, Nat.le_of_ble_eq_true rfl⟩ ⟨(by show (4 * z9 + 13) + 1 ≤ (4 * z9 + 14); omega), (by show 8 + (6 + 11) + (160 * z9 + 1660) ≤ (160 * z9 + 1700); omega)⟩ (fun v358 u356 H locs hw357 hP hD hS => ?_)
    obtain ⟨fa359, sc360, pl361, dn362, wt363, wf364, ab365, ac366, nc367, ty368, mn369, vn370, vt371⟩ := u356
    obtain ⟨hw357, h372, h373, h374, h375, h376, h377, h378, h379, h380⟩ := hw357
    replace h372 : fa ≤ fa359 := h372
    replace h373 : fa359 ≤ 15 := h373
    replace h374 : sc ≤ sc360 := h374
    replace h375 : sc360 ≤ 30 := h375
    replace h376 : ChS B nd n9 ty ty368 mn mn369 nc nc367 := h376
    replace h377 : mnN B nd mn369 := h377
    replace h378 : ∀ i : Nat, i < nd → ¬ (B) 9 i = 44 → nc367 i = (B) 14 i := h378
    replace h379 : ∀ i : Nat, i < sc → vt371 i = vt i := h379
    replace h380 : If (fa359 = 0) (TyS B dc fd md nd ty368 mn369 nc367 k9 rs n9 (sc, il, ev) ∧ sc360 = (aft B n9 (sc, il, ev)).1 ∧ ∀ i : Nat, i < sc360 → vt371 i = (aft B n9 (sc, il, ev)).2.2 i ∧ tyOK dc (vt371 i)) := h380
    obtain rfl : v358 = none := hw357
    have hP : va_P G.1 pCl (mW G h0 a (upd (upd (upd (upd (upd (upd (upd (upd (upd (upd (upd (upd (upd F 15 (nI fa359)) 16 pl361) 44 (nI fd)) 49 (nI md)) 73 (nI sc360)) 74 (nI k9)) 75 (nI rs)) 76 (nI il)) 77 dn362) 78 wt363) 79 wf364) 80 ab365) 81 ac366) (updA (updA (updA (updA (updA B 14 nc367) 17 ty368) 18 mn369) 48 vn370) 49 vt371)) _ := mW_to (F := F) (l1 := [(15, (nI fa)), (44, (nI fd)), (49, (nI md)), (73, (nI sc)), (74, (nI k9)), (75, (nI rs)), (76, (nI il)), (77, dn), (78, wt), (79, wf), (80, ab), (81, ac), (15, (nI fa359)), (16, pl361), (44, (nI fd)), (49, (nI md)), (73, (nI sc360)), (74, (nI k9)), (75, (nI rs)), (76, (nI il)), (77, dn362), (78, wt363), (79, wf364), (80, ab365), (81, ac366)]) (l2 := [(15, (nI fa359)), (16, pl361), (44, (nI fd)), (49, (nI md)), (73, (nI sc360)), (74, (nI k9)), (75, (nI rs)), (76, (nI il)), (77, dn362), (78, wt363), (79, wf364), (80, ab365), (81, ac366)]) (V := [(nI fa359), (nI fd), (nI md), (nI sc360), (nI k9), (nI rs), (nI il), dn362, wt363, wf364, ab365, ac366, (nI fa359), pl361, (nI fd), (nI md), (nI sc360), (nI k9), (nI rs), (nI il), dn362, wt363, wf364, ab365, ac366, (nI fa359), pl361, (nI fd), (nI md), (nI sc360), (nI k9), (nI rs), (nI il), dn362, wt363, wf364, ab365, ac366]) rfl rfl rfl hP
    have hD : va_D A (mW G h0 a (upd (upd (upd (upd (upd (upd (upd (upd (upd (upd (upd (upd (upd F 15 (nI fa359)) 16 pl361) 44 (nI fd)) 49 (nI md)) 73 (nI sc360)) 74 (nI k9)) 75 (nI rs)) 76 (nI il)) 77 dn362) 78 wt363) 79 wf364) 80 ab365) 81 ac366) (updA (updA (updA (updA (updA B 14 nc367) 17 ty368) 18 mn369) 48 vn370) 49 vt371)) := mW_D hD
    refine W.widen (k := 0) (n := 0) (Nat.le_of_ble_eq_true rfl) (Nat.le_of_ble_eq_true rfl) ?_
    refine W.eq (g2 := F0 m 221 ls []) rfl ?_
    have hch381 : ChS B nd n9 ty ty368 mn mn369 nc nc367 := (ChS.trans ChS.rfl h376)
    refine lv_goto (tgt := 475) hx hb dX12_lookStatement_221 (by decide) ?_
    have hz382 : fa ≤ fa359 := (by omega)
    have hz383 : fa359 ≤ 15 := (by omega)
    have hz384 : sc ≤ sc360 := (by omega)
    have hz385 : sc360 ≤ 30 := (by omega)
    have hz386 : ChS B nd n9 ty ty368 mn mn369 nc nc367 := hch381
    have hz387 : mnN B nd mn369 := h377
    have hz388 : ∀ i : Nat, i < nd → ¬ (B) 9 i = 44 → nc367 i = (B) 14 i := h378
    have hz389 : ∀ i : Nat, i < sc → vt371 i = vt i := h379
    have hz390 : If (fa359 = 0) (TyS B dc fd md nd ty368 mn369 nc367 k9 rs n9 (sc, il, ev) ∧ sc360 = (aft B n9 (sc, il, ev)).1 ∧ ∀ i : Nat, i < sc360 → vt371 i = (aft B n9 (sc, il, ev)).2.2 i ∧ tyOK dc (vt371 i)) := (fun e => h380 (by omega))
    have hP : va_P G.1 pCl (mW G h0 a (upd (upd (upd (upd (upd (upd (upd (upd (upd (upd (upd (upd (upd F 15 (nI fa359)) 16 pl361) 44 (nI fd)) 49 (nI md)) 73 (nI sc360)) 74 (nI k9)) 75 (nI rs)) 76 (nI il)) 77 dn362) 78 wt363) 79 wf364) 80 ab365) 81 ac366) (updA (updA (updA (updA (updA B 14 nc367) 17 ty368) 18 mn369) 48 vn370) 49 vt371)) _ := hP
    have hD : va_D A (mW G h0 a (upd (upd (upd (upd (upd (upd (upd (upd (upd (upd (upd (upd (upd F 15 (nI fa359)) 16 pl361) 44 (nI fd)) 49 (nI md)) 73 (nI sc360)) 74 (nI k9)) 75 (nI rs)) 76 (nI il)) 77 dn362) 78 wt363) 79 wf364) 80 ab365) 81 ac366) (updA (updA (updA (updA (updA B 14 nc367) 17 ty368) 18 mn369) 48 vn370) 49 vt371)) := mW_D hD
    exact W.vret hx hb hr (fun t9 ht9 hW9 => ⟨⟨_, (fa359, sc360, pl361, dn362, wt363, wf364, ab365, ac366, nc367, ty368, mn369, vn370, vt371), rfl, ⟨rfl, hz382, hz383, hz384, hz385, hz386, hz387, hz388, hz389, hz390⟩, by rw [ht9]; exact hP, hD⟩, hS.F ht9⟩) hS.2.2 dX12_lookStatement_475
  · refine lv_topi (fun x391 e392 => ?_)
    obtain rfl : x391 = 37 := e392.trans ek
    refine lv_tableIn (tgt := 224) (off := 218) hx hb dX12_lookStatement_6 (by decide) (by decide) (by decide) (by decide) ?_
    refine lv_aload_n hx hb dX12_lookStatement_224 rfl (lv_at hl 0 rfl) ?_
    refine r_get (v := .ref (a 12)) hx hb hown hq hE hP 20 47 tFX12_20 (by decide) pw_1442 rfl dX12_lookStatement_225 ?_
    refine lv_iload_n hx hb dX12_lookStatement_228 rfl (lv_at hl 1 rfl) ?_
    refine r_ldi (f := (B 12)) (j := n9) hx hb hE hP 12 (ma_12 G a _) rfl (by omega) (by decide) dX12_lookStatement_229 ?_
    rcases Fs2.kidO (kk := 37) (s := 1) hF hn9 ek (by decide) (by decide) (by decide) (by decide) (by omega) with e401 | ⟨c393, e394, h395, hp396, h397, hc398, hh399, hg400⟩
    · refine lv_topi (fun x402 e403 => ?_)
      obtain rfl : x402 = (-1) := e403.trans e401
      refine lv_iconst (v := (-1)) hx hb dX12_lookStatement_230 (by decide) ?_
      refine lv_icmp_ne (tgt := 262) hx hb dX12_lookStatement_231 (by decide) (fun c404 => absurd c404 (by decide)) (fun c404 => ?_)
      refine lv_aload_n hx hb dX12_lookStatement_234 rfl (lv_at hl 0 rfl) ?_
      refine lv_aload_n hx hb dX12_lookStatement_235 rfl (lv_at hl 0 rfl) ?_
      refine r_get (v := .int (nI rs)) hx hb hown hq hE hP 75 627 tFX12_75 (by decide) pw_1885 rfl dX12_lookStatement_236 ?_
      refine lv_if_ne (tgt := 246) hx hb dX12_lookStatement_239 (by decide) (fun c405 => ?_) (fun c405 => ?_)
      · have n406 : ¬ (rs = 0) := fun h9 => c405 ((nI_eq (a := rs) (b := 0) (by omega) (by omega)).mpr h9)
        refine lv_iconst (v := 0) hx hb dX12_lookStatement_246 (by decide) ?_
        refine lv_bipush (v := 11) hx hb dX12_lookStatement_247 (by decide) ?_
        refine lv_aload_n hx hb dX12_lookStatement_249 rfl (lv_at hl 0 rfl) ?_
        refine r_get (v := .ref (a 10)) hx hb hown hq hE hP 18 41 tFX12_18 (by decide) pw_1440 rfl dX12_lookStatement_250 ?_
        refine lv_iload_n hx hb dX12_lookStatement_253 rfl (lv_at hl 1 rfl) ?_
        refine r_ldi (f := (B 10)) (j := n9) hx hb hE hP 10 (ma_10 G a _) rfl (by omega) (by decide) dX12_lookStatement_254 ?_
        obtain ⟨⟨t407, e408, h409⟩, -⟩ := hF n9 hn9
        refine lv_topi (fun x410 e411 => ?_)
        obtain rfl : x410 = nI t407 := e411.trans e408
        have hP : va_P G.1 pCl (mW G h0 a (upd (upd (upd (upd (upd (upd (upd (upd (upd (upd (upd (upd (upd F 15 (nI fa)) 44 (nI fd)) 49 (nI md)) 73 (nI sc)) 74 (nI k9)) 75 (nI rs)) 76 (nI il)) 77 dn) 78 wt) 79 wf) 80 ab) 81 ac) 15 (nI fa)) (updA (updA (updA (updA (updA B 14 nc) 17 ty) 18 mn) 48 vn) 49 vt)) _ := hP
        have hD : va_D A (mW G h0 a (upd (upd (upd (upd (upd (upd (upd (upd (upd (upd (upd (upd (upd F 15 (nI fa)) 44 (nI fd)) 49 (nI md)) 73 (nI sc)) 74 (nI k9)) 75 (nI rs)) 76 (nI il)) 77 dn) 78 wt) 79 wf) 80 ab) 81 ac) 15 (nI fa)) (updA (updA (updA (updA (updA B 14 nc) 17 ty) 18 mn) 48 vn) 49 vt)) := mW_D hD
        refine pc_V0 (G := G) (As := [.int (nI 0), .int (nI 11), .int (nI t407)]) (rest := []) hx hb hml hown hq hE hX pX0_al hP hD hS hA hl.1 (R_judgeL l G h0 a (upd (upd (upd (upd (upd (upd (upd (upd (upd (upd (upd (upd F 15 (nI fa)) 44 (nI fd)) 49 (nI md)) 73 (nI sc)) 74 (nI k9)) 75 (nI rs)) 76 (nI il)) 77 dn) 78 wt) 79 wf) 80 ab) 81 ac) (updA (updA (updA (updA (updA B 14 nc) 17 ty) 18 mn) 48 vn) 49 vt) 0 11 t407 fa (by omega) (by omega) (by omega) (by omega)) (gV pw_1798 pw_1799 pw_1800 pw_1523 pw_1793) hV_X12_judge 0 9 rfl rfl rfl rfl (Nat.le_of_ble_eq_true rfl) dX12_lookStatement_255 ⟨Nat.le_of_ble_eq_true rfl, Nat.le_of_ble_eq_true rfl⟩ ⟨(by show 3 + 1 ≤ (4 * z9 + 14); omega), (by show 8 + (4 + 11) + 82 ≤ (160 * z9 + 1700); omega)⟩ (fun v414 u412 H locs hw413 hP hD hS => ?_)
        obtain ⟨r415, fa416, pl417⟩ := u412
        obtain ⟨hw413, h418, h419, h420, h421, h422, h423, h424⟩ := hw413
        replace h418 : r415 ≤ 1 := h418
        replace h419 : fa ≤ fa416 := h419
        replace h420 : fa416 ≤ 15 := h420
        replace h421 : fa416 + 15 * r415 ≤ 15 := h421
        replace h422 : 1 ≤ r415 + fa416 := h422
        replace h423 : 1 ≤ 0 + fa416 := h423
        replace h424 : fa416 ≤ fa + 15 * (1 - 0) := h424
        obtain rfl : v414 = some (.int (nI r415)) := hw413
        have hP : va_P G.1 pCl (mW G h0 a (upd (upd (upd (upd (upd (upd (upd (upd (upd (upd (upd (upd (upd F 15 (nI fa416)) 16 pl417) 44 (nI fd)) 49 (nI md)) 73 (nI sc)) 74 (nI k9)) 75 (nI rs)) 76 (nI il)) 77 dn) 78 wt) 79 wf) 80 ab) 81 ac) (updA (updA (updA (updA (updA B 14 nc) 17 ty) 18 mn) 48 vn) 49 vt)) _ := mW_to (F := F) (l1 := [(15, (nI fa)), (44, (nI fd)), (49, (nI md)), (73, (nI sc)), (74, (nI k9)), (75, (nI rs)), (76, (nI il)), (77, dn), (78, wt), (79, wf), (80, ab), (81, ac), (15, (nI fa416)), (16, pl417)]) (l2 := [(15, (nI fa416)), (16, pl417), (44, (nI fd)), (49, (nI md)), (73, (nI sc)), (74, (nI k9)), (75, (nI rs)), (76, (nI il)), (77, dn), (78, wt), (79, wf), (80, ab), (81, ac)]) (V := [(nI fa416), (nI fd), (nI md), (nI sc), (nI k9), (nI rs), (nI il), dn, wt, wf, ab, ac, (nI fa416), pl417, (nI fa416), pl417, (nI fd), (nI md), (nI sc), (nI k9), (nI rs), (nI il), dn, wt, wf, ab, ac]) rfl rfl rfl hP
        have hD : va_D A (mW G h0 a (upd (upd (upd (upd (upd (upd (upd (upd (upd (upd (upd (upd (upd F 15 (nI fa416)) 16 pl417) 44 (nI fd)) 49 (nI md)) 73 (nI sc)) 74 (nI k9)) 75 (nI rs)) 76 (nI il)) 77 dn) 78 wt) 79 wf) 80 ab) 81 ac) (updA (updA (updA (updA (updA B 14 nc) 17 ty) 18 mn) 48 vn) 49 vt)) := mW_D hD
        refine W.widen (k := 0) (n := 0) (Nat.le_of_ble_eq_true rfl) (Nat.le_of_ble_eq_true rfl) ?_
        refine W.eq (g2 := F0 m 258 ls [.int (nI r415)]) rfl ?_
        refine lv_pop hx hb dX12_lookStatement_258 rfl ?_
        refine lv_goto (tgt := 300) hx hb dX12_lookStatement_259 (by decide) ?_
        refine lv_aload_n hx hb dX12_lookStatement_300 rfl (lv_at hl 0 rfl) ?_
        refine lv_iconst (v := (-1)) hx hb dX12_lookStatement_301 (by decide) ?_
        refine r_put (v := (-1)) (ty := .int) hx hb hown hq hE hP hD hS 77 544 tFX12_77 (by decide) pw_1796 (by decide) rfl rfl (ms_77 a _ _) dX12_lookStatement_302 (fun H locs hP hD hS => ?_)
        refine lv_goto (tgt := 475) hx hb dX12_lookStatement_305 (by decide) ?_
        have hz425 : fa ≤ fa416 := (by omega)
        have hz426 : fa416 ≤ 15 := (by omega)
        have hz427 : sc ≤ sc := (by omega)
        have hz428 : sc ≤ 30 := (by omega)
        have hz429 : ChS B nd n9 ty ty mn mn nc nc := ChS.rfl
        have hz430 : mnN B nd mn := hmn
        have hz431 : ∀ i : Nat, i < nd → ¬ (B) 9 i = 44 → nc i = (B) 14 i := hnc
        have hz432 : ∀ i : Nat, i < sc → vt i = vt i := (fun i h => rfl)
        have hz433 : If (fa416 = 0) (TyS B dc fd md nd ty mn nc k9 rs n9 (sc, il, ev) ∧ sc = (aft B n9 (sc, il, ev)).1 ∧ ∀ i : Nat, i < sc → vt i = (aft B n9 (sc, il, ev)).2.2 i ∧ tyOK dc (vt i)) := (fun e => absurd e (by omega))
        have hP : va_P G.1 pCl (mW G h0 a (upd (upd (upd (upd (upd (upd (upd (upd (upd (upd (upd (upd (upd F 15 (nI fa416)) 16 pl417) 44 (nI fd)) 49 (nI md)) 73 (nI sc)) 74 (nI k9)) 75 (nI rs)) 76 (nI il)) 77 ((-1) : Int32)) 78 wt) 79 wf) 80 ab) 81 ac) (updA (updA (updA (updA (updA B 14 nc) 17 ty) 18 mn) 48 vn) 49 vt)) _ := mW_to (F := F) (l1 := [(15, (nI fa416)), (16, pl417), (44, (nI fd)), (49, (nI md)), (73, (nI sc)), (74, (nI k9)), (75, (nI rs)), (76, (nI il)), (77, dn), (78, wt), (79, wf), (80, ab), (81, ac), (77, (-1))]) (l2 := [(15, (nI fa416)), (16, pl417), (44, (nI fd)), (49, (nI md)), (73, (nI sc)), (74, (nI k9)), (75, (nI rs)), (76, (nI il)), (77, ((-1) : Int32)), (78, wt), (79, wf), (80, ab), (81, ac)]) (V := [(nI fa416), pl417, (nI fd), (nI md), (nI sc), (nI k9), (nI rs), (nI il), ((-1) : Int32), wt, wf, ab, ac, ((-1) : Int32), (nI fa416), pl417, (nI fd), (nI md), (nI sc), (nI k9), (nI rs), (nI il), ((-1) : Int32), wt, wf, ab, ac]) rfl rfl rfl hP
        have hD : va_D A (mW G h0 a (upd (upd (upd (upd (upd (upd (upd (upd (upd (upd (upd (upd (upd F 15 (nI fa416)) 16 pl417) 44 (nI fd)) 49 (nI md)) 73 (nI sc)) 74 (nI k9)) 75 (nI rs)) 76 (nI il)) 77 ((-1) : Int32)) 78 wt) 79 wf) 80 ab) 81 ac) (updA (updA (updA (updA (updA B 14 nc) 17 ty) 18 mn) 48 vn) 49 vt)) := mW_D hD
        exact W.vret hx hb hr (fun t9 ht9 hW9 => ⟨⟨_, (fa416, sc, pl417, ((-1) : Int32), wt, wf, ab, ac, nc, ty, mn, vn, vt), rfl, ⟨rfl, hz425, hz426, hz427, hz428, hz429, hz430, hz431, hz432, hz433⟩, by rw [ht9]; exact hP, hD⟩, hS.F ht9⟩) hS.2.2 dX12_lookStatement_475
      · have n434 : rs = 0 := (nI_eq (a := rs) (b := 0) (by omega) (by omega)).mp c405
        refine lv_iconst (v := 1) hx hb dX12_lookStatement_242 (by decide) ?_
        refine lv_goto (tgt := 247) hx hb dX12_lookStatement_243 (by decide) ?_
        refine lv_bipush (v := 11) hx hb dX12_lookStatement_247 (by decide) ?_
        refine lv_aload_n hx hb dX12_lookStatement_249 rfl (lv_at hl 0 rfl) ?_
        refine r_get (v := .ref (a 10)) hx hb hown hq hE hP 18 41 tFX12_18 (by decide) pw_1440 rfl dX12_lookStatement_250 ?_
        refine lv_iload_n hx hb dX12_lookStatement_253 rfl (lv_at hl 1 rfl) ?_
        refine r_ldi (f := (B 10)) (j := n9) hx hb hE hP 10 (ma_10 G a _) rfl (by omega) (by decide) dX12_lookStatement_254 ?_
        obtain ⟨⟨t435, e436, h437⟩, -⟩ := hF n9 hn9
        refine lv_topi (fun x438 e439 => ?_)
        obtain rfl : x438 = nI t435 := e439.trans e436
        have hP : va_P G.1 pCl (mW G h0 a (upd (upd (upd (upd (upd (upd (upd (upd (upd (upd (upd (upd (upd F 15 (nI fa)) 44 (nI fd)) 49 (nI md)) 73 (nI sc)) 74 (nI k9)) 75 (nI rs)) 76 (nI il)) 77 dn) 78 wt) 79 wf) 80 ab) 81 ac) 15 (nI fa)) (updA (updA (updA (updA (updA B 14 nc) 17 ty) 18 mn) 48 vn) 49 vt)) _ := hP
        have hD : va_D A (mW G h0 a (upd (upd (upd (upd (upd (upd (upd (upd (upd (upd (upd (upd (upd F 15 (nI fa)) 44 (nI fd)) 49 (nI md)) 73 (nI sc)) 74 (nI k9)) 75 (nI rs)) 76 (nI il)) 77 dn) 78 wt) 79 wf) 80 ab) 81 ac) 15 (nI fa)) (updA (updA (updA (updA (updA B 14 nc) 17 ty) 18 mn) 48 vn) 49 vt)) := mW_D hD
        refine pc_V0 (G := G) (As := [.int (nI 1), .int (nI 11), .int (nI t435)]) (rest := []) hx hb hml hown hq hE hX pX0_al hP hD hS hA hl.1 (R_judgeL l G h0 a (upd (upd (upd (upd (upd (upd (upd (upd (upd (upd (upd (upd F 15 (nI fa)) 44 (nI fd)) 49 (nI md)) 73 (nI sc)) 74 (nI k9)) 75 (nI rs)) 76 (nI il)) 77 dn) 78 wt) 79 wf) 80 ab) 81 ac) (updA (updA (updA (updA (updA B 14 nc) 17 ty) 18 mn) 48 vn) 49 vt) 1 11 t435 fa (by omega) (by omega) (by omega) (by omega)) (gV pw_1798 pw_1799 pw_1800 pw_1523 pw_1793) hV_X12_judge 0 9 rfl rfl rfl rfl (Nat.le_of_ble_eq_true rfl) dX12_lookStatement_255 ⟨Nat.le_of_ble_eq_true rfl, Nat.le_of_ble_eq_true rfl⟩ ⟨(by show 3 + 1 ≤ (4 * z9 + 14); omega), (by show 8 + (4 + 11) + 82 ≤ (160 * z9 + 1700); omega)⟩ (fun v442 u440 H locs hw441 hP hD hS => ?_)
        obtain ⟨r443, fa444, pl445⟩ := u440
        obtain ⟨hw441, h446, h447, h448, h449, h450, h451, h452⟩ := hw441
        replace h446 : r443 ≤ 1 := h446
        replace h447 : fa ≤ fa444 := h447
        replace h448 : fa444 ≤ 15 := h448
        replace h449 : fa444 + 15 * r443 ≤ 15 := h449
        replace h450 : 1 ≤ r443 + fa444 := h450
        replace h451 : 1 ≤ 1 + fa444 := h451
        replace h452 : fa444 ≤ fa + 15 * (1 - 1) := h452
        obtain rfl : v442 = some (.int (nI r443)) := hw441
        have hP : va_P G.1 pCl (mW G h0 a (upd (upd (upd (upd (upd (upd (upd (upd (upd (upd (upd (upd (upd F 15 (nI fa444)) 16 pl445) 44 (nI fd)) 49 (nI md)) 73 (nI sc)) 74 (nI k9)) 75 (nI rs)) 76 (nI il)) 77 dn) 78 wt) 79 wf) 80 ab) 81 ac) (updA (updA (updA (updA (updA B 14 nc) 17 ty) 18 mn) 48 vn) 49 vt)) _ := mW_to (F := F) (l1 := [(15, (nI fa)), (44, (nI fd)), (49, (nI md)), (73, (nI sc)), (74, (nI k9)), (75, (nI rs)), (76, (nI il)), (77, dn), (78, wt), (79, wf), (80, ab), (81, ac), (15, (nI fa444)), (16, pl445)]) (l2 := [(15, (nI fa444)), (16, pl445), (44, (nI fd)), (49, (nI md)), (73, (nI sc)), (74, (nI k9)), (75, (nI rs)), (76, (nI il)), (77, dn), (78, wt), (79, wf), (80, ab), (81, ac)]) (V := [(nI fa444), (nI fd), (nI md), (nI sc), (nI k9), (nI rs), (nI il), dn, wt, wf, ab, ac, (nI fa444), pl445, (nI fa444), pl445, (nI fd), (nI md), (nI sc), (nI k9), (nI rs), (nI il), dn, wt, wf, ab, ac]) rfl rfl rfl hP
        have hD : va_D A (mW G h0 a (upd (upd (upd (upd (upd (upd (upd (upd (upd (upd (upd (upd (upd F 15 (nI fa444)) 16 pl445) 44 (nI fd)) 49 (nI md)) 73 (nI sc)) 74 (nI k9)) 75 (nI rs)) 76 (nI il)) 77 dn) 78 wt) 79 wf) 80 ab) 81 ac) (updA (updA (updA (updA (updA B 14 nc) 17 ty) 18 mn) 48 vn) 49 vt)) := mW_D hD
        refine W.widen (k := 0) (n := 0) (Nat.le_of_ble_eq_true rfl) (Nat.le_of_ble_eq_true rfl) ?_
        refine W.eq (g2 := F0 m 258 ls [.int (nI r443)]) rfl ?_
        refine lv_pop hx hb dX12_lookStatement_258 rfl ?_
        refine lv_goto (tgt := 300) hx hb dX12_lookStatement_259 (by decide) ?_
        refine lv_aload_n hx hb dX12_lookStatement_300 rfl (lv_at hl 0 rfl) ?_
        refine lv_iconst (v := (-1)) hx hb dX12_lookStatement_301 (by decide) ?_
        refine r_put (v := (-1)) (ty := .int) hx hb hown hq hE hP hD hS 77 544 tFX12_77 (by decide) pw_1796 (by decide) rfl rfl (ms_77 a _ _) dX12_lookStatement_302 (fun H locs hP hD hS => ?_)
        refine lv_goto (tgt := 475) hx hb dX12_lookStatement_305 (by decide) ?_
        have hz453 : fa ≤ fa444 := (by omega)
        have hz454 : fa444 ≤ 15 := (by omega)
        have hz455 : sc ≤ sc := (by omega)
        have hz456 : sc ≤ 30 := (by omega)
        have hz457 : ChS B nd n9 ty ty mn mn nc nc := ChS.rfl
        have hz458 : mnN B nd mn := hmn
        have hz459 : ∀ i : Nat, i < nd → ¬ (B) 9 i = 44 → nc i = (B) 14 i := hnc
        have hz460 : ∀ i : Nat, i < sc → vt i = vt i := (fun i h => rfl)
        have hz461 : If (fa444 = 0) (TyS B dc fd md nd ty mn nc k9 rs n9 (sc, il, ev) ∧ sc = (aft B n9 (sc, il, ev)).1 ∧ ∀ i : Nat, i < sc → vt i = (aft B n9 (sc, il, ev)).2.2 i ∧ tyOK dc (vt i)) := (fun e => ⟨TyS.of (steps (kk := 37) ek (by decide) ((fun _ => slP.none (by decide) e401) (by omega)) (slP.no (by decide)) (slP.no (by decide)) (slP.no (by decide))) (LTX.st ek (by decide) (by decide) (show LSk B dc ty mn nc rs n9 (sc, il, ev) 37 from ⟨fun _ => by omega, fun c hc q => absurd (e401.symm.trans q).symm (nI_m1 (by omega))⟩)), (by rw [(aft_no (by rw [ek]; decide))]), (fun i h => by rw [(aft_no (by rw [ek]; decide))]; exact ⟨hve i h, hvt i h⟩)⟩)
        have hP : va_P G.1 pCl (mW G h0 a (upd (upd (upd (upd (upd (upd (upd (upd (upd (upd (upd (upd (upd F 15 (nI fa444)) 16 pl445) 44 (nI fd)) 49 (nI md)) 73 (nI sc)) 74 (nI k9)) 75 (nI rs)) 76 (nI il)) 77 ((-1) : Int32)) 78 wt) 79 wf) 80 ab) 81 ac) (updA (updA (updA (updA (updA B 14 nc) 17 ty) 18 mn) 48 vn) 49 vt)) _ := mW_to (F := F) (l1 := [(15, (nI fa444)), (16, pl445), (44, (nI fd)), (49, (nI md)), (73, (nI sc)), (74, (nI k9)), (75, (nI rs)), (76, (nI il)), (77, dn), (78, wt), (79, wf), (80, ab), (81, ac), (77, (-1))]) (l2 := [(15, (nI fa444)), (16, pl445), (44, (nI fd)), (49, (nI md)), (73, (nI sc)), (74, (nI k9)), (75, (nI rs)), (76, (nI il)), (77, ((-1) : Int32)), (78, wt), (79, wf), (80, ab), (81, ac)]) (V := [(nI fa444), pl445, (nI fd), (nI md), (nI sc), (nI k9), (nI rs), (nI il), ((-1) : Int32), wt, wf, ab, ac, ((-1) : Int32), (nI fa444), pl445, (nI fd), (nI md), (nI sc), (nI k9), (nI rs), (nI il), ((-1) : Int32), wt, wf, ab, ac]) rfl rfl rfl hP
        have hD : va_D A (mW G h0 a (upd (upd (upd (upd (upd (upd (upd (upd (upd (upd (upd (upd (upd F 15 (nI fa444)) 16 pl445) 44 (nI fd)) 49 (nI md)) 73 (nI sc)) 74 (nI k9)) 75 (nI rs)) 76 (nI il)) 77 ((-1) : Int32)) 78 wt) 79 wf) 80 ab) 81 ac) (updA (updA (updA (updA (updA B 14 nc) 17 ty) 18 mn) 48 vn) 49 vt)) := mW_D hD
        exact W.vret hx hb hr (fun t9 ht9 hW9 => ⟨⟨_, (fa444, sc, pl445, ((-1) : Int32), wt, wf, ab, ac, nc, ty, mn, vn, vt), rfl, ⟨rfl, hz453, hz454, hz455, hz456, hz457, hz458, hz459, hz460, hz461⟩, by rw [ht9]; exact hP, hD⟩, hS.F ht9⟩) hS.2.2 dX12_lookStatement_475
    · refine lv_topi (fun x462 e463 => ?_)
      obtain rfl : x462 = nI c393 := e463.trans e394
      refine lv_iconst (v := (-1)) hx hb dX12_lookStatement_230 (by decide) ?_
      refine lv_icmp_ne (tgt := 262) hx hb dX12_lookStatement_231 (by decide) (fun c464 => ?_) (fun c464 => absurd c464 (nI_m1 (by omega)))
      refine lv_aload_n hx hb dX12_lookStatement_262 rfl (lv_at hl 0 rfl) ?_
      refine lv_aload_n hx hb dX12_lookStatement_263 rfl (lv_at hl 0 rfl) ?_
      refine r_get (v := .ref (a 12)) hx hb hown hq hE hP 20 47 tFX12_20 (by decide) pw_1442 rfl dX12_lookStatement_264 ?_
      refine lv_iload_n hx hb dX12_lookStatement_267 rfl (lv_at hl 1 rfl) ?_
      refine r_ldi (f := (B 12)) (j := n9) hx hb hE hP 12 (ma_12 G a _) rfl (by omega) (by decide) dX12_lookStatement_268 ?_
      refine lv_topi (fun x465 e466 => ?_)
      obtain rfl : x465 = nI c393 := e466.trans e394
      have hP : va_P G.1 pCl (mW G h0 a (upd (upd (upd (upd (upd (upd (upd (upd (upd (upd (upd (upd (upd (upd (upd (upd (upd (upd (upd (upd F 15 (nI fa)) 44 (nI fd)) 49 (nI md)) 73 (nI sc)) 74 (nI k9)) 75 (nI rs)) 76 (nI il)) 77 dn) 78 wt) 79 wf) 80 ab) 81 ac) 15 (nI fa)) 44 (nI fd)) 49 (nI md)) 73 (nI sc)) 74 (nI k9)) 77 dn) 78 wt) 79 wf) (updA (updA (updA (updA (updA B 14 nc) 17 ty) 18 mn) 48 vn) 49 vt)) _ := hP
      have hD : va_D A (mW G h0 a (upd (upd (upd (upd (upd (upd (upd (upd (upd (upd (upd (upd (upd (upd (upd (upd (upd (upd (upd (upd F 15 (nI fa)) 44 (nI fd)) 49 (nI md)) 73 (nI sc)) 74 (nI k9)) 75 (nI rs)) 76 (nI il)) 77 dn) 78 wt) 79 wf) 80 ab) 81 ac) 15 (nI fa)) 44 (nI fd)) 49 (nI md)) 73 (nI sc)) 74 (nI k9)) 77 dn) 78 wt) 79 wf) (updA (updA (updA (updA (updA B 14 nc) 17 ty) 18 mn) 48 vn) 49 vt)) := mW_D hD
      refine pc_V0 (G := G) (As := [.int (nI c393)]) (rest := []) hx hb hml hown hq hE hX pX0_al hP hD hS hA hl.1 ((LK_all l G (z9 - 1)).2.1 h0 a (upd (upd (upd (upd (upd (upd (upd (upd (upd (upd (upd (upd F 15 (nI fa)) 44 (nI fd)) 49 (nI md)) 73 (nI sc)) 74 (nI k9)) 75 (nI rs)) 76 (nI il)) 77 dn) 78 wt) 79 wf) 80 ab) 81 ac) B c393 fa sc k9 nd T nm wr lz dc fd md pr bk gh dn wt wf nc ty mn vn vt hst hnm h395 (by omega) (by omega) (by omega) hk9 hnc hmn hvt (show kcl 1 _ = true from hc398)) (gV pw_1822 pw_1823 pw_1824 pw_1523 pw_1830) hV_X12_look 0 9 rfl rfl rfl rfl (Nat.le_of_ble_eq_true rfl) dX12_lookStatement_269 ⟨Nat.le_of_ble_eq_true rfl, Nat.le_of_ble_eq_true rfl⟩ ⟨(by show (4 * (z9 - 1) + 11) + 1 ≤ (4 * z9 + 14); omega), (by show 8 + (3 + 11) + (160 * (z9 - 1) + 1440) ≤ (160 * z9 + 1700); omega)⟩ (fun v469 u467 H locs hw468 hP hD hS => ?_)
      obtain ⟨r470, fa471, pl472, dn473, wt474, wf475, ty476, mn477⟩ := u467
      obtain ⟨hw468, h478, h479, h480, h481, h482, h483, h484, h485⟩ := hw468
      replace h478 : fa ≤ fa471 := h478
      replace h479 : fa471 ≤ 15 := h479
      replace h480 : TyC dc r470 := h480
      replace h481 : r470 ≤ 2050 := h481
      replace h482 : ChE B nd c393 ty ty476 mn mn477 := h482
      replace h483 : mnN B nd mn477 := h483
      replace h484 : If (fa471 = 0) (Typ B dc fd md nd ty476 mn477 vt sc k9 c393) := h484
      replace h485 : ty476 c393 = nI r470 := h485
      obtain rfl : v469 = some (.int (nI r470)) := hw468
      have hP : va_P G.1 pCl (mW G h0 a (upd (upd (upd (upd (upd (upd (upd (upd (upd (upd (upd (upd (upd F 15 (nI fa471)) 16 pl472) 44 (nI fd)) 49 (nI md)) 73 (nI sc)) 74 (nI k9)) 75 (nI rs)) 76 (nI il)) 77 dn473) 78 wt474) 79 wf475) 80 ab) 81 ac) (updA (updA (updA (updA (updA B 14 nc) 17 ty476) 18 mn477) 48 vn) 49 vt)) _ := mW_to (F := F) (l1 := [(15, (nI fa)), (44, (nI fd)), (49, (nI md)), (73, (nI sc)), (74, (nI k9)), (75, (nI rs)), (76, (nI il)), (77, dn), (78, wt), (79, wf), (80, ab), (81, ac), (15, (nI fa471)), (16, pl472), (44, (nI fd)), (49, (nI md)), (73, (nI sc)), (74, (nI k9)), (77, dn473), (78, wt474), (79, wf475)]) (l2 := [(15, (nI fa471)), (16, pl472), (44, (nI fd)), (49, (nI md)), (73, (nI sc)), (74, (nI k9)), (75, (nI rs)), (76, (nI il)), (77, dn473), (78, wt474), (79, wf475), (80, ab), (81, ac)]) (V := [(nI fa471), (nI fd), (nI md), (nI sc), (nI k9), (nI rs), (nI il), dn473, wt474, wf475, ab, ac, (nI fa471), pl472, (nI fd), (nI md), (nI sc), (nI k9), dn473, wt474, wf475, (nI fa471), pl472, (nI fd), (nI md), (nI sc), (nI k9), (nI rs), (nI il), dn473, wt474, wf475, ab, ac]) rfl rfl rfl hP
      have hD : va_D A (mW G h0 a (upd (upd (upd (upd (upd (upd (upd (upd (upd (upd (upd (upd (upd F 15 (nI fa471)) 16 pl472) 44 (nI fd)) 49 (nI md)) 73 (nI sc)) 74 (nI k9)) 75 (nI rs)) 76 (nI il)) 77 dn473) 78 wt474) 79 wf475) 80 ab) 81 ac) (updA (updA (updA (updA (updA B 14 nc) 17 ty476) 18 mn477) 48 vn) 49 vt)) := mW_D hD
      refine W.widen (k := 0) (n := 0) (Nat.le_of_ble_eq_true rfl) (Nat.le_of_ble_eq_true rfl) ?_
      refine W.eq (g2 := F0 m 272 ls [.int (nI r470)]) rfl ?_
      have hch486 : ChS B nd n9 ty ty476 mn mn477 nc nc := (ChS.trans ChS.rfl (ChS.kid (ChS.ofE (nc := nc) h482) (by omega) hp396))
      have hsl487 : If (fa471 = 0) (slP B n9 (sc, il, ev) (fun c e9 => TyS B dc fd md nd ty476 mn477 nc k9 rs c e9) 37 1) := (fun e => slP.one (by decide) (by omega) e394 (TyS.ofTyp (nc := nc) (rs := rs) (e := (sc, il, ev)) hF (by omega) h395 (show kcl 1 _ = true from hc398) (h484 e) hve))
      refine lv_istore_n (lv' := [(2, .int (nI r470)), (0, .ref h0), (1, .int (nI n9))]) hx hb dX12_lookStatement_272 rfl hl (by decide) rfl (fun ls hl => ?_)
      refine lv_aload_n hx hb dX12_lookStatement_273 rfl (lv_at hl 1 rfl) ?_
      refine lv_aload_n hx hb dX12_lookStatement_274 rfl (lv_at hl 1 rfl) ?_
      refine lv_iload_n hx hb dX12_lookStatement_275 rfl (lv_at hl 0 rfl) ?_
      refine lv_aload_n hx hb dX12_lookStatement_276 rfl (lv_at hl 1 rfl) ?_
      refine r_get (v := .int (nI rs)) hx hb hown hq hE hP 75 627 tFX12_75 (by decide) pw_1885 rfl dX12_lookStatement_277 ?_
      have hP : va_P G.1 pCl (mW G h0 a (upd (upd (upd (upd (upd (upd (upd (upd (upd (upd (upd (upd (upd F 15 (nI fa471)) 16 pl472) 44 (nI fd)) 49 (nI md)) 73 (nI sc)) 74 (nI k9)) 75 (nI rs)) 76 (nI il)) 77 dn473) 78 wt474) 79 wf475) 80 ab) 81 ac) (updA (updA (updA (updA (updA (updA B 14 nc) 17 ty476) 18 mn477) 48 vn) 49 vt) 31 (B 31))) _ := hP
      have hD : va_D A (mW G h0 a (upd (upd (upd (upd (upd (upd (upd (upd (upd (upd (upd (upd (upd F 15 (nI fa471)) 16 pl472) 44 (nI fd)) 49 (nI md)) 73 (nI sc)) 74 (nI k9)) 75 (nI rs)) 76 (nI il)) 77 dn473) 78 wt474) 79 wf475) 80 ab) 81 ac) (updA (updA (updA (updA (updA (updA B 14 nc) 17 ty476) 18 mn477) 48 vn) 49 vt) 31 (B 31))) := mW_D hD
      refine pc_V0 (G := G) (As := [.int (nI r470), .int (nI rs)]) (rest := [.ref h0]) hx hb hml hown hq hE hX pX0_al hP hD hS hA hl.1 (R_fits l G h0 a (upd (upd (upd (upd (upd (upd (upd (upd (upd (upd (upd (upd (upd F 15 (nI fa471)) 16 pl472) 44 (nI fd)) 49 (nI md)) 73 (nI sc)) 74 (nI k9)) 75 (nI rs)) 76 (nI il)) 77 dn473) 78 wt474) 79 wf475) 80 ab) 81 ac) (updA (updA (updA (updA (updA B 14 nc) 17 ty476) 18 mn477) 48 vn) 49 vt) r470 rs dc (B 31) h480 hrs (by omega) hBI) (gV pw_1790 pw_1791 pw_1792 pw_1523 pw_1782) hV_X12_fits 0 9 rfl rfl rfl rfl (Nat.le_of_ble_eq_true rfl) dX12_lookStatement_280 ⟨Nat.le_of_ble_eq_true rfl, Nat.le_of_ble_eq_true rfl⟩ ⟨(by show 4 + 1 ≤ (4 * z9 + 14); omega), (by show 8 + (3 + 11) + 104 ≤ (160 * z9 + 1700); omega)⟩ (fun v490 u488 H locs hw489 hP hD hS => ?_)
      obtain rfl : v490 = some (.int (fitF (B 31) r470 rs)) := hw489
      have hP : va_P G.1 pCl (mW G h0 a (upd (upd (upd (upd (upd (upd (upd (upd (upd (upd (upd (upd (upd F 15 (nI fa471)) 16 pl472) 44 (nI fd)) 49 (nI md)) 73 (nI sc)) 74 (nI k9)) 75 (nI rs)) 76 (nI il)) 77 dn473) 78 wt474) 79 wf475) 80 ab) 81 ac) (updA (updA (updA (updA (updA B 14 nc) 17 ty476) 18 mn477) 48 vn) 49 vt)) _ := mW_to (F := F) (l1 := [(15, (nI fa471)), (16, pl472), (44, (nI fd)), (49, (nI md)), (73, (nI sc)), (74, (nI k9)), (75, (nI rs)), (76, (nI il)), (77, dn473), (78, wt474), (79, wf475), (80, ab), (81, ac)]) (l2 := [(15, (nI fa471)), (16, pl472), (44, (nI fd)), (49, (nI md)), (73, (nI sc)), (74, (nI k9)), (75, (nI rs)), (76, (nI il)), (77, dn473), (78, wt474), (79, wf475), (80, ab), (81, ac)]) (V := [(nI fa471), pl472, (nI fd), (nI md), (nI sc), (nI k9), (nI rs), (nI il), dn473, wt474, wf475, ab, ac, (nI fa471), pl472, (nI fd), (nI md), (nI sc), (nI k9), (nI rs), (nI il), dn473, wt474, wf475, ab, ac]) rfl rfl (show (updA (updA (updA (updA (updA (updA B 14 nc) 17 ty476) 18 mn477) 48 vn) 49 vt) 31 (B 31)) = (updA (updA (updA (updA (updA B 14 nc) 17 ty476) 18 mn477) 48 vn) 49 vt) from updsA_eq2 (F := B) (l1 := [(14, nc), (17, ty476), (18, mn477), (48, vn), (49, vt), (31, (B 31))]) (l2 := [(14, nc), (17, ty476), (18, mn477), (48, vn), (49, vt)]) (V := [nc, ty476, mn477, vn, vt, (B 31), nc, ty476, mn477, vn, vt]) rfl rfl) hP
      have hD : va_D A (mW G h0 a (upd (upd (upd (upd (upd (upd (upd (upd (upd (upd (upd (upd (upd F 15 (nI fa471)) 16 pl472) 44 (nI fd)) 49 (nI md)) 73 (nI sc)) 74 (nI k9)) 75 (nI rs)) 76 (nI il)) 77 dn473) 78 wt474) 79 wf475) 80 ab) 81 ac) (updA (updA (updA (updA (updA B 14 nc) 17 ty476) 18 mn477) 48 vn) 49 vt)) := mW_D hD
      refine W.widen (k := 0) (n := 0) (Nat.le_of_ble_eq_true rfl) (Nat.le_of_ble_eq_true rfl) ?_
      refine W.eq (g2 := F0 m 283 ls [.int (fitF (B 31) r470 rs), .ref h0]) rfl ?_
      obtain ⟨b491, e492, h493⟩ : ∃ b : Nat, fitF (B 31) r470 rs = nI b ∧ b ≤ 1 := by rcases fit_bit (da := B 31) hBI (show r470 ≤ 2050 by omega) (show rs ≤ 2050 by omega) (TyC.rg h480 (by omega)) (TyC.rg hrs (by omega)) with z | z; exact ⟨0, z, by omega⟩; exact ⟨1, z, by omega⟩
      refine lv_topi (fun x494 e495 => ?_)
      obtain rfl : x494 = nI b491 := e495.trans e492
      refine lv_bipush (v := 11) hx hb dX12_lookStatement_283 (by decide) ?_
      refine lv_aload_n hx hb dX12_lookStatement_285 rfl (lv_at hl 1 rfl) ?_
      refine r_get (v := .ref (a 10)) hx hb hown hq hE hP 18 41 tFX12_18 (by decide) pw_1440 rfl dX12_lookStatement_286 ?_
      refine lv_aload_n hx hb dX12_lookStatement_289 rfl (lv_at hl 1 rfl) ?_
      refine r_get (v := .ref (a 12)) hx hb hown hq hE hP 20 47 tFX12_20 (by decide) pw_1442 rfl dX12_lookStatement_290 ?_
      refine lv_iload_n hx hb dX12_lookStatement_293 rfl (lv_at hl 2 rfl) ?_
      refine r_ldi (f := (B 12)) (j := n9) hx hb hE hP 12 (ma_12 G a _) rfl (by omega) (by decide) dX12_lookStatement_294 ?_
      refine lv_topi (fun x496 e497 => ?_)
      obtain rfl : x496 = nI c393 := e497.trans e394
      refine r_ldi (f := (B 10)) (j := c393) hx hb hE hP 10 (ma_10 G a _) rfl (by omega) (by decide) dX12_lookStatement_295 ?_
      obtain ⟨⟨t498, e499, h500⟩, -⟩ := hF c393 h395
      refine lv_topi (fun x501 e502 => ?_)
      obtain rfl : x501 = nI t498 := e502.trans e499
      have hP : va_P G.1 pCl (mW G h0 a (upd (upd (upd (upd (upd (upd (upd (upd (upd (upd (upd (upd (upd (upd F 15 (nI fa471)) 16 pl472) 44 (nI fd)) 49 (nI md)) 73 (nI sc)) 74 (nI k9)) 75 (nI rs)) 76 (nI il)) 77 dn473) 78 wt474) 79 wf475) 80 ab) 81 ac) 15 (nI fa471)) (updA (updA (updA (updA (updA B 14 nc) 17 ty476) 18 mn477) 48 vn) 49 vt)) _ := mW_to (F := F) (l1 := [(15, (nI fa471)), (16, pl472), (44, (nI fd)), (49, (nI md)), (73, (nI sc)), (74, (nI k9)), (75, (nI rs)), (76, (nI il)), (77, dn473), (78, wt474), (79, wf475), (80, ab), (81, ac)]) (l2 := [(15, (nI fa471)), (16, pl472), (44, (nI fd)), (49, (nI md)), (73, (nI sc)), (74, (nI k9)), (75, (nI rs)), (76, (nI il)), (77, dn473), (78, wt474), (79, wf475), (80, ab), (81, ac), (15, (nI fa471))]) (V := [(nI fa471), pl472, (nI fd), (nI md), (nI sc), (nI k9), (nI rs), (nI il), dn473, wt474, wf475, ab, ac, (nI fa471), pl472, (nI fd), (nI md), (nI sc), (nI k9), (nI rs), (nI il), dn473, wt474, wf475, ab, ac, (nI fa471)]) rfl rfl rfl hP
      have hD : va_D A (mW G h0 a (upd (upd (upd (upd (upd (upd (upd (upd (upd (upd (upd (upd (upd (upd F 15 (nI fa471)) 16 pl472) 44 (nI fd)) 49 (nI md)) 73 (nI sc)) 74 (nI k9)) 75 (nI rs)) 76 (nI il)) 77 dn473) 78 wt474) 79 wf475) 80 ab) 81 ac) 15 (nI fa471)) (updA (updA (updA (updA (updA B 14 nc) 17 ty476) 18 mn477) 48 vn) 49 vt)) := mW_D hD
      refine pc_V0 (G := G) (As := [.int (nI b491), .int (nI 11), .int (nI t498)]) (rest := []) hx hb hml hown hq hE hX pX0_al hP hD hS hA hl.1 (R_judgeL l G h0 a (upd (upd (upd (upd (upd (upd (upd (upd (upd (upd (upd (upd (upd F 15 (nI fa471)) 16 pl472) 44 (nI fd)) 49 (nI md)) 73 (nI sc)) 74 (nI k9)) 75 (nI rs)) 76 (nI il)) 77 dn473) 78 wt474) 79 wf475) 80 ab) 81 ac) (updA (updA (updA (updA (updA B 14 nc) 17 ty476) 18 mn477) 48 vn) 49 vt) b491 11 t498 fa471 (by omega) (by omega) (by omega) (by omega)) (gV pw_1798 pw_1799 pw_1800 pw_1523 pw_1793) hV_X12_judge 0 9 rfl rfl rfl rfl (Nat.le_of_ble_eq_true rfl) dX12_lookStatement_296 ⟨Nat.le_of_ble_eq_true rfl, Nat.le_of_ble_eq_true rfl⟩ ⟨(by show 3 + 1 ≤ (4 * z9 + 14); omega), (by show 8 + (4 + 11) + 82 ≤ (160 * z9 + 1700); omega)⟩ (fun v505 u503 H locs hw504 hP hD hS => ?_)
      obtain ⟨r506, fa507, pl508⟩ := u503
      obtain ⟨hw504, h509, h510, h511, h512, h513, h514, h515⟩ := hw504
      replace h509 : r506 ≤ 1 := h509
      replace h510 : fa471 ≤ fa507 := h510
      replace h511 : fa507 ≤ 15 := h511
      replace h512 : fa507 + 15 * r506 ≤ 15 := h512
      replace h513 : 1 ≤ r506 + fa507 := h513
      replace h514 : 1 ≤ b491 + fa507 := h514
      replace h515 : fa507 ≤ fa471 + 15 * (1 - b491) := h515
      obtain rfl : v505 = some (.int (nI r506)) := hw504
      have hP : va_P G.1 pCl (mW G h0 a (upd (upd (upd (upd (upd (upd (upd (upd (upd (upd (upd (upd (upd F 15 (nI fa507)) 16 pl508) 44 (nI fd)) 49 (nI md)) 73 (nI sc)) 74 (nI k9)) 75 (nI rs)) 76 (nI il)) 77 dn473) 78 wt474) 79 wf475) 80 ab) 81 ac) (updA (updA (updA (updA (updA B 14 nc) 17 ty476) 18 mn477) 48 vn) 49 vt)) _ := mW_to (F := F) (l1 := [(15, (nI fa471)), (16, pl472), (44, (nI fd)), (49, (nI md)), (73, (nI sc)), (74, (nI k9)), (75, (nI rs)), (76, (nI il)), (77, dn473), (78, wt474), (79, wf475), (80, ab), (81, ac), (15, (nI fa507)), (16, pl508)]) (l2 := [(15, (nI fa507)), (16, pl508), (44, (nI fd)), (49, (nI md)), (73, (nI sc)), (74, (nI k9)), (75, (nI rs)), (76, (nI il)), (77, dn473), (78, wt474), (79, wf475), (80, ab), (81, ac)]) (V := [(nI fa507), pl508, (nI fd), (nI md), (nI sc), (nI k9), (nI rs), (nI il), dn473, wt474, wf475, ab, ac, (nI fa507), pl508, (nI fa507), pl508, (nI fd), (nI md), (nI sc), (nI k9), (nI rs), (nI il), dn473, wt474, wf475, ab, ac]) rfl rfl rfl hP
      have hD : va_D A (mW G h0 a (upd (upd (upd (upd (upd (upd (upd (upd (upd (upd (upd (upd (upd F 15 (nI fa507)) 16 pl508) 44 (nI fd)) 49 (nI md)) 73 (nI sc)) 74 (nI k9)) 75 (nI rs)) 76 (nI il)) 77 dn473) 78 wt474) 79 wf475) 80 ab) 81 ac) (updA (updA (updA (updA (updA B 14 nc) 17 ty476) 18 mn477) 48 vn) 49 vt)) := mW_D hD
      refine W.widen (k := 0) (n := 0) (Nat.le_of_ble_eq_true rfl) (Nat.le_of_ble_eq_true rfl) ?_
      refine W.eq (g2 := F0 m 299 ls [.int (nI r506)]) rfl ?_
      refine lv_pop hx hb dX12_lookStatement_299 rfl ?_
      refine lv_aload_n hx hb dX12_lookStatement_300 rfl (lv_at hl 1 rfl) ?_
      refine lv_iconst (v := (-1)) hx hb dX12_lookStatement_301 (by decide) ?_
      refine r_put (v := (-1)) (ty := .int) hx hb hown hq hE hP hD hS 77 544 tFX12_77 (by decide) pw_1796 (by decide) rfl rfl (ms_77 a _ _) dX12_lookStatement_302 (fun H locs hP hD hS => ?_)
      refine lv_goto (tgt := 475) hx hb dX12_lookStatement_305 (by decide) ?_
      have hz516 : fa ≤ fa507 := (by omega)
      have hz517 : fa507 ≤ 15 := (by omega)
      have hz518 : sc ≤ sc := (by omega)
      have hz519 : sc ≤ 30 := (by omega)
      have hz520 : ChS B nd n9 ty ty476 mn mn477 nc nc := hch486
      have hz521 : mnN B nd mn477 := h483
      have hz522 : ∀ i : Nat, i < nd → ¬ (B) 9 i = 44 → nc i = (B) 14 i := hnc
      have hz523 : ∀ i : Nat, i < sc → vt i = vt i := (fun i h => rfl)
      have hz524 : If (fa507 = 0) (TyS B dc fd md nd ty476 mn477 nc k9 rs n9 (sc, il, ev) ∧ sc = (aft B n9 (sc, il, ev)).1 ∧ ∀ i : Nat, i < sc → vt i = (aft B n9 (sc, il, ev)).2.2 i ∧ tyOK dc (vt i)) := (fun e => ⟨TyS.of (steps (kk := 37) ek (by decide) (hsl487 (by omega)) (slP.no (by decide)) (slP.no (by decide)) (slP.no (by decide))) (LTX.st ek (by decide) (by decide) (show LSk B dc ty476 mn477 nc rs n9 (sc, il, ev) 37 from ⟨fun h => absurd (e394.symm.trans h) (nI_m1 (by omega)), fun c hc q => by have z : c = c393 := (nI_eq (by omega) (by omega)).mp (q.symm.trans e394); rw [z, h485]; exact (Fit.of (e492.trans (by rw [show b491 = 1 by omega]; rfl)) (by omega) (by omega))⟩)), (by rw [(aft_no (by rw [ek]; decide))]), (fun i h => by rw [(aft_no (by rw [ek]; decide))]; exact ⟨hve i h, hvt i h⟩)⟩)
      have hP : va_P G.1 pCl (mW G h0 a (upd (upd (upd (upd (upd (upd (upd (upd (upd (upd (upd (upd (upd F 15 (nI fa507)) 16 pl508) 44 (nI fd)) 49 (nI md)) 73 (nI sc)) 74 (nI k9)) 75 (nI rs)) 76 (nI il)) 77 ((-1) : Int32)) 78 wt474) 79 wf475) 80 ab) 81 ac) (updA (updA (updA (updA (updA B 14 nc) 17 ty476) 18 mn477) 48 vn) 49 vt)) _ := mW_to (F := F) (l1 := [(15, (nI fa507)), (16, pl508), (44, (nI fd)), (49, (nI md)), (73, (nI sc)), (74, (nI k9)), (75, (nI rs)), (76, (nI il)), (77, dn473), (78, wt474), (79, wf475), (80, ab), (81, ac), (77, (-1))]) (l2 := [(15, (nI fa507)), (16, pl508), (44, (nI fd)), (49, (nI md)), (73, (nI sc)), (74, (nI k9)), (75, (nI rs)), (76, (nI il)), (77, ((-1) : Int32)), (78, wt474), (79, wf475), (80, ab), (81, ac)]) (V := [(nI fa507), pl508, (nI fd), (nI md), (nI sc), (nI k9), (nI rs), (nI il), ((-1) : Int32), wt474, wf475, ab, ac, ((-1) : Int32), (nI fa507), pl508, (nI fd), (nI md), (nI sc), (nI k9), (nI rs), (nI il), ((-1) : Int32), wt474, wf475, ab, ac]) rfl rfl rfl hP
      have hD : va_D A (mW G h0 a (upd (upd (upd (upd (upd (upd (upd (upd (upd (upd (upd (upd (upd F 15 (nI fa507)) 16 pl508) 44 (nI fd)) 49 (nI md)) 73 (nI sc)) 74 (nI k9)) 75 (nI rs)) 76 (nI il)) 77 ((-1) : Int32)) 78 wt474) 79 wf475) 80 ab) 81 ac) (updA (updA (updA (updA (updA B 14 nc) 17 ty476) 18 mn477) 48 vn) 49 vt)) := mW_D hD
      exact W.vret hx hb hr (fun t9 ht9 hW9 => ⟨⟨_, (fa507, sc, pl508, ((-1) : Int32), wt474, wf475, ab, ac, nc, ty476, mn477, vn, vt), rfl, ⟨rfl, hz516, hz517, hz518, hz519, hz520, hz521, hz522, hz523, hz524⟩, by rw [ht9]; exact hP, hD⟩, hS.F ht9⟩) hS.2.2 dX12_lookStatement_475
  · refine lv_topi (fun x525 e526 => ?_)
    obtain rfl : x525 = 38 := e526.trans ek
    refine lv_tableIn (tgt := 308) (off := 302) hx hb dX12_lookStatement_6 (by decide) (by decide) (by decide) (by decide) ?_
    refine lv_aload_n hx hb dX12_lookStatement_308 rfl (lv_at hl 0 rfl) ?_
    refine lv_aload_n hx hb dX12_lookStatement_309 rfl (lv_at hl 0 rfl) ?_
    refine r_get (v := .int (nI il)) hx hb hown hq hE hP 76 630 tFX12_76 (by decide) pw_1880 rfl dX12_lookStatement_310 ?_
    refine lv_if_le (tgt := 320) hx hb dX12_lookStatement_313 (by decide) (fun c527 => ?_) (fun c527 => ?_)
    · have n528 : il ≤ 0 := (nI_leI (a := il) (b := 0) (by omega) (by omega)).mp c527
      refine lv_iconst (v := 0) hx hb dX12_lookStatement_320 (by decide) ?_
      refine lv_bipush (v := 14) hx hb dX12_lookStatement_321 (by decide) ?_
      refine lv_aload_n hx hb dX12_lookStatement_323 rfl (lv_at hl 0 rfl) ?_
      refine r_get (v := .ref (a 10)) hx hb hown hq hE hP 18 41 tFX12_18 (by decide) pw_1440 rfl dX12_lookStatement_324 ?_
      refine lv_iload_n hx hb dX12_lookStatement_327 rfl (lv_at hl 1 rfl) ?_
      refine r_ldi (f := (B 10)) (j := n9) hx hb hE hP 10 (ma_10 G a _) rfl (by omega) (by decide) dX12_lookStatement_328 ?_
      obtain ⟨⟨t529, e530, h531⟩, -⟩ := hF n9 hn9
      refine lv_topi (fun x532 e533 => ?_)
      obtain rfl : x532 = nI t529 := e533.trans e530
      have hP : va_P G.1 pCl (mW G h0 a (upd (upd (upd (upd (upd (upd (upd (upd (upd (upd (upd (upd (upd F 15 (nI fa)) 44 (nI fd)) 49 (nI md)) 73 (nI sc)) 74 (nI k9)) 75 (nI rs)) 76 (nI il)) 77 dn) 78 wt) 79 wf) 80 ab) 81 ac) 15 (nI fa)) (updA (updA (updA (updA (updA B 14 nc) 17 ty) 18 mn) 48 vn) 49 vt)) _ := hP
      have hD : va_D A (mW G h0 a (upd (upd (upd (upd (upd (upd (upd (upd (upd (upd (upd (upd (upd F 15 (nI fa)) 44 (nI fd)) 49 (nI md)) 73 (nI sc)) 74 (nI k9)) 75 (nI rs)) 76 (nI il)) 77 dn) 78 wt) 79 wf) 80 ab) 81 ac) 15 (nI fa)) (updA (updA (updA (updA (updA B 14 nc) 17 ty) 18 mn) 48 vn) 49 vt)) := mW_D hD
      refine pc_V0 (G := G) (As := [.int (nI 0), .int (nI 14), .int (nI t529)]) (rest := []) hx hb hml hown hq hE hX pX0_al hP hD hS hA hl.1 (R_judgeL l G h0 a (upd (upd (upd (upd (upd (upd (upd (upd (upd (upd (upd (upd F 15 (nI fa)) 44 (nI fd)) 49 (nI md)) 73 (nI sc)) 74 (nI k9)) 75 (nI rs)) 76 (nI il)) 77 dn) 78 wt) 79 wf) 80 ab) 81 ac) (updA (updA (updA (updA (updA B 14 nc) 17 ty) 18 mn) 48 vn) 49 vt) 0 14 t529 fa (by omega) (by omega) (by omega) (by omega)) (gV pw_1798 pw_1799 pw_1800 pw_1523 pw_1793) hV_X12_judge 0 9 rfl rfl rfl rfl (Nat.le_of_ble_eq_true rfl) dX12_lookStatement_329 ⟨Nat.le_of_ble_eq_true rfl, Nat.le_of_ble_eq_true rfl⟩ ⟨(by show 3 + 1 ≤ (4 * z9 + 14); omega), (by show 8 + (4 + 11) + 82 ≤ (160 * z9 + 1700); omega)⟩ (fun v536 u534 H locs hw535 hP hD hS => ?_)
      obtain ⟨r537, fa538, pl539⟩ := u534
      obtain ⟨hw535, h540, h541, h542, h543, h544, h545, h546⟩ := hw535
      replace h540 : r537 ≤ 1 := h540
      replace h541 : fa ≤ fa538 := h541
      replace h542 : fa538 ≤ 15 := h542
      replace h543 : fa538 + 15 * r537 ≤ 15 := h543
      replace h544 : 1 ≤ r537 + fa538 := h544
      replace h545 : 1 ≤ 0 + fa538 := h545
      replace h546 : fa538 ≤ fa + 15 * (1 - 0) := h546
      obtain rfl : v536 = some (.int (nI r537)) := hw535
      have hP : va_P G.1 pCl (mW G h0 a (upd (upd (upd (upd (upd (upd (upd (upd (upd (upd (upd (upd (upd F 15 (nI fa538)) 16 pl539) 44 (nI fd)) 49 (nI md)) 73 (nI sc)) 74 (nI k9)) 75 (nI rs)) 76 (nI il)) 77 dn) 78 wt) 79 wf) 80 ab) 81 ac) (updA (updA (updA (updA (updA B 14 nc) 17 ty) 18 mn) 48 vn) 49 vt)) _ := mW_to (F := F) (l1 := [(15, (nI fa)), (44, (nI fd)), (49, (nI md)), (73, (nI sc)), (74, (nI k9)), (75, (nI rs)), (76, (nI il)), (77, dn), (78, wt), (79, wf), (80, ab), (81, ac), (15, (nI fa538)), (16, pl539)]) (l2 := [(15, (nI fa538)), (16, pl539), (44, (nI fd)), (49, (nI md)), (73, (nI sc)), (74, (nI k9)), (75, (nI rs)), (76, (nI il)), (77, dn), (78, wt), (79, wf), (80, ab), (81, ac)]) (V := [(nI fa538), (nI fd), (nI md), (nI sc), (nI k9), (nI rs), (nI il), dn, wt, wf, ab, ac, (nI fa538), pl539, (nI fa538), pl539, (nI fd), (nI md), (nI sc), (nI k9), (nI rs), (nI il), dn, wt, wf, ab, ac]) rfl rfl rfl hP
      have hD : va_D A (mW G h0 a (upd (upd (upd (upd (upd (upd (upd (upd (upd (upd (upd (upd (upd F 15 (nI fa538)) 16 pl539) 44 (nI fd)) 49 (nI md)) 73 (nI sc)) 74 (nI k9)) 75 (nI rs)) 76 (nI il)) 77 dn) 78 wt) 79 wf) 80 ab) 81 ac) (updA (updA (updA (updA (updA B 14 nc) 17 ty) 18 mn) 48 vn) 49 vt)) := mW_D hD
      refine W.widen (k := 0) (n := 0) (Nat.le_of_ble_eq_true rfl) (Nat.le_of_ble_eq_true rfl) ?_
      refine W.eq (g2 := F0 m 332 ls [.int (nI r537)]) rfl ?_
      refine lv_pop hx hb dX12_lookStatement_332 rfl ?_
      refine lv_aload_n hx hb dX12_lookStatement_333 rfl (lv_at hl 0 rfl) ?_
      refine r_get (v := .ref (a 9)) hx hb hown hq hE hP 17 38 tFX12_17 (by decide) pw_1439 rfl dX12_lookStatement_334 ?_
      refine lv_iload_n hx hb dX12_lookStatement_337 rfl (lv_at hl 1 rfl) ?_
      refine r_ldi (f := (B 9)) (j := n9) hx hb hE hP 9 (ma_9 G a _) rfl (by omega) (by decide) dX12_lookStatement_338 ?_
      refine lv_topi (fun x547 e548 => ?_)
      obtain rfl : x547 = 38 := e548.trans ek
      refine lv_bipush (v := 38) hx hb dX12_lookStatement_339 (by decide) ?_
      refine lv_icmp_ne (tgt := 360) hx hb dX12_lookStatement_341 (by decide) (fun c549 => absurd c549 (by decide)) (fun c549 => ?_)
      refine lv_aload_n hx hb dX12_lookStatement_344 rfl (lv_at hl 0 rfl) ?_
      refine lv_dup hx hb dX12_lookStatement_345 rfl ?_
      refine r_get (v := .int ab) hx hb hown hq hE hP 80 633 tFX12_80 (by decide) pw_1878 rfl dX12_lookStatement_346 ?_
      refine lv_aload_n hx hb dX12_lookStatement_349 rfl (lv_at hl 0 rfl) ?_
      refine r_get (v := .int dn) hx hb hown hq hE hP 77 544 tFX12_77 (by decide) pw_1796 rfl dX12_lookStatement_350 ?_
      refine lv_iand hx hb dX12_lookStatement_353 ?_
      refine lv_topi (fun x550 e551 => ?_)
      refine r_put (v := x550) (ty := .int) hx hb hown hq hE hP hD hS 80 633 tFX12_80 (by decide) pw_1878 (by decide) rfl rfl (ms_80 a _ _) dX12_lookStatement_354 (fun H locs hP hD hS => ?_)
      refine lv_goto (tgt := 373) hx hb dX12_lookStatement_357 (by decide) ?_
      refine lv_aload_n hx hb dX12_lookStatement_373 rfl (lv_at hl 0 rfl) ?_
      refine lv_iconst (v := (-1)) hx hb dX12_lookStatement_374 (by decide) ?_
      refine r_put (v := (-1)) (ty := .int) hx hb hown hq hE hP hD hS 77 544 tFX12_77 (by decide) pw_1796 (by decide) rfl rfl (ms_77 a _ _) dX12_lookStatement_375 (fun H locs hP hD hS => ?_)
      refine lv_goto (tgt := 475) hx hb dX12_lookStatement_378 (by decide) ?_
      have hz552 : fa ≤ fa538 := (by omega)
      have hz553 : fa538 ≤ 15 := (by omega)
      have hz554 : sc ≤ sc := (by omega)
      have hz555 : sc ≤ 30 := (by omega)
      have hz556 : ChS B nd n9 ty ty mn mn nc nc := ChS.rfl
      have hz557 : mnN B nd mn := hmn
      have hz558 : ∀ i : Nat, i < nd → ¬ (B) 9 i = 44 → nc i = (B) 14 i := hnc
      have hz559 : ∀ i : Nat, i < sc → vt i = vt i := (fun i h => rfl)
      have hz560 : If (fa538 = 0) (TyS B dc fd md nd ty mn nc k9 rs n9 (sc, il, ev) ∧ sc = (aft B n9 (sc, il, ev)).1 ∧ ∀ i : Nat, i < sc → vt i = (aft B n9 (sc, il, ev)).2.2 i ∧ tyOK dc (vt i)) := (fun e => absurd e (by omega))
      have hP : va_P G.1 pCl (mW G h0 a (upd (upd (upd (upd (upd (upd (upd (upd (upd (upd (upd (upd (upd F 15 (nI fa538)) 16 pl539) 44 (nI fd)) 49 (nI md)) 73 (nI sc)) 74 (nI k9)) 75 (nI rs)) 76 (nI il)) 77 ((-1) : Int32)) 78 wt) 79 wf) 80 x550) 81 ac) (updA (updA (updA (updA (updA B 14 nc) 17 ty) 18 mn) 48 vn) 49 vt)) _ := mW_to (F := F) (l1 := [(15, (nI fa538)), (16, pl539), (44, (nI fd)), (49, (nI md)), (73, (nI sc)), (74, (nI k9)), (75, (nI rs)), (76, (nI il)), (77, dn), (78, wt), (79, wf), (80, ab), (81, ac), (80, x550), (77, (-1))]) (l2 := [(15, (nI fa538)), (16, pl539), (44, (nI fd)), (49, (nI md)), (73, (nI sc)), (74, (nI k9)), (75, (nI rs)), (76, (nI il)), (77, ((-1) : Int32)), (78, wt), (79, wf), (80, x550), (81, ac)]) (V := [(nI fa538), pl539, (nI fd), (nI md), (nI sc), (nI k9), (nI rs), (nI il), ((-1) : Int32), wt, wf, x550, ac, x550, ((-1) : Int32), (nI fa538), pl539, (nI fd), (nI md), (nI sc), (nI k9), (nI rs), (nI il), ((-1) : Int32), wt, wf, x550, ac]) rfl rfl rfl hP
      have hD : va_D A (mW G h0 a (upd (upd (upd (upd (upd (upd (upd (upd (upd (upd (upd (upd (upd F 15 (nI fa538)) 16 pl539) 44 (nI fd)) 49 (nI md)) 73 (nI sc)) 74 (nI k9)) 75 (nI rs)) 76 (nI il)) 77 ((-1) : Int32)) 78 wt) 79 wf) 80 x550) 81 ac) (updA (updA (updA (updA (updA B 14 nc) 17 ty) 18 mn) 48 vn) 49 vt)) := mW_D hD
      exact W.vret hx hb hr (fun t9 ht9 hW9 => ⟨⟨_, (fa538, sc, pl539, ((-1) : Int32), wt, wf, x550, ac, nc, ty, mn, vn, vt), rfl, ⟨rfl, hz552, hz553, hz554, hz555, hz556, hz557, hz558, hz559, hz560⟩, by rw [ht9]; exact hP, hD⟩, hS.F ht9⟩) hS.2.2 dX12_lookStatement_475
    · have n561 : ¬ (il ≤ 0) := fun h9 => c527 ((nI_leI (a := il) (b := 0) (by omega) (by omega)).mpr h9)
      refine lv_iconst (v := 1) hx hb dX12_lookStatement_316 (by decide) ?_
      refine lv_goto (tgt := 321) hx hb dX12_lookStatement_317 (by decide) ?_
      refine lv_bipush (v := 14) hx hb dX12_lookStatement_321 (by decide) ?_
      refine lv_aload_n hx hb dX12_lookStatement_323 rfl (lv_at hl 0 rfl) ?_
      refine r_get (v := .ref (a 10)) hx hb hown hq hE hP 18 41 tFX12_18 (by decide) pw_1440 rfl dX12_lookStatement_324 ?_
      refine lv_iload_n hx hb dX12_lookStatement_327 rfl (lv_at hl 1 rfl) ?_
      refine r_ldi (f := (B 10)) (j := n9) hx hb hE hP 10 (ma_10 G a _) rfl (by omega) (by decide) dX12_lookStatement_328 ?_
      obtain ⟨⟨t562, e563, h564⟩, -⟩ := hF n9 hn9
      refine lv_topi (fun x565 e566 => ?_)
      obtain rfl : x565 = nI t562 := e566.trans e563
      have hP : va_P G.1 pCl (mW G h0 a (upd (upd (upd (upd (upd (upd (upd (upd (upd (upd (upd (upd (upd F 15 (nI fa)) 44 (nI fd)) 49 (nI md)) 73 (nI sc)) 74 (nI k9)) 75 (nI rs)) 76 (nI il)) 77 dn) 78 wt) 79 wf) 80 ab) 81 ac) 15 (nI fa)) (updA (updA (updA (updA (updA B 14 nc) 17 ty) 18 mn) 48 vn) 49 vt)) _ := hP
      have hD : va_D A (mW G h0 a (upd (upd (upd (upd (upd (upd (upd (upd (upd (upd (upd (upd (upd F 15 (nI fa)) 44 (nI fd)) 49 (nI md)) 73 (nI sc)) 74 (nI k9)) 75 (nI rs)) 76 (nI il)) 77 dn) 78 wt) 79 wf) 80 ab) 81 ac) 15 (nI fa)) (updA (updA (updA (updA (updA B 14 nc) 17 ty) 18 mn) 48 vn) 49 vt)) := mW_D hD
      refine pc_V0 (G := G) (As := [.int (nI 1), .int (nI 14), .int (nI t562)]) (rest := []) hx hb hml hown hq hE hX pX0_al hP hD hS hA hl.1 (R_judgeL l G h0 a (upd (upd (upd (upd (upd (upd (upd (upd (upd (upd (upd (upd F 15 (nI fa)) 44 (nI fd)) 49 (nI md)) 73 (nI sc)) 74 (nI k9)) 75 (nI rs)) 76 (nI il)) 77 dn) 78 wt) 79 wf) 80 ab) 81 ac) (updA (updA (updA (updA (updA B 14 nc) 17 ty) 18 mn) 48 vn) 49 vt) 1 14 t562 fa (by omega) (by omega) (by omega) (by omega)) (gV pw_1798 pw_1799 pw_1800 pw_1523 pw_1793) hV_X12_judge 0 9 rfl rfl rfl rfl (Nat.le_of_ble_eq_true rfl) dX12_lookStatement_329 ⟨Nat.le_of_ble_eq_true rfl, Nat.le_of_ble_eq_true rfl⟩ ⟨(by show 3 + 1 ≤ (4 * z9 + 14); omega), (by show 8 + (4 + 11) + 82 ≤ (160 * z9 + 1700); omega)⟩ (fun v569 u567 H locs hw568 hP hD hS => ?_)
      obtain ⟨r570, fa571, pl572⟩ := u567
      obtain ⟨hw568, h573, h574, h575, h576, h577, h578, h579⟩ := hw568
      replace h573 : r570 ≤ 1 := h573
      replace h574 : fa ≤ fa571 := h574
      replace h575 : fa571 ≤ 15 := h575
      replace h576 : fa571 + 15 * r570 ≤ 15 := h576
      replace h577 : 1 ≤ r570 + fa571 := h577
      replace h578 : 1 ≤ 1 + fa571 := h578
      replace h579 : fa571 ≤ fa + 15 * (1 - 1) := h579
      obtain rfl : v569 = some (.int (nI r570)) := hw568
      have hP : va_P G.1 pCl (mW G h0 a (upd (upd (upd (upd (upd (upd (upd (upd (upd (upd (upd (upd (upd F 15 (nI fa571)) 16 pl572) 44 (nI fd)) 49 (nI md)) 73 (nI sc)) 74 (nI k9)) 75 (nI rs)) 76 (nI il)) 77 dn) 78 wt) 79 wf) 80 ab) 81 ac) (updA (updA (updA (updA (updA B 14 nc) 17 ty) 18 mn) 48 vn) 49 vt)) _ := mW_to (F := F) (l1 := [(15, (nI fa)), (44, (nI fd)), (49, (nI md)), (73, (nI sc)), (74, (nI k9)), (75, (nI rs)), (76, (nI il)), (77, dn), (78, wt), (79, wf), (80, ab), (81, ac), (15, (nI fa571)), (16, pl572)]) (l2 := [(15, (nI fa571)), (16, pl572), (44, (nI fd)), (49, (nI md)), (73, (nI sc)), (74, (nI k9)), (75, (nI rs)), (76, (nI il)), (77, dn), (78, wt), (79, wf), (80, ab), (81, ac)]) (V := [(nI fa571), (nI fd), (nI md), (nI sc), (nI k9), (nI rs), (nI il), dn, wt, wf, ab, ac, (nI fa571), pl572, (nI fa571), pl572, (nI fd), (nI md), (nI sc), (nI k9), (nI rs), (nI il), dn, wt, wf, ab, ac]) rfl rfl rfl hP
      have hD : va_D A (mW G h0 a (upd (upd (upd (upd (upd (upd (upd (upd (upd (upd (upd (upd (upd F 15 (nI fa571)) 16 pl572) 44 (nI fd)) 49 (nI md)) 73 (nI sc)) 74 (nI k9)) 75 (nI rs)) 76 (nI il)) 77 dn) 78 wt) 79 wf) 80 ab) 81 ac) (updA (updA (updA (updA (updA B 14 nc) 17 ty) 18 mn) 48 vn) 49 vt)) := mW_D hD
      refine W.widen (k := 0) (n := 0) (Nat.le_of_ble_eq_true rfl) (Nat.le_of_ble_eq_true rfl) ?_
      refine W.eq (g2 := F0 m 332 ls [.int (nI r570)]) rfl ?_
      refine lv_pop hx hb dX12_lookStatement_332 rfl ?_
      refine lv_aload_n hx hb dX12_lookStatement_333 rfl (lv_at hl 0 rfl) ?_
      refine r_get (v := .ref (a 9)) hx hb hown hq hE hP 17 38 tFX12_17 (by decide) pw_1439 rfl dX12_lookStatement_334 ?_
      refine lv_iload_n hx hb dX12_lookStatement_337 rfl (lv_at hl 1 rfl) ?_
      refine r_ldi (f := (B 9)) (j := n9) hx hb hE hP 9 (ma_9 G a _) rfl (by omega) (by decide) dX12_lookStatement_338 ?_
      refine lv_topi (fun x580 e581 => ?_)
      obtain rfl : x580 = 38 := e581.trans ek
      refine lv_bipush (v := 38) hx hb dX12_lookStatement_339 (by decide) ?_
      refine lv_icmp_ne (tgt := 360) hx hb dX12_lookStatement_341 (by decide) (fun c582 => absurd c582 (by decide)) (fun c582 => ?_)
      refine lv_aload_n hx hb dX12_lookStatement_344 rfl (lv_at hl 0 rfl) ?_
      refine lv_dup hx hb dX12_lookStatement_345 rfl ?_
      refine r_get (v := .int ab) hx hb hown hq hE hP 80 633 tFX12_80 (by decide) pw_1878 rfl dX12_lookStatement_346 ?_
      refine lv_aload_n hx hb dX12_lookStatement_349 rfl (lv_at hl 0 rfl) ?_
      refine r_get (v := .int dn) hx hb hown hq hE hP 77 544 tFX12_77 (by decide) pw_1796 rfl dX12_lookStatement_350 ?_
      refine lv_iand hx hb dX12_lookStatement_353 ?_
      refine lv_topi (fun x583 e584 => ?_)
      refine r_put (v := x583) (ty := .int) hx hb hown hq hE hP hD hS 80 633 tFX12_80 (by decide) pw_1878 (by decide) rfl rfl (ms_80 a _ _) dX12_lookStatement_354 (fun H locs hP hD hS => ?_)
      refine lv_goto (tgt := 373) hx hb dX12_lookStatement_357 (by decide) ?_
      refine lv_aload_n hx hb dX12_lookStatement_373 rfl (lv_at hl 0 rfl) ?_
      refine lv_iconst (v := (-1)) hx hb dX12_lookStatement_374 (by decide) ?_
      refine r_put (v := (-1)) (ty := .int) hx hb hown hq hE hP hD hS 77 544 tFX12_77 (by decide) pw_1796 (by decide) rfl rfl (ms_77 a _ _) dX12_lookStatement_375 (fun H locs hP hD hS => ?_)
      refine lv_goto (tgt := 475) hx hb dX12_lookStatement_378 (by decide) ?_
      have hz585 : fa ≤ fa571 := (by omega)
      have hz586 : fa571 ≤ 15 := (by omega)
      have hz587 : sc ≤ sc := (by omega)
      have hz588 : sc ≤ 30 := (by omega)
      have hz589 : ChS B nd n9 ty ty mn mn nc nc := ChS.rfl
      have hz590 : mnN B nd mn := hmn
      have hz591 : ∀ i : Nat, i < nd → ¬ (B) 9 i = 44 → nc i = (B) 14 i := hnc
      have hz592 : ∀ i : Nat, i < sc → vt i = vt i := (fun i h => rfl)
      have hz593 : If (fa571 = 0) (TyS B dc fd md nd ty mn nc k9 rs n9 (sc, il, ev) ∧ sc = (aft B n9 (sc, il, ev)).1 ∧ ∀ i : Nat, i < sc → vt i = (aft B n9 (sc, il, ev)).2.2 i ∧ tyOK dc (vt i)) := (fun e => ⟨TyS.of (steps (kk := 38) ek (by decide) (slP.no (by decide)) (slP.no (by decide)) (slP.no (by decide)) (slP.no (by decide))) (LTX.st ek (by decide) (by decide) (show LSk B dc ty mn nc rs n9 (sc, il, ev) 38 from (by show 1 ≤ il; omega))), (by rw [(aft_no (by rw [ek]; decide))]), (fun i h => by rw [(aft_no (by rw [ek]; decide))]; exact ⟨hve i h, hvt i h⟩)⟩)
      have hP : va_P G.1 pCl (mW G h0 a (upd (upd (upd (upd (upd (upd (upd (upd (upd (upd (upd (upd (upd F 15 (nI fa571)) 16 pl572) 44 (nI fd)) 49 (nI md)) 73 (nI sc)) 74 (nI k9)) 75 (nI rs)) 76 (nI il)) 77 ((-1) : Int32)) 78 wt) 79 wf) 80 x583) 81 ac) (updA (updA (updA (updA (updA B 14 nc) 17 ty) 18 mn) 48 vn) 49 vt)) _ := mW_to (F := F) (l1 := [(15, (nI fa571)), (16, pl572), (44, (nI fd)), (49, (nI md)), (73, (nI sc)), (74, (nI k9)), (75, (nI rs)), (76, (nI il)), (77, dn), (78, wt), (79, wf), (80, ab), (81, ac), (80, x583), (77, (-1))]) (l2 := [(15, (nI fa571)), (16, pl572), (44, (nI fd)), (49, (nI md)), (73, (nI sc)), (74, (nI k9)), (75, (nI rs)), (76, (nI il)), (77, ((-1) : Int32)), (78, wt), (79, wf), (80, x583), (81, ac)]) (V := [(nI fa571), pl572, (nI fd), (nI md), (nI sc), (nI k9), (nI rs), (nI il), ((-1) : Int32), wt, wf, x583, ac, x583, ((-1) : Int32), (nI fa571), pl572, (nI fd), (nI md), (nI sc), (nI k9), (nI rs), (nI il), ((-1) : Int32), wt, wf, x583, ac]) rfl rfl rfl hP
      have hD : va_D A (mW G h0 a (upd (upd (upd (upd (upd (upd (upd (upd (upd (upd (upd (upd (upd F 15 (nI fa571)) 16 pl572) 44 (nI fd)) 49 (nI md)) 73 (nI sc)) 74 (nI k9)) 75 (nI rs)) 76 (nI il)) 77 ((-1) : Int32)) 78 wt) 79 wf) 80 x583) 81 ac) (updA (updA (updA (updA (updA B 14 nc) 17 ty) 18 mn) 48 vn) 49 vt)) := mW_D hD
      exact W.vret hx hb hr (fun t9 ht9 hW9 => ⟨⟨_, (fa571, sc, pl572, ((-1) : Int32), wt, wf, x583, ac, nc, ty, mn, vn, vt), rfl, ⟨rfl, hz585, hz586, hz587, hz588, hz589, hz590, hz591, hz592, hz593⟩, by rw [ht9]; exact hP, hD⟩, hS.F ht9⟩) hS.2.2 dX12_lookStatement_475
  · refine lv_topi (fun x594 e595 => ?_)
    obtain rfl : x594 = 39 := e595.trans ek
    refine lv_tableIn (tgt := 308) (off := 302) hx hb dX12_lookStatement_6 (by decide) (by decide) (by decide) (by decide) ?_
    refine lv_aload_n hx hb dX12_lookStatement_308 rfl (lv_at hl 0 rfl) ?_
    refine lv_aload_n hx hb dX12_lookStatement_309 rfl (lv_at hl 0 rfl) ?_
    refine r_get (v := .int (nI il)) hx hb hown hq hE hP 76 630 tFX12_76 (by decide) pw_1880 rfl dX12_lookStatement_310 ?_
    refine lv_if_le (tgt := 320) hx hb dX12_lookStatement_313 (by decide) (fun c596 => ?_) (fun c596 => ?_)
    · have n597 : il ≤ 0 := (nI_leI (a := il) (b := 0) (by omega) (by omega)).mp c596
      refine lv_iconst (v := 0) hx hb dX12_lookStatement_320 (by decide) ?_
      refine lv_bipush (v := 14) hx hb dX12_lookStatement_321 (by decide) ?_
      refine lv_aload_n hx hb dX12_lookStatement_323 rfl (lv_at hl 0 rfl) ?_
      refine r_get (v := .ref (a 10)) hx hb hown hq hE hP 18 41 tFX12_18 (by decide) pw_1440 rfl dX12_lookStatement_324 ?_
      refine lv_iload_n hx hb dX12_lookStatement_327 rfl (lv_at hl 1 rfl) ?_
      refine r_ldi (f := (B 10)) (j := n9) hx hb hE hP 10 (ma_10 G a _) rfl (by omega) (by decide) dX12_lookStatement_328 ?_
      obtain ⟨⟨t598, e599, h600⟩, -⟩ := hF n9 hn9
      refine lv_topi (fun x601 e602 => ?_)
      obtain rfl : x601 = nI t598 := e602.trans e599
      have hP : va_P G.1 pCl (mW G h0 a (upd (upd (upd (upd (upd (upd (upd (upd (upd (upd (upd (upd (upd F 15 (nI fa)) 44 (nI fd)) 49 (nI md)) 73 (nI sc)) 74 (nI k9)) 75 (nI rs)) 76 (nI il)) 77 dn) 78 wt) 79 wf) 80 ab) 81 ac) 15 (nI fa)) (updA (updA (updA (updA (updA B 14 nc) 17 ty) 18 mn) 48 vn) 49 vt)) _ := hP
      have hD : va_D A (mW G h0 a (upd (upd (upd (upd (upd (upd (upd (upd (upd (upd (upd (upd (upd F 15 (nI fa)) 44 (nI fd)) 49 (nI md)) 73 (nI sc)) 74 (nI k9)) 75 (nI rs)) 76 (nI il)) 77 dn) 78 wt) 79 wf) 80 ab) 81 ac) 15 (nI fa)) (updA (updA (updA (updA (updA B 14 nc) 17 ty) 18 mn) 48 vn) 49 vt)) := mW_D hD
      refine pc_V0 (G := G) (As := [.int (nI 0), .int (nI 14), .int (nI t598)]) (rest := []) hx hb hml hown hq hE hX pX0_al hP hD hS hA hl.1 (R_judgeL l G h0 a (upd (upd (upd (upd (upd (upd (upd (upd (upd (upd (upd (upd F 15 (nI fa)) 44 (nI fd)) 49 (nI md)) 73 (nI sc)) 74 (nI k9)) 75 (nI rs)) 76 (nI il)) 77 dn) 78 wt) 79 wf) 80 ab) 81 ac) (updA (updA (updA (updA (updA B 14 nc) 17 ty) 18 mn) 48 vn) 49 vt) 0 14 t598 fa (by omega) (by omega) (by omega) (by omega)) (gV pw_1798 pw_1799 pw_1800 pw_1523 pw_1793) hV_X12_judge 0 9 rfl rfl rfl rfl (Nat.le_of_ble_eq_true rfl) dX12_lookStatement_329 ⟨Nat.le_of_ble_eq_true rfl, Nat.le_of_ble_eq_true rfl⟩ ⟨(by show 3 + 1 ≤ (4 * z9 + 14); omega), (by show 8 + (4 + 11) + 82 ≤ (160 * z9 + 1700); omega)⟩ (fun v605 u603 H locs hw604 hP hD hS => ?_)
      obtain ⟨r606, fa607, pl608⟩ := u603
      obtain ⟨hw604, h609, h610, h611, h612, h613, h614, h615⟩ := hw604
      replace h609 : r606 ≤ 1 := h609
      replace h610 : fa ≤ fa607 := h610
      replace h611 : fa607 ≤ 15 := h611
      replace h612 : fa607 + 15 * r606 ≤ 15 := h612
      replace h613 : 1 ≤ r606 + fa607 := h613
      replace h614 : 1 ≤ 0 + fa607 := h614
      replace h615 : fa607 ≤ fa + 15 * (1 - 0) := h615
      obtain rfl : v605 = some (.int (nI r606)) := hw604
      have hP : va_P G.1 pCl (mW G h0 a (upd (upd (upd (upd (upd (upd (upd (upd (upd (upd (upd (upd (upd F 15 (nI fa607)) 16 pl608) 44 (nI fd)) 49 (nI md)) 73 (nI sc)) 74 (nI k9)) 75 (nI rs)) 76 (nI il)) 77 dn) 78 wt) 79 wf) 80 ab) 81 ac) (updA (updA (updA (updA (updA B 14 nc) 17 ty) 18 mn) 48 vn) 49 vt)) _ := mW_to (F := F) (l1 := [(15, (nI fa)), (44, (nI fd)), (49, (nI md)), (73, (nI sc)), (74, (nI k9)), (75, (nI rs)), (76, (nI il)), (77, dn), (78, wt), (79, wf), (80, ab), (81, ac), (15, (nI fa607)), (16, pl608)]) (l2 := [(15, (nI fa607)), (16, pl608), (44, (nI fd)), (49, (nI md)), (73, (nI sc)), (74, (nI k9)), (75, (nI rs)), (76, (nI il)), (77, dn), (78, wt), (79, wf), (80, ab), (81, ac)]) (V := [(nI fa607), (nI fd), (nI md), (nI sc), (nI k9), (nI rs), (nI il), dn, wt, wf, ab, ac, (nI fa607), pl608, (nI fa607), pl608, (nI fd), (nI md), (nI sc), (nI k9), (nI rs), (nI il), dn, wt, wf, ab, ac]) rfl rfl rfl hP
      have hD : va_D A (mW G h0 a (upd (upd (upd (upd (upd (upd (upd (upd (upd (upd (upd (upd (upd F 15 (nI fa607)) 16 pl608) 44 (nI fd)) 49 (nI md)) 73 (nI sc)) 74 (nI k9)) 75 (nI rs)) 76 (nI il)) 77 dn) 78 wt) 79 wf) 80 ab) 81 ac) (updA (updA (updA (updA (updA B 14 nc) 17 ty) 18 mn) 48 vn) 49 vt)) := mW_D hD
      refine W.widen (k := 0) (n := 0) (Nat.le_of_ble_eq_true rfl) (Nat.le_of_ble_eq_true rfl) ?_
      refine W.eq (g2 := F0 m 332 ls [.int (nI r606)]) rfl ?_
      refine lv_pop hx hb dX12_lookStatement_332 rfl ?_
      refine lv_aload_n hx hb dX12_lookStatement_333 rfl (lv_at hl 0 rfl) ?_
      refine r_get (v := .ref (a 9)) hx hb hown hq hE hP 17 38 tFX12_17 (by decide) pw_1439 rfl dX12_lookStatement_334 ?_
      refine lv_iload_n hx hb dX12_lookStatement_337 rfl (lv_at hl 1 rfl) ?_
      refine r_ldi (f := (B 9)) (j := n9) hx hb hE hP 9 (ma_9 G a _) rfl (by omega) (by decide) dX12_lookStatement_338 ?_
      refine lv_topi (fun x616 e617 => ?_)
      obtain rfl : x616 = 39 := e617.trans ek
      refine lv_bipush (v := 38) hx hb dX12_lookStatement_339 (by decide) ?_
      refine lv_icmp_ne (tgt := 360) hx hb dX12_lookStatement_341 (by decide) (fun c618 => ?_) (fun c618 => absurd c618 (by decide))
      refine lv_aload_n hx hb dX12_lookStatement_360 rfl (lv_at hl 0 rfl) ?_
      refine lv_dup hx hb dX12_lookStatement_361 rfl ?_
      refine r_get (v := .int ac) hx hb hown hq hE hP 81 636 tFX12_81 (by decide) pw_1879 rfl dX12_lookStatement_362 ?_
      refine lv_aload_n hx hb dX12_lookStatement_365 rfl (lv_at hl 0 rfl) ?_
      refine r_get (v := .int dn) hx hb hown hq hE hP 77 544 tFX12_77 (by decide) pw_1796 rfl dX12_lookStatement_366 ?_
      refine lv_iand hx hb dX12_lookStatement_369 ?_
      refine lv_topi (fun x619 e620 => ?_)
      refine r_put (v := x619) (ty := .int) hx hb hown hq hE hP hD hS 81 636 tFX12_81 (by decide) pw_1879 (by decide) rfl rfl (ms_81 a _ _) dX12_lookStatement_370 (fun H locs hP hD hS => ?_)
      refine lv_aload_n hx hb dX12_lookStatement_373 rfl (lv_at hl 0 rfl) ?_
      refine lv_iconst (v := (-1)) hx hb dX12_lookStatement_374 (by decide) ?_
      refine r_put (v := (-1)) (ty := .int) hx hb hown hq hE hP hD hS 77 544 tFX12_77 (by decide) pw_1796 (by decide) rfl rfl (ms_77 a _ _) dX12_lookStatement_375 (fun H locs hP hD hS => ?_)
      refine lv_goto (tgt := 475) hx hb dX12_lookStatement_378 (by decide) ?_
      have hz621 : fa ≤ fa607 := (by omega)
      have hz622 : fa607 ≤ 15 := (by omega)
      have hz623 : sc ≤ sc := (by omega)
      have hz624 : sc ≤ 30 := (by omega)
      have hz625 : ChS B nd n9 ty ty mn mn nc nc := ChS.rfl
      have hz626 : mnN B nd mn := hmn
      have hz627 : ∀ i : Nat, i < nd → ¬ (B) 9 i = 44 → nc i = (B) 14 i := hnc
      have hz628 : ∀ i : Nat, i < sc → vt i = vt i := (fun i h => rfl)
      have hz629 : If (fa607 = 0) (TyS B dc fd md nd ty mn nc k9 rs n9 (sc, il, ev) ∧ sc = (aft B n9 (sc, il, ev)).1 ∧ ∀ i : Nat, i < sc → vt i = (aft B n9 (sc, il, ev)).2.2 i ∧ tyOK dc (vt i)) := (fun e => absurd e (by omega))
      have hP : va_P G.1 pCl (mW G h0 a (upd (upd (upd (upd (upd (upd (upd (upd (upd (upd (upd (upd (upd F 15 (nI fa607)) 16 pl608) 44 (nI fd)) 49 (nI md)) 73 (nI sc)) 74 (nI k9)) 75 (nI rs)) 76 (nI il)) 77 ((-1) : Int32)) 78 wt) 79 wf) 80 ab) 81 x619) (updA (updA (updA (updA (updA B 14 nc) 17 ty) 18 mn) 48 vn) 49 vt)) _ := mW_to (F := F) (l1 := [(15, (nI fa607)), (16, pl608), (44, (nI fd)), (49, (nI md)), (73, (nI sc)), (74, (nI k9)), (75, (nI rs)), (76, (nI il)), (77, dn), (78, wt), (79, wf), (80, ab), (81, ac), (81, x619), (77, (-1))]) (l2 := [(15, (nI fa607)), (16, pl608), (44, (nI fd)), (49, (nI md)), (73, (nI sc)), (74, (nI k9)), (75, (nI rs)), (76, (nI il)), (77, ((-1) : Int32)), (78, wt), (79, wf), (80, ab), (81, x619)]) (V := [(nI fa607), pl608, (nI fd), (nI md), (nI sc), (nI k9), (nI rs), (nI il), ((-1) : Int32), wt, wf, ab, x619, x619, ((-1) : Int32), (nI fa607), pl608, (nI fd), (nI md), (nI sc), (nI k9), (nI rs), (nI il), ((-1) : Int32), wt, wf, ab, x619]) rfl rfl rfl hP
      have hD : va_D A (mW G h0 a (upd (upd (upd (upd (upd (upd (upd (upd (upd (upd (upd (upd (upd F 15 (nI fa607)) 16 pl608) 44 (nI fd)) 49 (nI md)) 73 (nI sc)) 74 (nI k9)) 75 (nI rs)) 76 (nI il)) 77 ((-1) : Int32)) 78 wt) 79 wf) 80 ab) 81 x619) (updA (updA (updA (updA (updA B 14 nc) 17 ty) 18 mn) 48 vn) 49 vt)) := mW_D hD
      exact W.vret hx hb hr (fun t9 ht9 hW9 => ⟨⟨_, (fa607, sc, pl608, ((-1) : Int32), wt, wf, ab, x619, nc, ty, mn, vn, vt), rfl, ⟨rfl, hz621, hz622, hz623, hz624, hz625, hz626, hz627, hz628, hz629⟩, by rw [ht9]; exact hP, hD⟩, hS.F ht9⟩) hS.2.2 dX12_lookStatement_475
    · have n630 : ¬ (il ≤ 0) := fun h9 => c596 ((nI_leI (a := il) (b := 0) (by omega) (by omega)).mpr h9)
      refine lv_iconst (v := 1) hx hb dX12_lookStatement_316 (by decide) ?_
      refine lv_goto (tgt := 321) hx hb dX12_lookStatement_317 (by decide) ?_
      refine lv_bipush (v := 14) hx hb dX12_lookStatement_321 (by decide) ?_
      refine lv_aload_n hx hb dX12_lookStatement_323 rfl (lv_at hl 0 rfl) ?_
      refine r_get (v := .ref (a 10)) hx hb hown hq hE hP 18 41 tFX12_18 (by decide) pw_1440 rfl dX12_lookStatement_324 ?_
      refine lv_iload_n hx hb dX12_lookStatement_327 rfl (lv_at hl 1 rfl) ?_
      refine r_ldi (f := (B 10)) (j := n9) hx hb hE hP 10 (ma_10 G a _) rfl (by omega) (by decide) dX12_lookStatement_328 ?_
      obtain ⟨⟨t631, e632, h633⟩, -⟩ := hF n9 hn9
      refine lv_topi (fun x634 e635 => ?_)
      obtain rfl : x634 = nI t631 := e635.trans e632
      have hP : va_P G.1 pCl (mW G h0 a (upd (upd (upd (upd (upd (upd (upd (upd (upd (upd (upd (upd (upd F 15 (nI fa)) 44 (nI fd)) 49 (nI md)) 73 (nI sc)) 74 (nI k9)) 75 (nI rs)) 76 (nI il)) 77 dn) 78 wt) 79 wf) 80 ab) 81 ac) 15 (nI fa)) (updA (updA (updA (updA (updA B 14 nc) 17 ty) 18 mn) 48 vn) 49 vt)) _ := hP
      have hD : va_D A (mW G h0 a (upd (upd (upd (upd (upd (upd (upd (upd (upd (upd (upd (upd (upd F 15 (nI fa)) 44 (nI fd)) 49 (nI md)) 73 (nI sc)) 74 (nI k9)) 75 (nI rs)) 76 (nI il)) 77 dn) 78 wt) 79 wf) 80 ab) 81 ac) 15 (nI fa)) (updA (updA (updA (updA (updA B 14 nc) 17 ty) 18 mn) 48 vn) 49 vt)) := mW_D hD
      refine pc_V0 (G := G) (As := [.int (nI 1), .int (nI 14), .int (nI t631)]) (rest := []) hx hb hml hown hq hE hX pX0_al hP hD hS hA hl.1 (R_judgeL l G h0 a (upd (upd (upd (upd (upd (upd (upd (upd (upd (upd (upd (upd F 15 (nI fa)) 44 (nI fd)) 49 (nI md)) 73 (nI sc)) 74 (nI k9)) 75 (nI rs)) 76 (nI il)) 77 dn) 78 wt) 79 wf) 80 ab) 81 ac) (updA (updA (updA (updA (updA B 14 nc) 17 ty) 18 mn) 48 vn) 49 vt) 1 14 t631 fa (by omega) (by omega) (by omega) (by omega)) (gV pw_1798 pw_1799 pw_1800 pw_1523 pw_1793) hV_X12_judge 0 9 rfl rfl rfl rfl (Nat.le_of_ble_eq_true rfl) dX12_lookStatement_329 ⟨Nat.le_of_ble_eq_true rfl, Nat.le_of_ble_eq_true rfl⟩ ⟨(by show 3 + 1 ≤ (4 * z9 + 14); omega), (by show 8 + (4 + 11) + 82 ≤ (160 * z9 + 1700); omega)⟩ (fun v638 u636 H locs hw637 hP hD hS => ?_)
      obtain ⟨r639, fa640, pl641⟩ := u636
      obtain ⟨hw637, h642, h643, h644, h645, h646, h647, h648⟩ := hw637
      replace h642 : r639 ≤ 1 := h642
      replace h643 : fa ≤ fa640 := h643
      replace h644 : fa640 ≤ 15 := h644
      replace h645 : fa640 + 15 * r639 ≤ 15 := h645
      replace h646 : 1 ≤ r639 + fa640 := h646
      replace h647 : 1 ≤ 1 + fa640 := h647
      replace h648 : fa640 ≤ fa + 15 * (1 - 1) := h648
      obtain rfl : v638 = some (.int (nI r639)) := hw637
      have hP : va_P G.1 pCl (mW G h0 a (upd (upd (upd (upd (upd (upd (upd (upd (upd (upd (upd (upd (upd F 15 (nI fa640)) 16 pl641) 44 (nI fd)) 49 (nI md)) 73 (nI sc)) 74 (nI k9)) 75 (nI rs)) 76 (nI il)) 77 dn) 78 wt) 79 wf) 80 ab) 81 ac) (updA (updA (updA (updA (updA B 14 nc) 17 ty) 18 mn) 48 vn) 49 vt)) _ := mW_to (F := F) (l1 := [(15, (nI fa)), (44, (nI fd)), (49, (nI md)), (73, (nI sc)), (74, (nI k9)), (75, (nI rs)), (76, (nI il)), (77, dn), (78, wt), (79, wf), (80, ab), (81, ac), (15, (nI fa640)), (16, pl641)]) (l2 := [(15, (nI fa640)), (16, pl641), (44, (nI fd)), (49, (nI md)), (73, (nI sc)), (74, (nI k9)), (75, (nI rs)), (76, (nI il)), (77, dn), (78, wt), (79, wf), (80, ab), (81, ac)]) (V := [(nI fa640), (nI fd), (nI md), (nI sc), (nI k9), (nI rs), (nI il), dn, wt, wf, ab, ac, (nI fa640), pl641, (nI fa640), pl641, (nI fd), (nI md), (nI sc), (nI k9), (nI rs), (nI il), dn, wt, wf, ab, ac]) rfl rfl rfl hP
      have hD : va_D A (mW G h0 a (upd (upd (upd (upd (upd (upd (upd (upd (upd (upd (upd (upd (upd F 15 (nI fa640)) 16 pl641) 44 (nI fd)) 49 (nI md)) 73 (nI sc)) 74 (nI k9)) 75 (nI rs)) 76 (nI il)) 77 dn) 78 wt) 79 wf) 80 ab) 81 ac) (updA (updA (updA (updA (updA B 14 nc) 17 ty) 18 mn) 48 vn) 49 vt)) := mW_D hD
      refine W.widen (k := 0) (n := 0) (Nat.le_of_ble_eq_true rfl) (Nat.le_of_ble_eq_true rfl) ?_
      refine W.eq (g2 := F0 m 332 ls [.int (nI r639)]) rfl ?_
      refine lv_pop hx hb dX12_lookStatement_332 rfl ?_
      refine lv_aload_n hx hb dX12_lookStatement_333 rfl (lv_at hl 0 rfl) ?_
      refine r_get (v := .ref (a 9)) hx hb hown hq hE hP 17 38 tFX12_17 (by decide) pw_1439 rfl dX12_lookStatement_334 ?_
      refine lv_iload_n hx hb dX12_lookStatement_337 rfl (lv_at hl 1 rfl) ?_
      refine r_ldi (f := (B 9)) (j := n9) hx hb hE hP 9 (ma_9 G a _) rfl (by omega) (by decide) dX12_lookStatement_338 ?_
      refine lv_topi (fun x649 e650 => ?_)
      obtain rfl : x649 = 39 := e650.trans ek
      refine lv_bipush (v := 38) hx hb dX12_lookStatement_339 (by decide) ?_
      refine lv_icmp_ne (tgt := 360) hx hb dX12_lookStatement_341 (by decide) (fun c651 => ?_) (fun c651 => absurd c651 (by decide))
      refine lv_aload_n hx hb dX12_lookStatement_360 rfl (lv_at hl 0 rfl) ?_
      refine lv_dup hx hb dX12_lookStatement_361 rfl ?_
      refine r_get (v := .int ac) hx hb hown hq hE hP 81 636 tFX12_81 (by decide) pw_1879 rfl dX12_lookStatement_362 ?_
      refine lv_aload_n hx hb dX12_lookStatement_365 rfl (lv_at hl 0 rfl) ?_
      refine r_get (v := .int dn) hx hb hown hq hE hP 77 544 tFX12_77 (by decide) pw_1796 rfl dX12_lookStatement_366 ?_
      refine lv_iand hx hb dX12_lookStatement_369 ?_
      refine lv_topi (fun x652 e653 => ?_)
      refine r_put (v := x652) (ty := .int) hx hb hown hq hE hP hD hS 81 636 tFX12_81 (by decide) pw_1879 (by decide) rfl rfl (ms_81 a _ _) dX12_lookStatement_370 (fun H locs hP hD hS => ?_)
      refine lv_aload_n hx hb dX12_lookStatement_373 rfl (lv_at hl 0 rfl) ?_
      refine lv_iconst (v := (-1)) hx hb dX12_lookStatement_374 (by decide) ?_
      refine r_put (v := (-1)) (ty := .int) hx hb hown hq hE hP hD hS 77 544 tFX12_77 (by decide) pw_1796 (by decide) rfl rfl (ms_77 a _ _) dX12_lookStatement_375 (fun H locs hP hD hS => ?_)
      refine lv_goto (tgt := 475) hx hb dX12_lookStatement_378 (by decide) ?_
      have hz654 : fa ≤ fa640 := (by omega)
      have hz655 : fa640 ≤ 15 := (by omega)
      have hz656 : sc ≤ sc := (by omega)
      have hz657 : sc ≤ 30 := (by omega)
      have hz658 : ChS B nd n9 ty ty mn mn nc nc := ChS.rfl
      have hz659 : mnN B nd mn := hmn
      have hz660 : ∀ i : Nat, i < nd → ¬ (B) 9 i = 44 → nc i = (B) 14 i := hnc
      have hz661 : ∀ i : Nat, i < sc → vt i = vt i := (fun i h => rfl)
      have hz662 : If (fa640 = 0) (TyS B dc fd md nd ty mn nc k9 rs n9 (sc, il, ev) ∧ sc = (aft B n9 (sc, il, ev)).1 ∧ ∀ i : Nat, i < sc → vt i = (aft B n9 (sc, il, ev)).2.2 i ∧ tyOK dc (vt i)) := (fun e => ⟨TyS.of (steps (kk := 39) ek (by decide) (slP.no (by decide)) (slP.no (by decide)) (slP.no (by decide)) (slP.no (by decide))) (LTX.st ek (by decide) (by decide) (show LSk B dc ty mn nc rs n9 (sc, il, ev) 39 from (by show 1 ≤ il; omega))), (by rw [(aft_no (by rw [ek]; decide))]), (fun i h => by rw [(aft_no (by rw [ek]; decide))]; exact ⟨hve i h, hvt i h⟩)⟩)
      have hP : va_P G.1 pCl (mW G h0 a (upd (upd (upd (upd (upd (upd (upd (upd (upd (upd (upd (upd (upd F 15 (nI fa640)) 16 pl641) 44 (nI fd)) 49 (nI md)) 73 (nI sc)) 74 (nI k9)) 75 (nI rs)) 76 (nI il)) 77 ((-1) : Int32)) 78 wt) 79 wf) 80 ab) 81 x652) (updA (updA (updA (updA (updA B 14 nc) 17 ty) 18 mn) 48 vn) 49 vt)) _ := mW_to (F := F) (l1 := [(15, (nI fa640)), (16, pl641), (44, (nI fd)), (49, (nI md)), (73, (nI sc)), (74, (nI k9)), (75, (nI rs)), (76, (nI il)), (77, dn), (78, wt), (79, wf), (80, ab), (81, ac), (81, x652), (77, (-1))]) (l2 := [(15, (nI fa640)), (16, pl641), (44, (nI fd)), (49, (nI md)), (73, (nI sc)), (74, (nI k9)), (75, (nI rs)), (76, (nI il)), (77, ((-1) : Int32)), (78, wt), (79, wf), (80, ab), (81, x652)]) (V := [(nI fa640), pl641, (nI fd), (nI md), (nI sc), (nI k9), (nI rs), (nI il), ((-1) : Int32), wt, wf, ab, x652, x652, ((-1) : Int32), (nI fa640), pl641, (nI fd), (nI md), (nI sc), (nI k9), (nI rs), (nI il), ((-1) : Int32), wt, wf, ab, x652]) rfl rfl rfl hP
      have hD : va_D A (mW G h0 a (upd (upd (upd (upd (upd (upd (upd (upd (upd (upd (upd (upd (upd F 15 (nI fa640)) 16 pl641) 44 (nI fd)) 49 (nI md)) 73 (nI sc)) 74 (nI k9)) 75 (nI rs)) 76 (nI il)) 77 ((-1) : Int32)) 78 wt) 79 wf) 80 ab) 81 x652) (updA (updA (updA (updA (updA B 14 nc) 17 ty) 18 mn) 48 vn) 49 vt)) := mW_D hD
      exact W.vret hx hb hr (fun t9 ht9 hW9 => ⟨⟨_, (fa640, sc, pl641, ((-1) : Int32), wt, wf, ab, x652, nc, ty, mn, vn, vt), rfl, ⟨rfl, hz654, hz655, hz656, hz657, hz658, hz659, hz660, hz661, hz662⟩, by rw [ht9]; exact hP, hD⟩, hS.F ht9⟩) hS.2.2 dX12_lookStatement_475
  · refine lv_topi (fun x663 e664 => ?_)
    obtain rfl : x663 = 40 := e664.trans ek
    refine lv_tableIn (tgt := 381) (off := 375) hx hb dX12_lookStatement_6 (by decide) (by decide) (by decide) (by decide) ?_
    refine lv_aload_n hx hb dX12_lookStatement_381 rfl (lv_at hl 0 rfl) ?_
    refine lv_aload_n hx hb dX12_lookStatement_382 rfl (lv_at hl 0 rfl) ?_
    refine r_get (v := .ref (a 12)) hx hb hown hq hE hP 20 47 tFX12_20 (by decide) pw_1442 rfl dX12_lookStatement_383 ?_
    refine lv_iload_n hx hb dX12_lookStatement_386 rfl (lv_at hl 1 rfl) ?_
    refine r_ldi (f := (B 12)) (j := n9) hx hb hE hP 12 (ma_12 G a _) rfl (by omega) (by decide) dX12_lookStatement_387 ?_
    obtain ⟨c665, e666, h667, hp668, h669, hc670, hh671, hg672⟩ := Fs2.kid (kk := 40) (s := 1) hF hn9 ek (by decide) (by decide) (by decide) (by decide) (by omega)
    refine lv_topi (fun x673 e674 => ?_)
    obtain rfl : x673 = nI c665 := e674.trans e666
    have hP : va_P G.1 pCl (mW G h0 a (upd (upd (upd (upd (upd (upd (upd (upd (upd (upd (upd (upd (upd (upd (upd (upd (upd (upd (upd (upd F 15 (nI fa)) 44 (nI fd)) 49 (nI md)) 73 (nI sc)) 74 (nI k9)) 75 (nI rs)) 76 (nI il)) 77 dn) 78 wt) 79 wf) 80 ab) 81 ac) 15 (nI fa)) 44 (nI fd)) 49 (nI md)) 73 (nI sc)) 74 (nI k9)) 77 dn) 78 wt) 79 wf) (updA (updA (updA (updA (updA B 14 nc) 17 ty) 18 mn) 48 vn) 49 vt)) _ := hP
    have hD : va_D A (mW G h0 a (upd (upd (upd (upd (upd (upd (upd (upd (upd (upd (upd (upd (upd (upd (upd (upd (upd (upd (upd (upd F 15 (nI fa)) 44 (nI fd)) 49 (nI md)) 73 (nI sc)) 74 (nI k9)) 75 (nI rs)) 76 (nI il)) 77 dn) 78 wt) 79 wf) 80 ab) 81 ac) 15 (nI fa)) 44 (nI fd)) 49 (nI md)) 73 (nI sc)) 74 (nI k9)) 77 dn) 78 wt) 79 wf) (updA (updA (updA (updA (updA B 14 nc) 17 ty) 18 mn) 48 vn) 49 vt)) := mW_D hD
    refine pc_V0 (G := G) (As := [.int (nI c665)]) (rest := []) hx hb hml hown hq hE hX pX0_al hP hD hS hA hl.1 ((LK_all l G (z9 - 1)).2.1 h0 a (upd (upd (upd (upd (upd (upd (upd (upd (upd (upd (upd (upd F 15 (nI fa)) 44 (nI fd)) 49 (nI md)) 73 (nI sc)) 74 (nI k9)) 75 (nI rs)) 76 (nI il)) 77 dn) 78 wt) 79 wf) 80 ab) 81 ac) B c665 fa sc k9 nd T nm wr lz dc fd md pr bk gh dn wt wf nc ty mn vn vt hst hnm h667 (by omega) (by omega) (by omega) hk9 hnc hmn hvt (show kcl 1 _ = true from hc670)) (gV pw_1822 pw_1823 pw_1824 pw_1523 pw_1830) hV_X12_look 0 9 rfl rfl rfl rfl (Nat.le_of_ble_eq_true rfl) dX12_lookStatement_388 ⟨Nat.le_of_ble_eq_true rfl, Nat.le_of_ble_eq_true rfl⟩ ⟨(by show (4 * (z9 - 1) + 11) + 1 ≤ (4 * z9 + 14); omega), (by show 8 + (3 + 11) + (160 * (z9 - 1) + 1440) ≤ (160 * z9 + 1700); omega)⟩ (fun v677 u675 H locs hw676 hP hD hS => ?_)
    obtain ⟨r678, fa679, pl680, dn681, wt682, wf683, ty684, mn685⟩ := u675
    obtain ⟨hw676, h686, h687, h688, h689, h690, h691, h692, h693⟩ := hw676
    replace h686 : fa ≤ fa679 := h686
    replace h687 : fa679 ≤ 15 := h687
    replace h688 : TyC dc r678 := h688
    replace h689 : r678 ≤ 2050 := h689
    replace h690 : ChE B nd c665 ty ty684 mn mn685 := h690
    replace h691 : mnN B nd mn685 := h691
    replace h692 : If (fa679 = 0) (Typ B dc fd md nd ty684 mn685 vt sc k9 c665) := h692
    replace h693 : ty684 c665 = nI r678 := h693
    obtain rfl : v677 = some (.int (nI r678)) := hw676
    have hP : va_P G.1 pCl (mW G h0 a (upd (upd (upd (upd (upd (upd (upd (upd (upd (upd (upd (upd (upd F 15 (nI fa679)) 16 pl680) 44 (nI fd)) 49 (nI md)) 73 (nI sc)) 74 (nI k9)) 75 (nI rs)) 76 (nI il)) 77 dn681) 78 wt682) 79 wf683) 80 ab) 81 ac) (updA (updA (updA (updA (updA B 14 nc) 17 ty684) 18 mn685) 48 vn) 49 vt)) _ := mW_to (F := F) (l1 := [(15, (nI fa)), (44, (nI fd)), (49, (nI md)), (73, (nI sc)), (74, (nI k9)), (75, (nI rs)), (76, (nI il)), (77, dn), (78, wt), (79, wf), (80, ab), (81, ac), (15, (nI fa679)), (16, pl680), (44, (nI fd)), (49, (nI md)), (73, (nI sc)), (74, (nI k9)), (77, dn681), (78, wt682), (79, wf683)]) (l2 := [(15, (nI fa679)), (16, pl680), (44, (nI fd)), (49, (nI md)), (73, (nI sc)), (74, (nI k9)), (75, (nI rs)), (76, (nI il)), (77, dn681), (78, wt682), (79, wf683), (80, ab), (81, ac)]) (V := [(nI fa679), (nI fd), (nI md), (nI sc), (nI k9), (nI rs), (nI il), dn681, wt682, wf683, ab, ac, (nI fa679), pl680, (nI fd), (nI md), (nI sc), (nI k9), dn681, wt682, wf683, (nI fa679), pl680, (nI fd), (nI md), (nI sc), (nI k9), (nI rs), (nI il), dn681, wt682, wf683, ab, ac]) rfl rfl rfl hP
    have hD : va_D A (mW G h0 a (upd (upd (upd (upd (upd (upd (upd (upd (upd (upd (upd (upd (upd F 15 (nI fa679)) 16 pl680) 44 (nI fd)) 49 (nI md)) 73 (nI sc)) 74 (nI k9)) 75 (nI rs)) 76 (nI il)) 77 dn681) 78 wt682) 79 wf683) 80 ab) 81 ac) (updA (updA (updA (updA (updA B 14 nc) 17 ty684) 18 mn685) 48 vn) 49 vt)) := mW_D hD
    refine W.widen (k := 0) (n := 0) (Nat.le_of_ble_eq_true rfl) (Nat.le_of_ble_eq_true rfl) ?_
    refine W.eq (g2 := F0 m 391 ls [.int (nI r678)]) rfl ?_
    have hch694 : ChS B nd n9 ty ty684 mn mn685 nc nc := (ChS.trans ChS.rfl (ChS.kid (ChS.ofE (nc := nc) h690) (by omega) hp668))
    have hsl695 : If (fa679 = 0) (slP B n9 (sc, il, ev) (fun c e9 => TyS B dc fd md nd ty684 mn685 nc k9 rs c e9) 40 1) := (fun e => slP.one (by decide) (by omega) e666 (TyS.ofTyp (nc := nc) (rs := rs) (e := (sc, il, ev)) hF (by omega) h667 (show kcl 1 _ = true from hc670) (h692 e) hve))
    refine lv_istore_n (lv' := [(2, .int (nI r678)), (0, .ref h0), (1, .int (nI n9))]) hx hb dX12_lookStatement_391 rfl hl (by decide) rfl (fun ls hl => ?_)
    refine lv_aload_n hx hb dX12_lookStatement_392 rfl (lv_at hl 1 rfl) ?_
    refine lv_iload_n hx hb dX12_lookStatement_393 rfl (lv_at hl 0 rfl) ?_
    refine pc_SN (G := G) (As := [.int (nI r678)]) (rest := [.ref h0]) hx hb hml hown hq hE hX pX0_al hP hS hA hl.1 (s_isClassType l G r678 (by omega)) (gS pw_1786 pw_1787 pw_1523 pw_1781) hS_X12_isClassType rfl (Nat.le_of_ble_eq_true rfl) dX12_lookStatement_394 ⟨Nat.le_of_ble_eq_true rfl, Nat.le_of_ble_eq_true rfl⟩ ⟨(by show 2 + 1 ≤ (4 * z9 + 14); omega), (by show 8 + (1 + 11) + 60 ≤ (160 * z9 + 1700); omega)⟩ (fun v698 u696 H locs hw697 hP hS => ?_)
    obtain ⟨r699, rfl, h700, h701, h702, h703⟩ := hw697
    refine W.widen (k := 0) (n := 0) (Nat.le_of_ble_eq_true rfl) (Nat.le_of_ble_eq_true rfl) ?_
    refine W.eq (g2 := F0 m 397 ls [.int (nI r699), .ref h0]) rfl ?_
    refine lv_if_eq (tgt := 427) hx hb dX12_lookStatement_397 (by decide) (fun c704 => ?_) (fun c704 => ?_)
    · have n705 : r699 = 0 := (nI_eq (a := r699) (b := 0) (by omega) (by omega)).mp c704
      refine lv_iconst (v := 0) hx hb dX12_lookStatement_427 (by decide) ?_
      refine lv_bipush (v := 11) hx hb dX12_lookStatement_428 (by decide) ?_
      refine lv_aload_n hx hb dX12_lookStatement_430 rfl (lv_at hl 1 rfl) ?_
      refine r_get (v := .ref (a 10)) hx hb hown hq hE hP 18 41 tFX12_18 (by decide) pw_1440 rfl dX12_lookStatement_431 ?_
      refine lv_aload_n hx hb dX12_lookStatement_434 rfl (lv_at hl 1 rfl) ?_
      refine r_get (v := .ref (a 12)) hx hb hown hq hE hP 20 47 tFX12_20 (by decide) pw_1442 rfl dX12_lookStatement_435 ?_
      refine lv_iload_n hx hb dX12_lookStatement_438 rfl (lv_at hl 2 rfl) ?_
      refine r_ldi (f := (B 12)) (j := n9) hx hb hE hP 12 (ma_12 G a _) rfl (by omega) (by decide) dX12_lookStatement_439 ?_
      refine lv_topi (fun x706 e707 => ?_)
      obtain rfl : x706 = nI c665 := e707.trans e666
      refine r_ldi (f := (B 10)) (j := c665) hx hb hE hP 10 (ma_10 G a _) rfl (by omega) (by decide) dX12_lookStatement_440 ?_
      obtain ⟨⟨t708, e709, h710⟩, -⟩ := hF c665 h667
      refine lv_topi (fun x711 e712 => ?_)
      obtain rfl : x711 = nI t708 := e712.trans e709
      have hP : va_P G.1 pCl (mW G h0 a (upd (upd (upd (upd (upd (upd (upd (upd (upd (upd (upd (upd (upd (upd F 15 (nI fa679)) 16 pl680) 44 (nI fd)) 49 (nI md)) 73 (nI sc)) 74 (nI k9)) 75 (nI rs)) 76 (nI il)) 77 dn681) 78 wt682) 79 wf683) 80 ab) 81 ac) 15 (nI fa679)) (updA (updA (updA (updA (updA B 14 nc) 17 ty684) 18 mn685) 48 vn) 49 vt)) _ := hP
      have hD : va_D A (mW G h0 a (upd (upd (upd (upd (upd (upd (upd (upd (upd (upd (upd (upd (upd (upd F 15 (nI fa679)) 16 pl680) 44 (nI fd)) 49 (nI md)) 73 (nI sc)) 74 (nI k9)) 75 (nI rs)) 76 (nI il)) 77 dn681) 78 wt682) 79 wf683) 80 ab) 81 ac) 15 (nI fa679)) (updA (updA (updA (updA (updA B 14 nc) 17 ty684) 18 mn685) 48 vn) 49 vt)) := mW_D hD
      refine pc_V0 (G := G) (As := [.int (nI 0), .int (nI 11), .int (nI t708)]) (rest := []) hx hb hml hown hq hE hX pX0_al hP hD hS hA hl.1 (R_judgeL l G h0 a (upd (upd (upd (upd (upd (upd (upd (upd (upd (upd (upd (upd (upd F 15 (nI fa679)) 16 pl680) 44 (nI fd)) 49 (nI md)) 73 (nI sc)) 74 (nI k9)) 75 (nI rs)) 76 (nI il)) 77 dn681) 78 wt682) 79 wf683) 80 ab) 81 ac) (updA (updA (updA (updA (updA B 14 nc) 17 ty684) 18 mn685) 48 vn) 49 vt) 0 11 t708 fa679 (by omega) (by omega) (by omega) (by omega)) (gV pw_1798 pw_1799 pw_1800 pw_1523 pw_1793) hV_X12_judge 0 9 rfl rfl rfl rfl (Nat.le_of_ble_eq_true rfl) dX12_lookStatement_441 ⟨Nat.le_of_ble_eq_true rfl, Nat.le_of_ble_eq_true rfl⟩ ⟨(by show 3 + 1 ≤ (4 * z9 + 14); omega), (by show 8 + (4 + 11) + 82 ≤ (160 * z9 + 1700); omega)⟩ (fun v715 u713 H locs hw714 hP hD hS => ?_)
      obtain ⟨r716, fa717, pl718⟩ := u713
      obtain ⟨hw714, h719, h720, h721, h722, h723, h724, h725⟩ := hw714
      replace h719 : r716 ≤ 1 := h719
      replace h720 : fa679 ≤ fa717 := h720
      replace h721 : fa717 ≤ 15 := h721
      replace h722 : fa717 + 15 * r716 ≤ 15 := h722
      replace h723 : 1 ≤ r716 + fa717 := h723
      replace h724 : 1 ≤ 0 + fa717 := h724
      replace h725 : fa717 ≤ fa679 + 15 * (1 - 0) := h725
      obtain rfl : v715 = some (.int (nI r716)) := hw714
      have hP : va_P G.1 pCl (mW G h0 a (upd (upd (upd (upd (upd (upd (upd (upd (upd (upd (upd (upd (upd F 15 (nI fa717)) 16 pl718) 44 (nI fd)) 49 (nI md)) 73 (nI sc)) 74 (nI k9)) 75 (nI rs)) 76 (nI il)) 77 dn681) 78 wt682) 79 wf683) 80 ab) 81 ac) (updA (updA (updA (updA (updA B 14 nc) 17 ty684) 18 mn685) 48 vn) 49 vt)) _ := mW_to (F := F) (l1 := [(15, (nI fa679)), (16, pl680), (44, (nI fd)), (49, (nI md)), (73, (nI sc)), (74, (nI k9)), (75, (nI rs)), (76, (nI il)), (77, dn681), (78, wt682), (79, wf683), (80, ab), (81, ac), (15, (nI fa717)), (16, pl718)]) (l2 := [(15, (nI fa717)), (16, pl718), (44, (nI fd)), (49, (nI md)), (73, (nI sc)), (74, (nI k9)), (75, (nI rs)), (76, (nI il)), (77, dn681), (78, wt682), (79, wf683), (80, ab), (81, ac)]) (V := [(nI fa717), pl718, (nI fd), (nI md), (nI sc), (nI k9), (nI rs), (nI il), dn681, wt682, wf683, ab, ac, (nI fa717), pl718, (nI fa717), pl718, (nI fd), (nI md), (nI sc), (nI k9), (nI rs), (nI il), dn681, wt682, wf683, ab, ac]) rfl rfl rfl hP
      have hD : va_D A (mW G h0 a (upd (upd (upd (upd (upd (upd (upd (upd (upd (upd (upd (upd (upd F 15 (nI fa717)) 16 pl718) 44 (nI fd)) 49 (nI md)) 73 (nI sc)) 74 (nI k9)) 75 (nI rs)) 76 (nI il)) 77 dn681) 78 wt682) 79 wf683) 80 ab) 81 ac) (updA (updA (updA (updA (updA B 14 nc) 17 ty684) 18 mn685) 48 vn) 49 vt)) := mW_D hD
      refine W.widen (k := 0) (n := 0) (Nat.le_of_ble_eq_true rfl) (Nat.le_of_ble_eq_true rfl) ?_
      refine W.eq (g2 := F0 m 444 ls [.int (nI r716)]) rfl ?_
      refine lv_pop hx hb dX12_lookStatement_444 rfl ?_
      refine lv_aload_n hx hb dX12_lookStatement_445 rfl (lv_at hl 1 rfl) ?_
      refine lv_iconst (v := (-1)) hx hb dX12_lookStatement_446 (by decide) ?_
      refine r_put (v := (-1)) (ty := .int) hx hb hown hq hE hP hD hS 77 544 tFX12_77 (by decide) pw_1796 (by decide) rfl rfl (ms_77 a _ _) dX12_lookStatement_447 (fun H locs hP hD hS => ?_)
      refine lv_goto (tgt := 475) hx hb dX12_lookStatement_450 (by decide) ?_
      have hz726 : fa ≤ fa717 := (by omega)
      have hz727 : fa717 ≤ 15 := (by omega)
      have hz728 : sc ≤ sc := (by omega)
      have hz729 : sc ≤ 30 := (by omega)
      have hz730 : ChS B nd n9 ty ty684 mn mn685 nc nc := hch694
      have hz731 : mnN B nd mn685 := h691
      have hz732 : ∀ i : Nat, i < nd → ¬ (B) 9 i = 44 → nc i = (B) 14 i := hnc
      have hz733 : ∀ i : Nat, i < sc → vt i = vt i := (fun i h => rfl)
      have hz734 : If (fa717 = 0) (TyS B dc fd md nd ty684 mn685 nc k9 rs n9 (sc, il, ev) ∧ sc = (aft B n9 (sc, il, ev)).1 ∧ ∀ i : Nat, i < sc → vt i = (aft B n9 (sc, il, ev)).2.2 i ∧ tyOK dc (vt i)) := (fun e => absurd e (by omega))
      have hP : va_P G.1 pCl (mW G h0 a (upd (upd (upd (upd (upd (upd (upd (upd (upd (upd (upd (upd (upd F 15 (nI fa717)) 16 pl718) 44 (nI fd)) 49 (nI md)) 73 (nI sc)) 74 (nI k9)) 75 (nI rs)) 76 (nI il)) 77 ((-1) : Int32)) 78 wt682) 79 wf683) 80 ab) 81 ac) (updA (updA (updA (updA (updA B 14 nc) 17 ty684) 18 mn685) 48 vn) 49 vt)) _ := mW_to (F := F) (l1 := [(15, (nI fa717)), (16, pl718), (44, (nI fd)), (49, (nI md)), (73, (nI sc)), (74, (nI k9)), (75, (nI rs)), (76, (nI il)), (77, dn681), (78, wt682), (79, wf683), (80, ab), (81, ac), (77, (-1))]) (l2 := [(15, (nI fa717)), (16, pl718), (44, (nI fd)), (49, (nI md)), (73, (nI sc)), (74, (nI k9)), (75, (nI rs)), (76, (nI il)), (77, ((-1) : Int32)), (78, wt682), (79, wf683), (80, ab), (81, ac)]) (V := [(nI fa717), pl718, (nI fd), (nI md), (nI sc), (nI k9), (nI rs), (nI il), ((-1) : Int32), wt682, wf683, ab, ac, ((-1) : Int32), (nI fa717), pl718, (nI fd), (nI md), (nI sc), (nI k9), (nI rs), (nI il), ((-1) : Int32), wt682, wf683, ab, ac]) rfl rfl rfl hP
      have hD : va_D A (mW G h0 a (upd (upd (upd (upd (upd (upd (upd (upd (upd (upd (upd (upd (upd F 15 (nI fa717)) 16 pl718) 44 (nI fd)) 49 (nI md)) 73 (nI sc)) 74 (nI k9)) 75 (nI rs)) 76 (nI il)) 77 ((-1) : Int32)) 78 wt682) 79 wf683) 80 ab) 81 ac) (updA (updA (updA (updA (updA B 14 nc) 17 ty684) 18 mn685) 48 vn) 49 vt)) := mW_D hD
      exact W.vret hx hb hr (fun t9 ht9 hW9 => ⟨⟨_, (fa717, sc, pl718, ((-1) : Int32), wt682, wf683, ab, ac, nc, ty684, mn685, vn, vt), rfl, ⟨rfl, hz726, hz727, hz728, hz729, hz730, hz731, hz732, hz733, hz734⟩, by rw [ht9]; exact hP, hD⟩, hS.F ht9⟩) hS.2.2 dX12_lookStatement_475
    · have n735 : ¬ (r699 = 0) := fun h9 => c704 ((nI_eq (a := r699) (b := 0) (by omega) (by omega)).mpr h9)
      have h1c := TyC.cls h688 (by omega) (by omega)
      refine lv_aload_n hx hb dX12_lookStatement_400 rfl (lv_at hl 1 rfl) ?_
      refine r_get (v := .ref (a 26)) hx hb hown hq hE hP 38 90 tFX12_38 (by decide) pw_1457 rfl dX12_lookStatement_401 ?_
      refine lv_iload_n hx hb dX12_lookStatement_404 rfl (lv_at hl 0 rfl) ?_
      refine pc_SN (G := G) (As := [.int (nI r678)]) (rest := [.ref (a 26), .ref h0]) hx hb hml hown hq hE hX pX0_al hP hS hA hl.1 (s_isClassType l G r678 (by omega)) (gS pw_1786 pw_1787 pw_1523 pw_1781) hS_X12_isClassType rfl (Nat.le_of_ble_eq_true rfl) dX12_lookStatement_405 ⟨Nat.le_of_ble_eq_true rfl, Nat.le_of_ble_eq_true rfl⟩ ⟨(by show 2 + 1 ≤ (4 * z9 + 14); omega), (by show 8 + (1 + 11) + 60 ≤ (160 * z9 + 1700); omega)⟩ (fun v738 u736 H locs hw737 hP hS => ?_)
      obtain ⟨r739, rfl, h740, h741, h742, h743⟩ := hw737
      refine W.widen (k := 0) (n := 0) (Nat.le_of_ble_eq_true rfl) (Nat.le_of_ble_eq_true rfl) ?_
      refine W.eq (g2 := F0 m 408 ls [.int (nI r739), .ref (a 26), .ref h0]) rfl ?_
      refine lv_if_eq (tgt := 418) hx hb dX12_lookStatement_408 (by decide) (fun c744 => absurd (h743 ((nI_eq (a := r739) (b := 0) (by omega) (by omega)).mp c744)) (by omega)) (fun c744 => ?_)
      refine lv_iload_n hx hb dX12_lookStatement_411 rfl (lv_at hl 0 rfl) ?_
      refine lv_bipush (v := 10) hx hb dX12_lookStatement_412 (by decide) ?_
      refine lv_isub hx hb dX12_lookStatement_414 ?_
      refine lv_topi (fun x745 e746 => ?_)
      obtain rfl : x745 = nI (r678 - 10) := e746.trans (nI_subN (a := 10) (b := r678) (by omega))
      refine lv_goto (tgt := 419) hx hb dX12_lookStatement_415 (by decide) ?_
      refine r_ldz (f := (B 26)) (j := (r678 - 10)) hx hb hE hP 26 (ma_26 G a _) rfl (by omega) (by decide) dX12_lookStatement_419 ?_
      refine lv_if_ne (tgt := 427) hx hb dX12_lookStatement_420 (by decide) (fun c747 => ?_) (fun c747 => ?_)
      · refine lv_iconst (v := 0) hx hb dX12_lookStatement_427 (by decide) ?_
        refine lv_bipush (v := 11) hx hb dX12_lookStatement_428 (by decide) ?_
        refine lv_aload_n hx hb dX12_lookStatement_430 rfl (lv_at hl 1 rfl) ?_
        refine r_get (v := .ref (a 10)) hx hb hown hq hE hP 18 41 tFX12_18 (by decide) pw_1440 rfl dX12_lookStatement_431 ?_
        refine lv_aload_n hx hb dX12_lookStatement_434 rfl (lv_at hl 1 rfl) ?_
        refine r_get (v := .ref (a 12)) hx hb hown hq hE hP 20 47 tFX12_20 (by decide) pw_1442 rfl dX12_lookStatement_435 ?_
        refine lv_iload_n hx hb dX12_lookStatement_438 rfl (lv_at hl 2 rfl) ?_
        refine r_ldi (f := (B 12)) (j := n9) hx hb hE hP 12 (ma_12 G a _) rfl (by omega) (by decide) dX12_lookStatement_439 ?_
        refine lv_topi (fun x748 e749 => ?_)
        obtain rfl : x748 = nI c665 := e749.trans e666
        refine r_ldi (f := (B 10)) (j := c665) hx hb hE hP 10 (ma_10 G a _) rfl (by omega) (by decide) dX12_lookStatement_440 ?_
        obtain ⟨⟨t750, e751, h752⟩, -⟩ := hF c665 h667
        refine lv_topi (fun x753 e754 => ?_)
        obtain rfl : x753 = nI t750 := e754.trans e751
        have hP : va_P G.1 pCl (mW G h0 a (upd (upd (upd (upd (upd (upd (upd (upd (upd (upd (upd (upd (upd (upd F 15 (nI fa679)) 16 pl680) 44 (nI fd)) 49 (nI md)) 73 (nI sc)) 74 (nI k9)) 75 (nI rs)) 76 (nI il)) 77 dn681) 78 wt682) 79 wf683) 80 ab) 81 ac) 15 (nI fa679)) (updA (updA (updA (updA (updA B 14 nc) 17 ty684) 18 mn685) 48 vn) 49 vt)) _ := hP
        have hD : va_D A (mW G h0 a (upd (upd (upd (upd (upd (upd (upd (upd (upd (upd (upd (upd (upd (upd F 15 (nI fa679)) 16 pl680) 44 (nI fd)) 49 (nI md)) 73 (nI sc)) 74 (nI k9)) 75 (nI rs)) 76 (nI il)) 77 dn681) 78 wt682) 79 wf683) 80 ab) 81 ac) 15 (nI fa679)) (updA (updA (updA (updA (updA B 14 nc) 17 ty684) 18 mn685) 48 vn) 49 vt)) := mW_D hD
        refine pc_V0 (G := G) (As := [.int (nI 0), .int (nI 11), .int (nI t750)]) (rest := []) hx hb hml hown hq hE hX pX0_al hP hD hS hA hl.1 (R_judgeL l G h0 a (upd (upd (upd (upd (upd (upd (upd (upd (upd (upd (upd (upd (upd F 15 (nI fa679)) 16 pl680) 44 (nI fd)) 49 (nI md)) 73 (nI sc)) 74 (nI k9)) 75 (nI rs)) 76 (nI il)) 77 dn681) 78 wt682) 79 wf683) 80 ab) 81 ac) (updA (updA (updA (updA (updA B 14 nc) 17 ty684) 18 mn685) 48 vn) 49 vt) 0 11 t750 fa679 (by omega) (by omega) (by omega) (by omega)) (gV pw_1798 pw_1799 pw_1800 pw_1523 pw_1793) hV_X12_judge 0 9 rfl rfl rfl rfl (Nat.le_of_ble_eq_true rfl) dX12_lookStatement_441 ⟨Nat.le_of_ble_eq_true rfl, Nat.le_of_ble_eq_true rfl⟩ ⟨(by show 3 + 1 ≤ (4 * z9 + 14); omega), (by show 8 + (4 + 11) + 82 ≤ (160 * z9 + 1700); omega)⟩ (fun v757 u755 H locs hw756 hP hD hS => ?_)
        obtain ⟨r758, fa759, pl760⟩ := u755
        obtain ⟨hw756, h761, h762, h763, h764, h765, h766, h767⟩ := hw756
        replace h761 : r758 ≤ 1 := h761
        replace h762 : fa679 ≤ fa759 := h762
        replace h763 : fa759 ≤ 15 := h763
        replace h764 : fa759 + 15 * r758 ≤ 15 := h764
        replace h765 : 1 ≤ r758 + fa759 := h765
        replace h766 : 1 ≤ 0 + fa759 := h766
        replace h767 : fa759 ≤ fa679 + 15 * (1 - 0) := h767
        obtain rfl : v757 = some (.int (nI r758)) := hw756
        have hP : va_P G.1 pCl (mW G h0 a (upd (upd (upd (upd (upd (upd (upd (upd (upd (upd (upd (upd (upd F 15 (nI fa759)) 16 pl760) 44 (nI fd)) 49 (nI md)) 73 (nI sc)) 74 (nI k9)) 75 (nI rs)) 76 (nI il)) 77 dn681) 78 wt682) 79 wf683) 80 ab) 81 ac) (updA (updA (updA (updA (updA B 14 nc) 17 ty684) 18 mn685) 48 vn) 49 vt)) _ := mW_to (F := F) (l1 := [(15, (nI fa679)), (16, pl680), (44, (nI fd)), (49, (nI md)), (73, (nI sc)), (74, (nI k9)), (75, (nI rs)), (76, (nI il)), (77, dn681), (78, wt682), (79, wf683), (80, ab), (81, ac), (15, (nI fa759)), (16, pl760)]) (l2 := [(15, (nI fa759)), (16, pl760), (44, (nI fd)), (49, (nI md)), (73, (nI sc)), (74, (nI k9)), (75, (nI rs)), (76, (nI il)), (77, dn681), (78, wt682), (79, wf683), (80, ab), (81, ac)]) (V := [(nI fa759), pl760, (nI fd), (nI md), (nI sc), (nI k9), (nI rs), (nI il), dn681, wt682, wf683, ab, ac, (nI fa759), pl760, (nI fa759), pl760, (nI fd), (nI md), (nI sc), (nI k9), (nI rs), (nI il), dn681, wt682, wf683, ab, ac]) rfl rfl rfl hP
        have hD : va_D A (mW G h0 a (upd (upd (upd (upd (upd (upd (upd (upd (upd (upd (upd (upd (upd F 15 (nI fa759)) 16 pl760) 44 (nI fd)) 49 (nI md)) 73 (nI sc)) 74 (nI k9)) 75 (nI rs)) 76 (nI il)) 77 dn681) 78 wt682) 79 wf683) 80 ab) 81 ac) (updA (updA (updA (updA (updA B 14 nc) 17 ty684) 18 mn685) 48 vn) 49 vt)) := mW_D hD
        refine W.widen (k := 0) (n := 0) (Nat.le_of_ble_eq_true rfl) (Nat.le_of_ble_eq_true rfl) ?_
        refine W.eq (g2 := F0 m 444 ls [.int (nI r758)]) rfl ?_
        refine lv_pop hx hb dX12_lookStatement_444 rfl ?_
        refine lv_aload_n hx hb dX12_lookStatement_445 rfl (lv_at hl 1 rfl) ?_
        refine lv_iconst (v := (-1)) hx hb dX12_lookStatement_446 (by decide) ?_
        refine r_put (v := (-1)) (ty := .int) hx hb hown hq hE hP hD hS 77 544 tFX12_77 (by decide) pw_1796 (by decide) rfl rfl (ms_77 a _ _) dX12_lookStatement_447 (fun H locs hP hD hS => ?_)
        refine lv_goto (tgt := 475) hx hb dX12_lookStatement_450 (by decide) ?_
        have hz768 : fa ≤ fa759 := (by omega)
        have hz769 : fa759 ≤ 15 := (by omega)
        have hz770 : sc ≤ sc := (by omega)
        have hz771 : sc ≤ 30 := (by omega)
        have hz772 : ChS B nd n9 ty ty684 mn mn685 nc nc := hch694
        have hz773 : mnN B nd mn685 := h691
        have hz774 : ∀ i : Nat, i < nd → ¬ (B) 9 i = 44 → nc i = (B) 14 i := hnc
        have hz775 : ∀ i : Nat, i < sc → vt i = vt i := (fun i h => rfl)
        have hz776 : If (fa759 = 0) (TyS B dc fd md nd ty684 mn685 nc k9 rs n9 (sc, il, ev) ∧ sc = (aft B n9 (sc, il, ev)).1 ∧ ∀ i : Nat, i < sc → vt i = (aft B n9 (sc, il, ev)).2.2 i ∧ tyOK dc (vt i)) := (fun e => absurd e (by omega))
        have hP : va_P G.1 pCl (mW G h0 a (upd (upd (upd (upd (upd (upd (upd (upd (upd (upd (upd (upd (upd F 15 (nI fa759)) 16 pl760) 44 (nI fd)) 49 (nI md)) 73 (nI sc)) 74 (nI k9)) 75 (nI rs)) 76 (nI il)) 77 ((-1) : Int32)) 78 wt682) 79 wf683) 80 ab) 81 ac) (updA (updA (updA (updA (updA B 14 nc) 17 ty684) 18 mn685) 48 vn) 49 vt)) _ := mW_to (F := F) (l1 := [(15, (nI fa759)), (16, pl760), (44, (nI fd)), (49, (nI md)), (73, (nI sc)), (74, (nI k9)), (75, (nI rs)), (76, (nI il)), (77, dn681), (78, wt682), (79, wf683), (80, ab), (81, ac), (77, (-1))]) (l2 := [(15, (nI fa759)), (16, pl760), (44, (nI fd)), (49, (nI md)), (73, (nI sc)), (74, (nI k9)), (75, (nI rs)), (76, (nI il)), (77, ((-1) : Int32)), (78, wt682), (79, wf683), (80, ab), (81, ac)]) (V := [(nI fa759), pl760, (nI fd), (nI md), (nI sc), (nI k9), (nI rs), (nI il), ((-1) : Int32), wt682, wf683, ab, ac, ((-1) : Int32), (nI fa759), pl760, (nI fd), (nI md), (nI sc), (nI k9), (nI rs), (nI il), ((-1) : Int32), wt682, wf683, ab, ac]) rfl rfl rfl hP
        have hD : va_D A (mW G h0 a (upd (upd (upd (upd (upd (upd (upd (upd (upd (upd (upd (upd (upd F 15 (nI fa759)) 16 pl760) 44 (nI fd)) 49 (nI md)) 73 (nI sc)) 74 (nI k9)) 75 (nI rs)) 76 (nI il)) 77 ((-1) : Int32)) 78 wt682) 79 wf683) 80 ab) 81 ac) (updA (updA (updA (updA (updA B 14 nc) 17 ty684) 18 mn685) 48 vn) 49 vt)) := mW_D hD
        exact W.vret hx hb hr (fun t9 ht9 hW9 => ⟨⟨_, (fa759, sc, pl760, ((-1) : Int32), wt682, wf683, ab, ac, nc, ty684, mn685, vn, vt), rfl, ⟨rfl, hz768, hz769, hz770, hz771, hz772, hz773, hz774, hz775, hz776⟩, by rw [ht9]; exact hP, hD⟩, hS.F ht9⟩) hS.2.2 dX12_lookStatement_475
      · refine lv_iconst (v := 1) hx hb dX12_lookStatement_423 (by decide) ?_
        refine lv_goto (tgt := 428) hx hb dX12_lookStatement_424 (by decide) ?_
        refine lv_bipush (v := 11) hx hb dX12_lookStatement_428 (by decide) ?_
        refine lv_aload_n hx hb dX12_lookStatement_430 rfl (lv_at hl 1 rfl) ?_
        refine r_get (v := .ref (a 10)) hx hb hown hq hE hP 18 41 tFX12_18 (by decide) pw_1440 rfl dX12_lookStatement_431 ?_
        refine lv_aload_n hx hb dX12_lookStatement_434 rfl (lv_at hl 1 rfl) ?_
        refine r_get (v := .ref (a 12)) hx hb hown hq hE hP 20 47 tFX12_20 (by decide) pw_1442 rfl dX12_lookStatement_435 ?_
        refine lv_iload_n hx hb dX12_lookStatement_438 rfl (lv_at hl 2 rfl) ?_
        refine r_ldi (f := (B 12)) (j := n9) hx hb hE hP 12 (ma_12 G a _) rfl (by omega) (by decide) dX12_lookStatement_439 ?_
        refine lv_topi (fun x777 e778 => ?_)
        obtain rfl : x777 = nI c665 := e778.trans e666
        refine r_ldi (f := (B 10)) (j := c665) hx hb hE hP 10 (ma_10 G a _) rfl (by omega) (by decide) dX12_lookStatement_440 ?_
        obtain ⟨⟨t779, e780, h781⟩, -⟩ := hF c665 h667
        refine lv_topi (fun x782 e783 => ?_)
        obtain rfl : x782 = nI t779 := e783.trans e780
        have hP : va_P G.1 pCl (mW G h0 a (upd (upd (upd (upd (upd (upd (upd (upd (upd (upd (upd (upd (upd (upd F 15 (nI fa679)) 16 pl680) 44 (nI fd)) 49 (nI md)) 73 (nI sc)) 74 (nI k9)) 75 (nI rs)) 76 (nI il)) 77 dn681) 78 wt682) 79 wf683) 80 ab) 81 ac) 15 (nI fa679)) (updA (updA (updA (updA (updA B 14 nc) 17 ty684) 18 mn685) 48 vn) 49 vt)) _ := hP
        have hD : va_D A (mW G h0 a (upd (upd (upd (upd (upd (upd (upd (upd (upd (upd (upd (upd (upd (upd F 15 (nI fa679)) 16 pl680) 44 (nI fd)) 49 (nI md)) 73 (nI sc)) 74 (nI k9)) 75 (nI rs)) 76 (nI il)) 77 dn681) 78 wt682) 79 wf683) 80 ab) 81 ac) 15 (nI fa679)) (updA (updA (updA (updA (updA B 14 nc) 17 ty684) 18 mn685) 48 vn) 49 vt)) := mW_D hD
        refine pc_V0 (G := G) (As := [.int (nI 1), .int (nI 11), .int (nI t779)]) (rest := []) hx hb hml hown hq hE hX pX0_al hP hD hS hA hl.1 (R_judgeL l G h0 a (upd (upd (upd (upd (upd (upd (upd (upd (upd (upd (upd (upd (upd F 15 (nI fa679)) 16 pl680) 44 (nI fd)) 49 (nI md)) 73 (nI sc)) 74 (nI k9)) 75 (nI rs)) 76 (nI il)) 77 dn681) 78 wt682) 79 wf683) 80 ab) 81 ac) (updA (updA (updA (updA (updA B 14 nc) 17 ty684) 18 mn685) 48 vn) 49 vt) 1 11 t779 fa679 (by omega) (by omega) (by omega) (by omega)) (gV pw_1798 pw_1799 pw_1800 pw_1523 pw_1793) hV_X12_judge 0 9 rfl rfl rfl rfl (Nat.le_of_ble_eq_true rfl) dX12_lookStatement_441 ⟨Nat.le_of_ble_eq_true rfl, Nat.le_of_ble_eq_true rfl⟩ ⟨(by show 3 + 1 ≤ (4 * z9 + 14); omega), (by show 8 + (4 + 11) + 82 ≤ (160 * z9 + 1700); omega)⟩ (fun v786 u784 H locs hw785 hP hD hS => ?_)
        obtain ⟨r787, fa788, pl789⟩ := u784
        obtain ⟨hw785, h790, h791, h792, h793, h794, h795, h796⟩ := hw785
        replace h790 : r787 ≤ 1 := h790
        replace h791 : fa679 ≤ fa788 := h791
        replace h792 : fa788 ≤ 15 := h792
        replace h793 : fa788 + 15 * r787 ≤ 15 := h793
        replace h794 : 1 ≤ r787 + fa788 := h794
        replace h795 : 1 ≤ 1 + fa788 := h795
        replace h796 : fa788 ≤ fa679 + 15 * (1 - 1) := h796
        obtain rfl : v786 = some (.int (nI r787)) := hw785
        have hP : va_P G.1 pCl (mW G h0 a (upd (upd (upd (upd (upd (upd (upd (upd (upd (upd (upd (upd (upd F 15 (nI fa788)) 16 pl789) 44 (nI fd)) 49 (nI md)) 73 (nI sc)) 74 (nI k9)) 75 (nI rs)) 76 (nI il)) 77 dn681) 78 wt682) 79 wf683) 80 ab) 81 ac) (updA (updA (updA (updA (updA B 14 nc) 17 ty684) 18 mn685) 48 vn) 49 vt)) _ := mW_to (F := F) (l1 := [(15, (nI fa679)), (16, pl680), (44, (nI fd)), (49, (nI md)), (73, (nI sc)), (74, (nI k9)), (75, (nI rs)), (76, (nI il)), (77, dn681), (78, wt682), (79, wf683), (80, ab), (81, ac), (15, (nI fa788)), (16, pl789)]) (l2 := [(15, (nI fa788)), (16, pl789), (44, (nI fd)), (49, (nI md)), (73, (nI sc)), (74, (nI k9)), (75, (nI rs)), (76, (nI il)), (77, dn681), (78, wt682), (79, wf683), (80, ab), (81, ac)]) (V := [(nI fa788), pl789, (nI fd), (nI md), (nI sc), (nI k9), (nI rs), (nI il), dn681, wt682, wf683, ab, ac, (nI fa788), pl789, (nI fa788), pl789, (nI fd), (nI md), (nI sc), (nI k9), (nI rs), (nI il), dn681, wt682, wf683, ab, ac]) rfl rfl rfl hP
        have hD : va_D A (mW G h0 a (upd (upd (upd (upd (upd (upd (upd (upd (upd (upd (upd (upd (upd F 15 (nI fa788)) 16 pl789) 44 (nI fd)) 49 (nI md)) 73 (nI sc)) 74 (nI k9)) 75 (nI rs)) 76 (nI il)) 77 dn681) 78 wt682) 79 wf683) 80 ab) 81 ac) (updA (updA (updA (updA (updA B 14 nc) 17 ty684) 18 mn685) 48 vn) 49 vt)) := mW_D hD
        refine W.widen (k := 0) (n := 0) (Nat.le_of_ble_eq_true rfl) (Nat.le_of_ble_eq_true rfl) ?_
        refine W.eq (g2 := F0 m 444 ls [.int (nI r787)]) rfl ?_
        refine lv_pop hx hb dX12_lookStatement_444 rfl ?_
        refine lv_aload_n hx hb dX12_lookStatement_445 rfl (lv_at hl 1 rfl) ?_
        refine lv_iconst (v := (-1)) hx hb dX12_lookStatement_446 (by decide) ?_
        refine r_put (v := (-1)) (ty := .int) hx hb hown hq hE hP hD hS 77 544 tFX12_77 (by decide) pw_1796 (by decide) rfl rfl (ms_77 a _ _) dX12_lookStatement_447 (fun H locs hP hD hS => ?_)
        refine lv_goto (tgt := 475) hx hb dX12_lookStatement_450 (by decide) ?_
        have hz797 : fa ≤ fa788 := (by omega)
        have hz798 : fa788 ≤ 15 := (by omega)
        have hz799 : sc ≤ sc := (by omega)
        have hz800 : sc ≤ 30 := (by omega)
        have hz801 : ChS B nd n9 ty ty684 mn mn685 nc nc := hch694
        have hz802 : mnN B nd mn685 := h691
        have hz803 : ∀ i : Nat, i < nd → ¬ (B) 9 i = 44 → nc i = (B) 14 i := hnc
        have hz804 : ∀ i : Nat, i < sc → vt i = vt i := (fun i h => rfl)
        have hz805 : If (fa788 = 0) (TyS B dc fd md nd ty684 mn685 nc k9 rs n9 (sc, il, ev) ∧ sc = (aft B n9 (sc, il, ev)).1 ∧ ∀ i : Nat, i < sc → vt i = (aft B n9 (sc, il, ev)).2.2 i ∧ tyOK dc (vt i)) := (fun e => ⟨TyS.of (steps (kk := 40) ek (by decide) (hsl695 (by omega)) (slP.no (by decide)) (slP.no (by decide)) (slP.no (by decide))) (LTX.st ek (by decide) (by decide) (show LSk B dc ty684 mn685 nc rs n9 (sc, il, ev) 40 from ⟨r678 - 10, by rw [hh671, h693, show 10 + (r678 - 10) = r678 by omega], by omega, c747⟩)), (by rw [(aft_no (by rw [ek]; decide))]), (fun i h => by rw [(aft_no (by rw [ek]; decide))]; exact ⟨hve i h, hvt i h⟩)⟩)
        have hP : va_P G.1 pCl (mW G h0 a (upd (upd (upd (upd (upd (upd (upd (upd (upd (upd (upd (upd (upd F 15 (nI fa788)) 16 pl789) 44 (nI fd)) 49 (nI md)) 73 (nI sc)) 74 (nI k9)) 75 (nI rs)) 76 (nI il)) 77 ((-1) : Int32)) 78 wt682) 79 wf683) 80 ab) 81 ac) (updA (updA (updA (updA (updA B 14 nc) 17 ty684) 18 mn685) 48 vn) 49 vt)) _ := mW_to (F := F) (l1 := [(15, (nI fa788)), (16, pl789), (44, (nI fd)), (49, (nI md)), (73, (nI sc)), (74, (nI k9)), (75, (nI rs)), (76, (nI il)), (77, dn681), (78, wt682), (79, wf683), (80, ab), (81, ac), (77, (-1))]) (l2 := [(15, (nI fa788)), (16, pl789), (44, (nI fd)), (49, (nI md)), (73, (nI sc)), (74, (nI k9)), (75, (nI rs)), (76, (nI il)), (77, ((-1) : Int32)), (78, wt682), (79, wf683), (80, ab), (81, ac)]) (V := [(nI fa788), pl789, (nI fd), (nI md), (nI sc), (nI k9), (nI rs), (nI il), ((-1) : Int32), wt682, wf683, ab, ac, ((-1) : Int32), (nI fa788), pl789, (nI fd), (nI md), (nI sc), (nI k9), (nI rs), (nI il), ((-1) : Int32), wt682, wf683, ab, ac]) rfl rfl rfl hP
        have hD : va_D A (mW G h0 a (upd (upd (upd (upd (upd (upd (upd (upd (upd (upd (upd (upd (upd F 15 (nI fa788)) 16 pl789) 44 (nI fd)) 49 (nI md)) 73 (nI sc)) 74 (nI k9)) 75 (nI rs)) 76 (nI il)) 77 ((-1) : Int32)) 78 wt682) 79 wf683) 80 ab) 81 ac) (updA (updA (updA (updA (updA B 14 nc) 17 ty684) 18 mn685) 48 vn) 49 vt)) := mW_D hD
        exact W.vret hx hb hr (fun t9 ht9 hW9 => ⟨⟨_, (fa788, sc, pl789, ((-1) : Int32), wt682, wf683, ab, ac, nc, ty684, mn685, vn, vt), rfl, ⟨rfl, hz797, hz798, hz799, hz800, hz801, hz802, hz803, hz804, hz805⟩, by rw [ht9]; exact hP, hD⟩, hS.F ht9⟩) hS.2.2 dX12_lookStatement_475
  · refine lv_topi (fun x806 e807 => ?_)
    obtain rfl : x806 = 41 := e807.trans ek
    refine lv_tableIn (tgt := 453) (off := 447) hx hb dX12_lookStatement_6 (by decide) (by decide) (by decide) (by decide) ?_
    refine lv_aload_n hx hb dX12_lookStatement_453 rfl (lv_at hl 0 rfl) ?_
    refine lv_iload_n hx hb dX12_lookStatement_454 rfl (lv_at hl 1 rfl) ?_
    have hP : va_P G.1 pCl (mW G h0 a (upd (upd (upd (upd (upd (upd (upd (upd (upd (upd (upd (upd (upd (upd (upd (upd (upd (upd (upd (upd (upd (upd (upd (upd F 15 (nI fa)) 44 (nI fd)) 49 (nI md)) 73 (nI sc)) 74 (nI k9)) 75 (nI rs)) 76 (nI il)) 77 dn) 78 wt) 79 wf) 80 ab) 81 ac) 15 (nI fa)) 44 (nI fd)) 49 (nI md)) 73 (nI sc)) 74 (nI k9)) 75 (nI rs)) 76 (nI il)) 77 dn) 78 wt) 79 wf) 80 ab) 81 ac) (updA (updA (updA (updA (updA B 14 nc) 17 ty) 18 mn) 48 vn) 49 vt)) _ := hP
    have hD : va_D A (mW G h0 a (upd (upd (upd (upd (upd (upd (upd (upd (upd (upd (upd (upd (upd (upd (upd (upd (upd (upd (upd (upd (upd (upd (upd (upd F 15 (nI fa)) 44 (nI fd)) 49 (nI md)) 73 (nI sc)) 74 (nI k9)) 75 (nI rs)) 76 (nI il)) 77 dn) 78 wt) 79 wf) 80 ab) 81 ac) 15 (nI fa)) 44 (nI fd)) 49 (nI md)) 73 (nI sc)) 74 (nI k9)) 75 (nI rs)) 76 (nI il)) 77 dn) 78 wt) 79 wf) 80 ab) 81 ac) (updA (updA (updA (updA (updA B 14 nc) 17 ty) 18 mn) 48 vn) 49 vt)) := mW_D hD
    refine pc_V0 (G := G) (As := [.int (nI n9)]) (rest := []) hx hb hml hown hq hE hX pX0_al hP hD hS hA hl.1 (L_lookTry l G h0 a (upd (upd (upd (upd (upd (upd (upd (upd (upd (upd (upd (upd F 15 (nI fa)) 44 (nI fd)) 49 (nI md)) 73 (nI sc)) 74 (nI k9)) 75 (nI rs)) 76 (nI il)) 77 dn) 78 wt) 79 wf) 80 ab) 81 ac) B n9 z9 fa sc il k9 rs nd T nm wr lz dc fd md pr bk gh dn wt wf ab ac nc ty mn vn vt ev hst hnm hn9 (by omega) (by omega) (by omega) hk9 hnc hmn (by omega) hrs (by omega) hmc hvt hve ek ihS) (gV pw_1901 pw_1902 pw_1903 pw_1523 pw_1904) hV_X12_lookTry 0 9 rfl rfl rfl rfl (Nat.le_of_ble_eq_true rfl) dX12_lookStatement_455 ⟨Nat.le_of_ble_eq_true rfl, Nat.le_of_ble_eq_true rfl⟩ ⟨(by show (4 * z9 + 13) + 1 ≤ (4 * z9 + 14); omega), (by show 8 + (6 + 11) + (160 * z9 + 1660) ≤ (160 * z9 + 1700); omega)⟩ (fun v810 u808 H locs hw809 hP hD hS => ?_)
    obtain ⟨fa811, sc812, pl813, dn814, wt815, wf816, ab817, ac818, nc819, ty820, mn821, vn822, vt823⟩ := u808
    obtain ⟨hw809, h824, h825, h826, h827, h828, h829, h830, h831, h832⟩ := hw809
    replace h824 : fa ≤ fa811 := h824
    replace h825 : fa811 ≤ 15 := h825
    replace h826 : sc ≤ sc812 := h826
    replace h827 : sc812 ≤ 30 := h827
    replace h828 : ChS B nd n9 ty ty820 mn mn821 nc nc819 := h828
    replace h829 : mnN B nd mn821 := h829
    replace h830 : ∀ i : Nat, i < nd → ¬ (B) 9 i = 44 → nc819 i = (B) 14 i := h830
    replace h831 : ∀ i : Nat, i < sc → vt823 i = vt i := h831
    replace h832 : If (fa811 = 0) (TyS B dc fd md nd ty820 mn821 nc819 k9 rs n9 (sc, il, ev) ∧ sc812 = (aft B n9 (sc, il, ev)).1 ∧ ∀ i : Nat, i < sc812 → vt823 i = (aft B n9 (sc, il, ev)).2.2 i ∧ tyOK dc (vt823 i)) := h832
    obtain rfl : v810 = none := hw809
    have hP : va_P G.1 pCl (mW G h0 a (upd (upd (upd (upd (upd (upd (upd (upd (upd (upd (upd (upd (upd F 15 (nI fa811)) 16 pl813) 44 (nI fd)) 49 (nI md)) 73 (nI sc812)) 74 (nI k9)) 75 (nI rs)) 76 (nI il)) 77 dn814) 78 wt815) 79 wf816) 80 ab817) 81 ac818) (updA (updA (updA (updA (updA B 14 nc819) 17 ty820) 18 mn821) 48 vn822) 49 vt823)) _ := mW_to (F := F) (l1 := [(15, (nI fa)), (44, (nI fd)), (49, (nI md)), (73, (nI sc)), (74, (nI k9)), (75, (nI rs)), (76, (nI il)), (77, dn), (78, wt), (79, wf), (80, ab), (81, ac), (15, (nI fa811)), (16, pl813), (44, (nI fd)), (49, (nI md)), (73, (nI sc812)), (74, (nI k9)), (75, (nI rs)), (76, (nI il)), (77, dn814), (78, wt815), (79, wf816), (80, ab817), (81, ac818)]) (l2 := [(15, (nI fa811)), (16, pl813), (44, (nI fd)), (49, (nI md)), (73, (nI sc812)), (74, (nI k9)), (75, (nI rs)), (76, (nI il)), (77, dn814), (78, wt815), (79, wf816), (80, ab817), (81, ac818)]) (V := [(nI fa811), (nI fd), (nI md), (nI sc812), (nI k9), (nI rs), (nI il), dn814, wt815, wf816, ab817, ac818, (nI fa811), pl813, (nI fd), (nI md), (nI sc812), (nI k9), (nI rs), (nI il), dn814, wt815, wf816, ab817, ac818, (nI fa811), pl813, (nI fd), (nI md), (nI sc812), (nI k9), (nI rs), (nI il), dn814, wt815, wf816, ab817, ac818]) rfl rfl rfl hP
    have hD : va_D A (mW G h0 a (upd (upd (upd (upd (upd (upd (upd (upd (upd (upd (upd (upd (upd F 15 (nI fa811)) 16 pl813) 44 (nI fd)) 49 (nI md)) 73 (nI sc812)) 74 (nI k9)) 75 (nI rs)) 76 (nI il)) 77 dn814) 78 wt815) 79 wf816) 80 ab817) 81 ac818) (updA (updA (updA (updA (updA B 14 nc819) 17 ty820) 18 mn821) 48 vn822) 49 vt823)) := mW_D hD
    refine W.widen (k := 0) (n := 0) (Nat.le_of_ble_eq_true rfl) (Nat.le_of_ble_eq_true rfl) ?_
    refine W.eq (g2 := F0 m 458 ls []) rfl ?_
    have hch833 : ChS B nd n9 ty ty820 mn mn821 nc nc819 := (ChS.trans ChS.rfl h828)
    refine lv_goto (tgt := 475) hx hb dX12_lookStatement_458 (by decide) ?_
    have hz834 : fa ≤ fa811 := (by omega)
    have hz835 : fa811 ≤ 15 := (by omega)
    have hz836 : sc ≤ sc812 := (by omega)
    have hz837 : sc812 ≤ 30 := (by omega)
    have hz838 : ChS B nd n9 ty ty820 mn mn821 nc nc819 := hch833
    have hz839 : mnN B nd mn821 := h829
    have hz840 : ∀ i : Nat, i < nd → ¬ (B) 9 i = 44 → nc819 i = (B) 14 i := h830
    have hz841 : ∀ i : Nat, i < sc → vt823 i = vt i := h831
    have hz842 : If (fa811 = 0) (TyS B dc fd md nd ty820 mn821 nc819 k9 rs n9 (sc, il, ev) ∧ sc812 = (aft B n9 (sc, il, ev)).1 ∧ ∀ i : Nat, i < sc812 → vt823 i = (aft B n9 (sc, il, ev)).2.2 i ∧ tyOK dc (vt823 i)) := (fun e => h832 (by omega))
    have hP : va_P G.1 pCl (mW G h0 a (upd (upd (upd (upd (upd (upd (upd (upd (upd (upd (upd (upd (upd F 15 (nI fa811)) 16 pl813) 44 (nI fd)) 49 (nI md)) 73 (nI sc812)) 74 (nI k9)) 75 (nI rs)) 76 (nI il)) 77 dn814) 78 wt815) 79 wf816) 80 ab817) 81 ac818) (updA (updA (updA (updA (updA B 14 nc819) 17 ty820) 18 mn821) 48 vn822) 49 vt823)) _ := hP
    have hD : va_D A (mW G h0 a (upd (upd (upd (upd (upd (upd (upd (upd (upd (upd (upd (upd (upd F 15 (nI fa811)) 16 pl813) 44 (nI fd)) 49 (nI md)) 73 (nI sc812)) 74 (nI k9)) 75 (nI rs)) 76 (nI il)) 77 dn814) 78 wt815) 79 wf816) 80 ab817) 81 ac818) (updA (updA (updA (updA (updA B 14 nc819) 17 ty820) 18 mn821) 48 vn822) 49 vt823)) := mW_D hD
    exact W.vret hx hb hr (fun t9 ht9 hW9 => ⟨⟨_, (fa811, sc812, pl813, dn814, wt815, wf816, ab817, ac818, nc819, ty820, mn821, vn822, vt823), rfl, ⟨rfl, hz834, hz835, hz836, hz837, hz838, hz839, hz840, hz841, hz842⟩, by rw [ht9]; exact hP, hD⟩, hS.F ht9⟩) hS.2.2 dX12_lookStatement_475
  · refine lv_topi (fun x843 e844 => ?_)
    obtain rfl : x843 = 42 := e844.trans ek
    refine lv_tableIn (tgt := 461) (off := 455) hx hb dX12_lookStatement_6 (by decide) (by decide) (by decide) (by decide) ?_
    refine lv_aload_n hx hb dX12_lookStatement_461 rfl (lv_at hl 0 rfl) ?_
    refine lv_aload_n hx hb dX12_lookStatement_462 rfl (lv_at hl 0 rfl) ?_
    refine r_get (v := .ref (a 12)) hx hb hown hq hE hP 20 47 tFX12_20 (by decide) pw_1442 rfl dX12_lookStatement_463 ?_
    refine lv_iload_n hx hb dX12_lookStatement_466 rfl (lv_at hl 1 rfl) ?_
    refine r_ldi (f := (B 12)) (j := n9) hx hb hE hP 12 (ma_12 G a _) rfl (by omega) (by decide) dX12_lookStatement_467 ?_
    obtain ⟨c845, e846, h847, hp848, h849, hc850, hh851, hg852⟩ := Fs2.kid (kk := 42) (s := 1) hF hn9 ek (by decide) (by decide) (by decide) (by decide) (by omega)
    refine lv_topi (fun x853 e854 => ?_)
    obtain rfl : x853 = nI c845 := e854.trans e846
    refine lv_iconst (v := 1) hx hb dX12_lookStatement_468 (by decide) ?_
    have hP : va_P G.1 pCl (mW G h0 a (upd (upd (upd (upd (upd (upd (upd (upd (upd (upd (upd (upd (upd (upd (upd (upd (upd (upd (upd (upd F 15 (nI fa)) 44 (nI fd)) 49 (nI md)) 73 (nI sc)) 74 (nI k9)) 75 (nI rs)) 76 (nI il)) 77 dn) 78 wt) 79 wf) 80 ab) 81 ac) 15 (nI fa)) 44 (nI fd)) 49 (nI md)) 73 (nI sc)) 74 (nI k9)) 77 dn) 78 wt) 79 wf) (updA (updA (updA (updA (updA B 14 nc) 17 ty) 18 mn) 48 vn) 49 vt)) _ := hP
    have hD : va_D A (mW G h0 a (upd (upd (upd (upd (upd (upd (upd (upd (upd (upd (upd (upd (upd (upd (upd (upd (upd (upd (upd (upd F 15 (nI fa)) 44 (nI fd)) 49 (nI md)) 73 (nI sc)) 74 (nI k9)) 75 (nI rs)) 76 (nI il)) 77 dn) 78 wt) 79 wf) 80 ab) 81 ac) 15 (nI fa)) 44 (nI fd)) 49 (nI md)) 73 (nI sc)) 74 (nI k9)) 77 dn) 78 wt) 79 wf) (updA (updA (updA (updA (updA B 14 nc) 17 ty) 18 mn) 48 vn) 49 vt)) := mW_D hD
    refine pc_V0 (G := G) (As := [.int (nI c845), .int (nI 1)]) (rest := []) hx hb hml hown hq hE hX pX0_al hP hD hS hA hl.1 ((LK_all l G (z9 - 1)).2.2 h0 a (upd (upd (upd (upd (upd (upd (upd (upd (upd (upd (upd (upd F 15 (nI fa)) 44 (nI fd)) 49 (nI md)) 73 (nI sc)) 74 (nI k9)) 75 (nI rs)) 76 (nI il)) 77 dn) 78 wt) 79 wf) 80 ab) 81 ac) B c845 fa sc k9 nd T nm wr lz dc fd md pr bk gh dn wt wf nc ty mn vn vt 1 hst hnm h847 (by omega) (by omega) (by omega) hk9 hnc hmn hvt (show kcl 1 _ = true from hc850) (by omega)) (gV pw_1826 pw_1827 pw_1828 pw_1523 pw_1865) hV_X12_wants 0 9 rfl rfl rfl rfl (Nat.le_of_ble_eq_true rfl) dX12_lookStatement_469 ⟨Nat.le_of_ble_eq_true rfl, Nat.le_of_ble_eq_true rfl⟩ ⟨(by show (4 * (z9 - 1) + 12) + 1 ≤ (4 * z9 + 14); omega), (by show 8 + (4 + 11) + (160 * (z9 - 1) + 1480) ≤ (160 * z9 + 1700); omega)⟩ (fun v857 u855 H locs hw856 hP hD hS => ?_)
    obtain ⟨fa858, pl859, dn860, wt861, wf862, ty863, mn864⟩ := u855
    obtain ⟨hw856, h865, h866, h867, h868, h869⟩ := hw856
    replace h865 : fa ≤ fa858 := h865
    replace h866 : fa858 ≤ 15 := h866
    replace h867 : ChE B nd c845 ty ty863 mn mn864 := h867
    replace h868 : mnN B nd mn864 := h868
    replace h869 : If (fa858 = 0) (Typ B dc fd md nd ty863 mn864 vt sc k9 c845 ∧ ty863 c845 = nI 1) := h869
    obtain rfl : v857 = none := hw856
    have hP : va_P G.1 pCl (mW G h0 a (upd (upd (upd (upd (upd (upd (upd (upd (upd (upd (upd (upd (upd F 15 (nI fa858)) 16 pl859) 44 (nI fd)) 49 (nI md)) 73 (nI sc)) 74 (nI k9)) 75 (nI rs)) 76 (nI il)) 77 dn860) 78 wt861) 79 wf862) 80 ab) 81 ac) (updA (updA (updA (updA (updA B 14 nc) 17 ty863) 18 mn864) 48 vn) 49 vt)) _ := mW_to (F := F) (l1 := [(15, (nI fa)), (44, (nI fd)), (49, (nI md)), (73, (nI sc)), (74, (nI k9)), (75, (nI rs)), (76, (nI il)), (77, dn), (78, wt), (79, wf), (80, ab), (81, ac), (15, (nI fa858)), (16, pl859), (44, (nI fd)), (49, (nI md)), (73, (nI sc)), (74, (nI k9)), (77, dn860), (78, wt861), (79, wf862)]) (l2 := [(15, (nI fa858)), (16, pl859), (44, (nI fd)), (49, (nI md)), (73, (nI sc)), (74, (nI k9)), (75, (nI rs)), (76, (nI il)), (77, dn860), (78, wt861), (79, wf862), (80, ab), (81, ac)]) (V := [(nI fa858), (nI fd), (nI md), (nI sc), (nI k9), (nI rs), (nI il), dn860, wt861, wf862, ab, ac, (nI fa858), pl859, (nI fd), (nI md), (nI sc), (nI k9), dn860, wt861, wf862, (nI fa858), pl859, (nI fd), (nI md), (nI sc), (nI k9), (nI rs), (nI il), dn860, wt861, wf862, ab, ac]) rfl rfl rfl hP
    have hD : va_D A (mW G h0 a (upd (upd (upd (upd (upd (upd (upd (upd (upd (upd (upd (upd (upd F 15 (nI fa858)) 16 pl859) 44 (nI fd)) 49 (nI md)) 73 (nI sc)) 74 (nI k9)) 75 (nI rs)) 76 (nI il)) 77 dn860) 78 wt861) 79 wf862) 80 ab) 81 ac) (updA (updA (updA (updA (updA B 14 nc) 17 ty863) 18 mn864) 48 vn) 49 vt)) := mW_D hD
    refine W.widen (k := 0) (n := 0) (Nat.le_of_ble_eq_true rfl) (Nat.le_of_ble_eq_true rfl) ?_
    refine W.eq (g2 := F0 m 472 ls []) rfl ?_
    have hch870 : ChS B nd n9 ty ty863 mn mn864 nc nc := (ChS.trans ChS.rfl (ChS.kid (ChS.ofE (nc := nc) h867) (by omega) hp848))
    have hsl871 : If (fa858 = 0) (slP B n9 (sc, il, ev) (fun c e9 => TyS B dc fd md nd ty863 mn864 nc k9 rs c e9) 42 1) := (fun e => slP.one (by decide) (by omega) e846 (TyS.ofTyp (nc := nc) (rs := rs) (e := (sc, il, ev)) hF (by omega) h847 (show kcl 1 _ = true from hc850) (h869 e).1 hve))
    refine lv_goto (tgt := 475) hx hb dX12_lookStatement_472 (by decide) ?_
    have hz872 : fa ≤ fa858 := (by omega)
    have hz873 : fa858 ≤ 15 := (by omega)
    have hz874 : sc ≤ sc := (by omega)
    have hz875 : sc ≤ 30 := (by omega)
    have hz876 : ChS B nd n9 ty ty863 mn mn864 nc nc := hch870
    have hz877 : mnN B nd mn864 := h868
    have hz878 : ∀ i : Nat, i < nd → ¬ (B) 9 i = 44 → nc i = (B) 14 i := hnc
    have hz879 : ∀ i : Nat, i < sc → vt i = vt i := (fun i h => rfl)
    have hz880 : If (fa858 = 0) (TyS B dc fd md nd ty863 mn864 nc k9 rs n9 (sc, il, ev) ∧ sc = (aft B n9 (sc, il, ev)).1 ∧ ∀ i : Nat, i < sc → vt i = (aft B n9 (sc, il, ev)).2.2 i ∧ tyOK dc (vt i)) := (fun e => ⟨TyS.of (steps (kk := 42) ek (by decide) (hsl871 (by omega)) (slP.no (by decide)) (slP.no (by decide)) (slP.no (by decide))) (LTX.st ek (by decide) (by decide) (show LSk B dc ty863 mn864 nc rs n9 (sc, il, ev) 42 from (by show ty863 (chN B 1 n9) = 1; rw [hh851]; exact (h869 (by omega)).2))), (by rw [(aft_no (by rw [ek]; decide))]), (fun i h => by rw [(aft_no (by rw [ek]; decide))]; exact ⟨hve i h, hvt i h⟩)⟩)
    have hP : va_P G.1 pCl (mW G h0 a (upd (upd (upd (upd (upd (upd (upd (upd (upd (upd (upd (upd (upd F 15 (nI fa858)) 16 pl859) 44 (nI fd)) 49 (nI md)) 73 (nI sc)) 74 (nI k9)) 75 (nI rs)) 76 (nI il)) 77 dn860) 78 wt861) 79 wf862) 80 ab) 81 ac) (updA (updA (updA (updA (updA B 14 nc) 17 ty863) 18 mn864) 48 vn) 49 vt)) _ := hP
    have hD : va_D A (mW G h0 a (upd (upd (upd (upd (upd (upd (upd (upd (upd (upd (upd (upd (upd F 15 (nI fa858)) 16 pl859) 44 (nI fd)) 49 (nI md)) 73 (nI sc)) 74 (nI k9)) 75 (nI rs)) 76 (nI il)) 77 dn860) 78 wt861) 79 wf862) 80 ab) 81 ac) (updA (updA (updA (updA (updA B 14 nc) 17 ty863) 18 mn864) 48 vn) 49 vt)) := mW_D hD
    exact W.vret hx hb hr (fun t9 ht9 hW9 => ⟨⟨_, (fa858, sc, pl859, dn860, wt861, wf862, ab, ac, nc, ty863, mn864, vn, vt), rfl, ⟨rfl, hz872, hz873, hz874, hz875, hz876, hz877, hz878, hz879, hz880⟩, by rw [ht9]; exact hP, hD⟩, hS.F ht9⟩) hS.2.2 dX12_lookStatement_475
  · refine lv_topi (fun x881 e882 => ?_)
    obtain rfl : x881 = 43 := e882.trans ek
    refine lv_tableOut (tgt := 475) hx hb dX12_lookStatement_6 (by decide) (by decide) ?_
    have hz883 : fa ≤ fa := (by omega)
    have hz884 : fa ≤ 15 := (by omega)
    have hz885 : sc ≤ sc := (by omega)
    have hz886 : sc ≤ 30 := (by omega)
    have hz887 : ChS B nd n9 ty ty mn mn nc nc := ChS.rfl
    have hz888 : mnN B nd mn := hmn
    have hz889 : ∀ i : Nat, i < nd → ¬ (B) 9 i = 44 → nc i = (B) 14 i := hnc
    have hz890 : ∀ i : Nat, i < sc → vt i = vt i := (fun i h => rfl)
    have hz891 : If (fa = 0) (TyS B dc fd md nd ty mn nc k9 rs n9 (sc, il, ev) ∧ sc = (aft B n9 (sc, il, ev)).1 ∧ ∀ i : Nat, i < sc → vt i = (aft B n9 (sc, il, ev)).2.2 i ∧ tyOK dc (vt i)) := (fun e => ⟨TyS.of (steps (kk := 43) ek (by decide) (slP.no (by decide)) (slP.no (by decide)) (slP.no (by decide)) (slP.no (by decide))) (LTX.st ek (by decide) (by decide) (show LSk B dc ty mn nc rs n9 (sc, il, ev) 43 from trivial)), (by rw [(aft_no (by rw [ek]; decide))]), (fun i h => by rw [(aft_no (by rw [ek]; decide))]; exact ⟨hve i h, hvt i h⟩)⟩)
    have hP : va_P G.1 pCl (mW G h0 a (upd (upd (upd (upd (upd (upd (upd (upd (upd (upd (upd (upd (upd F 15 (nI fa)) 16 (F 16)) 44 (nI fd)) 49 (nI md)) 73 (nI sc)) 74 (nI k9)) 75 (nI rs)) 76 (nI il)) 77 dn) 78 wt) 79 wf) 80 ab) 81 ac) (updA (updA (updA (updA (updA B 14 nc) 17 ty) 18 mn) 48 vn) 49 vt)) _ := hP
    have hD : va_D A (mW G h0 a (upd (upd (upd (upd (upd (upd (upd (upd (upd (upd (upd (upd (upd F 15 (nI fa)) 16 (F 16)) 44 (nI fd)) 49 (nI md)) 73 (nI sc)) 74 (nI k9)) 75 (nI rs)) 76 (nI il)) 77 dn) 78 wt) 79 wf) 80 ab) 81 ac) (updA (updA (updA (updA (updA B 14 nc) 17 ty) 18 mn) 48 vn) 49 vt)) := mW_D hD
    exact W.vret hx hb hr (fun t9 ht9 hW9 => ⟨⟨_, (fa, sc, (F 16), dn, wt, wf, ab, ac, nc, ty, mn, vn, vt), rfl, ⟨rfl, hz883, hz884, hz885, hz886, hz887, hz888, hz889, hz890, hz891⟩, by rw [ht9]; exact hP, hD⟩, hS.F ht9⟩) hS.2.2 dX12_lookStatement_475

theorem dX12_goesOnIn_0 : decode cX12_goesOnIn 0 = .ok (.iload_n 2, 1) := by decide +kernel
theorem dX12_goesOnIn_1 : decode cX12_goesOnIn 1 = .ok (.aload_n 0, 1) := by decide +kernel
theorem dX12_goesOnIn_2 : decode cX12_goesOnIn 2 = .ok (.getfield 47, 3) := by decide +kernel
theorem dX12_goesOnIn_5 : decode cX12_goesOnIn 5 = .ok (.iload_n 1, 1) := by decide +kernel
theorem dX12_goesOnIn_6 : decode cX12_goesOnIn 6 = .ok (.iaload, 1) := by decide +kernel
theorem dX12_goesOnIn_7 : decode cX12_goesOnIn 7 = .ok (.if_icmp .ne 7, 3) := by decide +kernel
theorem dX12_goesOnIn_10 : decode cX12_goesOnIn 10 = .ok (.iconst 1, 1) := by decide +kernel
theorem dX12_goesOnIn_11 : decode cX12_goesOnIn 11 = .ok (.goto 4, 3) := by decide +kernel
theorem dX12_goesOnIn_15 : decode cX12_goesOnIn 15 = .ok (.istore_n 3, 1) := by decide +kernel
theorem dX12_goesOnIn_16 : decode cX12_goesOnIn 16 = .ok (.aload_n 0, 1) := by decide +kernel
theorem dX12_goesOnIn_17 : decode cX12_goesOnIn 17 = .ok (.getfield 38, 3) := by decide +kernel
theorem dX12_goesOnIn_20 : decode cX12_goesOnIn 20 = .ok (.iload_n 1, 1) := by decide +kernel
theorem dX12_goesOnIn_21 : decode cX12_goesOnIn 21 = .ok (.iaload, 1) := by decide +kernel
theorem dX12_goesOnIn_22 : decode cX12_goesOnIn 22 = .ok (.tableswitch 424 30 44 #[74, 101, 149, 157, 188, 235, 276, 285, 424, 424, 311, 424, 354, 424, 399], 74) := by decide +kernel
theorem dX12_goesOnIn_96 : decode cX12_goesOnIn 96 = .ok (.aload_n 0, 1) := by decide +kernel
theorem dX12_goesOnIn_97 : decode cX12_goesOnIn 97 = .ok (.getfield 211, 3) := by decide +kernel
theorem dX12_goesOnIn_100 : decode cX12_goesOnIn 100 = .ok (.aload_n 0, 1) := by decide +kernel
theorem dX12_goesOnIn_101 : decode cX12_goesOnIn 101 = .ok (.aload_n 0, 1) := by decide +kernel
theorem dX12_goesOnIn_102 : decode cX12_goesOnIn 102 = .ok (.getfield 65, 3) := by decide +kernel
theorem dX12_goesOnIn_105 : decode cX12_goesOnIn 105 = .ok (.iload_n 1, 1) := by decide +kernel
theorem dX12_goesOnIn_106 : decode cX12_goesOnIn 106 = .ok (.iaload, 1) := by decide +kernel
theorem dX12_goesOnIn_107 : decode cX12_goesOnIn 107 = .ok (.invokevirtual 803, 3) := by decide +kernel
theorem dX12_goesOnIn_110 : decode cX12_goesOnIn 110 = .ok (.aload_n 0, 1) := by decide +kernel
theorem dX12_goesOnIn_111 : decode cX12_goesOnIn 111 = .ok (.invokevirtual 837, 3) := by decide +kernel
theorem dX12_goesOnIn_114 : decode cX12_goesOnIn 114 = .ok (.iastore, 1) := by decide +kernel
theorem dX12_goesOnIn_115 : decode cX12_goesOnIn 115 = .ok (.aload_n 0, 1) := by decide +kernel
theorem dX12_goesOnIn_116 : decode cX12_goesOnIn 116 = .ok (.iload_n 1, 1) := by decide +kernel
theorem dX12_goesOnIn_117 : decode cX12_goesOnIn 117 = .ok (.invokevirtual 760, 3) := by decide +kernel
theorem dX12_goesOnIn_120 : decode cX12_goesOnIn 120 = .ok (.goto 332, 3) := by decide +kernel
theorem dX12_goesOnIn_452 : decode cX12_goesOnIn 452 = .ok (.return_, 1) := by decide +kernel
theorem dX12_goesOnIn_14 : decode cX12_goesOnIn 14 = .ok (.iconst 0, 1) := by decide +kernel
theorem dX12_goesOnIn_123 : decode cX12_goesOnIn 123 = .ok (.aload_n 0, 1) := by decide +kernel
theorem dX12_goesOnIn_124 : decode cX12_goesOnIn 124 = .ok (.getfield 59, 3) := by decide +kernel
theorem dX12_goesOnIn_127 : decode cX12_goesOnIn 127 = .ok (.iload_n 2, 1) := by decide +kernel
theorem dX12_goesOnIn_128 : decode cX12_goesOnIn 128 = .ok (.iaload, 1) := by decide +kernel
theorem dX12_goesOnIn_129 : decode cX12_goesOnIn 129 = .ok (.iconst (-1), 1) := by decide +kernel
theorem dX12_goesOnIn_130 : decode cX12_goesOnIn 130 = .ok (.if_icmp .eq 16, 3) := by decide +kernel
theorem dX12_goesOnIn_146 : decode cX12_goesOnIn 146 = .ok (.aload_n 0, 1) := by decide +kernel
theorem dX12_goesOnIn_147 : decode cX12_goesOnIn 147 = .ok (.getfield 202, 3) := by decide +kernel
theorem dX12_goesOnIn_150 : decode cX12_goesOnIn 150 = .ok (.aload_n 0, 1) := by decide +kernel
theorem dX12_goesOnIn_151 : decode cX12_goesOnIn 151 = .ok (.getfield 707, 3) := by decide +kernel
theorem dX12_goesOnIn_154 : decode cX12_goesOnIn 154 = .ok (.iconst 1, 1) := by decide +kernel
theorem dX12_goesOnIn_155 : decode cX12_goesOnIn 155 = .ok (.isub, 1) := by decide +kernel
theorem dX12_goesOnIn_156 : decode cX12_goesOnIn 156 = .ok (.aload_n 0, 1) := by decide +kernel
theorem dX12_goesOnIn_157 : decode cX12_goesOnIn 157 = .ok (.getfield 65, 3) := by decide +kernel
theorem dX12_goesOnIn_160 : decode cX12_goesOnIn 160 = .ok (.iload_n 1, 1) := by decide +kernel
theorem dX12_goesOnIn_161 : decode cX12_goesOnIn 161 = .ok (.iaload, 1) := by decide +kernel
theorem dX12_goesOnIn_162 : decode cX12_goesOnIn 162 = .ok (.iastore, 1) := by decide +kernel
theorem dX12_goesOnIn_163 : decode cX12_goesOnIn 163 = .ok (.aload_n 0, 1) := by decide +kernel
theorem dX12_goesOnIn_164 : decode cX12_goesOnIn 164 = .ok (.iload_n 1, 1) := by decide +kernel
theorem dX12_goesOnIn_165 : decode cX12_goesOnIn 165 = .ok (.invokevirtual 760, 3) := by decide +kernel
theorem dX12_goesOnIn_168 : decode cX12_goesOnIn 168 = .ok (.goto 284, 3) := by decide +kernel
theorem dX12_goesOnIn_133 : decode cX12_goesOnIn 133 = .ok (.aload_n 0, 1) := by decide +kernel
theorem dX12_goesOnIn_134 : decode cX12_goesOnIn 134 = .ok (.aload_n 0, 1) := by decide +kernel
theorem dX12_goesOnIn_135 : decode cX12_goesOnIn 135 = .ok (.getfield 59, 3) := by decide +kernel
theorem dX12_goesOnIn_138 : decode cX12_goesOnIn 138 = .ok (.iload_n 2, 1) := by decide +kernel
theorem dX12_goesOnIn_139 : decode cX12_goesOnIn 139 = .ok (.iaload, 1) := by decide +kernel
theorem dX12_goesOnIn_140 : decode cX12_goesOnIn 140 = .ok (.invokevirtual 794, 3) := by decide +kernel
theorem dX12_goesOnIn_143 : decode cX12_goesOnIn 143 = .ok (.goto 309, 3) := by decide +kernel
theorem dX12_goesOnIn_171 : decode cX12_goesOnIn 171 = .ok (.aload_n 0, 1) := by decide +kernel
theorem dX12_goesOnIn_172 : decode cX12_goesOnIn 172 = .ok (.iload_n 1, 1) := by decide +kernel
theorem dX12_goesOnIn_173 : decode cX12_goesOnIn 173 = .ok (.invokevirtual 858, 3) := by decide +kernel
theorem dX12_goesOnIn_176 : decode cX12_goesOnIn 176 = .ok (.goto 276, 3) := by decide +kernel
theorem dX12_goesOnIn_179 : decode cX12_goesOnIn 179 = .ok (.aload_n 0, 1) := by decide +kernel
theorem dX12_goesOnIn_180 : decode cX12_goesOnIn 180 = .ok (.dup, 1) := by decide +kernel
theorem dX12_goesOnIn_181 : decode cX12_goesOnIn 181 = .ok (.getfield 698, 3) := by decide +kernel
theorem dX12_goesOnIn_184 : decode cX12_goesOnIn 184 = .ok (.aload_n 0, 1) := by decide +kernel
theorem dX12_goesOnIn_185 : decode cX12_goesOnIn 185 = .ok (.getfield 62, 3) := by decide +kernel
theorem dX12_goesOnIn_188 : decode cX12_goesOnIn 188 = .ok (.iload_n 2, 1) := by decide +kernel
theorem dX12_goesOnIn_189 : decode cX12_goesOnIn 189 = .ok (.iaload, 1) := by decide +kernel
theorem dX12_goesOnIn_190 : decode cX12_goesOnIn 190 = .ok (.ifCond .ne 7, 3) := by decide +kernel
theorem dX12_goesOnIn_197 : decode cX12_goesOnIn 197 = .ok (.iconst 1, 1) := by decide +kernel
theorem dX12_goesOnIn_198 : decode cX12_goesOnIn 198 = .ok (.isub, 1) := by decide +kernel
theorem dX12_goesOnIn_199 : decode cX12_goesOnIn 199 = .ok (.putfield 698, 3) := by decide +kernel
theorem dX12_goesOnIn_202 : decode cX12_goesOnIn 202 = .ok (.aload_n 0, 1) := by decide +kernel
theorem dX12_goesOnIn_203 : decode cX12_goesOnIn 203 = .ok (.iload_n 1, 1) := by decide +kernel
theorem dX12_goesOnIn_204 : decode cX12_goesOnIn 204 = .ok (.invokevirtual 760, 3) := by decide +kernel
theorem dX12_goesOnIn_207 : decode cX12_goesOnIn 207 = .ok (.goto 245, 3) := by decide +kernel
theorem dX12_goesOnIn_193 : decode cX12_goesOnIn 193 = .ok (.iconst 0, 1) := by decide +kernel
theorem dX12_goesOnIn_194 : decode cX12_goesOnIn 194 = .ok (.goto 4, 3) := by decide +kernel
theorem dX12_goesOnIn_210 : decode cX12_goesOnIn 210 = .ok (.iload_n 3, 1) := by decide +kernel
theorem dX12_goesOnIn_211 : decode cX12_goesOnIn 211 = .ok (.ifCond .ne 11, 3) := by decide +kernel
theorem dX12_goesOnIn_222 : decode cX12_goesOnIn 222 = .ok (.aload_n 0, 1) := by decide +kernel
theorem dX12_goesOnIn_223 : decode cX12_goesOnIn 223 = .ok (.invokevirtual 837, 3) := by decide +kernel
theorem dX12_goesOnIn_226 : decode cX12_goesOnIn 226 = .ok (.iconst 1, 1) := by decide +kernel
theorem dX12_goesOnIn_227 : decode cX12_goesOnIn 227 = .ok (.if_icmp .ne 16, 3) := by decide +kernel
theorem dX12_goesOnIn_243 : decode cX12_goesOnIn 243 = .ok (.aload_n 0, 1) := by decide +kernel
theorem dX12_goesOnIn_244 : decode cX12_goesOnIn 244 = .ok (.iload_n 1, 1) := by decide +kernel
theorem dX12_goesOnIn_245 : decode cX12_goesOnIn 245 = .ok (.aload_n 0, 1) := by decide +kernel
theorem dX12_goesOnIn_246 : decode cX12_goesOnIn 246 = .ok (.getfield 53, 3) := by decide +kernel
theorem dX12_goesOnIn_249 : decode cX12_goesOnIn 249 = .ok (.iload_n 1, 1) := by decide +kernel
theorem dX12_goesOnIn_250 : decode cX12_goesOnIn 250 = .ok (.iaload, 1) := by decide +kernel
theorem dX12_goesOnIn_251 : decode cX12_goesOnIn 251 = .ok (.invokevirtual 809, 3) := by decide +kernel
theorem dX12_goesOnIn_254 : decode cX12_goesOnIn 254 = .ok (.goto 198, 3) := by decide +kernel
theorem dX12_goesOnIn_230 : decode cX12_goesOnIn 230 = .ok (.aload_n 0, 1) := by decide +kernel
theorem dX12_goesOnIn_231 : decode cX12_goesOnIn 231 = .ok (.aload_n 0, 1) := by decide +kernel
theorem dX12_goesOnIn_232 : decode cX12_goesOnIn 232 = .ok (.getfield 50, 3) := by decide +kernel
theorem dX12_goesOnIn_235 : decode cX12_goesOnIn 235 = .ok (.iload_n 1, 1) := by decide +kernel
theorem dX12_goesOnIn_236 : decode cX12_goesOnIn 236 = .ok (.iaload, 1) := by decide +kernel
theorem dX12_goesOnIn_237 : decode cX12_goesOnIn 237 = .ok (.invokevirtual 794, 3) := by decide +kernel
theorem dX12_goesOnIn_240 : decode cX12_goesOnIn 240 = .ok (.goto 212, 3) := by decide +kernel
theorem dX12_goesOnIn_214 : decode cX12_goesOnIn 214 = .ok (.aload_n 0, 1) := by decide +kernel
theorem dX12_goesOnIn_215 : decode cX12_goesOnIn 215 = .ok (.iload_n 1, 1) := by decide +kernel
theorem dX12_goesOnIn_216 : decode cX12_goesOnIn 216 = .ok (.invokevirtual 760, 3) := by decide +kernel
theorem dX12_goesOnIn_219 : decode cX12_goesOnIn 219 = .ok (.goto 233, 3) := by decide +kernel
theorem dX12_goesOnIn_257 : decode cX12_goesOnIn 257 = .ok (.iload_n 3, 1) := by decide +kernel
theorem dX12_goesOnIn_258 : decode cX12_goesOnIn 258 = .ok (.ifCond .ne 11, 3) := by decide +kernel
theorem dX12_goesOnIn_269 : decode cX12_goesOnIn 269 = .ok (.aload_n 0, 1) := by decide +kernel
theorem dX12_goesOnIn_270 : decode cX12_goesOnIn 270 = .ok (.invokevirtual 837, 3) := by decide +kernel
theorem dX12_goesOnIn_273 : decode cX12_goesOnIn 273 = .ok (.iconst 1, 1) := by decide +kernel
theorem dX12_goesOnIn_274 : decode cX12_goesOnIn 274 = .ok (.if_icmp .ne 16, 3) := by decide +kernel
theorem dX12_goesOnIn_290 : decode cX12_goesOnIn 290 = .ok (.aload_n 0, 1) := by decide +kernel
theorem dX12_goesOnIn_291 : decode cX12_goesOnIn 291 = .ok (.iload_n 1, 1) := by decide +kernel
theorem dX12_goesOnIn_292 : decode cX12_goesOnIn 292 = .ok (.invokevirtual 760, 3) := by decide +kernel
theorem dX12_goesOnIn_295 : decode cX12_goesOnIn 295 = .ok (.goto 157, 3) := by decide +kernel
theorem dX12_goesOnIn_277 : decode cX12_goesOnIn 277 = .ok (.aload_n 0, 1) := by decide +kernel
theorem dX12_goesOnIn_278 : decode cX12_goesOnIn 278 = .ok (.aload_n 0, 1) := by decide +kernel
theorem dX12_goesOnIn_279 : decode cX12_goesOnIn 279 = .ok (.getfield 50, 3) := by decide +kernel
theorem dX12_goesOnIn_282 : decode cX12_goesOnIn 282 = .ok (.iload_n 1, 1) := by decide +kernel
theorem dX12_goesOnIn_283 : decode cX12_goesOnIn 283 = .ok (.iaload, 1) := by decide +kernel
theorem dX12_goesOnIn_284 : decode cX12_goesOnIn 284 = .ok (.invokevirtual 794, 3) := by decide +kernel
theorem dX12_goesOnIn_287 : decode cX12_goesOnIn 287 = .ok (.goto 165, 3) := by decide +kernel
theorem dX12_goesOnIn_261 : decode cX12_goesOnIn 261 = .ok (.aload_n 0, 1) := by decide +kernel
theorem dX12_goesOnIn_262 : decode cX12_goesOnIn 262 = .ok (.iload_n 1, 1) := by decide +kernel
theorem dX12_goesOnIn_263 : decode cX12_goesOnIn 263 = .ok (.invokevirtual 812, 3) := by decide +kernel
theorem dX12_goesOnIn_266 : decode cX12_goesOnIn 266 = .ok (.goto 186, 3) := by decide +kernel
theorem dX12_goesOnIn_298 : decode cX12_goesOnIn 298 = .ok (.aload_n 0, 1) := by decide +kernel
theorem dX12_goesOnIn_299 : decode cX12_goesOnIn 299 = .ok (.iload_n 1, 1) := by decide +kernel
theorem dX12_goesOnIn_300 : decode cX12_goesOnIn 300 = .ok (.iload_n 2, 1) := by decide +kernel
theorem dX12_goesOnIn_301 : decode cX12_goesOnIn 301 = .ok (.invokevirtual 861, 3) := by decide +kernel
theorem dX12_goesOnIn_304 : decode cX12_goesOnIn 304 = .ok (.goto 148, 3) := by decide +kernel
theorem dX12_goesOnIn_307 : decode cX12_goesOnIn 307 = .ok (.aload_n 0, 1) := by decide +kernel
theorem dX12_goesOnIn_308 : decode cX12_goesOnIn 308 = .ok (.invokevirtual 837, 3) := by decide +kernel
theorem dX12_goesOnIn_311 : decode cX12_goesOnIn 311 = .ok (.istore 4, 2) := by decide +kernel
theorem dX12_goesOnIn_313 : decode cX12_goesOnIn 313 = .ok (.aload_n 0, 1) := by decide +kernel
theorem dX12_goesOnIn_314 : decode cX12_goesOnIn 314 = .ok (.iload_n 1, 1) := by decide +kernel
theorem dX12_goesOnIn_315 : decode cX12_goesOnIn 315 = .ok (.iconst 2, 1) := by decide +kernel
theorem dX12_goesOnIn_316 : decode cX12_goesOnIn 316 = .ok (.iload 4, 2) := by decide +kernel
theorem dX12_goesOnIn_318 : decode cX12_goesOnIn 318 = .ok (.aload_n 0, 1) := by decide +kernel
theorem dX12_goesOnIn_319 : decode cX12_goesOnIn 319 = .ok (.getfield 221, 3) := by decide +kernel
theorem dX12_goesOnIn_322 : decode cX12_goesOnIn 322 = .ok (.aload_n 0, 1) := by decide +kernel
theorem dX12_goesOnIn_323 : decode cX12_goesOnIn 323 = .ok (.getfield 698, 3) := by decide +kernel
theorem dX12_goesOnIn_326 : decode cX12_goesOnIn 326 = .ok (.baload, 1) := by decide +kernel
theorem dX12_goesOnIn_327 : decode cX12_goesOnIn 327 = .ok (.invokevirtual 815, 3) := by decide +kernel
theorem dX12_goesOnIn_330 : decode cX12_goesOnIn 330 = .ok (.goto 122, 3) := by decide +kernel
theorem dX12_goesOnIn_333 : decode cX12_goesOnIn 333 = .ok (.aload_n 0, 1) := by decide +kernel
theorem dX12_goesOnIn_334 : decode cX12_goesOnIn 334 = .ok (.invokevirtual 837, 3) := by decide +kernel
theorem dX12_goesOnIn_337 : decode cX12_goesOnIn 337 = .ok (.istore 4, 2) := by decide +kernel
theorem dX12_goesOnIn_339 : decode cX12_goesOnIn 339 = .ok (.aload_n 0, 1) := by decide +kernel
theorem dX12_goesOnIn_340 : decode cX12_goesOnIn 340 = .ok (.iload_n 1, 1) := by decide +kernel
theorem dX12_goesOnIn_341 : decode cX12_goesOnIn 341 = .ok (.iload 4, 2) := by decide +kernel
theorem dX12_goesOnIn_343 : decode cX12_goesOnIn 343 = .ok (.ifCond .ne 9, 3) := by decide +kernel
theorem dX12_goesOnIn_346 : decode cX12_goesOnIn 346 = .ok (.sipush 4001, 3) := by decide +kernel
theorem dX12_goesOnIn_349 : decode cX12_goesOnIn 349 = .ok (.goto 21, 3) := by decide +kernel
theorem dX12_goesOnIn_370 : decode cX12_goesOnIn 370 = .ok (.invokevirtual 840, 3) := by decide +kernel
theorem dX12_goesOnIn_373 : decode cX12_goesOnIn 373 = .ok (.goto 79, 3) := by decide +kernel
theorem dX12_goesOnIn_352 : decode cX12_goesOnIn 352 = .ok (.aload_n 0, 1) := by decide +kernel
theorem dX12_goesOnIn_353 : decode cX12_goesOnIn 353 = .ok (.iload 4, 2) := by decide +kernel
theorem dX12_goesOnIn_355 : decode cX12_goesOnIn 355 = .ok (.invokevirtual 745, 3) := by decide +kernel
theorem dX12_goesOnIn_358 : decode cX12_goesOnIn 358 = .ok (.iconst (-1), 1) := by decide +kernel
theorem dX12_goesOnIn_359 : decode cX12_goesOnIn 359 = .ok (.if_icmp .ne 9, 3) := by decide +kernel
theorem dX12_goesOnIn_368 : decode cX12_goesOnIn 368 = .ok (.iload 4, 2) := by decide +kernel
theorem dX12_goesOnIn_362 : decode cX12_goesOnIn 362 = .ok (.sipush 4002, 3) := by decide +kernel
theorem dX12_goesOnIn_365 : decode cX12_goesOnIn 365 = .ok (.goto 5, 3) := by decide +kernel
theorem dX12_goesOnIn_446 : decode cX12_goesOnIn 446 = .ok (.aload_n 0, 1) := by decide +kernel
theorem dX12_goesOnIn_447 : decode cX12_goesOnIn 447 = .ok (.iload_n 1, 1) := by decide +kernel
theorem dX12_goesOnIn_448 : decode cX12_goesOnIn 448 = .ok (.iload_n 2, 1) := by decide +kernel
theorem dX12_goesOnIn_449 : decode cX12_goesOnIn 449 = .ok (.invokevirtual 864, 3) := by decide +kernel
theorem dX12_goesOnIn_376 : decode cX12_goesOnIn 376 = .ok (.aload_n 0, 1) := by decide +kernel
theorem dX12_goesOnIn_377 : decode cX12_goesOnIn 377 = .ok (.invokevirtual 837, 3) := by decide +kernel
theorem dX12_goesOnIn_380 : decode cX12_goesOnIn 380 = .ok (.istore 4, 2) := by decide +kernel
theorem dX12_goesOnIn_382 : decode cX12_goesOnIn 382 = .ok (.aload_n 0, 1) := by decide +kernel
theorem dX12_goesOnIn_383 : decode cX12_goesOnIn 383 = .ok (.getfield 656, 3) := by decide +kernel
theorem dX12_goesOnIn_386 : decode cX12_goesOnIn 386 = .ok (.sipush 400, 3) := by decide +kernel
theorem dX12_goesOnIn_389 : decode cX12_goesOnIn 389 = .ok (.if_icmp .ge 24, 3) := by decide +kernel
theorem dX12_goesOnIn_413 : decode cX12_goesOnIn 413 = .ok (.aload_n 0, 1) := by decide +kernel
theorem dX12_goesOnIn_414 : decode cX12_goesOnIn 414 = .ok (.iload_n 1, 1) := by decide +kernel
theorem dX12_goesOnIn_415 : decode cX12_goesOnIn 415 = .ok (.invokevirtual 760, 3) := by decide +kernel
theorem dX12_goesOnIn_418 : decode cX12_goesOnIn 418 = .ok (.goto 34, 3) := by decide +kernel
theorem dX12_goesOnIn_392 : decode cX12_goesOnIn 392 = .ok (.aload_n 0, 1) := by decide +kernel
theorem dX12_goesOnIn_393 : decode cX12_goesOnIn 393 = .ok (.getfield 165, 3) := by decide +kernel
theorem dX12_goesOnIn_396 : decode cX12_goesOnIn 396 = .ok (.aload_n 0, 1) := by decide +kernel
theorem dX12_goesOnIn_397 : decode cX12_goesOnIn 397 = .ok (.getfield 656, 3) := by decide +kernel
theorem dX12_goesOnIn_400 : decode cX12_goesOnIn 400 = .ok (.iload 4, 2) := by decide +kernel
theorem dX12_goesOnIn_402 : decode cX12_goesOnIn 402 = .ok (.iastore, 1) := by decide +kernel
theorem dX12_goesOnIn_403 : decode cX12_goesOnIn 403 = .ok (.aload_n 0, 1) := by decide +kernel
theorem dX12_goesOnIn_404 : decode cX12_goesOnIn 404 = .ok (.dup, 1) := by decide +kernel
theorem dX12_goesOnIn_405 : decode cX12_goesOnIn 405 = .ok (.getfield 656, 3) := by decide +kernel
theorem dX12_goesOnIn_408 : decode cX12_goesOnIn 408 = .ok (.iconst 1, 1) := by decide +kernel
theorem dX12_goesOnIn_409 : decode cX12_goesOnIn 409 = .ok (.iadd, 1) := by decide +kernel
theorem dX12_goesOnIn_410 : decode cX12_goesOnIn 410 = .ok (.putfield 656, 3) := by decide +kernel
theorem dX12_goesOnIn_421 : decode cX12_goesOnIn 421 = .ok (.aload_n 0, 1) := by decide +kernel
theorem dX12_goesOnIn_422 : decode cX12_goesOnIn 422 = .ok (.getfield 202, 3) := by decide +kernel
theorem dX12_goesOnIn_425 : decode cX12_goesOnIn 425 = .ok (.aload_n 0, 1) := by decide +kernel
theorem dX12_goesOnIn_426 : decode cX12_goesOnIn 426 = .ok (.getfield 707, 3) := by decide +kernel
theorem dX12_goesOnIn_429 : decode cX12_goesOnIn 429 = .ok (.iconst 1, 1) := by decide +kernel
theorem dX12_goesOnIn_430 : decode cX12_goesOnIn 430 = .ok (.isub, 1) := by decide +kernel
theorem dX12_goesOnIn_431 : decode cX12_goesOnIn 431 = .ok (.aload_n 0, 1) := by decide +kernel
theorem dX12_goesOnIn_432 : decode cX12_goesOnIn 432 = .ok (.getfield 65, 3) := by decide +kernel
theorem dX12_goesOnIn_435 : decode cX12_goesOnIn 435 = .ok (.iload_n 1, 1) := by decide +kernel
theorem dX12_goesOnIn_436 : decode cX12_goesOnIn 436 = .ok (.iaload, 1) := by decide +kernel
theorem dX12_goesOnIn_437 : decode cX12_goesOnIn 437 = .ok (.iastore, 1) := by decide +kernel
theorem dX12_goesOnIn_438 : decode cX12_goesOnIn 438 = .ok (.aload_n 0, 1) := by decide +kernel
theorem dX12_goesOnIn_439 : decode cX12_goesOnIn 439 = .ok (.iload_n 1, 1) := by decide +kernel
theorem dX12_goesOnIn_440 : decode cX12_goesOnIn 440 = .ok (.invokevirtual 760, 3) := by decide +kernel
theorem dX12_goesOnIn_443 : decode cX12_goesOnIn 443 = .ok (.goto 9, 3) := by decide +kernel
theorem hV_X12_sets : yX12_sets.cls = RX12 ∧ yX12_sets.cls ≠ "java/lang/invoke/MethodHandle" ∧ yX12_sets.cls ≠ "java/lang/invoke/VarHandle" ∧ (parseMethodDescriptor yX12_sets.desc).map (fun d => d.parameters.length) = some 1 := by decide +kernel
theorem hV_X12_goesInto : yX12_goesInto.cls = RX12 ∧ yX12_goesInto.cls ≠ "java/lang/invoke/MethodHandle" ∧ yX12_goesInto.cls ≠ "java/lang/invoke/VarHandle" ∧ (parseMethodDescriptor yX12_goesInto.desc).map (fun d => d.parameters.length) = some 2 := by decide +kernel
theorem hV_X12_forGoesOn : yX12_forGoesOn.cls = RX12 ∧ yX12_forGoesOn.cls ≠ "java/lang/invoke/MethodHandle" ∧ yX12_forGoesOn.cls ≠ "java/lang/invoke/VarHandle" ∧ (parseMethodDescriptor yX12_forGoesOn.desc).map (fun d => d.parameters.length) = some 2 := by decide +kernel
theorem hV_X12_tryGoesOn : yX12_tryGoesOn.cls = RX12 ∧ yX12_tryGoesOn.cls ≠ "java/lang/invoke/MethodHandle" ∧ yX12_tryGoesOn.cls ≠ "java/lang/invoke/VarHandle" ∧ (parseMethodDescriptor yX12_tryGoesOn.desc).map (fun d => d.parameters.length) = some 2 := by decide +kernel
set_option maxHeartbeats 40000000 in
set_option maxRecDepth 100000 in
/-- goesOnIn(p, n) -/
theorem R_goesOnIn (l : Launch) (G : pT) (h0 : Nat) (a : Nat → Nat) (F : Nat → Int32) (B : Nat → Nat → Int32) (Xs : Nat → Nat → Int32) (gh : Nat → Nat → Nat) (nd : Nat) (T : Nat) (nm : Nat) (wr : Nat) (lz : Nat) (dc : Nat) (fd : Nat) (md : Nat) (pr : Nat) (bk : Nat) (M : MTb) (rmm : Nat) (op : Nat) (tp : Nat) (wn : Nat) (fu : Nat) (rd : Nat) (on : Nat) (idn : Nat) (fl : Nat) (ct : Nat) (n9 : Nat) (p9 : Nat) (u : Ps) (mt : Nat → Nat) (ps : Nat → Nat) (yy : Nat → Ps) (bf : Nat → Nat) (wf : Nat → Nat) (nw : Int32) (isn : Int32) (rs0 : Int32) (uc0 : Int32) (kk : Nat) (ou : Nat) (hR : Rn Xs B gh nd T nm wr lz dc fd md pr bk M rmm op tp wn fu rd on idn fl ct n9 true mt ps yy bf wf) (hp : Pv Xs (M.1 (mt (op - 1))) (rtP M (mt (op - 1))) p9 u) (hst : stq Xs p9 u n9 (yy (op - 1))) (hfu : fu ≤ 20000) (hkd : Xs 9 p9 = nI kk) (hk30 : 30 ≤ kk ∧ kk ≤ 44) (hou : ou ≤ 400) : PM l G pX0 yX12_goesOnIn cX12_goesOnIn 5 none ({ frames := 7, cells := 0, slots := 0, locals := 182 }) [.ref h0, .int (nI p9), .int (nI n9)] (mW G h0 a (upd (upd (upd (upd (upd (upd (upd (upd (upd (upd F 87 (nI ou)) 102 (nI op)) 111 (nI tp)) 115 (nI wn)) 116 (-1)) 117 (nI fu)) 118 rs0) 119 uc0) 125 nw) 126 isn) B) (fun (v : Option Value) (u : Nat × Nat × Nat × Nat × Int32 × Int32 × Int32 × Int32 × Int32 × Nat × (Nat → Nat → Int32)) => v = none ∧ (Nx Xs u.2.2.2.2.2.2.2.2.2.2 gh nd T nm wr lz dc fd md pr bk M rmm fu (Phi gh ps op (rkN gh n9 true)) u.1 u.2.1 u.2.2.1 u.2.2.2.1 rd on idn fl ct u.2.2.2.2.1 u.2.2.2.2.2.1 u.2.2.2.2.2.2.1 u.2.2.2.2.2.2.2.2.1) ∧ (u.2.2.2.2.2.2.2.2.2.1 ≤ 400)) (fun u => (mW G h0 a (upd (upd (upd (upd (upd (upd (upd (upd (upd (upd F 87 (nI u.2.2.2.2.2.2.2.2.2.1)) 102 (nI u.1)) 111 (nI u.2.1)) 115 (nI u.2.2.1)) 116 u.2.2.2.2.1) 117 (nI u.2.2.2.1)) 118 u.2.2.2.2.2.2.2.1) 119 u.2.2.2.2.2.2.2.2.1) 125 u.2.2.2.2.2.1) 126 u.2.2.2.2.2.2.1) u.2.2.2.2.2.2.2.2.2.2)) := by
  intro sz
  refine Met.ofW (cc := cX12_goesOnIn) (maxL := 5) (ret := none) (by decide) rfl ?_
  intro p e s m args below meth c s₁ B9 hml hv
  obtain ⟨rfl, hsz, hP, hD0, hE, hX⟩ := hv
  have hx := B9.exec
  have hb := B9.bytes
  have hr := B9.returns
  have hts := atoms_spec (ws := Cond.code yX12_goesOnIn cX12_goesOnIn 5 none :: pw) B9.pre
  have hq : ∀ w ∈ pw, w.before _ s = true := fun w h => hts w (List.mem_cons_of_mem _ h)
  have hown : s.vm.findClass RX12 = some m.cls := findClass_of_methodNamed B9.named
  have hlocks := B9.notSynchronized
  subst hsz
  have hD := hD0.self (sz := s.heap.size)
  have hA : ∀ q : Nat, s.heap.size ≤ q → va_A (mW G h0 a (upd (upd (upd (upd (upd (upd (upd (upd (upd (upd F 87 (nI ou)) 102 (nI op)) 111 (nI tp)) 115 (nI wn)) 116 (-1)) 117 (nI fu)) 118 rs0) 119 uc0) 125 nw) 126 isn) B) s.heap.size q := fun q h => Or.inr h
  have hP : va_P G.1 pCl (mW G h0 a (upd (upd (upd (upd (upd (upd (upd (upd (upd (upd F 87 (nI ou)) 102 (nI op)) 111 (nI tp)) 115 (nI wn)) 116 (-1)) 117 (nI fu)) 118 rs0) 119 uc0) 125 nw) 126 isn) B) s.heap := hP
  generalize va_A (mW G h0 a (upd (upd (upd (upd (upd (upd (upd (upd (upd (upd F 87 (nI ou)) 102 (nI op)) 111 (nI tp)) 115 (nI wn)) 116 (-1)) 117 (nI fu)) 118 rs0) 119 uc0) 125 nw) 126 isn) B) s.heap.size = A at hD hE hA ⊢
  have hS : va_S A s.heap s.heap [] := va_S.rf
  have hl := lv_entry ([.ref h0, .int (nI p9), .int (nI n9)]) (n := 5) (Nat.le_of_ble_eq_true rfl)
  rw [lg_entry_eq]
  generalize (lg_sl ([.ref h0, .int (nI p9), .int (nI n9)]) ++ List.replicate (5 - (lg_sl ([.ref h0, .int (nI p9), .int (nI n9)])).length) Slot.unset).toArray = ls at hl ⊢
  have hl : lv_has ls 5 [(0, .ref h0), (1, .int (nI p9)), (2, .int (nI n9))] := hl
  have hPg := hR.pg
  have hbd := hPg.bd
  have hrm := hR.room
  have hpn := hR.pn hp
  have hw9 : B 9 = Xs 9 := hPg.row 9 (by omega) (by omega) (by omega) (by omega) (by omega)
  have hw12 : B 12 = Xs 12 := hPg.row 12 (by omega) (by omega) (by omega) (by omega) (by omega)
  have hw13 : B 13 = Xs 13 := hPg.row 13 (by omega) (by omega) (by omega) (by omega) (by omega)
  have hw16 : B 16 = Xs 16 := hPg.row 16 (by omega) (by omega) (by omega) (by omega) (by omega)
  rcases (show kk = 30 ∨ kk = 31 ∨ kk = 32 ∨ kk = 33 ∨ kk = 34 ∨ kk = 35 ∨ kk = 36 ∨ kk = 37 ∨ kk = 38 ∨ kk = 39 ∨ kk = 40 ∨ kk = 41 ∨ kk = 42 ∨ kk = 43 ∨ kk = 44 by omega) with rfl | rfl | rfl | rfl | rfl | rfl | rfl | rfl | rfl | rfl | rfl | rfl | rfl | rfl | rfl
  · by_cases hfi : Xs 12 p9 = nI n9
    · refine lv_iload_n hx hb dX12_goesOnIn_0 rfl (lv_at hl 2 rfl) ?_
      refine lv_aload_n hx hb dX12_goesOnIn_1 rfl (lv_at hl 0 rfl) ?_
      refine r_get (v := .ref (a 12)) hx hb hown hq hE hP 20 47 tFX12_20 (by decide) pw_1442 rfl dX12_goesOnIn_2 ?_
      refine lv_iload_n hx hb dX12_goesOnIn_5 rfl (lv_at hl 1 rfl) ?_
      refine r_ldi (f := (B 12)) (j := p9) hx hb hE hP 12 (ma_12 G a _) rfl (by omega) (by decide) dX12_goesOnIn_6 ?_
      refine lv_topi (fun x1 e2 => ?_)
      obtain rfl : x1 = nI n9 := e2.trans ((congrFun hw12 _).trans hfi)
      refine lv_icmp_ne (tgt := 14) hx hb dX12_goesOnIn_7 (by decide) (fun c3 => absurd rfl c3) (fun c3 => ?_)
      refine lv_iconst (v := 1) hx hb dX12_goesOnIn_10 (by decide) ?_
      refine lv_goto (tgt := 15) hx hb dX12_goesOnIn_11 (by decide) ?_
      refine lv_istore_n (lv' := [(3, .int 1), (0, .ref h0), (1, .int (nI p9)), (2, .int (nI n9))]) hx hb dX12_goesOnIn_15 rfl hl (by decide) rfl (fun ls hl => ?_)
      refine lv_aload_n hx hb dX12_goesOnIn_16 rfl (lv_at hl 1 rfl) ?_
      refine r_get (v := .ref (a 9)) hx hb hown hq hE hP 17 38 tFX12_17 (by decide) pw_1439 rfl dX12_goesOnIn_17 ?_
      refine lv_iload_n hx hb dX12_goesOnIn_20 rfl (lv_at hl 2 rfl) ?_
      refine r_ldi (f := (B 9)) (j := p9) hx hb hE hP 9 (ma_9 G a _) rfl (by omega) (by decide) dX12_goesOnIn_21 ?_
      refine lv_topi (fun x4 e5 => ?_)
      obtain rfl : x4 = 30 := e5.trans ((congrFun hw9 _).trans hkd)
      refine lv_tableIn (tgt := 96) (off := 74) hx hb dX12_goesOnIn_22 (by decide) (by decide) (by decide) (by decide) ?_
      obtain ⟨ht1, v9, hs1, hs2, hs3⟩ := hR.g30 (uc := uc0) hp hst hkd
      refine lv_aload_n hx hb dX12_goesOnIn_96 rfl (lv_at hl 1 rfl) ?_
      refine r_get (v := .ref (a 66)) hx hb hown hq hE hP 107 211 tFX12_107 (by decide) pw_1498 rfl dX12_goesOnIn_97 ?_
      refine lv_aload_n hx hb dX12_goesOnIn_100 rfl (lv_at hl 1 rfl) ?_
      refine lv_aload_n hx hb dX12_goesOnIn_101 rfl (lv_at hl 1 rfl) ?_
      refine r_get (v := .ref (a 18)) hx hb hown hq hE hP 26 65 tFX12_26 (by decide) pw_1448 rfl dX12_goesOnIn_102 ?_
      refine lv_iload_n hx hb dX12_goesOnIn_105 rfl (lv_at hl 2 rfl) ?_
      refine r_ldi (f := (B 18)) (j := p9) hx hb hE hP 18 (ma_18 G a _) rfl (by omega) (by decide) dX12_goesOnIn_106 ?_
      refine lv_topi (fun x6 e7 => ?_)
      obtain rfl : x6 = nI v9 := e7.trans hs1
      have hP : va_P G.1 pCl (mW G h0 a (upd (upd (upd (upd (upd (upd (upd (upd (upd (upd (upd F 87 (nI ou)) 102 (nI op)) 111 (nI tp)) 115 (nI wn)) 116 (-1)) 117 (nI fu)) 118 rs0) 119 uc0) 125 nw) 126 isn) 102 (nI op)) B) _ := hP
      have hD : va_D A (mW G h0 a (upd (upd (upd (upd (upd (upd (upd (upd (upd (upd (upd F 87 (nI ou)) 102 (nI op)) 111 (nI tp)) 115 (nI wn)) 116 (-1)) 117 (nI fu)) 118 rs0) 119 uc0) 125 nw) 126 isn) 102 (nI op)) B) := mW_D hD
      refine pc_V0 (G := G) (As := [.int (nI v9)]) (rest := [.ref (a 66)]) hx hb hml hown hq hE hX pX0_al hP hD hS hA hl.1 (R_at32 l G h0 a (upd (upd (upd (upd (upd (upd (upd (upd (upd (upd F 87 (nI ou)) 102 (nI op)) 111 (nI tp)) 115 (nI wn)) 116 (-1)) 117 (nI fu)) 118 rs0) 119 uc0) 125 nw) 126 isn) B v9 op (by omega) (by omega)) (gV pw_2040 pw_2041 pw_2042 pw_1523 pw_2013) hV_X12_at32 0 9 rfl rfl rfl rfl (Nat.le_of_ble_eq_true rfl) dX12_goesOnIn_107 ⟨Nat.le_of_ble_eq_true rfl, Nat.le_of_ble_eq_true rfl⟩ ⟨Nat.le_of_ble_eq_true rfl, Nat.le_of_ble_eq_true rfl⟩ (fun v10 u8 H locs hw9 hP hD hS => ?_)
      obtain rfl : v10 = some (.int (nI (32 * (op - 1) + v9))) := hw9
      have hP : va_P G.1 pCl (mW G h0 a (upd (upd (upd (upd (upd (upd (upd (upd (upd (upd F 87 (nI ou)) 102 (nI op)) 111 (nI tp)) 115 (nI wn)) 116 (-1)) 117 (nI fu)) 118 rs0) 119 uc0) 125 nw) 126 isn) B) _ := mW_to (F := F) (l1 := [(87, (nI ou)), (102, (nI op)), (111, (nI tp)), (115, (nI wn)), (116, (-1)), (117, (nI fu)), (118, rs0), (119, uc0), (125, nw), (126, isn), (102, (nI op))]) (l2 := [(87, (nI ou)), (102, (nI op)), (111, (nI tp)), (115, (nI wn)), (116, (-1)), (117, (nI fu)), (118, rs0), (119, uc0), (125, nw), (126, isn)]) (V := [(nI ou), (nI op), (nI tp), (nI wn), (-1), (nI fu), rs0, uc0, nw, isn, (nI op), (nI ou), (nI op), (nI tp), (nI wn), (-1), (nI fu), rs0, uc0, nw, isn]) rfl rfl rfl hP
      have hD : va_D A (mW G h0 a (upd (upd (upd (upd (upd (upd (upd (upd (upd (upd F 87 (nI ou)) 102 (nI op)) 111 (nI tp)) 115 (nI wn)) 116 (-1)) 117 (nI fu)) 118 rs0) 119 uc0) 125 nw) 126 isn) B) := mW_D hD
      refine W.widen (k := 0) (n := 0) (Nat.le_of_ble_eq_true rfl) (Nat.le_of_ble_eq_true rfl) ?_
      refine W.eq (g2 := F0 m 110 ls [.int (nI (32 * (op - 1) + v9)), .ref (a 66)]) rfl ?_
      refine lv_aload_n hx hb dX12_goesOnIn_110 rfl (lv_at hl 1 rfl) ?_
      have hP : va_P G.1 pCl (mW G h0 a (upd (upd (upd (upd (upd (upd (upd (upd (upd (upd (upd F 87 (nI ou)) 102 (nI op)) 111 (nI tp)) 115 (nI wn)) 116 (-1)) 117 (nI fu)) 118 rs0) 119 uc0) 125 nw) 126 isn) 111 (nI tp)) (updA B 68 (B 68))) _ := mW_to (F := F) (l1 := [(87, (nI ou)), (102, (nI op)), (111, (nI tp)), (115, (nI wn)), (116, (-1)), (117, (nI fu)), (118, rs0), (119, uc0), (125, nw), (126, isn)]) (l2 := [(87, (nI ou)), (102, (nI op)), (111, (nI tp)), (115, (nI wn)), (116, (-1)), (117, (nI fu)), (118, rs0), (119, uc0), (125, nw), (126, isn), (111, (nI tp))]) (V := [(nI ou), (nI op), (nI tp), (nI wn), (-1), (nI fu), rs0, uc0, nw, isn, (nI ou), (nI op), (nI tp), (nI wn), (-1), (nI fu), rs0, uc0, nw, isn, (nI tp)]) rfl rfl (show B = (updA B 68 (B 68)) from updsA_eq2 (F := B) (l1 := []) (l2 := [(68, (B 68))]) (V := [(B 68)]) rfl rfl) hP
      have hD : va_D A (mW G h0 a (upd (upd (upd (upd (upd (upd (upd (upd (upd (upd (upd F 87 (nI ou)) 102 (nI op)) 111 (nI tp)) 115 (nI wn)) 116 (-1)) 117 (nI fu)) 118 rs0) 119 uc0) 125 nw) 126 isn) 111 (nI tp)) (updA B 68 (B 68))) := mW_D hD
      refine pc_V0 (G := G) (As := []) (rest := [.int (nI (32 * (op - 1) + v9)), .ref (a 66)]) hx hb hml hown hq hE hX pX0_al hP hD hS hA hl.1 (R_pop l G h0 a (upd (upd (upd (upd (upd (upd (upd (upd (upd (upd F 87 (nI ou)) 102 (nI op)) 111 (nI tp)) 115 (nI wn)) 116 (-1)) 117 (nI fu)) 118 rs0) 119 uc0) 125 nw) 126 isn) B tp (B 68) (by omega)) (gV pw_2082 pw_2083 pw_2084 pw_1523 pw_1965) hV_X12_pop 0 9 rfl rfl rfl rfl (Nat.le_of_ble_eq_true rfl) dX12_goesOnIn_111 ⟨Nat.le_of_ble_eq_true rfl, Nat.le_of_ble_eq_true rfl⟩ ⟨Nat.le_of_ble_eq_true rfl, Nat.le_of_ble_eq_true rfl⟩ (fun v13 u11 H locs hw12 hP hD hS => ?_)
      obtain rfl : v13 = some (.int ((B 68) (tp - 1))) := hw12
      have hP : va_P G.1 pCl (mW G h0 a (upd (upd (upd (upd (upd (upd (upd (upd (upd (upd F 87 (nI ou)) 102 (nI op)) 111 (nI (tp - 1))) 115 (nI wn)) 116 (-1)) 117 (nI fu)) 118 rs0) 119 uc0) 125 nw) 126 isn) B) _ := mW_to (F := F) (l1 := [(87, (nI ou)), (102, (nI op)), (111, (nI tp)), (115, (nI wn)), (116, (-1)), (117, (nI fu)), (118, rs0), (119, uc0), (125, nw), (126, isn), (111, (nI (tp - 1)))]) (l2 := [(87, (nI ou)), (102, (nI op)), (111, (nI (tp - 1))), (115, (nI wn)), (116, (-1)), (117, (nI fu)), (118, rs0), (119, uc0), (125, nw), (126, isn)]) (V := [(nI ou), (nI op), (nI (tp - 1)), (nI wn), (-1), (nI fu), rs0, uc0, nw, isn, (nI (tp - 1)), (nI ou), (nI op), (nI (tp - 1)), (nI wn), (-1), (nI fu), rs0, uc0, nw, isn]) rfl rfl (show (updA B 68 (B 68)) = B from updsA_eq2 (F := B) (l1 := [(68, (B 68))]) (l2 := []) (V := [(B 68)]) rfl rfl) hP
      have hD : va_D A (mW G h0 a (upd (upd (upd (upd (upd (upd (upd (upd (upd (upd F 87 (nI ou)) 102 (nI op)) 111 (nI (tp - 1))) 115 (nI wn)) 116 (-1)) 117 (nI fu)) 118 rs0) 119 uc0) 125 nw) 126 isn) B) := mW_D hD
      refine W.widen (k := 0) (n := 0) (Nat.le_of_ble_eq_true rfl) (Nat.le_of_ble_eq_true rfl) ?_
      refine W.eq (g2 := F0 m 114 ls [.int ((B 68) (tp - 1)), .int (nI (32 * (op - 1) + v9)), .ref (a 66)]) rfl ?_
      refine r_sti (f := (B 66)) (j := (32 * (op - 1) + v9)) hx hb hE hP hD hS 66 (ma_66 G a _) rfl (mas_66 G a _) (by omega) (by decide) dX12_goesOnIn_114 (fun H locs hP hD hS => ?_)
      refine lv_aload_n hx hb dX12_goesOnIn_115 rfl (lv_at hl 1 rfl) ?_
      refine lv_iload_n hx hb dX12_goesOnIn_116 rfl (lv_at hl 2 rfl) ?_
      have hP : va_P G.1 pCl (mW G h0 a (upd (upd (upd (upd (upd (upd (upd (upd (upd (upd F 87 (nI ou)) 102 (nI op)) 111 (nI (tp - 1))) 115 (nI wn)) 116 (-1)) 117 (nI fu)) 118 rs0) 119 uc0) 125 nw) 126 isn) (updA B 66 (upd (B 66) (32 * (op - 1) + v9) ((B 68) (tp - 1))))) _ := hP
      have hD : va_D A (mW G h0 a (upd (upd (upd (upd (upd (upd (upd (upd (upd (upd F 87 (nI ou)) 102 (nI op)) 111 (nI (tp - 1))) 115 (nI wn)) 116 (-1)) 117 (nI fu)) 118 rs0) 119 uc0) 125 nw) 126 isn) (updA B 66 (upd (B 66) (32 * (op - 1) + v9) ((B 68) (tp - 1))))) := mW_D hD
      refine pc_V0 (G := G) (As := [.int (nI p9)]) (rest := []) hx hb hml hown hq hE hX pX0_al hP hD hS hA hl.1 (R_comesToEnd l G h0 a (upd (upd (upd (upd (upd (upd (upd (upd (upd (upd F 87 (nI ou)) 102 (nI op)) 111 (nI (tp - 1))) 115 (nI wn)) 116 (-1)) 117 (nI fu)) 118 rs0) 119 uc0) 125 nw) 126 isn) (updA B 66 (upd (B 66) (32 * (op - 1) + v9) ((B 68) (tp - 1)))) (nI p9)) (gV pw_2010 pw_2011 pw_2012 pw_1523 pw_2005) hV_X12_comesToEnd 0 9 rfl rfl rfl rfl (Nat.le_of_ble_eq_true rfl) dX12_goesOnIn_117 ⟨Nat.le_of_ble_eq_true rfl, Nat.le_of_ble_eq_true rfl⟩ ⟨Nat.le_of_ble_eq_true rfl, Nat.le_of_ble_eq_true rfl⟩ (fun v16 u14 H locs hw15 hP hD hS => ?_)
      obtain rfl : v16 = none := hw15
      have hP : va_P G.1 pCl (mW G h0 a (upd (upd (upd (upd (upd (upd (upd (upd (upd (upd F 87 (nI ou)) 102 (nI op)) 111 (nI (tp - 1))) 115 (nI wn)) 116 (-1)) 117 (nI fu)) 118 rs0) 119 uc0) 125 (nI p9)) 126 0) (updA B 66 (upd (B 66) (32 * (op - 1) + v9) ((B 68) (tp - 1))))) _ := mW_to (F := F) (l1 := [(87, (nI ou)), (102, (nI op)), (111, (nI (tp - 1))), (115, (nI wn)), (116, (-1)), (117, (nI fu)), (118, rs0), (119, uc0), (125, nw), (126, isn), (125, (nI p9)), (126, 0)]) (l2 := [(87, (nI ou)), (102, (nI op)), (111, (nI (tp - 1))), (115, (nI wn)), (116, (-1)), (117, (nI fu)), (118, rs0), (119, uc0), (125, (nI p9)), (126, 0)]) (V := [(nI ou), (nI op), (nI (tp - 1)), (nI wn), (-1), (nI fu), rs0, uc0, (nI p9), 0, (nI p9), 0, (nI ou), (nI op), (nI (tp - 1)), (nI wn), (-1), (nI fu), rs0, uc0, (nI p9), 0]) rfl rfl rfl hP
      have hD : va_D A (mW G h0 a (upd (upd (upd (upd (upd (upd (upd (upd (upd (upd F 87 (nI ou)) 102 (nI op)) 111 (nI (tp - 1))) 115 (nI wn)) 116 (-1)) 117 (nI fu)) 118 rs0) 119 uc0) 125 (nI p9)) 126 0) (updA B 66 (upd (B 66) (32 * (op - 1) + v9) ((B 68) (tp - 1))))) := mW_D hD
      refine W.widen (k := 0) (n := 0) (Nat.le_of_ble_eq_true rfl) (Nat.le_of_ble_eq_true rfl) ?_
      refine W.eq (g2 := F0 m 120 ls []) rfl ?_
      refine lv_goto (tgt := 452) hx hb dX12_goesOnIn_120 (by decide) ?_
      have hz17 : Nx Xs (updA B 66 (upd (B 66) (32 * (op - 1) + v9) ((B 68) (tp - 1)))) gh nd T nm wr lz dc fd md pr bk M rmm fu (Phi gh ps op (rkN gh n9 true)) op (tp - 1) wn fu rd on idn fl ct ((-1) : Int32) (nI p9) (0 : Int32) uc0 := hs3
      have hz18 : ou ≤ 400 := (by omega)
      have hP : va_P G.1 pCl (mW G h0 a (upd (upd (upd (upd (upd (upd (upd (upd (upd (upd F 87 (nI ou)) 102 (nI op)) 111 (nI (tp - 1))) 115 (nI wn)) 116 ((-1) : Int32)) 117 (nI fu)) 118 rs0) 119 uc0) 125 (nI p9)) 126 (0 : Int32)) (updA B 66 (upd (B 66) (32 * (op - 1) + v9) ((B 68) (tp - 1))))) _ := mW_to (F := F) (l1 := [(87, (nI ou)), (102, (nI op)), (111, (nI (tp - 1))), (115, (nI wn)), (116, (-1)), (117, (nI fu)), (118, rs0), (119, uc0), (125, (nI p9)), (126, 0)]) (l2 := [(87, (nI ou)), (102, (nI op)), (111, (nI (tp - 1))), (115, (nI wn)), (116, ((-1) : Int32)), (117, (nI fu)), (118, rs0), (119, uc0), (125, (nI p9)), (126, (0 : Int32))]) (V := [(nI ou), (nI op), (nI (tp - 1)), (nI wn), ((-1) : Int32), (nI fu), rs0, uc0, (nI p9), (0 : Int32), (nI ou), (nI op), (nI (tp - 1)), (nI wn), ((-1) : Int32), (nI fu), rs0, uc0, (nI p9), (0 : Int32)]) rfl rfl rfl hP
      have hD : va_D A (mW G h0 a (upd (upd (upd (upd (upd (upd (upd (upd (upd (upd F 87 (nI ou)) 102 (nI op)) 111 (nI (tp - 1))) 115 (nI wn)) 116 ((-1) : Int32)) 117 (nI fu)) 118 rs0) 119 uc0) 125 (nI p9)) 126 (0 : Int32)) (updA B 66 (upd (B 66) (32 * (op - 1) + v9) ((B 68) (tp - 1))))) := mW_D hD
      exact W.vret hx hb hr (fun t9 ht9 hW9 => ⟨⟨_, (op, (tp - 1), wn, fu, ((-1) : Int32), (nI p9), (0 : Int32), rs0, uc0, ou, (updA B 66 (upd (B 66) (32 * (op - 1) + v9) ((B 68) (tp - 1))))), rfl, ⟨rfl, hz17, hz18⟩, by rw [ht9]; exact hP, hD⟩, hS.F ht9⟩) hS.2.2 dX12_goesOnIn_452
    · refine lv_iload_n hx hb dX12_goesOnIn_0 rfl (lv_at hl 2 rfl) ?_
      refine lv_aload_n hx hb dX12_goesOnIn_1 rfl (lv_at hl 0 rfl) ?_
      refine r_get (v := .ref (a 12)) hx hb hown hq hE hP 20 47 tFX12_20 (by decide) pw_1442 rfl dX12_goesOnIn_2 ?_
      refine lv_iload_n hx hb dX12_goesOnIn_5 rfl (lv_at hl 1 rfl) ?_
      refine r_ldi (f := (B 12)) (j := p9) hx hb hE hP 12 (ma_12 G a _) rfl (by omega) (by decide) dX12_goesOnIn_6 ?_
      refine lv_icmp_ne (tgt := 14) hx hb dX12_goesOnIn_7 (by decide) (fun c19 => ?_) (fun c19 => absurd ((congrFun hw12 _).symm.trans c19.symm) hfi)
      refine lv_iconst (v := 0) hx hb dX12_goesOnIn_14 (by decide) ?_
      refine lv_istore_n (lv' := [(3, .int 0), (0, .ref h0), (1, .int (nI p9)), (2, .int (nI n9))]) hx hb dX12_goesOnIn_15 rfl hl (by decide) rfl (fun ls hl => ?_)
      refine lv_aload_n hx hb dX12_goesOnIn_16 rfl (lv_at hl 1 rfl) ?_
      refine r_get (v := .ref (a 9)) hx hb hown hq hE hP 17 38 tFX12_17 (by decide) pw_1439 rfl dX12_goesOnIn_17 ?_
      refine lv_iload_n hx hb dX12_goesOnIn_20 rfl (lv_at hl 2 rfl) ?_
      refine r_ldi (f := (B 9)) (j := p9) hx hb hE hP 9 (ma_9 G a _) rfl (by omega) (by decide) dX12_goesOnIn_21 ?_
      refine lv_topi (fun x20 e21 => ?_)
      obtain rfl : x20 = 30 := e21.trans ((congrFun hw9 _).trans hkd)
      refine lv_tableIn (tgt := 96) (off := 74) hx hb dX12_goesOnIn_22 (by decide) (by decide) (by decide) (by decide) ?_
      obtain ⟨ht1, v9, hs1, hs2, hs3⟩ := hR.g30 (uc := uc0) hp hst hkd
      refine lv_aload_n hx hb dX12_goesOnIn_96 rfl (lv_at hl 1 rfl) ?_
      refine r_get (v := .ref (a 66)) hx hb hown hq hE hP 107 211 tFX12_107 (by decide) pw_1498 rfl dX12_goesOnIn_97 ?_
      refine lv_aload_n hx hb dX12_goesOnIn_100 rfl (lv_at hl 1 rfl) ?_
      refine lv_aload_n hx hb dX12_goesOnIn_101 rfl (lv_at hl 1 rfl) ?_
      refine r_get (v := .ref (a 18)) hx hb hown hq hE hP 26 65 tFX12_26 (by decide) pw_1448 rfl dX12_goesOnIn_102 ?_
      refine lv_iload_n hx hb dX12_goesOnIn_105 rfl (lv_at hl 2 rfl) ?_
      refine r_ldi (f := (B 18)) (j := p9) hx hb hE hP 18 (ma_18 G a _) rfl (by omega) (by decide) dX12_goesOnIn_106 ?_
      refine lv_topi (fun x22 e23 => ?_)
      obtain rfl : x22 = nI v9 := e23.trans hs1
      have hP : va_P G.1 pCl (mW G h0 a (upd (upd (upd (upd (upd (upd (upd (upd (upd (upd (upd F 87 (nI ou)) 102 (nI op)) 111 (nI tp)) 115 (nI wn)) 116 (-1)) 117 (nI fu)) 118 rs0) 119 uc0) 125 nw) 126 isn) 102 (nI op)) B) _ := hP
      have hD : va_D A (mW G h0 a (upd (upd (upd (upd (upd (upd (upd (upd (upd (upd (upd F 87 (nI ou)) 102 (nI op)) 111 (nI tp)) 115 (nI wn)) 116 (-1)) 117 (nI fu)) 118 rs0) 119 uc0) 125 nw) 126 isn) 102 (nI op)) B) := mW_D hD
      refine pc_V0 (G := G) (As := [.int (nI v9)]) (rest := [.ref (a 66)]) hx hb hml hown hq hE hX pX0_al hP hD hS hA hl.1 (R_at32 l G h0 a (upd (upd (upd (upd (upd (upd (upd (upd (upd (upd F 87 (nI ou)) 102 (nI op)) 111 (nI tp)) 115 (nI wn)) 116 (-1)) 117 (nI fu)) 118 rs0) 119 uc0) 125 nw) 126 isn) B v9 op (by omega) (by omega)) (gV pw_2040 pw_2041 pw_2042 pw_1523 pw_2013) hV_X12_at32 0 9 rfl rfl rfl rfl (Nat.le_of_ble_eq_true rfl) dX12_goesOnIn_107 ⟨Nat.le_of_ble_eq_true rfl, Nat.le_of_ble_eq_true rfl⟩ ⟨Nat.le_of_ble_eq_true rfl, Nat.le_of_ble_eq_true rfl⟩ (fun v26 u24 H locs hw25 hP hD hS => ?_)
      obtain rfl : v26 = some (.int (nI (32 * (op - 1) + v9))) := hw25
      have hP : va_P G.1 pCl (mW G h0 a (upd (upd (upd (upd (upd (upd (upd (upd (upd (upd F 87 (nI ou)) 102 (nI op)) 111 (nI tp)) 115 (nI wn)) 116 (-1)) 117 (nI fu)) 118 rs0) 119 uc0) 125 nw) 126 isn) B) _ := mW_to (F := F) (l1 := [(87, (nI ou)), (102, (nI op)), (111, (nI tp)), (115, (nI wn)), (116, (-1)), (117, (nI fu)), (118, rs0), (119, uc0), (125, nw), (126, isn), (102, (nI op))]) (l2 := [(87, (nI ou)), (102, (nI op)), (111, (nI tp)), (115, (nI wn)), (116, (-1)), (117, (nI fu)), (118, rs0), (119, uc0), (125, nw), (126, isn)]) (V := [(nI ou), (nI op), (nI tp), (nI wn), (-1), (nI fu), rs0, uc0, nw, isn, (nI op), (nI ou), (nI op), (nI tp), (nI wn), (-1), (nI fu), rs0, uc0, nw, isn]) rfl rfl rfl hP
      have hD : va_D A (mW G h0 a (upd (upd (upd (upd (upd (upd (upd (upd (upd (upd F 87 (nI ou)) 102 (nI op)) 111 (nI tp)) 115 (nI wn)) 116 (-1)) 117 (nI fu)) 118 rs0) 119 uc0) 125 nw) 126 isn) B) := mW_D hD
      refine W.widen (k := 0) (n := 0) (Nat.le_of_ble_eq_true rfl) (Nat.le_of_ble_eq_true rfl) ?_
      refine W.eq (g2 := F0 m 110 ls [.int (nI (32 * (op - 1) + v9)), .ref (a 66)]) rfl ?_
      refine lv_aload_n hx hb dX12_goesOnIn_110 rfl (lv_at hl 1 rfl) ?_
      have hP : va_P G.1 pCl (mW G h0 a (upd (upd (upd (upd (upd (upd (upd (upd (upd (upd (upd F 87 (nI ou)) 102 (nI op)) 111 (nI tp)) 115 (nI wn)) 116 (-1)) 117 (nI fu)) 118 rs0) 119 uc0) 125 nw) 126 isn) 111 (nI tp)) (updA B 68 (B 68))) _ := mW_to (F := F) (l1 := [(87, (nI ou)), (102, (nI op)), (111, (nI tp)), (115, (nI wn)), (116, (-1)), (117, (nI fu)), (118, rs0), (119, uc0), (125, nw), (126, isn)]) (l2 := [(87, (nI ou)), (102, (nI op)), (111, (nI tp)), (115, (nI wn)), (116, (-1)), (117, (nI fu)), (118, rs0), (119, uc0), (125, nw), (126, isn), (111, (nI tp))]) (V := [(nI ou), (nI op), (nI tp), (nI wn), (-1), (nI fu), rs0, uc0, nw, isn, (nI ou), (nI op), (nI tp), (nI wn), (-1), (nI fu), rs0, uc0, nw, isn, (nI tp)]) rfl rfl (show B = (updA B 68 (B 68)) from updsA_eq2 (F := B) (l1 := []) (l2 := [(68, (B 68))]) (V := [(B 68)]) rfl rfl) hP
      have hD : va_D A (mW G h0 a (upd (upd (upd (upd (upd (upd (upd (upd (upd (upd (upd F 87 (nI ou)) 102 (nI op)) 111 (nI tp)) 115 (nI wn)) 116 (-1)) 117 (nI fu)) 118 rs0) 119 uc0) 125 nw) 126 isn) 111 (nI tp)) (updA B 68 (B 68))) := mW_D hD
      refine pc_V0 (G := G) (As := []) (rest := [.int (nI (32 * (op - 1) + v9)), .ref (a 66)]) hx hb hml hown hq hE hX pX0_al hP hD hS hA hl.1 (R_pop l G h0 a (upd (upd (upd (upd (upd (upd (upd (upd (upd (upd F 87 (nI ou)) 102 (nI op)) 111 (nI tp)) 115 (nI wn)) 116 (-1)) 117 (nI fu)) 118 rs0) 119 uc0) 125 nw) 126 isn) B tp (B 68) (by omega)) (gV pw_2082 pw_2083 pw_2084 pw_1523 pw_1965) hV_X12_pop 0 9 rfl rfl rfl rfl (Nat.le_of_ble_eq_true rfl) dX12_goesOnIn_111 ⟨Nat.le_of_ble_eq_true rfl, Nat.le_of_ble_eq_true rfl⟩ ⟨Nat.le_of_ble_eq_true rfl, Nat.le_of_ble_eq_true rfl⟩ (fun v29 u27 H locs hw28 hP hD hS => ?_)
      obtain rfl : v29 = some (.int ((B 68) (tp - 1))) := hw28
      have hP : va_P G.1 pCl (mW G h0 a (upd (upd (upd (upd (upd (upd (upd (upd (upd (upd F 87 (nI ou)) 102 (nI op)) 111 (nI (tp - 1))) 115 (nI wn)) 116 (-1)) 117 (nI fu)) 118 rs0) 119 uc0) 125 nw) 126 isn) B) _ := mW_to (F := F) (l1 := [(87, (nI ou)), (102, (nI op)), (111, (nI tp)), (115, (nI wn)), (116, (-1)), (117, (nI fu)), (118, rs0), (119, uc0), (125, nw), (126, isn), (111, (nI (tp - 1)))]) (l2 := [(87, (nI ou)), (102, (nI op)), (111, (nI (tp - 1))), (115, (nI wn)), (116, (-1)), (117, (nI fu)), (118, rs0), (119, uc0), (125, nw), (126, isn)]) (V := [(nI ou), (nI op), (nI (tp - 1)), (nI wn), (-1), (nI fu), rs0, uc0, nw, isn, (nI (tp - 1)), (nI ou), (nI op), (nI (tp - 1)), (nI wn), (-1), (nI fu), rs0, uc0, nw, isn]) rfl rfl (show (updA B 68 (B 68)) = B from updsA_eq2 (F := B) (l1 := [(68, (B 68))]) (l2 := []) (V := [(B 68)]) rfl rfl) hP
      have hD : va_D A (mW G h0 a (upd (upd (upd (upd (upd (upd (upd (upd (upd (upd F 87 (nI ou)) 102 (nI op)) 111 (nI (tp - 1))) 115 (nI wn)) 116 (-1)) 117 (nI fu)) 118 rs0) 119 uc0) 125 nw) 126 isn) B) := mW_D hD
      refine W.widen (k := 0) (n := 0) (Nat.le_of_ble_eq_true rfl) (Nat.le_of_ble_eq_true rfl) ?_
      refine W.eq (g2 := F0 m 114 ls [.int ((B 68) (tp - 1)), .int (nI (32 * (op - 1) + v9)), .ref (a 66)]) rfl ?_
      refine r_sti (f := (B 66)) (j := (32 * (op - 1) + v9)) hx hb hE hP hD hS 66 (ma_66 G a _) rfl (mas_66 G a _) (by omega) (by decide) dX12_goesOnIn_114 (fun H locs hP hD hS => ?_)
      refine lv_aload_n hx hb dX12_goesOnIn_115 rfl (lv_at hl 1 rfl) ?_
      refine lv_iload_n hx hb dX12_goesOnIn_116 rfl (lv_at hl 2 rfl) ?_
      have hP : va_P G.1 pCl (mW G h0 a (upd (upd (upd (upd (upd (upd (upd (upd (upd (upd F 87 (nI ou)) 102 (nI op)) 111 (nI (tp - 1))) 115 (nI wn)) 116 (-1)) 117 (nI fu)) 118 rs0) 119 uc0) 125 nw) 126 isn) (updA B 66 (upd (B 66) (32 * (op - 1) + v9) ((B 68) (tp - 1))))) _ := hP
      have hD : va_D A (mW G h0 a (upd (upd (upd (upd (upd (upd (upd (upd (upd (upd F 87 (nI ou)) 102 (nI op)) 111 (nI (tp - 1))) 115 (nI wn)) 116 (-1)) 117 (nI fu)) 118 rs0) 119 uc0) 125 nw) 126 isn) (updA B 66 (upd (B 66) (32 * (op - 1) + v9) ((B 68) (tp - 1))))) := mW_D hD
      refine pc_V0 (G := G) (As := [.int (nI p9)]) (rest := []) hx hb hml hown hq hE hX pX0_al hP hD hS hA hl.1 (R_comesToEnd l G h0 a (upd (upd (upd (upd (upd (upd (upd (upd (upd (upd F 87 (nI ou)) 102 (nI op)) 111 (nI (tp - 1))) 115 (nI wn)) 116 (-1)) 117 (nI fu)) 118 rs0) 119 uc0) 125 nw) 126 isn) (updA B 66 (upd (B 66) (32 * (op - 1) + v9) ((B 68) (tp - 1)))) (nI p9)) (gV pw_2010 pw_2011 pw_2012 pw_1523 pw_2005) hV_X12_comesToEnd 0 9 rfl rfl rfl rfl (Nat.le_of_ble_eq_true rfl) dX12_goesOnIn_117 ⟨Nat.le_of_ble_eq_true rfl, Nat.le_of_ble_eq_true rfl⟩ ⟨Nat.le_of_ble_eq_true rfl, Nat.le_of_ble_eq_true rfl⟩ (fun v32 u30 H locs hw31 hP hD hS => ?_)
      obtain rfl : v32 = none := hw31
      have hP : va_P G.1 pCl (mW G h0 a (upd (upd (upd (upd (upd (upd (upd (upd (upd (upd F 87 (nI ou)) 102 (nI op)) 111 (nI (tp - 1))) 115 (nI wn)) 116 (-1)) 117 (nI fu)) 118 rs0) 119 uc0) 125 (nI p9)) 126 0) (updA B 66 (upd (B 66) (32 * (op - 1) + v9) ((B 68) (tp - 1))))) _ := mW_to (F := F) (l1 := [(87, (nI ou)), (102, (nI op)), (111, (nI (tp - 1))), (115, (nI wn)), (116, (-1)), (117, (nI fu)), (118, rs0), (119, uc0), (125, nw), (126, isn), (125, (nI p9)), (126, 0)]) (l2 := [(87, (nI ou)), (102, (nI op)), (111, (nI (tp - 1))), (115, (nI wn)), (116, (-1)), (117, (nI fu)), (118, rs0), (119, uc0), (125, (nI p9)), (126, 0)]) (V := [(nI ou), (nI op), (nI (tp - 1)), (nI wn), (-1), (nI fu), rs0, uc0, (nI p9), 0, (nI p9), 0, (nI ou), (nI op), (nI (tp - 1)), (nI wn), (-1), (nI fu), rs0, uc0, (nI p9), 0]) rfl rfl rfl hP
      have hD : va_D A (mW G h0 a (upd (upd (upd (upd (upd (upd (upd (upd (upd (upd F 87 (nI ou)) 102 (nI op)) 111 (nI (tp - 1))) 115 (nI wn)) 116 (-1)) 117 (nI fu)) 118 rs0) 119 uc0) 125 (nI p9)) 126 0) (updA B 66 (upd (B 66) (32 * (op - 1) + v9) ((B 68) (tp - 1))))) := mW_D hD
      refine W.widen (k := 0) (n := 0) (Nat.le_of_ble_eq_true rfl) (Nat.le_of_ble_eq_true rfl) ?_
      refine W.eq (g2 := F0 m 120 ls []) rfl ?_
      refine lv_goto (tgt := 452) hx hb dX12_goesOnIn_120 (by decide) ?_
      have hz33 : Nx Xs (updA B 66 (upd (B 66) (32 * (op - 1) + v9) ((B 68) (tp - 1)))) gh nd T nm wr lz dc fd md pr bk M rmm fu (Phi gh ps op (rkN gh n9 true)) op (tp - 1) wn fu rd on idn fl ct ((-1) : Int32) (nI p9) (0 : Int32) uc0 := hs3
      have hz34 : ou ≤ 400 := (by omega)
      have hP : va_P G.1 pCl (mW G h0 a (upd (upd (upd (upd (upd (upd (upd (upd (upd (upd F 87 (nI ou)) 102 (nI op)) 111 (nI (tp - 1))) 115 (nI wn)) 116 ((-1) : Int32)) 117 (nI fu)) 118 rs0) 119 uc0) 125 (nI p9)) 126 (0 : Int32)) (updA B 66 (upd (B 66) (32 * (op - 1) + v9) ((B 68) (tp - 1))))) _ := mW_to (F := F) (l1 := [(87, (nI ou)), (102, (nI op)), (111, (nI (tp - 1))), (115, (nI wn)), (116, (-1)), (117, (nI fu)), (118, rs0), (119, uc0), (125, (nI p9)), (126, 0)]) (l2 := [(87, (nI ou)), (102, (nI op)), (111, (nI (tp - 1))), (115, (nI wn)), (116, ((-1) : Int32)), (117, (nI fu)), (118, rs0), (119, uc0), (125, (nI p9)), (126, (0 : Int32))]) (V := [(nI ou), (nI op), (nI (tp - 1)), (nI wn), ((-1) : Int32), (nI fu), rs0, uc0, (nI p9), (0 : Int32), (nI ou), (nI op), (nI (tp - 1)), (nI wn), ((-1) : Int32), (nI fu), rs0, uc0, (nI p9), (0 : Int32)]) rfl rfl rfl hP
      have hD : va_D A (mW G h0 a (upd (upd (upd (upd (upd (upd (upd (upd (upd (upd F 87 (nI ou)) 102 (nI op)) 111 (nI (tp - 1))) 115 (nI wn)) 116 ((-1) : Int32)) 117 (nI fu)) 118 rs0) 119 uc0) 125 (nI p9)) 126 (0 : Int32)) (updA B 66 (upd (B 66) (32 * (op - 1) + v9) ((B 68) (tp - 1))))) := mW_D hD
      exact W.vret hx hb hr (fun t9 ht9 hW9 => ⟨⟨_, (op, (tp - 1), wn, fu, ((-1) : Int32), (nI p9), (0 : Int32), rs0, uc0, ou, (updA B 66 (upd (B 66) (32 * (op - 1) + v9) ((B 68) (tp - 1))))), rfl, ⟨rfl, hz33, hz34⟩, by rw [ht9]; exact hP, hD⟩, hS.F ht9⟩) hS.2.2 dX12_goesOnIn_452
  · by_cases hfi : Xs 12 p9 = nI n9
    · refine lv_iload_n hx hb dX12_goesOnIn_0 rfl (lv_at hl 2 rfl) ?_
      refine lv_aload_n hx hb dX12_goesOnIn_1 rfl (lv_at hl 0 rfl) ?_
      refine r_get (v := .ref (a 12)) hx hb hown hq hE hP 20 47 tFX12_20 (by decide) pw_1442 rfl dX12_goesOnIn_2 ?_
      refine lv_iload_n hx hb dX12_goesOnIn_5 rfl (lv_at hl 1 rfl) ?_
      refine r_ldi (f := (B 12)) (j := p9) hx hb hE hP 12 (ma_12 G a _) rfl (by omega) (by decide) dX12_goesOnIn_6 ?_
      refine lv_topi (fun x35 e36 => ?_)
      obtain rfl : x35 = nI n9 := e36.trans ((congrFun hw12 _).trans hfi)
      refine lv_icmp_ne (tgt := 14) hx hb dX12_goesOnIn_7 (by decide) (fun c37 => absurd rfl c37) (fun c37 => ?_)
      refine lv_iconst (v := 1) hx hb dX12_goesOnIn_10 (by decide) ?_
      refine lv_goto (tgt := 15) hx hb dX12_goesOnIn_11 (by decide) ?_
      refine lv_istore_n (lv' := [(3, .int 1), (0, .ref h0), (1, .int (nI p9)), (2, .int (nI n9))]) hx hb dX12_goesOnIn_15 rfl hl (by decide) rfl (fun ls hl => ?_)
      refine lv_aload_n hx hb dX12_goesOnIn_16 rfl (lv_at hl 1 rfl) ?_
      refine r_get (v := .ref (a 9)) hx hb hown hq hE hP 17 38 tFX12_17 (by decide) pw_1439 rfl dX12_goesOnIn_17 ?_
      refine lv_iload_n hx hb dX12_goesOnIn_20 rfl (lv_at hl 2 rfl) ?_
      refine r_ldi (f := (B 9)) (j := p9) hx hb hE hP 9 (ma_9 G a _) rfl (by omega) (by decide) dX12_goesOnIn_21 ?_
      refine lv_topi (fun x38 e39 => ?_)
      obtain rfl : x38 = 31 := e39.trans ((congrFun hw9 _).trans hkd)
      refine lv_tableIn (tgt := 123) (off := 101) hx hb dX12_goesOnIn_22 (by decide) (by decide) (by decide) (by decide) ?_
      rcases hR.g31 (uc := uc0) hp hst hkd with ⟨ha1, v9, hs1, hs2, hs3⟩ | ⟨j1, ha1, ha2, hs3⟩
      · refine lv_aload_n hx hb dX12_goesOnIn_123 rfl (lv_at hl 1 rfl) ?_
        refine r_get (v := .ref (a 16)) hx hb hown hq hE hP 24 59 tFX12_24 (by decide) pw_1446 rfl dX12_goesOnIn_124 ?_
        refine lv_iload_n hx hb dX12_goesOnIn_127 rfl (lv_at hl 3 rfl) ?_
        refine r_ldi (f := (B 16)) (j := n9) hx hb hE hP 16 (ma_16 G a _) rfl (by omega) (by decide) dX12_goesOnIn_128 ?_
        refine lv_topi (fun x40 e41 => ?_)
        obtain rfl : x40 = (-1) := e41.trans ((congrFun hw16 _).trans ha1)
        refine lv_iconst (v := (-1)) hx hb dX12_goesOnIn_129 (by decide) ?_
        refine lv_icmp_eq (tgt := 146) hx hb dX12_goesOnIn_130 (by decide) (fun c42 => ?_) (fun c42 => absurd c42 (by decide))
        refine lv_aload_n hx hb dX12_goesOnIn_146 rfl (lv_at hl 1 rfl) ?_
        refine r_get (v := .ref (a 63)) hx hb hown hq hE hP 104 202 tFX12_104 (by decide) pw_1495 rfl dX12_goesOnIn_147 ?_
        refine lv_aload_n hx hb dX12_goesOnIn_150 rfl (lv_at hl 1 rfl) ?_
        refine r_get (v := .int (nI op)) hx hb hown hq hE hP 102 707 tFX12_102 (by decide) pw_1969 rfl dX12_goesOnIn_151 ?_
        refine lv_iconst (v := 1) hx hb dX12_goesOnIn_154 (by decide) ?_
        refine lv_isub hx hb dX12_goesOnIn_155 ?_
        refine lv_topi (fun x43 e44 => ?_)
        obtain rfl : x43 = nI (op - 1) := e44.trans (nI_subN (a := 1) (b := op) (by omega))
        refine lv_aload_n hx hb dX12_goesOnIn_156 rfl (lv_at hl 1 rfl) ?_
        refine r_get (v := .ref (a 18)) hx hb hown hq hE hP 26 65 tFX12_26 (by decide) pw_1448 rfl dX12_goesOnIn_157 ?_
        refine lv_iload_n hx hb dX12_goesOnIn_160 rfl (lv_at hl 2 rfl) ?_
        refine r_ldi (f := (B 18)) (j := p9) hx hb hE hP 18 (ma_18 G a _) rfl (by omega) (by decide) dX12_goesOnIn_161 ?_
        refine lv_topi (fun x45 e46 => ?_)
        obtain rfl : x45 = nI v9 := e46.trans hs1
        refine r_sti (f := (B 63)) (j := (op - 1)) hx hb hE hP hD hS 63 (ma_63 G a _) rfl (mas_63 G a _) (by omega) (by decide) dX12_goesOnIn_162 (fun H locs hP hD hS => ?_)
        refine lv_aload_n hx hb dX12_goesOnIn_163 rfl (lv_at hl 1 rfl) ?_
        refine lv_iload_n hx hb dX12_goesOnIn_164 rfl (lv_at hl 2 rfl) ?_
        have hP : va_P G.1 pCl (mW G h0 a (upd (upd (upd (upd (upd (upd (upd (upd (upd (upd F 87 (nI ou)) 102 (nI op)) 111 (nI tp)) 115 (nI wn)) 116 (-1)) 117 (nI fu)) 118 rs0) 119 uc0) 125 nw) 126 isn) (updA B 63 (upd (B 63) (op - 1) (nI v9)))) _ := hP
        have hD : va_D A (mW G h0 a (upd (upd (upd (upd (upd (upd (upd (upd (upd (upd F 87 (nI ou)) 102 (nI op)) 111 (nI tp)) 115 (nI wn)) 116 (-1)) 117 (nI fu)) 118 rs0) 119 uc0) 125 nw) 126 isn) (updA B 63 (upd (B 63) (op - 1) (nI v9)))) := mW_D hD
        refine pc_V0 (G := G) (As := [.int (nI p9)]) (rest := []) hx hb hml hown hq hE hX pX0_al hP hD hS hA hl.1 (R_comesToEnd l G h0 a (upd (upd (upd (upd (upd (upd (upd (upd (upd (upd F 87 (nI ou)) 102 (nI op)) 111 (nI tp)) 115 (nI wn)) 116 (-1)) 117 (nI fu)) 118 rs0) 119 uc0) 125 nw) 126 isn) (updA B 63 (upd (B 63) (op - 1) (nI v9))) (nI p9)) (gV pw_2010 pw_2011 pw_2012 pw_1523 pw_2005) hV_X12_comesToEnd 0 9 rfl rfl rfl rfl (Nat.le_of_ble_eq_true rfl) dX12_goesOnIn_165 ⟨Nat.le_of_ble_eq_true rfl, Nat.le_of_ble_eq_true rfl⟩ ⟨Nat.le_of_ble_eq_true rfl, Nat.le_of_ble_eq_true rfl⟩ (fun v49 u47 H locs hw48 hP hD hS => ?_)
        obtain rfl : v49 = none := hw48
        have hP : va_P G.1 pCl (mW G h0 a (upd (upd (upd (upd (upd (upd (upd (upd (upd (upd F 87 (nI ou)) 102 (nI op)) 111 (nI tp)) 115 (nI wn)) 116 (-1)) 117 (nI fu)) 118 rs0) 119 uc0) 125 (nI p9)) 126 0) (updA B 63 (upd (B 63) (op - 1) (nI v9)))) _ := mW_to (F := F) (l1 := [(87, (nI ou)), (102, (nI op)), (111, (nI tp)), (115, (nI wn)), (116, (-1)), (117, (nI fu)), (118, rs0), (119, uc0), (125, nw), (126, isn), (125, (nI p9)), (126, 0)]) (l2 := [(87, (nI ou)), (102, (nI op)), (111, (nI tp)), (115, (nI wn)), (116, (-1)), (117, (nI fu)), (118, rs0), (119, uc0), (125, (nI p9)), (126, 0)]) (V := [(nI ou), (nI op), (nI tp), (nI wn), (-1), (nI fu), rs0, uc0, (nI p9), 0, (nI p9), 0, (nI ou), (nI op), (nI tp), (nI wn), (-1), (nI fu), rs0, uc0, (nI p9), 0]) rfl rfl rfl hP
        have hD : va_D A (mW G h0 a (upd (upd (upd (upd (upd (upd (upd (upd (upd (upd F 87 (nI ou)) 102 (nI op)) 111 (nI tp)) 115 (nI wn)) 116 (-1)) 117 (nI fu)) 118 rs0) 119 uc0) 125 (nI p9)) 126 0) (updA B 63 (upd (B 63) (op - 1) (nI v9)))) := mW_D hD
        refine W.widen (k := 0) (n := 0) (Nat.le_of_ble_eq_true rfl) (Nat.le_of_ble_eq_true rfl) ?_
        refine W.eq (g2 := F0 m 168 ls []) rfl ?_
        refine lv_goto (tgt := 452) hx hb dX12_goesOnIn_168 (by decide) ?_
        have hz50 : Nx Xs (updA B 63 (upd (B 63) (op - 1) (nI v9))) gh nd T nm wr lz dc fd md pr bk M rmm fu (Phi gh ps op (rkN gh n9 true)) op tp wn fu rd on idn fl ct ((-1) : Int32) (nI p9) (0 : Int32) uc0 := hs3
        have hz51 : ou ≤ 400 := (by omega)
        have hP : va_P G.1 pCl (mW G h0 a (upd (upd (upd (upd (upd (upd (upd (upd (upd (upd F 87 (nI ou)) 102 (nI op)) 111 (nI tp)) 115 (nI wn)) 116 ((-1) : Int32)) 117 (nI fu)) 118 rs0) 119 uc0) 125 (nI p9)) 126 (0 : Int32)) (updA B 63 (upd (B 63) (op - 1) (nI v9)))) _ := mW_to (F := F) (l1 := [(87, (nI ou)), (102, (nI op)), (111, (nI tp)), (115, (nI wn)), (116, (-1)), (117, (nI fu)), (118, rs0), (119, uc0), (125, (nI p9)), (126, 0)]) (l2 := [(87, (nI ou)), (102, (nI op)), (111, (nI tp)), (115, (nI wn)), (116, ((-1) : Int32)), (117, (nI fu)), (118, rs0), (119, uc0), (125, (nI p9)), (126, (0 : Int32))]) (V := [(nI ou), (nI op), (nI tp), (nI wn), ((-1) : Int32), (nI fu), rs0, uc0, (nI p9), (0 : Int32), (nI ou), (nI op), (nI tp), (nI wn), ((-1) : Int32), (nI fu), rs0, uc0, (nI p9), (0 : Int32)]) rfl rfl rfl hP
        have hD : va_D A (mW G h0 a (upd (upd (upd (upd (upd (upd (upd (upd (upd (upd F 87 (nI ou)) 102 (nI op)) 111 (nI tp)) 115 (nI wn)) 116 ((-1) : Int32)) 117 (nI fu)) 118 rs0) 119 uc0) 125 (nI p9)) 126 (0 : Int32)) (updA B 63 (upd (B 63) (op - 1) (nI v9)))) := mW_D hD
        exact W.vret hx hb hr (fun t9 ht9 hW9 => ⟨⟨_, (op, tp, wn, fu, ((-1) : Int32), (nI p9), (0 : Int32), rs0, uc0, ou, (updA B 63 (upd (B 63) (op - 1) (nI v9)))), rfl, ⟨rfl, hz50, hz51⟩, by rw [ht9]; exact hP, hD⟩, hS.F ht9⟩) hS.2.2 dX12_goesOnIn_452
      · refine lv_aload_n hx hb dX12_goesOnIn_123 rfl (lv_at hl 1 rfl) ?_
        refine r_get (v := .ref (a 16)) hx hb hown hq hE hP 24 59 tFX12_24 (by decide) pw_1446 rfl dX12_goesOnIn_124 ?_
        refine lv_iload_n hx hb dX12_goesOnIn_127 rfl (lv_at hl 3 rfl) ?_
        refine r_ldi (f := (B 16)) (j := n9) hx hb hE hP 16 (ma_16 G a _) rfl (by omega) (by decide) dX12_goesOnIn_128 ?_
        refine lv_topi (fun x52 e53 => ?_)
        obtain rfl : x52 = nI j1 := e53.trans ((congrFun hw16 _).trans ha1)
        refine lv_iconst (v := (-1)) hx hb dX12_goesOnIn_129 (by decide) ?_
        refine lv_icmp_eq (tgt := 146) hx hb dX12_goesOnIn_130 (by decide) (fun c54 => absurd c54 (nI_m1 (by omega))) (fun c54 => ?_)
        refine lv_aload_n hx hb dX12_goesOnIn_133 rfl (lv_at hl 1 rfl) ?_
        refine lv_aload_n hx hb dX12_goesOnIn_134 rfl (lv_at hl 1 rfl) ?_
        refine r_get (v := .ref (a 16)) hx hb hown hq hE hP 24 59 tFX12_24 (by decide) pw_1446 rfl dX12_goesOnIn_135 ?_
        refine lv_iload_n hx hb dX12_goesOnIn_138 rfl (lv_at hl 3 rfl) ?_
        refine r_ldi (f := (B 16)) (j := n9) hx hb hE hP 16 (ma_16 G a _) rfl (by omega) (by decide) dX12_goesOnIn_139 ?_
        refine lv_topi (fun x55 e56 => ?_)
        obtain rfl : x55 = nI j1 := e56.trans ((congrFun hw16 _).trans ha1)
        have hP : va_P G.1 pCl (mW G h0 a (upd (upd (upd (upd (upd (upd (upd (upd (upd (upd F 87 (nI ou)) 102 (nI op)) 111 (nI tp)) 115 (nI wn)) 116 (-1)) 117 (nI fu)) 118 rs0) 119 uc0) 125 nw) 126 isn) B) _ := hP
        have hD : va_D A (mW G h0 a (upd (upd (upd (upd (upd (upd (upd (upd (upd (upd F 87 (nI ou)) 102 (nI op)) 111 (nI tp)) 115 (nI wn)) 116 (-1)) 117 (nI fu)) 118 rs0) 119 uc0) 125 nw) 126 isn) B) := mW_D hD
        refine pc_V0 (G := G) (As := [.int (nI j1)]) (rest := []) hx hb hml hown hq hE hX pX0_al hP hD hS hA hl.1 (R_begin l G h0 a (upd (upd (upd (upd (upd (upd (upd (upd (upd (upd F 87 (nI ou)) 102 (nI op)) 111 (nI tp)) 115 (nI wn)) 116 (-1)) 117 (nI fu)) 118 rs0) 119 uc0) 125 nw) 126 isn) B (nI j1)) (gV pw_2016 pw_2017 pw_2018 pw_1523 pw_2002) hV_X12_begin 0 9 rfl rfl rfl rfl (Nat.le_of_ble_eq_true rfl) dX12_goesOnIn_140 ⟨Nat.le_of_ble_eq_true rfl, Nat.le_of_ble_eq_true rfl⟩ ⟨Nat.le_of_ble_eq_true rfl, Nat.le_of_ble_eq_true rfl⟩ (fun v59 u57 H locs hw58 hP hD hS => ?_)
        obtain rfl : v59 = none := hw58
        have hP : va_P G.1 pCl (mW G h0 a (upd (upd (upd (upd (upd (upd (upd (upd (upd (upd F 87 (nI ou)) 102 (nI op)) 111 (nI tp)) 115 (nI wn)) 116 (-1)) 117 (nI fu)) 118 rs0) 119 uc0) 125 (nI j1)) 126 1) B) _ := mW_to (F := F) (l1 := [(87, (nI ou)), (102, (nI op)), (111, (nI tp)), (115, (nI wn)), (116, (-1)), (117, (nI fu)), (118, rs0), (119, uc0), (125, nw), (126, isn), (125, (nI j1)), (126, 1)]) (l2 := [(87, (nI ou)), (102, (nI op)), (111, (nI tp)), (115, (nI wn)), (116, (-1)), (117, (nI fu)), (118, rs0), (119, uc0), (125, (nI j1)), (126, 1)]) (V := [(nI ou), (nI op), (nI tp), (nI wn), (-1), (nI fu), rs0, uc0, (nI j1), 1, (nI j1), 1, (nI ou), (nI op), (nI tp), (nI wn), (-1), (nI fu), rs0, uc0, (nI j1), 1]) rfl rfl rfl hP
        have hD : va_D A (mW G h0 a (upd (upd (upd (upd (upd (upd (upd (upd (upd (upd F 87 (nI ou)) 102 (nI op)) 111 (nI tp)) 115 (nI wn)) 116 (-1)) 117 (nI fu)) 118 rs0) 119 uc0) 125 (nI j1)) 126 1) B) := mW_D hD
        refine W.widen (k := 0) (n := 0) (Nat.le_of_ble_eq_true rfl) (Nat.le_of_ble_eq_true rfl) ?_
        refine W.eq (g2 := F0 m 143 ls []) rfl ?_
        refine lv_goto (tgt := 452) hx hb dX12_goesOnIn_143 (by decide) ?_
        have hz60 : Nx Xs B gh nd T nm wr lz dc fd md pr bk M rmm fu (Phi gh ps op (rkN gh n9 true)) op tp wn fu rd on idn fl ct ((-1) : Int32) (nI j1) (1 : Int32) uc0 := hs3
        have hz61 : ou ≤ 400 := (by omega)
        have hP : va_P G.1 pCl (mW G h0 a (upd (upd (upd (upd (upd (upd (upd (upd (upd (upd F 87 (nI ou)) 102 (nI op)) 111 (nI tp)) 115 (nI wn)) 116 ((-1) : Int32)) 117 (nI fu)) 118 rs0) 119 uc0) 125 (nI j1)) 126 (1 : Int32)) B) _ := mW_to (F := F) (l1 := [(87, (nI ou)), (102, (nI op)), (111, (nI tp)), (115, (nI wn)), (116, (-1)), (117, (nI fu)), (118, rs0), (119, uc0), (125, (nI j1)), (126, 1)]) (l2 := [(87, (nI ou)), (102, (nI op)), (111, (nI tp)), (115, (nI wn)), (116, ((-1) : Int32)), (117, (nI fu)), (118, rs0), (119, uc0), (125, (nI j1)), (126, (1 : Int32))]) (V := [(nI ou), (nI op), (nI tp), (nI wn), ((-1) : Int32), (nI fu), rs0, uc0, (nI j1), (1 : Int32), (nI ou), (nI op), (nI tp), (nI wn), ((-1) : Int32), (nI fu), rs0, uc0, (nI j1), (1 : Int32)]) rfl rfl rfl hP
        have hD : va_D A (mW G h0 a (upd (upd (upd (upd (upd (upd (upd (upd (upd (upd F 87 (nI ou)) 102 (nI op)) 111 (nI tp)) 115 (nI wn)) 116 ((-1) : Int32)) 117 (nI fu)) 118 rs0) 119 uc0) 125 (nI j1)) 126 (1 : Int32)) B) := mW_D hD
        exact W.vret hx hb hr (fun t9 ht9 hW9 => ⟨⟨_, (op, tp, wn, fu, ((-1) : Int32), (nI j1), (1 : Int32), rs0, uc0, ou, B), rfl, ⟨rfl, hz60, hz61⟩, by rw [ht9]; exact hP, hD⟩, hS.F ht9⟩) hS.2.2 dX12_goesOnIn_452
    · refine lv_iload_n hx hb dX12_goesOnIn_0 rfl (lv_at hl 2 rfl) ?_
      refine lv_aload_n hx hb dX12_goesOnIn_1 rfl (lv_at hl 0 rfl) ?_
      refine r_get (v := .ref (a 12)) hx hb hown hq hE hP 20 47 tFX12_20 (by decide) pw_1442 rfl dX12_goesOnIn_2 ?_
      refine lv_iload_n hx hb dX12_goesOnIn_5 rfl (lv_at hl 1 rfl) ?_
      refine r_ldi (f := (B 12)) (j := p9) hx hb hE hP 12 (ma_12 G a _) rfl (by omega) (by decide) dX12_goesOnIn_6 ?_
      refine lv_icmp_ne (tgt := 14) hx hb dX12_goesOnIn_7 (by decide) (fun c62 => ?_) (fun c62 => absurd ((congrFun hw12 _).symm.trans c62.symm) hfi)
      refine lv_iconst (v := 0) hx hb dX12_goesOnIn_14 (by decide) ?_
      refine lv_istore_n (lv' := [(3, .int 0), (0, .ref h0), (1, .int (nI p9)), (2, .int (nI n9))]) hx hb dX12_goesOnIn_15 rfl hl (by decide) rfl (fun ls hl => ?_)
      refine lv_aload_n hx hb dX12_goesOnIn_16 rfl (lv_at hl 1 rfl) ?_
      refine r_get (v := .ref (a 9)) hx hb hown hq hE hP 17 38 tFX12_17 (by decide) pw_1439 rfl dX12_goesOnIn_17 ?_
      refine lv_iload_n hx hb dX12_goesOnIn_20 rfl (lv_at hl 2 rfl) ?_
      refine r_ldi (f := (B 9)) (j := p9) hx hb hE hP 9 (ma_9 G a _) rfl (by omega) (by decide) dX12_goesOnIn_21 ?_
      refine lv_topi (fun x63 e64 => ?_)
      obtain rfl : x63 = 31 := e64.trans ((congrFun hw9 _).trans hkd)
      refine lv_tableIn (tgt := 123) (off := 101) hx hb dX12_goesOnIn_22 (by decide) (by decide) (by decide) (by decide) ?_
      rcases hR.g31 (uc := uc0) hp hst hkd with ⟨ha1, v9, hs1, hs2, hs3⟩ | ⟨j1, ha1, ha2, hs3⟩
      · refine lv_aload_n hx hb dX12_goesOnIn_123 rfl (lv_at hl 1 rfl) ?_
        refine r_get (v := .ref (a 16)) hx hb hown hq hE hP 24 59 tFX12_24 (by decide) pw_1446 rfl dX12_goesOnIn_124 ?_
        refine lv_iload_n hx hb dX12_goesOnIn_127 rfl (lv_at hl 3 rfl) ?_
        refine r_ldi (f := (B 16)) (j := n9) hx hb hE hP 16 (ma_16 G a _) rfl (by omega) (by decide) dX12_goesOnIn_128 ?_
        refine lv_topi (fun x65 e66 => ?_)
        obtain rfl : x65 = (-1) := e66.trans ((congrFun hw16 _).trans ha1)
        refine lv_iconst (v := (-1)) hx hb dX12_goesOnIn_129 (by decide) ?_
        refine lv_icmp_eq (tgt := 146) hx hb dX12_goesOnIn_130 (by decide) (fun c67 => ?_) (fun c67 => absurd c67 (by decide))
        refine lv_aload_n hx hb dX12_goesOnIn_146 rfl (lv_at hl 1 rfl) ?_
        refine r_get (v := .ref (a 63)) hx hb hown hq hE hP 104 202 tFX12_104 (by decide) pw_1495 rfl dX12_goesOnIn_147 ?_
        refine lv_aload_n hx hb dX12_goesOnIn_150 rfl (lv_at hl 1 rfl) ?_
        refine r_get (v := .int (nI op)) hx hb hown hq hE hP 102 707 tFX12_102 (by decide) pw_1969 rfl dX12_goesOnIn_151 ?_
        refine lv_iconst (v := 1) hx hb dX12_goesOnIn_154 (by decide) ?_
        refine lv_isub hx hb dX12_goesOnIn_155 ?_
        refine lv_topi (fun x68 e69 => ?_)
        obtain rfl : x68 = nI (op - 1) := e69.trans (nI_subN (a := 1) (b := op) (by omega))
        refine lv_aload_n hx hb dX12_goesOnIn_156 rfl (lv_at hl 1 rfl) ?_
        refine r_get (v := .ref (a 18)) hx hb hown hq hE hP 26 65 tFX12_26 (by decide) pw_1448 rfl dX12_goesOnIn_157 ?_
        refine lv_iload_n hx hb dX12_goesOnIn_160 rfl (lv_at hl 2 rfl) ?_
        refine r_ldi (f := (B 18)) (j := p9) hx hb hE hP 18 (ma_18 G a _) rfl (by omega) (by decide) dX12_goesOnIn_161 ?_
        refine lv_topi (fun x70 e71 => ?_)
        obtain rfl : x70 = nI v9 := e71.trans hs1
        refine r_sti (f := (B 63)) (j := (op - 1)) hx hb hE hP hD hS 63 (ma_63 G a _) rfl (mas_63 G a _) (by omega) (by decide) dX12_goesOnIn_162 (fun H locs hP hD hS => ?_)
        refine lv_aload_n hx hb dX12_goesOnIn_163 rfl (lv_at hl 1 rfl) ?_
        refine lv_iload_n hx hb dX12_goesOnIn_164 rfl (lv_at hl 2 rfl) ?_
        have hP : va_P G.1 pCl (mW G h0 a (upd (upd (upd (upd (upd (upd (upd (upd (upd (upd F 87 (nI ou)) 102 (nI op)) 111 (nI tp)) 115 (nI wn)) 116 (-1)) 117 (nI fu)) 118 rs0) 119 uc0) 125 nw) 126 isn) (updA B 63 (upd (B 63) (op - 1) (nI v9)))) _ := hP
        have hD : va_D A (mW G h0 a (upd (upd (upd (upd (upd (upd (upd (upd (upd (upd F 87 (nI ou)) 102 (nI op)) 111 (nI tp)) 115 (nI wn)) 116 (-1)) 117 (nI fu)) 118 rs0) 119 uc0) 125 nw) 126 isn) (updA B 63 (upd (B 63) (op - 1) (nI v9)))) := mW_D hD
        refine pc_V0 (G := G) (As := [.int (nI p9)]) (rest := []) hx hb hml hown hq hE hX pX0_al hP hD hS hA hl.1 (R_comesToEnd l G h0 a (upd (upd (upd (upd (upd (upd (upd (upd (upd (upd F 87 (nI ou)) 102 (nI op)) 111 (nI tp)) 115 (nI wn)) 116 (-1)) 117 (nI fu)) 118 rs0) 119 uc0) 125 nw) 126 isn) (updA B 63 (upd (B 63) (op - 1) (nI v9))) (nI p9)) (gV pw_2010 pw_2011 pw_2012 pw_1523 pw_2005) hV_X12_comesToEnd 0 9 rfl rfl rfl rfl (Nat.le_of_ble_eq_true rfl) dX12_goesOnIn_165 ⟨Nat.le_of_ble_eq_true rfl, Nat.le_of_ble_eq_true rfl⟩ ⟨Nat.le_of_ble_eq_true rfl, Nat.le_of_ble_eq_true rfl⟩ (fun v74 u72 H locs hw73 hP hD hS => ?_)
        obtain rfl : v74 = none := hw73
        have hP : va_P G.1 pCl (mW G h0 a (upd (upd (upd (upd (upd (upd (upd (upd (upd (upd F 87 (nI ou)) 102 (nI op)) 111 (nI tp)) 115 (nI wn)) 116 (-1)) 117 (nI fu)) 118 rs0) 119 uc0) 125 (nI p9)) 126 0) (updA B 63 (upd (B 63) (op - 1) (nI v9)))) _ := mW_to (F := F) (l1 := [(87, (nI ou)), (102, (nI op)), (111, (nI tp)), (115, (nI wn)), (116, (-1)), (117, (nI fu)), (118, rs0), (119, uc0), (125, nw), (126, isn), (125, (nI p9)), (126, 0)]) (l2 := [(87, (nI ou)), (102, (nI op)), (111, (nI tp)), (115, (nI wn)), (116, (-1)), (117, (nI fu)), (118, rs0), (119, uc0), (125, (nI p9)), (126, 0)]) (V := [(nI ou), (nI op), (nI tp), (nI wn), (-1), (nI fu), rs0, uc0, (nI p9), 0, (nI p9), 0, (nI ou), (nI op), (nI tp), (nI wn), (-1), (nI fu), rs0, uc0, (nI p9), 0]) rfl rfl rfl hP
        have hD : va_D A (mW G h0 a (upd (upd (upd (upd (upd (upd (upd (upd (upd (upd F 87 (nI ou)) 102 (nI op)) 111 (nI tp)) 115 (nI wn)) 116 (-1)) 117 (nI fu)) 118 rs0) 119 uc0) 125 (nI p9)) 126 0) (updA B 63 (upd (B 63) (op - 1) (nI v9)))) := mW_D hD
        refine W.widen (k := 0) (n := 0) (Nat.le_of_ble_eq_true rfl) (Nat.le_of_ble_eq_true rfl) ?_
        refine W.eq (g2 := F0 m 168 ls []) rfl ?_
        refine lv_goto (tgt := 452) hx hb dX12_goesOnIn_168 (by decide) ?_
        have hz75 : Nx Xs (updA B 63 (upd (B 63) (op - 1) (nI v9))) gh nd T nm wr lz dc fd md pr bk M rmm fu (Phi gh ps op (rkN gh n9 true)) op tp wn fu rd on idn fl ct ((-1) : Int32) (nI p9) (0 : Int32) uc0 := hs3
        have hz76 : ou ≤ 400 := (by omega)
        have hP : va_P G.1 pCl (mW G h0 a (upd (upd (upd (upd (upd (upd (upd (upd (upd (upd F 87 (nI ou)) 102 (nI op)) 111 (nI tp)) 115 (nI wn)) 116 ((-1) : Int32)) 117 (nI fu)) 118 rs0) 119 uc0) 125 (nI p9)) 126 (0 : Int32)) (updA B 63 (upd (B 63) (op - 1) (nI v9)))) _ := mW_to (F := F) (l1 := [(87, (nI ou)), (102, (nI op)), (111, (nI tp)), (115, (nI wn)), (116, (-1)), (117, (nI fu)), (118, rs0), (119, uc0), (125, (nI p9)), (126, 0)]) (l2 := [(87, (nI ou)), (102, (nI op)), (111, (nI tp)), (115, (nI wn)), (116, ((-1) : Int32)), (117, (nI fu)), (118, rs0), (119, uc0), (125, (nI p9)), (126, (0 : Int32))]) (V := [(nI ou), (nI op), (nI tp), (nI wn), ((-1) : Int32), (nI fu), rs0, uc0, (nI p9), (0 : Int32), (nI ou), (nI op), (nI tp), (nI wn), ((-1) : Int32), (nI fu), rs0, uc0, (nI p9), (0 : Int32)]) rfl rfl rfl hP
        have hD : va_D A (mW G h0 a (upd (upd (upd (upd (upd (upd (upd (upd (upd (upd F 87 (nI ou)) 102 (nI op)) 111 (nI tp)) 115 (nI wn)) 116 ((-1) : Int32)) 117 (nI fu)) 118 rs0) 119 uc0) 125 (nI p9)) 126 (0 : Int32)) (updA B 63 (upd (B 63) (op - 1) (nI v9)))) := mW_D hD
        exact W.vret hx hb hr (fun t9 ht9 hW9 => ⟨⟨_, (op, tp, wn, fu, ((-1) : Int32), (nI p9), (0 : Int32), rs0, uc0, ou, (updA B 63 (upd (B 63) (op - 1) (nI v9)))), rfl, ⟨rfl, hz75, hz76⟩, by rw [ht9]; exact hP, hD⟩, hS.F ht9⟩) hS.2.2 dX12_goesOnIn_452
      · refine lv_aload_n hx hb dX12_goesOnIn_123 rfl (lv_at hl 1 rfl) ?_
        refine r_get (v := .ref (a 16)) hx hb hown hq hE hP 24 59 tFX12_24 (by decide) pw_1446 rfl dX12_goesOnIn_124 ?_
        refine lv_iload_n hx hb dX12_goesOnIn_127 rfl (lv_at hl 3 rfl) ?_
        refine r_ldi (f := (B 16)) (j := n9) hx hb hE hP 16 (ma_16 G a _) rfl (by omega) (by decide) dX12_goesOnIn_128 ?_
        refine lv_topi (fun x77 e78 => ?_)
        obtain rfl : x77 = nI j1 := e78.trans ((congrFun hw16 _).trans ha1)
        refine lv_iconst (v := (-1)) hx hb dX12_goesOnIn_129 (by decide) ?_
        refine lv_icmp_eq (tgt := 146) hx hb dX12_goesOnIn_130 (by decide) (fun c79 => absurd c79 (nI_m1 (by omega))) (fun c79 => ?_)
        refine lv_aload_n hx hb dX12_goesOnIn_133 rfl (lv_at hl 1 rfl) ?_
        refine lv_aload_n hx hb dX12_goesOnIn_134 rfl (lv_at hl 1 rfl) ?_
        refine r_get (v := .ref (a 16)) hx hb hown hq hE hP 24 59 tFX12_24 (by decide) pw_1446 rfl dX12_goesOnIn_135 ?_
        refine lv_iload_n hx hb dX12_goesOnIn_138 rfl (lv_at hl 3 rfl) ?_
        refine r_ldi (f := (B 16)) (j := n9) hx hb hE hP 16 (ma_16 G a _) rfl (by omega) (by decide) dX12_goesOnIn_139 ?_
        refine lv_topi (fun x80 e81 => ?_)
        obtain rfl : x80 = nI j1 := e81.trans ((congrFun hw16 _).trans ha1)
        have hP : va_P G.1 pCl (mW G h0 a (upd (upd (upd (upd (upd (upd (upd (upd (upd (upd F 87 (nI ou)) 102 (nI op)) 111 (nI tp)) 115 (nI wn)) 116 (-1)) 117 (nI fu)) 118 rs0) 119 uc0) 125 nw) 126 isn) B) _ := hP
        have hD : va_D A (mW G h0 a (upd (upd (upd (upd (upd (upd (upd (upd (upd (upd F 87 (nI ou)) 102 (nI op)) 111 (nI tp)) 115 (nI wn)) 116 (-1)) 117 (nI fu)) 118 rs0) 119 uc0) 125 nw) 126 isn) B) := mW_D hD
        refine pc_V0 (G := G) (As := [.int (nI j1)]) (rest := []) hx hb hml hown hq hE hX pX0_al hP hD hS hA hl.1 (R_begin l G h0 a (upd (upd (upd (upd (upd (upd (upd (upd (upd (upd F 87 (nI ou)) 102 (nI op)) 111 (nI tp)) 115 (nI wn)) 116 (-1)) 117 (nI fu)) 118 rs0) 119 uc0) 125 nw) 126 isn) B (nI j1)) (gV pw_2016 pw_2017 pw_2018 pw_1523 pw_2002) hV_X12_begin 0 9 rfl rfl rfl rfl (Nat.le_of_ble_eq_true rfl) dX12_goesOnIn_140 ⟨Nat.le_of_ble_eq_true rfl, Nat.le_of_ble_eq_true rfl⟩ ⟨Nat.le_of_ble_eq_true rfl, Nat.le_of_ble_eq_true rfl⟩ (fun v84 u82 H locs hw83 hP hD hS => ?_)
        obtain rfl : v84 = none := hw83
        have hP : va_P G.1 pCl (mW G h0 a (upd (upd (upd (upd (upd (upd (upd (upd (upd (upd F 87 (nI ou)) 102 (nI op)) 111 (nI tp)) 115 (nI wn)) 116 (-1)) 117 (nI fu)) 118 rs0) 119 uc0) 125 (nI j1)) 126 1) B) _ := mW_to (F := F) (l1 := [(87, (nI ou)), (102, (nI op)), (111, (nI tp)), (115, (nI wn)), (116, (-1)), (117, (nI fu)), (118, rs0), (119, uc0), (125, nw), (126, isn), (125, (nI j1)), (126, 1)]) (l2 := [(87, (nI ou)), (102, (nI op)), (111, (nI tp)), (115, (nI wn)), (116, (-1)), (117, (nI fu)), (118, rs0), (119, uc0), (125, (nI j1)), (126, 1)]) (V := [(nI ou), (nI op), (nI tp), (nI wn), (-1), (nI fu), rs0, uc0, (nI j1), 1, (nI j1), 1, (nI ou), (nI op), (nI tp), (nI wn), (-1), (nI fu), rs0, uc0, (nI j1), 1]) rfl rfl rfl hP
        have hD : va_D A (mW G h0 a (upd (upd (upd (upd (upd (upd (upd (upd (upd (upd F 87 (nI ou)) 102 (nI op)) 111 (nI tp)) 115 (nI wn)) 116 (-1)) 117 (nI fu)) 118 rs0) 119 uc0) 125 (nI j1)) 126 1) B) := mW_D hD
        refine W.widen (k := 0) (n := 0) (Nat.le_of_ble_eq_true rfl) (Nat.le_of_ble_eq_true rfl) ?_
        refine W.eq (g2 := F0 m 143 ls []) rfl ?_
        refine lv_goto (tgt := 452) hx hb dX12_goesOnIn_143 (by decide) ?_
        have hz85 : Nx Xs B gh nd T nm wr lz dc fd md pr bk M rmm fu (Phi gh ps op (rkN gh n9 true)) op tp wn fu rd on idn fl ct ((-1) : Int32) (nI j1) (1 : Int32) uc0 := hs3
        have hz86 : ou ≤ 400 := (by omega)
        have hP : va_P G.1 pCl (mW G h0 a (upd (upd (upd (upd (upd (upd (upd (upd (upd (upd F 87 (nI ou)) 102 (nI op)) 111 (nI tp)) 115 (nI wn)) 116 ((-1) : Int32)) 117 (nI fu)) 118 rs0) 119 uc0) 125 (nI j1)) 126 (1 : Int32)) B) _ := mW_to (F := F) (l1 := [(87, (nI ou)), (102, (nI op)), (111, (nI tp)), (115, (nI wn)), (116, (-1)), (117, (nI fu)), (118, rs0), (119, uc0), (125, (nI j1)), (126, 1)]) (l2 := [(87, (nI ou)), (102, (nI op)), (111, (nI tp)), (115, (nI wn)), (116, ((-1) : Int32)), (117, (nI fu)), (118, rs0), (119, uc0), (125, (nI j1)), (126, (1 : Int32))]) (V := [(nI ou), (nI op), (nI tp), (nI wn), ((-1) : Int32), (nI fu), rs0, uc0, (nI j1), (1 : Int32), (nI ou), (nI op), (nI tp), (nI wn), ((-1) : Int32), (nI fu), rs0, uc0, (nI j1), (1 : Int32)]) rfl rfl rfl hP
        have hD : va_D A (mW G h0 a (upd (upd (upd (upd (upd (upd (upd (upd (upd (upd F 87 (nI ou)) 102 (nI op)) 111 (nI tp)) 115 (nI wn)) 116 ((-1) : Int32)) 117 (nI fu)) 118 rs0) 119 uc0) 125 (nI j1)) 126 (1 : Int32)) B) := mW_D hD
        exact W.vret hx hb hr (fun t9 ht9 hW9 => ⟨⟨_, (op, tp, wn, fu, ((-1) : Int32), (nI j1), (1 : Int32), rs0, uc0, ou, B), rfl, ⟨rfl, hz85, hz86⟩, by rw [ht9]; exact hP, hD⟩, hS.F ht9⟩) hS.2.2 dX12_goesOnIn_452
  · by_cases hfi : Xs 12 p9 = nI n9
    · refine lv_iload_n hx hb dX12_goesOnIn_0 rfl (lv_at hl 2 rfl) ?_
      refine lv_aload_n hx hb dX12_goesOnIn_1 rfl (lv_at hl 0 rfl) ?_
      refine r_get (v := .ref (a 12)) hx hb hown hq hE hP 20 47 tFX12_20 (by decide) pw_1442 rfl dX12_goesOnIn_2 ?_
      refine lv_iload_n hx hb dX12_goesOnIn_5 rfl (lv_at hl 1 rfl) ?_
      refine r_ldi (f := (B 12)) (j := p9) hx hb hE hP 12 (ma_12 G a _) rfl (by omega) (by decide) dX12_goesOnIn_6 ?_
      refine lv_topi (fun x87 e88 => ?_)
      obtain rfl : x87 = nI n9 := e88.trans ((congrFun hw12 _).trans hfi)
      refine lv_icmp_ne (tgt := 14) hx hb dX12_goesOnIn_7 (by decide) (fun c89 => absurd rfl c89) (fun c89 => ?_)
      refine lv_iconst (v := 1) hx hb dX12_goesOnIn_10 (by decide) ?_
      refine lv_goto (tgt := 15) hx hb dX12_goesOnIn_11 (by decide) ?_
      refine lv_istore_n (lv' := [(3, .int 1), (0, .ref h0), (1, .int (nI p9)), (2, .int (nI n9))]) hx hb dX12_goesOnIn_15 rfl hl (by decide) rfl (fun ls hl => ?_)
      refine lv_aload_n hx hb dX12_goesOnIn_16 rfl (lv_at hl 1 rfl) ?_
      refine r_get (v := .ref (a 9)) hx hb hown hq hE hP 17 38 tFX12_17 (by decide) pw_1439 rfl dX12_goesOnIn_17 ?_
      refine lv_iload_n hx hb dX12_goesOnIn_20 rfl (lv_at hl 2 rfl) ?_
      refine r_ldi (f := (B 9)) (j := p9) hx hb hE hP 9 (ma_9 G a _) rfl (by omega) (by decide) dX12_goesOnIn_21 ?_
      refine lv_topi (fun x90 e91 => ?_)
      obtain rfl : x90 = 32 := e91.trans ((congrFun hw9 _).trans hkd)
      refine lv_tableIn (tgt := 171) (off := 149) hx hb dX12_goesOnIn_22 (by decide) (by decide) (by decide) (by decide) ?_
      refine lv_aload_n hx hb dX12_goesOnIn_171 rfl (lv_at hl 1 rfl) ?_
      refine lv_iload_n hx hb dX12_goesOnIn_172 rfl (lv_at hl 2 rfl) ?_
      have hP : va_P G.1 pCl (mW G h0 a (upd (upd (upd (upd (upd (upd (upd (upd (upd (upd (upd (upd (upd (upd (upd (upd (upd (upd (upd F 87 (nI ou)) 102 (nI op)) 111 (nI tp)) 115 (nI wn)) 116 (-1)) 117 (nI fu)) 118 rs0) 119 uc0) 125 nw) 126 isn) 102 (nI op)) 111 (nI tp)) 115 (nI wn)) 116 (-1)) 117 (nI fu)) 118 rs0) 119 uc0) 125 nw) 126 isn) B) _ := hP
      have hD : va_D A (mW G h0 a (upd (upd (upd (upd (upd (upd (upd (upd (upd (upd (upd (upd (upd (upd (upd (upd (upd (upd (upd F 87 (nI ou)) 102 (nI op)) 111 (nI tp)) 115 (nI wn)) 116 (-1)) 117 (nI fu)) 118 rs0) 119 uc0) 125 nw) 126 isn) 102 (nI op)) 111 (nI tp)) 115 (nI wn)) 116 (-1)) 117 (nI fu)) 118 rs0) 119 uc0) 125 nw) 126 isn) B) := mW_D hD
      refine pc_V0 (G := G) (As := [.int (nI p9)]) (rest := []) hx hb hml hown hq hE hX pX0_al hP hD hS hA hl.1 (R_sets l G h0 a (upd (upd (upd (upd (upd (upd (upd (upd (upd (upd F 87 (nI ou)) 102 (nI op)) 111 (nI tp)) 115 (nI wn)) 116 (-1)) 117 (nI fu)) 118 rs0) 119 uc0) 125 nw) 126 isn) B Xs gh nd T nm wr lz dc fd md pr bk M rmm op tp wn fu rd on idn fl ct n9 p9 u mt ps yy bf wf nw isn rs0 uc0 hR hp hst hfu hkd) (gV pw_2115 pw_2116 pw_2117 pw_1523 pw_2112) hV_X12_sets 0 9 rfl rfl rfl rfl (Nat.le_of_ble_eq_true rfl) dX12_goesOnIn_173 ⟨Nat.le_of_ble_eq_true rfl, Nat.le_of_ble_eq_true rfl⟩ ⟨Nat.le_of_ble_eq_true rfl, Nat.le_of_ble_eq_true rfl⟩ (fun v94 u92 H locs hw93 hP hD hS => ?_)
      obtain ⟨op95, tp96, wn97, fu98, en99, nw100, is101, rs102, uc103, X104⟩ := u92
      obtain ⟨hw93, h105⟩ := hw93
      replace h105 : Nx Xs X104 gh nd T nm wr lz dc fd md pr bk M rmm fu (Phi gh ps op (rkN gh n9 true)) op95 tp96 wn97 fu98 rd on idn fl ct en99 nw100 is101 uc103 := h105
      obtain rfl : v94 = none := hw93
      have hP : va_P G.1 pCl (mW G h0 a (upd (upd (upd (upd (upd (upd (upd (upd (upd (upd F 87 (nI ou)) 102 (nI op95)) 111 (nI tp96)) 115 (nI wn97)) 116 en99) 117 (nI fu98)) 118 rs102) 119 uc103) 125 nw100) 126 is101) X104) _ := mW_to (F := F) (l1 := [(87, (nI ou)), (102, (nI op)), (111, (nI tp)), (115, (nI wn)), (116, (-1)), (117, (nI fu)), (118, rs0), (119, uc0), (125, nw), (126, isn), (102, (nI op95)), (111, (nI tp96)), (115, (nI wn97)), (116, en99), (117, (nI fu98)), (118, rs102), (119, uc103), (125, nw100), (126, is101)]) (l2 := [(87, (nI ou)), (102, (nI op95)), (111, (nI tp96)), (115, (nI wn97)), (116, en99), (117, (nI fu98)), (118, rs102), (119, uc103), (125, nw100), (126, is101)]) (V := [(nI ou), (nI op95), (nI tp96), (nI wn97), en99, (nI fu98), rs102, uc103, nw100, is101, (nI op95), (nI tp96), (nI wn97), en99, (nI fu98), rs102, uc103, nw100, is101, (nI ou), (nI op95), (nI tp96), (nI wn97), en99, (nI fu98), rs102, uc103, nw100, is101]) rfl rfl rfl hP
      have hD : va_D A (mW G h0 a (upd (upd (upd (upd (upd (upd (upd (upd (upd (upd F 87 (nI ou)) 102 (nI op95)) 111 (nI tp96)) 115 (nI wn97)) 116 en99) 117 (nI fu98)) 118 rs102) 119 uc103) 125 nw100) 126 is101) X104) := mW_D hD
      refine W.widen (k := 0) (n := 0) (Nat.le_of_ble_eq_true rfl) (Nat.le_of_ble_eq_true rfl) ?_
      refine W.eq (g2 := F0 m 176 ls []) rfl ?_
      refine lv_goto (tgt := 452) hx hb dX12_goesOnIn_176 (by decide) ?_
      have hz106 : Nx Xs X104 gh nd T nm wr lz dc fd md pr bk M rmm fu (Phi gh ps op (rkN gh n9 true)) op95 tp96 wn97 fu98 rd on idn fl ct en99 nw100 is101 uc103 := h105
      have hz107 : ou ≤ 400 := (by omega)
      have hP : va_P G.1 pCl (mW G h0 a (upd (upd (upd (upd (upd (upd (upd (upd (upd (upd F 87 (nI ou)) 102 (nI op95)) 111 (nI tp96)) 115 (nI wn97)) 116 en99) 117 (nI fu98)) 118 rs102) 119 uc103) 125 nw100) 126 is101) X104) _ := hP
      have hD : va_D A (mW G h0 a (upd (upd (upd (upd (upd (upd (upd (upd (upd (upd F 87 (nI ou)) 102 (nI op95)) 111 (nI tp96)) 115 (nI wn97)) 116 en99) 117 (nI fu98)) 118 rs102) 119 uc103) 125 nw100) 126 is101) X104) := mW_D hD
      exact W.vret hx hb hr (fun t9 ht9 hW9 => ⟨⟨_, (op95, tp96, wn97, fu98, en99, nw100, is101, rs102, uc103, ou, X104), rfl, ⟨rfl, hz106, hz107⟩, by rw [ht9]; exact hP, hD⟩, hS.F ht9⟩) hS.2.2 dX12_goesOnIn_452
    · refine lv_iload_n hx hb dX12_goesOnIn_0 rfl (lv_at hl 2 rfl) ?_
      refine lv_aload_n hx hb dX12_goesOnIn_1 rfl (lv_at hl 0 rfl) ?_
      refine r_get (v := .ref (a 12)) hx hb hown hq hE hP 20 47 tFX12_20 (by decide) pw_1442 rfl dX12_goesOnIn_2 ?_
      refine lv_iload_n hx hb dX12_goesOnIn_5 rfl (lv_at hl 1 rfl) ?_
      refine r_ldi (f := (B 12)) (j := p9) hx hb hE hP 12 (ma_12 G a _) rfl (by omega) (by decide) dX12_goesOnIn_6 ?_
      refine lv_icmp_ne (tgt := 14) hx hb dX12_goesOnIn_7 (by decide) (fun c108 => ?_) (fun c108 => absurd ((congrFun hw12 _).symm.trans c108.symm) hfi)
      refine lv_iconst (v := 0) hx hb dX12_goesOnIn_14 (by decide) ?_
      refine lv_istore_n (lv' := [(3, .int 0), (0, .ref h0), (1, .int (nI p9)), (2, .int (nI n9))]) hx hb dX12_goesOnIn_15 rfl hl (by decide) rfl (fun ls hl => ?_)
      refine lv_aload_n hx hb dX12_goesOnIn_16 rfl (lv_at hl 1 rfl) ?_
      refine r_get (v := .ref (a 9)) hx hb hown hq hE hP 17 38 tFX12_17 (by decide) pw_1439 rfl dX12_goesOnIn_17 ?_
      refine lv_iload_n hx hb dX12_goesOnIn_20 rfl (lv_at hl 2 rfl) ?_
      refine r_ldi (f := (B 9)) (j := p9) hx hb hE hP 9 (ma_9 G a _) rfl (by omega) (by decide) dX12_goesOnIn_21 ?_
      refine lv_topi (fun x109 e110 => ?_)
      obtain rfl : x109 = 32 := e110.trans ((congrFun hw9 _).trans hkd)
      refine lv_tableIn (tgt := 171) (off := 149) hx hb dX12_goesOnIn_22 (by decide) (by decide) (by decide) (by decide) ?_
      refine lv_aload_n hx hb dX12_goesOnIn_171 rfl (lv_at hl 1 rfl) ?_
      refine lv_iload_n hx hb dX12_goesOnIn_172 rfl (lv_at hl 2 rfl) ?_
      have hP : va_P G.1 pCl (mW G h0 a (upd (upd (upd (upd (upd (upd (upd (upd (upd (upd (upd (upd (upd (upd (upd (upd (upd (upd (upd F 87 (nI ou)) 102 (nI op)) 111 (nI tp)) 115 (nI wn)) 116 (-1)) 117 (nI fu)) 118 rs0) 119 uc0) 125 nw) 126 isn) 102 (nI op)) 111 (nI tp)) 115 (nI wn)) 116 (-1)) 117 (nI fu)) 118 rs0) 119 uc0) 125 nw) 126 isn) B) _ := hP
      have hD : va_D A (mW G h0 a (upd (upd (upd (upd (upd (upd (upd (upd (upd (upd (upd (upd (upd (upd (upd (upd (upd (upd (upd F 87 (nI ou)) 102 (nI op)) 111 (nI tp)) 115 (nI wn)) 116 (-1)) 117 (nI fu)) 118 rs0) 119 uc0) 125 nw) 126 isn) 102 (nI op)) 111 (nI tp)) 115 (nI wn)) 116 (-1)) 117 (nI fu)) 118 rs0) 119 uc0) 125 nw) 126 isn) B) := mW_D hD
      refine pc_V0 (G := G) (As := [.int (nI p9)]) (rest := []) hx hb hml hown hq hE hX pX0_al hP hD hS hA hl.1 (R_sets l G h0 a (upd (upd (upd (upd (upd (upd (upd (upd (upd (upd F 87 (nI ou)) 102 (nI op)) 111 (nI tp)) 115 (nI wn)) 116 (-1)) 117 (nI fu)) 118 rs0) 119 uc0) 125 nw) 126 isn) B Xs gh nd T nm wr lz dc fd md pr bk M rmm op tp wn fu rd on idn fl ct n9 p9 u mt ps yy bf wf nw isn rs0 uc0 hR hp hst hfu hkd) (gV pw_2115 pw_2116 pw_2117 pw_1523 pw_2112) hV_X12_sets 0 9 rfl rfl rfl rfl (Nat.le_of_ble_eq_true rfl) dX12_goesOnIn_173 ⟨Nat.le_of_ble_eq_true rfl, Nat.le_of_ble_eq_true rfl⟩ ⟨Nat.le_of_ble_eq_true rfl, Nat.le_of_ble_eq_true rfl⟩ (fun v113 u111 H locs hw112 hP hD hS => ?_)
      obtain ⟨op114, tp115, wn116, fu117, en118, nw119, is120, rs121, uc122, X123⟩ := u111
      obtain ⟨hw112, h124⟩ := hw112
      replace h124 : Nx Xs X123 gh nd T nm wr lz dc fd md pr bk M rmm fu (Phi gh ps op (rkN gh n9 true)) op114 tp115 wn116 fu117 rd on idn fl ct en118 nw119 is120 uc122 := h124
      obtain rfl : v113 = none := hw112
      have hP : va_P G.1 pCl (mW G h0 a (upd (upd (upd (upd (upd (upd (upd (upd (upd (upd F 87 (nI ou)) 102 (nI op114)) 111 (nI tp115)) 115 (nI wn116)) 116 en118) 117 (nI fu117)) 118 rs121) 119 uc122) 125 nw119) 126 is120) X123) _ := mW_to (F := F) (l1 := [(87, (nI ou)), (102, (nI op)), (111, (nI tp)), (115, (nI wn)), (116, (-1)), (117, (nI fu)), (118, rs0), (119, uc0), (125, nw), (126, isn), (102, (nI op114)), (111, (nI tp115)), (115, (nI wn116)), (116, en118), (117, (nI fu117)), (118, rs121), (119, uc122), (125, nw119), (126, is120)]) (l2 := [(87, (nI ou)), (102, (nI op114)), (111, (nI tp115)), (115, (nI wn116)), (116, en118), (117, (nI fu117)), (118, rs121), (119, uc122), (125, nw119), (126, is120)]) (V := [(nI ou), (nI op114), (nI tp115), (nI wn116), en118, (nI fu117), rs121, uc122, nw119, is120, (nI op114), (nI tp115), (nI wn116), en118, (nI fu117), rs121, uc122, nw119, is120, (nI ou), (nI op114), (nI tp115), (nI wn116), en118, (nI fu117), rs121, uc122, nw119, is120]) rfl rfl rfl hP
      have hD : va_D A (mW G h0 a (upd (upd (upd (upd (upd (upd (upd (upd (upd (upd F 87 (nI ou)) 102 (nI op114)) 111 (nI tp115)) 115 (nI wn116)) 116 en118) 117 (nI fu117)) 118 rs121) 119 uc122) 125 nw119) 126 is120) X123) := mW_D hD
      refine W.widen (k := 0) (n := 0) (Nat.le_of_ble_eq_true rfl) (Nat.le_of_ble_eq_true rfl) ?_
      refine W.eq (g2 := F0 m 176 ls []) rfl ?_
      refine lv_goto (tgt := 452) hx hb dX12_goesOnIn_176 (by decide) ?_
      have hz125 : Nx Xs X123 gh nd T nm wr lz dc fd md pr bk M rmm fu (Phi gh ps op (rkN gh n9 true)) op114 tp115 wn116 fu117 rd on idn fl ct en118 nw119 is120 uc122 := h124
      have hz126 : ou ≤ 400 := (by omega)
      have hP : va_P G.1 pCl (mW G h0 a (upd (upd (upd (upd (upd (upd (upd (upd (upd (upd F 87 (nI ou)) 102 (nI op114)) 111 (nI tp115)) 115 (nI wn116)) 116 en118) 117 (nI fu117)) 118 rs121) 119 uc122) 125 nw119) 126 is120) X123) _ := hP
      have hD : va_D A (mW G h0 a (upd (upd (upd (upd (upd (upd (upd (upd (upd (upd F 87 (nI ou)) 102 (nI op114)) 111 (nI tp115)) 115 (nI wn116)) 116 en118) 117 (nI fu117)) 118 rs121) 119 uc122) 125 nw119) 126 is120) X123) := mW_D hD
      exact W.vret hx hb hr (fun t9 ht9 hW9 => ⟨⟨_, (op114, tp115, wn116, fu117, en118, nw119, is120, rs121, uc122, ou, X123), rfl, ⟨rfl, hz125, hz126⟩, by rw [ht9]; exact hP, hD⟩, hS.F ht9⟩) hS.2.2 dX12_goesOnIn_452
  · by_cases hfi : Xs 12 p9 = nI n9
    · refine lv_iload_n hx hb dX12_goesOnIn_0 rfl (lv_at hl 2 rfl) ?_
      refine lv_aload_n hx hb dX12_goesOnIn_1 rfl (lv_at hl 0 rfl) ?_
      refine r_get (v := .ref (a 12)) hx hb hown hq hE hP 20 47 tFX12_20 (by decide) pw_1442 rfl dX12_goesOnIn_2 ?_
      refine lv_iload_n hx hb dX12_goesOnIn_5 rfl (lv_at hl 1 rfl) ?_
      refine r_ldi (f := (B 12)) (j := p9) hx hb hE hP 12 (ma_12 G a _) rfl (by omega) (by decide) dX12_goesOnIn_6 ?_
      refine lv_topi (fun x127 e128 => ?_)
      obtain rfl : x127 = nI n9 := e128.trans ((congrFun hw12 _).trans hfi)
      refine lv_icmp_ne (tgt := 14) hx hb dX12_goesOnIn_7 (by decide) (fun c129 => absurd rfl c129) (fun c129 => ?_)
      refine lv_iconst (v := 1) hx hb dX12_goesOnIn_10 (by decide) ?_
      refine lv_goto (tgt := 15) hx hb dX12_goesOnIn_11 (by decide) ?_
      refine lv_istore_n (lv' := [(3, .int 1), (0, .ref h0), (1, .int (nI p9)), (2, .int (nI n9))]) hx hb dX12_goesOnIn_15 rfl hl (by decide) rfl (fun ls hl => ?_)
      refine lv_aload_n hx hb dX12_goesOnIn_16 rfl (lv_at hl 1 rfl) ?_
      refine r_get (v := .ref (a 9)) hx hb hown hq hE hP 17 38 tFX12_17 (by decide) pw_1439 rfl dX12_goesOnIn_17 ?_
      refine lv_iload_n hx hb dX12_goesOnIn_20 rfl (lv_at hl 2 rfl) ?_
      refine r_ldi (f := (B 9)) (j := p9) hx hb hE hP 9 (ma_9 G a _) rfl (by omega) (by decide) dX12_goesOnIn_21 ?_
      refine lv_topi (fun x130 e131 => ?_)
      obtain rfl : x130 = 33 := e131.trans ((congrFun hw9 _).trans hkd)
      refine lv_tableIn (tgt := 179) (off := 157) hx hb dX12_goesOnIn_22 (by decide) (by decide) (by decide) (by decide) ?_
      obtain ⟨hs1, hs2, hs3⟩ := hR.g33 (uc := uc0) hp hst hkd
      refine lv_aload_n hx hb dX12_goesOnIn_179 rfl (lv_at hl 1 rfl) ?_
      refine lv_dup hx hb dX12_goesOnIn_180 rfl ?_
      refine r_get (v := .int (nI tp)) hx hb hown hq hE hP 111 698 tFX12_111 (by decide) pw_1964 rfl dX12_goesOnIn_181 ?_
      refine lv_aload_n hx hb dX12_goesOnIn_184 rfl (lv_at hl 1 rfl) ?_
      refine r_get (v := .ref (a 17)) hx hb hown hq hE hP 25 62 tFX12_25 (by decide) pw_1447 rfl dX12_goesOnIn_185 ?_
      refine lv_iload_n hx hb dX12_goesOnIn_188 rfl (lv_at hl 3 rfl) ?_
      refine r_ldi (f := (B 17)) (j := n9) hx hb hE hP 17 (ma_17 G a _) rfl (by omega) (by decide) dX12_goesOnIn_189 ?_
      refine lv_if_ne (tgt := 197) hx hb dX12_goesOnIn_190 (by decide) (fun c132 => ?_) (fun c132 => ?_)
      · have ht1 := hs2 c132
        clear hs1 hs2
        refine lv_iconst (v := 1) hx hb dX12_goesOnIn_197 (by decide) ?_
        refine lv_isub hx hb dX12_goesOnIn_198 ?_
        refine lv_topi (fun x133 e134 => ?_)
        obtain rfl : x133 = nI (tp - 1) := e134.trans (nI_subN (a := 1) (b := tp) (by omega))
        refine r_put (v := (nI (tp - 1))) (ty := .int) hx hb hown hq hE hP hD hS 111 698 tFX12_111 (by decide) pw_1964 (by decide) rfl rfl (ms_111 a _ _) dX12_goesOnIn_199 (fun H locs hP hD hS => ?_)
        refine lv_aload_n hx hb dX12_goesOnIn_202 rfl (lv_at hl 1 rfl) ?_
        refine lv_iload_n hx hb dX12_goesOnIn_203 rfl (lv_at hl 2 rfl) ?_
        have hP : va_P G.1 pCl (mW G h0 a (upd (upd (upd (upd (upd (upd (upd (upd (upd (upd F 87 (nI ou)) 102 (nI op)) 111 (nI (tp - 1))) 115 (nI wn)) 116 (-1)) 117 (nI fu)) 118 rs0) 119 uc0) 125 nw) 126 isn) B) _ := hP
        have hD : va_D A (mW G h0 a (upd (upd (upd (upd (upd (upd (upd (upd (upd (upd F 87 (nI ou)) 102 (nI op)) 111 (nI (tp - 1))) 115 (nI wn)) 116 (-1)) 117 (nI fu)) 118 rs0) 119 uc0) 125 nw) 126 isn) B) := mW_D hD
        refine pc_V0 (G := G) (As := [.int (nI p9)]) (rest := []) hx hb hml hown hq hE hX pX0_al hP hD hS hA hl.1 (R_comesToEnd l G h0 a (upd (upd (upd (upd (upd (upd (upd (upd (upd (upd F 87 (nI ou)) 102 (nI op)) 111 (nI (tp - 1))) 115 (nI wn)) 116 (-1)) 117 (nI fu)) 118 rs0) 119 uc0) 125 nw) 126 isn) B (nI p9)) (gV pw_2010 pw_2011 pw_2012 pw_1523 pw_2005) hV_X12_comesToEnd 0 9 rfl rfl rfl rfl (Nat.le_of_ble_eq_true rfl) dX12_goesOnIn_204 ⟨Nat.le_of_ble_eq_true rfl, Nat.le_of_ble_eq_true rfl⟩ ⟨Nat.le_of_ble_eq_true rfl, Nat.le_of_ble_eq_true rfl⟩ (fun v137 u135 H locs hw136 hP hD hS => ?_)
        obtain rfl : v137 = none := hw136
        have hP : va_P G.1 pCl (mW G h0 a (upd (upd (upd (upd (upd (upd (upd (upd (upd (upd F 87 (nI ou)) 102 (nI op)) 111 (nI (tp - 1))) 115 (nI wn)) 116 (-1)) 117 (nI fu)) 118 rs0) 119 uc0) 125 (nI p9)) 126 0) B) _ := mW_to (F := F) (l1 := [(87, (nI ou)), (102, (nI op)), (111, (nI (tp - 1))), (115, (nI wn)), (116, (-1)), (117, (nI fu)), (118, rs0), (119, uc0), (125, nw), (126, isn), (125, (nI p9)), (126, 0)]) (l2 := [(87, (nI ou)), (102, (nI op)), (111, (nI (tp - 1))), (115, (nI wn)), (116, (-1)), (117, (nI fu)), (118, rs0), (119, uc0), (125, (nI p9)), (126, 0)]) (V := [(nI ou), (nI op), (nI (tp - 1)), (nI wn), (-1), (nI fu), rs0, uc0, (nI p9), 0, (nI p9), 0, (nI ou), (nI op), (nI (tp - 1)), (nI wn), (-1), (nI fu), rs0, uc0, (nI p9), 0]) rfl rfl rfl hP
        have hD : va_D A (mW G h0 a (upd (upd (upd (upd (upd (upd (upd (upd (upd (upd F 87 (nI ou)) 102 (nI op)) 111 (nI (tp - 1))) 115 (nI wn)) 116 (-1)) 117 (nI fu)) 118 rs0) 119 uc0) 125 (nI p9)) 126 0) B) := mW_D hD
        refine W.widen (k := 0) (n := 0) (Nat.le_of_ble_eq_true rfl) (Nat.le_of_ble_eq_true rfl) ?_
        refine W.eq (g2 := F0 m 207 ls []) rfl ?_
        refine lv_goto (tgt := 452) hx hb dX12_goesOnIn_207 (by decide) ?_
        have hz138 : Nx Xs B gh nd T nm wr lz dc fd md pr bk M rmm fu (Phi gh ps op (rkN gh n9 true)) op (tp - 1) wn fu rd on idn fl ct ((-1) : Int32) (nI p9) (0 : Int32) uc0 := (by rw [show (tp - 1) = bf (op - 1) by omega]; exact hs3)
        have hz139 : ou ≤ 400 := (by omega)
        have hP : va_P G.1 pCl (mW G h0 a (upd (upd (upd (upd (upd (upd (upd (upd (upd (upd F 87 (nI ou)) 102 (nI op)) 111 (nI (tp - 1))) 115 (nI wn)) 116 ((-1) : Int32)) 117 (nI fu)) 118 rs0) 119 uc0) 125 (nI p9)) 126 (0 : Int32)) B) _ := mW_to (F := F) (l1 := [(87, (nI ou)), (102, (nI op)), (111, (nI (tp - 1))), (115, (nI wn)), (116, (-1)), (117, (nI fu)), (118, rs0), (119, uc0), (125, (nI p9)), (126, 0)]) (l2 := [(87, (nI ou)), (102, (nI op)), (111, (nI (tp - 1))), (115, (nI wn)), (116, ((-1) : Int32)), (117, (nI fu)), (118, rs0), (119, uc0), (125, (nI p9)), (126, (0 : Int32))]) (V := [(nI ou), (nI op), (nI (tp - 1)), (nI wn), ((-1) : Int32), (nI fu), rs0, uc0, (nI p9), (0 : Int32), (nI ou), (nI op), (nI (tp - 1)), (nI wn), ((-1) : Int32), (nI fu), rs0, uc0, (nI p9), (0 : Int32)]) rfl rfl rfl hP
        have hD : va_D A (mW G h0 a (upd (upd (upd (upd (upd (upd (upd (upd (upd (upd F 87 (nI ou)) 102 (nI op)) 111 (nI (tp - 1))) 115 (nI wn)) 116 ((-1) : Int32)) 117 (nI fu)) 118 rs0) 119 uc0) 125 (nI p9)) 126 (0 : Int32)) B) := mW_D hD
        exact W.vret hx hb hr (fun t9 ht9 hW9 => ⟨⟨_, (op, (tp - 1), wn, fu, ((-1) : Int32), (nI p9), (0 : Int32), rs0, uc0, ou, B), rfl, ⟨rfl, hz138, hz139⟩, by rw [ht9]; exact hP, hD⟩, hS.F ht9⟩) hS.2.2 dX12_goesOnIn_452
      · have ht1 := hs1 c132
        clear hs1 hs2
        refine lv_iconst (v := 0) hx hb dX12_goesOnIn_193 (by decide) ?_
        refine lv_goto (tgt := 198) hx hb dX12_goesOnIn_194 (by decide) ?_
        refine lv_isub hx hb dX12_goesOnIn_198 ?_
        refine lv_topi (fun x140 e141 => ?_)
        obtain rfl : x140 = nI (tp - 0) := e141.trans (nI_subN (a := 0) (b := tp) (by omega))
        refine r_put (v := (nI (tp - 0))) (ty := .int) hx hb hown hq hE hP hD hS 111 698 tFX12_111 (by decide) pw_1964 (by decide) rfl rfl (ms_111 a _ _) dX12_goesOnIn_199 (fun H locs hP hD hS => ?_)
        refine lv_aload_n hx hb dX12_goesOnIn_202 rfl (lv_at hl 1 rfl) ?_
        refine lv_iload_n hx hb dX12_goesOnIn_203 rfl (lv_at hl 2 rfl) ?_
        have hP : va_P G.1 pCl (mW G h0 a (upd (upd (upd (upd (upd (upd (upd (upd (upd (upd F 87 (nI ou)) 102 (nI op)) 111 (nI (tp - 0))) 115 (nI wn)) 116 (-1)) 117 (nI fu)) 118 rs0) 119 uc0) 125 nw) 126 isn) B) _ := hP
        have hD : va_D A (mW G h0 a (upd (upd (upd (upd (upd (upd (upd (upd (upd (upd F 87 (nI ou)) 102 (nI op)) 111 (nI (tp - 0))) 115 (nI wn)) 116 (-1)) 117 (nI fu)) 118 rs0) 119 uc0) 125 nw) 126 isn) B) := mW_D hD
        refine pc_V0 (G := G) (As := [.int (nI p9)]) (rest := []) hx hb hml hown hq hE hX pX0_al hP hD hS hA hl.1 (R_comesToEnd l G h0 a (upd (upd (upd (upd (upd (upd (upd (upd (upd (upd F 87 (nI ou)) 102 (nI op)) 111 (nI (tp - 0))) 115 (nI wn)) 116 (-1)) 117 (nI fu)) 118 rs0) 119 uc0) 125 nw) 126 isn) B (nI p9)) (gV pw_2010 pw_2011 pw_2012 pw_1523 pw_2005) hV_X12_comesToEnd 0 9 rfl rfl rfl rfl (Nat.le_of_ble_eq_true rfl) dX12_goesOnIn_204 ⟨Nat.le_of_ble_eq_true rfl, Nat.le_of_ble_eq_true rfl⟩ ⟨Nat.le_of_ble_eq_true rfl, Nat.le_of_ble_eq_true rfl⟩ (fun v144 u142 H locs hw143 hP hD hS => ?_)
        obtain rfl : v144 = none := hw143
        have hP : va_P G.1 pCl (mW G h0 a (upd (upd (upd (upd (upd (upd (upd (upd (upd (upd F 87 (nI ou)) 102 (nI op)) 111 (nI (tp - 0))) 115 (nI wn)) 116 (-1)) 117 (nI fu)) 118 rs0) 119 uc0) 125 (nI p9)) 126 0) B) _ := mW_to (F := F) (l1 := [(87, (nI ou)), (102, (nI op)), (111, (nI (tp - 0))), (115, (nI wn)), (116, (-1)), (117, (nI fu)), (118, rs0), (119, uc0), (125, nw), (126, isn), (125, (nI p9)), (126, 0)]) (l2 := [(87, (nI ou)), (102, (nI op)), (111, (nI (tp - 0))), (115, (nI wn)), (116, (-1)), (117, (nI fu)), (118, rs0), (119, uc0), (125, (nI p9)), (126, 0)]) (V := [(nI ou), (nI op), (nI (tp - 0)), (nI wn), (-1), (nI fu), rs0, uc0, (nI p9), 0, (nI p9), 0, (nI ou), (nI op), (nI (tp - 0)), (nI wn), (-1), (nI fu), rs0, uc0, (nI p9), 0]) rfl rfl rfl hP
        have hD : va_D A (mW G h0 a (upd (upd (upd (upd (upd (upd (upd (upd (upd (upd F 87 (nI ou)) 102 (nI op)) 111 (nI (tp - 0))) 115 (nI wn)) 116 (-1)) 117 (nI fu)) 118 rs0) 119 uc0) 125 (nI p9)) 126 0) B) := mW_D hD
        refine W.widen (k := 0) (n := 0) (Nat.le_of_ble_eq_true rfl) (Nat.le_of_ble_eq_true rfl) ?_
        refine W.eq (g2 := F0 m 207 ls []) rfl ?_
        refine lv_goto (tgt := 452) hx hb dX12_goesOnIn_207 (by decide) ?_
        have hz145 : Nx Xs B gh nd T nm wr lz dc fd md pr bk M rmm fu (Phi gh ps op (rkN gh n9 true)) op (tp - 0) wn fu rd on idn fl ct ((-1) : Int32) (nI p9) (0 : Int32) uc0 := (by rw [show (tp - 0) = bf (op - 1) by omega]; exact hs3)
        have hz146 : ou ≤ 400 := (by omega)
        have hP : va_P G.1 pCl (mW G h0 a (upd (upd (upd (upd (upd (upd (upd (upd (upd (upd F 87 (nI ou)) 102 (nI op)) 111 (nI (tp - 0))) 115 (nI wn)) 116 ((-1) : Int32)) 117 (nI fu)) 118 rs0) 119 uc0) 125 (nI p9)) 126 (0 : Int32)) B) _ := mW_to (F := F) (l1 := [(87, (nI ou)), (102, (nI op)), (111, (nI (tp - 0))), (115, (nI wn)), (116, (-1)), (117, (nI fu)), (118, rs0), (119, uc0), (125, (nI p9)), (126, 0)]) (l2 := [(87, (nI ou)), (102, (nI op)), (111, (nI (tp - 0))), (115, (nI wn)), (116, ((-1) : Int32)), (117, (nI fu)), (118, rs0), (119, uc0), (125, (nI p9)), (126, (0 : Int32))]) (V := [(nI ou), (nI op), (nI (tp - 0)), (nI wn), ((-1) : Int32), (nI fu), rs0, uc0, (nI p9), (0 : Int32), (nI ou), (nI op), (nI (tp - 0)), (nI wn), ((-1) : Int32), (nI fu), rs0, uc0, (nI p9), (0 : Int32)]) rfl rfl rfl hP
        have hD : va_D A (mW G h0 a (upd (upd (upd (upd (upd (upd (upd (upd (upd (upd F 87 (nI ou)) 102 (nI op)) 111 (nI (tp - 0))) 115 (nI wn)) 116 ((-1) : Int32)) 117 (nI fu)) 118 rs0) 119 uc0) 125 (nI p9)) 126 (0 : Int32)) B) := mW_D hD
        exact W.vret hx hb hr (fun t9 ht9 hW9 => ⟨⟨_, (op, (tp - 0), wn, fu, ((-1) : Int32), (nI p9), (0 : Int32), rs0, uc0, ou, B), rfl, ⟨rfl, hz145, hz146⟩, by rw [ht9]; exact hP, hD⟩, hS.F ht9⟩) hS.2.2 dX12_goesOnIn_452
    · refine lv_iload_n hx hb dX12_goesOnIn_0 rfl (lv_at hl 2 rfl) ?_
      refine lv_aload_n hx hb dX12_goesOnIn_1 rfl (lv_at hl 0 rfl) ?_
      refine r_get (v := .ref (a 12)) hx hb hown hq hE hP 20 47 tFX12_20 (by decide) pw_1442 rfl dX12_goesOnIn_2 ?_
      refine lv_iload_n hx hb dX12_goesOnIn_5 rfl (lv_at hl 1 rfl) ?_
      refine r_ldi (f := (B 12)) (j := p9) hx hb hE hP 12 (ma_12 G a _) rfl (by omega) (by decide) dX12_goesOnIn_6 ?_
      refine lv_icmp_ne (tgt := 14) hx hb dX12_goesOnIn_7 (by decide) (fun c147 => ?_) (fun c147 => absurd ((congrFun hw12 _).symm.trans c147.symm) hfi)
      refine lv_iconst (v := 0) hx hb dX12_goesOnIn_14 (by decide) ?_
      refine lv_istore_n (lv' := [(3, .int 0), (0, .ref h0), (1, .int (nI p9)), (2, .int (nI n9))]) hx hb dX12_goesOnIn_15 rfl hl (by decide) rfl (fun ls hl => ?_)
      refine lv_aload_n hx hb dX12_goesOnIn_16 rfl (lv_at hl 1 rfl) ?_
      refine r_get (v := .ref (a 9)) hx hb hown hq hE hP 17 38 tFX12_17 (by decide) pw_1439 rfl dX12_goesOnIn_17 ?_
      refine lv_iload_n hx hb dX12_goesOnIn_20 rfl (lv_at hl 2 rfl) ?_
      refine r_ldi (f := (B 9)) (j := p9) hx hb hE hP 9 (ma_9 G a _) rfl (by omega) (by decide) dX12_goesOnIn_21 ?_
      refine lv_topi (fun x148 e149 => ?_)
      obtain rfl : x148 = 33 := e149.trans ((congrFun hw9 _).trans hkd)
      refine lv_tableIn (tgt := 179) (off := 157) hx hb dX12_goesOnIn_22 (by decide) (by decide) (by decide) (by decide) ?_
      obtain ⟨hs1, hs2, hs3⟩ := hR.g33 (uc := uc0) hp hst hkd
      refine lv_aload_n hx hb dX12_goesOnIn_179 rfl (lv_at hl 1 rfl) ?_
      refine lv_dup hx hb dX12_goesOnIn_180 rfl ?_
      refine r_get (v := .int (nI tp)) hx hb hown hq hE hP 111 698 tFX12_111 (by decide) pw_1964 rfl dX12_goesOnIn_181 ?_
      refine lv_aload_n hx hb dX12_goesOnIn_184 rfl (lv_at hl 1 rfl) ?_
      refine r_get (v := .ref (a 17)) hx hb hown hq hE hP 25 62 tFX12_25 (by decide) pw_1447 rfl dX12_goesOnIn_185 ?_
      refine lv_iload_n hx hb dX12_goesOnIn_188 rfl (lv_at hl 3 rfl) ?_
      refine r_ldi (f := (B 17)) (j := n9) hx hb hE hP 17 (ma_17 G a _) rfl (by omega) (by decide) dX12_goesOnIn_189 ?_
      refine lv_if_ne (tgt := 197) hx hb dX12_goesOnIn_190 (by decide) (fun c150 => ?_) (fun c150 => ?_)
      · have ht1 := hs2 c150
        clear hs1 hs2
        refine lv_iconst (v := 1) hx hb dX12_goesOnIn_197 (by decide) ?_
        refine lv_isub hx hb dX12_goesOnIn_198 ?_
        refine lv_topi (fun x151 e152 => ?_)
        obtain rfl : x151 = nI (tp - 1) := e152.trans (nI_subN (a := 1) (b := tp) (by omega))
        refine r_put (v := (nI (tp - 1))) (ty := .int) hx hb hown hq hE hP hD hS 111 698 tFX12_111 (by decide) pw_1964 (by decide) rfl rfl (ms_111 a _ _) dX12_goesOnIn_199 (fun H locs hP hD hS => ?_)
        refine lv_aload_n hx hb dX12_goesOnIn_202 rfl (lv_at hl 1 rfl) ?_
        refine lv_iload_n hx hb dX12_goesOnIn_203 rfl (lv_at hl 2 rfl) ?_
        have hP : va_P G.1 pCl (mW G h0 a (upd (upd (upd (upd (upd (upd (upd (upd (upd (upd F 87 (nI ou)) 102 (nI op)) 111 (nI (tp - 1))) 115 (nI wn)) 116 (-1)) 117 (nI fu)) 118 rs0) 119 uc0) 125 nw) 126 isn) B) _ := hP
        have hD : va_D A (mW G h0 a (upd (upd (upd (upd (upd (upd (upd (upd (upd (upd F 87 (nI ou)) 102 (nI op)) 111 (nI (tp - 1))) 115 (nI wn)) 116 (-1)) 117 (nI fu)) 118 rs0) 119 uc0) 125 nw) 126 isn) B) := mW_D hD
        refine pc_V0 (G := G) (As := [.int (nI p9)]) (rest := []) hx hb hml hown hq hE hX pX0_al hP hD hS hA hl.1 (R_comesToEnd l G h0 a (upd (upd (upd (upd (upd (upd (upd (upd (upd (upd F 87 (nI ou)) 102 (nI op)) 111 (nI (tp - 1))) 115 (nI wn)) 116 (-1)) 117 (nI fu)) 118 rs0) 119 uc0) 125 nw) 126 isn) B (nI p9)) (gV pw_2010 pw_2011 pw_2012 pw_1523 pw_2005) hV_X12_comesToEnd 0 9 rfl rfl rfl rfl (Nat.le_of_ble_eq_true rfl) dX12_goesOnIn_204 ⟨Nat.le_of_ble_eq_true rfl, Nat.le_of_ble_eq_true rfl⟩ ⟨Nat.le_of_ble_eq_true rfl, Nat.le_of_ble_eq_true rfl⟩ (fun v155 u153 H locs hw154 hP hD hS => ?_)
        obtain rfl : v155 = none := hw154
        have hP : va_P G.1 pCl (mW G h0 a (upd (upd (upd (upd (upd (upd (upd (upd (upd (upd F 87 (nI ou)) 102 (nI op)) 111 (nI (tp - 1))) 115 (nI wn)) 116 (-1)) 117 (nI fu)) 118 rs0) 119 uc0) 125 (nI p9)) 126 0) B) _ := mW_to (F := F) (l1 := [(87, (nI ou)), (102, (nI op)), (111, (nI (tp - 1))), (115, (nI wn)), (116, (-1)), (117, (nI fu)), (118, rs0), (119, uc0), (125, nw), (126, isn), (125, (nI p9)), (126, 0)]) (l2 := [(87, (nI ou)), (102, (nI op)), (111, (nI (tp - 1))), (115, (nI wn)), (116, (-1)), (117, (nI fu)), (118, rs0), (119, uc0), (125, (nI p9)), (126, 0)]) (V := [(nI ou), (nI op), (nI (tp - 1)), (nI wn), (-1), (nI fu), rs0, uc0, (nI p9), 0, (nI p9), 0, (nI ou), (nI op), (nI (tp - 1)), (nI wn), (-1), (nI fu), rs0, uc0, (nI p9), 0]) rfl rfl rfl hP
        have hD : va_D A (mW G h0 a (upd (upd (upd (upd (upd (upd (upd (upd (upd (upd F 87 (nI ou)) 102 (nI op)) 111 (nI (tp - 1))) 115 (nI wn)) 116 (-1)) 117 (nI fu)) 118 rs0) 119 uc0) 125 (nI p9)) 126 0) B) := mW_D hD
        refine W.widen (k := 0) (n := 0) (Nat.le_of_ble_eq_true rfl) (Nat.le_of_ble_eq_true rfl) ?_
        refine W.eq (g2 := F0 m 207 ls []) rfl ?_
        refine lv_goto (tgt := 452) hx hb dX12_goesOnIn_207 (by decide) ?_
        have hz156 : Nx Xs B gh nd T nm wr lz dc fd md pr bk M rmm fu (Phi gh ps op (rkN gh n9 true)) op (tp - 1) wn fu rd on idn fl ct ((-1) : Int32) (nI p9) (0 : Int32) uc0 := (by rw [show (tp - 1) = bf (op - 1) by omega]; exact hs3)
        have hz157 : ou ≤ 400 := (by omega)
        have hP : va_P G.1 pCl (mW G h0 a (upd (upd (upd (upd (upd (upd (upd (upd (upd (upd F 87 (nI ou)) 102 (nI op)) 111 (nI (tp - 1))) 115 (nI wn)) 116 ((-1) : Int32)) 117 (nI fu)) 118 rs0) 119 uc0) 125 (nI p9)) 126 (0 : Int32)) B) _ := mW_to (F := F) (l1 := [(87, (nI ou)), (102, (nI op)), (111, (nI (tp - 1))), (115, (nI wn)), (116, (-1)), (117, (nI fu)), (118, rs0), (119, uc0), (125, (nI p9)), (126, 0)]) (l2 := [(87, (nI ou)), (102, (nI op)), (111, (nI (tp - 1))), (115, (nI wn)), (116, ((-1) : Int32)), (117, (nI fu)), (118, rs0), (119, uc0), (125, (nI p9)), (126, (0 : Int32))]) (V := [(nI ou), (nI op), (nI (tp - 1)), (nI wn), ((-1) : Int32), (nI fu), rs0, uc0, (nI p9), (0 : Int32), (nI ou), (nI op), (nI (tp - 1)), (nI wn), ((-1) : Int32), (nI fu), rs0, uc0, (nI p9), (0 : Int32)]) rfl rfl rfl hP
        have hD : va_D A (mW G h0 a (upd (upd (upd (upd (upd (upd (upd (upd (upd (upd F 87 (nI ou)) 102 (nI op)) 111 (nI (tp - 1))) 115 (nI wn)) 116 ((-1) : Int32)) 117 (nI fu)) 118 rs0) 119 uc0) 125 (nI p9)) 126 (0 : Int32)) B) := mW_D hD
        exact W.vret hx hb hr (fun t9 ht9 hW9 => ⟨⟨_, (op, (tp - 1), wn, fu, ((-1) : Int32), (nI p9), (0 : Int32), rs0, uc0, ou, B), rfl, ⟨rfl, hz156, hz157⟩, by rw [ht9]; exact hP, hD⟩, hS.F ht9⟩) hS.2.2 dX12_goesOnIn_452
      · have ht1 := hs1 c150
        clear hs1 hs2
        refine lv_iconst (v := 0) hx hb dX12_goesOnIn_193 (by decide) ?_
        refine lv_goto (tgt := 198) hx hb dX12_goesOnIn_194 (by decide) ?_
        refine lv_isub hx hb dX12_goesOnIn_198 ?_
        refine lv_topi (fun x158 e159 => ?_)
        obtain rfl : x158 = nI (tp - 0) := e159.trans (nI_subN (a := 0) (b := tp) (by omega))
        refine r_put (v := (nI (tp - 0))) (ty := .int) hx hb hown hq hE hP hD hS 111 698 tFX12_111 (by decide) pw_1964 (by decide) rfl rfl (ms_111 a _ _) dX12_goesOnIn_199 (fun H locs hP hD hS => ?_)
        refine lv_aload_n hx hb dX12_goesOnIn_202 rfl (lv_at hl 1 rfl) ?_
        refine lv_iload_n hx hb dX12_goesOnIn_203 rfl (lv_at hl 2 rfl) ?_
        have hP : va_P G.1 pCl (mW G h0 a (upd (upd (upd (upd (upd (upd (upd (upd (upd (upd F 87 (nI ou)) 102 (nI op)) 111 (nI (tp - 0))) 115 (nI wn)) 116 (-1)) 117 (nI fu)) 118 rs0) 119 uc0) 125 nw) 126 isn) B) _ := hP
        have hD : va_D A (mW G h0 a (upd (upd (upd (upd (upd (upd (upd (upd (upd (upd F 87 (nI ou)) 102 (nI op)) 111 (nI (tp - 0))) 115 (nI wn)) 116 (-1)) 117 (nI fu)) 118 rs0) 119 uc0) 125 nw) 126 isn) B) := mW_D hD
        refine pc_V0 (G := G) (As := [.int (nI p9)]) (rest := []) hx hb hml hown hq hE hX pX0_al hP hD hS hA hl.1 (R_comesToEnd l G h0 a (upd (upd (upd (upd (upd (upd (upd (upd (upd (upd F 87 (nI ou)) 102 (nI op)) 111 (nI (tp - 0))) 115 (nI wn)) 116 (-1)) 117 (nI fu)) 118 rs0) 119 uc0) 125 nw) 126 isn) B (nI p9)) (gV pw_2010 pw_2011 pw_2012 pw_1523 pw_2005) hV_X12_comesToEnd 0 9 rfl rfl rfl rfl (Nat.le_of_ble_eq_true rfl) dX12_goesOnIn_204 ⟨Nat.le_of_ble_eq_true rfl, Nat.le_of_ble_eq_true rfl⟩ ⟨Nat.le_of_ble_eq_true rfl, Nat.le_of_ble_eq_true rfl⟩ (fun v162 u160 H locs hw161 hP hD hS => ?_)
        obtain rfl : v162 = none := hw161
        have hP : va_P G.1 pCl (mW G h0 a (upd (upd (upd (upd (upd (upd (upd (upd (upd (upd F 87 (nI ou)) 102 (nI op)) 111 (nI (tp - 0))) 115 (nI wn)) 116 (-1)) 117 (nI fu)) 118 rs0) 119 uc0) 125 (nI p9)) 126 0) B) _ := mW_to (F := F) (l1 := [(87, (nI ou)), (102, (nI op)), (111, (nI (tp - 0))), (115, (nI wn)), (116, (-1)), (117, (nI fu)), (118, rs0), (119, uc0), (125, nw), (126, isn), (125, (nI p9)), (126, 0)]) (l2 := [(87, (nI ou)), (102, (nI op)), (111, (nI (tp - 0))), (115, (nI wn)), (116, (-1)), (117, (nI fu)), (118, rs0), (119, uc0), (125, (nI p9)), (126, 0)]) (V := [(nI ou), (nI op), (nI (tp - 0)), (nI wn), (-1), (nI fu), rs0, uc0, (nI p9), 0, (nI p9), 0, (nI ou), (nI op), (nI (tp - 0)), (nI wn), (-1), (nI fu), rs0, uc0, (nI p9), 0]) rfl rfl rfl hP
        have hD : va_D A (mW G h0 a (upd (upd (upd (upd (upd (upd (upd (upd (upd (upd F 87 (nI ou)) 102 (nI op)) 111 (nI (tp - 0))) 115 (nI wn)) 116 (-1)) 117 (nI fu)) 118 rs0) 119 uc0) 125 (nI p9)) 126 0) B) := mW_D hD
        refine W.widen (k := 0) (n := 0) (Nat.le_of_ble_eq_true rfl) (Nat.le_of_ble_eq_true rfl) ?_
        refine W.eq (g2 := F0 m 207 ls []) rfl ?_
        refine lv_goto (tgt := 452) hx hb dX12_goesOnIn_207 (by decide) ?_
        have hz163 : Nx Xs B gh nd T nm wr lz dc fd md pr bk M rmm fu (Phi gh ps op (rkN gh n9 true)) op (tp - 0) wn fu rd on idn fl ct ((-1) : Int32) (nI p9) (0 : Int32) uc0 := (by rw [show (tp - 0) = bf (op - 1) by omega]; exact hs3)
        have hz164 : ou ≤ 400 := (by omega)
        have hP : va_P G.1 pCl (mW G h0 a (upd (upd (upd (upd (upd (upd (upd (upd (upd (upd F 87 (nI ou)) 102 (nI op)) 111 (nI (tp - 0))) 115 (nI wn)) 116 ((-1) : Int32)) 117 (nI fu)) 118 rs0) 119 uc0) 125 (nI p9)) 126 (0 : Int32)) B) _ := mW_to (F := F) (l1 := [(87, (nI ou)), (102, (nI op)), (111, (nI (tp - 0))), (115, (nI wn)), (116, (-1)), (117, (nI fu)), (118, rs0), (119, uc0), (125, (nI p9)), (126, 0)]) (l2 := [(87, (nI ou)), (102, (nI op)), (111, (nI (tp - 0))), (115, (nI wn)), (116, ((-1) : Int32)), (117, (nI fu)), (118, rs0), (119, uc0), (125, (nI p9)), (126, (0 : Int32))]) (V := [(nI ou), (nI op), (nI (tp - 0)), (nI wn), ((-1) : Int32), (nI fu), rs0, uc0, (nI p9), (0 : Int32), (nI ou), (nI op), (nI (tp - 0)), (nI wn), ((-1) : Int32), (nI fu), rs0, uc0, (nI p9), (0 : Int32)]) rfl rfl rfl hP
        have hD : va_D A (mW G h0 a (upd (upd (upd (upd (upd (upd (upd (upd (upd (upd F 87 (nI ou)) 102 (nI op)) 111 (nI (tp - 0))) 115 (nI wn)) 116 ((-1) : Int32)) 117 (nI fu)) 118 rs0) 119 uc0) 125 (nI p9)) 126 (0 : Int32)) B) := mW_D hD
        exact W.vret hx hb hr (fun t9 ht9 hW9 => ⟨⟨_, (op, (tp - 0), wn, fu, ((-1) : Int32), (nI p9), (0 : Int32), rs0, uc0, ou, B), rfl, ⟨rfl, hz163, hz164⟩, by rw [ht9]; exact hP, hD⟩, hS.F ht9⟩) hS.2.2 dX12_goesOnIn_452
  · by_cases hfi : Xs 12 p9 = nI n9
    · refine lv_iload_n hx hb dX12_goesOnIn_0 rfl (lv_at hl 2 rfl) ?_
      refine lv_aload_n hx hb dX12_goesOnIn_1 rfl (lv_at hl 0 rfl) ?_
      refine r_get (v := .ref (a 12)) hx hb hown hq hE hP 20 47 tFX12_20 (by decide) pw_1442 rfl dX12_goesOnIn_2 ?_
      refine lv_iload_n hx hb dX12_goesOnIn_5 rfl (lv_at hl 1 rfl) ?_
      refine r_ldi (f := (B 12)) (j := p9) hx hb hE hP 12 (ma_12 G a _) rfl (by omega) (by decide) dX12_goesOnIn_6 ?_
      refine lv_topi (fun x165 e166 => ?_)
      obtain rfl : x165 = nI n9 := e166.trans ((congrFun hw12 _).trans hfi)
      refine lv_icmp_ne (tgt := 14) hx hb dX12_goesOnIn_7 (by decide) (fun c167 => absurd rfl c167) (fun c167 => ?_)
      refine lv_iconst (v := 1) hx hb dX12_goesOnIn_10 (by decide) ?_
      refine lv_goto (tgt := 15) hx hb dX12_goesOnIn_11 (by decide) ?_
      refine lv_istore_n (lv' := [(3, .int 1), (0, .ref h0), (1, .int (nI p9)), (2, .int (nI n9))]) hx hb dX12_goesOnIn_15 rfl hl (by decide) rfl (fun ls hl => ?_)
      refine lv_aload_n hx hb dX12_goesOnIn_16 rfl (lv_at hl 1 rfl) ?_
      refine r_get (v := .ref (a 9)) hx hb hown hq hE hP 17 38 tFX12_17 (by decide) pw_1439 rfl dX12_goesOnIn_17 ?_
      refine lv_iload_n hx hb dX12_goesOnIn_20 rfl (lv_at hl 2 rfl) ?_
      refine r_ldi (f := (B 9)) (j := p9) hx hb hE hP 9 (ma_9 G a _) rfl (by omega) (by decide) dX12_goesOnIn_21 ?_
      refine lv_topi (fun x168 e169 => ?_)
      obtain rfl : x168 = 34 := e169.trans ((congrFun hw9 _).trans hkd)
      refine lv_tableIn (tgt := 210) (off := 188) hx hb dX12_goesOnIn_22 (by decide) (by decide) (by decide) (by decide) ?_
      obtain ⟨ht1, ⟨j1, ha1, ha2, ha3⟩, hs3⟩ := (hR.g34 (uc := uc0) hp hst hkd).1 hfi
      refine lv_iload_n hx hb dX12_goesOnIn_210 rfl (lv_at hl 0 rfl) ?_
      refine lv_if_ne (tgt := 222) hx hb dX12_goesOnIn_211 (by decide) (fun c170 => ?_) (fun c170 => absurd c170 (by decide))
      refine lv_aload_n hx hb dX12_goesOnIn_222 rfl (lv_at hl 1 rfl) ?_
      have hP : va_P G.1 pCl (mW G h0 a (upd (upd (upd (upd (upd (upd (upd (upd (upd (upd (upd F 87 (nI ou)) 102 (nI op)) 111 (nI tp)) 115 (nI wn)) 116 (-1)) 117 (nI fu)) 118 rs0) 119 uc0) 125 nw) 126 isn) 111 (nI tp)) (updA B 68 (B 68))) _ := hP
      have hD : va_D A (mW G h0 a (upd (upd (upd (upd (upd (upd (upd (upd (upd (upd (upd F 87 (nI ou)) 102 (nI op)) 111 (nI tp)) 115 (nI wn)) 116 (-1)) 117 (nI fu)) 118 rs0) 119 uc0) 125 nw) 126 isn) 111 (nI tp)) (updA B 68 (B 68))) := mW_D hD
      refine pc_V0 (G := G) (As := []) (rest := []) hx hb hml hown hq hE hX pX0_al hP hD hS hA hl.1 (R_pop l G h0 a (upd (upd (upd (upd (upd (upd (upd (upd (upd (upd F 87 (nI ou)) 102 (nI op)) 111 (nI tp)) 115 (nI wn)) 116 (-1)) 117 (nI fu)) 118 rs0) 119 uc0) 125 nw) 126 isn) B tp (B 68) (by omega)) (gV pw_2082 pw_2083 pw_2084 pw_1523 pw_1965) hV_X12_pop 0 9 rfl rfl rfl rfl (Nat.le_of_ble_eq_true rfl) dX12_goesOnIn_223 ⟨Nat.le_of_ble_eq_true rfl, Nat.le_of_ble_eq_true rfl⟩ ⟨Nat.le_of_ble_eq_true rfl, Nat.le_of_ble_eq_true rfl⟩ (fun v173 u171 H locs hw172 hP hD hS => ?_)
      obtain rfl : v173 = some (.int ((B 68) (tp - 1))) := hw172
      have hP : va_P G.1 pCl (mW G h0 a (upd (upd (upd (upd (upd (upd (upd (upd (upd (upd F 87 (nI ou)) 102 (nI op)) 111 (nI (tp - 1))) 115 (nI wn)) 116 (-1)) 117 (nI fu)) 118 rs0) 119 uc0) 125 nw) 126 isn) B) _ := mW_to (F := F) (l1 := [(87, (nI ou)), (102, (nI op)), (111, (nI tp)), (115, (nI wn)), (116, (-1)), (117, (nI fu)), (118, rs0), (119, uc0), (125, nw), (126, isn), (111, (nI (tp - 1)))]) (l2 := [(87, (nI ou)), (102, (nI op)), (111, (nI (tp - 1))), (115, (nI wn)), (116, (-1)), (117, (nI fu)), (118, rs0), (119, uc0), (125, nw), (126, isn)]) (V := [(nI ou), (nI op), (nI (tp - 1)), (nI wn), (-1), (nI fu), rs0, uc0, nw, isn, (nI (tp - 1)), (nI ou), (nI op), (nI (tp - 1)), (nI wn), (-1), (nI fu), rs0, uc0, nw, isn]) rfl rfl (show (updA B 68 (B 68)) = B from updsA_eq2 (F := B) (l1 := [(68, (B 68))]) (l2 := []) (V := [(B 68)]) rfl rfl) hP
      have hD : va_D A (mW G h0 a (upd (upd (upd (upd (upd (upd (upd (upd (upd (upd F 87 (nI ou)) 102 (nI op)) 111 (nI (tp - 1))) 115 (nI wn)) 116 (-1)) 117 (nI fu)) 118 rs0) 119 uc0) 125 nw) 126 isn) B) := mW_D hD
      refine W.widen (k := 0) (n := 0) (Nat.le_of_ble_eq_true rfl) (Nat.le_of_ble_eq_true rfl) ?_
      refine W.eq (g2 := F0 m 226 ls [.int ((B 68) (tp - 1))]) rfl ?_
      refine lv_iconst (v := 1) hx hb dX12_goesOnIn_226 (by decide) ?_
      refine lv_icmp_ne (tgt := 243) hx hb dX12_goesOnIn_227 (by decide) (fun c174 => ?_) (fun c174 => ?_)
      · refine lv_aload_n hx hb dX12_goesOnIn_243 rfl (lv_at hl 1 rfl) ?_
        refine lv_iload_n hx hb dX12_goesOnIn_244 rfl (lv_at hl 2 rfl) ?_
        refine lv_aload_n hx hb dX12_goesOnIn_245 rfl (lv_at hl 1 rfl) ?_
        refine r_get (v := .ref (a 14)) hx hb hown hq hE hP 22 53 tFX12_22 (by decide) pw_1444 rfl dX12_goesOnIn_246 ?_
        refine lv_iload_n hx hb dX12_goesOnIn_249 rfl (lv_at hl 2 rfl) ?_
        refine r_ldi (f := (B 14)) (j := p9) hx hb hE hP 14 (ma_14 G a _) rfl (by omega) (by decide) dX12_goesOnIn_250 ?_
        have hP : va_P G.1 pCl (mW G h0 a (upd (upd (upd (upd (upd (upd (upd (upd (upd (upd F 87 (nI ou)) 102 (nI op)) 111 (nI (tp - 1))) 115 (nI wn)) 116 (-1)) 117 (nI fu)) 118 rs0) 119 uc0) 125 nw) 126 isn) B) _ := hP
        have hD : va_D A (mW G h0 a (upd (upd (upd (upd (upd (upd (upd (upd (upd (upd F 87 (nI ou)) 102 (nI op)) 111 (nI (tp - 1))) 115 (nI wn)) 116 (-1)) 117 (nI fu)) 118 rs0) 119 uc0) 125 nw) 126 isn) B) := mW_D hD
        refine pc_V0 (G := G) (As := [.int (nI p9), .int ((B 14) p9)]) (rest := []) hx hb hml hown hq hE hX pX0_al hP hD hS hA hl.1 (R_goesInto l G h0 a (upd (upd (upd (upd (upd (upd (upd (upd (upd (upd F 87 (nI ou)) 102 (nI op)) 111 (nI (tp - 1))) 115 (nI wn)) 116 (-1)) 117 (nI fu)) 118 rs0) 119 uc0) 125 nw) 126 isn) B (nI p9) ((B 14) p9)) (gV pw_2078 pw_2079 pw_2080 pw_1523 pw_2064) hV_X12_goesInto 0 9 rfl rfl rfl rfl (Nat.le_of_ble_eq_true rfl) dX12_goesOnIn_251 ⟨Nat.le_of_ble_eq_true rfl, Nat.le_of_ble_eq_true rfl⟩ ⟨Nat.le_of_ble_eq_true rfl, Nat.le_of_ble_eq_true rfl⟩ (fun v177 u175 H locs hw176 hP hD hS => ?_)
        obtain ⟨nw178, is179⟩ := u175
        obtain ⟨hw176, h180, h181⟩ := hw176
        replace h180 : If (((B 14) p9) = -1) (nw178 = (nI p9) ∧ is179 = 0) := h180
        replace h181 : If (¬ ((B 14) p9) = -1) (nw178 = ((B 14) p9) ∧ is179 = 1) := h181
        obtain rfl : v177 = none := hw176
        have hP : va_P G.1 pCl (mW G h0 a (upd (upd (upd (upd (upd (upd (upd (upd (upd (upd F 87 (nI ou)) 102 (nI op)) 111 (nI (tp - 1))) 115 (nI wn)) 116 (-1)) 117 (nI fu)) 118 rs0) 119 uc0) 125 nw178) 126 is179) B) _ := mW_to (F := F) (l1 := [(87, (nI ou)), (102, (nI op)), (111, (nI (tp - 1))), (115, (nI wn)), (116, (-1)), (117, (nI fu)), (118, rs0), (119, uc0), (125, nw), (126, isn), (125, nw178), (126, is179)]) (l2 := [(87, (nI ou)), (102, (nI op)), (111, (nI (tp - 1))), (115, (nI wn)), (116, (-1)), (117, (nI fu)), (118, rs0), (119, uc0), (125, nw178), (126, is179)]) (V := [(nI ou), (nI op), (nI (tp - 1)), (nI wn), (-1), (nI fu), rs0, uc0, nw178, is179, nw178, is179, (nI ou), (nI op), (nI (tp - 1)), (nI wn), (-1), (nI fu), rs0, uc0, nw178, is179]) rfl rfl rfl hP
        have hD : va_D A (mW G h0 a (upd (upd (upd (upd (upd (upd (upd (upd (upd (upd F 87 (nI ou)) 102 (nI op)) 111 (nI (tp - 1))) 115 (nI wn)) 116 (-1)) 117 (nI fu)) 118 rs0) 119 uc0) 125 nw178) 126 is179) B) := mW_D hD
        refine W.widen (k := 0) (n := 0) (Nat.le_of_ble_eq_true rfl) (Nat.le_of_ble_eq_true rfl) ?_
        refine W.eq (g2 := F0 m 254 ls []) rfl ?_
        refine lv_goto (tgt := 452) hx hb dX12_goesOnIn_254 (by decide) ?_
        have hz182 : Nx Xs B gh nd T nm wr lz dc fd md pr bk M rmm fu (Phi gh ps op (rkN gh n9 true)) op (tp - 1) wn fu rd on idn fl ct ((-1) : Int32) nw178 is179 uc0 := (by rcases hs3 with ⟨z1, z2⟩ | ⟨z0, z1, z3, z2⟩; obtain ⟨y1, y2⟩ := h180 z1; rw [y1, y2]; exact z2; obtain ⟨y1, y2⟩ := h181 (by rw [z1]; exact nI_m1 (by omega)); rw [y1, y2, z1]; exact z2)
        have hz183 : ou ≤ 400 := (by omega)
        have hP : va_P G.1 pCl (mW G h0 a (upd (upd (upd (upd (upd (upd (upd (upd (upd (upd F 87 (nI ou)) 102 (nI op)) 111 (nI (tp - 1))) 115 (nI wn)) 116 ((-1) : Int32)) 117 (nI fu)) 118 rs0) 119 uc0) 125 nw178) 126 is179) B) _ := mW_to (F := F) (l1 := [(87, (nI ou)), (102, (nI op)), (111, (nI (tp - 1))), (115, (nI wn)), (116, (-1)), (117, (nI fu)), (118, rs0), (119, uc0), (125, nw178), (126, is179)]) (l2 := [(87, (nI ou)), (102, (nI op)), (111, (nI (tp - 1))), (115, (nI wn)), (116, ((-1) : Int32)), (117, (nI fu)), (118, rs0), (119, uc0), (125, nw178), (126, is179)]) (V := [(nI ou), (nI op), (nI (tp - 1)), (nI wn), ((-1) : Int32), (nI fu), rs0, uc0, nw178, is179, (nI ou), (nI op), (nI (tp - 1)), (nI wn), ((-1) : Int32), (nI fu), rs0, uc0, nw178, is179]) rfl rfl rfl hP
        have hD : va_D A (mW G h0 a (upd (upd (upd (upd (upd (upd (upd (upd (upd (upd F 87 (nI ou)) 102 (nI op)) 111 (nI (tp - 1))) 115 (nI wn)) 116 ((-1) : Int32)) 117 (nI fu)) 118 rs0) 119 uc0) 125 nw178) 126 is179) B) := mW_D hD
        exact W.vret hx hb hr (fun t9 ht9 hW9 => ⟨⟨_, (op, (tp - 1), wn, fu, ((-1) : Int32), nw178, is179, rs0, uc0, ou, B), rfl, ⟨rfl, hz182, hz183⟩, by rw [ht9]; exact hP, hD⟩, hS.F ht9⟩) hS.2.2 dX12_goesOnIn_452
      · refine lv_aload_n hx hb dX12_goesOnIn_230 rfl (lv_at hl 1 rfl) ?_
        refine lv_aload_n hx hb dX12_goesOnIn_231 rfl (lv_at hl 1 rfl) ?_
        refine r_get (v := .ref (a 13)) hx hb hown hq hE hP 21 50 tFX12_21 (by decide) pw_1443 rfl dX12_goesOnIn_232 ?_
        refine lv_iload_n hx hb dX12_goesOnIn_235 rfl (lv_at hl 2 rfl) ?_
        refine r_ldi (f := (B 13)) (j := p9) hx hb hE hP 13 (ma_13 G a _) rfl (by omega) (by decide) dX12_goesOnIn_236 ?_
        refine lv_topi (fun x184 e185 => ?_)
        obtain rfl : x184 = nI j1 := e185.trans ((congrFun hw13 _).trans ha1)
        have hP : va_P G.1 pCl (mW G h0 a (upd (upd (upd (upd (upd (upd (upd (upd (upd (upd F 87 (nI ou)) 102 (nI op)) 111 (nI (tp - 1))) 115 (nI wn)) 116 (-1)) 117 (nI fu)) 118 rs0) 119 uc0) 125 nw) 126 isn) B) _ := hP
        have hD : va_D A (mW G h0 a (upd (upd (upd (upd (upd (upd (upd (upd (upd (upd F 87 (nI ou)) 102 (nI op)) 111 (nI (tp - 1))) 115 (nI wn)) 116 (-1)) 117 (nI fu)) 118 rs0) 119 uc0) 125 nw) 126 isn) B) := mW_D hD
        refine pc_V0 (G := G) (As := [.int (nI j1)]) (rest := []) hx hb hml hown hq hE hX pX0_al hP hD hS hA hl.1 (R_begin l G h0 a (upd (upd (upd (upd (upd (upd (upd (upd (upd (upd F 87 (nI ou)) 102 (nI op)) 111 (nI (tp - 1))) 115 (nI wn)) 116 (-1)) 117 (nI fu)) 118 rs0) 119 uc0) 125 nw) 126 isn) B (nI j1)) (gV pw_2016 pw_2017 pw_2018 pw_1523 pw_2002) hV_X12_begin 0 9 rfl rfl rfl rfl (Nat.le_of_ble_eq_true rfl) dX12_goesOnIn_237 ⟨Nat.le_of_ble_eq_true rfl, Nat.le_of_ble_eq_true rfl⟩ ⟨Nat.le_of_ble_eq_true rfl, Nat.le_of_ble_eq_true rfl⟩ (fun v188 u186 H locs hw187 hP hD hS => ?_)
        obtain rfl : v188 = none := hw187
        have hP : va_P G.1 pCl (mW G h0 a (upd (upd (upd (upd (upd (upd (upd (upd (upd (upd F 87 (nI ou)) 102 (nI op)) 111 (nI (tp - 1))) 115 (nI wn)) 116 (-1)) 117 (nI fu)) 118 rs0) 119 uc0) 125 (nI j1)) 126 1) B) _ := mW_to (F := F) (l1 := [(87, (nI ou)), (102, (nI op)), (111, (nI (tp - 1))), (115, (nI wn)), (116, (-1)), (117, (nI fu)), (118, rs0), (119, uc0), (125, nw), (126, isn), (125, (nI j1)), (126, 1)]) (l2 := [(87, (nI ou)), (102, (nI op)), (111, (nI (tp - 1))), (115, (nI wn)), (116, (-1)), (117, (nI fu)), (118, rs0), (119, uc0), (125, (nI j1)), (126, 1)]) (V := [(nI ou), (nI op), (nI (tp - 1)), (nI wn), (-1), (nI fu), rs0, uc0, (nI j1), 1, (nI j1), 1, (nI ou), (nI op), (nI (tp - 1)), (nI wn), (-1), (nI fu), rs0, uc0, (nI j1), 1]) rfl rfl rfl hP
        have hD : va_D A (mW G h0 a (upd (upd (upd (upd (upd (upd (upd (upd (upd (upd F 87 (nI ou)) 102 (nI op)) 111 (nI (tp - 1))) 115 (nI wn)) 116 (-1)) 117 (nI fu)) 118 rs0) 119 uc0) 125 (nI j1)) 126 1) B) := mW_D hD
        refine W.widen (k := 0) (n := 0) (Nat.le_of_ble_eq_true rfl) (Nat.le_of_ble_eq_true rfl) ?_
        refine W.eq (g2 := F0 m 240 ls []) rfl ?_
        refine lv_goto (tgt := 452) hx hb dX12_goesOnIn_240 (by decide) ?_
        have hz189 : Nx Xs B gh nd T nm wr lz dc fd md pr bk M rmm fu (Phi gh ps op (rkN gh n9 true)) op (tp - 1) wn fu rd on idn fl ct ((-1) : Int32) (nI j1) (1 : Int32) uc0 := ha3
        have hz190 : ou ≤ 400 := (by omega)
        have hP : va_P G.1 pCl (mW G h0 a (upd (upd (upd (upd (upd (upd (upd (upd (upd (upd F 87 (nI ou)) 102 (nI op)) 111 (nI (tp - 1))) 115 (nI wn)) 116 ((-1) : Int32)) 117 (nI fu)) 118 rs0) 119 uc0) 125 (nI j1)) 126 (1 : Int32)) B) _ := mW_to (F := F) (l1 := [(87, (nI ou)), (102, (nI op)), (111, (nI (tp - 1))), (115, (nI wn)), (116, (-1)), (117, (nI fu)), (118, rs0), (119, uc0), (125, (nI j1)), (126, 1)]) (l2 := [(87, (nI ou)), (102, (nI op)), (111, (nI (tp - 1))), (115, (nI wn)), (116, ((-1) : Int32)), (117, (nI fu)), (118, rs0), (119, uc0), (125, (nI j1)), (126, (1 : Int32))]) (V := [(nI ou), (nI op), (nI (tp - 1)), (nI wn), ((-1) : Int32), (nI fu), rs0, uc0, (nI j1), (1 : Int32), (nI ou), (nI op), (nI (tp - 1)), (nI wn), ((-1) : Int32), (nI fu), rs0, uc0, (nI j1), (1 : Int32)]) rfl rfl rfl hP
        have hD : va_D A (mW G h0 a (upd (upd (upd (upd (upd (upd (upd (upd (upd (upd F 87 (nI ou)) 102 (nI op)) 111 (nI (tp - 1))) 115 (nI wn)) 116 ((-1) : Int32)) 117 (nI fu)) 118 rs0) 119 uc0) 125 (nI j1)) 126 (1 : Int32)) B) := mW_D hD
        exact W.vret hx hb hr (fun t9 ht9 hW9 => ⟨⟨_, (op, (tp - 1), wn, fu, ((-1) : Int32), (nI j1), (1 : Int32), rs0, uc0, ou, B), rfl, ⟨rfl, hz189, hz190⟩, by rw [ht9]; exact hP, hD⟩, hS.F ht9⟩) hS.2.2 dX12_goesOnIn_452
    · refine lv_iload_n hx hb dX12_goesOnIn_0 rfl (lv_at hl 2 rfl) ?_
      refine lv_aload_n hx hb dX12_goesOnIn_1 rfl (lv_at hl 0 rfl) ?_
      refine r_get (v := .ref (a 12)) hx hb hown hq hE hP 20 47 tFX12_20 (by decide) pw_1442 rfl dX12_goesOnIn_2 ?_
      refine lv_iload_n hx hb dX12_goesOnIn_5 rfl (lv_at hl 1 rfl) ?_
      refine r_ldi (f := (B 12)) (j := p9) hx hb hE hP 12 (ma_12 G a _) rfl (by omega) (by decide) dX12_goesOnIn_6 ?_
      refine lv_icmp_ne (tgt := 14) hx hb dX12_goesOnIn_7 (by decide) (fun c191 => ?_) (fun c191 => absurd ((congrFun hw12 _).symm.trans c191.symm) hfi)
      refine lv_iconst (v := 0) hx hb dX12_goesOnIn_14 (by decide) ?_
      refine lv_istore_n (lv' := [(3, .int 0), (0, .ref h0), (1, .int (nI p9)), (2, .int (nI n9))]) hx hb dX12_goesOnIn_15 rfl hl (by decide) rfl (fun ls hl => ?_)
      refine lv_aload_n hx hb dX12_goesOnIn_16 rfl (lv_at hl 1 rfl) ?_
      refine r_get (v := .ref (a 9)) hx hb hown hq hE hP 17 38 tFX12_17 (by decide) pw_1439 rfl dX12_goesOnIn_17 ?_
      refine lv_iload_n hx hb dX12_goesOnIn_20 rfl (lv_at hl 2 rfl) ?_
      refine r_ldi (f := (B 9)) (j := p9) hx hb hE hP 9 (ma_9 G a _) rfl (by omega) (by decide) dX12_goesOnIn_21 ?_
      refine lv_topi (fun x192 e193 => ?_)
      obtain rfl : x192 = 34 := e193.trans ((congrFun hw9 _).trans hkd)
      refine lv_tableIn (tgt := 210) (off := 188) hx hb dX12_goesOnIn_22 (by decide) (by decide) (by decide) (by decide) ?_
      refine lv_iload_n hx hb dX12_goesOnIn_210 rfl (lv_at hl 0 rfl) ?_
      refine lv_if_ne (tgt := 222) hx hb dX12_goesOnIn_211 (by decide) (fun c194 => absurd c194 (by decide)) (fun c194 => ?_)
      refine lv_aload_n hx hb dX12_goesOnIn_214 rfl (lv_at hl 1 rfl) ?_
      refine lv_iload_n hx hb dX12_goesOnIn_215 rfl (lv_at hl 2 rfl) ?_
      have hP : va_P G.1 pCl (mW G h0 a (upd (upd (upd (upd (upd (upd (upd (upd (upd (upd F 87 (nI ou)) 102 (nI op)) 111 (nI tp)) 115 (nI wn)) 116 (-1)) 117 (nI fu)) 118 rs0) 119 uc0) 125 nw) 126 isn) B) _ := hP
      have hD : va_D A (mW G h0 a (upd (upd (upd (upd (upd (upd (upd (upd (upd (upd F 87 (nI ou)) 102 (nI op)) 111 (nI tp)) 115 (nI wn)) 116 (-1)) 117 (nI fu)) 118 rs0) 119 uc0) 125 nw) 126 isn) B) := mW_D hD
      refine pc_V0 (G := G) (As := [.int (nI p9)]) (rest := []) hx hb hml hown hq hE hX pX0_al hP hD hS hA hl.1 (R_comesToEnd l G h0 a (upd (upd (upd (upd (upd (upd (upd (upd (upd (upd F 87 (nI ou)) 102 (nI op)) 111 (nI tp)) 115 (nI wn)) 116 (-1)) 117 (nI fu)) 118 rs0) 119 uc0) 125 nw) 126 isn) B (nI p9)) (gV pw_2010 pw_2011 pw_2012 pw_1523 pw_2005) hV_X12_comesToEnd 0 9 rfl rfl rfl rfl (Nat.le_of_ble_eq_true rfl) dX12_goesOnIn_216 ⟨Nat.le_of_ble_eq_true rfl, Nat.le_of_ble_eq_true rfl⟩ ⟨Nat.le_of_ble_eq_true rfl, Nat.le_of_ble_eq_true rfl⟩ (fun v197 u195 H locs hw196 hP hD hS => ?_)
      obtain rfl : v197 = none := hw196
      have hP : va_P G.1 pCl (mW G h0 a (upd (upd (upd (upd (upd (upd (upd (upd (upd (upd F 87 (nI ou)) 102 (nI op)) 111 (nI tp)) 115 (nI wn)) 116 (-1)) 117 (nI fu)) 118 rs0) 119 uc0) 125 (nI p9)) 126 0) B) _ := mW_to (F := F) (l1 := [(87, (nI ou)), (102, (nI op)), (111, (nI tp)), (115, (nI wn)), (116, (-1)), (117, (nI fu)), (118, rs0), (119, uc0), (125, nw), (126, isn), (125, (nI p9)), (126, 0)]) (l2 := [(87, (nI ou)), (102, (nI op)), (111, (nI tp)), (115, (nI wn)), (116, (-1)), (117, (nI fu)), (118, rs0), (119, uc0), (125, (nI p9)), (126, 0)]) (V := [(nI ou), (nI op), (nI tp), (nI wn), (-1), (nI fu), rs0, uc0, (nI p9), 0, (nI p9), 0, (nI ou), (nI op), (nI tp), (nI wn), (-1), (nI fu), rs0, uc0, (nI p9), 0]) rfl rfl rfl hP
      have hD : va_D A (mW G h0 a (upd (upd (upd (upd (upd (upd (upd (upd (upd (upd F 87 (nI ou)) 102 (nI op)) 111 (nI tp)) 115 (nI wn)) 116 (-1)) 117 (nI fu)) 118 rs0) 119 uc0) 125 (nI p9)) 126 0) B) := mW_D hD
      refine W.widen (k := 0) (n := 0) (Nat.le_of_ble_eq_true rfl) (Nat.le_of_ble_eq_true rfl) ?_
      refine W.eq (g2 := F0 m 219 ls []) rfl ?_
      refine lv_goto (tgt := 452) hx hb dX12_goesOnIn_219 (by decide) ?_
      have hz198 : Nx Xs B gh nd T nm wr lz dc fd md pr bk M rmm fu (Phi gh ps op (rkN gh n9 true)) op tp wn fu rd on idn fl ct ((-1) : Int32) (nI p9) (0 : Int32) uc0 := ((hR.g34 hp hst hkd).2 hfi)
      have hz199 : ou ≤ 400 := (by omega)
      have hP : va_P G.1 pCl (mW G h0 a (upd (upd (upd (upd (upd (upd (upd (upd (upd (upd F 87 (nI ou)) 102 (nI op)) 111 (nI tp)) 115 (nI wn)) 116 ((-1) : Int32)) 117 (nI fu)) 118 rs0) 119 uc0) 125 (nI p9)) 126 (0 : Int32)) B) _ := mW_to (F := F) (l1 := [(87, (nI ou)), (102, (nI op)), (111, (nI tp)), (115, (nI wn)), (116, (-1)), (117, (nI fu)), (118, rs0), (119, uc0), (125, (nI p9)), (126, 0)]) (l2 := [(87, (nI ou)), (102, (nI op)), (111, (nI tp)), (115, (nI wn)), (116, ((-1) : Int32)), (117, (nI fu)), (118, rs0), (119, uc0), (125, (nI p9)), (126, (0 : Int32))]) (V := [(nI ou), (nI op), (nI tp), (nI wn), ((-1) : Int32), (nI fu), rs0, uc0, (nI p9), (0 : Int32), (nI ou), (nI op), (nI tp), (nI wn), ((-1) : Int32), (nI fu), rs0, uc0, (nI p9), (0 : Int32)]) rfl rfl rfl hP
      have hD : va_D A (mW G h0 a (upd (upd (upd (upd (upd (upd (upd (upd (upd (upd F 87 (nI ou)) 102 (nI op)) 111 (nI tp)) 115 (nI wn)) 116 ((-1) : Int32)) 117 (nI fu)) 118 rs0) 119 uc0) 125 (nI p9)) 126 (0 : Int32)) B) := mW_D hD
      exact W.vret hx hb hr (fun t9 ht9 hW9 => ⟨⟨_, (op, tp, wn, fu, ((-1) : Int32), (nI p9), (0 : Int32), rs0, uc0, ou, B), rfl, ⟨rfl, hz198, hz199⟩, by rw [ht9]; exact hP, hD⟩, hS.F ht9⟩) hS.2.2 dX12_goesOnIn_452
  · by_cases hfi : Xs 12 p9 = nI n9
    · refine lv_iload_n hx hb dX12_goesOnIn_0 rfl (lv_at hl 2 rfl) ?_
      refine lv_aload_n hx hb dX12_goesOnIn_1 rfl (lv_at hl 0 rfl) ?_
      refine r_get (v := .ref (a 12)) hx hb hown hq hE hP 20 47 tFX12_20 (by decide) pw_1442 rfl dX12_goesOnIn_2 ?_
      refine lv_iload_n hx hb dX12_goesOnIn_5 rfl (lv_at hl 1 rfl) ?_
      refine r_ldi (f := (B 12)) (j := p9) hx hb hE hP 12 (ma_12 G a _) rfl (by omega) (by decide) dX12_goesOnIn_6 ?_
      refine lv_topi (fun x200 e201 => ?_)
      obtain rfl : x200 = nI n9 := e201.trans ((congrFun hw12 _).trans hfi)
      refine lv_icmp_ne (tgt := 14) hx hb dX12_goesOnIn_7 (by decide) (fun c202 => absurd rfl c202) (fun c202 => ?_)
      refine lv_iconst (v := 1) hx hb dX12_goesOnIn_10 (by decide) ?_
      refine lv_goto (tgt := 15) hx hb dX12_goesOnIn_11 (by decide) ?_
      refine lv_istore_n (lv' := [(3, .int 1), (0, .ref h0), (1, .int (nI p9)), (2, .int (nI n9))]) hx hb dX12_goesOnIn_15 rfl hl (by decide) rfl (fun ls hl => ?_)
      refine lv_aload_n hx hb dX12_goesOnIn_16 rfl (lv_at hl 1 rfl) ?_
      refine r_get (v := .ref (a 9)) hx hb hown hq hE hP 17 38 tFX12_17 (by decide) pw_1439 rfl dX12_goesOnIn_17 ?_
      refine lv_iload_n hx hb dX12_goesOnIn_20 rfl (lv_at hl 2 rfl) ?_
      refine r_ldi (f := (B 9)) (j := p9) hx hb hE hP 9 (ma_9 G a _) rfl (by omega) (by decide) dX12_goesOnIn_21 ?_
      refine lv_topi (fun x203 e204 => ?_)
      obtain rfl : x203 = 35 := e204.trans ((congrFun hw9 _).trans hkd)
      refine lv_tableIn (tgt := 257) (off := 235) hx hb dX12_goesOnIn_22 (by decide) (by decide) (by decide) (by decide) ?_
      obtain ⟨ht1, ⟨j1, ha1, ha2, ha3⟩, hs3⟩ := (hR.g35 (uc := uc0) (mu := 0) hp hst hkd).1 hfi
      refine lv_iload_n hx hb dX12_goesOnIn_257 rfl (lv_at hl 0 rfl) ?_
      refine lv_if_ne (tgt := 269) hx hb dX12_goesOnIn_258 (by decide) (fun c205 => ?_) (fun c205 => absurd c205 (by decide))
      refine lv_aload_n hx hb dX12_goesOnIn_269 rfl (lv_at hl 1 rfl) ?_
      have hP : va_P G.1 pCl (mW G h0 a (upd (upd (upd (upd (upd (upd (upd (upd (upd (upd (upd F 87 (nI ou)) 102 (nI op)) 111 (nI tp)) 115 (nI wn)) 116 (-1)) 117 (nI fu)) 118 rs0) 119 uc0) 125 nw) 126 isn) 111 (nI tp)) (updA B 68 (B 68))) _ := hP
      have hD : va_D A (mW G h0 a (upd (upd (upd (upd (upd (upd (upd (upd (upd (upd (upd F 87 (nI ou)) 102 (nI op)) 111 (nI tp)) 115 (nI wn)) 116 (-1)) 117 (nI fu)) 118 rs0) 119 uc0) 125 nw) 126 isn) 111 (nI tp)) (updA B 68 (B 68))) := mW_D hD
      refine pc_V0 (G := G) (As := []) (rest := []) hx hb hml hown hq hE hX pX0_al hP hD hS hA hl.1 (R_pop l G h0 a (upd (upd (upd (upd (upd (upd (upd (upd (upd (upd F 87 (nI ou)) 102 (nI op)) 111 (nI tp)) 115 (nI wn)) 116 (-1)) 117 (nI fu)) 118 rs0) 119 uc0) 125 nw) 126 isn) B tp (B 68) (by omega)) (gV pw_2082 pw_2083 pw_2084 pw_1523 pw_1965) hV_X12_pop 0 9 rfl rfl rfl rfl (Nat.le_of_ble_eq_true rfl) dX12_goesOnIn_270 ⟨Nat.le_of_ble_eq_true rfl, Nat.le_of_ble_eq_true rfl⟩ ⟨Nat.le_of_ble_eq_true rfl, Nat.le_of_ble_eq_true rfl⟩ (fun v208 u206 H locs hw207 hP hD hS => ?_)
      obtain rfl : v208 = some (.int ((B 68) (tp - 1))) := hw207
      have hP : va_P G.1 pCl (mW G h0 a (upd (upd (upd (upd (upd (upd (upd (upd (upd (upd F 87 (nI ou)) 102 (nI op)) 111 (nI (tp - 1))) 115 (nI wn)) 116 (-1)) 117 (nI fu)) 118 rs0) 119 uc0) 125 nw) 126 isn) B) _ := mW_to (F := F) (l1 := [(87, (nI ou)), (102, (nI op)), (111, (nI tp)), (115, (nI wn)), (116, (-1)), (117, (nI fu)), (118, rs0), (119, uc0), (125, nw), (126, isn), (111, (nI (tp - 1)))]) (l2 := [(87, (nI ou)), (102, (nI op)), (111, (nI (tp - 1))), (115, (nI wn)), (116, (-1)), (117, (nI fu)), (118, rs0), (119, uc0), (125, nw), (126, isn)]) (V := [(nI ou), (nI op), (nI (tp - 1)), (nI wn), (-1), (nI fu), rs0, uc0, nw, isn, (nI (tp - 1)), (nI ou), (nI op), (nI (tp - 1)), (nI wn), (-1), (nI fu), rs0, uc0, nw, isn]) rfl rfl (show (updA B 68 (B 68)) = B from updsA_eq2 (F := B) (l1 := [(68, (B 68))]) (l2 := []) (V := [(B 68)]) rfl rfl) hP
      have hD : va_D A (mW G h0 a (upd (upd (upd (upd (upd (upd (upd (upd (upd (upd F 87 (nI ou)) 102 (nI op)) 111 (nI (tp - 1))) 115 (nI wn)) 116 (-1)) 117 (nI fu)) 118 rs0) 119 uc0) 125 nw) 126 isn) B) := mW_D hD
      refine W.widen (k := 0) (n := 0) (Nat.le_of_ble_eq_true rfl) (Nat.le_of_ble_eq_true rfl) ?_
      refine W.eq (g2 := F0 m 273 ls [.int ((B 68) (tp - 1))]) rfl ?_
      refine lv_iconst (v := 1) hx hb dX12_goesOnIn_273 (by decide) ?_
      refine lv_icmp_ne (tgt := 290) hx hb dX12_goesOnIn_274 (by decide) (fun c209 => ?_) (fun c209 => ?_)
      · refine lv_aload_n hx hb dX12_goesOnIn_290 rfl (lv_at hl 1 rfl) ?_
        refine lv_iload_n hx hb dX12_goesOnIn_291 rfl (lv_at hl 2 rfl) ?_
        have hP : va_P G.1 pCl (mW G h0 a (upd (upd (upd (upd (upd (upd (upd (upd (upd (upd F 87 (nI ou)) 102 (nI op)) 111 (nI (tp - 1))) 115 (nI wn)) 116 (-1)) 117 (nI fu)) 118 rs0) 119 uc0) 125 nw) 126 isn) B) _ := hP
        have hD : va_D A (mW G h0 a (upd (upd (upd (upd (upd (upd (upd (upd (upd (upd F 87 (nI ou)) 102 (nI op)) 111 (nI (tp - 1))) 115 (nI wn)) 116 (-1)) 117 (nI fu)) 118 rs0) 119 uc0) 125 nw) 126 isn) B) := mW_D hD
        refine pc_V0 (G := G) (As := [.int (nI p9)]) (rest := []) hx hb hml hown hq hE hX pX0_al hP hD hS hA hl.1 (R_comesToEnd l G h0 a (upd (upd (upd (upd (upd (upd (upd (upd (upd (upd F 87 (nI ou)) 102 (nI op)) 111 (nI (tp - 1))) 115 (nI wn)) 116 (-1)) 117 (nI fu)) 118 rs0) 119 uc0) 125 nw) 126 isn) B (nI p9)) (gV pw_2010 pw_2011 pw_2012 pw_1523 pw_2005) hV_X12_comesToEnd 0 9 rfl rfl rfl rfl (Nat.le_of_ble_eq_true rfl) dX12_goesOnIn_292 ⟨Nat.le_of_ble_eq_true rfl, Nat.le_of_ble_eq_true rfl⟩ ⟨Nat.le_of_ble_eq_true rfl, Nat.le_of_ble_eq_true rfl⟩ (fun v212 u210 H locs hw211 hP hD hS => ?_)
        obtain rfl : v212 = none := hw211
        have hP : va_P G.1 pCl (mW G h0 a (upd (upd (upd (upd (upd (upd (upd (upd (upd (upd F 87 (nI ou)) 102 (nI op)) 111 (nI (tp - 1))) 115 (nI wn)) 116 (-1)) 117 (nI fu)) 118 rs0) 119 uc0) 125 (nI p9)) 126 0) B) _ := mW_to (F := F) (l1 := [(87, (nI ou)), (102, (nI op)), (111, (nI (tp - 1))), (115, (nI wn)), (116, (-1)), (117, (nI fu)), (118, rs0), (119, uc0), (125, nw), (126, isn), (125, (nI p9)), (126, 0)]) (l2 := [(87, (nI ou)), (102, (nI op)), (111, (nI (tp - 1))), (115, (nI wn)), (116, (-1)), (117, (nI fu)), (118, rs0), (119, uc0), (125, (nI p9)), (126, 0)]) (V := [(nI ou), (nI op), (nI (tp - 1)), (nI wn), (-1), (nI fu), rs0, uc0, (nI p9), 0, (nI p9), 0, (nI ou), (nI op), (nI (tp - 1)), (nI wn), (-1), (nI fu), rs0, uc0, (nI p9), 0]) rfl rfl rfl hP
        have hD : va_D A (mW G h0 a (upd (upd (upd (upd (upd (upd (upd (upd (upd (upd F 87 (nI ou)) 102 (nI op)) 111 (nI (tp - 1))) 115 (nI wn)) 116 (-1)) 117 (nI fu)) 118 rs0) 119 uc0) 125 (nI p9)) 126 0) B) := mW_D hD
        refine W.widen (k := 0) (n := 0) (Nat.le_of_ble_eq_true rfl) (Nat.le_of_ble_eq_true rfl) ?_
        refine W.eq (g2 := F0 m 295 ls []) rfl ?_
        refine lv_goto (tgt := 452) hx hb dX12_goesOnIn_295 (by decide) ?_
        have hz213 : Nx Xs B gh nd T nm wr lz dc fd md pr bk M rmm fu (Phi gh ps op (rkN gh n9 true)) op (tp - 1) wn fu rd on idn fl ct ((-1) : Int32) (nI p9) (0 : Int32) uc0 := hs3
        have hz214 : ou ≤ 400 := (by omega)
        have hP : va_P G.1 pCl (mW G h0 a (upd (upd (upd (upd (upd (upd (upd (upd (upd (upd F 87 (nI ou)) 102 (nI op)) 111 (nI (tp - 1))) 115 (nI wn)) 116 ((-1) : Int32)) 117 (nI fu)) 118 rs0) 119 uc0) 125 (nI p9)) 126 (0 : Int32)) B) _ := mW_to (F := F) (l1 := [(87, (nI ou)), (102, (nI op)), (111, (nI (tp - 1))), (115, (nI wn)), (116, (-1)), (117, (nI fu)), (118, rs0), (119, uc0), (125, (nI p9)), (126, 0)]) (l2 := [(87, (nI ou)), (102, (nI op)), (111, (nI (tp - 1))), (115, (nI wn)), (116, ((-1) : Int32)), (117, (nI fu)), (118, rs0), (119, uc0), (125, (nI p9)), (126, (0 : Int32))]) (V := [(nI ou), (nI op), (nI (tp - 1)), (nI wn), ((-1) : Int32), (nI fu), rs0, uc0, (nI p9), (0 : Int32), (nI ou), (nI op), (nI (tp - 1)), (nI wn), ((-1) : Int32), (nI fu), rs0, uc0, (nI p9), (0 : Int32)]) rfl rfl rfl hP
        have hD : va_D A (mW G h0 a (upd (upd (upd (upd (upd (upd (upd (upd (upd (upd F 87 (nI ou)) 102 (nI op)) 111 (nI (tp - 1))) 115 (nI wn)) 116 ((-1) : Int32)) 117 (nI fu)) 118 rs0) 119 uc0) 125 (nI p9)) 126 (0 : Int32)) B) := mW_D hD
        exact W.vret hx hb hr (fun t9 ht9 hW9 => ⟨⟨_, (op, (tp - 1), wn, fu, ((-1) : Int32), (nI p9), (0 : Int32), rs0, uc0, ou, B), rfl, ⟨rfl, hz213, hz214⟩, by rw [ht9]; exact hP, hD⟩, hS.F ht9⟩) hS.2.2 dX12_goesOnIn_452
      · refine lv_aload_n hx hb dX12_goesOnIn_277 rfl (lv_at hl 1 rfl) ?_
        refine lv_aload_n hx hb dX12_goesOnIn_278 rfl (lv_at hl 1 rfl) ?_
        refine r_get (v := .ref (a 13)) hx hb hown hq hE hP 21 50 tFX12_21 (by decide) pw_1443 rfl dX12_goesOnIn_279 ?_
        refine lv_iload_n hx hb dX12_goesOnIn_282 rfl (lv_at hl 2 rfl) ?_
        refine r_ldi (f := (B 13)) (j := p9) hx hb hE hP 13 (ma_13 G a _) rfl (by omega) (by decide) dX12_goesOnIn_283 ?_
        refine lv_topi (fun x215 e216 => ?_)
        obtain rfl : x215 = nI j1 := e216.trans ((congrFun hw13 _).trans ha1)
        have hP : va_P G.1 pCl (mW G h0 a (upd (upd (upd (upd (upd (upd (upd (upd (upd (upd F 87 (nI ou)) 102 (nI op)) 111 (nI (tp - 1))) 115 (nI wn)) 116 (-1)) 117 (nI fu)) 118 rs0) 119 uc0) 125 nw) 126 isn) B) _ := hP
        have hD : va_D A (mW G h0 a (upd (upd (upd (upd (upd (upd (upd (upd (upd (upd F 87 (nI ou)) 102 (nI op)) 111 (nI (tp - 1))) 115 (nI wn)) 116 (-1)) 117 (nI fu)) 118 rs0) 119 uc0) 125 nw) 126 isn) B) := mW_D hD
        refine pc_V0 (G := G) (As := [.int (nI j1)]) (rest := []) hx hb hml hown hq hE hX pX0_al hP hD hS hA hl.1 (R_begin l G h0 a (upd (upd (upd (upd (upd (upd (upd (upd (upd (upd F 87 (nI ou)) 102 (nI op)) 111 (nI (tp - 1))) 115 (nI wn)) 116 (-1)) 117 (nI fu)) 118 rs0) 119 uc0) 125 nw) 126 isn) B (nI j1)) (gV pw_2016 pw_2017 pw_2018 pw_1523 pw_2002) hV_X12_begin 0 9 rfl rfl rfl rfl (Nat.le_of_ble_eq_true rfl) dX12_goesOnIn_284 ⟨Nat.le_of_ble_eq_true rfl, Nat.le_of_ble_eq_true rfl⟩ ⟨Nat.le_of_ble_eq_true rfl, Nat.le_of_ble_eq_true rfl⟩ (fun v219 u217 H locs hw218 hP hD hS => ?_)
        obtain rfl : v219 = none := hw218
        have hP : va_P G.1 pCl (mW G h0 a (upd (upd (upd (upd (upd (upd (upd (upd (upd (upd F 87 (nI ou)) 102 (nI op)) 111 (nI (tp - 1))) 115 (nI wn)) 116 (-1)) 117 (nI fu)) 118 rs0) 119 uc0) 125 (nI j1)) 126 1) B) _ := mW_to (F := F) (l1 := [(87, (nI ou)), (102, (nI op)), (111, (nI (tp - 1))), (115, (nI wn)), (116, (-1)), (117, (nI fu)), (118, rs0), (119, uc0), (125, nw), (126, isn), (125, (nI j1)), (126, 1)]) (l2 := [(87, (nI ou)), (102, (nI op)), (111, (nI (tp - 1))), (115, (nI wn)), (116, (-1)), (117, (nI fu)), (118, rs0), (119, uc0), (125, (nI j1)), (126, 1)]) (V := [(nI ou), (nI op), (nI (tp - 1)), (nI wn), (-1), (nI fu), rs0, uc0, (nI j1), 1, (nI j1), 1, (nI ou), (nI op), (nI (tp - 1)), (nI wn), (-1), (nI fu), rs0, uc0, (nI j1), 1]) rfl rfl rfl hP
        have hD : va_D A (mW G h0 a (upd (upd (upd (upd (upd (upd (upd (upd (upd (upd F 87 (nI ou)) 102 (nI op)) 111 (nI (tp - 1))) 115 (nI wn)) 116 (-1)) 117 (nI fu)) 118 rs0) 119 uc0) 125 (nI j1)) 126 1) B) := mW_D hD
        refine W.widen (k := 0) (n := 0) (Nat.le_of_ble_eq_true rfl) (Nat.le_of_ble_eq_true rfl) ?_
        refine W.eq (g2 := F0 m 287 ls []) rfl ?_
        refine lv_goto (tgt := 452) hx hb dX12_goesOnIn_287 (by decide) ?_
        have hz220 : Nx Xs B gh nd T nm wr lz dc fd md pr bk M rmm fu (Phi gh ps op (rkN gh n9 true)) op (tp - 1) wn fu rd on idn fl ct ((-1) : Int32) (nI j1) (1 : Int32) uc0 := ha3
        have hz221 : ou ≤ 400 := (by omega)
        have hP : va_P G.1 pCl (mW G h0 a (upd (upd (upd (upd (upd (upd (upd (upd (upd (upd F 87 (nI ou)) 102 (nI op)) 111 (nI (tp - 1))) 115 (nI wn)) 116 ((-1) : Int32)) 117 (nI fu)) 118 rs0) 119 uc0) 125 (nI j1)) 126 (1 : Int32)) B) _ := mW_to (F := F) (l1 := [(87, (nI ou)), (102, (nI op)), (111, (nI (tp - 1))), (115, (nI wn)), (116, (-1)), (117, (nI fu)), (118, rs0), (119, uc0), (125, (nI j1)), (126, 1)]) (l2 := [(87, (nI ou)), (102, (nI op)), (111, (nI (tp - 1))), (115, (nI wn)), (116, ((-1) : Int32)), (117, (nI fu)), (118, rs0), (119, uc0), (125, (nI j1)), (126, (1 : Int32))]) (V := [(nI ou), (nI op), (nI (tp - 1)), (nI wn), ((-1) : Int32), (nI fu), rs0, uc0, (nI j1), (1 : Int32), (nI ou), (nI op), (nI (tp - 1)), (nI wn), ((-1) : Int32), (nI fu), rs0, uc0, (nI j1), (1 : Int32)]) rfl rfl rfl hP
        have hD : va_D A (mW G h0 a (upd (upd (upd (upd (upd (upd (upd (upd (upd (upd F 87 (nI ou)) 102 (nI op)) 111 (nI (tp - 1))) 115 (nI wn)) 116 ((-1) : Int32)) 117 (nI fu)) 118 rs0) 119 uc0) 125 (nI j1)) 126 (1 : Int32)) B) := mW_D hD
        exact W.vret hx hb hr (fun t9 ht9 hW9 => ⟨⟨_, (op, (tp - 1), wn, fu, ((-1) : Int32), (nI j1), (1 : Int32), rs0, uc0, ou, B), rfl, ⟨rfl, hz220, hz221⟩, by rw [ht9]; exact hP, hD⟩, hS.F ht9⟩) hS.2.2 dX12_goesOnIn_452
    · refine lv_iload_n hx hb dX12_goesOnIn_0 rfl (lv_at hl 2 rfl) ?_
      refine lv_aload_n hx hb dX12_goesOnIn_1 rfl (lv_at hl 0 rfl) ?_
      refine r_get (v := .ref (a 12)) hx hb hown hq hE hP 20 47 tFX12_20 (by decide) pw_1442 rfl dX12_goesOnIn_2 ?_
      refine lv_iload_n hx hb dX12_goesOnIn_5 rfl (lv_at hl 1 rfl) ?_
      refine r_ldi (f := (B 12)) (j := p9) hx hb hE hP 12 (ma_12 G a _) rfl (by omega) (by decide) dX12_goesOnIn_6 ?_
      refine lv_icmp_ne (tgt := 14) hx hb dX12_goesOnIn_7 (by decide) (fun c222 => ?_) (fun c222 => absurd ((congrFun hw12 _).symm.trans c222.symm) hfi)
      refine lv_iconst (v := 0) hx hb dX12_goesOnIn_14 (by decide) ?_
      refine lv_istore_n (lv' := [(3, .int 0), (0, .ref h0), (1, .int (nI p9)), (2, .int (nI n9))]) hx hb dX12_goesOnIn_15 rfl hl (by decide) rfl (fun ls hl => ?_)
      refine lv_aload_n hx hb dX12_goesOnIn_16 rfl (lv_at hl 1 rfl) ?_
      refine r_get (v := .ref (a 9)) hx hb hown hq hE hP 17 38 tFX12_17 (by decide) pw_1439 rfl dX12_goesOnIn_17 ?_
      refine lv_iload_n hx hb dX12_goesOnIn_20 rfl (lv_at hl 2 rfl) ?_
      refine r_ldi (f := (B 9)) (j := p9) hx hb hE hP 9 (ma_9 G a _) rfl (by omega) (by decide) dX12_goesOnIn_21 ?_
      refine lv_topi (fun x223 e224 => ?_)
      obtain rfl : x223 = 35 := e224.trans ((congrFun hw9 _).trans hkd)
      refine lv_tableIn (tgt := 257) (off := 235) hx hb dX12_goesOnIn_22 (by decide) (by decide) (by decide) (by decide) ?_
      obtain ⟨j1, ha1, ha2, ha3⟩ := (hR.g35 (uc := uc0) (mu := (Phi gh ps op (rkN gh n9 true))) hp hst hkd).2 hfi
      refine lv_iload_n hx hb dX12_goesOnIn_257 rfl (lv_at hl 0 rfl) ?_
      refine lv_if_ne (tgt := 269) hx hb dX12_goesOnIn_258 (by decide) (fun c225 => absurd c225 (by decide)) (fun c225 => ?_)
      refine lv_aload_n hx hb dX12_goesOnIn_261 rfl (lv_at hl 1 rfl) ?_
      refine lv_iload_n hx hb dX12_goesOnIn_262 rfl (lv_at hl 2 rfl) ?_
      have hP : va_P G.1 pCl (mW G h0 a (upd (upd (upd (upd (upd (upd (upd (upd (upd (upd (upd (upd (upd (upd F 87 (nI ou)) 102 (nI op)) 111 (nI tp)) 115 (nI wn)) 116 (-1)) 117 (nI fu)) 118 rs0) 119 uc0) 125 nw) 126 isn) 116 (-1)) 117 (nI fu)) 125 nw) 126 isn) B) _ := hP
      have hD : va_D A (mW G h0 a (upd (upd (upd (upd (upd (upd (upd (upd (upd (upd (upd (upd (upd (upd F 87 (nI ou)) 102 (nI op)) 111 (nI tp)) 115 (nI wn)) 116 (-1)) 117 (nI fu)) 118 rs0) 119 uc0) 125 nw) 126 isn) 116 (-1)) 117 (nI fu)) 125 nw) 126 isn) B) := mW_D hD
      refine pc_V0 (G := G) (As := [.int (nI p9)]) (rest := []) hx hb hml hown hq hE hX pX0_al hP hD hS hA hl.1 (R_looksAt l G h0 a (upd (upd (upd (upd (upd (upd (upd (upd (upd (upd F 87 (nI ou)) 102 (nI op)) 111 (nI tp)) 115 (nI wn)) 116 (-1)) 117 (nI fu)) 118 rs0) 119 uc0) 125 nw) 126 isn) B p9 fu (-1) nw isn (by omega) (by omega)) (gV pw_2029 pw_2030 pw_2031 pw_1523 pw_2025) hV_X12_looksAt 0 9 rfl rfl rfl rfl (Nat.le_of_ble_eq_true rfl) dX12_goesOnIn_263 ⟨Nat.le_of_ble_eq_true rfl, Nat.le_of_ble_eq_true rfl⟩ ⟨Nat.le_of_ble_eq_true rfl, Nat.le_of_ble_eq_true rfl⟩ (fun v228 u226 H locs hw227 hP hD hS => ?_)
      obtain ⟨r229, fu230, en231, nw232, is233⟩ := u226
      obtain ⟨hw227, h234, h235, h236, h237⟩ := hw227
      replace h234 : r229 ≤ 1 := h234
      replace h235 : fu230 + r229 = fu := h235
      replace h236 : If (r229 = 0) (en231 = 2) := h236
      replace h237 : If (r229 = 1) (en231 = (-1) ∧ is233 = 1 ∧ nw232 = lkF B p9) := h237
      obtain rfl : v228 = none := hw227
      have hP : va_P G.1 pCl (mW G h0 a (upd (upd (upd (upd (upd (upd (upd (upd (upd (upd F 87 (nI ou)) 102 (nI op)) 111 (nI tp)) 115 (nI wn)) 116 en231) 117 (nI fu230)) 118 rs0) 119 uc0) 125 nw232) 126 is233) B) _ := mW_to (F := F) (l1 := [(87, (nI ou)), (102, (nI op)), (111, (nI tp)), (115, (nI wn)), (116, (-1)), (117, (nI fu)), (118, rs0), (119, uc0), (125, nw), (126, isn), (116, en231), (117, (nI fu230)), (125, nw232), (126, is233)]) (l2 := [(87, (nI ou)), (102, (nI op)), (111, (nI tp)), (115, (nI wn)), (116, en231), (117, (nI fu230)), (118, rs0), (119, uc0), (125, nw232), (126, is233)]) (V := [(nI ou), (nI op), (nI tp), (nI wn), en231, (nI fu230), rs0, uc0, nw232, is233, en231, (nI fu230), nw232, is233, (nI ou), (nI op), (nI tp), (nI wn), en231, (nI fu230), rs0, uc0, nw232, is233]) rfl rfl rfl hP
      have hD : va_D A (mW G h0 a (upd (upd (upd (upd (upd (upd (upd (upd (upd (upd F 87 (nI ou)) 102 (nI op)) 111 (nI tp)) 115 (nI wn)) 116 en231) 117 (nI fu230)) 118 rs0) 119 uc0) 125 nw232) 126 is233) B) := mW_D hD
      refine W.widen (k := 0) (n := 0) (Nat.le_of_ble_eq_true rfl) (Nat.le_of_ble_eq_true rfl) ?_
      refine W.eq (g2 := F0 m 266 ls []) rfl ?_
      refine lv_goto (tgt := 452) hx hb dX12_goesOnIn_266 (by decide) ?_
      have hz238 : Nx Xs B gh nd T nm wr lz dc fd md pr bk M rmm fu (Phi gh ps op (rkN gh n9 true)) op tp wn fu230 rd on idn fl ct en231 nw232 is233 uc0 := (by rcases Nat.eq_zero_or_pos r229 with z | z; exact hR.stop Sta.rfl hR.hp (by rw [h236 z]; decide) (by rw [h236 z]; decide); obtain ⟨z1, z2, z3⟩ := h237 (by omega); rw [z1, z2, z3, ha1]; exact ha3 _ (by omega))
      have hz239 : ou ≤ 400 := (by omega)
      have hP : va_P G.1 pCl (mW G h0 a (upd (upd (upd (upd (upd (upd (upd (upd (upd (upd F 87 (nI ou)) 102 (nI op)) 111 (nI tp)) 115 (nI wn)) 116 en231) 117 (nI fu230)) 118 rs0) 119 uc0) 125 nw232) 126 is233) B) _ := hP
      have hD : va_D A (mW G h0 a (upd (upd (upd (upd (upd (upd (upd (upd (upd (upd F 87 (nI ou)) 102 (nI op)) 111 (nI tp)) 115 (nI wn)) 116 en231) 117 (nI fu230)) 118 rs0) 119 uc0) 125 nw232) 126 is233) B) := mW_D hD
      exact W.vret hx hb hr (fun t9 ht9 hW9 => ⟨⟨_, (op, tp, wn, fu230, en231, nw232, is233, rs0, uc0, ou, B), rfl, ⟨rfl, hz238, hz239⟩, by rw [ht9]; exact hP, hD⟩, hS.F ht9⟩) hS.2.2 dX12_goesOnIn_452
  · by_cases hfi : Xs 12 p9 = nI n9
    · refine lv_iload_n hx hb dX12_goesOnIn_0 rfl (lv_at hl 2 rfl) ?_
      refine lv_aload_n hx hb dX12_goesOnIn_1 rfl (lv_at hl 0 rfl) ?_
      refine r_get (v := .ref (a 12)) hx hb hown hq hE hP 20 47 tFX12_20 (by decide) pw_1442 rfl dX12_goesOnIn_2 ?_
      refine lv_iload_n hx hb dX12_goesOnIn_5 rfl (lv_at hl 1 rfl) ?_
      refine r_ldi (f := (B 12)) (j := p9) hx hb hE hP 12 (ma_12 G a _) rfl (by omega) (by decide) dX12_goesOnIn_6 ?_
      refine lv_topi (fun x240 e241 => ?_)
      obtain rfl : x240 = nI n9 := e241.trans ((congrFun hw12 _).trans hfi)
      refine lv_icmp_ne (tgt := 14) hx hb dX12_goesOnIn_7 (by decide) (fun c242 => absurd rfl c242) (fun c242 => ?_)
      refine lv_iconst (v := 1) hx hb dX12_goesOnIn_10 (by decide) ?_
      refine lv_goto (tgt := 15) hx hb dX12_goesOnIn_11 (by decide) ?_
      refine lv_istore_n (lv' := [(3, .int 1), (0, .ref h0), (1, .int (nI p9)), (2, .int (nI n9))]) hx hb dX12_goesOnIn_15 rfl hl (by decide) rfl (fun ls hl => ?_)
      refine lv_aload_n hx hb dX12_goesOnIn_16 rfl (lv_at hl 1 rfl) ?_
      refine r_get (v := .ref (a 9)) hx hb hown hq hE hP 17 38 tFX12_17 (by decide) pw_1439 rfl dX12_goesOnIn_17 ?_
      refine lv_iload_n hx hb dX12_goesOnIn_20 rfl (lv_at hl 2 rfl) ?_
      refine r_ldi (f := (B 9)) (j := p9) hx hb hE hP 9 (ma_9 G a _) rfl (by omega) (by decide) dX12_goesOnIn_21 ?_
      refine lv_topi (fun x243 e244 => ?_)
      obtain rfl : x243 = 36 := e244.trans ((congrFun hw9 _).trans hkd)
      refine lv_tableIn (tgt := 298) (off := 276) hx hb dX12_goesOnIn_22 (by decide) (by decide) (by decide) (by decide) ?_
      refine lv_aload_n hx hb dX12_goesOnIn_298 rfl (lv_at hl 1 rfl) ?_
      refine lv_iload_n hx hb dX12_goesOnIn_299 rfl (lv_at hl 2 rfl) ?_
      refine lv_iload_n hx hb dX12_goesOnIn_300 rfl (lv_at hl 3 rfl) ?_
      have hP : va_P G.1 pCl (mW G h0 a (upd (upd (upd (upd (upd (upd (upd (upd (upd (upd (upd (upd (upd (upd (upd (upd (upd (upd (upd F 87 (nI ou)) 102 (nI op)) 111 (nI tp)) 115 (nI wn)) 116 (-1)) 117 (nI fu)) 118 rs0) 119 uc0) 125 nw) 126 isn) 102 (nI op)) 111 (nI tp)) 115 (nI wn)) 116 (-1)) 117 (nI fu)) 118 rs0) 119 uc0) 125 nw) 126 isn) B) _ := hP
      have hD : va_D A (mW G h0 a (upd (upd (upd (upd (upd (upd (upd (upd (upd (upd (upd (upd (upd (upd (upd (upd (upd (upd (upd F 87 (nI ou)) 102 (nI op)) 111 (nI tp)) 115 (nI wn)) 116 (-1)) 117 (nI fu)) 118 rs0) 119 uc0) 125 nw) 126 isn) 102 (nI op)) 111 (nI tp)) 115 (nI wn)) 116 (-1)) 117 (nI fu)) 118 rs0) 119 uc0) 125 nw) 126 isn) B) := mW_D hD
      refine pc_V0 (G := G) (As := [.int (nI p9), .int (nI n9)]) (rest := []) hx hb hml hown hq hE hX pX0_al hP hD hS hA hl.1 (R_forGoesOn l G h0 a (upd (upd (upd (upd (upd (upd (upd (upd (upd (upd F 87 (nI ou)) 102 (nI op)) 111 (nI tp)) 115 (nI wn)) 116 (-1)) 117 (nI fu)) 118 rs0) 119 uc0) 125 nw) 126 isn) B Xs gh nd T nm wr lz dc fd md pr bk M rmm op tp wn fu rd on idn fl ct n9 p9 u mt ps yy bf wf nw isn rs0 uc0 hR hp hst hfu hkd) (gV pw_2118 pw_2119 pw_2120 pw_1523 pw_2113) hV_X12_forGoesOn 0 9 rfl rfl rfl rfl (Nat.le_of_ble_eq_true rfl) dX12_goesOnIn_301 ⟨Nat.le_of_ble_eq_true rfl, Nat.le_of_ble_eq_true rfl⟩ ⟨Nat.le_of_ble_eq_true rfl, Nat.le_of_ble_eq_true rfl⟩ (fun v247 u245 H locs hw246 hP hD hS => ?_)
      obtain ⟨op248, tp249, wn250, fu251, en252, nw253, is254, rs255, uc256, X257⟩ := u245
      obtain ⟨hw246, h258⟩ := hw246
      replace h258 : Nx Xs X257 gh nd T nm wr lz dc fd md pr bk M rmm fu (Phi gh ps op (rkN gh n9 true)) op248 tp249 wn250 fu251 rd on idn fl ct en252 nw253 is254 uc256 := h258
      obtain rfl : v247 = none := hw246
      have hP : va_P G.1 pCl (mW G h0 a (upd (upd (upd (upd (upd (upd (upd (upd (upd (upd F 87 (nI ou)) 102 (nI op248)) 111 (nI tp249)) 115 (nI wn250)) 116 en252) 117 (nI fu251)) 118 rs255) 119 uc256) 125 nw253) 126 is254) X257) _ := mW_to (F := F) (l1 := [(87, (nI ou)), (102, (nI op)), (111, (nI tp)), (115, (nI wn)), (116, (-1)), (117, (nI fu)), (118, rs0), (119, uc0), (125, nw), (126, isn), (102, (nI op248)), (111, (nI tp249)), (115, (nI wn250)), (116, en252), (117, (nI fu251)), (118, rs255), (119, uc256), (125, nw253), (126, is254)]) (l2 := [(87, (nI ou)), (102, (nI op248)), (111, (nI tp249)), (115, (nI wn250)), (116, en252), (117, (nI fu251)), (118, rs255), (119, uc256), (125, nw253), (126, is254)]) (V := [(nI ou), (nI op248), (nI tp249), (nI wn250), en252, (nI fu251), rs255, uc256, nw253, is254, (nI op248), (nI tp249), (nI wn250), en252, (nI fu251), rs255, uc256, nw253, is254, (nI ou), (nI op248), (nI tp249), (nI wn250), en252, (nI fu251), rs255, uc256, nw253, is254]) rfl rfl rfl hP
      have hD : va_D A (mW G h0 a (upd (upd (upd (upd (upd (upd (upd (upd (upd (upd F 87 (nI ou)) 102 (nI op248)) 111 (nI tp249)) 115 (nI wn250)) 116 en252) 117 (nI fu251)) 118 rs255) 119 uc256) 125 nw253) 126 is254) X257) := mW_D hD
      refine W.widen (k := 0) (n := 0) (Nat.le_of_ble_eq_true rfl) (Nat.le_of_ble_eq_true rfl) ?_
      refine W.eq (g2 := F0 m 304 ls []) rfl ?_
      refine lv_goto (tgt := 452) hx hb dX12_goesOnIn_304 (by decide) ?_
      have hz259 : Nx Xs X257 gh nd T nm wr lz dc fd md pr bk M rmm fu (Phi gh ps op (rkN gh n9 true)) op248 tp249 wn250 fu251 rd on idn fl ct en252 nw253 is254 uc256 := h258
      have hz260 : ou ≤ 400 := (by omega)
      have hP : va_P G.1 pCl (mW G h0 a (upd (upd (upd (upd (upd (upd (upd (upd (upd (upd F 87 (nI ou)) 102 (nI op248)) 111 (nI tp249)) 115 (nI wn250)) 116 en252) 117 (nI fu251)) 118 rs255) 119 uc256) 125 nw253) 126 is254) X257) _ := hP
      have hD : va_D A (mW G h0 a (upd (upd (upd (upd (upd (upd (upd (upd (upd (upd F 87 (nI ou)) 102 (nI op248)) 111 (nI tp249)) 115 (nI wn250)) 116 en252) 117 (nI fu251)) 118 rs255) 119 uc256) 125 nw253) 126 is254) X257) := mW_D hD
      exact W.vret hx hb hr (fun t9 ht9 hW9 => ⟨⟨_, (op248, tp249, wn250, fu251, en252, nw253, is254, rs255, uc256, ou, X257), rfl, ⟨rfl, hz259, hz260⟩, by rw [ht9]; exact hP, hD⟩, hS.F ht9⟩) hS.2.2 dX12_goesOnIn_452
    · refine lv_iload_n hx hb dX12_goesOnIn_0 rfl (lv_at hl 2 rfl) ?_
      refine lv_aload_n hx hb dX12_goesOnIn_1 rfl (lv_at hl 0 rfl) ?_
      refine r_get (v := .ref (a 12)) hx hb hown hq hE hP 20 47 tFX12_20 (by decide) pw_1442 rfl dX12_goesOnIn_2 ?_
      refine lv_iload_n hx hb dX12_goesOnIn_5 rfl (lv_at hl 1 rfl) ?_
      refine r_ldi (f := (B 12)) (j := p9) hx hb hE hP 12 (ma_12 G a _) rfl (by omega) (by decide) dX12_goesOnIn_6 ?_
      refine lv_icmp_ne (tgt := 14) hx hb dX12_goesOnIn_7 (by decide) (fun c261 => ?_) (fun c261 => absurd ((congrFun hw12 _).symm.trans c261.symm) hfi)
      refine lv_iconst (v := 0) hx hb dX12_goesOnIn_14 (by decide) ?_
      refine lv_istore_n (lv' := [(3, .int 0), (0, .ref h0), (1, .int (nI p9)), (2, .int (nI n9))]) hx hb dX12_goesOnIn_15 rfl hl (by decide) rfl (fun ls hl => ?_)
      refine lv_aload_n hx hb dX12_goesOnIn_16 rfl (lv_at hl 1 rfl) ?_
      refine r_get (v := .ref (a 9)) hx hb hown hq hE hP 17 38 tFX12_17 (by decide) pw_1439 rfl dX12_goesOnIn_17 ?_
      refine lv_iload_n hx hb dX12_goesOnIn_20 rfl (lv_at hl 2 rfl) ?_
      refine r_ldi (f := (B 9)) (j := p9) hx hb hE hP 9 (ma_9 G a _) rfl (by omega) (by decide) dX12_goesOnIn_21 ?_
      refine lv_topi (fun x262 e263 => ?_)
      obtain rfl : x262 = 36 := e263.trans ((congrFun hw9 _).trans hkd)
      refine lv_tableIn (tgt := 298) (off := 276) hx hb dX12_goesOnIn_22 (by decide) (by decide) (by decide) (by decide) ?_
      refine lv_aload_n hx hb dX12_goesOnIn_298 rfl (lv_at hl 1 rfl) ?_
      refine lv_iload_n hx hb dX12_goesOnIn_299 rfl (lv_at hl 2 rfl) ?_
      refine lv_iload_n hx hb dX12_goesOnIn_300 rfl (lv_at hl 3 rfl) ?_
      have hP : va_P G.1 pCl (mW G h0 a (upd (upd (upd (upd (upd (upd (upd (upd (upd (upd (upd (upd (upd (upd (upd (upd (upd (upd (upd F 87 (nI ou)) 102 (nI op)) 111 (nI tp)) 115 (nI wn)) 116 (-1)) 117 (nI fu)) 118 rs0) 119 uc0) 125 nw) 126 isn) 102 (nI op)) 111 (nI tp)) 115 (nI wn)) 116 (-1)) 117 (nI fu)) 118 rs0) 119 uc0) 125 nw) 126 isn) B) _ := hP
      have hD : va_D A (mW G h0 a (upd (upd (upd (upd (upd (upd (upd (upd (upd (upd (upd (upd (upd (upd (upd (upd (upd (upd (upd F 87 (nI ou)) 102 (nI op)) 111 (nI tp)) 115 (nI wn)) 116 (-1)) 117 (nI fu)) 118 rs0) 119 uc0) 125 nw) 126 isn) 102 (nI op)) 111 (nI tp)) 115 (nI wn)) 116 (-1)) 117 (nI fu)) 118 rs0) 119 uc0) 125 nw) 126 isn) B) := mW_D hD
      refine pc_V0 (G := G) (As := [.int (nI p9), .int (nI n9)]) (rest := []) hx hb hml hown hq hE hX pX0_al hP hD hS hA hl.1 (R_forGoesOn l G h0 a (upd (upd (upd (upd (upd (upd (upd (upd (upd (upd F 87 (nI ou)) 102 (nI op)) 111 (nI tp)) 115 (nI wn)) 116 (-1)) 117 (nI fu)) 118 rs0) 119 uc0) 125 nw) 126 isn) B Xs gh nd T nm wr lz dc fd md pr bk M rmm op tp wn fu rd on idn fl ct n9 p9 u mt ps yy bf wf nw isn rs0 uc0 hR hp hst hfu hkd) (gV pw_2118 pw_2119 pw_2120 pw_1523 pw_2113) hV_X12_forGoesOn 0 9 rfl rfl rfl rfl (Nat.le_of_ble_eq_true rfl) dX12_goesOnIn_301 ⟨Nat.le_of_ble_eq_true rfl, Nat.le_of_ble_eq_true rfl⟩ ⟨Nat.le_of_ble_eq_true rfl, Nat.le_of_ble_eq_true rfl⟩ (fun v266 u264 H locs hw265 hP hD hS => ?_)
      obtain ⟨op267, tp268, wn269, fu270, en271, nw272, is273, rs274, uc275, X276⟩ := u264
      obtain ⟨hw265, h277⟩ := hw265
      replace h277 : Nx Xs X276 gh nd T nm wr lz dc fd md pr bk M rmm fu (Phi gh ps op (rkN gh n9 true)) op267 tp268 wn269 fu270 rd on idn fl ct en271 nw272 is273 uc275 := h277
      obtain rfl : v266 = none := hw265
      have hP : va_P G.1 pCl (mW G h0 a (upd (upd (upd (upd (upd (upd (upd (upd (upd (upd F 87 (nI ou)) 102 (nI op267)) 111 (nI tp268)) 115 (nI wn269)) 116 en271) 117 (nI fu270)) 118 rs274) 119 uc275) 125 nw272) 126 is273) X276) _ := mW_to (F := F) (l1 := [(87, (nI ou)), (102, (nI op)), (111, (nI tp)), (115, (nI wn)), (116, (-1)), (117, (nI fu)), (118, rs0), (119, uc0), (125, nw), (126, isn), (102, (nI op267)), (111, (nI tp268)), (115, (nI wn269)), (116, en271), (117, (nI fu270)), (118, rs274), (119, uc275), (125, nw272), (126, is273)]) (l2 := [(87, (nI ou)), (102, (nI op267)), (111, (nI tp268)), (115, (nI wn269)), (116, en271), (117, (nI fu270)), (118, rs274), (119, uc275), (125, nw272), (126, is273)]) (V := [(nI ou), (nI op267), (nI tp268), (nI wn269), en271, (nI fu270), rs274, uc275, nw272, is273, (nI op267), (nI tp268), (nI wn269), en271, (nI fu270), rs274, uc275, nw272, is273, (nI ou), (nI op267), (nI tp268), (nI wn269), en271, (nI fu270), rs274, uc275, nw272, is273]) rfl rfl rfl hP
      have hD : va_D A (mW G h0 a (upd (upd (upd (upd (upd (upd (upd (upd (upd (upd F 87 (nI ou)) 102 (nI op267)) 111 (nI tp268)) 115 (nI wn269)) 116 en271) 117 (nI fu270)) 118 rs274) 119 uc275) 125 nw272) 126 is273) X276) := mW_D hD
      refine W.widen (k := 0) (n := 0) (Nat.le_of_ble_eq_true rfl) (Nat.le_of_ble_eq_true rfl) ?_
      refine W.eq (g2 := F0 m 304 ls []) rfl ?_
      refine lv_goto (tgt := 452) hx hb dX12_goesOnIn_304 (by decide) ?_
      have hz278 : Nx Xs X276 gh nd T nm wr lz dc fd md pr bk M rmm fu (Phi gh ps op (rkN gh n9 true)) op267 tp268 wn269 fu270 rd on idn fl ct en271 nw272 is273 uc275 := h277
      have hz279 : ou ≤ 400 := (by omega)
      have hP : va_P G.1 pCl (mW G h0 a (upd (upd (upd (upd (upd (upd (upd (upd (upd (upd F 87 (nI ou)) 102 (nI op267)) 111 (nI tp268)) 115 (nI wn269)) 116 en271) 117 (nI fu270)) 118 rs274) 119 uc275) 125 nw272) 126 is273) X276) _ := hP
      have hD : va_D A (mW G h0 a (upd (upd (upd (upd (upd (upd (upd (upd (upd (upd F 87 (nI ou)) 102 (nI op267)) 111 (nI tp268)) 115 (nI wn269)) 116 en271) 117 (nI fu270)) 118 rs274) 119 uc275) 125 nw272) 126 is273) X276) := mW_D hD
      exact W.vret hx hb hr (fun t9 ht9 hW9 => ⟨⟨_, (op267, tp268, wn269, fu270, en271, nw272, is273, rs274, uc275, ou, X276), rfl, ⟨rfl, hz278, hz279⟩, by rw [ht9]; exact hP, hD⟩, hS.F ht9⟩) hS.2.2 dX12_goesOnIn_452
  · by_cases hfi : Xs 12 p9 = nI n9
    · refine lv_iload_n hx hb dX12_goesOnIn_0 rfl (lv_at hl 2 rfl) ?_
      refine lv_aload_n hx hb dX12_goesOnIn_1 rfl (lv_at hl 0 rfl) ?_
      refine r_get (v := .ref (a 12)) hx hb hown hq hE hP 20 47 tFX12_20 (by decide) pw_1442 rfl dX12_goesOnIn_2 ?_
      refine lv_iload_n hx hb dX12_goesOnIn_5 rfl (lv_at hl 1 rfl) ?_
      refine r_ldi (f := (B 12)) (j := p9) hx hb hE hP 12 (ma_12 G a _) rfl (by omega) (by decide) dX12_goesOnIn_6 ?_
      refine lv_topi (fun x280 e281 => ?_)
      obtain rfl : x280 = nI n9 := e281.trans ((congrFun hw12 _).trans hfi)
      refine lv_icmp_ne (tgt := 14) hx hb dX12_goesOnIn_7 (by decide) (fun c282 => absurd rfl c282) (fun c282 => ?_)
      refine lv_iconst (v := 1) hx hb dX12_goesOnIn_10 (by decide) ?_
      refine lv_goto (tgt := 15) hx hb dX12_goesOnIn_11 (by decide) ?_
      refine lv_istore_n (lv' := [(3, .int 1), (0, .ref h0), (1, .int (nI p9)), (2, .int (nI n9))]) hx hb dX12_goesOnIn_15 rfl hl (by decide) rfl (fun ls hl => ?_)
      refine lv_aload_n hx hb dX12_goesOnIn_16 rfl (lv_at hl 1 rfl) ?_
      refine r_get (v := .ref (a 9)) hx hb hown hq hE hP 17 38 tFX12_17 (by decide) pw_1439 rfl dX12_goesOnIn_17 ?_
      refine lv_iload_n hx hb dX12_goesOnIn_20 rfl (lv_at hl 2 rfl) ?_
      refine r_ldi (f := (B 9)) (j := p9) hx hb hE hP 9 (ma_9 G a _) rfl (by omega) (by decide) dX12_goesOnIn_21 ?_
      refine lv_topi (fun x283 e284 => ?_)
      obtain rfl : x283 = 37 := e284.trans ((congrFun hw9 _).trans hkd)
      refine lv_tableIn (tgt := 307) (off := 285) hx hb dX12_goesOnIn_22 (by decide) (by decide) (by decide) (by decide) ?_
      obtain ⟨ht1, b9, hs1, hs2⟩ := hR.g37 hp hst hkd
      refine lv_aload_n hx hb dX12_goesOnIn_307 rfl (lv_at hl 1 rfl) ?_
      have hP : va_P G.1 pCl (mW G h0 a (upd (upd (upd (upd (upd (upd (upd (upd (upd (upd (upd F 87 (nI ou)) 102 (nI op)) 111 (nI tp)) 115 (nI wn)) 116 (-1)) 117 (nI fu)) 118 rs0) 119 uc0) 125 nw) 126 isn) 111 (nI tp)) (updA B 68 (B 68))) _ := hP
      have hD : va_D A (mW G h0 a (upd (upd (upd (upd (upd (upd (upd (upd (upd (upd (upd F 87 (nI ou)) 102 (nI op)) 111 (nI tp)) 115 (nI wn)) 116 (-1)) 117 (nI fu)) 118 rs0) 119 uc0) 125 nw) 126 isn) 111 (nI tp)) (updA B 68 (B 68))) := mW_D hD
      refine pc_V0 (G := G) (As := []) (rest := []) hx hb hml hown hq hE hX pX0_al hP hD hS hA hl.1 (R_pop l G h0 a (upd (upd (upd (upd (upd (upd (upd (upd (upd (upd F 87 (nI ou)) 102 (nI op)) 111 (nI tp)) 115 (nI wn)) 116 (-1)) 117 (nI fu)) 118 rs0) 119 uc0) 125 nw) 126 isn) B tp (B 68) (by omega)) (gV pw_2082 pw_2083 pw_2084 pw_1523 pw_1965) hV_X12_pop 0 9 rfl rfl rfl rfl (Nat.le_of_ble_eq_true rfl) dX12_goesOnIn_308 ⟨Nat.le_of_ble_eq_true rfl, Nat.le_of_ble_eq_true rfl⟩ ⟨Nat.le_of_ble_eq_true rfl, Nat.le_of_ble_eq_true rfl⟩ (fun v287 u285 H locs hw286 hP hD hS => ?_)
      obtain rfl : v287 = some (.int ((B 68) (tp - 1))) := hw286
      have hP : va_P G.1 pCl (mW G h0 a (upd (upd (upd (upd (upd (upd (upd (upd (upd (upd F 87 (nI ou)) 102 (nI op)) 111 (nI (tp - 1))) 115 (nI wn)) 116 (-1)) 117 (nI fu)) 118 rs0) 119 uc0) 125 nw) 126 isn) B) _ := mW_to (F := F) (l1 := [(87, (nI ou)), (102, (nI op)), (111, (nI tp)), (115, (nI wn)), (116, (-1)), (117, (nI fu)), (118, rs0), (119, uc0), (125, nw), (126, isn), (111, (nI (tp - 1)))]) (l2 := [(87, (nI ou)), (102, (nI op)), (111, (nI (tp - 1))), (115, (nI wn)), (116, (-1)), (117, (nI fu)), (118, rs0), (119, uc0), (125, nw), (126, isn)]) (V := [(nI ou), (nI op), (nI (tp - 1)), (nI wn), (-1), (nI fu), rs0, uc0, nw, isn, (nI (tp - 1)), (nI ou), (nI op), (nI (tp - 1)), (nI wn), (-1), (nI fu), rs0, uc0, nw, isn]) rfl rfl (show (updA B 68 (B 68)) = B from updsA_eq2 (F := B) (l1 := [(68, (B 68))]) (l2 := []) (V := [(B 68)]) rfl rfl) hP
      have hD : va_D A (mW G h0 a (upd (upd (upd (upd (upd (upd (upd (upd (upd (upd F 87 (nI ou)) 102 (nI op)) 111 (nI (tp - 1))) 115 (nI wn)) 116 (-1)) 117 (nI fu)) 118 rs0) 119 uc0) 125 nw) 126 isn) B) := mW_D hD
      refine W.widen (k := 0) (n := 0) (Nat.le_of_ble_eq_true rfl) (Nat.le_of_ble_eq_true rfl) ?_
      refine W.eq (g2 := F0 m 311 ls [.int ((B 68) (tp - 1))]) rfl ?_
      refine lv_istore (lv' := [(4, .int ((B 68) (tp - 1))), (3, .int 1), (0, .ref h0), (1, .int (nI p9)), (2, .int (nI n9))]) hx hb dX12_goesOnIn_311 hl (by decide) rfl (fun ls hl => ?_)
      refine lv_aload_n hx hb dX12_goesOnIn_313 rfl (lv_at hl 2 rfl) ?_
      refine lv_iload_n hx hb dX12_goesOnIn_314 rfl (lv_at hl 3 rfl) ?_
      refine lv_iconst (v := 2) hx hb dX12_goesOnIn_315 (by decide) ?_
      refine lv_iload hx hb dX12_goesOnIn_316 (lv_at hl 0 rfl) ?_
      refine lv_aload_n hx hb dX12_goesOnIn_318 rfl (lv_at hl 2 rfl) ?_
      refine r_get (v := .ref (a 69)) hx hb hown hq hE hP 110 221 tFX12_110 (by decide) pw_1502 rfl dX12_goesOnIn_319 ?_
      refine lv_aload_n hx hb dX12_goesOnIn_322 rfl (lv_at hl 2 rfl) ?_
      refine r_get (v := .int (nI (tp - 1))) hx hb hown hq hE hP 111 698 tFX12_111 (by decide) pw_1964 rfl dX12_goesOnIn_323 ?_
      refine r_ldz (f := (B 69)) (j := (tp - 1)) hx hb hE hP 69 (ma_69 G a _) rfl (by omega) (by decide) dX12_goesOnIn_326 ?_
      refine lv_topi (fun x288 e289 => ?_)
      obtain rfl : x288 = nI b9 := e289.trans hs1
      obtain ⟨hb1, hk9, hrf⟩ := hs2
      have hv9 := ((hk9.resolve_left (fun h => absurd h.1 (by decide))).resolve_right (fun h => absurd h.1 (by decide))).2
      have hln := (hR.lnP hp hst hkd (by omega) (by omega)).1
      have hP : va_P G.1 pCl (mW G h0 a (upd (upd (upd (upd (upd (upd (upd (upd (upd (upd (upd (upd (upd (upd (upd (upd (upd (upd (upd F 87 (nI ou)) 102 (nI op)) 111 (nI (tp - 1))) 115 (nI wn)) 116 (-1)) 117 (nI fu)) 118 rs0) 119 uc0) 125 nw) 126 isn) 102 (nI op)) 111 (nI (tp - 1))) 115 (nI wn)) 116 (-1)) 117 (nI fu)) 118 rs0) 119 uc0) 125 nw) 126 isn) B) _ := mW_to (F := F) (l1 := [(87, (nI ou)), (102, (nI op)), (111, (nI (tp - 1))), (115, (nI wn)), (116, (-1)), (117, (nI fu)), (118, rs0), (119, uc0), (125, nw), (126, isn)]) (l2 := [(87, (nI ou)), (102, (nI op)), (111, (nI (tp - 1))), (115, (nI wn)), (116, (-1)), (117, (nI fu)), (118, rs0), (119, uc0), (125, nw), (126, isn), (102, (nI op)), (111, (nI (tp - 1))), (115, (nI wn)), (116, (-1)), (117, (nI fu)), (118, rs0), (119, uc0), (125, nw), (126, isn)]) (V := [(nI ou), (nI op), (nI (tp - 1)), (nI wn), (-1), (nI fu), rs0, uc0, nw, isn, (nI ou), (nI op), (nI (tp - 1)), (nI wn), (-1), (nI fu), rs0, uc0, nw, isn, (nI op), (nI (tp - 1)), (nI wn), (-1), (nI fu), rs0, uc0, nw, isn]) rfl rfl rfl hP
      have hD : va_D A (mW G h0 a (upd (upd (upd (upd (upd (upd (upd (upd (upd (upd (upd (upd (upd (upd (upd (upd (upd (upd (upd F 87 (nI ou)) 102 (nI op)) 111 (nI (tp - 1))) 115 (nI wn)) 116 (-1)) 117 (nI fu)) 118 rs0) 119 uc0) 125 nw) 126 isn) 102 (nI op)) 111 (nI (tp - 1))) 115 (nI wn)) 116 (-1)) 117 (nI fu)) 118 rs0) 119 uc0) 125 nw) 126 isn) B) := mW_D hD
      refine pc_V0 (G := G) (As := [.int (nI p9), .int 2, .int ((B 68) (tp - 1)), .int (nI b9)]) (rest := []) hx hb hml hown hq hE hX pX0_al hP hD hS hA hl.1 (R_leaves2 l G h0 a (upd (upd (upd (upd (upd (upd (upd (upd (upd (upd F 87 (nI ou)) 102 (nI op)) 111 (nI (tp - 1))) 115 (nI wn)) 116 (-1)) 117 (nI fu)) 118 rs0) 119 uc0) 125 nw) 126 isn) B Xs gh nd T nm wr lz dc fd md pr bk M rmm (Phi gh ps op (rkN gh n9 true)) op wn fu rd on idn fl ct p9 ((B 68) (tp - 1)) b9 mt ps (yyU yy (op - 1) u) bf wf (nI (tp - 1)) nw isn rs0 uc0 hln (by omega) hb1 hrf hv9) (gV pw_2050 pw_2051 pw_2052 pw_1523 pw_2049) hV_X12_leaves 0 9 rfl rfl rfl rfl (Nat.le_of_ble_eq_true rfl) dX12_goesOnIn_327 ⟨Nat.le_of_ble_eq_true rfl, Nat.le_of_ble_eq_true rfl⟩ ⟨Nat.le_of_ble_eq_true rfl, Nat.le_of_ble_eq_true rfl⟩ (fun v292 u290 H locs hw291 hP hD hS => ?_)
      obtain ⟨op293, tp294, wn295, fu296, en297, nw298, is299, rs300, uc301, X302⟩ := u290
      obtain ⟨hw291, h303⟩ := hw291
      replace h303 : Nx Xs X302 gh nd T nm wr lz dc fd md pr bk M rmm fu (Phi gh ps op (rkN gh n9 true)) op293 tp294 wn295 fu296 rd on idn fl ct en297 nw298 is299 uc301 := h303
      obtain rfl : v292 = none := hw291
      have hP : va_P G.1 pCl (mW G h0 a (upd (upd (upd (upd (upd (upd (upd (upd (upd (upd F 87 (nI ou)) 102 (nI op293)) 111 (nI tp294)) 115 (nI wn295)) 116 en297) 117 (nI fu296)) 118 rs300) 119 uc301) 125 nw298) 126 is299) X302) _ := mW_to (F := F) (l1 := [(87, (nI ou)), (102, (nI op)), (111, (nI (tp - 1))), (115, (nI wn)), (116, (-1)), (117, (nI fu)), (118, rs0), (119, uc0), (125, nw), (126, isn), (102, (nI op293)), (111, (nI tp294)), (115, (nI wn295)), (116, en297), (117, (nI fu296)), (118, rs300), (119, uc301), (125, nw298), (126, is299)]) (l2 := [(87, (nI ou)), (102, (nI op293)), (111, (nI tp294)), (115, (nI wn295)), (116, en297), (117, (nI fu296)), (118, rs300), (119, uc301), (125, nw298), (126, is299)]) (V := [(nI ou), (nI op293), (nI tp294), (nI wn295), en297, (nI fu296), rs300, uc301, nw298, is299, (nI op293), (nI tp294), (nI wn295), en297, (nI fu296), rs300, uc301, nw298, is299, (nI ou), (nI op293), (nI tp294), (nI wn295), en297, (nI fu296), rs300, uc301, nw298, is299]) rfl rfl rfl hP
      have hD : va_D A (mW G h0 a (upd (upd (upd (upd (upd (upd (upd (upd (upd (upd F 87 (nI ou)) 102 (nI op293)) 111 (nI tp294)) 115 (nI wn295)) 116 en297) 117 (nI fu296)) 118 rs300) 119 uc301) 125 nw298) 126 is299) X302) := mW_D hD
      refine W.widen (k := 0) (n := 0) (Nat.le_of_ble_eq_true rfl) (Nat.le_of_ble_eq_true rfl) ?_
      refine W.eq (g2 := F0 m 330 ls []) rfl ?_
      refine lv_goto (tgt := 452) hx hb dX12_goesOnIn_330 (by decide) ?_
      have hz304 : Nx Xs X302 gh nd T nm wr lz dc fd md pr bk M rmm fu (Phi gh ps op (rkN gh n9 true)) op293 tp294 wn295 fu296 rd on idn fl ct en297 nw298 is299 uc301 := h303
      have hz305 : ou ≤ 400 := (by omega)
      have hP : va_P G.1 pCl (mW G h0 a (upd (upd (upd (upd (upd (upd (upd (upd (upd (upd F 87 (nI ou)) 102 (nI op293)) 111 (nI tp294)) 115 (nI wn295)) 116 en297) 117 (nI fu296)) 118 rs300) 119 uc301) 125 nw298) 126 is299) X302) _ := hP
      have hD : va_D A (mW G h0 a (upd (upd (upd (upd (upd (upd (upd (upd (upd (upd F 87 (nI ou)) 102 (nI op293)) 111 (nI tp294)) 115 (nI wn295)) 116 en297) 117 (nI fu296)) 118 rs300) 119 uc301) 125 nw298) 126 is299) X302) := mW_D hD
      exact W.vret hx hb hr (fun t9 ht9 hW9 => ⟨⟨_, (op293, tp294, wn295, fu296, en297, nw298, is299, rs300, uc301, ou, X302), rfl, ⟨rfl, hz304, hz305⟩, by rw [ht9]; exact hP, hD⟩, hS.F ht9⟩) hS.2.2 dX12_goesOnIn_452
    · refine lv_iload_n hx hb dX12_goesOnIn_0 rfl (lv_at hl 2 rfl) ?_
      refine lv_aload_n hx hb dX12_goesOnIn_1 rfl (lv_at hl 0 rfl) ?_
      refine r_get (v := .ref (a 12)) hx hb hown hq hE hP 20 47 tFX12_20 (by decide) pw_1442 rfl dX12_goesOnIn_2 ?_
      refine lv_iload_n hx hb dX12_goesOnIn_5 rfl (lv_at hl 1 rfl) ?_
      refine r_ldi (f := (B 12)) (j := p9) hx hb hE hP 12 (ma_12 G a _) rfl (by omega) (by decide) dX12_goesOnIn_6 ?_
      refine lv_icmp_ne (tgt := 14) hx hb dX12_goesOnIn_7 (by decide) (fun c306 => ?_) (fun c306 => absurd ((congrFun hw12 _).symm.trans c306.symm) hfi)
      refine lv_iconst (v := 0) hx hb dX12_goesOnIn_14 (by decide) ?_
      refine lv_istore_n (lv' := [(3, .int 0), (0, .ref h0), (1, .int (nI p9)), (2, .int (nI n9))]) hx hb dX12_goesOnIn_15 rfl hl (by decide) rfl (fun ls hl => ?_)
      refine lv_aload_n hx hb dX12_goesOnIn_16 rfl (lv_at hl 1 rfl) ?_
      refine r_get (v := .ref (a 9)) hx hb hown hq hE hP 17 38 tFX12_17 (by decide) pw_1439 rfl dX12_goesOnIn_17 ?_
      refine lv_iload_n hx hb dX12_goesOnIn_20 rfl (lv_at hl 2 rfl) ?_
      refine r_ldi (f := (B 9)) (j := p9) hx hb hE hP 9 (ma_9 G a _) rfl (by omega) (by decide) dX12_goesOnIn_21 ?_
      refine lv_topi (fun x307 e308 => ?_)
      obtain rfl : x307 = 37 := e308.trans ((congrFun hw9 _).trans hkd)
      refine lv_tableIn (tgt := 307) (off := 285) hx hb dX12_goesOnIn_22 (by decide) (by decide) (by decide) (by decide) ?_
      obtain ⟨ht1, b9, hs1, hs2⟩ := hR.g37 hp hst hkd
      refine lv_aload_n hx hb dX12_goesOnIn_307 rfl (lv_at hl 1 rfl) ?_
      have hP : va_P G.1 pCl (mW G h0 a (upd (upd (upd (upd (upd (upd (upd (upd (upd (upd (upd F 87 (nI ou)) 102 (nI op)) 111 (nI tp)) 115 (nI wn)) 116 (-1)) 117 (nI fu)) 118 rs0) 119 uc0) 125 nw) 126 isn) 111 (nI tp)) (updA B 68 (B 68))) _ := hP
      have hD : va_D A (mW G h0 a (upd (upd (upd (upd (upd (upd (upd (upd (upd (upd (upd F 87 (nI ou)) 102 (nI op)) 111 (nI tp)) 115 (nI wn)) 116 (-1)) 117 (nI fu)) 118 rs0) 119 uc0) 125 nw) 126 isn) 111 (nI tp)) (updA B 68 (B 68))) := mW_D hD
      refine pc_V0 (G := G) (As := []) (rest := []) hx hb hml hown hq hE hX pX0_al hP hD hS hA hl.1 (R_pop l G h0 a (upd (upd (upd (upd (upd (upd (upd (upd (upd (upd F 87 (nI ou)) 102 (nI op)) 111 (nI tp)) 115 (nI wn)) 116 (-1)) 117 (nI fu)) 118 rs0) 119 uc0) 125 nw) 126 isn) B tp (B 68) (by omega)) (gV pw_2082 pw_2083 pw_2084 pw_1523 pw_1965) hV_X12_pop 0 9 rfl rfl rfl rfl (Nat.le_of_ble_eq_true rfl) dX12_goesOnIn_308 ⟨Nat.le_of_ble_eq_true rfl, Nat.le_of_ble_eq_true rfl⟩ ⟨Nat.le_of_ble_eq_true rfl, Nat.le_of_ble_eq_true rfl⟩ (fun v311 u309 H locs hw310 hP hD hS => ?_)
      obtain rfl : v311 = some (.int ((B 68) (tp - 1))) := hw310
      have hP : va_P G.1 pCl (mW G h0 a (upd (upd (upd (upd (upd (upd (upd (upd (upd (upd F 87 (nI ou)) 102 (nI op)) 111 (nI (tp - 1))) 115 (nI wn)) 116 (-1)) 117 (nI fu)) 118 rs0) 119 uc0) 125 nw) 126 isn) B) _ := mW_to (F := F) (l1 := [(87, (nI ou)), (102, (nI op)), (111, (nI tp)), (115, (nI wn)), (116, (-1)), (117, (nI fu)), (118, rs0), (119, uc0), (125, nw), (126, isn), (111, (nI (tp - 1)))]) (l2 := [(87, (nI ou)), (102, (nI op)), (111, (nI (tp - 1))), (115, (nI wn)), (116, (-1)), (117, (nI fu)), (118, rs0), (119, uc0), (125, nw), (126, isn)]) (V := [(nI ou), (nI op), (nI (tp - 1)), (nI wn), (-1), (nI fu), rs0, uc0, nw, isn, (nI (tp - 1)), (nI ou), (nI op), (nI (tp - 1)), (nI wn), (-1), (nI fu), rs0, uc0, nw, isn]) rfl rfl (show (updA B 68 (B 68)) = B from updsA_eq2 (F := B) (l1 := [(68, (B 68))]) (l2 := []) (V := [(B 68)]) rfl rfl) hP
      have hD : va_D A (mW G h0 a (upd (upd (upd (upd (upd (upd (upd (upd (upd (upd F 87 (nI ou)) 102 (nI op)) 111 (nI (tp - 1))) 115 (nI wn)) 116 (-1)) 117 (nI fu)) 118 rs0) 119 uc0) 125 nw) 126 isn) B) := mW_D hD
      refine W.widen (k := 0) (n := 0) (Nat.le_of_ble_eq_true rfl) (Nat.le_of_ble_eq_true rfl) ?_
      refine W.eq (g2 := F0 m 311 ls [.int ((B 68) (tp - 1))]) rfl ?_
      refine lv_istore (lv' := [(4, .int ((B 68) (tp - 1))), (3, .int 0), (0, .ref h0), (1, .int (nI p9)), (2, .int (nI n9))]) hx hb dX12_goesOnIn_311 hl (by decide) rfl (fun ls hl => ?_)
      refine lv_aload_n hx hb dX12_goesOnIn_313 rfl (lv_at hl 2 rfl) ?_
      refine lv_iload_n hx hb dX12_goesOnIn_314 rfl (lv_at hl 3 rfl) ?_
      refine lv_iconst (v := 2) hx hb dX12_goesOnIn_315 (by decide) ?_
      refine lv_iload hx hb dX12_goesOnIn_316 (lv_at hl 0 rfl) ?_
      refine lv_aload_n hx hb dX12_goesOnIn_318 rfl (lv_at hl 2 rfl) ?_
      refine r_get (v := .ref (a 69)) hx hb hown hq hE hP 110 221 tFX12_110 (by decide) pw_1502 rfl dX12_goesOnIn_319 ?_
      refine lv_aload_n hx hb dX12_goesOnIn_322 rfl (lv_at hl 2 rfl) ?_
      refine r_get (v := .int (nI (tp - 1))) hx hb hown hq hE hP 111 698 tFX12_111 (by decide) pw_1964 rfl dX12_goesOnIn_323 ?_
      refine r_ldz (f := (B 69)) (j := (tp - 1)) hx hb hE hP 69 (ma_69 G a _) rfl (by omega) (by decide) dX12_goesOnIn_326 ?_
      refine lv_topi (fun x312 e313 => ?_)
      obtain rfl : x312 = nI b9 := e313.trans hs1
      obtain ⟨hb1, hk9, hrf⟩ := hs2
      have hv9 := ((hk9.resolve_left (fun h => absurd h.1 (by decide))).resolve_right (fun h => absurd h.1 (by decide))).2
      have hln := (hR.lnP hp hst hkd (by omega) (by omega)).1
      have hP : va_P G.1 pCl (mW G h0 a (upd (upd (upd (upd (upd (upd (upd (upd (upd (upd (upd (upd (upd (upd (upd (upd (upd (upd (upd F 87 (nI ou)) 102 (nI op)) 111 (nI (tp - 1))) 115 (nI wn)) 116 (-1)) 117 (nI fu)) 118 rs0) 119 uc0) 125 nw) 126 isn) 102 (nI op)) 111 (nI (tp - 1))) 115 (nI wn)) 116 (-1)) 117 (nI fu)) 118 rs0) 119 uc0) 125 nw) 126 isn) B) _ := mW_to (F := F) (l1 := [(87, (nI ou)), (102, (nI op)), (111, (nI (tp - 1))), (115, (nI wn)), (116, (-1)), (117, (nI fu)), (118, rs0), (119, uc0), (125, nw), (126, isn)]) (l2 := [(87, (nI ou)), (102, (nI op)), (111, (nI (tp - 1))), (115, (nI wn)), (116, (-1)), (117, (nI fu)), (118, rs0), (119, uc0), (125, nw), (126, isn), (102, (nI op)), (111, (nI (tp - 1))), (115, (nI wn)), (116, (-1)), (117, (nI fu)), (118, rs0), (119, uc0), (125, nw), (126, isn)]) (V := [(nI ou), (nI op), (nI (tp - 1)), (nI wn), (-1), (nI fu), rs0, uc0, nw, isn, (nI ou), (nI op), (nI (tp - 1)), (nI wn), (-1), (nI fu), rs0, uc0, nw, isn, (nI op), (nI (tp - 1)), (nI wn), (-1), (nI fu), rs0, uc0, nw, isn]) rfl rfl rfl hP
      have hD : va_D A (mW G h0 a (upd (upd (upd (upd (upd (upd (upd (upd (upd (upd (upd (upd (upd (upd (upd (upd (upd (upd (upd F 87 (nI ou)) 102 (nI op)) 111 (nI (tp - 1))) 115 (nI wn)) 116 (-1)) 117 (nI fu)) 118 rs0) 119 uc0) 125 nw) 126 isn) 102 (nI op)) 111 (nI (tp - 1))) 115 (nI wn)) 116 (-1)) 117 (nI fu)) 118 rs0) 119 uc0) 125 nw) 126 isn) B) := mW_D hD
      refine pc_V0 (G := G) (As := [.int (nI p9), .int 2, .int ((B 68) (tp - 1)), .int (nI b9)]) (rest := []) hx hb hml hown hq hE hX pX0_al hP hD hS hA hl.1 (R_leaves2 l G h0 a (upd (upd (upd (upd (upd (upd (upd (upd (upd (upd F 87 (nI ou)) 102 (nI op)) 111 (nI (tp - 1))) 115 (nI wn)) 116 (-1)) 117 (nI fu)) 118 rs0) 119 uc0) 125 nw) 126 isn) B Xs gh nd T nm wr lz dc fd md pr bk M rmm (Phi gh ps op (rkN gh n9 true)) op wn fu rd on idn fl ct p9 ((B 68) (tp - 1)) b9 mt ps (yyU yy (op - 1) u) bf wf (nI (tp - 1)) nw isn rs0 uc0 hln (by omega) hb1 hrf hv9) (gV pw_2050 pw_2051 pw_2052 pw_1523 pw_2049) hV_X12_leaves 0 9 rfl rfl rfl rfl (Nat.le_of_ble_eq_true rfl) dX12_goesOnIn_327 ⟨Nat.le_of_ble_eq_true rfl, Nat.le_of_ble_eq_true rfl⟩ ⟨Nat.le_of_ble_eq_true rfl, Nat.le_of_ble_eq_true rfl⟩ (fun v316 u314 H locs hw315 hP hD hS => ?_)
      obtain ⟨op317, tp318, wn319, fu320, en321, nw322, is323, rs324, uc325, X326⟩ := u314
      obtain ⟨hw315, h327⟩ := hw315
      replace h327 : Nx Xs X326 gh nd T nm wr lz dc fd md pr bk M rmm fu (Phi gh ps op (rkN gh n9 true)) op317 tp318 wn319 fu320 rd on idn fl ct en321 nw322 is323 uc325 := h327
      obtain rfl : v316 = none := hw315
      have hP : va_P G.1 pCl (mW G h0 a (upd (upd (upd (upd (upd (upd (upd (upd (upd (upd F 87 (nI ou)) 102 (nI op317)) 111 (nI tp318)) 115 (nI wn319)) 116 en321) 117 (nI fu320)) 118 rs324) 119 uc325) 125 nw322) 126 is323) X326) _ := mW_to (F := F) (l1 := [(87, (nI ou)), (102, (nI op)), (111, (nI (tp - 1))), (115, (nI wn)), (116, (-1)), (117, (nI fu)), (118, rs0), (119, uc0), (125, nw), (126, isn), (102, (nI op317)), (111, (nI tp318)), (115, (nI wn319)), (116, en321), (117, (nI fu320)), (118, rs324), (119, uc325), (125, nw322), (126, is323)]) (l2 := [(87, (nI ou)), (102, (nI op317)), (111, (nI tp318)), (115, (nI wn319)), (116, en321), (117, (nI fu320)), (118, rs324), (119, uc325), (125, nw322), (126, is323)]) (V := [(nI ou), (nI op317), (nI tp318), (nI wn319), en321, (nI fu320), rs324, uc325, nw322, is323, (nI op317), (nI tp318), (nI wn319), en321, (nI fu320), rs324, uc325, nw322, is323, (nI ou), (nI op317), (nI tp318), (nI wn319), en321, (nI fu320), rs324, uc325, nw322, is323]) rfl rfl rfl hP
      have hD : va_D A (mW G h0 a (upd (upd (upd (upd (upd (upd (upd (upd (upd (upd F 87 (nI ou)) 102 (nI op317)) 111 (nI tp318)) 115 (nI wn319)) 116 en321) 117 (nI fu320)) 118 rs324) 119 uc325) 125 nw322) 126 is323) X326) := mW_D hD
      refine W.widen (k := 0) (n := 0) (Nat.le_of_ble_eq_true rfl) (Nat.le_of_ble_eq_true rfl) ?_
      refine W.eq (g2 := F0 m 330 ls []) rfl ?_
      refine lv_goto (tgt := 452) hx hb dX12_goesOnIn_330 (by decide) ?_
      have hz328 : Nx Xs X326 gh nd T nm wr lz dc fd md pr bk M rmm fu (Phi gh ps op (rkN gh n9 true)) op317 tp318 wn319 fu320 rd on idn fl ct en321 nw322 is323 uc325 := h327
      have hz329 : ou ≤ 400 := (by omega)
      have hP : va_P G.1 pCl (mW G h0 a (upd (upd (upd (upd (upd (upd (upd (upd (upd (upd F 87 (nI ou)) 102 (nI op317)) 111 (nI tp318)) 115 (nI wn319)) 116 en321) 117 (nI fu320)) 118 rs324) 119 uc325) 125 nw322) 126 is323) X326) _ := hP
      have hD : va_D A (mW G h0 a (upd (upd (upd (upd (upd (upd (upd (upd (upd (upd F 87 (nI ou)) 102 (nI op317)) 111 (nI tp318)) 115 (nI wn319)) 116 en321) 117 (nI fu320)) 118 rs324) 119 uc325) 125 nw322) 126 is323) X326) := mW_D hD
      exact W.vret hx hb hr (fun t9 ht9 hW9 => ⟨⟨_, (op317, tp318, wn319, fu320, en321, nw322, is323, rs324, uc325, ou, X326), rfl, ⟨rfl, hz328, hz329⟩, by rw [ht9]; exact hP, hD⟩, hS.F ht9⟩) hS.2.2 dX12_goesOnIn_452
  · exact (hR.kid0 hp hst hkd (by omega) (by decide)).elim
  · exact (hR.kid0 hp hst hkd (by omega) (by decide)).elim
  · by_cases hfi : Xs 12 p9 = nI n9
    · refine lv_iload_n hx hb dX12_goesOnIn_0 rfl (lv_at hl 2 rfl) ?_
      refine lv_aload_n hx hb dX12_goesOnIn_1 rfl (lv_at hl 0 rfl) ?_
      refine r_get (v := .ref (a 12)) hx hb hown hq hE hP 20 47 tFX12_20 (by decide) pw_1442 rfl dX12_goesOnIn_2 ?_
      refine lv_iload_n hx hb dX12_goesOnIn_5 rfl (lv_at hl 1 rfl) ?_
      refine r_ldi (f := (B 12)) (j := p9) hx hb hE hP 12 (ma_12 G a _) rfl (by omega) (by decide) dX12_goesOnIn_6 ?_
      refine lv_topi (fun x330 e331 => ?_)
      obtain rfl : x330 = nI n9 := e331.trans ((congrFun hw12 _).trans hfi)
      refine lv_icmp_ne (tgt := 14) hx hb dX12_goesOnIn_7 (by decide) (fun c332 => absurd rfl c332) (fun c332 => ?_)
      refine lv_iconst (v := 1) hx hb dX12_goesOnIn_10 (by decide) ?_
      refine lv_goto (tgt := 15) hx hb dX12_goesOnIn_11 (by decide) ?_
      refine lv_istore_n (lv' := [(3, .int 1), (0, .ref h0), (1, .int (nI p9)), (2, .int (nI n9))]) hx hb dX12_goesOnIn_15 rfl hl (by decide) rfl (fun ls hl => ?_)
      refine lv_aload_n hx hb dX12_goesOnIn_16 rfl (lv_at hl 1 rfl) ?_
      refine r_get (v := .ref (a 9)) hx hb hown hq hE hP 17 38 tFX12_17 (by decide) pw_1439 rfl dX12_goesOnIn_17 ?_
      refine lv_iload_n hx hb dX12_goesOnIn_20 rfl (lv_at hl 2 rfl) ?_
      refine r_ldi (f := (B 9)) (j := p9) hx hb hE hP 9 (ma_9 G a _) rfl (by omega) (by decide) dX12_goesOnIn_21 ?_
      refine lv_topi (fun x333 e334 => ?_)
      obtain rfl : x333 = 40 := e334.trans ((congrFun hw9 _).trans hkd)
      refine lv_tableIn (tgt := 333) (off := 311) hx hb dX12_goesOnIn_22 (by decide) (by decide) (by decide) (by decide) ?_
      obtain ⟨ht1, hm6⟩ := hR.g40 hp hst hkd
      refine lv_aload_n hx hb dX12_goesOnIn_333 rfl (lv_at hl 1 rfl) ?_
      have hP : va_P G.1 pCl (mW G h0 a (upd (upd (upd (upd (upd (upd (upd (upd (upd (upd (upd F 87 (nI ou)) 102 (nI op)) 111 (nI tp)) 115 (nI wn)) 116 (-1)) 117 (nI fu)) 118 rs0) 119 uc0) 125 nw) 126 isn) 111 (nI tp)) (updA B 68 (B 68))) _ := hP
      have hD : va_D A (mW G h0 a (upd (upd (upd (upd (upd (upd (upd (upd (upd (upd (upd F 87 (nI ou)) 102 (nI op)) 111 (nI tp)) 115 (nI wn)) 116 (-1)) 117 (nI fu)) 118 rs0) 119 uc0) 125 nw) 126 isn) 111 (nI tp)) (updA B 68 (B 68))) := mW_D hD
      refine pc_V0 (G := G) (As := []) (rest := []) hx hb hml hown hq hE hX pX0_al hP hD hS hA hl.1 (R_pop l G h0 a (upd (upd (upd (upd (upd (upd (upd (upd (upd (upd F 87 (nI ou)) 102 (nI op)) 111 (nI tp)) 115 (nI wn)) 116 (-1)) 117 (nI fu)) 118 rs0) 119 uc0) 125 nw) 126 isn) B tp (B 68) (by omega)) (gV pw_2082 pw_2083 pw_2084 pw_1523 pw_1965) hV_X12_pop 0 9 rfl rfl rfl rfl (Nat.le_of_ble_eq_true rfl) dX12_goesOnIn_334 ⟨Nat.le_of_ble_eq_true rfl, Nat.le_of_ble_eq_true rfl⟩ ⟨Nat.le_of_ble_eq_true rfl, Nat.le_of_ble_eq_true rfl⟩ (fun v337 u335 H locs hw336 hP hD hS => ?_)
      obtain rfl : v337 = some (.int ((B 68) (tp - 1))) := hw336
      have hP : va_P G.1 pCl (mW G h0 a (upd (upd (upd (upd (upd (upd (upd (upd (upd (upd F 87 (nI ou)) 102 (nI op)) 111 (nI (tp - 1))) 115 (nI wn)) 116 (-1)) 117 (nI fu)) 118 rs0) 119 uc0) 125 nw) 126 isn) B) _ := mW_to (F := F) (l1 := [(87, (nI ou)), (102, (nI op)), (111, (nI tp)), (115, (nI wn)), (116, (-1)), (117, (nI fu)), (118, rs0), (119, uc0), (125, nw), (126, isn), (111, (nI (tp - 1)))]) (l2 := [(87, (nI ou)), (102, (nI op)), (111, (nI (tp - 1))), (115, (nI wn)), (116, (-1)), (117, (nI fu)), (118, rs0), (119, uc0), (125, nw), (126, isn)]) (V := [(nI ou), (nI op), (nI (tp - 1)), (nI wn), (-1), (nI fu), rs0, uc0, nw, isn, (nI (tp - 1)), (nI ou), (nI op), (nI (tp - 1)), (nI wn), (-1), (nI fu), rs0, uc0, nw, isn]) rfl rfl (show (updA B 68 (B 68)) = B from updsA_eq2 (F := B) (l1 := [(68, (B 68))]) (l2 := []) (V := [(B 68)]) rfl rfl) hP
      have hD : va_D A (mW G h0 a (upd (upd (upd (upd (upd (upd (upd (upd (upd (upd F 87 (nI ou)) 102 (nI op)) 111 (nI (tp - 1))) 115 (nI wn)) 116 (-1)) 117 (nI fu)) 118 rs0) 119 uc0) 125 nw) 126 isn) B) := mW_D hD
      refine W.widen (k := 0) (n := 0) (Nat.le_of_ble_eq_true rfl) (Nat.le_of_ble_eq_true rfl) ?_
      refine W.eq (g2 := F0 m 337 ls [.int ((B 68) (tp - 1))]) rfl ?_
      rcases hm6 with hz | ⟨x9, hv1, hv2, hv3, hv4⟩
      · refine lv_topi (fun x338 e339 => ?_)
        obtain rfl : x338 = 0 := e339.trans hz
        refine lv_istore (lv' := [(4, .int 0), (3, .int 1), (0, .ref h0), (1, .int (nI p9)), (2, .int (nI n9))]) hx hb dX12_goesOnIn_337 hl (by decide) rfl (fun ls hl => ?_)
        refine lv_aload_n hx hb dX12_goesOnIn_339 rfl (lv_at hl 2 rfl) ?_
        refine lv_iload_n hx hb dX12_goesOnIn_340 rfl (lv_at hl 3 rfl) ?_
        refine lv_iload hx hb dX12_goesOnIn_341 (lv_at hl 0 rfl) ?_
        refine lv_if_ne (tgt := 352) hx hb dX12_goesOnIn_343 (by decide) (fun c340 => absurd c340 (by decide)) (fun c340 => ?_)
        refine lv_sipush (v := 4001) hx hb dX12_goesOnIn_346 (by decide) ?_
        refine lv_goto (tgt := 370) hx hb dX12_goesOnIn_349 (by decide) ?_
        have hln341 := (Rn.lnP hR hp hst hkd (by omega) (by omega)).1
        have hP : va_P G.1 pCl (mW G h0 a (upd (upd (upd (upd (upd (upd (upd (upd (upd (upd (upd (upd (upd (upd (upd (upd (upd (upd (upd F 87 (nI ou)) 102 (nI op)) 111 (nI (tp - 1))) 115 (nI wn)) 116 (-1)) 117 (nI fu)) 118 rs0) 119 uc0) 125 nw) 126 isn) 102 (nI op)) 111 (nI (tp - 1))) 115 (nI wn)) 116 (-1)) 117 (nI fu)) 118 rs0) 119 uc0) 125 nw) 126 isn) B) _ := mW_to (F := F) (l1 := [(87, (nI ou)), (102, (nI op)), (111, (nI (tp - 1))), (115, (nI wn)), (116, (-1)), (117, (nI fu)), (118, rs0), (119, uc0), (125, nw), (126, isn)]) (l2 := [(87, (nI ou)), (102, (nI op)), (111, (nI (tp - 1))), (115, (nI wn)), (116, (-1)), (117, (nI fu)), (118, rs0), (119, uc0), (125, nw), (126, isn), (102, (nI op)), (111, (nI (tp - 1))), (115, (nI wn)), (116, (-1)), (117, (nI fu)), (118, rs0), (119, uc0), (125, nw), (126, isn)]) (V := [(nI ou), (nI op), (nI (tp - 1)), (nI wn), (-1), (nI fu), rs0, uc0, nw, isn, (nI ou), (nI op), (nI (tp - 1)), (nI wn), (-1), (nI fu), rs0, uc0, nw, isn, (nI op), (nI (tp - 1)), (nI wn), (-1), (nI fu), rs0, uc0, nw, isn]) rfl rfl rfl hP
        have hD : va_D A (mW G h0 a (upd (upd (upd (upd (upd (upd (upd (upd (upd (upd (upd (upd (upd (upd (upd (upd (upd (upd (upd F 87 (nI ou)) 102 (nI op)) 111 (nI (tp - 1))) 115 (nI wn)) 116 (-1)) 117 (nI fu)) 118 rs0) 119 uc0) 125 nw) 126 isn) 102 (nI op)) 111 (nI (tp - 1))) 115 (nI wn)) 116 (-1)) 117 (nI fu)) 118 rs0) 119 uc0) 125 nw) 126 isn) B) := mW_D hD
        refine pc_V0 (G := G) (As := [.int (nI p9), .int (nI 4001)]) (rest := []) hx hb hml hown hq hE hX pX0_al hP hD hS hA hl.1 (R_raises l G h0 a (upd (upd (upd (upd (upd (upd (upd (upd (upd (upd F 87 (nI ou)) 102 (nI op)) 111 (nI (tp - 1))) 115 (nI wn)) 116 (-1)) 117 (nI fu)) 118 rs0) 119 uc0) 125 nw) 126 isn) B Xs gh nd T nm wr lz dc fd md pr bk M rmm (Phi gh ps op (rkN gh n9 true)) op wn fu rd on idn fl ct p9 4001 (4001 - 4000) mt ps (yyU yy (op - 1) u) bf wf (nI (tp - 1)) nw isn rs0 uc0 hln341 (by omega) (by omega) (Or.inr (by omega)) (clF_1 (by omega)) (by omega)) (gV pw_2054 pw_2055 pw_2056 pw_1523 pw_2053) hV_X12_raises 0 9 rfl rfl rfl rfl (Nat.le_of_ble_eq_true rfl) dX12_goesOnIn_370 ⟨Nat.le_of_ble_eq_true rfl, Nat.le_of_ble_eq_true rfl⟩ ⟨Nat.le_of_ble_eq_true rfl, Nat.le_of_ble_eq_true rfl⟩ (fun v344 u342 H locs hw343 hP hD hS => ?_)
        obtain ⟨op345, tp346, wn347, fu348, en349, nw350, is351, rs352, uc353, X354⟩ := u342
        obtain ⟨hw343, h355⟩ := hw343
        replace h355 : Nx Xs X354 gh nd T nm wr lz dc fd md pr bk M rmm fu (Phi gh ps op (rkN gh n9 true)) op345 tp346 wn347 fu348 rd on idn fl ct en349 nw350 is351 uc353 := h355
        obtain rfl : v344 = none := hw343
        have hP : va_P G.1 pCl (mW G h0 a (upd (upd (upd (upd (upd (upd (upd (upd (upd (upd F 87 (nI ou)) 102 (nI op345)) 111 (nI tp346)) 115 (nI wn347)) 116 en349) 117 (nI fu348)) 118 rs352) 119 uc353) 125 nw350) 126 is351) X354) _ := mW_to (F := F) (l1 := [(87, (nI ou)), (102, (nI op)), (111, (nI (tp - 1))), (115, (nI wn)), (116, (-1)), (117, (nI fu)), (118, rs0), (119, uc0), (125, nw), (126, isn), (102, (nI op345)), (111, (nI tp346)), (115, (nI wn347)), (116, en349), (117, (nI fu348)), (118, rs352), (119, uc353), (125, nw350), (126, is351)]) (l2 := [(87, (nI ou)), (102, (nI op345)), (111, (nI tp346)), (115, (nI wn347)), (116, en349), (117, (nI fu348)), (118, rs352), (119, uc353), (125, nw350), (126, is351)]) (V := [(nI ou), (nI op345), (nI tp346), (nI wn347), en349, (nI fu348), rs352, uc353, nw350, is351, (nI op345), (nI tp346), (nI wn347), en349, (nI fu348), rs352, uc353, nw350, is351, (nI ou), (nI op345), (nI tp346), (nI wn347), en349, (nI fu348), rs352, uc353, nw350, is351]) rfl rfl rfl hP
        have hD : va_D A (mW G h0 a (upd (upd (upd (upd (upd (upd (upd (upd (upd (upd F 87 (nI ou)) 102 (nI op345)) 111 (nI tp346)) 115 (nI wn347)) 116 en349) 117 (nI fu348)) 118 rs352) 119 uc353) 125 nw350) 126 is351) X354) := mW_D hD
        refine W.widen (k := 0) (n := 0) (Nat.le_of_ble_eq_true rfl) (Nat.le_of_ble_eq_true rfl) ?_
        refine W.eq (g2 := F0 m 373 ls []) rfl ?_
        refine lv_goto (tgt := 452) hx hb dX12_goesOnIn_373 (by decide) ?_
        have hz356 : Nx Xs X354 gh nd T nm wr lz dc fd md pr bk M rmm fu (Phi gh ps op (rkN gh n9 true)) op345 tp346 wn347 fu348 rd on idn fl ct en349 nw350 is351 uc353 := h355
        have hz357 : ou ≤ 400 := (by omega)
        have hP : va_P G.1 pCl (mW G h0 a (upd (upd (upd (upd (upd (upd (upd (upd (upd (upd F 87 (nI ou)) 102 (nI op345)) 111 (nI tp346)) 115 (nI wn347)) 116 en349) 117 (nI fu348)) 118 rs352) 119 uc353) 125 nw350) 126 is351) X354) _ := hP
        have hD : va_D A (mW G h0 a (upd (upd (upd (upd (upd (upd (upd (upd (upd (upd F 87 (nI ou)) 102 (nI op345)) 111 (nI tp346)) 115 (nI wn347)) 116 en349) 117 (nI fu348)) 118 rs352) 119 uc353) 125 nw350) 126 is351) X354) := mW_D hD
        exact W.vret hx hb hr (fun t9 ht9 hW9 => ⟨⟨_, (op345, tp346, wn347, fu348, en349, nw350, is351, rs352, uc353, ou, X354), rfl, ⟨rfl, hz356, hz357⟩, by rw [ht9]; exact hP, hD⟩, hS.F ht9⟩) hS.2.2 dX12_goesOnIn_452
      · refine lv_topi (fun x358 e359 => ?_)
        obtain rfl : x358 = nI x9 := e359.trans hv1
        refine lv_istore (lv' := [(4, .int (nI x9)), (3, .int 1), (0, .ref h0), (1, .int (nI p9)), (2, .int (nI n9))]) hx hb dX12_goesOnIn_337 hl (by decide) rfl (fun ls hl => ?_)
        refine lv_aload_n hx hb dX12_goesOnIn_339 rfl (lv_at hl 2 rfl) ?_
        refine lv_iload_n hx hb dX12_goesOnIn_340 rfl (lv_at hl 3 rfl) ?_
        refine lv_iload hx hb dX12_goesOnIn_341 (lv_at hl 0 rfl) ?_
        refine lv_if_ne (tgt := 352) hx hb dX12_goesOnIn_343 (by decide) (fun c360 => ?_) (fun c360 => (by have n361 : x9 = 0 := (nI_eq (a := x9) (b := 0) (by omega) (by omega)).mp c360; omega))
        refine lv_aload_n hx hb dX12_goesOnIn_352 rfl (lv_at hl 2 rfl) ?_
        refine lv_iload hx hb dX12_goesOnIn_353 (lv_at hl 0 rfl) ?_
        have hP : va_P G.1 pCl (mW G h0 a (upd (upd (upd (upd (upd (upd (upd (upd (upd (upd F 87 (nI ou)) 102 (nI op)) 111 (nI (tp - 1))) 115 (nI wn)) 116 (-1)) 117 (nI fu)) 118 rs0) 119 uc0) 125 nw) 126 isn) (updA B 55 (B 55))) _ := mW_to (F := F) (l1 := [(87, (nI ou)), (102, (nI op)), (111, (nI (tp - 1))), (115, (nI wn)), (116, (-1)), (117, (nI fu)), (118, rs0), (119, uc0), (125, nw), (126, isn)]) (l2 := [(87, (nI ou)), (102, (nI op)), (111, (nI (tp - 1))), (115, (nI wn)), (116, (-1)), (117, (nI fu)), (118, rs0), (119, uc0), (125, nw), (126, isn)]) (V := [(nI ou), (nI op), (nI (tp - 1)), (nI wn), (-1), (nI fu), rs0, uc0, nw, isn, (nI ou), (nI op), (nI (tp - 1)), (nI wn), (-1), (nI fu), rs0, uc0, nw, isn]) rfl rfl (show B = (updA B 55 (B 55)) from updsA_eq2 (F := B) (l1 := []) (l2 := [(55, (B 55))]) (V := [(B 55)]) rfl rfl) hP
        have hD : va_D A (mW G h0 a (upd (upd (upd (upd (upd (upd (upd (upd (upd (upd F 87 (nI ou)) 102 (nI op)) 111 (nI (tp - 1))) 115 (nI wn)) 116 (-1)) 117 (nI fu)) 118 rs0) 119 uc0) 125 nw) 126 isn) (updA B 55 (B 55))) := mW_D hD
        refine pc_V0 (G := G) (As := [.int (nI x9)]) (rest := [.int (nI p9), .ref h0]) hx hb hml hown hq hE hX pX0_al hP hD hS hA hl.1 (R_classOf l G h0 a (upd (upd (upd (upd (upd (upd (upd (upd (upd (upd F 87 (nI ou)) 102 (nI op)) 111 (nI (tp - 1))) 115 (nI wn)) 116 (-1)) 117 (nI fu)) 118 rs0) 119 uc0) 125 nw) 126 isn) B x9 (B 55) ⟨hv2, hv3⟩) (gV pw_1995 pw_1996 pw_1997 pw_1523 pw_1994) hV_X12_classOf 0 9 rfl rfl rfl rfl (Nat.le_of_ble_eq_true rfl) dX12_goesOnIn_355 ⟨Nat.le_of_ble_eq_true rfl, Nat.le_of_ble_eq_true rfl⟩ ⟨Nat.le_of_ble_eq_true rfl, Nat.le_of_ble_eq_true rfl⟩ (fun v364 u362 H locs hw363 hP hD hS => ?_)
        obtain rfl : v364 = some (.int (clF (B 55) x9)) := hw363
        have hP : va_P G.1 pCl (mW G h0 a (upd (upd (upd (upd (upd (upd (upd (upd (upd (upd F 87 (nI ou)) 102 (nI op)) 111 (nI (tp - 1))) 115 (nI wn)) 116 (-1)) 117 (nI fu)) 118 rs0) 119 uc0) 125 nw) 126 isn) B) _ := mW_to (F := F) (l1 := [(87, (nI ou)), (102, (nI op)), (111, (nI (tp - 1))), (115, (nI wn)), (116, (-1)), (117, (nI fu)), (118, rs0), (119, uc0), (125, nw), (126, isn)]) (l2 := [(87, (nI ou)), (102, (nI op)), (111, (nI (tp - 1))), (115, (nI wn)), (116, (-1)), (117, (nI fu)), (118, rs0), (119, uc0), (125, nw), (126, isn)]) (V := [(nI ou), (nI op), (nI (tp - 1)), (nI wn), (-1), (nI fu), rs0, uc0, nw, isn, (nI ou), (nI op), (nI (tp - 1)), (nI wn), (-1), (nI fu), rs0, uc0, nw, isn]) rfl rfl (show (updA B 55 (B 55)) = B from updsA_eq2 (F := B) (l1 := [(55, (B 55))]) (l2 := []) (V := [(B 55)]) rfl rfl) hP
        have hD : va_D A (mW G h0 a (upd (upd (upd (upd (upd (upd (upd (upd (upd (upd F 87 (nI ou)) 102 (nI op)) 111 (nI (tp - 1))) 115 (nI wn)) 116 (-1)) 117 (nI fu)) 118 rs0) 119 uc0) 125 nw) 126 isn) B) := mW_D hD
        refine W.widen (k := 0) (n := 0) (Nat.le_of_ble_eq_true rfl) (Nat.le_of_ble_eq_true rfl) ?_
        refine W.eq (g2 := F0 m 358 ls [.int (clF (B 55) x9), .int (nI p9), .ref h0]) rfl ?_
        refine lv_iconst (v := (-1)) hx hb dX12_goesOnIn_358 (by decide) ?_
        refine lv_icmp_ne (tgt := 368) hx hb dX12_goesOnIn_359 (by decide) (fun c365 => ?_) (fun c365 => ?_)
        · obtain ⟨-, hv5⟩ := hv4.resolve_left c365
          refine lv_iload hx hb dX12_goesOnIn_368 (lv_at hl 0 rfl) ?_
          obtain ⟨-, hk9, -⟩ := hv5 0 0
          obtain ⟨-, ⟨xz, kc, hz1, hz2, hz3, hz4, hz5⟩, -⟩ := hk9.resolve_right (fun h => h.elim (fun h => absurd h.1 (by decide)) (fun h => h.1.elim (fun h => absurd h (by decide)) (fun h => absurd h (by decide))))
          have hxz : x9 = xz := by have z1 : x9 < 2147483648 := (by rcases hv3 with z | z <;> omega); have z2 : xz < 2147483648 := (by rcases hz3 with z | z <;> omega); exact (nI_eq (by omega) (by omega)).mp hz1
          subst hxz
          have hln := (hR.lnP hp hst hkd (by omega) (by omega)).1
          have hP : va_P G.1 pCl (mW G h0 a (upd (upd (upd (upd (upd (upd (upd (upd (upd (upd (upd (upd (upd (upd (upd (upd (upd (upd (upd F 87 (nI ou)) 102 (nI op)) 111 (nI (tp - 1))) 115 (nI wn)) 116 (-1)) 117 (nI fu)) 118 rs0) 119 uc0) 125 nw) 126 isn) 102 (nI op)) 111 (nI (tp - 1))) 115 (nI wn)) 116 (-1)) 117 (nI fu)) 118 rs0) 119 uc0) 125 nw) 126 isn) B) _ := hP
          have hD : va_D A (mW G h0 a (upd (upd (upd (upd (upd (upd (upd (upd (upd (upd (upd (upd (upd (upd (upd (upd (upd (upd (upd F 87 (nI ou)) 102 (nI op)) 111 (nI (tp - 1))) 115 (nI wn)) 116 (-1)) 117 (nI fu)) 118 rs0) 119 uc0) 125 nw) 126 isn) 102 (nI op)) 111 (nI (tp - 1))) 115 (nI wn)) 116 (-1)) 117 (nI fu)) 118 rs0) 119 uc0) 125 nw) 126 isn) B) := mW_D hD
          refine pc_V0 (G := G) (As := [.int (nI p9), .int (nI x9)]) (rest := []) hx hb hml hown hq hE hX pX0_al hP hD hS hA hl.1 (R_raises l G h0 a (upd (upd (upd (upd (upd (upd (upd (upd (upd (upd F 87 (nI ou)) 102 (nI op)) 111 (nI (tp - 1))) 115 (nI wn)) 116 (-1)) 117 (nI fu)) 118 rs0) 119 uc0) 125 nw) 126 isn) B Xs gh nd T nm wr lz dc fd md pr bk M rmm (Phi gh ps op (rkN gh n9 true)) op wn fu rd on idn fl ct p9 x9 kc mt ps (yyU yy (op - 1) u) bf wf (nI (tp - 1)) nw isn rs0 uc0 hln (by omega) hz2 hz3 hz4 hz5) (gV pw_2054 pw_2055 pw_2056 pw_1523 pw_2053) hV_X12_raises 0 9 rfl rfl rfl rfl (Nat.le_of_ble_eq_true rfl) dX12_goesOnIn_370 ⟨Nat.le_of_ble_eq_true rfl, Nat.le_of_ble_eq_true rfl⟩ ⟨Nat.le_of_ble_eq_true rfl, Nat.le_of_ble_eq_true rfl⟩ (fun v368 u366 H locs hw367 hP hD hS => ?_)
          obtain ⟨op369, tp370, wn371, fu372, en373, nw374, is375, rs376, uc377, X378⟩ := u366
          obtain ⟨hw367, h379⟩ := hw367
          replace h379 : Nx Xs X378 gh nd T nm wr lz dc fd md pr bk M rmm fu (Phi gh ps op (rkN gh n9 true)) op369 tp370 wn371 fu372 rd on idn fl ct en373 nw374 is375 uc377 := h379
          obtain rfl : v368 = none := hw367
          have hP : va_P G.1 pCl (mW G h0 a (upd (upd (upd (upd (upd (upd (upd (upd (upd (upd F 87 (nI ou)) 102 (nI op369)) 111 (nI tp370)) 115 (nI wn371)) 116 en373) 117 (nI fu372)) 118 rs376) 119 uc377) 125 nw374) 126 is375) X378) _ := mW_to (F := F) (l1 := [(87, (nI ou)), (102, (nI op)), (111, (nI (tp - 1))), (115, (nI wn)), (116, (-1)), (117, (nI fu)), (118, rs0), (119, uc0), (125, nw), (126, isn), (102, (nI op369)), (111, (nI tp370)), (115, (nI wn371)), (116, en373), (117, (nI fu372)), (118, rs376), (119, uc377), (125, nw374), (126, is375)]) (l2 := [(87, (nI ou)), (102, (nI op369)), (111, (nI tp370)), (115, (nI wn371)), (116, en373), (117, (nI fu372)), (118, rs376), (119, uc377), (125, nw374), (126, is375)]) (V := [(nI ou), (nI op369), (nI tp370), (nI wn371), en373, (nI fu372), rs376, uc377, nw374, is375, (nI op369), (nI tp370), (nI wn371), en373, (nI fu372), rs376, uc377, nw374, is375, (nI ou), (nI op369), (nI tp370), (nI wn371), en373, (nI fu372), rs376, uc377, nw374, is375]) rfl rfl rfl hP
          have hD : va_D A (mW G h0 a (upd (upd (upd (upd (upd (upd (upd (upd (upd (upd F 87 (nI ou)) 102 (nI op369)) 111 (nI tp370)) 115 (nI wn371)) 116 en373) 117 (nI fu372)) 118 rs376) 119 uc377) 125 nw374) 126 is375) X378) := mW_D hD
          refine W.widen (k := 0) (n := 0) (Nat.le_of_ble_eq_true rfl) (Nat.le_of_ble_eq_true rfl) ?_
          refine W.eq (g2 := F0 m 373 ls []) rfl ?_
          refine lv_goto (tgt := 452) hx hb dX12_goesOnIn_373 (by decide) ?_
          have hz380 : Nx Xs X378 gh nd T nm wr lz dc fd md pr bk M rmm fu (Phi gh ps op (rkN gh n9 true)) op369 tp370 wn371 fu372 rd on idn fl ct en373 nw374 is375 uc377 := h379
          have hz381 : ou ≤ 400 := (by omega)
          have hP : va_P G.1 pCl (mW G h0 a (upd (upd (upd (upd (upd (upd (upd (upd (upd (upd F 87 (nI ou)) 102 (nI op369)) 111 (nI tp370)) 115 (nI wn371)) 116 en373) 117 (nI fu372)) 118 rs376) 119 uc377) 125 nw374) 126 is375) X378) _ := hP
          have hD : va_D A (mW G h0 a (upd (upd (upd (upd (upd (upd (upd (upd (upd (upd F 87 (nI ou)) 102 (nI op369)) 111 (nI tp370)) 115 (nI wn371)) 116 en373) 117 (nI fu372)) 118 rs376) 119 uc377) 125 nw374) 126 is375) X378) := mW_D hD
          exact W.vret hx hb hr (fun t9 ht9 hW9 => ⟨⟨_, (op369, tp370, wn371, fu372, en373, nw374, is375, rs376, uc377, ou, X378), rfl, ⟨rfl, hz380, hz381⟩, by rw [ht9]; exact hP, hD⟩, hS.F ht9⟩) hS.2.2 dX12_goesOnIn_452
        · refine lv_sipush (v := 4002) hx hb dX12_goesOnIn_362 (by decide) ?_
          refine lv_goto (tgt := 370) hx hb dX12_goesOnIn_365 (by decide) ?_
          have hln382 := (Rn.lnP hR hp hst hkd (by omega) (by omega)).1
          have hP : va_P G.1 pCl (mW G h0 a (upd (upd (upd (upd (upd (upd (upd (upd (upd (upd (upd (upd (upd (upd (upd (upd (upd (upd (upd F 87 (nI ou)) 102 (nI op)) 111 (nI (tp - 1))) 115 (nI wn)) 116 (-1)) 117 (nI fu)) 118 rs0) 119 uc0) 125 nw) 126 isn) 102 (nI op)) 111 (nI (tp - 1))) 115 (nI wn)) 116 (-1)) 117 (nI fu)) 118 rs0) 119 uc0) 125 nw) 126 isn) B) _ := mW_to (F := F) (l1 := [(87, (nI ou)), (102, (nI op)), (111, (nI (tp - 1))), (115, (nI wn)), (116, (-1)), (117, (nI fu)), (118, rs0), (119, uc0), (125, nw), (126, isn)]) (l2 := [(87, (nI ou)), (102, (nI op)), (111, (nI (tp - 1))), (115, (nI wn)), (116, (-1)), (117, (nI fu)), (118, rs0), (119, uc0), (125, nw), (126, isn), (102, (nI op)), (111, (nI (tp - 1))), (115, (nI wn)), (116, (-1)), (117, (nI fu)), (118, rs0), (119, uc0), (125, nw), (126, isn)]) (V := [(nI ou), (nI op), (nI (tp - 1)), (nI wn), (-1), (nI fu), rs0, uc0, nw, isn, (nI ou), (nI op), (nI (tp - 1)), (nI wn), (-1), (nI fu), rs0, uc0, nw, isn, (nI op), (nI (tp - 1)), (nI wn), (-1), (nI fu), rs0, uc0, nw, isn]) rfl rfl rfl hP
          have hD : va_D A (mW G h0 a (upd (upd (upd (upd (upd (upd (upd (upd (upd (upd (upd (upd (upd (upd (upd (upd (upd (upd (upd F 87 (nI ou)) 102 (nI op)) 111 (nI (tp - 1))) 115 (nI wn)) 116 (-1)) 117 (nI fu)) 118 rs0) 119 uc0) 125 nw) 126 isn) 102 (nI op)) 111 (nI (tp - 1))) 115 (nI wn)) 116 (-1)) 117 (nI fu)) 118 rs0) 119 uc0) 125 nw) 126 isn) B) := mW_D hD
          refine pc_V0 (G := G) (As := [.int (nI p9), .int (nI 4002)]) (rest := []) hx hb hml hown hq hE hX pX0_al hP hD hS hA hl.1 (R_raises l G h0 a (upd (upd (upd (upd (upd (upd (upd (upd (upd (upd F 87 (nI ou)) 102 (nI op)) 111 (nI (tp - 1))) 115 (nI wn)) 116 (-1)) 117 (nI fu)) 118 rs0) 119 uc0) 125 nw) 126 isn) B Xs gh nd T nm wr lz dc fd md pr bk M rmm (Phi gh ps op (rkN gh n9 true)) op wn fu rd on idn fl ct p9 4002 (4002 - 4000) mt ps (yyU yy (op - 1) u) bf wf (nI (tp - 1)) nw isn rs0 uc0 hln382 (by omega) (by omega) (Or.inr (by omega)) (clF_1 (by omega)) (by omega)) (gV pw_2054 pw_2055 pw_2056 pw_1523 pw_2053) hV_X12_raises 0 9 rfl rfl rfl rfl (Nat.le_of_ble_eq_true rfl) dX12_goesOnIn_370 ⟨Nat.le_of_ble_eq_true rfl, Nat.le_of_ble_eq_true rfl⟩ ⟨Nat.le_of_ble_eq_true rfl, Nat.le_of_ble_eq_true rfl⟩ (fun v385 u383 H locs hw384 hP hD hS => ?_)
          obtain ⟨op386, tp387, wn388, fu389, en390, nw391, is392, rs393, uc394, X395⟩ := u383
          obtain ⟨hw384, h396⟩ := hw384
          replace h396 : Nx Xs X395 gh nd T nm wr lz dc fd md pr bk M rmm fu (Phi gh ps op (rkN gh n9 true)) op386 tp387 wn388 fu389 rd on idn fl ct en390 nw391 is392 uc394 := h396
          obtain rfl : v385 = none := hw384
          have hP : va_P G.1 pCl (mW G h0 a (upd (upd (upd (upd (upd (upd (upd (upd (upd (upd F 87 (nI ou)) 102 (nI op386)) 111 (nI tp387)) 115 (nI wn388)) 116 en390) 117 (nI fu389)) 118 rs393) 119 uc394) 125 nw391) 126 is392) X395) _ := mW_to (F := F) (l1 := [(87, (nI ou)), (102, (nI op)), (111, (nI (tp - 1))), (115, (nI wn)), (116, (-1)), (117, (nI fu)), (118, rs0), (119, uc0), (125, nw), (126, isn), (102, (nI op386)), (111, (nI tp387)), (115, (nI wn388)), (116, en390), (117, (nI fu389)), (118, rs393), (119, uc394), (125, nw391), (126, is392)]) (l2 := [(87, (nI ou)), (102, (nI op386)), (111, (nI tp387)), (115, (nI wn388)), (116, en390), (117, (nI fu389)), (118, rs393), (119, uc394), (125, nw391), (126, is392)]) (V := [(nI ou), (nI op386), (nI tp387), (nI wn388), en390, (nI fu389), rs393, uc394, nw391, is392, (nI op386), (nI tp387), (nI wn388), en390, (nI fu389), rs393, uc394, nw391, is392, (nI ou), (nI op386), (nI tp387), (nI wn388), en390, (nI fu389), rs393, uc394, nw391, is392]) rfl rfl rfl hP
          have hD : va_D A (mW G h0 a (upd (upd (upd (upd (upd (upd (upd (upd (upd (upd F 87 (nI ou)) 102 (nI op386)) 111 (nI tp387)) 115 (nI wn388)) 116 en390) 117 (nI fu389)) 118 rs393) 119 uc394) 125 nw391) 126 is392) X395) := mW_D hD
          refine W.widen (k := 0) (n := 0) (Nat.le_of_ble_eq_true rfl) (Nat.le_of_ble_eq_true rfl) ?_
          refine W.eq (g2 := F0 m 373 ls []) rfl ?_
          refine lv_goto (tgt := 452) hx hb dX12_goesOnIn_373 (by decide) ?_
          have hz397 : Nx Xs X395 gh nd T nm wr lz dc fd md pr bk M rmm fu (Phi gh ps op (rkN gh n9 true)) op386 tp387 wn388 fu389 rd on idn fl ct en390 nw391 is392 uc394 := h396
          have hz398 : ou ≤ 400 := (by omega)
          have hP : va_P G.1 pCl (mW G h0 a (upd (upd (upd (upd (upd (upd (upd (upd (upd (upd F 87 (nI ou)) 102 (nI op386)) 111 (nI tp387)) 115 (nI wn388)) 116 en390) 117 (nI fu389)) 118 rs393) 119 uc394) 125 nw391) 126 is392) X395) _ := hP
          have hD : va_D A (mW G h0 a (upd (upd (upd (upd (upd (upd (upd (upd (upd (upd F 87 (nI ou)) 102 (nI op386)) 111 (nI tp387)) 115 (nI wn388)) 116 en390) 117 (nI fu389)) 118 rs393) 119 uc394) 125 nw391) 126 is392) X395) := mW_D hD
          exact W.vret hx hb hr (fun t9 ht9 hW9 => ⟨⟨_, (op386, tp387, wn388, fu389, en390, nw391, is392, rs393, uc394, ou, X395), rfl, ⟨rfl, hz397, hz398⟩, by rw [ht9]; exact hP, hD⟩, hS.F ht9⟩) hS.2.2 dX12_goesOnIn_452
    · refine lv_iload_n hx hb dX12_goesOnIn_0 rfl (lv_at hl 2 rfl) ?_
      refine lv_aload_n hx hb dX12_goesOnIn_1 rfl (lv_at hl 0 rfl) ?_
      refine r_get (v := .ref (a 12)) hx hb hown hq hE hP 20 47 tFX12_20 (by decide) pw_1442 rfl dX12_goesOnIn_2 ?_
      refine lv_iload_n hx hb dX12_goesOnIn_5 rfl (lv_at hl 1 rfl) ?_
      refine r_ldi (f := (B 12)) (j := p9) hx hb hE hP 12 (ma_12 G a _) rfl (by omega) (by decide) dX12_goesOnIn_6 ?_
      refine lv_icmp_ne (tgt := 14) hx hb dX12_goesOnIn_7 (by decide) (fun c399 => ?_) (fun c399 => absurd ((congrFun hw12 _).symm.trans c399.symm) hfi)
      refine lv_iconst (v := 0) hx hb dX12_goesOnIn_14 (by decide) ?_
      refine lv_istore_n (lv' := [(3, .int 0), (0, .ref h0), (1, .int (nI p9)), (2, .int (nI n9))]) hx hb dX12_goesOnIn_15 rfl hl (by decide) rfl (fun ls hl => ?_)
      refine lv_aload_n hx hb dX12_goesOnIn_16 rfl (lv_at hl 1 rfl) ?_
      refine r_get (v := .ref (a 9)) hx hb hown hq hE hP 17 38 tFX12_17 (by decide) pw_1439 rfl dX12_goesOnIn_17 ?_
      refine lv_iload_n hx hb dX12_goesOnIn_20 rfl (lv_at hl 2 rfl) ?_
      refine r_ldi (f := (B 9)) (j := p9) hx hb hE hP 9 (ma_9 G a _) rfl (by omega) (by decide) dX12_goesOnIn_21 ?_
      refine lv_topi (fun x400 e401 => ?_)
      obtain rfl : x400 = 40 := e401.trans ((congrFun hw9 _).trans hkd)
      refine lv_tableIn (tgt := 333) (off := 311) hx hb dX12_goesOnIn_22 (by decide) (by decide) (by decide) (by decide) ?_
      obtain ⟨ht1, hm6⟩ := hR.g40 hp hst hkd
      refine lv_aload_n hx hb dX12_goesOnIn_333 rfl (lv_at hl 1 rfl) ?_
      have hP : va_P G.1 pCl (mW G h0 a (upd (upd (upd (upd (upd (upd (upd (upd (upd (upd (upd F 87 (nI ou)) 102 (nI op)) 111 (nI tp)) 115 (nI wn)) 116 (-1)) 117 (nI fu)) 118 rs0) 119 uc0) 125 nw) 126 isn) 111 (nI tp)) (updA B 68 (B 68))) _ := hP
      have hD : va_D A (mW G h0 a (upd (upd (upd (upd (upd (upd (upd (upd (upd (upd (upd F 87 (nI ou)) 102 (nI op)) 111 (nI tp)) 115 (nI wn)) 116 (-1)) 117 (nI fu)) 118 rs0) 119 uc0) 125 nw) 126 isn) 111 (nI tp)) (updA B 68 (B 68))) := mW_D hD
      refine pc_V0 (G := G) (As := []) (rest := []) hx hb hml hown hq hE hX pX0_al hP hD hS hA hl.1 (R_pop l G h0 a (upd (upd (upd (upd (upd (upd (upd (upd (upd (upd F 87 (nI ou)) 102 (nI op)) 111 (nI tp)) 115 (nI wn)) 116 (-1)) 117 (nI fu)) 118 rs0) 119 uc0) 125 nw) 126 isn) B tp (B 68) (by omega)) (gV pw_2082 pw_2083 pw_2084 pw_1523 pw_1965) hV_X12_pop 0 9 rfl rfl rfl rfl (Nat.le_of_ble_eq_true rfl) dX12_goesOnIn_334 ⟨Nat.le_of_ble_eq_true rfl, Nat.le_of_ble_eq_true rfl⟩ ⟨Nat.le_of_ble_eq_true rfl, Nat.le_of_ble_eq_true rfl⟩ (fun v404 u402 H locs hw403 hP hD hS => ?_)
      obtain rfl : v404 = some (.int ((B 68) (tp - 1))) := hw403
      have hP : va_P G.1 pCl (mW G h0 a (upd (upd (upd (upd (upd (upd (upd (upd (upd (upd F 87 (nI ou)) 102 (nI op)) 111 (nI (tp - 1))) 115 (nI wn)) 116 (-1)) 117 (nI fu)) 118 rs0) 119 uc0) 125 nw) 126 isn) B) _ := mW_to (F := F) (l1 := [(87, (nI ou)), (102, (nI op)), (111, (nI tp)), (115, (nI wn)), (116, (-1)), (117, (nI fu)), (118, rs0), (119, uc0), (125, nw), (126, isn), (111, (nI (tp - 1)))]) (l2 := [(87, (nI ou)), (102, (nI op)), (111, (nI (tp - 1))), (115, (nI wn)), (116, (-1)), (117, (nI fu)), (118, rs0), (119, uc0), (125, nw), (126, isn)]) (V := [(nI ou), (nI op), (nI (tp - 1)), (nI wn), (-1), (nI fu), rs0, uc0, nw, isn, (nI (tp - 1)), (nI ou), (nI op), (nI (tp - 1)), (nI wn), (-1), (nI fu), rs0, uc0, nw, isn]) rfl rfl (show (updA B 68 (B 68)) = B from updsA_eq2 (F := B) (l1 := [(68, (B 68))]) (l2 := []) (V := [(B 68)]) rfl rfl) hP
      have hD : va_D A (mW G h0 a (upd (upd (upd (upd (upd (upd (upd (upd (upd (upd F 87 (nI ou)) 102 (nI op)) 111 (nI (tp - 1))) 115 (nI wn)) 116 (-1)) 117 (nI fu)) 118 rs0) 119 uc0) 125 nw) 126 isn) B) := mW_D hD
      refine W.widen (k := 0) (n := 0) (Nat.le_of_ble_eq_true rfl) (Nat.le_of_ble_eq_true rfl) ?_
      refine W.eq (g2 := F0 m 337 ls [.int ((B 68) (tp - 1))]) rfl ?_
      rcases hm6 with hz | ⟨x9, hv1, hv2, hv3, hv4⟩
      · refine lv_topi (fun x405 e406 => ?_)
        obtain rfl : x405 = 0 := e406.trans hz
        refine lv_istore (lv' := [(4, .int 0), (3, .int 0), (0, .ref h0), (1, .int (nI p9)), (2, .int (nI n9))]) hx hb dX12_goesOnIn_337 hl (by decide) rfl (fun ls hl => ?_)
        refine lv_aload_n hx hb dX12_goesOnIn_339 rfl (lv_at hl 2 rfl) ?_
        refine lv_iload_n hx hb dX12_goesOnIn_340 rfl (lv_at hl 3 rfl) ?_
        refine lv_iload hx hb dX12_goesOnIn_341 (lv_at hl 0 rfl) ?_
        refine lv_if_ne (tgt := 352) hx hb dX12_goesOnIn_343 (by decide) (fun c407 => absurd c407 (by decide)) (fun c407 => ?_)
        refine lv_sipush (v := 4001) hx hb dX12_goesOnIn_346 (by decide) ?_
        refine lv_goto (tgt := 370) hx hb dX12_goesOnIn_349 (by decide) ?_
        have hln408 := (Rn.lnP hR hp hst hkd (by omega) (by omega)).1
        have hP : va_P G.1 pCl (mW G h0 a (upd (upd (upd (upd (upd (upd (upd (upd (upd (upd (upd (upd (upd (upd (upd (upd (upd (upd (upd F 87 (nI ou)) 102 (nI op)) 111 (nI (tp - 1))) 115 (nI wn)) 116 (-1)) 117 (nI fu)) 118 rs0) 119 uc0) 125 nw) 126 isn) 102 (nI op)) 111 (nI (tp - 1))) 115 (nI wn)) 116 (-1)) 117 (nI fu)) 118 rs0) 119 uc0) 125 nw) 126 isn) B) _ := mW_to (F := F) (l1 := [(87, (nI ou)), (102, (nI op)), (111, (nI (tp - 1))), (115, (nI wn)), (116, (-1)), (117, (nI fu)), (118, rs0), (119, uc0), (125, nw), (126, isn)]) (l2 := [(87, (nI ou)), (102, (nI op)), (111, (nI (tp - 1))), (115, (nI wn)), (116, (-1)), (117, (nI fu)), (118, rs0), (119, uc0), (125, nw), (126, isn), (102, (nI op)), (111, (nI (tp - 1))), (115, (nI wn)), (116, (-1)), (117, (nI fu)), (118, rs0), (119, uc0), (125, nw), (126, isn)]) (V := [(nI ou), (nI op), (nI (tp - 1)), (nI wn), (-1), (nI fu), rs0, uc0, nw, isn, (nI ou), (nI op), (nI (tp - 1)), (nI wn), (-1), (nI fu), rs0, uc0, nw, isn, (nI op), (nI (tp - 1)), (nI wn), (-1), (nI fu), rs0, uc0, nw, isn]) rfl rfl rfl hP
        have hD : va_D A (mW G h0 a (upd (upd (upd (upd (upd (upd (upd (upd (upd (upd (upd (upd (upd (upd (upd (upd (upd (upd (upd F 87 (nI ou)) 102 (nI op)) 111 (nI (tp - 1))) 115 (nI wn)) 116 (-1)) 117 (nI fu)) 118 rs0) 119 uc0) 125 nw) 126 isn) 102 (nI op)) 111 (nI (tp - 1))) 115 (nI wn)) 116 (-1)) 117 (nI fu)) 118 rs0) 119 uc0) 125 nw) 126 isn) B) := mW_D hD
        refine pc_V0 (G := G) (As := [.int (nI p9), .int (nI 4001)]) (rest := []) hx hb hml hown hq hE hX pX0_al hP hD hS hA hl.1 (R_raises l G h0 a (upd (upd (upd (upd (upd (upd (upd (upd (upd (upd F 87 (nI ou)) 102 (nI op)) 111 (nI (tp - 1))) 115 (nI wn)) 116 (-1)) 117 (nI fu)) 118 rs0) 119 uc0) 125 nw) 126 isn) B Xs gh nd T nm wr lz dc fd md pr bk M rmm (Phi gh ps op (rkN gh n9 true)) op wn fu rd on idn fl ct p9 4001 (4001 - 4000) mt ps (yyU yy (op - 1) u) bf wf (nI (tp - 1)) nw isn rs0 uc0 hln408 (by omega) (by omega) (Or.inr (by omega)) (clF_1 (by omega)) (by omega)) (gV pw_2054 pw_2055 pw_2056 pw_1523 pw_2053) hV_X12_raises 0 9 rfl rfl rfl rfl (Nat.le_of_ble_eq_true rfl) dX12_goesOnIn_370 ⟨Nat.le_of_ble_eq_true rfl, Nat.le_of_ble_eq_true rfl⟩ ⟨Nat.le_of_ble_eq_true rfl, Nat.le_of_ble_eq_true rfl⟩ (fun v411 u409 H locs hw410 hP hD hS => ?_)
        obtain ⟨op412, tp413, wn414, fu415, en416, nw417, is418, rs419, uc420, X421⟩ := u409
        obtain ⟨hw410, h422⟩ := hw410
        replace h422 : Nx Xs X421 gh nd T nm wr lz dc fd md pr bk M rmm fu (Phi gh ps op (rkN gh n9 true)) op412 tp413 wn414 fu415 rd on idn fl ct en416 nw417 is418 uc420 := h422
        obtain rfl : v411 = none := hw410
        have hP : va_P G.1 pCl (mW G h0 a (upd (upd (upd (upd (upd (upd (upd (upd (upd (upd F 87 (nI ou)) 102 (nI op412)) 111 (nI tp413)) 115 (nI wn414)) 116 en416) 117 (nI fu415)) 118 rs419) 119 uc420) 125 nw417) 126 is418) X421) _ := mW_to (F := F) (l1 := [(87, (nI ou)), (102, (nI op)), (111, (nI (tp - 1))), (115, (nI wn)), (116, (-1)), (117, (nI fu)), (118, rs0), (119, uc0), (125, nw), (126, isn), (102, (nI op412)), (111, (nI tp413)), (115, (nI wn414)), (116, en416), (117, (nI fu415)), (118, rs419), (119, uc420), (125, nw417), (126, is418)]) (l2 := [(87, (nI ou)), (102, (nI op412)), (111, (nI tp413)), (115, (nI wn414)), (116, en416), (117, (nI fu415)), (118, rs419), (119, uc420), (125, nw417), (126, is418)]) (V := [(nI ou), (nI op412), (nI tp413), (nI wn414), en416, (nI fu415), rs419, uc420, nw417, is418, (nI op412), (nI tp413), (nI wn414), en416, (nI fu415), rs419, uc420, nw417, is418, (nI ou), (nI op412), (nI tp413), (nI wn414), en416, (nI fu415), rs419, uc420, nw417, is418]) rfl rfl rfl hP
        have hD : va_D A (mW G h0 a (upd (upd (upd (upd (upd (upd (upd (upd (upd (upd F 87 (nI ou)) 102 (nI op412)) 111 (nI tp413)) 115 (nI wn414)) 116 en416) 117 (nI fu415)) 118 rs419) 119 uc420) 125 nw417) 126 is418) X421) := mW_D hD
        refine W.widen (k := 0) (n := 0) (Nat.le_of_ble_eq_true rfl) (Nat.le_of_ble_eq_true rfl) ?_
        refine W.eq (g2 := F0 m 373 ls []) rfl ?_
        refine lv_goto (tgt := 452) hx hb dX12_goesOnIn_373 (by decide) ?_
        have hz423 : Nx Xs X421 gh nd T nm wr lz dc fd md pr bk M rmm fu (Phi gh ps op (rkN gh n9 true)) op412 tp413 wn414 fu415 rd on idn fl ct en416 nw417 is418 uc420 := h422
        have hz424 : ou ≤ 400 := (by omega)
        have hP : va_P G.1 pCl (mW G h0 a (upd (upd (upd (upd (upd (upd (upd (upd (upd (upd F 87 (nI ou)) 102 (nI op412)) 111 (nI tp413)) 115 (nI wn414)) 116 en416) 117 (nI fu415)) 118 rs419) 119 uc420) 125 nw417) 126 is418) X421) _ := hP
        have hD : va_D A (mW G h0 a (upd (upd (upd (upd (upd (upd (upd (upd (upd (upd F 87 (nI ou)) 102 (nI op412)) 111 (nI tp413)) 115 (nI wn414)) 116 en416) 117 (nI fu415)) 118 rs419) 119 uc420) 125 nw417) 126 is418) X421) := mW_D hD
        exact W.vret hx hb hr (fun t9 ht9 hW9 => ⟨⟨_, (op412, tp413, wn414, fu415, en416, nw417, is418, rs419, uc420, ou, X421), rfl, ⟨rfl, hz423, hz424⟩, by rw [ht9]; exact hP, hD⟩, hS.F ht9⟩) hS.2.2 dX12_goesOnIn_452
      · refine lv_topi (fun x425 e426 => ?_)
        obtain rfl : x425 = nI x9 := e426.trans hv1
        refine lv_istore (lv' := [(4, .int (nI x9)), (3, .int 0), (0, .ref h0), (1, .int (nI p9)), (2, .int (nI n9))]) hx hb dX12_goesOnIn_337 hl (by decide) rfl (fun ls hl => ?_)
        refine lv_aload_n hx hb dX12_goesOnIn_339 rfl (lv_at hl 2 rfl) ?_
        refine lv_iload_n hx hb dX12_goesOnIn_340 rfl (lv_at hl 3 rfl) ?_
        refine lv_iload hx hb dX12_goesOnIn_341 (lv_at hl 0 rfl) ?_
        refine lv_if_ne (tgt := 352) hx hb dX12_goesOnIn_343 (by decide) (fun c427 => ?_) (fun c427 => (by have n428 : x9 = 0 := (nI_eq (a := x9) (b := 0) (by omega) (by omega)).mp c427; omega))
        refine lv_aload_n hx hb dX12_goesOnIn_352 rfl (lv_at hl 2 rfl) ?_
        refine lv_iload hx hb dX12_goesOnIn_353 (lv_at hl 0 rfl) ?_
        have hP : va_P G.1 pCl (mW G h0 a (upd (upd (upd (upd (upd (upd (upd (upd (upd (upd F 87 (nI ou)) 102 (nI op)) 111 (nI (tp - 1))) 115 (nI wn)) 116 (-1)) 117 (nI fu)) 118 rs0) 119 uc0) 125 nw) 126 isn) (updA B 55 (B 55))) _ := mW_to (F := F) (l1 := [(87, (nI ou)), (102, (nI op)), (111, (nI (tp - 1))), (115, (nI wn)), (116, (-1)), (117, (nI fu)), (118, rs0), (119, uc0), (125, nw), (126, isn)]) (l2 := [(87, (nI ou)), (102, (nI op)), (111, (nI (tp - 1))), (115, (nI wn)), (116, (-1)), (117, (nI fu)), (118, rs0), (119, uc0), (125, nw), (126, isn)]) (V := [(nI ou), (nI op), (nI (tp - 1)), (nI wn), (-1), (nI fu), rs0, uc0, nw, isn, (nI ou), (nI op), (nI (tp - 1)), (nI wn), (-1), (nI fu), rs0, uc0, nw, isn]) rfl rfl (show B = (updA B 55 (B 55)) from updsA_eq2 (F := B) (l1 := []) (l2 := [(55, (B 55))]) (V := [(B 55)]) rfl rfl) hP
        have hD : va_D A (mW G h0 a (upd (upd (upd (upd (upd (upd (upd (upd (upd (upd F 87 (nI ou)) 102 (nI op)) 111 (nI (tp - 1))) 115 (nI wn)) 116 (-1)) 117 (nI fu)) 118 rs0) 119 uc0) 125 nw) 126 isn) (updA B 55 (B 55))) := mW_D hD
        refine pc_V0 (G := G) (As := [.int (nI x9)]) (rest := [.int (nI p9), .ref h0]) hx hb hml hown hq hE hX pX0_al hP hD hS hA hl.1 (R_classOf l G h0 a (upd (upd (upd (upd (upd (upd (upd (upd (upd (upd F 87 (nI ou)) 102 (nI op)) 111 (nI (tp - 1))) 115 (nI wn)) 116 (-1)) 117 (nI fu)) 118 rs0) 119 uc0) 125 nw) 126 isn) B x9 (B 55) ⟨hv2, hv3⟩) (gV pw_1995 pw_1996 pw_1997 pw_1523 pw_1994) hV_X12_classOf 0 9 rfl rfl rfl rfl (Nat.le_of_ble_eq_true rfl) dX12_goesOnIn_355 ⟨Nat.le_of_ble_eq_true rfl, Nat.le_of_ble_eq_true rfl⟩ ⟨Nat.le_of_ble_eq_true rfl, Nat.le_of_ble_eq_true rfl⟩ (fun v431 u429 H locs hw430 hP hD hS => ?_)
        obtain rfl : v431 = some (.int (clF (B 55) x9)) := hw430
        have hP : va_P G.1 pCl (mW G h0 a (upd (upd (upd (upd (upd (upd (upd (upd (upd (upd F 87 (nI ou)) 102 (nI op)) 111 (nI (tp - 1))) 115 (nI wn)) 116 (-1)) 117 (nI fu)) 118 rs0) 119 uc0) 125 nw) 126 isn) B) _ := mW_to (F := F) (l1 := [(87, (nI ou)), (102, (nI op)), (111, (nI (tp - 1))), (115, (nI wn)), (116, (-1)), (117, (nI fu)), (118, rs0), (119, uc0), (125, nw), (126, isn)]) (l2 := [(87, (nI ou)), (102, (nI op)), (111, (nI (tp - 1))), (115, (nI wn)), (116, (-1)), (117, (nI fu)), (118, rs0), (119, uc0), (125, nw), (126, isn)]) (V := [(nI ou), (nI op), (nI (tp - 1)), (nI wn), (-1), (nI fu), rs0, uc0, nw, isn, (nI ou), (nI op), (nI (tp - 1)), (nI wn), (-1), (nI fu), rs0, uc0, nw, isn]) rfl rfl (show (updA B 55 (B 55)) = B from updsA_eq2 (F := B) (l1 := [(55, (B 55))]) (l2 := []) (V := [(B 55)]) rfl rfl) hP
        have hD : va_D A (mW G h0 a (upd (upd (upd (upd (upd (upd (upd (upd (upd (upd F 87 (nI ou)) 102 (nI op)) 111 (nI (tp - 1))) 115 (nI wn)) 116 (-1)) 117 (nI fu)) 118 rs0) 119 uc0) 125 nw) 126 isn) B) := mW_D hD
        refine W.widen (k := 0) (n := 0) (Nat.le_of_ble_eq_true rfl) (Nat.le_of_ble_eq_true rfl) ?_
        refine W.eq (g2 := F0 m 358 ls [.int (clF (B 55) x9), .int (nI p9), .ref h0]) rfl ?_
        refine lv_iconst (v := (-1)) hx hb dX12_goesOnIn_358 (by decide) ?_
        refine lv_icmp_ne (tgt := 368) hx hb dX12_goesOnIn_359 (by decide) (fun c432 => ?_) (fun c432 => ?_)
        · obtain ⟨-, hv5⟩ := hv4.resolve_left c432
          refine lv_iload hx hb dX12_goesOnIn_368 (lv_at hl 0 rfl) ?_
          obtain ⟨-, hk9, -⟩ := hv5 0 0
          obtain ⟨-, ⟨xz, kc, hz1, hz2, hz3, hz4, hz5⟩, -⟩ := hk9.resolve_right (fun h => h.elim (fun h => absurd h.1 (by decide)) (fun h => h.1.elim (fun h => absurd h (by decide)) (fun h => absurd h (by decide))))
          have hxz : x9 = xz := by have z1 : x9 < 2147483648 := (by rcases hv3 with z | z <;> omega); have z2 : xz < 2147483648 := (by rcases hz3 with z | z <;> omega); exact (nI_eq (by omega) (by omega)).mp hz1
          subst hxz
          have hln := (hR.lnP hp hst hkd (by omega) (by omega)).1
          have hP : va_P G.1 pCl (mW G h0 a (upd (upd (upd (upd (upd (upd (upd (upd (upd (upd (upd (upd (upd (upd (upd (upd (upd (upd (upd F 87 (nI ou)) 102 (nI op)) 111 (nI (tp - 1))) 115 (nI wn)) 116 (-1)) 117 (nI fu)) 118 rs0) 119 uc0) 125 nw) 126 isn) 102 (nI op)) 111 (nI (tp - 1))) 115 (nI wn)) 116 (-1)) 117 (nI fu)) 118 rs0) 119 uc0) 125 nw) 126 isn) B) _ := hP
          have hD : va_D A (mW G h0 a (upd (upd (upd (upd (upd (upd (upd (upd (upd (upd (upd (upd (upd (upd (upd (upd (upd (upd (upd F 87 (nI ou)) 102 (nI op)) 111 (nI (tp - 1))) 115 (nI wn)) 116 (-1)) 117 (nI fu)) 118 rs0) 119 uc0) 125 nw) 126 isn) 102 (nI op)) 111 (nI (tp - 1))) 115 (nI wn)) 116 (-1)) 117 (nI fu)) 118 rs0) 119 uc0) 125 nw) 126 isn) B) := mW_D hD
          refine pc_V0 (G := G) (As := [.int (nI p9), .int (nI x9)]) (rest := []) hx hb hml hown hq hE hX pX0_al hP hD hS hA hl.1 (R_raises l G h0 a (upd (upd (upd (upd (upd (upd (upd (upd (upd (upd F 87 (nI ou)) 102 (nI op)) 111 (nI (tp - 1))) 115 (nI wn)) 116 (-1)) 117 (nI fu)) 118 rs0) 119 uc0) 125 nw) 126 isn) B Xs gh nd T nm wr lz dc fd md pr bk M rmm (Phi gh ps op (rkN gh n9 true)) op wn fu rd on idn fl ct p9 x9 kc mt ps (yyU yy (op - 1) u) bf wf (nI (tp - 1)) nw isn rs0 uc0 hln (by omega) hz2 hz3 hz4 hz5) (gV pw_2054 pw_2055 pw_2056 pw_1523 pw_2053) hV_X12_raises 0 9 rfl rfl rfl rfl (Nat.le_of_ble_eq_true rfl) dX12_goesOnIn_370 ⟨Nat.le_of_ble_eq_true rfl, Nat.le_of_ble_eq_true rfl⟩ ⟨Nat.le_of_ble_eq_true rfl, Nat.le_of_ble_eq_true rfl⟩ (fun v435 u433 H locs hw434 hP hD hS => ?_)
          obtain ⟨op436, tp437, wn438, fu439, en440, nw441, is442, rs443, uc444, X445⟩ := u433
          obtain ⟨hw434, h446⟩ := hw434
          replace h446 : Nx Xs X445 gh nd T nm wr lz dc fd md pr bk M rmm fu (Phi gh ps op (rkN gh n9 true)) op436 tp437 wn438 fu439 rd on idn fl ct en440 nw441 is442 uc444 := h446
          obtain rfl : v435 = none := hw434
          have hP : va_P G.1 pCl (mW G h0 a (upd (upd (upd (upd (upd (upd (upd (upd (upd (upd F 87 (nI ou)) 102 (nI op436)) 111 (nI tp437)) 115 (nI wn438)) 116 en440) 117 (nI fu439)) 118 rs443) 119 uc444) 125 nw441) 126 is442) X445) _ := mW_to (F := F) (l1 := [(87, (nI ou)), (102, (nI op)), (111, (nI (tp - 1))), (115, (nI wn)), (116, (-1)), (117, (nI fu)), (118, rs0), (119, uc0), (125, nw), (126, isn), (102, (nI op436)), (111, (nI tp437)), (115, (nI wn438)), (116, en440), (117, (nI fu439)), (118, rs443), (119, uc444), (125, nw441), (126, is442)]) (l2 := [(87, (nI ou)), (102, (nI op436)), (111, (nI tp437)), (115, (nI wn438)), (116, en440), (117, (nI fu439)), (118, rs443), (119, uc444), (125, nw441), (126, is442)]) (V := [(nI ou), (nI op436), (nI tp437), (nI wn438), en440, (nI fu439), rs443, uc444, nw441, is442, (nI op436), (nI tp437), (nI wn438), en440, (nI fu439), rs443, uc444, nw441, is442, (nI ou), (nI op436), (nI tp437), (nI wn438), en440, (nI fu439), rs443, uc444, nw441, is442]) rfl rfl rfl hP
          have hD : va_D A (mW G h0 a (upd (upd (upd (upd (upd (upd (upd (upd (upd (upd F 87 (nI ou)) 102 (nI op436)) 111 (nI tp437)) 115 (nI wn438)) 116 en440) 117 (nI fu439)) 118 rs443) 119 uc444) 125 nw441) 126 is442) X445) := mW_D hD
          refine W.widen (k := 0) (n := 0) (Nat.le_of_ble_eq_true rfl) (Nat.le_of_ble_eq_true rfl) ?_
          refine W.eq (g2 := F0 m 373 ls []) rfl ?_
          refine lv_goto (tgt := 452) hx hb dX12_goesOnIn_373 (by decide) ?_
          have hz447 : Nx Xs X445 gh nd T nm wr lz dc fd md pr bk M rmm fu (Phi gh ps op (rkN gh n9 true)) op436 tp437 wn438 fu439 rd on idn fl ct en440 nw441 is442 uc444 := h446
          have hz448 : ou ≤ 400 := (by omega)
          have hP : va_P G.1 pCl (mW G h0 a (upd (upd (upd (upd (upd (upd (upd (upd (upd (upd F 87 (nI ou)) 102 (nI op436)) 111 (nI tp437)) 115 (nI wn438)) 116 en440) 117 (nI fu439)) 118 rs443) 119 uc444) 125 nw441) 126 is442) X445) _ := hP
          have hD : va_D A (mW G h0 a (upd (upd (upd (upd (upd (upd (upd (upd (upd (upd F 87 (nI ou)) 102 (nI op436)) 111 (nI tp437)) 115 (nI wn438)) 116 en440) 117 (nI fu439)) 118 rs443) 119 uc444) 125 nw441) 126 is442) X445) := mW_D hD
          exact W.vret hx hb hr (fun t9 ht9 hW9 => ⟨⟨_, (op436, tp437, wn438, fu439, en440, nw441, is442, rs443, uc444, ou, X445), rfl, ⟨rfl, hz447, hz448⟩, by rw [ht9]; exact hP, hD⟩, hS.F ht9⟩) hS.2.2 dX12_goesOnIn_452
        · refine lv_sipush (v := 4002) hx hb dX12_goesOnIn_362 (by decide) ?_
          refine lv_goto (tgt := 370) hx hb dX12_goesOnIn_365 (by decide) ?_
          have hln449 := (Rn.lnP hR hp hst hkd (by omega) (by omega)).1
          have hP : va_P G.1 pCl (mW G h0 a (upd (upd (upd (upd (upd (upd (upd (upd (upd (upd (upd (upd (upd (upd (upd (upd (upd (upd (upd F 87 (nI ou)) 102 (nI op)) 111 (nI (tp - 1))) 115 (nI wn)) 116 (-1)) 117 (nI fu)) 118 rs0) 119 uc0) 125 nw) 126 isn) 102 (nI op)) 111 (nI (tp - 1))) 115 (nI wn)) 116 (-1)) 117 (nI fu)) 118 rs0) 119 uc0) 125 nw) 126 isn) B) _ := mW_to (F := F) (l1 := [(87, (nI ou)), (102, (nI op)), (111, (nI (tp - 1))), (115, (nI wn)), (116, (-1)), (117, (nI fu)), (118, rs0), (119, uc0), (125, nw), (126, isn)]) (l2 := [(87, (nI ou)), (102, (nI op)), (111, (nI (tp - 1))), (115, (nI wn)), (116, (-1)), (117, (nI fu)), (118, rs0), (119, uc0), (125, nw), (126, isn), (102, (nI op)), (111, (nI (tp - 1))), (115, (nI wn)), (116, (-1)), (117, (nI fu)), (118, rs0), (119, uc0), (125, nw), (126, isn)]) (V := [(nI ou), (nI op), (nI (tp - 1)), (nI wn), (-1), (nI fu), rs0, uc0, nw, isn, (nI ou), (nI op), (nI (tp - 1)), (nI wn), (-1), (nI fu), rs0, uc0, nw, isn, (nI op), (nI (tp - 1)), (nI wn), (-1), (nI fu), rs0, uc0, nw, isn]) rfl rfl rfl hP
          have hD : va_D A (mW G h0 a (upd (upd (upd (upd (upd (upd (upd (upd (upd (upd (upd (upd (upd (upd (upd (upd (upd (upd (upd F 87 (nI ou)) 102 (nI op)) 111 (nI (tp - 1))) 115 (nI wn)) 116 (-1)) 117 (nI fu)) 118 rs0) 119 uc0) 125 nw) 126 isn) 102 (nI op)) 111 (nI (tp - 1))) 115 (nI wn)) 116 (-1)) 117 (nI fu)) 118 rs0) 119 uc0) 125 nw) 126 isn) B) := mW_D hD
          refine pc_V0 (G := G) (As := [.int (nI p9), .int (nI 4002)]) (rest := []) hx hb hml hown hq hE hX pX0_al hP hD hS hA hl.1 (R_raises l G h0 a (upd (upd (upd (upd (upd (upd (upd (upd (upd (upd F 87 (nI ou)) 102 (nI op)) 111 (nI (tp - 1))) 115 (nI wn)) 116 (-1)) 117 (nI fu)) 118 rs0) 119 uc0) 125 nw) 126 isn) B Xs gh nd T nm wr lz dc fd md pr bk M rmm (Phi gh ps op (rkN gh n9 true)) op wn fu rd on idn fl ct p9 4002 (4002 - 4000) mt ps (yyU yy (op - 1) u) bf wf (nI (tp - 1)) nw isn rs0 uc0 hln449 (by omega) (by omega) (Or.inr (by omega)) (clF_1 (by omega)) (by omega)) (gV pw_2054 pw_2055 pw_2056 pw_1523 pw_2053) hV_X12_raises 0 9 rfl rfl rfl rfl (Nat.le_of_ble_eq_true rfl) dX12_goesOnIn_370 ⟨Nat.le_of_ble_eq_true rfl, Nat.le_of_ble_eq_true rfl⟩ ⟨Nat.le_of_ble_eq_true rfl, Nat.le_of_ble_eq_true rfl⟩ (fun v452 u450 H locs hw451 hP hD hS => ?_)
          obtain ⟨op453, tp454, wn455, fu456, en457, nw458, is459, rs460, uc461, X462⟩ := u450
          obtain ⟨hw451, h463⟩ := hw451
          replace h463 : Nx Xs X462 gh nd T nm wr lz dc fd md pr bk M rmm fu (Phi gh ps op (rkN gh n9 true)) op453 tp454 wn455 fu456 rd on idn fl ct en457 nw458 is459 uc461 := h463
          obtain rfl : v452 = none := hw451
          have hP : va_P G.1 pCl (mW G h0 a (upd (upd (upd (upd (upd (upd (upd (upd (upd (upd F 87 (nI ou)) 102 (nI op453)) 111 (nI tp454)) 115 (nI wn455)) 116 en457) 117 (nI fu456)) 118 rs460) 119 uc461) 125 nw458) 126 is459) X462) _ := mW_to (F := F) (l1 := [(87, (nI ou)), (102, (nI op)), (111, (nI (tp - 1))), (115, (nI wn)), (116, (-1)), (117, (nI fu)), (118, rs0), (119, uc0), (125, nw), (126, isn), (102, (nI op453)), (111, (nI tp454)), (115, (nI wn455)), (116, en457), (117, (nI fu456)), (118, rs460), (119, uc461), (125, nw458), (126, is459)]) (l2 := [(87, (nI ou)), (102, (nI op453)), (111, (nI tp454)), (115, (nI wn455)), (116, en457), (117, (nI fu456)), (118, rs460), (119, uc461), (125, nw458), (126, is459)]) (V := [(nI ou), (nI op453), (nI tp454), (nI wn455), en457, (nI fu456), rs460, uc461, nw458, is459, (nI op453), (nI tp454), (nI wn455), en457, (nI fu456), rs460, uc461, nw458, is459, (nI ou), (nI op453), (nI tp454), (nI wn455), en457, (nI fu456), rs460, uc461, nw458, is459]) rfl rfl rfl hP
          have hD : va_D A (mW G h0 a (upd (upd (upd (upd (upd (upd (upd (upd (upd (upd F 87 (nI ou)) 102 (nI op453)) 111 (nI tp454)) 115 (nI wn455)) 116 en457) 117 (nI fu456)) 118 rs460) 119 uc461) 125 nw458) 126 is459) X462) := mW_D hD
          refine W.widen (k := 0) (n := 0) (Nat.le_of_ble_eq_true rfl) (Nat.le_of_ble_eq_true rfl) ?_
          refine W.eq (g2 := F0 m 373 ls []) rfl ?_
          refine lv_goto (tgt := 452) hx hb dX12_goesOnIn_373 (by decide) ?_
          have hz464 : Nx Xs X462 gh nd T nm wr lz dc fd md pr bk M rmm fu (Phi gh ps op (rkN gh n9 true)) op453 tp454 wn455 fu456 rd on idn fl ct en457 nw458 is459 uc461 := h463
          have hz465 : ou ≤ 400 := (by omega)
          have hP : va_P G.1 pCl (mW G h0 a (upd (upd (upd (upd (upd (upd (upd (upd (upd (upd F 87 (nI ou)) 102 (nI op453)) 111 (nI tp454)) 115 (nI wn455)) 116 en457) 117 (nI fu456)) 118 rs460) 119 uc461) 125 nw458) 126 is459) X462) _ := hP
          have hD : va_D A (mW G h0 a (upd (upd (upd (upd (upd (upd (upd (upd (upd (upd F 87 (nI ou)) 102 (nI op453)) 111 (nI tp454)) 115 (nI wn455)) 116 en457) 117 (nI fu456)) 118 rs460) 119 uc461) 125 nw458) 126 is459) X462) := mW_D hD
          exact W.vret hx hb hr (fun t9 ht9 hW9 => ⟨⟨_, (op453, tp454, wn455, fu456, en457, nw458, is459, rs460, uc461, ou, X462), rfl, ⟨rfl, hz464, hz465⟩, by rw [ht9]; exact hP, hD⟩, hS.F ht9⟩) hS.2.2 dX12_goesOnIn_452
  · by_cases hfi : Xs 12 p9 = nI n9
    · refine lv_iload_n hx hb dX12_goesOnIn_0 rfl (lv_at hl 2 rfl) ?_
      refine lv_aload_n hx hb dX12_goesOnIn_1 rfl (lv_at hl 0 rfl) ?_
      refine r_get (v := .ref (a 12)) hx hb hown hq hE hP 20 47 tFX12_20 (by decide) pw_1442 rfl dX12_goesOnIn_2 ?_
      refine lv_iload_n hx hb dX12_goesOnIn_5 rfl (lv_at hl 1 rfl) ?_
      refine r_ldi (f := (B 12)) (j := p9) hx hb hE hP 12 (ma_12 G a _) rfl (by omega) (by decide) dX12_goesOnIn_6 ?_
      refine lv_topi (fun x466 e467 => ?_)
      obtain rfl : x466 = nI n9 := e467.trans ((congrFun hw12 _).trans hfi)
      refine lv_icmp_ne (tgt := 14) hx hb dX12_goesOnIn_7 (by decide) (fun c468 => absurd rfl c468) (fun c468 => ?_)
      refine lv_iconst (v := 1) hx hb dX12_goesOnIn_10 (by decide) ?_
      refine lv_goto (tgt := 15) hx hb dX12_goesOnIn_11 (by decide) ?_
      refine lv_istore_n (lv' := [(3, .int 1), (0, .ref h0), (1, .int (nI p9)), (2, .int (nI n9))]) hx hb dX12_goesOnIn_15 rfl hl (by decide) rfl (fun ls hl => ?_)
      refine lv_aload_n hx hb dX12_goesOnIn_16 rfl (lv_at hl 1 rfl) ?_
      refine r_get (v := .ref (a 9)) hx hb hown hq hE hP 17 38 tFX12_17 (by decide) pw_1439 rfl dX12_goesOnIn_17 ?_
      refine lv_iload_n hx hb dX12_goesOnIn_20 rfl (lv_at hl 2 rfl) ?_
      refine r_ldi (f := (B 9)) (j := p9) hx hb hE hP 9 (ma_9 G a _) rfl (by omega) (by decide) dX12_goesOnIn_21 ?_
      refine lv_topi (fun x469 e470 => ?_)
      obtain rfl : x469 = 41 := e470.trans ((congrFun hw9 _).trans hkd)
      refine lv_tableIn (tgt := 446) (off := 424) hx hb dX12_goesOnIn_22 (by decide) (by decide) (by decide) (by decide) ?_
      refine lv_aload_n hx hb dX12_goesOnIn_446 rfl (lv_at hl 1 rfl) ?_
      refine lv_iload_n hx hb dX12_goesOnIn_447 rfl (lv_at hl 2 rfl) ?_
      refine lv_iload_n hx hb dX12_goesOnIn_448 rfl (lv_at hl 3 rfl) ?_
      have hP : va_P G.1 pCl (mW G h0 a (upd (upd (upd (upd (upd (upd (upd (upd (upd (upd (upd (upd (upd (upd (upd (upd (upd (upd (upd F 87 (nI ou)) 102 (nI op)) 111 (nI tp)) 115 (nI wn)) 116 (-1)) 117 (nI fu)) 118 rs0) 119 uc0) 125 nw) 126 isn) 102 (nI op)) 111 (nI tp)) 115 (nI wn)) 116 (-1)) 117 (nI fu)) 118 rs0) 119 uc0) 125 nw) 126 isn) B) _ := hP
      have hD : va_D A (mW G h0 a (upd (upd (upd (upd (upd (upd (upd (upd (upd (upd (upd (upd (upd (upd (upd (upd (upd (upd (upd F 87 (nI ou)) 102 (nI op)) 111 (nI tp)) 115 (nI wn)) 116 (-1)) 117 (nI fu)) 118 rs0) 119 uc0) 125 nw) 126 isn) 102 (nI op)) 111 (nI tp)) 115 (nI wn)) 116 (-1)) 117 (nI fu)) 118 rs0) 119 uc0) 125 nw) 126 isn) B) := mW_D hD
      refine pc_V0 (G := G) (As := [.int (nI p9), .int (nI n9)]) (rest := []) hx hb hml hown hq hE hX pX0_al hP hD hS hA hl.1 (R_tryGoesOn l G h0 a (upd (upd (upd (upd (upd (upd (upd (upd (upd (upd F 87 (nI ou)) 102 (nI op)) 111 (nI tp)) 115 (nI wn)) 116 (-1)) 117 (nI fu)) 118 rs0) 119 uc0) 125 nw) 126 isn) B Xs gh nd T nm wr lz dc fd md pr bk M rmm op tp wn fu rd on idn fl ct n9 p9 u mt ps yy bf wf nw isn rs0 uc0 hR hp hst hfu hkd) (gV pw_2121 pw_2122 pw_2123 pw_1523 pw_2114) hV_X12_tryGoesOn 0 9 rfl rfl rfl rfl (Nat.le_of_ble_eq_true rfl) dX12_goesOnIn_449 ⟨Nat.le_of_ble_eq_true rfl, Nat.le_of_ble_eq_true rfl⟩ ⟨Nat.le_of_ble_eq_true rfl, Nat.le_of_ble_eq_true rfl⟩ (fun v473 u471 H locs hw472 hP hD hS => ?_)
      obtain ⟨op474, tp475, wn476, fu477, en478, nw479, is480, rs481, uc482, X483⟩ := u471
      obtain ⟨hw472, h484⟩ := hw472
      replace h484 : Nx Xs X483 gh nd T nm wr lz dc fd md pr bk M rmm fu (Phi gh ps op (rkN gh n9 true)) op474 tp475 wn476 fu477 rd on idn fl ct en478 nw479 is480 uc482 := h484
      obtain rfl : v473 = none := hw472
      have hP : va_P G.1 pCl (mW G h0 a (upd (upd (upd (upd (upd (upd (upd (upd (upd (upd F 87 (nI ou)) 102 (nI op474)) 111 (nI tp475)) 115 (nI wn476)) 116 en478) 117 (nI fu477)) 118 rs481) 119 uc482) 125 nw479) 126 is480) X483) _ := mW_to (F := F) (l1 := [(87, (nI ou)), (102, (nI op)), (111, (nI tp)), (115, (nI wn)), (116, (-1)), (117, (nI fu)), (118, rs0), (119, uc0), (125, nw), (126, isn), (102, (nI op474)), (111, (nI tp475)), (115, (nI wn476)), (116, en478), (117, (nI fu477)), (118, rs481), (119, uc482), (125, nw479), (126, is480)]) (l2 := [(87, (nI ou)), (102, (nI op474)), (111, (nI tp475)), (115, (nI wn476)), (116, en478), (117, (nI fu477)), (118, rs481), (119, uc482), (125, nw479), (126, is480)]) (V := [(nI ou), (nI op474), (nI tp475), (nI wn476), en478, (nI fu477), rs481, uc482, nw479, is480, (nI op474), (nI tp475), (nI wn476), en478, (nI fu477), rs481, uc482, nw479, is480, (nI ou), (nI op474), (nI tp475), (nI wn476), en478, (nI fu477), rs481, uc482, nw479, is480]) rfl rfl rfl hP
      have hD : va_D A (mW G h0 a (upd (upd (upd (upd (upd (upd (upd (upd (upd (upd F 87 (nI ou)) 102 (nI op474)) 111 (nI tp475)) 115 (nI wn476)) 116 en478) 117 (nI fu477)) 118 rs481) 119 uc482) 125 nw479) 126 is480) X483) := mW_D hD
      refine W.widen (k := 0) (n := 0) (Nat.le_of_ble_eq_true rfl) (Nat.le_of_ble_eq_true rfl) ?_
      refine W.eq (g2 := F0 m 452 ls []) rfl ?_
      have hz485 : Nx Xs X483 gh nd T nm wr lz dc fd md pr bk M rmm fu (Phi gh ps op (rkN gh n9 true)) op474 tp475 wn476 fu477 rd on idn fl ct en478 nw479 is480 uc482 := h484
      have hz486 : ou ≤ 400 := (by omega)
      have hP : va_P G.1 pCl (mW G h0 a (upd (upd (upd (upd (upd (upd (upd (upd (upd (upd F 87 (nI ou)) 102 (nI op474)) 111 (nI tp475)) 115 (nI wn476)) 116 en478) 117 (nI fu477)) 118 rs481) 119 uc482) 125 nw479) 126 is480) X483) _ := hP
      have hD : va_D A (mW G h0 a (upd (upd (upd (upd (upd (upd (upd (upd (upd (upd F 87 (nI ou)) 102 (nI op474)) 111 (nI tp475)) 115 (nI wn476)) 116 en478) 117 (nI fu477)) 118 rs481) 119 uc482) 125 nw479) 126 is480) X483) := mW_D hD
      exact W.vret hx hb hr (fun t9 ht9 hW9 => ⟨⟨_, (op474, tp475, wn476, fu477, en478, nw479, is480, rs481, uc482, ou, X483), rfl, ⟨rfl, hz485, hz486⟩, by rw [ht9]; exact hP, hD⟩, hS.F ht9⟩) hS.2.2 dX12_goesOnIn_452
    · refine lv_iload_n hx hb dX12_goesOnIn_0 rfl (lv_at hl 2 rfl) ?_
      refine lv_aload_n hx hb dX12_goesOnIn_1 rfl (lv_at hl 0 rfl) ?_
      refine r_get (v := .ref (a 12)) hx hb hown hq hE hP 20 47 tFX12_20 (by decide) pw_1442 rfl dX12_goesOnIn_2 ?_
      refine lv_iload_n hx hb dX12_goesOnIn_5 rfl (lv_at hl 1 rfl) ?_
      refine r_ldi (f := (B 12)) (j := p9) hx hb hE hP 12 (ma_12 G a _) rfl (by omega) (by decide) dX12_goesOnIn_6 ?_
      refine lv_icmp_ne (tgt := 14) hx hb dX12_goesOnIn_7 (by decide) (fun c487 => ?_) (fun c487 => absurd ((congrFun hw12 _).symm.trans c487.symm) hfi)
      refine lv_iconst (v := 0) hx hb dX12_goesOnIn_14 (by decide) ?_
      refine lv_istore_n (lv' := [(3, .int 0), (0, .ref h0), (1, .int (nI p9)), (2, .int (nI n9))]) hx hb dX12_goesOnIn_15 rfl hl (by decide) rfl (fun ls hl => ?_)
      refine lv_aload_n hx hb dX12_goesOnIn_16 rfl (lv_at hl 1 rfl) ?_
      refine r_get (v := .ref (a 9)) hx hb hown hq hE hP 17 38 tFX12_17 (by decide) pw_1439 rfl dX12_goesOnIn_17 ?_
      refine lv_iload_n hx hb dX12_goesOnIn_20 rfl (lv_at hl 2 rfl) ?_
      refine r_ldi (f := (B 9)) (j := p9) hx hb hE hP 9 (ma_9 G a _) rfl (by omega) (by decide) dX12_goesOnIn_21 ?_
      refine lv_topi (fun x488 e489 => ?_)
      obtain rfl : x488 = 41 := e489.trans ((congrFun hw9 _).trans hkd)
      refine lv_tableIn (tgt := 446) (off := 424) hx hb dX12_goesOnIn_22 (by decide) (by decide) (by decide) (by decide) ?_
      refine lv_aload_n hx hb dX12_goesOnIn_446 rfl (lv_at hl 1 rfl) ?_
      refine lv_iload_n hx hb dX12_goesOnIn_447 rfl (lv_at hl 2 rfl) ?_
      refine lv_iload_n hx hb dX12_goesOnIn_448 rfl (lv_at hl 3 rfl) ?_
      have hP : va_P G.1 pCl (mW G h0 a (upd (upd (upd (upd (upd (upd (upd (upd (upd (upd (upd (upd (upd (upd (upd (upd (upd (upd (upd F 87 (nI ou)) 102 (nI op)) 111 (nI tp)) 115 (nI wn)) 116 (-1)) 117 (nI fu)) 118 rs0) 119 uc0) 125 nw) 126 isn) 102 (nI op)) 111 (nI tp)) 115 (nI wn)) 116 (-1)) 117 (nI fu)) 118 rs0) 119 uc0) 125 nw) 126 isn) B) _ := hP
      have hD : va_D A (mW G h0 a (upd (upd (upd (upd (upd (upd (upd (upd (upd (upd (upd (upd (upd (upd (upd (upd (upd (upd (upd F 87 (nI ou)) 102 (nI op)) 111 (nI tp)) 115 (nI wn)) 116 (-1)) 117 (nI fu)) 118 rs0) 119 uc0) 125 nw) 126 isn) 102 (nI op)) 111 (nI tp)) 115 (nI wn)) 116 (-1)) 117 (nI fu)) 118 rs0) 119 uc0) 125 nw) 126 isn) B) := mW_D hD
      refine pc_V0 (G := G) (As := [.int (nI p9), .int (nI n9)]) (rest := []) hx hb hml hown hq hE hX pX0_al hP hD hS hA hl.1 (R_tryGoesOn l G h0 a (upd (upd (upd (upd (upd (upd (upd (upd (upd (upd F 87 (nI ou)) 102 (nI op)) 111 (nI tp)) 115 (nI wn)) 116 (-1)) 117 (nI fu)) 118 rs0) 119 uc0) 125 nw) 126 isn) B Xs gh nd T nm wr lz dc fd md pr bk M rmm op tp wn fu rd on idn fl ct n9 p9 u mt ps yy bf wf nw isn rs0 uc0 hR hp hst hfu hkd) (gV pw_2121 pw_2122 pw_2123 pw_1523 pw_2114) hV_X12_tryGoesOn 0 9 rfl rfl rfl rfl (Nat.le_of_ble_eq_true rfl) dX12_goesOnIn_449 ⟨Nat.le_of_ble_eq_true rfl, Nat.le_of_ble_eq_true rfl⟩ ⟨Nat.le_of_ble_eq_true rfl, Nat.le_of_ble_eq_true rfl⟩ (fun v492 u490 H locs hw491 hP hD hS => ?_)
      obtain ⟨op493, tp494, wn495, fu496, en497, nw498, is499, rs500, uc501, X502⟩ := u490
      obtain ⟨hw491, h503⟩ := hw491
      replace h503 : Nx Xs X502 gh nd T nm wr lz dc fd md pr bk M rmm fu (Phi gh ps op (rkN gh n9 true)) op493 tp494 wn495 fu496 rd on idn fl ct en497 nw498 is499 uc501 := h503
      obtain rfl : v492 = none := hw491
      have hP : va_P G.1 pCl (mW G h0 a (upd (upd (upd (upd (upd (upd (upd (upd (upd (upd F 87 (nI ou)) 102 (nI op493)) 111 (nI tp494)) 115 (nI wn495)) 116 en497) 117 (nI fu496)) 118 rs500) 119 uc501) 125 nw498) 126 is499) X502) _ := mW_to (F := F) (l1 := [(87, (nI ou)), (102, (nI op)), (111, (nI tp)), (115, (nI wn)), (116, (-1)), (117, (nI fu)), (118, rs0), (119, uc0), (125, nw), (126, isn), (102, (nI op493)), (111, (nI tp494)), (115, (nI wn495)), (116, en497), (117, (nI fu496)), (118, rs500), (119, uc501), (125, nw498), (126, is499)]) (l2 := [(87, (nI ou)), (102, (nI op493)), (111, (nI tp494)), (115, (nI wn495)), (116, en497), (117, (nI fu496)), (118, rs500), (119, uc501), (125, nw498), (126, is499)]) (V := [(nI ou), (nI op493), (nI tp494), (nI wn495), en497, (nI fu496), rs500, uc501, nw498, is499, (nI op493), (nI tp494), (nI wn495), en497, (nI fu496), rs500, uc501, nw498, is499, (nI ou), (nI op493), (nI tp494), (nI wn495), en497, (nI fu496), rs500, uc501, nw498, is499]) rfl rfl rfl hP
      have hD : va_D A (mW G h0 a (upd (upd (upd (upd (upd (upd (upd (upd (upd (upd F 87 (nI ou)) 102 (nI op493)) 111 (nI tp494)) 115 (nI wn495)) 116 en497) 117 (nI fu496)) 118 rs500) 119 uc501) 125 nw498) 126 is499) X502) := mW_D hD
      refine W.widen (k := 0) (n := 0) (Nat.le_of_ble_eq_true rfl) (Nat.le_of_ble_eq_true rfl) ?_
      refine W.eq (g2 := F0 m 452 ls []) rfl ?_
      have hz504 : Nx Xs X502 gh nd T nm wr lz dc fd md pr bk M rmm fu (Phi gh ps op (rkN gh n9 true)) op493 tp494 wn495 fu496 rd on idn fl ct en497 nw498 is499 uc501 := h503
      have hz505 : ou ≤ 400 := (by omega)
      have hP : va_P G.1 pCl (mW G h0 a (upd (upd (upd (upd (upd (upd (upd (upd (upd (upd F 87 (nI ou)) 102 (nI op493)) 111 (nI tp494)) 115 (nI wn495)) 116 en497) 117 (nI fu496)) 118 rs500) 119 uc501) 125 nw498) 126 is499) X502) _ := hP
      have hD : va_D A (mW G h0 a (upd (upd (upd (upd (upd (upd (upd (upd (upd (upd F 87 (nI ou)) 102 (nI op493)) 111 (nI tp494)) 115 (nI wn495)) 116 en497) 117 (nI fu496)) 118 rs500) 119 uc501) 125 nw498) 126 is499) X502) := mW_D hD
      exact W.vret hx hb hr (fun t9 ht9 hW9 => ⟨⟨_, (op493, tp494, wn495, fu496, en497, nw498, is499, rs500, uc501, ou, X502), rfl, ⟨rfl, hz504, hz505⟩, by rw [ht9]; exact hP, hD⟩, hS.F ht9⟩) hS.2.2 dX12_goesOnIn_452
  · by_cases hfi : Xs 12 p9 = nI n9
    · refine lv_iload_n hx hb dX12_goesOnIn_0 rfl (lv_at hl 2 rfl) ?_
      refine lv_aload_n hx hb dX12_goesOnIn_1 rfl (lv_at hl 0 rfl) ?_
      refine r_get (v := .ref (a 12)) hx hb hown hq hE hP 20 47 tFX12_20 (by decide) pw_1442 rfl dX12_goesOnIn_2 ?_
      refine lv_iload_n hx hb dX12_goesOnIn_5 rfl (lv_at hl 1 rfl) ?_
      refine r_ldi (f := (B 12)) (j := p9) hx hb hE hP 12 (ma_12 G a _) rfl (by omega) (by decide) dX12_goesOnIn_6 ?_
      refine lv_topi (fun x506 e507 => ?_)
      obtain rfl : x506 = nI n9 := e507.trans ((congrFun hw12 _).trans hfi)
      refine lv_icmp_ne (tgt := 14) hx hb dX12_goesOnIn_7 (by decide) (fun c508 => absurd rfl c508) (fun c508 => ?_)
      refine lv_iconst (v := 1) hx hb dX12_goesOnIn_10 (by decide) ?_
      refine lv_goto (tgt := 15) hx hb dX12_goesOnIn_11 (by decide) ?_
      refine lv_istore_n (lv' := [(3, .int 1), (0, .ref h0), (1, .int (nI p9)), (2, .int (nI n9))]) hx hb dX12_goesOnIn_15 rfl hl (by decide) rfl (fun ls hl => ?_)
      refine lv_aload_n hx hb dX12_goesOnIn_16 rfl (lv_at hl 1 rfl) ?_
      refine r_get (v := .ref (a 9)) hx hb hown hq hE hP 17 38 tFX12_17 (by decide) pw_1439 rfl dX12_goesOnIn_17 ?_
      refine lv_iload_n hx hb dX12_goesOnIn_20 rfl (lv_at hl 2 rfl) ?_
      refine r_ldi (f := (B 9)) (j := p9) hx hb hE hP 9 (ma_9 G a _) rfl (by omega) (by decide) dX12_goesOnIn_21 ?_
      refine lv_topi (fun x509 e510 => ?_)
      obtain rfl : x509 = 42 := e510.trans ((congrFun hw9 _).trans hkd)
      refine lv_tableIn (tgt := 376) (off := 354) hx hb dX12_goesOnIn_22 (by decide) (by decide) (by decide) (by decide) ?_
      have ht1 := (hR.g42 (uc := uc0) hp hst hkd Sta.rfl hR.hp Kpt.rfl ⟨rfl, rfl, rfl⟩).1
      refine lv_aload_n hx hb dX12_goesOnIn_376 rfl (lv_at hl 1 rfl) ?_
      have hP : va_P G.1 pCl (mW G h0 a (upd (upd (upd (upd (upd (upd (upd (upd (upd (upd (upd F 87 (nI ou)) 102 (nI op)) 111 (nI tp)) 115 (nI wn)) 116 (-1)) 117 (nI fu)) 118 rs0) 119 uc0) 125 nw) 126 isn) 111 (nI tp)) (updA B 68 (B 68))) _ := hP
      have hD : va_D A (mW G h0 a (upd (upd (upd (upd (upd (upd (upd (upd (upd (upd (upd F 87 (nI ou)) 102 (nI op)) 111 (nI tp)) 115 (nI wn)) 116 (-1)) 117 (nI fu)) 118 rs0) 119 uc0) 125 nw) 126 isn) 111 (nI tp)) (updA B 68 (B 68))) := mW_D hD
      refine pc_V0 (G := G) (As := []) (rest := []) hx hb hml hown hq hE hX pX0_al hP hD hS hA hl.1 (R_pop l G h0 a (upd (upd (upd (upd (upd (upd (upd (upd (upd (upd F 87 (nI ou)) 102 (nI op)) 111 (nI tp)) 115 (nI wn)) 116 (-1)) 117 (nI fu)) 118 rs0) 119 uc0) 125 nw) 126 isn) B tp (B 68) (by omega)) (gV pw_2082 pw_2083 pw_2084 pw_1523 pw_1965) hV_X12_pop 0 9 rfl rfl rfl rfl (Nat.le_of_ble_eq_true rfl) dX12_goesOnIn_377 ⟨Nat.le_of_ble_eq_true rfl, Nat.le_of_ble_eq_true rfl⟩ ⟨Nat.le_of_ble_eq_true rfl, Nat.le_of_ble_eq_true rfl⟩ (fun v513 u511 H locs hw512 hP hD hS => ?_)
      obtain rfl : v513 = some (.int ((B 68) (tp - 1))) := hw512
      have hP : va_P G.1 pCl (mW G h0 a (upd (upd (upd (upd (upd (upd (upd (upd (upd (upd F 87 (nI ou)) 102 (nI op)) 111 (nI (tp - 1))) 115 (nI wn)) 116 (-1)) 117 (nI fu)) 118 rs0) 119 uc0) 125 nw) 126 isn) B) _ := mW_to (F := F) (l1 := [(87, (nI ou)), (102, (nI op)), (111, (nI tp)), (115, (nI wn)), (116, (-1)), (117, (nI fu)), (118, rs0), (119, uc0), (125, nw), (126, isn), (111, (nI (tp - 1)))]) (l2 := [(87, (nI ou)), (102, (nI op)), (111, (nI (tp - 1))), (115, (nI wn)), (116, (-1)), (117, (nI fu)), (118, rs0), (119, uc0), (125, nw), (126, isn)]) (V := [(nI ou), (nI op), (nI (tp - 1)), (nI wn), (-1), (nI fu), rs0, uc0, nw, isn, (nI (tp - 1)), (nI ou), (nI op), (nI (tp - 1)), (nI wn), (-1), (nI fu), rs0, uc0, nw, isn]) rfl rfl (show (updA B 68 (B 68)) = B from updsA_eq2 (F := B) (l1 := [(68, (B 68))]) (l2 := []) (V := [(B 68)]) rfl rfl) hP
      have hD : va_D A (mW G h0 a (upd (upd (upd (upd (upd (upd (upd (upd (upd (upd F 87 (nI ou)) 102 (nI op)) 111 (nI (tp - 1))) 115 (nI wn)) 116 (-1)) 117 (nI fu)) 118 rs0) 119 uc0) 125 nw) 126 isn) B) := mW_D hD
      refine W.widen (k := 0) (n := 0) (Nat.le_of_ble_eq_true rfl) (Nat.le_of_ble_eq_true rfl) ?_
      refine W.eq (g2 := F0 m 380 ls [.int ((B 68) (tp - 1))]) rfl ?_
      refine lv_istore (lv' := [(4, .int ((B 68) (tp - 1))), (3, .int 1), (0, .ref h0), (1, .int (nI p9)), (2, .int (nI n9))]) hx hb dX12_goesOnIn_380 hl (by decide) rfl (fun ls hl => ?_)
      refine lv_aload_n hx hb dX12_goesOnIn_382 rfl (lv_at hl 2 rfl) ?_
      refine r_get (v := .int (nI ou)) hx hb hown hq hE hP 87 656 tFX12_87 (by decide) pw_1924 rfl dX12_goesOnIn_383 ?_
      refine lv_sipush (v := 400) hx hb dX12_goesOnIn_386 (by decide) ?_
      refine lv_icmp_ge (tgt := 413) hx hb dX12_goesOnIn_389 (by decide) (fun c514 => ?_) (fun c514 => ?_)
      · have n515 : 400 ≤ ou := (nI_leI (a := 400) (b := ou) (by omega) (by omega)).mp c514
        refine lv_aload_n hx hb dX12_goesOnIn_413 rfl (lv_at hl 2 rfl) ?_
        refine lv_iload_n hx hb dX12_goesOnIn_414 rfl (lv_at hl 3 rfl) ?_
        have hP : va_P G.1 pCl (mW G h0 a (upd (upd (upd (upd (upd (upd (upd (upd (upd (upd F 87 (nI ou)) 102 (nI op)) 111 (nI (tp - 1))) 115 (nI wn)) 116 (-1)) 117 (nI fu)) 118 rs0) 119 uc0) 125 nw) 126 isn) B) _ := hP
        have hD : va_D A (mW G h0 a (upd (upd (upd (upd (upd (upd (upd (upd (upd (upd F 87 (nI ou)) 102 (nI op)) 111 (nI (tp - 1))) 115 (nI wn)) 116 (-1)) 117 (nI fu)) 118 rs0) 119 uc0) 125 nw) 126 isn) B) := mW_D hD
        refine pc_V0 (G := G) (As := [.int (nI p9)]) (rest := []) hx hb hml hown hq hE hX pX0_al hP hD hS hA hl.1 (R_comesToEnd l G h0 a (upd (upd (upd (upd (upd (upd (upd (upd (upd (upd F 87 (nI ou)) 102 (nI op)) 111 (nI (tp - 1))) 115 (nI wn)) 116 (-1)) 117 (nI fu)) 118 rs0) 119 uc0) 125 nw) 126 isn) B (nI p9)) (gV pw_2010 pw_2011 pw_2012 pw_1523 pw_2005) hV_X12_comesToEnd 0 9 rfl rfl rfl rfl (Nat.le_of_ble_eq_true rfl) dX12_goesOnIn_415 ⟨Nat.le_of_ble_eq_true rfl, Nat.le_of_ble_eq_true rfl⟩ ⟨Nat.le_of_ble_eq_true rfl, Nat.le_of_ble_eq_true rfl⟩ (fun v518 u516 H locs hw517 hP hD hS => ?_)
        obtain rfl : v518 = none := hw517
        have hP : va_P G.1 pCl (mW G h0 a (upd (upd (upd (upd (upd (upd (upd (upd (upd (upd F 87 (nI ou)) 102 (nI op)) 111 (nI (tp - 1))) 115 (nI wn)) 116 (-1)) 117 (nI fu)) 118 rs0) 119 uc0) 125 (nI p9)) 126 0) B) _ := mW_to (F := F) (l1 := [(87, (nI ou)), (102, (nI op)), (111, (nI (tp - 1))), (115, (nI wn)), (116, (-1)), (117, (nI fu)), (118, rs0), (119, uc0), (125, nw), (126, isn), (125, (nI p9)), (126, 0)]) (l2 := [(87, (nI ou)), (102, (nI op)), (111, (nI (tp - 1))), (115, (nI wn)), (116, (-1)), (117, (nI fu)), (118, rs0), (119, uc0), (125, (nI p9)), (126, 0)]) (V := [(nI ou), (nI op), (nI (tp - 1)), (nI wn), (-1), (nI fu), rs0, uc0, (nI p9), 0, (nI p9), 0, (nI ou), (nI op), (nI (tp - 1)), (nI wn), (-1), (nI fu), rs0, uc0, (nI p9), 0]) rfl rfl rfl hP
        have hD : va_D A (mW G h0 a (upd (upd (upd (upd (upd (upd (upd (upd (upd (upd F 87 (nI ou)) 102 (nI op)) 111 (nI (tp - 1))) 115 (nI wn)) 116 (-1)) 117 (nI fu)) 118 rs0) 119 uc0) 125 (nI p9)) 126 0) B) := mW_D hD
        refine W.widen (k := 0) (n := 0) (Nat.le_of_ble_eq_true rfl) (Nat.le_of_ble_eq_true rfl) ?_
        refine W.eq (g2 := F0 m 418 ls []) rfl ?_
        refine lv_goto (tgt := 452) hx hb dX12_goesOnIn_418 (by decide) ?_
        have hz519 : Nx Xs B gh nd T nm wr lz dc fd md pr bk M rmm fu (Phi gh ps op (rkN gh n9 true)) op (tp - 1) wn fu rd on idn fl ct ((-1) : Int32) (nI p9) (0 : Int32) uc0 := (hR.g42 hp hst hkd Sta.rfl hR.hp Kpt.rfl ⟨rfl, rfl, rfl⟩).2
        have hz520 : ou ≤ 400 := (by omega)
        have hP : va_P G.1 pCl (mW G h0 a (upd (upd (upd (upd (upd (upd (upd (upd (upd (upd F 87 (nI ou)) 102 (nI op)) 111 (nI (tp - 1))) 115 (nI wn)) 116 ((-1) : Int32)) 117 (nI fu)) 118 rs0) 119 uc0) 125 (nI p9)) 126 (0 : Int32)) B) _ := mW_to (F := F) (l1 := [(87, (nI ou)), (102, (nI op)), (111, (nI (tp - 1))), (115, (nI wn)), (116, (-1)), (117, (nI fu)), (118, rs0), (119, uc0), (125, (nI p9)), (126, 0)]) (l2 := [(87, (nI ou)), (102, (nI op)), (111, (nI (tp - 1))), (115, (nI wn)), (116, ((-1) : Int32)), (117, (nI fu)), (118, rs0), (119, uc0), (125, (nI p9)), (126, (0 : Int32))]) (V := [(nI ou), (nI op), (nI (tp - 1)), (nI wn), ((-1) : Int32), (nI fu), rs0, uc0, (nI p9), (0 : Int32), (nI ou), (nI op), (nI (tp - 1)), (nI wn), ((-1) : Int32), (nI fu), rs0, uc0, (nI p9), (0 : Int32)]) rfl rfl rfl hP
        have hD : va_D A (mW G h0 a (upd (upd (upd (upd (upd (upd (upd (upd (upd (upd F 87 (nI ou)) 102 (nI op)) 111 (nI (tp - 1))) 115 (nI wn)) 116 ((-1) : Int32)) 117 (nI fu)) 118 rs0) 119 uc0) 125 (nI p9)) 126 (0 : Int32)) B) := mW_D hD
        exact W.vret hx hb hr (fun t9 ht9 hW9 => ⟨⟨_, (op, (tp - 1), wn, fu, ((-1) : Int32), (nI p9), (0 : Int32), rs0, uc0, ou, B), rfl, ⟨rfl, hz519, hz520⟩, by rw [ht9]; exact hP, hD⟩, hS.F ht9⟩) hS.2.2 dX12_goesOnIn_452
      · have n521 : ¬ (400 ≤ ou) := fun h9 => c514 ((nI_leI (a := 400) (b := ou) (by omega) (by omega)).mpr h9)
        refine lv_aload_n hx hb dX12_goesOnIn_392 rfl (lv_at hl 2 rfl) ?_
        refine r_get (v := .ref (a 51)) hx hb hown hq hE hP 86 165 tFX12_86 (by decide) pw_1482 rfl dX12_goesOnIn_393 ?_
        refine lv_aload_n hx hb dX12_goesOnIn_396 rfl (lv_at hl 2 rfl) ?_
        refine r_get (v := .int (nI ou)) hx hb hown hq hE hP 87 656 tFX12_87 (by decide) pw_1924 rfl dX12_goesOnIn_397 ?_
        refine lv_iload hx hb dX12_goesOnIn_400 (lv_at hl 0 rfl) ?_
        refine r_sti (f := (B 51)) (j := ou) hx hb hE hP hD hS 51 (ma_51 G a _) rfl (mas_51 G a _) (by omega) (by decide) dX12_goesOnIn_402 (fun H locs hP hD hS => ?_)
        refine lv_aload_n hx hb dX12_goesOnIn_403 rfl (lv_at hl 2 rfl) ?_
        refine lv_dup hx hb dX12_goesOnIn_404 rfl ?_
        refine r_get (v := .int (nI ou)) hx hb hown hq hE hP 87 656 tFX12_87 (by decide) pw_1924 rfl dX12_goesOnIn_405 ?_
        refine lv_iconst (v := 1) hx hb dX12_goesOnIn_408 (by decide) ?_
        refine lv_iadd hx hb dX12_goesOnIn_409 ?_
        refine lv_topi (fun x522 e523 => ?_)
        obtain rfl : x522 = nI (ou + 1) := e523.trans (nI_add (ou) (1))
        refine r_put (v := (nI (ou + 1))) (ty := .int) hx hb hown hq hE hP hD hS 87 656 tFX12_87 (by decide) pw_1924 (by decide) rfl rfl (ms_87 a _ _) dX12_goesOnIn_410 (fun H locs hP hD hS => ?_)
        refine lv_aload_n hx hb dX12_goesOnIn_413 rfl (lv_at hl 2 rfl) ?_
        refine lv_iload_n hx hb dX12_goesOnIn_414 rfl (lv_at hl 3 rfl) ?_
        have hP : va_P G.1 pCl (mW G h0 a (upd (upd (upd (upd (upd (upd (upd (upd (upd (upd F 87 (nI (ou + 1))) 102 (nI op)) 111 (nI (tp - 1))) 115 (nI wn)) 116 (-1)) 117 (nI fu)) 118 rs0) 119 uc0) 125 nw) 126 isn) (updA B 51 (upd (B 51) ou ((B 68) (tp - 1))))) _ := mW_to (F := F) (l1 := [(87, (nI ou)), (102, (nI op)), (111, (nI (tp - 1))), (115, (nI wn)), (116, (-1)), (117, (nI fu)), (118, rs0), (119, uc0), (125, nw), (126, isn), (87, (nI (ou + 1)))]) (l2 := [(87, (nI (ou + 1))), (102, (nI op)), (111, (nI (tp - 1))), (115, (nI wn)), (116, (-1)), (117, (nI fu)), (118, rs0), (119, uc0), (125, nw), (126, isn)]) (V := [(nI (ou + 1)), (nI op), (nI (tp - 1)), (nI wn), (-1), (nI fu), rs0, uc0, nw, isn, (nI (ou + 1)), (nI (ou + 1)), (nI op), (nI (tp - 1)), (nI wn), (-1), (nI fu), rs0, uc0, nw, isn]) rfl rfl rfl hP
        have hD : va_D A (mW G h0 a (upd (upd (upd (upd (upd (upd (upd (upd (upd (upd F 87 (nI (ou + 1))) 102 (nI op)) 111 (nI (tp - 1))) 115 (nI wn)) 116 (-1)) 117 (nI fu)) 118 rs0) 119 uc0) 125 nw) 126 isn) (updA B 51 (upd (B 51) ou ((B 68) (tp - 1))))) := mW_D hD
        refine pc_V0 (G := G) (As := [.int (nI p9)]) (rest := []) hx hb hml hown hq hE hX pX0_al hP hD hS hA hl.1 (R_comesToEnd l G h0 a (upd (upd (upd (upd (upd (upd (upd (upd (upd (upd F 87 (nI (ou + 1))) 102 (nI op)) 111 (nI (tp - 1))) 115 (nI wn)) 116 (-1)) 117 (nI fu)) 118 rs0) 119 uc0) 125 nw) 126 isn) (updA B 51 (upd (B 51) ou ((B 68) (tp - 1)))) (nI p9)) (gV pw_2010 pw_2011 pw_2012 pw_1523 pw_2005) hV_X12_comesToEnd 0 9 rfl rfl rfl rfl (Nat.le_of_ble_eq_true rfl) dX12_goesOnIn_415 ⟨Nat.le_of_ble_eq_true rfl, Nat.le_of_ble_eq_true rfl⟩ ⟨Nat.le_of_ble_eq_true rfl, Nat.le_of_ble_eq_true rfl⟩ (fun v526 u524 H locs hw525 hP hD hS => ?_)
        obtain rfl : v526 = none := hw525
        have hP : va_P G.1 pCl (mW G h0 a (upd (upd (upd (upd (upd (upd (upd (upd (upd (upd F 87 (nI (ou + 1))) 102 (nI op)) 111 (nI (tp - 1))) 115 (nI wn)) 116 (-1)) 117 (nI fu)) 118 rs0) 119 uc0) 125 (nI p9)) 126 0) (updA B 51 (upd (B 51) ou ((B 68) (tp - 1))))) _ := mW_to (F := F) (l1 := [(87, (nI (ou + 1))), (102, (nI op)), (111, (nI (tp - 1))), (115, (nI wn)), (116, (-1)), (117, (nI fu)), (118, rs0), (119, uc0), (125, nw), (126, isn), (125, (nI p9)), (126, 0)]) (l2 := [(87, (nI (ou + 1))), (102, (nI op)), (111, (nI (tp - 1))), (115, (nI wn)), (116, (-1)), (117, (nI fu)), (118, rs0), (119, uc0), (125, (nI p9)), (126, 0)]) (V := [(nI (ou + 1)), (nI op), (nI (tp - 1)), (nI wn), (-1), (nI fu), rs0, uc0, (nI p9), 0, (nI p9), 0, (nI (ou + 1)), (nI op), (nI (tp - 1)), (nI wn), (-1), (nI fu), rs0, uc0, (nI p9), 0]) rfl rfl rfl hP
        have hD : va_D A (mW G h0 a (upd (upd (upd (upd (upd (upd (upd (upd (upd (upd F 87 (nI (ou + 1))) 102 (nI op)) 111 (nI (tp - 1))) 115 (nI wn)) 116 (-1)) 117 (nI fu)) 118 rs0) 119 uc0) 125 (nI p9)) 126 0) (updA B 51 (upd (B 51) ou ((B 68) (tp - 1))))) := mW_D hD
        refine W.widen (k := 0) (n := 0) (Nat.le_of_ble_eq_true rfl) (Nat.le_of_ble_eq_true rfl) ?_
        refine W.eq (g2 := F0 m 418 ls []) rfl ?_
        refine lv_goto (tgt := 452) hx hb dX12_goesOnIn_418 (by decide) ?_
        have hz527 : Nx Xs (updA B 51 (upd (B 51) ou ((B 68) (tp - 1)))) gh nd T nm wr lz dc fd md pr bk M rmm fu (Phi gh ps op (rkN gh n9 true)) op (tp - 1) wn fu rd on idn fl ct ((-1) : Int32) (nI p9) (0 : Int32) uc0 := (hR.g42 hp hst hkd (Sta.out Sta.rfl) hR.hp ⟨⟨rfl, rfl, rfl, rfl, rfl, rfl⟩, ⟨rfl, rfl, rfl, fun _ _ => rfl⟩, fun _ _ => ⟨rfl, rfl⟩, fun _ _ => ⟨rfl, rfl⟩, fun _ _ => ⟨rfl, rfl, rfl⟩⟩ ⟨rfl, rfl, rfl⟩).2
        have hz528 : (ou + 1) ≤ 400 := (by omega)
        have hP : va_P G.1 pCl (mW G h0 a (upd (upd (upd (upd (upd (upd (upd (upd (upd (upd F 87 (nI (ou + 1))) 102 (nI op)) 111 (nI (tp - 1))) 115 (nI wn)) 116 ((-1) : Int32)) 117 (nI fu)) 118 rs0) 119 uc0) 125 (nI p9)) 126 (0 : Int32)) (updA B 51 (upd (B 51) ou ((B 68) (tp - 1))))) _ := mW_to (F := F) (l1 := [(87, (nI (ou + 1))), (102, (nI op)), (111, (nI (tp - 1))), (115, (nI wn)), (116, (-1)), (117, (nI fu)), (118, rs0), (119, uc0), (125, (nI p9)), (126, 0)]) (l2 := [(87, (nI (ou + 1))), (102, (nI op)), (111, (nI (tp - 1))), (115, (nI wn)), (116, ((-1) : Int32)), (117, (nI fu)), (118, rs0), (119, uc0), (125, (nI p9)), (126, (0 : Int32))]) (V := [(nI (ou + 1)), (nI op), (nI (tp - 1)), (nI wn), ((-1) : Int32), (nI fu), rs0, uc0, (nI p9), (0 : Int32), (nI (ou + 1)), (nI op), (nI (tp - 1)), (nI wn), ((-1) : Int32), (nI fu), rs0, uc0, (nI p9), (0 : Int32)]) rfl rfl rfl hP
        have hD : va_D A (mW G h0 a (upd (upd (upd (upd (upd (upd (upd (upd (upd (upd F 87 (nI (ou + 1))) 102 (nI op)) 111 (nI (tp - 1))) 115 (nI wn)) 116 ((-1) : Int32)) 117 (nI fu)) 118 rs0) 119 uc0) 125 (nI p9)) 126 (0 : Int32)) (updA B 51 (upd (B 51) ou ((B 68) (tp - 1))))) := mW_D hD
        exact W.vret hx hb hr (fun t9 ht9 hW9 => ⟨⟨_, (op, (tp - 1), wn, fu, ((-1) : Int32), (nI p9), (0 : Int32), rs0, uc0, (ou + 1), (updA B 51 (upd (B 51) ou ((B 68) (tp - 1))))), rfl, ⟨rfl, hz527, hz528⟩, by rw [ht9]; exact hP, hD⟩, hS.F ht9⟩) hS.2.2 dX12_goesOnIn_452
    · refine lv_iload_n hx hb dX12_goesOnIn_0 rfl (lv_at hl 2 rfl) ?_
      refine lv_aload_n hx hb dX12_goesOnIn_1 rfl (lv_at hl 0 rfl) ?_
      refine r_get (v := .ref (a 12)) hx hb hown hq hE hP 20 47 tFX12_20 (by decide) pw_1442 rfl dX12_goesOnIn_2 ?_
      refine lv_iload_n hx hb dX12_goesOnIn_5 rfl (lv_at hl 1 rfl) ?_
      refine r_ldi (f := (B 12)) (j := p9) hx hb hE hP 12 (ma_12 G a _) rfl (by omega) (by decide) dX12_goesOnIn_6 ?_
      refine lv_icmp_ne (tgt := 14) hx hb dX12_goesOnIn_7 (by decide) (fun c529 => ?_) (fun c529 => absurd ((congrFun hw12 _).symm.trans c529.symm) hfi)
      refine lv_iconst (v := 0) hx hb dX12_goesOnIn_14 (by decide) ?_
      refine lv_istore_n (lv' := [(3, .int 0), (0, .ref h0), (1, .int (nI p9)), (2, .int (nI n9))]) hx hb dX12_goesOnIn_15 rfl hl (by decide) rfl (fun ls hl => ?_)
      refine lv_aload_n hx hb dX12_goesOnIn_16 rfl (lv_at hl 1 rfl) ?_
      refine r_get (v := .ref (a 9)) hx hb hown hq hE hP 17 38 tFX12_17 (by decide) pw_1439 rfl dX12_goesOnIn_17 ?_
      refine lv_iload_n hx hb dX12_goesOnIn_20 rfl (lv_at hl 2 rfl) ?_
      refine r_ldi (f := (B 9)) (j := p9) hx hb hE hP 9 (ma_9 G a _) rfl (by omega) (by decide) dX12_goesOnIn_21 ?_
      refine lv_topi (fun x530 e531 => ?_)
      obtain rfl : x530 = 42 := e531.trans ((congrFun hw9 _).trans hkd)
      refine lv_tableIn (tgt := 376) (off := 354) hx hb dX12_goesOnIn_22 (by decide) (by decide) (by decide) (by decide) ?_
      have ht1 := (hR.g42 (uc := uc0) hp hst hkd Sta.rfl hR.hp Kpt.rfl ⟨rfl, rfl, rfl⟩).1
      refine lv_aload_n hx hb dX12_goesOnIn_376 rfl (lv_at hl 1 rfl) ?_
      have hP : va_P G.1 pCl (mW G h0 a (upd (upd (upd (upd (upd (upd (upd (upd (upd (upd (upd F 87 (nI ou)) 102 (nI op)) 111 (nI tp)) 115 (nI wn)) 116 (-1)) 117 (nI fu)) 118 rs0) 119 uc0) 125 nw) 126 isn) 111 (nI tp)) (updA B 68 (B 68))) _ := hP
      have hD : va_D A (mW G h0 a (upd (upd (upd (upd (upd (upd (upd (upd (upd (upd (upd F 87 (nI ou)) 102 (nI op)) 111 (nI tp)) 115 (nI wn)) 116 (-1)) 117 (nI fu)) 118 rs0) 119 uc0) 125 nw) 126 isn) 111 (nI tp)) (updA B 68 (B 68))) := mW_D hD
      refine pc_V0 (G := G) (As := []) (rest := []) hx hb hml hown hq hE hX pX0_al hP hD hS hA hl.1 (R_pop l G h0 a (upd (upd (upd (upd (upd (upd (upd (upd (upd (upd F 87 (nI ou)) 102 (nI op)) 111 (nI tp)) 115 (nI wn)) 116 (-1)) 117 (nI fu)) 118 rs0) 119 uc0) 125 nw) 126 isn) B tp (B 68) (by omega)) (gV pw_2082 pw_2083 pw_2084 pw_1523 pw_1965) hV_X12_pop 0 9 rfl rfl rfl rfl (Nat.le_of_ble_eq_true rfl) dX12_goesOnIn_377 ⟨Nat.le_of_ble_eq_true rfl, Nat.le_of_ble_eq_true rfl⟩ ⟨Nat.le_of_ble_eq_true rfl, Nat.le_of_ble_eq_true rfl⟩ (fun v534 u532 H locs hw533 hP hD hS => ?_)
      obtain rfl : v534 = some (.int ((B 68) (tp - 1))) := hw533
      have hP : va_P G.1 pCl (mW G h0 a (upd (upd (upd (upd (upd (upd (upd (upd (upd (upd F 87 (nI ou)) 102 (nI op)) 111 (nI (tp - 1))) 115 (nI wn)) 116 (-1)) 117 (nI fu)) 118 rs0) 119 uc0) 125 nw) 126 isn) B) _ := mW_to (F := F) (l1 := [(87, (nI ou)), (102, (nI op)), (111, (nI tp)), (115, (nI wn)), (116, (-1)), (117, (nI fu)), (118, rs0), (119, uc0), (125, nw), (126, isn), (111, (nI (tp - 1)))]) (l2 := [(87, (nI ou)), (102, (nI op)), (111, (nI (tp - 1))), (115, (nI wn)), (116, (-1)), (117, (nI fu)), (118, rs0), (119, uc0), (125, nw), (126, isn)]) (V := [(nI ou), (nI op), (nI (tp - 1)), (nI wn), (-1), (nI fu), rs0, uc0, nw, isn, (nI (tp - 1)), (nI ou), (nI op), (nI (tp - 1)), (nI wn), (-1), (nI fu), rs0, uc0, nw, isn]) rfl rfl (show (updA B 68 (B 68)) = B from updsA_eq2 (F := B) (l1 := [(68, (B 68))]) (l2 := []) (V := [(B 68)]) rfl rfl) hP
      have hD : va_D A (mW G h0 a (upd (upd (upd (upd (upd (upd (upd (upd (upd (upd F 87 (nI ou)) 102 (nI op)) 111 (nI (tp - 1))) 115 (nI wn)) 116 (-1)) 117 (nI fu)) 118 rs0) 119 uc0) 125 nw) 126 isn) B) := mW_D hD
      refine W.widen (k := 0) (n := 0) (Nat.le_of_ble_eq_true rfl) (Nat.le_of_ble_eq_true rfl) ?_
      refine W.eq (g2 := F0 m 380 ls [.int ((B 68) (tp - 1))]) rfl ?_
      refine lv_istore (lv' := [(4, .int ((B 68) (tp - 1))), (3, .int 0), (0, .ref h0), (1, .int (nI p9)), (2, .int (nI n9))]) hx hb dX12_goesOnIn_380 hl (by decide) rfl (fun ls hl => ?_)
      refine lv_aload_n hx hb dX12_goesOnIn_382 rfl (lv_at hl 2 rfl) ?_
      refine r_get (v := .int (nI ou)) hx hb hown hq hE hP 87 656 tFX12_87 (by decide) pw_1924 rfl dX12_goesOnIn_383 ?_
      refine lv_sipush (v := 400) hx hb dX12_goesOnIn_386 (by decide) ?_
      refine lv_icmp_ge (tgt := 413) hx hb dX12_goesOnIn_389 (by decide) (fun c535 => ?_) (fun c535 => ?_)
      · have n536 : 400 ≤ ou := (nI_leI (a := 400) (b := ou) (by omega) (by omega)).mp c535
        refine lv_aload_n hx hb dX12_goesOnIn_413 rfl (lv_at hl 2 rfl) ?_
        refine lv_iload_n hx hb dX12_goesOnIn_414 rfl (lv_at hl 3 rfl) ?_
        have hP : va_P G.1 pCl (mW G h0 a (upd (upd (upd (upd (upd (upd (upd (upd (upd (upd F 87 (nI ou)) 102 (nI op)) 111 (nI (tp - 1))) 115 (nI wn)) 116 (-1)) 117 (nI fu)) 118 rs0) 119 uc0) 125 nw) 126 isn) B) _ := hP
        have hD : va_D A (mW G h0 a (upd (upd (upd (upd (upd (upd (upd (upd (upd (upd F 87 (nI ou)) 102 (nI op)) 111 (nI (tp - 1))) 115 (nI wn)) 116 (-1)) 117 (nI fu)) 118 rs0) 119 uc0) 125 nw) 126 isn) B) := mW_D hD
        refine pc_V0 (G := G) (As := [.int (nI p9)]) (rest := []) hx hb hml hown hq hE hX pX0_al hP hD hS hA hl.1 (R_comesToEnd l G h0 a (upd (upd (upd (upd (upd (upd (upd (upd (upd (upd F 87 (nI ou)) 102 (nI op)) 111 (nI (tp - 1))) 115 (nI wn)) 116 (-1)) 117 (nI fu)) 118 rs0) 119 uc0) 125 nw) 126 isn) B (nI p9)) (gV pw_2010 pw_2011 pw_2012 pw_1523 pw_2005) hV_X12_comesToEnd 0 9 rfl rfl rfl rfl (Nat.le_of_ble_eq_true rfl) dX12_goesOnIn_415 ⟨Nat.le_of_ble_eq_true rfl, Nat.le_of_ble_eq_true rfl⟩ ⟨Nat.le_of_ble_eq_true rfl, Nat.le_of_ble_eq_true rfl⟩ (fun v539 u537 H locs hw538 hP hD hS => ?_)
        obtain rfl : v539 = none := hw538
        have hP : va_P G.1 pCl (mW G h0 a (upd (upd (upd (upd (upd (upd (upd (upd (upd (upd F 87 (nI ou)) 102 (nI op)) 111 (nI (tp - 1))) 115 (nI wn)) 116 (-1)) 117 (nI fu)) 118 rs0) 119 uc0) 125 (nI p9)) 126 0) B) _ := mW_to (F := F) (l1 := [(87, (nI ou)), (102, (nI op)), (111, (nI (tp - 1))), (115, (nI wn)), (116, (-1)), (117, (nI fu)), (118, rs0), (119, uc0), (125, nw), (126, isn), (125, (nI p9)), (126, 0)]) (l2 := [(87, (nI ou)), (102, (nI op)), (111, (nI (tp - 1))), (115, (nI wn)), (116, (-1)), (117, (nI fu)), (118, rs0), (119, uc0), (125, (nI p9)), (126, 0)]) (V := [(nI ou), (nI op), (nI (tp - 1)), (nI wn), (-1), (nI fu), rs0, uc0, (nI p9), 0, (nI p9), 0, (nI ou), (nI op), (nI (tp - 1)), (nI wn), (-1), (nI fu), rs0, uc0, (nI p9), 0]) rfl rfl rfl hP
        have hD : va_D A (mW G h0 a (upd (upd (upd (upd (upd (upd (upd (upd (upd (upd F 87 (nI ou)) 102 (nI op)) 111 (nI (tp - 1))) 115 (nI wn)) 116 (-1)) 117 (nI fu)) 118 rs0) 119 uc0) 125 (nI p9)) 126 0) B) := mW_D hD
        refine W.widen (k := 0) (n := 0) (Nat.le_of_ble_eq_true rfl) (Nat.le_of_ble_eq_true rfl) ?_
        refine W.eq (g2 := F0 m 418 ls []) rfl ?_
        refine lv_goto (tgt := 452) hx hb dX12_goesOnIn_418 (by decide) ?_
        have hz540 : Nx Xs B gh nd T nm wr lz dc fd md pr bk M rmm fu (Phi gh ps op (rkN gh n9 true)) op (tp - 1) wn fu rd on idn fl ct ((-1) : Int32) (nI p9) (0 : Int32) uc0 := (hR.g42 hp hst hkd Sta.rfl hR.hp Kpt.rfl ⟨rfl, rfl, rfl⟩).2
        have hz541 : ou ≤ 400 := (by omega)
        have hP : va_P G.1 pCl (mW G h0 a (upd (upd (upd (upd (upd (upd (upd (upd (upd (upd F 87 (nI ou)) 102 (nI op)) 111 (nI (tp - 1))) 115 (nI wn)) 116 ((-1) : Int32)) 117 (nI fu)) 118 rs0) 119 uc0) 125 (nI p9)) 126 (0 : Int32)) B) _ := mW_to (F := F) (l1 := [(87, (nI ou)), (102, (nI op)), (111, (nI (tp - 1))), (115, (nI wn)), (116, (-1)), (117, (nI fu)), (118, rs0), (119, uc0), (125, (nI p9)), (126, 0)]) (l2 := [(87, (nI ou)), (102, (nI op)), (111, (nI (tp - 1))), (115, (nI wn)), (116, ((-1) : Int32)), (117, (nI fu)), (118, rs0), (119, uc0), (125, (nI p9)), (126, (0 : Int32))]) (V := [(nI ou), (nI op), (nI (tp - 1)), (nI wn), ((-1) : Int32), (nI fu), rs0, uc0, (nI p9), (0 : Int32), (nI ou), (nI op), (nI (tp - 1)), (nI wn), ((-1) : Int32), (nI fu), rs0, uc0, (nI p9), (0 : Int32)]) rfl rfl rfl hP
        have hD : va_D A (mW G h0 a (upd (upd (upd (upd (upd (upd (upd (upd (upd (upd F 87 (nI ou)) 102 (nI op)) 111 (nI (tp - 1))) 115 (nI wn)) 116 ((-1) : Int32)) 117 (nI fu)) 118 rs0) 119 uc0) 125 (nI p9)) 126 (0 : Int32)) B) := mW_D hD
        exact W.vret hx hb hr (fun t9 ht9 hW9 => ⟨⟨_, (op, (tp - 1), wn, fu, ((-1) : Int32), (nI p9), (0 : Int32), rs0, uc0, ou, B), rfl, ⟨rfl, hz540, hz541⟩, by rw [ht9]; exact hP, hD⟩, hS.F ht9⟩) hS.2.2 dX12_goesOnIn_452
      · have n542 : ¬ (400 ≤ ou) := fun h9 => c535 ((nI_leI (a := 400) (b := ou) (by omega) (by omega)).mpr h9)
        refine lv_aload_n hx hb dX12_goesOnIn_392 rfl (lv_at hl 2 rfl) ?_
        refine r_get (v := .ref (a 51)) hx hb hown hq hE hP 86 165 tFX12_86 (by decide) pw_1482 rfl dX12_goesOnIn_393 ?_
        refine lv_aload_n hx hb dX12_goesOnIn_396 rfl (lv_at hl 2 rfl) ?_
        refine r_get (v := .int (nI ou)) hx hb hown hq hE hP 87 656 tFX12_87 (by decide) pw_1924 rfl dX12_goesOnIn_397 ?_
        refine lv_iload hx hb dX12_goesOnIn_400 (lv_at hl 0 rfl) ?_
        refine r_sti (f := (B 51)) (j := ou) hx hb hE hP hD hS 51 (ma_51 G a _) rfl (mas_51 G a _) (by omega) (by decide) dX12_goesOnIn_402 (fun H locs hP hD hS => ?_)
        refine lv_aload_n hx hb dX12_goesOnIn_403 rfl (lv_at hl 2 rfl) ?_
        refine lv_dup hx hb dX12_goesOnIn_404 rfl ?_
        refine r_get (v := .int (nI ou)) hx hb hown hq hE hP 87 656 tFX12_87 (by decide) pw_1924 rfl dX12_goesOnIn_405 ?_
        refine lv_iconst (v := 1) hx hb dX12_goesOnIn_408 (by decide) ?_
        refine lv_iadd hx hb dX12_goesOnIn_409 ?_
        refine lv_topi (fun x543 e544 => ?_)
        obtain rfl : x543 = nI (ou + 1) := e544.trans (nI_add (ou) (1))
        refine r_put (v := (nI (ou + 1))) (ty := .int) hx hb hown hq hE hP hD hS 87 656 tFX12_87 (by decide) pw_1924 (by decide) rfl rfl (ms_87 a _ _) dX12_goesOnIn_410 (fun H locs hP hD hS => ?_)
        refine lv_aload_n hx hb dX12_goesOnIn_413 rfl (lv_at hl 2 rfl) ?_
        refine lv_iload_n hx hb dX12_goesOnIn_414 rfl (lv_at hl 3 rfl) ?_
        have hP : va_P G.1 pCl (mW G h0 a (upd (upd (upd (upd (upd (upd (upd (upd (upd (upd F 87 (nI (ou + 1))) 102 (nI op)) 111 (nI (tp - 1))) 115 (nI wn)) 116 (-1)) 117 (nI fu)) 118 rs0) 119 uc0) 125 nw) 126 isn) (updA B 51 (upd (B 51) ou ((B 68) (tp - 1))))) _ := mW_to (F := F) (l1 := [(87, (nI ou)), (102, (nI op)), (111, (nI (tp - 1))), (115, (nI wn)), (116, (-1)), (117, (nI fu)), (118, rs0), (119, uc0), (125, nw), (126, isn), (87, (nI (ou + 1)))]) (l2 := [(87, (nI (ou + 1))), (102, (nI op)), (111, (nI (tp - 1))), (115, (nI wn)), (116, (-1)), (117, (nI fu)), (118, rs0), (119, uc0), (125, nw), (126, isn)]) (V := [(nI (ou + 1)), (nI op), (nI (tp - 1)), (nI wn), (-1), (nI fu), rs0, uc0, nw, isn, (nI (ou + 1)), (nI (ou + 1)), (nI op), (nI (tp - 1)), (nI wn), (-1), (nI fu), rs0, uc0, nw, isn]) rfl rfl rfl hP
        have hD : va_D A (mW G h0 a (upd (upd (upd (upd (upd (upd (upd (upd (upd (upd F 87 (nI (ou + 1))) 102 (nI op)) 111 (nI (tp - 1))) 115 (nI wn)) 116 (-1)) 117 (nI fu)) 118 rs0) 119 uc0) 125 nw) 126 isn) (updA B 51 (upd (B 51) ou ((B 68) (tp - 1))))) := mW_D hD
        refine pc_V0 (G := G) (As := [.int (nI p9)]) (rest := []) hx hb hml hown hq hE hX pX0_al hP hD hS hA hl.1 (R_comesToEnd l G h0 a (upd (upd (upd (upd (upd (upd (upd (upd (upd (upd F 87 (nI (ou + 1))) 102 (nI op)) 111 (nI (tp - 1))) 115 (nI wn)) 116 (-1)) 117 (nI fu)) 118 rs0) 119 uc0) 125 nw) 126 isn) (updA B 51 (upd (B 51) ou ((B 68) (tp - 1)))) (nI p9)) (gV pw_2010 pw_2011 pw_2012 pw_1523 pw_2005) hV_X12_comesToEnd 0 9 rfl rfl rfl rfl (Nat.le_of_ble_eq_true rfl) dX12_goesOnIn_415 ⟨Nat.le_of_ble_eq_true rfl, Nat.le_of_ble_eq_true rfl⟩ ⟨Nat.le_of_ble_eq_true rfl, Nat.le_of_ble_eq_true rfl⟩ (fun v547 u545 H locs hw546 hP hD hS => ?_)
        obtain rfl : v547 = none := hw546
        have hP : va_P G.1 pCl (mW G h0 a (upd (upd (upd (upd (upd (upd (upd (upd (upd (upd F 87 (nI (ou + 1))) 102 (nI op)) 111 (nI (tp - 1))) 115 (nI wn)) 116 (-1)) 117 (nI fu)) 118 rs0) 119 uc0) 125 (nI p9)) 126 0) (updA B 51 (upd (B 51) ou ((B 68) (tp - 1))))) _ := mW_to (F := F) (l1 := [(87, (nI (ou + 1))), (102, (nI op)), (111, (nI (tp - 1))), (115, (nI wn)), (116, (-1)), (117, (nI fu)), (118, rs0), (119, uc0), (125, nw), (126, isn), (125, (nI p9)), (126, 0)]) (l2 := [(87, (nI (ou + 1))), (102, (nI op)), (111, (nI (tp - 1))), (115, (nI wn)), (116, (-1)), (117, (nI fu)), (118, rs0), (119, uc0), (125, (nI p9)), (126, 0)]) (V := [(nI (ou + 1)), (nI op), (nI (tp - 1)), (nI wn), (-1), (nI fu), rs0, uc0, (nI p9), 0, (nI p9), 0, (nI (ou + 1)), (nI op), (nI (tp - 1)), (nI wn), (-1), (nI fu), rs0, uc0, (nI p9), 0]) rfl rfl rfl hP
        have hD : va_D A (mW G h0 a (upd (upd (upd (upd (upd (upd (upd (upd (upd (upd F 87 (nI (ou + 1))) 102 (nI op)) 111 (nI (tp - 1))) 115 (nI wn)) 116 (-1)) 117 (nI fu)) 118 rs0) 119 uc0) 125 (nI p9)) 126 0) (updA B 51 (upd (B 51) ou ((B 68) (tp - 1))))) := mW_D hD
        refine W.widen (k := 0) (n := 0) (Nat.le_of_ble_eq_true rfl) (Nat.le_of_ble_eq_true rfl) ?_
        refine W.eq (g2 := F0 m 418 ls []) rfl ?_
        refine lv_goto (tgt := 452) hx hb dX12_goesOnIn_418 (by decide) ?_
        have hz548 : Nx Xs (updA B 51 (upd (B 51) ou ((B 68) (tp - 1)))) gh nd T nm wr lz dc fd md pr bk M rmm fu (Phi gh ps op (rkN gh n9 true)) op (tp - 1) wn fu rd on idn fl ct ((-1) : Int32) (nI p9) (0 : Int32) uc0 := (hR.g42 hp hst hkd (Sta.out Sta.rfl) hR.hp ⟨⟨rfl, rfl, rfl, rfl, rfl, rfl⟩, ⟨rfl, rfl, rfl, fun _ _ => rfl⟩, fun _ _ => ⟨rfl, rfl⟩, fun _ _ => ⟨rfl, rfl⟩, fun _ _ => ⟨rfl, rfl, rfl⟩⟩ ⟨rfl, rfl, rfl⟩).2
        have hz549 : (ou + 1) ≤ 400 := (by omega)
        have hP : va_P G.1 pCl (mW G h0 a (upd (upd (upd (upd (upd (upd (upd (upd (upd (upd F 87 (nI (ou + 1))) 102 (nI op)) 111 (nI (tp - 1))) 115 (nI wn)) 116 ((-1) : Int32)) 117 (nI fu)) 118 rs0) 119 uc0) 125 (nI p9)) 126 (0 : Int32)) (updA B 51 (upd (B 51) ou ((B 68) (tp - 1))))) _ := mW_to (F := F) (l1 := [(87, (nI (ou + 1))), (102, (nI op)), (111, (nI (tp - 1))), (115, (nI wn)), (116, (-1)), (117, (nI fu)), (118, rs0), (119, uc0), (125, (nI p9)), (126, 0)]) (l2 := [(87, (nI (ou + 1))), (102, (nI op)), (111, (nI (tp - 1))), (115, (nI wn)), (116, ((-1) : Int32)), (117, (nI fu)), (118, rs0), (119, uc0), (125, (nI p9)), (126, (0 : Int32))]) (V := [(nI (ou + 1)), (nI op), (nI (tp - 1)), (nI wn), ((-1) : Int32), (nI fu), rs0, uc0, (nI p9), (0 : Int32), (nI (ou + 1)), (nI op), (nI (tp - 1)), (nI wn), ((-1) : Int32), (nI fu), rs0, uc0, (nI p9), (0 : Int32)]) rfl rfl rfl hP
        have hD : va_D A (mW G h0 a (upd (upd (upd (upd (upd (upd (upd (upd (upd (upd F 87 (nI (ou + 1))) 102 (nI op)) 111 (nI (tp - 1))) 115 (nI wn)) 116 ((-1) : Int32)) 117 (nI fu)) 118 rs0) 119 uc0) 125 (nI p9)) 126 (0 : Int32)) (updA B 51 (upd (B 51) ou ((B 68) (tp - 1))))) := mW_D hD
        exact W.vret hx hb hr (fun t9 ht9 hW9 => ⟨⟨_, (op, (tp - 1), wn, fu, ((-1) : Int32), (nI p9), (0 : Int32), rs0, uc0, (ou + 1), (updA B 51 (upd (B 51) ou ((B 68) (tp - 1))))), rfl, ⟨rfl, hz548, hz549⟩, by rw [ht9]; exact hP, hD⟩, hS.F ht9⟩) hS.2.2 dX12_goesOnIn_452
  · exact (hR.kid0 hp hst hkd (by omega) (by decide)).elim
  · by_cases hfi : Xs 12 p9 = nI n9
    · refine lv_iload_n hx hb dX12_goesOnIn_0 rfl (lv_at hl 2 rfl) ?_
      refine lv_aload_n hx hb dX12_goesOnIn_1 rfl (lv_at hl 0 rfl) ?_
      refine r_get (v := .ref (a 12)) hx hb hown hq hE hP 20 47 tFX12_20 (by decide) pw_1442 rfl dX12_goesOnIn_2 ?_
      refine lv_iload_n hx hb dX12_goesOnIn_5 rfl (lv_at hl 1 rfl) ?_
      refine r_ldi (f := (B 12)) (j := p9) hx hb hE hP 12 (ma_12 G a _) rfl (by omega) (by decide) dX12_goesOnIn_6 ?_
      refine lv_topi (fun x550 e551 => ?_)
      obtain rfl : x550 = nI n9 := e551.trans ((congrFun hw12 _).trans hfi)
      refine lv_icmp_ne (tgt := 14) hx hb dX12_goesOnIn_7 (by decide) (fun c552 => absurd rfl c552) (fun c552 => ?_)
      refine lv_iconst (v := 1) hx hb dX12_goesOnIn_10 (by decide) ?_
      refine lv_goto (tgt := 15) hx hb dX12_goesOnIn_11 (by decide) ?_
      refine lv_istore_n (lv' := [(3, .int 1), (0, .ref h0), (1, .int (nI p9)), (2, .int (nI n9))]) hx hb dX12_goesOnIn_15 rfl hl (by decide) rfl (fun ls hl => ?_)
      refine lv_aload_n hx hb dX12_goesOnIn_16 rfl (lv_at hl 1 rfl) ?_
      refine r_get (v := .ref (a 9)) hx hb hown hq hE hP 17 38 tFX12_17 (by decide) pw_1439 rfl dX12_goesOnIn_17 ?_
      refine lv_iload_n hx hb dX12_goesOnIn_20 rfl (lv_at hl 2 rfl) ?_
      refine r_ldi (f := (B 9)) (j := p9) hx hb hE hP 9 (ma_9 G a _) rfl (by omega) (by decide) dX12_goesOnIn_21 ?_
      refine lv_topi (fun x553 e554 => ?_)
      obtain rfl : x553 = 44 := e554.trans ((congrFun hw9 _).trans hkd)
      refine lv_tableIn (tgt := 421) (off := 399) hx hb dX12_goesOnIn_22 (by decide) (by decide) (by decide) (by decide) ?_
      obtain ⟨v9, hs1, hs2, hs3⟩ := hR.g44 (uc := uc0) hp hst hkd
      refine lv_aload_n hx hb dX12_goesOnIn_421 rfl (lv_at hl 1 rfl) ?_
      refine r_get (v := .ref (a 63)) hx hb hown hq hE hP 104 202 tFX12_104 (by decide) pw_1495 rfl dX12_goesOnIn_422 ?_
      refine lv_aload_n hx hb dX12_goesOnIn_425 rfl (lv_at hl 1 rfl) ?_
      refine r_get (v := .int (nI op)) hx hb hown hq hE hP 102 707 tFX12_102 (by decide) pw_1969 rfl dX12_goesOnIn_426 ?_
      refine lv_iconst (v := 1) hx hb dX12_goesOnIn_429 (by decide) ?_
      refine lv_isub hx hb dX12_goesOnIn_430 ?_
      refine lv_topi (fun x555 e556 => ?_)
      obtain rfl : x555 = nI (op - 1) := e556.trans (nI_subN (a := 1) (b := op) (by omega))
      refine lv_aload_n hx hb dX12_goesOnIn_431 rfl (lv_at hl 1 rfl) ?_
      refine r_get (v := .ref (a 18)) hx hb hown hq hE hP 26 65 tFX12_26 (by decide) pw_1448 rfl dX12_goesOnIn_432 ?_
      refine lv_iload_n hx hb dX12_goesOnIn_435 rfl (lv_at hl 2 rfl) ?_
      refine r_ldi (f := (B 18)) (j := p9) hx hb hE hP 18 (ma_18 G a _) rfl (by omega) (by decide) dX12_goesOnIn_436 ?_
      refine lv_topi (fun x557 e558 => ?_)
      obtain rfl : x557 = nI v9 := e558.trans hs1
      refine r_sti (f := (B 63)) (j := (op - 1)) hx hb hE hP hD hS 63 (ma_63 G a _) rfl (mas_63 G a _) (by omega) (by decide) dX12_goesOnIn_437 (fun H locs hP hD hS => ?_)
      refine lv_aload_n hx hb dX12_goesOnIn_438 rfl (lv_at hl 1 rfl) ?_
      refine lv_iload_n hx hb dX12_goesOnIn_439 rfl (lv_at hl 2 rfl) ?_
      have hP : va_P G.1 pCl (mW G h0 a (upd (upd (upd (upd (upd (upd (upd (upd (upd (upd F 87 (nI ou)) 102 (nI op)) 111 (nI tp)) 115 (nI wn)) 116 (-1)) 117 (nI fu)) 118 rs0) 119 uc0) 125 nw) 126 isn) (updA B 63 (upd (B 63) (op - 1) (nI v9)))) _ := hP
      have hD : va_D A (mW G h0 a (upd (upd (upd (upd (upd (upd (upd (upd (upd (upd F 87 (nI ou)) 102 (nI op)) 111 (nI tp)) 115 (nI wn)) 116 (-1)) 117 (nI fu)) 118 rs0) 119 uc0) 125 nw) 126 isn) (updA B 63 (upd (B 63) (op - 1) (nI v9)))) := mW_D hD
      refine pc_V0 (G := G) (As := [.int (nI p9)]) (rest := []) hx hb hml hown hq hE hX pX0_al hP hD hS hA hl.1 (R_comesToEnd l G h0 a (upd (upd (upd (upd (upd (upd (upd (upd (upd (upd F 87 (nI ou)) 102 (nI op)) 111 (nI tp)) 115 (nI wn)) 116 (-1)) 117 (nI fu)) 118 rs0) 119 uc0) 125 nw) 126 isn) (updA B 63 (upd (B 63) (op - 1) (nI v9))) (nI p9)) (gV pw_2010 pw_2011 pw_2012 pw_1523 pw_2005) hV_X12_comesToEnd 0 9 rfl rfl rfl rfl (Nat.le_of_ble_eq_true rfl) dX12_goesOnIn_440 ⟨Nat.le_of_ble_eq_true rfl, Nat.le_of_ble_eq_true rfl⟩ ⟨Nat.le_of_ble_eq_true rfl, Nat.le_of_ble_eq_true rfl⟩ (fun v561 u559 H locs hw560 hP hD hS => ?_)
      obtain rfl : v561 = none := hw560
      have hP : va_P G.1 pCl (mW G h0 a (upd (upd (upd (upd (upd (upd (upd (upd (upd (upd F 87 (nI ou)) 102 (nI op)) 111 (nI tp)) 115 (nI wn)) 116 (-1)) 117 (nI fu)) 118 rs0) 119 uc0) 125 (nI p9)) 126 0) (updA B 63 (upd (B 63) (op - 1) (nI v9)))) _ := mW_to (F := F) (l1 := [(87, (nI ou)), (102, (nI op)), (111, (nI tp)), (115, (nI wn)), (116, (-1)), (117, (nI fu)), (118, rs0), (119, uc0), (125, nw), (126, isn), (125, (nI p9)), (126, 0)]) (l2 := [(87, (nI ou)), (102, (nI op)), (111, (nI tp)), (115, (nI wn)), (116, (-1)), (117, (nI fu)), (118, rs0), (119, uc0), (125, (nI p9)), (126, 0)]) (V := [(nI ou), (nI op), (nI tp), (nI wn), (-1), (nI fu), rs0, uc0, (nI p9), 0, (nI p9), 0, (nI ou), (nI op), (nI tp), (nI wn), (-1), (nI fu), rs0, uc0, (nI p9), 0]) rfl rfl rfl hP
      have hD : va_D A (mW G h0 a (upd (upd (upd (upd (upd (upd (upd (upd (upd (upd F 87 (nI ou)) 102 (nI op)) 111 (nI tp)) 115 (nI wn)) 116 (-1)) 117 (nI fu)) 118 rs0) 119 uc0) 125 (nI p9)) 126 0) (updA B 63 (upd (B 63) (op - 1) (nI v9)))) := mW_D hD
      refine W.widen (k := 0) (n := 0) (Nat.le_of_ble_eq_true rfl) (Nat.le_of_ble_eq_true rfl) ?_
      refine W.eq (g2 := F0 m 443 ls []) rfl ?_
      refine lv_goto (tgt := 452) hx hb dX12_goesOnIn_443 (by decide) ?_
      have hz562 : Nx Xs (updA B 63 (upd (B 63) (op - 1) (nI v9))) gh nd T nm wr lz dc fd md pr bk M rmm fu (Phi gh ps op (rkN gh n9 true)) op tp wn fu rd on idn fl ct ((-1) : Int32) (nI p9) (0 : Int32) uc0 := hs3
      have hz563 : ou ≤ 400 := (by omega)
      have hP : va_P G.1 pCl (mW G h0 a (upd (upd (upd (upd (upd (upd (upd (upd (upd (upd F 87 (nI ou)) 102 (nI op)) 111 (nI tp)) 115 (nI wn)) 116 ((-1) : Int32)) 117 (nI fu)) 118 rs0) 119 uc0) 125 (nI p9)) 126 (0 : Int32)) (updA B 63 (upd (B 63) (op - 1) (nI v9)))) _ := mW_to (F := F) (l1 := [(87, (nI ou)), (102, (nI op)), (111, (nI tp)), (115, (nI wn)), (116, (-1)), (117, (nI fu)), (118, rs0), (119, uc0), (125, (nI p9)), (126, 0)]) (l2 := [(87, (nI ou)), (102, (nI op)), (111, (nI tp)), (115, (nI wn)), (116, ((-1) : Int32)), (117, (nI fu)), (118, rs0), (119, uc0), (125, (nI p9)), (126, (0 : Int32))]) (V := [(nI ou), (nI op), (nI tp), (nI wn), ((-1) : Int32), (nI fu), rs0, uc0, (nI p9), (0 : Int32), (nI ou), (nI op), (nI tp), (nI wn), ((-1) : Int32), (nI fu), rs0, uc0, (nI p9), (0 : Int32)]) rfl rfl rfl hP
      have hD : va_D A (mW G h0 a (upd (upd (upd (upd (upd (upd (upd (upd (upd (upd F 87 (nI ou)) 102 (nI op)) 111 (nI tp)) 115 (nI wn)) 116 ((-1) : Int32)) 117 (nI fu)) 118 rs0) 119 uc0) 125 (nI p9)) 126 (0 : Int32)) (updA B 63 (upd (B 63) (op - 1) (nI v9)))) := mW_D hD
      exact W.vret hx hb hr (fun t9 ht9 hW9 => ⟨⟨_, (op, tp, wn, fu, ((-1) : Int32), (nI p9), (0 : Int32), rs0, uc0, ou, (updA B 63 (upd (B 63) (op - 1) (nI v9)))), rfl, ⟨rfl, hz562, hz563⟩, by rw [ht9]; exact hP, hD⟩, hS.F ht9⟩) hS.2.2 dX12_goesOnIn_452
    · refine lv_iload_n hx hb dX12_goesOnIn_0 rfl (lv_at hl 2 rfl) ?_
      refine lv_aload_n hx hb dX12_goesOnIn_1 rfl (lv_at hl 0 rfl) ?_
      refine r_get (v := .ref (a 12)) hx hb hown hq hE hP 20 47 tFX12_20 (by decide) pw_1442 rfl dX12_goesOnIn_2 ?_
      refine lv_iload_n hx hb dX12_goesOnIn_5 rfl (lv_at hl 1 rfl) ?_
      refine r_ldi (f := (B 12)) (j := p9) hx hb hE hP 12 (ma_12 G a _) rfl (by omega) (by decide) dX12_goesOnIn_6 ?_
      refine lv_icmp_ne (tgt := 14) hx hb dX12_goesOnIn_7 (by decide) (fun c564 => ?_) (fun c564 => absurd ((congrFun hw12 _).symm.trans c564.symm) hfi)
      refine lv_iconst (v := 0) hx hb dX12_goesOnIn_14 (by decide) ?_
      refine lv_istore_n (lv' := [(3, .int 0), (0, .ref h0), (1, .int (nI p9)), (2, .int (nI n9))]) hx hb dX12_goesOnIn_15 rfl hl (by decide) rfl (fun ls hl => ?_)
      refine lv_aload_n hx hb dX12_goesOnIn_16 rfl (lv_at hl 1 rfl) ?_
      refine r_get (v := .ref (a 9)) hx hb hown hq hE hP 17 38 tFX12_17 (by decide) pw_1439 rfl dX12_goesOnIn_17 ?_
      refine lv_iload_n hx hb dX12_goesOnIn_20 rfl (lv_at hl 2 rfl) ?_
      refine r_ldi (f := (B 9)) (j := p9) hx hb hE hP 9 (ma_9 G a _) rfl (by omega) (by decide) dX12_goesOnIn_21 ?_
      refine lv_topi (fun x565 e566 => ?_)
      obtain rfl : x565 = 44 := e566.trans ((congrFun hw9 _).trans hkd)
      refine lv_tableIn (tgt := 421) (off := 399) hx hb dX12_goesOnIn_22 (by decide) (by decide) (by decide) (by decide) ?_
      obtain ⟨v9, hs1, hs2, hs3⟩ := hR.g44 (uc := uc0) hp hst hkd
      refine lv_aload_n hx hb dX12_goesOnIn_421 rfl (lv_at hl 1 rfl) ?_
      refine r_get (v := .ref (a 63)) hx hb hown hq hE hP 104 202 tFX12_104 (by decide) pw_1495 rfl dX12_goesOnIn_422 ?_
      refine lv_aload_n hx hb dX12_goesOnIn_425 rfl (lv_at hl 1 rfl) ?_
      refine r_get (v := .int (nI op)) hx hb hown hq hE hP 102 707 tFX12_102 (by decide) pw_1969 rfl dX12_goesOnIn_426 ?_
      refine lv_iconst (v := 1) hx hb dX12_goesOnIn_429 (by decide) ?_
      refine lv_isub hx hb dX12_goesOnIn_430 ?_
      refine lv_topi (fun x567 e568 => ?_)
      obtain rfl : x567 = nI (op - 1) := e568.trans (nI_subN (a := 1) (b := op) (by omega))
      refine lv_aload_n hx hb dX12_goesOnIn_431 rfl (lv_at hl 1 rfl) ?_
      refine r_get (v := .ref (a 18)) hx hb hown hq hE hP 26 65 tFX12_26 (by decide) pw_1448 rfl dX12_goesOnIn_432 ?_
      refine lv_iload_n hx hb dX12_goesOnIn_435 rfl (lv_at hl 2 rfl) ?_
      refine r_ldi (f := (B 18)) (j := p9) hx hb hE hP 18 (ma_18 G a _) rfl (by omega) (by decide) dX12_goesOnIn_436 ?_
      refine lv_topi (fun x569 e570 => ?_)
      obtain rfl : x569 = nI v9 := e570.trans hs1
      refine r_sti (f := (B 63)) (j := (op - 1)) hx hb hE hP hD hS 63 (ma_63 G a _) rfl (mas_63 G a _) (by omega) (by decide) dX12_goesOnIn_437 (fun H locs hP hD hS => ?_)
      refine lv_aload_n hx hb dX12_goesOnIn_438 rfl (lv_at hl 1 rfl) ?_
      refine lv_iload_n hx hb dX12_goesOnIn_439 rfl (lv_at hl 2 rfl) ?_
      have hP : va_P G.1 pCl (mW G h0 a (upd (upd (upd (upd (upd (upd (upd (upd (upd (upd F 87 (nI ou)) 102 (nI op)) 111 (nI tp)) 115 (nI wn)) 116 (-1)) 117 (nI fu)) 118 rs0) 119 uc0) 125 nw) 126 isn) (updA B 63 (upd (B 63) (op - 1) (nI v9)))) _ := hP
      have hD : va_D A (mW G h0 a (upd (upd (upd (upd (upd (upd (upd (upd (upd (upd F 87 (nI ou)) 102 (nI op)) 111 (nI tp)) 115 (nI wn)) 116 (-1)) 117 (nI fu)) 118 rs0) 119 uc0) 125 nw) 126 isn) (updA B 63 (upd (B 63) (op - 1) (nI v9)))) := mW_D hD
      refine pc_V0 (G := G) (As := [.int (nI p9)]) (rest := []) hx hb hml hown hq hE hX pX0_al hP hD hS hA hl.1 (R_comesToEnd l G h0 a (upd (upd (upd (upd (upd (upd (upd (upd (upd (upd F 87 (nI ou)) 102 (nI op)) 111 (nI tp)) 115 (nI wn)) 116 (-1)) 117 (nI fu)) 118 rs0) 119 uc0) 125 nw) 126 isn) (updA B 63 (upd (B 63) (op - 1) (nI v9))) (nI p9)) (gV pw_2010 pw_2011 pw_2012 pw_1523 pw_2005) hV_X12_comesToEnd 0 9 rfl rfl rfl rfl (Nat.le_of_ble_eq_true rfl) dX12_goesOnIn_440 ⟨Nat.le_of_ble_eq_true rfl, Nat.le_of_ble_eq_true rfl⟩ ⟨Nat.le_of_ble_eq_true rfl, Nat.le_of_ble_eq_true rfl⟩ (fun v573 u571 H locs hw572 hP hD hS => ?_)
      obtain rfl : v573 = none := hw572
      have hP : va_P G.1 pCl (mW G h0 a (upd (upd (upd (upd (upd (upd (upd (upd (upd (upd F 87 (nI ou)) 102 (nI op)) 111 (nI tp)) 115 (nI wn)) 116 (-1)) 117 (nI fu)) 118 rs0) 119 uc0) 125 (nI p9)) 126 0) (updA B 63 (upd (B 63) (op - 1) (nI v9)))) _ := mW_to (F := F) (l1 := [(87, (nI ou)), (102, (nI op)), (111, (nI tp)), (115, (nI wn)), (116, (-1)), (117, (nI fu)), (118, rs0), (119, uc0), (125, nw), (126, isn), (125, (nI p9)), (126, 0)]) (l2 := [(87, (nI ou)), (102, (nI op)), (111, (nI tp)), (115, (nI wn)), (116, (-1)), (117, (nI fu)), (118, rs0), (119, uc0), (125, (nI p9)), (126, 0)]) (V := [(nI ou), (nI op), (nI tp), (nI wn), (-1), (nI fu), rs0, uc0, (nI p9), 0, (nI p9), 0, (nI ou), (nI op), (nI tp), (nI wn), (-1), (nI fu), rs0, uc0, (nI p9), 0]) rfl rfl rfl hP
      have hD : va_D A (mW G h0 a (upd (upd (upd (upd (upd (upd (upd (upd (upd (upd F 87 (nI ou)) 102 (nI op)) 111 (nI tp)) 115 (nI wn)) 116 (-1)) 117 (nI fu)) 118 rs0) 119 uc0) 125 (nI p9)) 126 0) (updA B 63 (upd (B 63) (op - 1) (nI v9)))) := mW_D hD
      refine W.widen (k := 0) (n := 0) (Nat.le_of_ble_eq_true rfl) (Nat.le_of_ble_eq_true rfl) ?_
      refine W.eq (g2 := F0 m 443 ls []) rfl ?_
      refine lv_goto (tgt := 452) hx hb dX12_goesOnIn_443 (by decide) ?_
      have hz574 : Nx Xs (updA B 63 (upd (B 63) (op - 1) (nI v9))) gh nd T nm wr lz dc fd md pr bk M rmm fu (Phi gh ps op (rkN gh n9 true)) op tp wn fu rd on idn fl ct ((-1) : Int32) (nI p9) (0 : Int32) uc0 := hs3
      have hz575 : ou ≤ 400 := (by omega)
      have hP : va_P G.1 pCl (mW G h0 a (upd (upd (upd (upd (upd (upd (upd (upd (upd (upd F 87 (nI ou)) 102 (nI op)) 111 (nI tp)) 115 (nI wn)) 116 ((-1) : Int32)) 117 (nI fu)) 118 rs0) 119 uc0) 125 (nI p9)) 126 (0 : Int32)) (updA B 63 (upd (B 63) (op - 1) (nI v9)))) _ := mW_to (F := F) (l1 := [(87, (nI ou)), (102, (nI op)), (111, (nI tp)), (115, (nI wn)), (116, (-1)), (117, (nI fu)), (118, rs0), (119, uc0), (125, (nI p9)), (126, 0)]) (l2 := [(87, (nI ou)), (102, (nI op)), (111, (nI tp)), (115, (nI wn)), (116, ((-1) : Int32)), (117, (nI fu)), (118, rs0), (119, uc0), (125, (nI p9)), (126, (0 : Int32))]) (V := [(nI ou), (nI op), (nI tp), (nI wn), ((-1) : Int32), (nI fu), rs0, uc0, (nI p9), (0 : Int32), (nI ou), (nI op), (nI tp), (nI wn), ((-1) : Int32), (nI fu), rs0, uc0, (nI p9), (0 : Int32)]) rfl rfl rfl hP
      have hD : va_D A (mW G h0 a (upd (upd (upd (upd (upd (upd (upd (upd (upd (upd F 87 (nI ou)) 102 (nI op)) 111 (nI tp)) 115 (nI wn)) 116 ((-1) : Int32)) 117 (nI fu)) 118 rs0) 119 uc0) 125 (nI p9)) 126 (0 : Int32)) (updA B 63 (upd (B 63) (op - 1) (nI v9)))) := mW_D hD
      exact W.vret hx hb hr (fun t9 ht9 hW9 => ⟨⟨_, (op, tp, wn, fu, ((-1) : Int32), (nI p9), (0 : Int32), rs0, uc0, ou, (updA B 63 (upd (B 63) (op - 1) (nI v9)))), rfl, ⟨rfl, hz574, hz575⟩, by rw [ht9]; exact hP, hD⟩, hS.F ht9⟩) hS.2.2 dX12_goesOnIn_452

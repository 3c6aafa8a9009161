section BGN
variable {X Y : Nat → Nat → Int32} {gh : Nat → Nat → Nat} {nd T nm wr lz dc fd md pr bk rmm op tp wn fu rd on idn fl ct j kk : Nat} {M : MTb} {mt ps : Nat → Nat} {yy : Nat → Ps} {bf wf : Nat → Nat} {uc : Int32}
theorem Rn.bK (h : Rn X Y gh nd T nm wr lz dc fd md pr bk M rmm op tp wn fu rd on idn fl ct j false mt ps yy bf wf) (ek : X 9 j = nI kk) (k4 : kk ≤ 44) (hc : 100 ≤ cdOf kk 1 ∧ cdOf kk 1 < 200) (hn : nch kk 1 = false) (h8 : kcl (cdOf kk 1 % 100) 44 = false) (e1 : cenv X j (yy (op - 1)).1 kk 1 0 = (yy (op - 1)).1) (e2 : pnL X j (yy (op - 1)).2.1 kk 1 0 = (yy (op - 1)).2.1) (e3 : ¬ (kk = 41 ∧ 1 = 3)) : ∃ j1 : Nat, X 12 j = nI j1 ∧ j1 < nd ∧ Nx X Y gh nd T nm wr lz dc fd md pr bk M rmm fu (Phi gh ps op (rkN gh j false)) op tp wn fu rd on idn fl ct (-1) (nI j1) 1 uc := by
  have b := h.pg.bd
  obtain ⟨c, c1, c2, _⟩ := h.pg.fs.kid h.room.2.2.1 ek k4 (s := 1) (by omega) (by omega) hc (by omega)
  exact h.bA ek k4 (s := 1) (by omega) (by omega) hc.2 hn h8 e1 e2 e3 (by rw [c1]; exact nI_m1 (by omega))
end BGN
theorem dX12_beginsNow_0 : decode cX12_beginsNow 0 = .ok (.aload_n 0, 1) := by decide +kernel
theorem dX12_beginsNow_1 : decode cX12_beginsNow 1 = .ok (.getfield 38, 3) := by decide +kernel
theorem dX12_beginsNow_4 : decode cX12_beginsNow 4 = .ok (.iload_n 1, 1) := by decide +kernel
theorem dX12_beginsNow_5 : decode cX12_beginsNow 5 = .ok (.iaload, 1) := by decide +kernel
theorem dX12_beginsNow_6 : decode cX12_beginsNow 6 = .ok (.istore_n 2, 1) := by decide +kernel
theorem dX12_beginsNow_7 : decode cX12_beginsNow 7 = .ok (.iload_n 2, 1) := by decide +kernel
theorem dX12_beginsNow_8 : decode cX12_beginsNow 8 = .ok (.bipush 30, 2) := by decide +kernel
theorem dX12_beginsNow_10 : decode cX12_beginsNow 10 = .ok (.if_icmp .lt 31, 3) := by decide +kernel
theorem dX12_beginsNow_41 : decode cX12_beginsNow 41 = .ok (.iload_n 2, 1) := by decide +kernel
theorem dX12_beginsNow_42 : decode cX12_beginsNow 42 = .ok (.tableswitch 659 1 43 #[186, 205, 214, 214, 223, 284, 403, 403, 362, 659, 242, 659, 659, 659, 659, 659, 659, 659, 659, 659, 659, 659, 659, 659, 659, 659, 659, 659, 659, 434, 659, 513, 659, 659, 556, 564, 595, 629, 640, 659, 659, 659, 651], 186) := by decide +kernel
theorem dX12_beginsNow_228 : decode cX12_beginsNow 228 = .ok (.aload_n 0, 1) := by decide +kernel
theorem dX12_beginsNow_229 : decode cX12_beginsNow 229 = .ok (.iload_n 1, 1) := by decide +kernel
theorem dX12_beginsNow_230 : decode cX12_beginsNow 230 = .ok (.aload_n 0, 1) := by decide +kernel
theorem dX12_beginsNow_231 : decode cX12_beginsNow 231 = .ok (.getfield 25, 3) := by decide +kernel
theorem dX12_beginsNow_234 : decode cX12_beginsNow 234 = .ok (.aload_n 0, 1) := by decide +kernel
theorem dX12_beginsNow_235 : decode cX12_beginsNow 235 = .ok (.getfield 44, 3) := by decide +kernel
theorem dX12_beginsNow_238 : decode cX12_beginsNow 238 = .ok (.iload_n 1, 1) := by decide +kernel
theorem dX12_beginsNow_239 : decode cX12_beginsNow 239 = .ok (.iaload, 1) := by decide +kernel
theorem dX12_beginsNow_240 : decode cX12_beginsNow 240 = .ok (.iaload, 1) := by decide +kernel
theorem dX12_beginsNow_241 : decode cX12_beginsNow 241 = .ok (.invokevirtual 800, 3) := by decide +kernel
theorem dX12_beginsNow_244 : decode cX12_beginsNow 244 = .ok (.goto 468, 3) := by decide +kernel
theorem dX12_beginsNow_712 : decode cX12_beginsNow 712 = .ok (.return_, 1) := by decide +kernel
theorem dX12_beginsNow_247 : decode cX12_beginsNow 247 = .ok (.aload_n 0, 1) := by decide +kernel
theorem dX12_beginsNow_248 : decode cX12_beginsNow 248 = .ok (.iload_n 1, 1) := by decide +kernel
theorem dX12_beginsNow_249 : decode cX12_beginsNow 249 = .ok (.iconst 1, 1) := by decide +kernel
theorem dX12_beginsNow_250 : decode cX12_beginsNow 250 = .ok (.invokevirtual 800, 3) := by decide +kernel
theorem dX12_beginsNow_253 : decode cX12_beginsNow 253 = .ok (.goto 459, 3) := by decide +kernel
theorem dX12_beginsNow_256 : decode cX12_beginsNow 256 = .ok (.aload_n 0, 1) := by decide +kernel
theorem dX12_beginsNow_257 : decode cX12_beginsNow 257 = .ok (.iload_n 1, 1) := by decide +kernel
theorem dX12_beginsNow_258 : decode cX12_beginsNow 258 = .ok (.iconst 0, 1) := by decide +kernel
theorem dX12_beginsNow_259 : decode cX12_beginsNow 259 = .ok (.invokevirtual 800, 3) := by decide +kernel
theorem dX12_beginsNow_262 : decode cX12_beginsNow 262 = .ok (.goto 450, 3) := by decide +kernel
theorem dX12_beginsNow_265 : decode cX12_beginsNow 265 = .ok (.aload_n 0, 1) := by decide +kernel
theorem dX12_beginsNow_266 : decode cX12_beginsNow 266 = .ok (.iload_n 1, 1) := by decide +kernel
theorem dX12_beginsNow_267 : decode cX12_beginsNow 267 = .ok (.aload_n 0, 1) := by decide +kernel
theorem dX12_beginsNow_268 : decode cX12_beginsNow 268 = .ok (.getfield 199, 3) := by decide +kernel
theorem dX12_beginsNow_271 : decode cX12_beginsNow 271 = .ok (.aload_n 0, 1) := by decide +kernel
theorem dX12_beginsNow_272 : decode cX12_beginsNow 272 = .ok (.getfield 707, 3) := by decide +kernel
theorem dX12_beginsNow_275 : decode cX12_beginsNow 275 = .ok (.iconst 1, 1) := by decide +kernel
theorem dX12_beginsNow_276 : decode cX12_beginsNow 276 = .ok (.isub, 1) := by decide +kernel
theorem dX12_beginsNow_277 : decode cX12_beginsNow 277 = .ok (.iaload, 1) := by decide +kernel
theorem dX12_beginsNow_278 : decode cX12_beginsNow 278 = .ok (.invokevirtual 800, 3) := by decide +kernel
theorem dX12_beginsNow_281 : decode cX12_beginsNow 281 = .ok (.goto 431, 3) := by decide +kernel
theorem dX12_beginsNow_326 : decode cX12_beginsNow 326 = .ok (.aload_n 0, 1) := by decide +kernel
theorem dX12_beginsNow_327 : decode cX12_beginsNow 327 = .ok (.getfield 65, 3) := by decide +kernel
theorem dX12_beginsNow_330 : decode cX12_beginsNow 330 = .ok (.iload_n 1, 1) := by decide +kernel
theorem dX12_beginsNow_331 : decode cX12_beginsNow 331 = .ok (.iaload, 1) := by decide +kernel
theorem dX12_beginsNow_332 : decode cX12_beginsNow 332 = .ok (.ifCond .lt 26, 3) := by decide +kernel
theorem dX12_beginsNow_335 : decode cX12_beginsNow 335 = .ok (.aload_n 0, 1) := by decide +kernel
theorem dX12_beginsNow_336 : decode cX12_beginsNow 336 = .ok (.iload_n 1, 1) := by decide +kernel
theorem dX12_beginsNow_337 : decode cX12_beginsNow 337 = .ok (.aload_n 0, 1) := by decide +kernel
theorem dX12_beginsNow_338 : decode cX12_beginsNow 338 = .ok (.getfield 211, 3) := by decide +kernel
theorem dX12_beginsNow_341 : decode cX12_beginsNow 341 = .ok (.aload_n 0, 1) := by decide +kernel
theorem dX12_beginsNow_342 : decode cX12_beginsNow 342 = .ok (.aload_n 0, 1) := by decide +kernel
theorem dX12_beginsNow_343 : decode cX12_beginsNow 343 = .ok (.getfield 65, 3) := by decide +kernel
theorem dX12_beginsNow_346 : decode cX12_beginsNow 346 = .ok (.iload_n 1, 1) := by decide +kernel
theorem dX12_beginsNow_347 : decode cX12_beginsNow 347 = .ok (.iaload, 1) := by decide +kernel
theorem dX12_beginsNow_348 : decode cX12_beginsNow 348 = .ok (.invokevirtual 803, 3) := by decide +kernel
theorem dX12_beginsNow_351 : decode cX12_beginsNow 351 = .ok (.iaload, 1) := by decide +kernel
theorem dX12_beginsNow_352 : decode cX12_beginsNow 352 = .ok (.invokevirtual 800, 3) := by decide +kernel
theorem dX12_beginsNow_355 : decode cX12_beginsNow 355 = .ok (.goto 357, 3) := by decide +kernel
theorem dX12_beginsNow_358 : decode cX12_beginsNow 358 = .ok (.aload_n 0, 1) := by decide +kernel
theorem dX12_beginsNow_359 : decode cX12_beginsNow 359 = .ok (.iload_n 1, 1) := by decide +kernel
theorem dX12_beginsNow_360 : decode cX12_beginsNow 360 = .ok (.aload_n 0, 1) := by decide +kernel
theorem dX12_beginsNow_361 : decode cX12_beginsNow 361 = .ok (.getfield 193, 3) := by decide +kernel
theorem dX12_beginsNow_364 : decode cX12_beginsNow 364 = .ok (.aload_n 0, 1) := by decide +kernel
theorem dX12_beginsNow_365 : decode cX12_beginsNow 365 = .ok (.getfield 187, 3) := by decide +kernel
theorem dX12_beginsNow_368 : decode cX12_beginsNow 368 = .ok (.aload_n 0, 1) := by decide +kernel
theorem dX12_beginsNow_369 : decode cX12_beginsNow 369 = .ok (.getfield 199, 3) := by decide +kernel
theorem dX12_beginsNow_372 : decode cX12_beginsNow 372 = .ok (.aload_n 0, 1) := by decide +kernel
theorem dX12_beginsNow_373 : decode cX12_beginsNow 373 = .ok (.getfield 707, 3) := by decide +kernel
theorem dX12_beginsNow_376 : decode cX12_beginsNow 376 = .ok (.iconst 1, 1) := by decide +kernel
theorem dX12_beginsNow_377 : decode cX12_beginsNow 377 = .ok (.isub, 1) := by decide +kernel
theorem dX12_beginsNow_378 : decode cX12_beginsNow 378 = .ok (.iaload, 1) := by decide +kernel
theorem dX12_beginsNow_379 : decode cX12_beginsNow 379 = .ok (.iconst 1, 1) := by decide +kernel
theorem dX12_beginsNow_380 : decode cX12_beginsNow 380 = .ok (.isub, 1) := by decide +kernel
theorem dX12_beginsNow_381 : decode cX12_beginsNow 381 = .ok (.iaload, 1) := by decide +kernel
theorem dX12_beginsNow_382 : decode cX12_beginsNow 382 = .ok (.aload_n 0, 1) := by decide +kernel
theorem dX12_beginsNow_383 : decode cX12_beginsNow 383 = .ok (.getfield 171, 3) := by decide +kernel
theorem dX12_beginsNow_386 : decode cX12_beginsNow 386 = .ok (.bipush (-2), 2) := by decide +kernel
theorem dX12_beginsNow_388 : decode cX12_beginsNow 388 = .ok (.aload_n 0, 1) := by decide +kernel
theorem dX12_beginsNow_389 : decode cX12_beginsNow 389 = .ok (.getfield 65, 3) := by decide +kernel
theorem dX12_beginsNow_392 : decode cX12_beginsNow 392 = .ok (.iload_n 1, 1) := by decide +kernel
theorem dX12_beginsNow_393 : decode cX12_beginsNow 393 = .ok (.iaload, 1) := by decide +kernel
theorem dX12_beginsNow_394 : decode cX12_beginsNow 394 = .ok (.isub, 1) := by decide +kernel
theorem dX12_beginsNow_395 : decode cX12_beginsNow 395 = .ok (.iaload, 1) := by decide +kernel
theorem dX12_beginsNow_396 : decode cX12_beginsNow 396 = .ok (.iadd, 1) := by decide +kernel
theorem dX12_beginsNow_397 : decode cX12_beginsNow 397 = .ok (.iaload, 1) := by decide +kernel
theorem dX12_beginsNow_398 : decode cX12_beginsNow 398 = .ok (.invokevirtual 800, 3) := by decide +kernel
theorem dX12_beginsNow_401 : decode cX12_beginsNow 401 = .ok (.goto 311, 3) := by decide +kernel
theorem dX12_beginsNow_445 : decode cX12_beginsNow 445 = .ok (.aload_n 0, 1) := by decide +kernel
theorem dX12_beginsNow_446 : decode cX12_beginsNow 446 = .ok (.getfield 50, 3) := by decide +kernel
theorem dX12_beginsNow_449 : decode cX12_beginsNow 449 = .ok (.iload_n 1, 1) := by decide +kernel
theorem dX12_beginsNow_450 : decode cX12_beginsNow 450 = .ok (.iaload, 1) := by decide +kernel
theorem dX12_beginsNow_451 : decode cX12_beginsNow 451 = .ok (.iconst (-1), 1) := by decide +kernel
theorem dX12_beginsNow_452 : decode cX12_beginsNow 452 = .ok (.if_icmp .ne 11, 3) := by decide +kernel
theorem dX12_beginsNow_455 : decode cX12_beginsNow 455 = .ok (.aload_n 0, 1) := by decide +kernel
theorem dX12_beginsNow_456 : decode cX12_beginsNow 456 = .ok (.iload_n 1, 1) := by decide +kernel
theorem dX12_beginsNow_457 : decode cX12_beginsNow 457 = .ok (.invokevirtual 806, 3) := by decide +kernel
theorem dX12_beginsNow_460 : decode cX12_beginsNow 460 = .ok (.goto 252, 3) := by decide +kernel
theorem dX12_beginsNow_463 : decode cX12_beginsNow 463 = .ok (.aload_n 0, 1) := by decide +kernel
theorem dX12_beginsNow_464 : decode cX12_beginsNow 464 = .ok (.aload_n 0, 1) := by decide +kernel
theorem dX12_beginsNow_465 : decode cX12_beginsNow 465 = .ok (.getfield 50, 3) := by decide +kernel
theorem dX12_beginsNow_468 : decode cX12_beginsNow 468 = .ok (.iload_n 1, 1) := by decide +kernel
theorem dX12_beginsNow_469 : decode cX12_beginsNow 469 = .ok (.iaload, 1) := by decide +kernel
theorem dX12_beginsNow_470 : decode cX12_beginsNow 470 = .ok (.invokevirtual 794, 3) := by decide +kernel
theorem dX12_beginsNow_473 : decode cX12_beginsNow 473 = .ok (.goto 239, 3) := by decide +kernel
theorem dX12_beginsNow_404 : decode cX12_beginsNow 404 = .ok (.aload_n 0, 1) := by decide +kernel
theorem dX12_beginsNow_405 : decode cX12_beginsNow 405 = .ok (.invokevirtual 782, 3) := by decide +kernel
theorem dX12_beginsNow_408 : decode cX12_beginsNow 408 = .ok (.ifCond .eq 304, 3) := by decide +kernel
theorem dX12_beginsNow_411 : decode cX12_beginsNow 411 = .ok (.aload_n 0, 1) := by decide +kernel
theorem dX12_beginsNow_412 : decode cX12_beginsNow 412 = .ok (.aload_n 0, 1) := by decide +kernel
theorem dX12_beginsNow_413 : decode cX12_beginsNow 413 = .ok (.getfield 65, 3) := by decide +kernel
theorem dX12_beginsNow_416 : decode cX12_beginsNow 416 = .ok (.iload_n 1, 1) := by decide +kernel
theorem dX12_beginsNow_417 : decode cX12_beginsNow 417 = .ok (.iaload, 1) := by decide +kernel
theorem dX12_beginsNow_418 : decode cX12_beginsNow 418 = .ok (.iconst 0, 1) := by decide +kernel
theorem dX12_beginsNow_419 : decode cX12_beginsNow 419 = .ok (.aload_n 0, 1) := by decide +kernel
theorem dX12_beginsNow_420 : decode cX12_beginsNow 420 = .ok (.getfield 102, 3) := by decide +kernel
theorem dX12_beginsNow_423 : decode cX12_beginsNow 423 = .ok (.aload_n 0, 1) := by decide +kernel
theorem dX12_beginsNow_424 : decode cX12_beginsNow 424 = .ok (.getfield 65, 3) := by decide +kernel
theorem dX12_beginsNow_427 : decode cX12_beginsNow 427 = .ok (.iload_n 1, 1) := by decide +kernel
theorem dX12_beginsNow_428 : decode cX12_beginsNow 428 = .ok (.iaload, 1) := by decide +kernel
theorem dX12_beginsNow_429 : decode cX12_beginsNow 429 = .ok (.iaload, 1) := by decide +kernel
theorem dX12_beginsNow_430 : decode cX12_beginsNow 430 = .ok (.iconst 1, 1) := by decide +kernel
theorem dX12_beginsNow_431 : decode cX12_beginsNow 431 = .ok (.isub, 1) := by decide +kernel
theorem dX12_beginsNow_432 : decode cX12_beginsNow 432 = .ok (.invokevirtual 778, 3) := by decide +kernel
theorem dX12_beginsNow_435 : decode cX12_beginsNow 435 = .ok (.istore_n 3, 1) := by decide +kernel
theorem dX12_beginsNow_436 : decode cX12_beginsNow 436 = .ok (.aload_n 0, 1) := by decide +kernel
theorem dX12_beginsNow_437 : decode cX12_beginsNow 437 = .ok (.iload_n 1, 1) := by decide +kernel
theorem dX12_beginsNow_438 : decode cX12_beginsNow 438 = .ok (.iload_n 3, 1) := by decide +kernel
theorem dX12_beginsNow_439 : decode cX12_beginsNow 439 = .ok (.invokevirtual 800, 3) := by decide +kernel
theorem dX12_beginsNow_442 : decode cX12_beginsNow 442 = .ok (.goto 270, 3) := by decide +kernel
theorem dX12_beginsNow_701 : decode cX12_beginsNow 701 = .ok (.aload_n 0, 1) := by decide +kernel
theorem dX12_beginsNow_702 : decode cX12_beginsNow 702 = .ok (.iload_n 1, 1) := by decide +kernel
theorem dX12_beginsNow_703 : decode cX12_beginsNow 703 = .ok (.aload_n 0, 1) := by decide +kernel
theorem dX12_beginsNow_704 : decode cX12_beginsNow 704 = .ok (.getfield 47, 3) := by decide +kernel
theorem dX12_beginsNow_707 : decode cX12_beginsNow 707 = .ok (.iload_n 1, 1) := by decide +kernel
theorem dX12_beginsNow_708 : decode cX12_beginsNow 708 = .ok (.iaload, 1) := by decide +kernel
theorem dX12_beginsNow_709 : decode cX12_beginsNow 709 = .ok (.invokevirtual 809, 3) := by decide +kernel
theorem dX12_beginsNow_284 : decode cX12_beginsNow 284 = .ok (.aload_n 0, 1) := by decide +kernel
theorem dX12_beginsNow_285 : decode cX12_beginsNow 285 = .ok (.iload_n 1, 1) := by decide +kernel
theorem dX12_beginsNow_286 : decode cX12_beginsNow 286 = .ok (.aload_n 0, 1) := by decide +kernel
theorem dX12_beginsNow_287 : decode cX12_beginsNow 287 = .ok (.getfield 769, 3) := by decide +kernel
theorem dX12_beginsNow_290 : decode cX12_beginsNow 290 = .ok (.aload_n 0, 1) := by decide +kernel
theorem dX12_beginsNow_291 : decode cX12_beginsNow 291 = .ok (.getfield 689, 3) := by decide +kernel
theorem dX12_beginsNow_294 : decode cX12_beginsNow 294 = .ok (.if_icmp .ge 15, 3) := by decide +kernel
theorem dX12_beginsNow_309 : decode cX12_beginsNow 309 = .ok (.iconst 0, 1) := by decide +kernel
theorem dX12_beginsNow_310 : decode cX12_beginsNow 310 = .ok (.invokevirtual 800, 3) := by decide +kernel
theorem dX12_beginsNow_313 : decode cX12_beginsNow 313 = .ok (.aload_n 0, 1) := by decide +kernel
theorem dX12_beginsNow_314 : decode cX12_beginsNow 314 = .ok (.dup, 1) := by decide +kernel
theorem dX12_beginsNow_315 : decode cX12_beginsNow 315 = .ok (.getfield 769, 3) := by decide +kernel
theorem dX12_beginsNow_318 : decode cX12_beginsNow 318 = .ok (.iconst 1, 1) := by decide +kernel
theorem dX12_beginsNow_319 : decode cX12_beginsNow 319 = .ok (.iadd, 1) := by decide +kernel
theorem dX12_beginsNow_320 : decode cX12_beginsNow 320 = .ok (.putfield 769, 3) := by decide +kernel
theorem dX12_beginsNow_323 : decode cX12_beginsNow 323 = .ok (.goto 389, 3) := by decide +kernel
theorem dX12_beginsNow_297 : decode cX12_beginsNow 297 = .ok (.aload_n 0, 1) := by decide +kernel
theorem dX12_beginsNow_298 : decode cX12_beginsNow 298 = .ok (.getfield 162, 3) := by decide +kernel
theorem dX12_beginsNow_301 : decode cX12_beginsNow 301 = .ok (.aload_n 0, 1) := by decide +kernel
theorem dX12_beginsNow_302 : decode cX12_beginsNow 302 = .ok (.getfield 769, 3) := by decide +kernel
theorem dX12_beginsNow_305 : decode cX12_beginsNow 305 = .ok (.iaload, 1) := by decide +kernel
theorem dX12_beginsNow_306 : decode cX12_beginsNow 306 = .ok (.goto 4, 3) := by decide +kernel
theorem dX12_beginsNow_13 : decode cX12_beginsNow 13 = .ok (.iload_n 2, 1) := by decide +kernel
theorem dX12_beginsNow_14 : decode cX12_beginsNow 14 = .ok (.bipush 31, 2) := by decide +kernel
theorem dX12_beginsNow_16 : decode cX12_beginsNow 16 = .ok (.if_icmp .eq 25, 3) := by decide +kernel
theorem dX12_beginsNow_19 : decode cX12_beginsNow 19 = .ok (.iload_n 2, 1) := by decide +kernel
theorem dX12_beginsNow_20 : decode cX12_beginsNow 20 = .ok (.bipush 43, 2) := by decide +kernel
theorem dX12_beginsNow_22 : decode cX12_beginsNow 22 = .ok (.if_icmp .eq 19, 3) := by decide +kernel
theorem dX12_beginsNow_25 : decode cX12_beginsNow 25 = .ok (.aload_n 0, 1) := by decide +kernel
theorem dX12_beginsNow_26 : decode cX12_beginsNow 26 = .ok (.iload_n 1, 1) := by decide +kernel
theorem dX12_beginsNow_27 : decode cX12_beginsNow 27 = .ok (.invokevirtual 797, 3) := by decide +kernel
theorem dX12_beginsNow_30 : decode cX12_beginsNow 30 = .ok (.ifCond .ne 11, 3) := by decide +kernel
theorem dX12_beginsNow_476 : decode cX12_beginsNow 476 = .ok (.aload_n 0, 1) := by decide +kernel
theorem dX12_beginsNow_477 : decode cX12_beginsNow 477 = .ok (.getfield 211, 3) := by decide +kernel
theorem dX12_beginsNow_480 : decode cX12_beginsNow 480 = .ok (.aload_n 0, 1) := by decide +kernel
theorem dX12_beginsNow_481 : decode cX12_beginsNow 481 = .ok (.aload_n 0, 1) := by decide +kernel
theorem dX12_beginsNow_482 : decode cX12_beginsNow 482 = .ok (.getfield 65, 3) := by decide +kernel
theorem dX12_beginsNow_485 : decode cX12_beginsNow 485 = .ok (.iload_n 1, 1) := by decide +kernel
theorem dX12_beginsNow_486 : decode cX12_beginsNow 486 = .ok (.iaload, 1) := by decide +kernel
theorem dX12_beginsNow_487 : decode cX12_beginsNow 487 = .ok (.invokevirtual 803, 3) := by decide +kernel
theorem dX12_beginsNow_490 : decode cX12_beginsNow 490 = .ok (.iconst 0, 1) := by decide +kernel
theorem dX12_beginsNow_491 : decode cX12_beginsNow 491 = .ok (.iastore, 1) := by decide +kernel
theorem dX12_beginsNow_492 : decode cX12_beginsNow 492 = .ok (.aload_n 0, 1) := by decide +kernel
theorem dX12_beginsNow_493 : decode cX12_beginsNow 493 = .ok (.getfield 214, 3) := by decide +kernel
theorem dX12_beginsNow_496 : decode cX12_beginsNow 496 = .ok (.aload_n 0, 1) := by decide +kernel
theorem dX12_beginsNow_497 : decode cX12_beginsNow 497 = .ok (.aload_n 0, 1) := by decide +kernel
theorem dX12_beginsNow_498 : decode cX12_beginsNow 498 = .ok (.getfield 65, 3) := by decide +kernel
theorem dX12_beginsNow_501 : decode cX12_beginsNow 501 = .ok (.iload_n 1, 1) := by decide +kernel
theorem dX12_beginsNow_502 : decode cX12_beginsNow 502 = .ok (.iaload, 1) := by decide +kernel
theorem dX12_beginsNow_503 : decode cX12_beginsNow 503 = .ok (.invokevirtual 803, 3) := by decide +kernel
theorem dX12_beginsNow_506 : decode cX12_beginsNow 506 = .ok (.aload_n 0, 1) := by decide +kernel
theorem dX12_beginsNow_507 : decode cX12_beginsNow 507 = .ok (.aload_n 0, 1) := by decide +kernel
theorem dX12_beginsNow_508 : decode cX12_beginsNow 508 = .ok (.getfield 75, 3) := by decide +kernel
theorem dX12_beginsNow_511 : decode cX12_beginsNow 511 = .ok (.aload_n 0, 1) := by decide +kernel
theorem dX12_beginsNow_512 : decode cX12_beginsNow 512 = .ok (.getfield 47, 3) := by decide +kernel
theorem dX12_beginsNow_515 : decode cX12_beginsNow 515 = .ok (.iload_n 1, 1) := by decide +kernel
theorem dX12_beginsNow_516 : decode cX12_beginsNow 516 = .ok (.iaload, 1) := by decide +kernel
theorem dX12_beginsNow_517 : decode cX12_beginsNow 517 = .ok (.iaload, 1) := by decide +kernel
theorem dX12_beginsNow_518 : decode cX12_beginsNow 518 = .ok (.invokevirtual 525, 3) := by decide +kernel
theorem dX12_beginsNow_521 : decode cX12_beginsNow 521 = .ok (.bastore, 1) := by decide +kernel
theorem dX12_beginsNow_522 : decode cX12_beginsNow 522 = .ok (.aload_n 0, 1) := by decide +kernel
theorem dX12_beginsNow_523 : decode cX12_beginsNow 523 = .ok (.getfield 202, 3) := by decide +kernel
theorem dX12_beginsNow_526 : decode cX12_beginsNow 526 = .ok (.aload_n 0, 1) := by decide +kernel
theorem dX12_beginsNow_527 : decode cX12_beginsNow 527 = .ok (.getfield 707, 3) := by decide +kernel
theorem dX12_beginsNow_530 : decode cX12_beginsNow 530 = .ok (.iconst 1, 1) := by decide +kernel
theorem dX12_beginsNow_531 : decode cX12_beginsNow 531 = .ok (.isub, 1) := by decide +kernel
theorem dX12_beginsNow_532 : decode cX12_beginsNow 532 = .ok (.aload_n 0, 1) := by decide +kernel
theorem dX12_beginsNow_533 : decode cX12_beginsNow 533 = .ok (.getfield 65, 3) := by decide +kernel
theorem dX12_beginsNow_536 : decode cX12_beginsNow 536 = .ok (.iload_n 1, 1) := by decide +kernel
theorem dX12_beginsNow_537 : decode cX12_beginsNow 537 = .ok (.iaload, 1) := by decide +kernel
theorem dX12_beginsNow_538 : decode cX12_beginsNow 538 = .ok (.iconst 1, 1) := by decide +kernel
theorem dX12_beginsNow_539 : decode cX12_beginsNow 539 = .ok (.iadd, 1) := by decide +kernel
theorem dX12_beginsNow_540 : decode cX12_beginsNow 540 = .ok (.iastore, 1) := by decide +kernel
theorem dX12_beginsNow_541 : decode cX12_beginsNow 541 = .ok (.aload_n 0, 1) := by decide +kernel
theorem dX12_beginsNow_542 : decode cX12_beginsNow 542 = .ok (.iload_n 1, 1) := by decide +kernel
theorem dX12_beginsNow_543 : decode cX12_beginsNow 543 = .ok (.aload_n 0, 1) := by decide +kernel
theorem dX12_beginsNow_544 : decode cX12_beginsNow 544 = .ok (.getfield 50, 3) := by decide +kernel
theorem dX12_beginsNow_547 : decode cX12_beginsNow 547 = .ok (.iload_n 1, 1) := by decide +kernel
theorem dX12_beginsNow_548 : decode cX12_beginsNow 548 = .ok (.iaload, 1) := by decide +kernel
theorem dX12_beginsNow_549 : decode cX12_beginsNow 549 = .ok (.invokevirtual 809, 3) := by decide +kernel
theorem dX12_beginsNow_552 : decode cX12_beginsNow 552 = .ok (.goto 160, 3) := by decide +kernel
theorem dX12_beginsNow_33 : decode cX12_beginsNow 33 = .ok (.aload_n 0, 1) := by decide +kernel
theorem dX12_beginsNow_34 : decode cX12_beginsNow 34 = .ok (.invokevirtual 782, 3) := by decide +kernel
theorem dX12_beginsNow_37 : decode cX12_beginsNow 37 = .ok (.ifCond .ne 4, 3) := by decide +kernel
theorem dX12_beginsNow_40 : decode cX12_beginsNow 40 = .ok (.return_, 1) := by decide +kernel
theorem dX12_beginsNow_555 : decode cX12_beginsNow 555 = .ok (.aload_n 0, 1) := by decide +kernel
theorem dX12_beginsNow_556 : decode cX12_beginsNow 556 = .ok (.aload_n 0, 1) := by decide +kernel
theorem dX12_beginsNow_557 : decode cX12_beginsNow 557 = .ok (.getfield 38, 3) := by decide +kernel
theorem dX12_beginsNow_560 : decode cX12_beginsNow 560 = .ok (.aload_n 0, 1) := by decide +kernel
theorem dX12_beginsNow_561 : decode cX12_beginsNow 561 = .ok (.getfield 47, 3) := by decide +kernel
theorem dX12_beginsNow_564 : decode cX12_beginsNow 564 = .ok (.iload_n 1, 1) := by decide +kernel
theorem dX12_beginsNow_565 : decode cX12_beginsNow 565 = .ok (.iaload, 1) := by decide +kernel
theorem dX12_beginsNow_566 : decode cX12_beginsNow 566 = .ok (.iaload, 1) := by decide +kernel
theorem dX12_beginsNow_567 : decode cX12_beginsNow 567 = .ok (.bipush 6, 2) := by decide +kernel
theorem dX12_beginsNow_569 : decode cX12_beginsNow 569 = .ok (.if_icmp .ne 12, 3) := by decide +kernel
theorem dX12_beginsNow_572 : decode cX12_beginsNow 572 = .ok (.aload_n 0, 1) := by decide +kernel
theorem dX12_beginsNow_573 : decode cX12_beginsNow 573 = .ok (.getfield 50, 3) := by decide +kernel
theorem dX12_beginsNow_576 : decode cX12_beginsNow 576 = .ok (.iload_n 1, 1) := by decide +kernel
theorem dX12_beginsNow_577 : decode cX12_beginsNow 577 = .ok (.iaload, 1) := by decide +kernel
theorem dX12_beginsNow_578 : decode cX12_beginsNow 578 = .ok (.goto 14, 3) := by decide +kernel
theorem dX12_beginsNow_592 : decode cX12_beginsNow 592 = .ok (.invokevirtual 794, 3) := by decide +kernel
theorem dX12_beginsNow_595 : decode cX12_beginsNow 595 = .ok (.goto 117, 3) := by decide +kernel
theorem dX12_beginsNow_581 : decode cX12_beginsNow 581 = .ok (.aload_n 0, 1) := by decide +kernel
theorem dX12_beginsNow_582 : decode cX12_beginsNow 582 = .ok (.getfield 47, 3) := by decide +kernel
theorem dX12_beginsNow_585 : decode cX12_beginsNow 585 = .ok (.aload_n 0, 1) := by decide +kernel
theorem dX12_beginsNow_586 : decode cX12_beginsNow 586 = .ok (.getfield 47, 3) := by decide +kernel
theorem dX12_beginsNow_589 : decode cX12_beginsNow 589 = .ok (.iload_n 1, 1) := by decide +kernel
theorem dX12_beginsNow_590 : decode cX12_beginsNow 590 = .ok (.iaload, 1) := by decide +kernel
theorem dX12_beginsNow_591 : decode cX12_beginsNow 591 = .ok (.iaload, 1) := by decide +kernel
theorem dX12_beginsNow_598 : decode cX12_beginsNow 598 = .ok (.aload_n 0, 1) := by decide +kernel
theorem dX12_beginsNow_599 : decode cX12_beginsNow 599 = .ok (.iload_n 1, 1) := by decide +kernel
theorem dX12_beginsNow_600 : decode cX12_beginsNow 600 = .ok (.invokevirtual 812, 3) := by decide +kernel
theorem dX12_beginsNow_603 : decode cX12_beginsNow 603 = .ok (.goto 109, 3) := by decide +kernel
theorem dX12_beginsNow_606 : decode cX12_beginsNow 606 = .ok (.aload_n 0, 1) := by decide +kernel
theorem dX12_beginsNow_607 : decode cX12_beginsNow 607 = .ok (.getfield 47, 3) := by decide +kernel
theorem dX12_beginsNow_610 : decode cX12_beginsNow 610 = .ok (.iload_n 1, 1) := by decide +kernel
theorem dX12_beginsNow_611 : decode cX12_beginsNow 611 = .ok (.iaload, 1) := by decide +kernel
theorem dX12_beginsNow_612 : decode cX12_beginsNow 612 = .ok (.iconst (-1), 1) := by decide +kernel
theorem dX12_beginsNow_613 : decode cX12_beginsNow 613 = .ok (.if_icmp .ne 11, 3) := by decide +kernel
theorem dX12_beginsNow_616 : decode cX12_beginsNow 616 = .ok (.aload_n 0, 1) := by decide +kernel
theorem dX12_beginsNow_617 : decode cX12_beginsNow 617 = .ok (.iload_n 1, 1) := by decide +kernel
theorem dX12_beginsNow_618 : decode cX12_beginsNow 618 = .ok (.invokevirtual 812, 3) := by decide +kernel
theorem dX12_beginsNow_621 : decode cX12_beginsNow 621 = .ok (.goto 91, 3) := by decide +kernel
theorem dX12_beginsNow_624 : decode cX12_beginsNow 624 = .ok (.aload_n 0, 1) := by decide +kernel
theorem dX12_beginsNow_625 : decode cX12_beginsNow 625 = .ok (.aload_n 0, 1) := by decide +kernel
theorem dX12_beginsNow_626 : decode cX12_beginsNow 626 = .ok (.getfield 47, 3) := by decide +kernel
theorem dX12_beginsNow_629 : decode cX12_beginsNow 629 = .ok (.iload_n 1, 1) := by decide +kernel
theorem dX12_beginsNow_630 : decode cX12_beginsNow 630 = .ok (.iaload, 1) := by decide +kernel
theorem dX12_beginsNow_631 : decode cX12_beginsNow 631 = .ok (.invokevirtual 794, 3) := by decide +kernel
theorem dX12_beginsNow_634 : decode cX12_beginsNow 634 = .ok (.goto 78, 3) := by decide +kernel
theorem dX12_beginsNow_637 : decode cX12_beginsNow 637 = .ok (.aload_n 0, 1) := by decide +kernel
theorem dX12_beginsNow_638 : decode cX12_beginsNow 638 = .ok (.getfield 47, 3) := by decide +kernel
theorem dX12_beginsNow_641 : decode cX12_beginsNow 641 = .ok (.iload_n 1, 1) := by decide +kernel
theorem dX12_beginsNow_642 : decode cX12_beginsNow 642 = .ok (.iaload, 1) := by decide +kernel
theorem dX12_beginsNow_643 : decode cX12_beginsNow 643 = .ok (.iconst (-1), 1) := by decide +kernel
theorem dX12_beginsNow_644 : decode cX12_beginsNow 644 = .ok (.if_icmp .ne 14, 3) := by decide +kernel
theorem dX12_beginsNow_647 : decode cX12_beginsNow 647 = .ok (.aload_n 0, 1) := by decide +kernel
theorem dX12_beginsNow_648 : decode cX12_beginsNow 648 = .ok (.iload_n 1, 1) := by decide +kernel
theorem dX12_beginsNow_649 : decode cX12_beginsNow 649 = .ok (.iconst 2, 1) := by decide +kernel
theorem dX12_beginsNow_650 : decode cX12_beginsNow 650 = .ok (.iconst 0, 1) := by decide +kernel
theorem dX12_beginsNow_651 : decode cX12_beginsNow 651 = .ok (.iconst 0, 1) := by decide +kernel
theorem dX12_beginsNow_652 : decode cX12_beginsNow 652 = .ok (.invokevirtual 815, 3) := by decide +kernel
theorem dX12_beginsNow_655 : decode cX12_beginsNow 655 = .ok (.goto 57, 3) := by decide +kernel
theorem dX12_beginsNow_658 : decode cX12_beginsNow 658 = .ok (.aload_n 0, 1) := by decide +kernel
theorem dX12_beginsNow_659 : decode cX12_beginsNow 659 = .ok (.aload_n 0, 1) := by decide +kernel
theorem dX12_beginsNow_660 : decode cX12_beginsNow 660 = .ok (.getfield 47, 3) := by decide +kernel
theorem dX12_beginsNow_663 : decode cX12_beginsNow 663 = .ok (.iload_n 1, 1) := by decide +kernel
theorem dX12_beginsNow_664 : decode cX12_beginsNow 664 = .ok (.iaload, 1) := by decide +kernel
theorem dX12_beginsNow_665 : decode cX12_beginsNow 665 = .ok (.invokevirtual 794, 3) := by decide +kernel
theorem dX12_beginsNow_668 : decode cX12_beginsNow 668 = .ok (.goto 44, 3) := by decide +kernel
theorem dX12_beginsNow_671 : decode cX12_beginsNow 671 = .ok (.aload_n 0, 1) := by decide +kernel
theorem dX12_beginsNow_672 : decode cX12_beginsNow 672 = .ok (.iload_n 1, 1) := by decide +kernel
theorem dX12_beginsNow_673 : decode cX12_beginsNow 673 = .ok (.iconst 3, 1) := by decide +kernel
theorem dX12_beginsNow_674 : decode cX12_beginsNow 674 = .ok (.iconst 0, 1) := by decide +kernel
theorem dX12_beginsNow_675 : decode cX12_beginsNow 675 = .ok (.iconst 0, 1) := by decide +kernel
theorem dX12_beginsNow_676 : decode cX12_beginsNow 676 = .ok (.invokevirtual 815, 3) := by decide +kernel
theorem dX12_beginsNow_679 : decode cX12_beginsNow 679 = .ok (.goto 33, 3) := by decide +kernel
theorem dX12_beginsNow_682 : decode cX12_beginsNow 682 = .ok (.aload_n 0, 1) := by decide +kernel
theorem dX12_beginsNow_683 : decode cX12_beginsNow 683 = .ok (.iload_n 1, 1) := by decide +kernel
theorem dX12_beginsNow_684 : decode cX12_beginsNow 684 = .ok (.iconst 4, 1) := by decide +kernel
theorem dX12_beginsNow_685 : decode cX12_beginsNow 685 = .ok (.iconst 0, 1) := by decide +kernel
theorem dX12_beginsNow_686 : decode cX12_beginsNow 686 = .ok (.iconst 0, 1) := by decide +kernel
theorem dX12_beginsNow_687 : decode cX12_beginsNow 687 = .ok (.invokevirtual 815, 3) := by decide +kernel
theorem dX12_beginsNow_690 : decode cX12_beginsNow 690 = .ok (.goto 22, 3) := by decide +kernel
theorem dX12_beginsNow_693 : decode cX12_beginsNow 693 = .ok (.aload_n 0, 1) := by decide +kernel
theorem dX12_beginsNow_694 : decode cX12_beginsNow 694 = .ok (.iload_n 1, 1) := by decide +kernel
theorem dX12_beginsNow_695 : decode cX12_beginsNow 695 = .ok (.invokevirtual 760, 3) := by decide +kernel
theorem dX12_beginsNow_698 : decode cX12_beginsNow 698 = .ok (.goto 14, 3) := by decide +kernel
theorem hV_X12_isFirst : yX12_isFirst.cls = RX12 ∧ yX12_isFirst.cls ≠ "java/lang/invoke/MethodHandle" ∧ yX12_isFirst.cls ≠ "java/lang/invoke/VarHandle" ∧ (parseMethodDescriptor yX12_isFirst.desc).map (fun d => d.parameters.length) = some 1 := by decide +kernel
set_option maxHeartbeats 60000000 in
set_option maxRecDepth 100000 in
/-- beginsNow(n) -/
theorem R_beginsNow (l : Launch) (G : pT) (h0 : Nat) (a : Nat → Nat) (F : Nat → Int32) (B : Nat → Nat → Int32) (Xs : Nat → Nat → Int32) (gh : Nat → Nat → Nat) (nd : Nat) (T : Nat) (nm : Nat) (wr : Nat) (lz : Nat) (dc : Nat) (fd : Nat) (md : Nat) (pr : Nat) (bk : Nat) (M : MTb) (rmm : Nat) (op : Nat) (tp : Nat) (wn : Nat) (fu : Nat) (rd : Nat) (on : Nat) (idn : Nat) (fl : Nat) (ct : Nat) (n9 : Nat) (im : Nat) (mt : Nat → Nat) (ps : Nat → Nat) (yy : Nat → Ps) (bf : Nat → Nat) (wf : Nat → Nat) (nw : Int32) (isn : Int32) (rs0 : Int32) (uc0 : Int32) (tds : Int32) (ma0 : Int32) (mc0 : Int32) (ca : Int32) (mo : Int32) (hR : Rn Xs B gh nd T nm wr lz dc fd md pr bk M rmm op tp wn fu rd on idn fl ct n9 false mt ps yy bf wf) (hfu : fu ≤ 20000) (him : im ≤ 200) : PM l G pX0 yX12_beginsNow cX12_beginsNow 4 none ({ frames := 6, cells := 0, slots := 0, locals := 155 }) [.ref h0, .int (nI n9)] (mW G h0 a (upd (upd (upd (upd (upd (upd (upd (upd (upd (upd (upd (upd (upd (upd (upd (upd (upd (upd (upd (upd (upd (upd F 49 (nI md)) 85 (nI im)) 97 (nI ct)) 98 (nI fl)) 99 (nI rmm)) 101 tds) 102 (nI op)) 111 (nI tp)) 115 (nI wn)) 116 (-1)) 117 (nI fu)) 118 rs0) 119 uc0) 120 (nI rd)) 121 ma0) 122 mc0) 123 ca) 124 mo) 125 nw) 126 isn) 128 (nI on)) 130 (nI idn)) B) (fun (v : Option Value) (u : Nat × Nat × Nat × Nat × Int32 × Int32 × Int32 × Int32 × Int32 × Nat × Nat × Nat × Nat × Int32 × Int32 × Int32 × Int32 × Int32 × Nat × (Nat → Nat → Int32)) => v = none ∧ (Nx Xs u.2.2.2.2.2.2.2.2.2.2.2.2.2.2.2.2.2.2.2 gh nd T nm wr lz dc fd md pr bk M rmm fu (Phi gh ps op (rkN gh n9 false)) u.1 u.2.1 u.2.2.1 u.2.2.2.1 u.2.2.2.2.2.2.2.2.2.2.2.2.2.2.2.2.2.2.1 u.2.2.2.2.2.2.2.2.2.1 u.2.2.2.2.2.2.2.2.2.2.1 u.2.2.2.2.2.2.2.2.2.2.2.1 u.2.2.2.2.2.2.2.2.2.2.2.2.1 u.2.2.2.2.1 u.2.2.2.2.2.1 u.2.2.2.2.2.2.1 u.2.2.2.2.2.2.2.2.1)) (fun u => (mW G h0 a (upd (upd (upd (upd (upd (upd (upd (upd (upd (upd (upd (upd (upd (upd (upd (upd (upd (upd (upd (upd (upd (upd F 49 (nI md)) 85 (nI im)) 97 (nI u.2.2.2.2.2.2.2.2.2.2.2.2.1)) 98 (nI u.2.2.2.2.2.2.2.2.2.2.2.1)) 99 (nI rmm)) 101 u.2.2.2.2.2.2.2.2.2.2.2.2.2.1) 102 (nI u.1)) 111 (nI u.2.1)) 115 (nI u.2.2.1)) 116 u.2.2.2.2.1) 117 (nI u.2.2.2.1)) 118 u.2.2.2.2.2.2.2.1) 119 u.2.2.2.2.2.2.2.2.1) 120 (nI u.2.2.2.2.2.2.2.2.2.2.2.2.2.2.2.2.2.2.1)) 121 u.2.2.2.2.2.2.2.2.2.2.2.2.2.2.1) 122 u.2.2.2.2.2.2.2.2.2.2.2.2.2.2.2.1) 123 u.2.2.2.2.2.2.2.2.2.2.2.2.2.2.2.2.1) 124 u.2.2.2.2.2.2.2.2.2.2.2.2.2.2.2.2.2.1) 125 u.2.2.2.2.2.1) 126 u.2.2.2.2.2.2.1) 128 (nI u.2.2.2.2.2.2.2.2.2.1)) 130 (nI u.2.2.2.2.2.2.2.2.2.2.1)) u.2.2.2.2.2.2.2.2.2.2.2.2.2.2.2.2.2.2.2)) := by
  intro sz
  refine Met.ofW (cc := cX12_beginsNow) (maxL := 4) (ret := none) (by decide) rfl ?_
  intro p e s m args below meth c s₁ B9 hml hv
  obtain ⟨rfl, hsz, hP, hD0, hE, hX⟩ := hv
  have hx := B9.exec
  have hb := B9.bytes
  have hr := B9.returns
  have hts := atoms_spec (ws := Cond.code yX12_beginsNow cX12_beginsNow 4 none :: pw) B9.pre
  have hq : ∀ w ∈ pw, w.before _ s = true := fun w h => hts w (List.mem_cons_of_mem _ h)
  have hown : s.vm.findClass RX12 = some m.cls := findClass_of_methodNamed B9.named
  have hlocks := B9.notSynchronized
  subst hsz
  have hD := hD0.self (sz := s.heap.size)
  have hA : ∀ q : Nat, s.heap.size ≤ q → va_A (mW G h0 a (upd (upd (upd (upd (upd (upd (upd (upd (upd (upd (upd (upd (upd (upd (upd (upd (upd (upd (upd (upd (upd (upd F 49 (nI md)) 85 (nI im)) 97 (nI ct)) 98 (nI fl)) 99 (nI rmm)) 101 tds) 102 (nI op)) 111 (nI tp)) 115 (nI wn)) 116 (-1)) 117 (nI fu)) 118 rs0) 119 uc0) 120 (nI rd)) 121 ma0) 122 mc0) 123 ca) 124 mo) 125 nw) 126 isn) 128 (nI on)) 130 (nI idn)) B) s.heap.size q := fun q h => Or.inr h
  have hP : va_P G.1 pCl (mW G h0 a (upd (upd (upd (upd (upd (upd (upd (upd (upd (upd (upd (upd (upd (upd (upd (upd (upd (upd (upd (upd (upd (upd F 49 (nI md)) 85 (nI im)) 97 (nI ct)) 98 (nI fl)) 99 (nI rmm)) 101 tds) 102 (nI op)) 111 (nI tp)) 115 (nI wn)) 116 (-1)) 117 (nI fu)) 118 rs0) 119 uc0) 120 (nI rd)) 121 ma0) 122 mc0) 123 ca) 124 mo) 125 nw) 126 isn) 128 (nI on)) 130 (nI idn)) B) s.heap := hP
  generalize va_A (mW G h0 a (upd (upd (upd (upd (upd (upd (upd (upd (upd (upd (upd (upd (upd (upd (upd (upd (upd (upd (upd (upd (upd (upd F 49 (nI md)) 85 (nI im)) 97 (nI ct)) 98 (nI fl)) 99 (nI rmm)) 101 tds) 102 (nI op)) 111 (nI tp)) 115 (nI wn)) 116 (-1)) 117 (nI fu)) 118 rs0) 119 uc0) 120 (nI rd)) 121 ma0) 122 mc0) 123 ca) 124 mo) 125 nw) 126 isn) 128 (nI on)) 130 (nI idn)) B) s.heap.size = A at hD hE hA ⊢
  have hS : va_S A s.heap s.heap [] := va_S.rf
  have hl := lv_entry ([.ref h0, .int (nI n9)]) (n := 4) (Nat.le_of_ble_eq_true rfl)
  rw [lg_entry_eq]
  generalize (lg_sl ([.ref h0, .int (nI n9)]) ++ List.replicate (4 - (lg_sl ([.ref h0, .int (nI n9)])).length) Slot.unset).toArray = ls at hl ⊢
  have hl : lv_has ls 4 [(0, .ref h0), (1, .int (nI n9))] := hl
  have hPg := hR.pg
  have hbd := hPg.bd
  have hrm := hR.room
  have hw9 : B 9 = Xs 9 := hPg.row 9 (by omega) (by omega) (by omega) (by omega) (by omega)
  have hw11 : B 11 = Xs 11 := hPg.row 11 (by omega) (by omega) (by omega) (by omega) (by omega)
  have hw12 : B 12 = Xs 12 := hPg.row 12 (by omega) (by omega) (by omega) (by omega) (by omega)
  have hw13 : B 13 = Xs 13 := hPg.row 13 (by omega) (by omega) (by omega) (by omega) (by omega)
  have hw21 : B 21 = Xs 21 := hPg.row 21 (by omega) (by omega) (by omega) (by omega) (by omega)
  obtain ⟨kk, hkd, -, hk44, -⟩ := hPg.fs.knd hrm.2.2.1
  have hko := hPg.fs.kok hrm.2.2.1 hkd hk44
  have hn44 : kk ≠ 44 := fun h => (hR.cf.2.2.2.2.2.2.2.2.1 rfl).2 (by rw [hkd, h]; rfl)
  have hkr : (1 ≤ kk ∧ kk ≤ 23) ∨ (30 ≤ kk ∧ kk ≤ 43) := by have z := hko; unfold kOK at z; omega
  rcases (show kk = 1 ∨ kk = 2 ∨ kk = 3 ∨ kk = 4 ∨ kk = 5 ∨ kk = 6 ∨ kk = 7 ∨ kk = 8 ∨ kk = 9 ∨ kk = 10 ∨ kk = 11 ∨ kk = 12 ∨ kk = 13 ∨ kk = 14 ∨ kk = 15 ∨ kk = 16 ∨ kk = 17 ∨ kk = 18 ∨ kk = 19 ∨ kk = 20 ∨ kk = 21 ∨ kk = 22 ∨ kk = 23 ∨ kk = 30 ∨ kk = 31 ∨ kk = 32 ∨ kk = 33 ∨ kk = 34 ∨ kk = 35 ∨ kk = 36 ∨ kk = 37 ∨ kk = 38 ∨ kk = 39 ∨ kk = 40 ∨ kk = 41 ∨ kk = 42 ∨ kk = 43 by omega) with rfl | rfl | rfl | rfl | rfl | rfl | rfl | rfl | rfl | rfl | rfl | rfl | rfl | rfl | rfl | rfl | rfl | rfl | rfl | rfl | rfl | rfl | rfl | rfl | rfl | rfl | rfl | rfl | rfl | rfl | rfl | rfl | rfl | rfl | rfl | rfl | rfl
  · clear hn44 hkr hko
    refine lv_aload_n hx hb dX12_beginsNow_0 rfl (lv_at hl 0 rfl) ?_
    refine r_get (v := .ref (a 9)) hx hb hown hq hE hP 17 38 tFX12_17 (by decide) pw_1439 rfl dX12_beginsNow_1 ?_
    refine lv_iload_n hx hb dX12_beginsNow_4 rfl (lv_at hl 1 rfl) ?_
    refine r_ldi (f := (B 9)) (j := n9) hx hb hE hP 9 (ma_9 G a _) rfl (by omega) (by decide) dX12_beginsNow_5 ?_
    refine lv_topi (fun x1 e2 => ?_)
    obtain rfl : x1 = 1 := e2.trans ((congrFun hw9 _).trans hkd)
    refine lv_istore_n (lv' := [(2, .int 1), (0, .ref h0), (1, .int (nI n9))]) hx hb dX12_beginsNow_6 rfl hl (by decide) rfl (fun ls hl => ?_)
    refine lv_iload_n hx hb dX12_beginsNow_7 rfl (lv_at hl 0 rfl) ?_
    refine lv_bipush (v := 30) hx hb dX12_beginsNow_8 (by decide) ?_
    refine lv_icmp_lt (tgt := 41) hx hb dX12_beginsNow_10 (by decide) (fun c3 => ?_) (fun c3 => absurd c3 (by decide))
    refine lv_iload_n hx hb dX12_beginsNow_41 rfl (lv_at hl 0 rfl) ?_
    refine lv_tableIn (tgt := 228) (off := 186) hx hb dX12_beginsNow_42 (by decide) (by decide) (by decide) (by decide) ?_
    obtain ⟨t9, ht1, ht2, ht3, ht4, ht5, ht6⟩ := hR.bNum hkd (by omega)
    have ht7 := ht5 (by omega) (by omega)
    clear ht5 ht6
    refine lv_aload_n hx hb dX12_beginsNow_228 rfl (lv_at hl 1 rfl) ?_
    refine lv_iload_n hx hb dX12_beginsNow_229 rfl (lv_at hl 2 rfl) ?_
    refine lv_aload_n hx hb dX12_beginsNow_230 rfl (lv_at hl 1 rfl) ?_
    refine r_get (v := .ref (a 5)) hx hb hown hq hE hP 8 25 tFX12_8 (by decide) pw_1435 rfl dX12_beginsNow_231 ?_
    refine lv_aload_n hx hb dX12_beginsNow_234 rfl (lv_at hl 1 rfl) ?_
    refine r_get (v := .ref (a 11)) hx hb hown hq hE hP 19 44 tFX12_19 (by decide) pw_1441 rfl dX12_beginsNow_235 ?_
    refine lv_iload_n hx hb dX12_beginsNow_238 rfl (lv_at hl 2 rfl) ?_
    refine r_ldi (f := (B 11)) (j := n9) hx hb hE hP 11 (ma_11 G a _) rfl (by omega) (by decide) dX12_beginsNow_239 ?_
    obtain ⟨-, ⟨tk4, e5, h6, -⟩, -⟩ := hPg.fs n9 hrm.2.2.1
    refine lv_topi (fun x7 e8 => ?_)
    obtain rfl : x7 = nI tk4 := e8.trans ((congrFun hw11 _).trans e5)
    refine r_ldi (f := (B 5)) (j := tk4) hx hb hE hP 5 (ma_5 G a _) rfl (by omega) (by decide) dX12_beginsNow_240 ?_
    have hP : va_P G.1 pCl (mW G h0 a (upd (upd (upd (upd (upd (upd (upd (upd (upd (upd (upd (upd (upd (upd (upd (upd (upd (upd (upd (upd (upd (upd (upd F 49 (nI md)) 85 (nI im)) 97 (nI ct)) 98 (nI fl)) 99 (nI rmm)) 101 tds) 102 (nI op)) 111 (nI tp)) 115 (nI wn)) 116 (-1)) 117 (nI fu)) 118 rs0) 119 uc0) 120 (nI rd)) 121 ma0) 122 mc0) 123 ca) 124 mo) 125 nw) 126 isn) 128 (nI on)) 130 (nI idn)) 111 (nI tp)) (updA (updA B 68 (B 68)) 69 (B 69))) _ := hP
    have hD : va_D A (mW G h0 a (upd (upd (upd (upd (upd (upd (upd (upd (upd (upd (upd (upd (upd (upd (upd (upd (upd (upd (upd (upd (upd (upd (upd F 49 (nI md)) 85 (nI im)) 97 (nI ct)) 98 (nI fl)) 99 (nI rmm)) 101 tds) 102 (nI op)) 111 (nI tp)) 115 (nI wn)) 116 (-1)) 117 (nI fu)) 118 rs0) 119 uc0) 120 (nI rd)) 121 ma0) 122 mc0) 123 ca) 124 mo) 125 nw) 126 isn) 128 (nI on)) 130 (nI idn)) 111 (nI tp)) (updA (updA B 68 (B 68)) 69 (B 69))) := hD
    refine pc_V0 (G := G) (As := [.int (nI n9), .int ((B 5) tk4)]) (rest := []) hx hb hml hown hq hE hX pX0_al hP hD hS hA hl.1 (R_gives l G h0 a (upd (upd (upd (upd (upd (upd (upd (upd (upd (upd (upd (upd (upd (upd (upd (upd (upd (upd (upd (upd (upd (upd F 49 (nI md)) 85 (nI im)) 97 (nI ct)) 98 (nI fl)) 99 (nI rmm)) 101 tds) 102 (nI op)) 111 (nI tp)) 115 (nI wn)) 116 (-1)) 117 (nI fu)) 118 rs0) 119 uc0) 120 (nI rd)) 121 ma0) 122 mc0) 123 ca) 124 mo) 125 nw) 126 isn) 128 (nI on)) 130 (nI idn)) B n9 t9 tp ((B 5) tk4) (B 68) (B 69) (by omega) ht1 (by omega) (by omega)) (gV pw_2069 pw_2070 pw_2071 pw_1523 pw_2006) hV_X12_gives 0 9 rfl rfl rfl rfl (Nat.le_of_ble_eq_true rfl) dX12_beginsNow_241 ⟨Nat.le_of_ble_eq_true rfl, Nat.le_of_ble_eq_true rfl⟩ ⟨Nat.le_of_ble_eq_true rfl, Nat.le_of_ble_eq_true rfl⟩ (fun v11 u9 H locs hw10 hP hD hS => ?_)
    obtain ⟨b12, rf13⟩ := u9
    obtain ⟨hw10, h14, h15⟩ := hw10
    replace h14 : rf13 = upd (B 69) tp (nI b12) := h14
    replace h15 : b12 ≤ 1 ∧ 3 * b12 ≤ t9 ∧ t9 ≤ 2 + 9000 * b12 := h15
    obtain rfl : v11 = none := hw10
    have hP : va_P G.1 pCl (mW G h0 a (upd (upd (upd (upd (upd (upd (upd (upd (upd (upd (upd (upd (upd (upd (upd (upd (upd (upd (upd (upd (upd (upd F 49 (nI md)) 85 (nI im)) 97 (nI ct)) 98 (nI fl)) 99 (nI rmm)) 101 tds) 102 (nI op)) 111 (nI (tp + 1))) 115 (nI wn)) 116 (-1)) 117 (nI fu)) 118 rs0) 119 uc0) 120 (nI rd)) 121 ma0) 122 mc0) 123 ca) 124 mo) 125 (nI n9)) 126 0) 128 (nI on)) 130 (nI idn)) (updA (updA B 68 (upd (B 68) tp ((B 5) tk4))) 69 rf13)) _ := hP
    have hD : va_D A (mW G h0 a (upd (upd (upd (upd (upd (upd (upd (upd (upd (upd (upd (upd (upd (upd (upd (upd (upd (upd (upd (upd (upd (upd F 49 (nI md)) 85 (nI im)) 97 (nI ct)) 98 (nI fl)) 99 (nI rmm)) 101 tds) 102 (nI op)) 111 (nI (tp + 1))) 115 (nI wn)) 116 (-1)) 117 (nI fu)) 118 rs0) 119 uc0) 120 (nI rd)) 121 ma0) 122 mc0) 123 ca) 124 mo) 125 (nI n9)) 126 0) 128 (nI on)) 130 (nI idn)) (updA (updA B 68 (upd (B 68) tp ((B 5) tk4))) 69 rf13)) := hD
    refine W.widen (k := 0) (n := 0) (Nat.le_of_ble_eq_true rfl) (Nat.le_of_ble_eq_true rfl) ?_
    refine W.eq (g2 := F0 m 244 ls []) rfl ?_
    obtain rfl : rf13 = _ := h14
    have hP : va_P G.1 pCl (mW G h0 a (upd (upd (upd (upd (upd (upd (upd (upd (upd (upd (upd (upd (upd (upd (upd (upd (upd (upd (upd (upd (upd (upd F 49 (nI md)) 85 (nI im)) 97 (nI ct)) 98 (nI fl)) 99 (nI rmm)) 101 tds) 102 (nI op)) 111 (nI (tp + 1))) 115 (nI wn)) 116 (-1)) 117 (nI fu)) 118 rs0) 119 uc0) 120 (nI rd)) 121 ma0) 122 mc0) 123 ca) 124 mo) 125 (nI n9)) 126 0) 128 (nI on)) 130 (nI idn)) (updA (updA B 68 (upd (B 68) tp ((B 5) tk4))) 69 (upd (B 69) tp (nI b12)))) _ := hP
    have hD : va_D A (mW G h0 a (upd (upd (upd (upd (upd (upd (upd (upd (upd (upd (upd (upd (upd (upd (upd (upd (upd (upd (upd (upd (upd (upd F 49 (nI md)) 85 (nI im)) 97 (nI ct)) 98 (nI fl)) 99 (nI rmm)) 101 tds) 102 (nI op)) 111 (nI (tp + 1))) 115 (nI wn)) 116 (-1)) 117 (nI fu)) 118 rs0) 119 uc0) 120 (nI rd)) 121 ma0) 122 mc0) 123 ca) 124 mo) 125 (nI n9)) 126 0) 128 (nI on)) 130 (nI idn)) (updA (updA B 68 (upd (B 68) tp ((B 5) tk4))) 69 (upd (B 69) tp (nI b12)))) := hD
    refine lv_goto (tgt := 712) hx hb dX12_beginsNow_244 (by decide) ?_
    have hz16 : Nx Xs (updA (updA B 68 (upd (B 68) tp ((B 5) tk4))) 69 (upd (B 69) tp (nI b12))) gh nd T nm wr lz dc fd md pr bk M rmm fu (Phi gh ps op (rkN gh n9 false)) op (tp + 1) wn fu rd on idn fl ct ((-1) : Int32) (nI n9) (0 : Int32) uc0 := (hR.gives hkd (by omega) (fun h => absurd h (by omega)) ht1 ht2 ht3 (VTd.num (by omega)) h15)
    have hP : va_P G.1 pCl (mW G h0 a (upd (upd (upd (upd (upd (upd (upd (upd (upd (upd (upd (upd (upd (upd (upd (upd (upd (upd (upd (upd (upd (upd F 49 (nI md)) 85 (nI im)) 97 (nI ct)) 98 (nI fl)) 99 (nI rmm)) 101 tds) 102 (nI op)) 111 (nI (tp + 1))) 115 (nI wn)) 116 ((-1) : Int32)) 117 (nI fu)) 118 rs0) 119 uc0) 120 (nI rd)) 121 ma0) 122 mc0) 123 ca) 124 mo) 125 (nI n9)) 126 (0 : Int32)) 128 (nI on)) 130 (nI idn)) (updA (updA B 68 (upd (B 68) tp ((B 5) tk4))) 69 (upd (B 69) tp (nI b12)))) _ := hP
    have hD : va_D A (mW G h0 a (upd (upd (upd (upd (upd (upd (upd (upd (upd (upd (upd (upd (upd (upd (upd (upd (upd (upd (upd (upd (upd (upd F 49 (nI md)) 85 (nI im)) 97 (nI ct)) 98 (nI fl)) 99 (nI rmm)) 101 tds) 102 (nI op)) 111 (nI (tp + 1))) 115 (nI wn)) 116 ((-1) : Int32)) 117 (nI fu)) 118 rs0) 119 uc0) 120 (nI rd)) 121 ma0) 122 mc0) 123 ca) 124 mo) 125 (nI n9)) 126 (0 : Int32)) 128 (nI on)) 130 (nI idn)) (updA (updA B 68 (upd (B 68) tp ((B 5) tk4))) 69 (upd (B 69) tp (nI b12)))) := hD
    exact W.vret hx hb hr (fun t9 ht9 hW9 => ⟨⟨_, (op, (tp + 1), wn, fu, ((-1) : Int32), (nI n9), (0 : Int32), rs0, uc0, on, idn, fl, ct, tds, ma0, mc0, ca, mo, rd, (updA (updA B 68 (upd (B 68) tp ((B 5) tk4))) 69 (upd (B 69) tp (nI b12)))), rfl, ⟨rfl, hz16⟩, by rw [ht9]; exact hP, hD⟩, hS.F ht9⟩) hS.2.2 dX12_beginsNow_712
  · clear hn44 hkr hko
    refine lv_aload_n hx hb dX12_beginsNow_0 rfl (lv_at hl 0 rfl) ?_
    refine r_get (v := .ref (a 9)) hx hb hown hq hE hP 17 38 tFX12_17 (by decide) pw_1439 rfl dX12_beginsNow_1 ?_
    refine lv_iload_n hx hb dX12_beginsNow_4 rfl (lv_at hl 1 rfl) ?_
    refine r_ldi (f := (B 9)) (j := n9) hx hb hE hP 9 (ma_9 G a _) rfl (by omega) (by decide) dX12_beginsNow_5 ?_
    refine lv_topi (fun x17 e18 => ?_)
    obtain rfl : x17 = 2 := e18.trans ((congrFun hw9 _).trans hkd)
    refine lv_istore_n (lv' := [(2, .int 2), (0, .ref h0), (1, .int (nI n9))]) hx hb dX12_beginsNow_6 rfl hl (by decide) rfl (fun ls hl => ?_)
    refine lv_iload_n hx hb dX12_beginsNow_7 rfl (lv_at hl 0 rfl) ?_
    refine lv_bipush (v := 30) hx hb dX12_beginsNow_8 (by decide) ?_
    refine lv_icmp_lt (tgt := 41) hx hb dX12_beginsNow_10 (by decide) (fun c19 => ?_) (fun c19 => absurd c19 (by decide))
    refine lv_iload_n hx hb dX12_beginsNow_41 rfl (lv_at hl 0 rfl) ?_
    refine lv_tableIn (tgt := 247) (off := 205) hx hb dX12_beginsNow_42 (by decide) (by decide) (by decide) (by decide) ?_
    obtain ⟨t9, ht1, ht2, ht3, ht4, ht5, ht6⟩ := hR.bNum hkd (by omega)
    have ht7 := ht5 (by omega) (by omega)
    clear ht5 ht6
    refine lv_aload_n hx hb dX12_beginsNow_247 rfl (lv_at hl 1 rfl) ?_
    refine lv_iload_n hx hb dX12_beginsNow_248 rfl (lv_at hl 2 rfl) ?_
    refine lv_iconst (v := 1) hx hb dX12_beginsNow_249 (by decide) ?_
    have hP : va_P G.1 pCl (mW G h0 a (upd (upd (upd (upd (upd (upd (upd (upd (upd (upd (upd (upd (upd (upd (upd (upd (upd (upd (upd (upd (upd (upd (upd F 49 (nI md)) 85 (nI im)) 97 (nI ct)) 98 (nI fl)) 99 (nI rmm)) 101 tds) 102 (nI op)) 111 (nI tp)) 115 (nI wn)) 116 (-1)) 117 (nI fu)) 118 rs0) 119 uc0) 120 (nI rd)) 121 ma0) 122 mc0) 123 ca) 124 mo) 125 nw) 126 isn) 128 (nI on)) 130 (nI idn)) 111 (nI tp)) (updA (updA B 68 (B 68)) 69 (B 69))) _ := hP
    have hD : va_D A (mW G h0 a (upd (upd (upd (upd (upd (upd (upd (upd (upd (upd (upd (upd (upd (upd (upd (upd (upd (upd (upd (upd (upd (upd (upd F 49 (nI md)) 85 (nI im)) 97 (nI ct)) 98 (nI fl)) 99 (nI rmm)) 101 tds) 102 (nI op)) 111 (nI tp)) 115 (nI wn)) 116 (-1)) 117 (nI fu)) 118 rs0) 119 uc0) 120 (nI rd)) 121 ma0) 122 mc0) 123 ca) 124 mo) 125 nw) 126 isn) 128 (nI on)) 130 (nI idn)) 111 (nI tp)) (updA (updA B 68 (B 68)) 69 (B 69))) := hD
    refine pc_V0 (G := G) (As := [.int (nI n9), .int 1]) (rest := []) hx hb hml hown hq hE hX pX0_al hP hD hS hA hl.1 (R_gives l G h0 a (upd (upd (upd (upd (upd (upd (upd (upd (upd (upd (upd (upd (upd (upd (upd (upd (upd (upd (upd (upd (upd (upd F 49 (nI md)) 85 (nI im)) 97 (nI ct)) 98 (nI fl)) 99 (nI rmm)) 101 tds) 102 (nI op)) 111 (nI tp)) 115 (nI wn)) 116 (-1)) 117 (nI fu)) 118 rs0) 119 uc0) 120 (nI rd)) 121 ma0) 122 mc0) 123 ca) 124 mo) 125 nw) 126 isn) 128 (nI on)) 130 (nI idn)) B n9 t9 tp 1 (B 68) (B 69) (by omega) ht1 (by omega) (by omega)) (gV pw_2069 pw_2070 pw_2071 pw_1523 pw_2006) hV_X12_gives 0 9 rfl rfl rfl rfl (Nat.le_of_ble_eq_true rfl) dX12_beginsNow_250 ⟨Nat.le_of_ble_eq_true rfl, Nat.le_of_ble_eq_true rfl⟩ ⟨Nat.le_of_ble_eq_true rfl, Nat.le_of_ble_eq_true rfl⟩ (fun v22 u20 H locs hw21 hP hD hS => ?_)
    obtain ⟨b23, rf24⟩ := u20
    obtain ⟨hw21, h25, h26⟩ := hw21
    replace h25 : rf24 = upd (B 69) tp (nI b23) := h25
    replace h26 : b23 ≤ 1 ∧ 3 * b23 ≤ t9 ∧ t9 ≤ 2 + 9000 * b23 := h26
    obtain rfl : v22 = none := hw21
    have hP : va_P G.1 pCl (mW G h0 a (upd (upd (upd (upd (upd (upd (upd (upd (upd (upd (upd (upd (upd (upd (upd (upd (upd (upd (upd (upd (upd (upd F 49 (nI md)) 85 (nI im)) 97 (nI ct)) 98 (nI fl)) 99 (nI rmm)) 101 tds) 102 (nI op)) 111 (nI (tp + 1))) 115 (nI wn)) 116 (-1)) 117 (nI fu)) 118 rs0) 119 uc0) 120 (nI rd)) 121 ma0) 122 mc0) 123 ca) 124 mo) 125 (nI n9)) 126 0) 128 (nI on)) 130 (nI idn)) (updA (updA B 68 (upd (B 68) tp 1)) 69 rf24)) _ := hP
    have hD : va_D A (mW G h0 a (upd (upd (upd (upd (upd (upd (upd (upd (upd (upd (upd (upd (upd (upd (upd (upd (upd (upd (upd (upd (upd (upd F 49 (nI md)) 85 (nI im)) 97 (nI ct)) 98 (nI fl)) 99 (nI rmm)) 101 tds) 102 (nI op)) 111 (nI (tp + 1))) 115 (nI wn)) 116 (-1)) 117 (nI fu)) 118 rs0) 119 uc0) 120 (nI rd)) 121 ma0) 122 mc0) 123 ca) 124 mo) 125 (nI n9)) 126 0) 128 (nI on)) 130 (nI idn)) (updA (updA B 68 (upd (B 68) tp 1)) 69 rf24)) := hD
    refine W.widen (k := 0) (n := 0) (Nat.le_of_ble_eq_true rfl) (Nat.le_of_ble_eq_true rfl) ?_
    refine W.eq (g2 := F0 m 253 ls []) rfl ?_
    obtain rfl : rf24 = _ := h25
    have hP : va_P G.1 pCl (mW G h0 a (upd (upd (upd (upd (upd (upd (upd (upd (upd (upd (upd (upd (upd (upd (upd (upd (upd (upd (upd (upd (upd (upd F 49 (nI md)) 85 (nI im)) 97 (nI ct)) 98 (nI fl)) 99 (nI rmm)) 101 tds) 102 (nI op)) 111 (nI (tp + 1))) 115 (nI wn)) 116 (-1)) 117 (nI fu)) 118 rs0) 119 uc0) 120 (nI rd)) 121 ma0) 122 mc0) 123 ca) 124 mo) 125 (nI n9)) 126 0) 128 (nI on)) 130 (nI idn)) (updA (updA B 68 (upd (B 68) tp 1)) 69 (upd (B 69) tp (nI b23)))) _ := hP
    have hD : va_D A (mW G h0 a (upd (upd (upd (upd (upd (upd (upd (upd (upd (upd (upd (upd (upd (upd (upd (upd (upd (upd (upd (upd (upd (upd F 49 (nI md)) 85 (nI im)) 97 (nI ct)) 98 (nI fl)) 99 (nI rmm)) 101 tds) 102 (nI op)) 111 (nI (tp + 1))) 115 (nI wn)) 116 (-1)) 117 (nI fu)) 118 rs0) 119 uc0) 120 (nI rd)) 121 ma0) 122 mc0) 123 ca) 124 mo) 125 (nI n9)) 126 0) 128 (nI on)) 130 (nI idn)) (updA (updA B 68 (upd (B 68) tp 1)) 69 (upd (B 69) tp (nI b23)))) := hD
    refine lv_goto (tgt := 712) hx hb dX12_beginsNow_253 (by decide) ?_
    have hz27 : Nx Xs (updA (updA B 68 (upd (B 68) tp 1)) 69 (upd (B 69) tp (nI b23))) gh nd T nm wr lz dc fd md pr bk M rmm fu (Phi gh ps op (rkN gh n9 false)) op (tp + 1) wn fu rd on idn fl ct ((-1) : Int32) (nI n9) (0 : Int32) uc0 := (hR.gives hkd (by omega) (fun h => absurd h (by omega)) ht1 ht2 ht3 (VTd.num (by omega)) h26)
    have hP : va_P G.1 pCl (mW G h0 a (upd (upd (upd (upd (upd (upd (upd (upd (upd (upd (upd (upd (upd (upd (upd (upd (upd (upd (upd (upd (upd (upd F 49 (nI md)) 85 (nI im)) 97 (nI ct)) 98 (nI fl)) 99 (nI rmm)) 101 tds) 102 (nI op)) 111 (nI (tp + 1))) 115 (nI wn)) 116 ((-1) : Int32)) 117 (nI fu)) 118 rs0) 119 uc0) 120 (nI rd)) 121 ma0) 122 mc0) 123 ca) 124 mo) 125 (nI n9)) 126 (0 : Int32)) 128 (nI on)) 130 (nI idn)) (updA (updA B 68 (upd (B 68) tp 1)) 69 (upd (B 69) tp (nI b23)))) _ := hP
    have hD : va_D A (mW G h0 a (upd (upd (upd (upd (upd (upd (upd (upd (upd (upd (upd (upd (upd (upd (upd (upd (upd (upd (upd (upd (upd (upd F 49 (nI md)) 85 (nI im)) 97 (nI ct)) 98 (nI fl)) 99 (nI rmm)) 101 tds) 102 (nI op)) 111 (nI (tp + 1))) 115 (nI wn)) 116 ((-1) : Int32)) 117 (nI fu)) 118 rs0) 119 uc0) 120 (nI rd)) 121 ma0) 122 mc0) 123 ca) 124 mo) 125 (nI n9)) 126 (0 : Int32)) 128 (nI on)) 130 (nI idn)) (updA (updA B 68 (upd (B 68) tp 1)) 69 (upd (B 69) tp (nI b23)))) := hD
    exact W.vret hx hb hr (fun t9 ht9 hW9 => ⟨⟨_, (op, (tp + 1), wn, fu, ((-1) : Int32), (nI n9), (0 : Int32), rs0, uc0, on, idn, fl, ct, tds, ma0, mc0, ca, mo, rd, (updA (updA B 68 (upd (B 68) tp 1)) 69 (upd (B 69) tp (nI b23)))), rfl, ⟨rfl, hz27⟩, by rw [ht9]; exact hP, hD⟩, hS.F ht9⟩) hS.2.2 dX12_beginsNow_712
  · clear hn44 hkr hko
    refine lv_aload_n hx hb dX12_beginsNow_0 rfl (lv_at hl 0 rfl) ?_
    refine r_get (v := .ref (a 9)) hx hb hown hq hE hP 17 38 tFX12_17 (by decide) pw_1439 rfl dX12_beginsNow_1 ?_
    refine lv_iload_n hx hb dX12_beginsNow_4 rfl (lv_at hl 1 rfl) ?_
    refine r_ldi (f := (B 9)) (j := n9) hx hb hE hP 9 (ma_9 G a _) rfl (by omega) (by decide) dX12_beginsNow_5 ?_
    refine lv_topi (fun x28 e29 => ?_)
    obtain rfl : x28 = 3 := e29.trans ((congrFun hw9 _).trans hkd)
    refine lv_istore_n (lv' := [(2, .int 3), (0, .ref h0), (1, .int (nI n9))]) hx hb dX12_beginsNow_6 rfl hl (by decide) rfl (fun ls hl => ?_)
    refine lv_iload_n hx hb dX12_beginsNow_7 rfl (lv_at hl 0 rfl) ?_
    refine lv_bipush (v := 30) hx hb dX12_beginsNow_8 (by decide) ?_
    refine lv_icmp_lt (tgt := 41) hx hb dX12_beginsNow_10 (by decide) (fun c30 => ?_) (fun c30 => absurd c30 (by decide))
    refine lv_iload_n hx hb dX12_beginsNow_41 rfl (lv_at hl 0 rfl) ?_
    refine lv_tableIn (tgt := 256) (off := 214) hx hb dX12_beginsNow_42 (by decide) (by decide) (by decide) (by decide) ?_
    obtain ⟨t9, ht1, ht2, ht3, ht4, ht5, ht6⟩ := hR.bNum hkd (by omega)
    have ht7 := ht5 (by omega) (by omega)
    clear ht5 ht6
    refine lv_aload_n hx hb dX12_beginsNow_256 rfl (lv_at hl 1 rfl) ?_
    refine lv_iload_n hx hb dX12_beginsNow_257 rfl (lv_at hl 2 rfl) ?_
    refine lv_iconst (v := 0) hx hb dX12_beginsNow_258 (by decide) ?_
    have hP : va_P G.1 pCl (mW G h0 a (upd (upd (upd (upd (upd (upd (upd (upd (upd (upd (upd (upd (upd (upd (upd (upd (upd (upd (upd (upd (upd (upd (upd F 49 (nI md)) 85 (nI im)) 97 (nI ct)) 98 (nI fl)) 99 (nI rmm)) 101 tds) 102 (nI op)) 111 (nI tp)) 115 (nI wn)) 116 (-1)) 117 (nI fu)) 118 rs0) 119 uc0) 120 (nI rd)) 121 ma0) 122 mc0) 123 ca) 124 mo) 125 nw) 126 isn) 128 (nI on)) 130 (nI idn)) 111 (nI tp)) (updA (updA B 68 (B 68)) 69 (B 69))) _ := hP
    have hD : va_D A (mW G h0 a (upd (upd (upd (upd (upd (upd (upd (upd (upd (upd (upd (upd (upd (upd (upd (upd (upd (upd (upd (upd (upd (upd (upd F 49 (nI md)) 85 (nI im)) 97 (nI ct)) 98 (nI fl)) 99 (nI rmm)) 101 tds) 102 (nI op)) 111 (nI tp)) 115 (nI wn)) 116 (-1)) 117 (nI fu)) 118 rs0) 119 uc0) 120 (nI rd)) 121 ma0) 122 mc0) 123 ca) 124 mo) 125 nw) 126 isn) 128 (nI on)) 130 (nI idn)) 111 (nI tp)) (updA (updA B 68 (B 68)) 69 (B 69))) := hD
    refine pc_V0 (G := G) (As := [.int (nI n9), .int 0]) (rest := []) hx hb hml hown hq hE hX pX0_al hP hD hS hA hl.1 (R_gives l G h0 a (upd (upd (upd (upd (upd (upd (upd (upd (upd (upd (upd (upd (upd (upd (upd (upd (upd (upd (upd (upd (upd (upd F 49 (nI md)) 85 (nI im)) 97 (nI ct)) 98 (nI fl)) 99 (nI rmm)) 101 tds) 102 (nI op)) 111 (nI tp)) 115 (nI wn)) 116 (-1)) 117 (nI fu)) 118 rs0) 119 uc0) 120 (nI rd)) 121 ma0) 122 mc0) 123 ca) 124 mo) 125 nw) 126 isn) 128 (nI on)) 130 (nI idn)) B n9 t9 tp 0 (B 68) (B 69) (by omega) ht1 (by omega) (by omega)) (gV pw_2069 pw_2070 pw_2071 pw_1523 pw_2006) hV_X12_gives 0 9 rfl rfl rfl rfl (Nat.le_of_ble_eq_true rfl) dX12_beginsNow_259 ⟨Nat.le_of_ble_eq_true rfl, Nat.le_of_ble_eq_true rfl⟩ ⟨Nat.le_of_ble_eq_true rfl, Nat.le_of_ble_eq_true rfl⟩ (fun v33 u31 H locs hw32 hP hD hS => ?_)
    obtain ⟨b34, rf35⟩ := u31
    obtain ⟨hw32, h36, h37⟩ := hw32
    replace h36 : rf35 = upd (B 69) tp (nI b34) := h36
    replace h37 : b34 ≤ 1 ∧ 3 * b34 ≤ t9 ∧ t9 ≤ 2 + 9000 * b34 := h37
    obtain rfl : v33 = none := hw32
    have hP : va_P G.1 pCl (mW G h0 a (upd (upd (upd (upd (upd (upd (upd (upd (upd (upd (upd (upd (upd (upd (upd (upd (upd (upd (upd (upd (upd (upd F 49 (nI md)) 85 (nI im)) 97 (nI ct)) 98 (nI fl)) 99 (nI rmm)) 101 tds) 102 (nI op)) 111 (nI (tp + 1))) 115 (nI wn)) 116 (-1)) 117 (nI fu)) 118 rs0) 119 uc0) 120 (nI rd)) 121 ma0) 122 mc0) 123 ca) 124 mo) 125 (nI n9)) 126 0) 128 (nI on)) 130 (nI idn)) (updA (updA B 68 (upd (B 68) tp 0)) 69 rf35)) _ := hP
    have hD : va_D A (mW G h0 a (upd (upd (upd (upd (upd (upd (upd (upd (upd (upd (upd (upd (upd (upd (upd (upd (upd (upd (upd (upd (upd (upd F 49 (nI md)) 85 (nI im)) 97 (nI ct)) 98 (nI fl)) 99 (nI rmm)) 101 tds) 102 (nI op)) 111 (nI (tp + 1))) 115 (nI wn)) 116 (-1)) 117 (nI fu)) 118 rs0) 119 uc0) 120 (nI rd)) 121 ma0) 122 mc0) 123 ca) 124 mo) 125 (nI n9)) 126 0) 128 (nI on)) 130 (nI idn)) (updA (updA B 68 (upd (B 68) tp 0)) 69 rf35)) := hD
    refine W.widen (k := 0) (n := 0) (Nat.le_of_ble_eq_true rfl) (Nat.le_of_ble_eq_true rfl) ?_
    refine W.eq (g2 := F0 m 262 ls []) rfl ?_
    obtain rfl : rf35 = _ := h36
    have hP : va_P G.1 pCl (mW G h0 a (upd (upd (upd (upd (upd (upd (upd (upd (upd (upd (upd (upd (upd (upd (upd (upd (upd (upd (upd (upd (upd (upd F 49 (nI md)) 85 (nI im)) 97 (nI ct)) 98 (nI fl)) 99 (nI rmm)) 101 tds) 102 (nI op)) 111 (nI (tp + 1))) 115 (nI wn)) 116 (-1)) 117 (nI fu)) 118 rs0) 119 uc0) 120 (nI rd)) 121 ma0) 122 mc0) 123 ca) 124 mo) 125 (nI n9)) 126 0) 128 (nI on)) 130 (nI idn)) (updA (updA B 68 (upd (B 68) tp 0)) 69 (upd (B 69) tp (nI b34)))) _ := hP
    have hD : va_D A (mW G h0 a (upd (upd (upd (upd (upd (upd (upd (upd (upd (upd (upd (upd (upd (upd (upd (upd (upd (upd (upd (upd (upd (upd F 49 (nI md)) 85 (nI im)) 97 (nI ct)) 98 (nI fl)) 99 (nI rmm)) 101 tds) 102 (nI op)) 111 (nI (tp + 1))) 115 (nI wn)) 116 (-1)) 117 (nI fu)) 118 rs0) 119 uc0) 120 (nI rd)) 121 ma0) 122 mc0) 123 ca) 124 mo) 125 (nI n9)) 126 0) 128 (nI on)) 130 (nI idn)) (updA (updA B 68 (upd (B 68) tp 0)) 69 (upd (B 69) tp (nI b34)))) := hD
    refine lv_goto (tgt := 712) hx hb dX12_beginsNow_262 (by decide) ?_
    have hz38 : Nx Xs (updA (updA B 68 (upd (B 68) tp 0)) 69 (upd (B 69) tp (nI b34))) gh nd T nm wr lz dc fd md pr bk M rmm fu (Phi gh ps op (rkN gh n9 false)) op (tp + 1) wn fu rd on idn fl ct ((-1) : Int32) (nI n9) (0 : Int32) uc0 := (hR.gives hkd (by omega) (fun h => absurd h (by omega)) ht1 ht2 ht3 (VTd.num (by omega)) h37)
    have hP : va_P G.1 pCl (mW G h0 a (upd (upd (upd (upd (upd (upd (upd (upd (upd (upd (upd (upd (upd (upd (upd (upd (upd (upd (upd (upd (upd (upd F 49 (nI md)) 85 (nI im)) 97 (nI ct)) 98 (nI fl)) 99 (nI rmm)) 101 tds) 102 (nI op)) 111 (nI (tp + 1))) 115 (nI wn)) 116 ((-1) : Int32)) 117 (nI fu)) 118 rs0) 119 uc0) 120 (nI rd)) 121 ma0) 122 mc0) 123 ca) 124 mo) 125 (nI n9)) 126 (0 : Int32)) 128 (nI on)) 130 (nI idn)) (updA (updA B 68 (upd (B 68) tp 0)) 69 (upd (B 69) tp (nI b34)))) _ := hP
    have hD : va_D A (mW G h0 a (upd (upd (upd (upd (upd (upd (upd (upd (upd (upd (upd (upd (upd (upd (upd (upd (upd (upd (upd (upd (upd (upd F 49 (nI md)) 85 (nI im)) 97 (nI ct)) 98 (nI fl)) 99 (nI rmm)) 101 tds) 102 (nI op)) 111 (nI (tp + 1))) 115 (nI wn)) 116 ((-1) : Int32)) 117 (nI fu)) 118 rs0) 119 uc0) 120 (nI rd)) 121 ma0) 122 mc0) 123 ca) 124 mo) 125 (nI n9)) 126 (0 : Int32)) 128 (nI on)) 130 (nI idn)) (updA (updA B 68 (upd (B 68) tp 0)) 69 (upd (B 69) tp (nI b34)))) := hD
    exact W.vret hx hb hr (fun t9 ht9 hW9 => ⟨⟨_, (op, (tp + 1), wn, fu, ((-1) : Int32), (nI n9), (0 : Int32), rs0, uc0, on, idn, fl, ct, tds, ma0, mc0, ca, mo, rd, (updA (updA B 68 (upd (B 68) tp 0)) 69 (upd (B 69) tp (nI b34)))), rfl, ⟨rfl, hz38⟩, by rw [ht9]; exact hP, hD⟩, hS.F ht9⟩) hS.2.2 dX12_beginsNow_712
  · clear hn44 hkr hko
    refine lv_aload_n hx hb dX12_beginsNow_0 rfl (lv_at hl 0 rfl) ?_
    refine r_get (v := .ref (a 9)) hx hb hown hq hE hP 17 38 tFX12_17 (by decide) pw_1439 rfl dX12_beginsNow_1 ?_
    refine lv_iload_n hx hb dX12_beginsNow_4 rfl (lv_at hl 1 rfl) ?_
    refine r_ldi (f := (B 9)) (j := n9) hx hb hE hP 9 (ma_9 G a _) rfl (by omega) (by decide) dX12_beginsNow_5 ?_
    refine lv_topi (fun x39 e40 => ?_)
    obtain rfl : x39 = 4 := e40.trans ((congrFun hw9 _).trans hkd)
    refine lv_istore_n (lv' := [(2, .int 4), (0, .ref h0), (1, .int (nI n9))]) hx hb dX12_beginsNow_6 rfl hl (by decide) rfl (fun ls hl => ?_)
    refine lv_iload_n hx hb dX12_beginsNow_7 rfl (lv_at hl 0 rfl) ?_
    refine lv_bipush (v := 30) hx hb dX12_beginsNow_8 (by decide) ?_
    refine lv_icmp_lt (tgt := 41) hx hb dX12_beginsNow_10 (by decide) (fun c41 => ?_) (fun c41 => absurd c41 (by decide))
    refine lv_iload_n hx hb dX12_beginsNow_41 rfl (lv_at hl 0 rfl) ?_
    refine lv_tableIn (tgt := 256) (off := 214) hx hb dX12_beginsNow_42 (by decide) (by decide) (by decide) (by decide) ?_
    obtain ⟨t9, ht1, ht2, ht3, ht4, ht5, ht6⟩ := hR.bNum hkd (by omega)
    clear ht5 ht6
    refine lv_aload_n hx hb dX12_beginsNow_256 rfl (lv_at hl 1 rfl) ?_
    refine lv_iload_n hx hb dX12_beginsNow_257 rfl (lv_at hl 2 rfl) ?_
    refine lv_iconst (v := 0) hx hb dX12_beginsNow_258 (by decide) ?_
    have hP : va_P G.1 pCl (mW G h0 a (upd (upd (upd (upd (upd (upd (upd (upd (upd (upd (upd (upd (upd (upd (upd (upd (upd (upd (upd (upd (upd (upd (upd F 49 (nI md)) 85 (nI im)) 97 (nI ct)) 98 (nI fl)) 99 (nI rmm)) 101 tds) 102 (nI op)) 111 (nI tp)) 115 (nI wn)) 116 (-1)) 117 (nI fu)) 118 rs0) 119 uc0) 120 (nI rd)) 121 ma0) 122 mc0) 123 ca) 124 mo) 125 nw) 126 isn) 128 (nI on)) 130 (nI idn)) 111 (nI tp)) (updA (updA B 68 (B 68)) 69 (B 69))) _ := hP
    have hD : va_D A (mW G h0 a (upd (upd (upd (upd (upd (upd (upd (upd (upd (upd (upd (upd (upd (upd (upd (upd (upd (upd (upd (upd (upd (upd (upd F 49 (nI md)) 85 (nI im)) 97 (nI ct)) 98 (nI fl)) 99 (nI rmm)) 101 tds) 102 (nI op)) 111 (nI tp)) 115 (nI wn)) 116 (-1)) 117 (nI fu)) 118 rs0) 119 uc0) 120 (nI rd)) 121 ma0) 122 mc0) 123 ca) 124 mo) 125 nw) 126 isn) 128 (nI on)) 130 (nI idn)) 111 (nI tp)) (updA (updA B 68 (B 68)) 69 (B 69))) := hD
    refine pc_V0 (G := G) (As := [.int (nI n9), .int 0]) (rest := []) hx hb hml hown hq hE hX pX0_al hP hD hS hA hl.1 (R_gives l G h0 a (upd (upd (upd (upd (upd (upd (upd (upd (upd (upd (upd (upd (upd (upd (upd (upd (upd (upd (upd (upd (upd (upd F 49 (nI md)) 85 (nI im)) 97 (nI ct)) 98 (nI fl)) 99 (nI rmm)) 101 tds) 102 (nI op)) 111 (nI tp)) 115 (nI wn)) 116 (-1)) 117 (nI fu)) 118 rs0) 119 uc0) 120 (nI rd)) 121 ma0) 122 mc0) 123 ca) 124 mo) 125 nw) 126 isn) 128 (nI on)) 130 (nI idn)) B n9 t9 tp 0 (B 68) (B 69) (by omega) ht1 (by omega) (by omega)) (gV pw_2069 pw_2070 pw_2071 pw_1523 pw_2006) hV_X12_gives 0 9 rfl rfl rfl rfl (Nat.le_of_ble_eq_true rfl) dX12_beginsNow_259 ⟨Nat.le_of_ble_eq_true rfl, Nat.le_of_ble_eq_true rfl⟩ ⟨Nat.le_of_ble_eq_true rfl, Nat.le_of_ble_eq_true rfl⟩ (fun v44 u42 H locs hw43 hP hD hS => ?_)
    obtain ⟨b45, rf46⟩ := u42
    obtain ⟨hw43, h47, h48⟩ := hw43
    replace h47 : rf46 = upd (B 69) tp (nI b45) := h47
    replace h48 : b45 ≤ 1 ∧ 3 * b45 ≤ t9 ∧ t9 ≤ 2 + 9000 * b45 := h48
    obtain rfl : v44 = none := hw43
    have hP : va_P G.1 pCl (mW G h0 a (upd (upd (upd (upd (upd (upd (upd (upd (upd (upd (upd (upd (upd (upd (upd (upd (upd (upd (upd (upd (upd (upd F 49 (nI md)) 85 (nI im)) 97 (nI ct)) 98 (nI fl)) 99 (nI rmm)) 101 tds) 102 (nI op)) 111 (nI (tp + 1))) 115 (nI wn)) 116 (-1)) 117 (nI fu)) 118 rs0) 119 uc0) 120 (nI rd)) 121 ma0) 122 mc0) 123 ca) 124 mo) 125 (nI n9)) 126 0) 128 (nI on)) 130 (nI idn)) (updA (updA B 68 (upd (B 68) tp 0)) 69 rf46)) _ := hP
    have hD : va_D A (mW G h0 a (upd (upd (upd (upd (upd (upd (upd (upd (upd (upd (upd (upd (upd (upd (upd (upd (upd (upd (upd (upd (upd (upd F 49 (nI md)) 85 (nI im)) 97 (nI ct)) 98 (nI fl)) 99 (nI rmm)) 101 tds) 102 (nI op)) 111 (nI (tp + 1))) 115 (nI wn)) 116 (-1)) 117 (nI fu)) 118 rs0) 119 uc0) 120 (nI rd)) 121 ma0) 122 mc0) 123 ca) 124 mo) 125 (nI n9)) 126 0) 128 (nI on)) 130 (nI idn)) (updA (updA B 68 (upd (B 68) tp 0)) 69 rf46)) := hD
    refine W.widen (k := 0) (n := 0) (Nat.le_of_ble_eq_true rfl) (Nat.le_of_ble_eq_true rfl) ?_
    refine W.eq (g2 := F0 m 262 ls []) rfl ?_
    obtain rfl : rf46 = _ := h47
    have hP : va_P G.1 pCl (mW G h0 a (upd (upd (upd (upd (upd (upd (upd (upd (upd (upd (upd (upd (upd (upd (upd (upd (upd (upd (upd (upd (upd (upd F 49 (nI md)) 85 (nI im)) 97 (nI ct)) 98 (nI fl)) 99 (nI rmm)) 101 tds) 102 (nI op)) 111 (nI (tp + 1))) 115 (nI wn)) 116 (-1)) 117 (nI fu)) 118 rs0) 119 uc0) 120 (nI rd)) 121 ma0) 122 mc0) 123 ca) 124 mo) 125 (nI n9)) 126 0) 128 (nI on)) 130 (nI idn)) (updA (updA B 68 (upd (B 68) tp 0)) 69 (upd (B 69) tp (nI b45)))) _ := hP
    have hD : va_D A (mW G h0 a (upd (upd (upd (upd (upd (upd (upd (upd (upd (upd (upd (upd (upd (upd (upd (upd (upd (upd (upd (upd (upd (upd F 49 (nI md)) 85 (nI im)) 97 (nI ct)) 98 (nI fl)) 99 (nI rmm)) 101 tds) 102 (nI op)) 111 (nI (tp + 1))) 115 (nI wn)) 116 (-1)) 117 (nI fu)) 118 rs0) 119 uc0) 120 (nI rd)) 121 ma0) 122 mc0) 123 ca) 124 mo) 125 (nI n9)) 126 0) 128 (nI on)) 130 (nI idn)) (updA (updA B 68 (upd (B 68) tp 0)) 69 (upd (B 69) tp (nI b45)))) := hD
    refine lv_goto (tgt := 712) hx hb dX12_beginsNow_262 (by decide) ?_
    have hz49 : Nx Xs (updA (updA B 68 (upd (B 68) tp 0)) 69 (upd (B 69) tp (nI b45))) gh nd T nm wr lz dc fd md pr bk M rmm fu (Phi gh ps op (rkN gh n9 false)) op (tp + 1) wn fu rd on idn fl ct ((-1) : Int32) (nI n9) (0 : Int32) uc0 := (hR.gives hkd (by omega) (fun h => absurd h (by omega)) ht1 ht2 ht3 VTd.zero h48)
    have hP : va_P G.1 pCl (mW G h0 a (upd (upd (upd (upd (upd (upd (upd (upd (upd (upd (upd (upd (upd (upd (upd (upd (upd (upd (upd (upd (upd (upd F 49 (nI md)) 85 (nI im)) 97 (nI ct)) 98 (nI fl)) 99 (nI rmm)) 101 tds) 102 (nI op)) 111 (nI (tp + 1))) 115 (nI wn)) 116 ((-1) : Int32)) 117 (nI fu)) 118 rs0) 119 uc0) 120 (nI rd)) 121 ma0) 122 mc0) 123 ca) 124 mo) 125 (nI n9)) 126 (0 : Int32)) 128 (nI on)) 130 (nI idn)) (updA (updA B 68 (upd (B 68) tp 0)) 69 (upd (B 69) tp (nI b45)))) _ := hP
    have hD : va_D A (mW G h0 a (upd (upd (upd (upd (upd (upd (upd (upd (upd (upd (upd (upd (upd (upd (upd (upd (upd (upd (upd (upd (upd (upd F 49 (nI md)) 85 (nI im)) 97 (nI ct)) 98 (nI fl)) 99 (nI rmm)) 101 tds) 102 (nI op)) 111 (nI (tp + 1))) 115 (nI wn)) 116 ((-1) : Int32)) 117 (nI fu)) 118 rs0) 119 uc0) 120 (nI rd)) 121 ma0) 122 mc0) 123 ca) 124 mo) 125 (nI n9)) 126 (0 : Int32)) 128 (nI on)) 130 (nI idn)) (updA (updA B 68 (upd (B 68) tp 0)) 69 (upd (B 69) tp (nI b45)))) := hD
    exact W.vret hx hb hr (fun t9 ht9 hW9 => ⟨⟨_, (op, (tp + 1), wn, fu, ((-1) : Int32), (nI n9), (0 : Int32), rs0, uc0, on, idn, fl, ct, tds, ma0, mc0, ca, mo, rd, (updA (updA B 68 (upd (B 68) tp 0)) 69 (upd (B 69) tp (nI b45)))), rfl, ⟨rfl, hz49⟩, by rw [ht9]; exact hP, hD⟩, hS.F ht9⟩) hS.2.2 dX12_beginsNow_712
  · clear hn44 hkr hko
    refine lv_aload_n hx hb dX12_beginsNow_0 rfl (lv_at hl 0 rfl) ?_
    refine r_get (v := .ref (a 9)) hx hb hown hq hE hP 17 38 tFX12_17 (by decide) pw_1439 rfl dX12_beginsNow_1 ?_
    refine lv_iload_n hx hb dX12_beginsNow_4 rfl (lv_at hl 1 rfl) ?_
    refine r_ldi (f := (B 9)) (j := n9) hx hb hE hP 9 (ma_9 G a _) rfl (by omega) (by decide) dX12_beginsNow_5 ?_
    refine lv_topi (fun x50 e51 => ?_)
    obtain rfl : x50 = 5 := e51.trans ((congrFun hw9 _).trans hkd)
    refine lv_istore_n (lv' := [(2, .int 5), (0, .ref h0), (1, .int (nI n9))]) hx hb dX12_beginsNow_6 rfl hl (by decide) rfl (fun ls hl => ?_)
    refine lv_iload_n hx hb dX12_beginsNow_7 rfl (lv_at hl 0 rfl) ?_
    refine lv_bipush (v := 30) hx hb dX12_beginsNow_8 (by decide) ?_
    refine lv_icmp_lt (tgt := 41) hx hb dX12_beginsNow_10 (by decide) (fun c52 => ?_) (fun c52 => absurd c52 (by decide))
    refine lv_iload_n hx hb dX12_beginsNow_41 rfl (lv_at hl 0 rfl) ?_
    refine lv_tableIn (tgt := 265) (off := 223) hx hb dX12_beginsNow_42 (by decide) (by decide) (by decide) (by decide) ?_
    obtain ⟨t9, ht1, ht2, ht3, ht4, ht5, ht6⟩ := hR.bNum hkd (by omega)
    have ht7 := ht6 rfl
    clear ht5 ht6
    refine lv_aload_n hx hb dX12_beginsNow_265 rfl (lv_at hl 1 rfl) ?_
    refine lv_iload_n hx hb dX12_beginsNow_266 rfl (lv_at hl 2 rfl) ?_
    refine lv_aload_n hx hb dX12_beginsNow_267 rfl (lv_at hl 1 rfl) ?_
    refine r_get (v := .ref (a 62)) hx hb hown hq hE hP 103 199 tFX12_103 (by decide) pw_1494 rfl dX12_beginsNow_268 ?_
    refine lv_aload_n hx hb dX12_beginsNow_271 rfl (lv_at hl 1 rfl) ?_
    refine r_get (v := .int (nI op)) hx hb hown hq hE hP 102 707 tFX12_102 (by decide) pw_1969 rfl dX12_beginsNow_272 ?_
    refine lv_iconst (v := 1) hx hb dX12_beginsNow_275 (by decide) ?_
    refine lv_isub hx hb dX12_beginsNow_276 ?_
    refine lv_topi (fun x53 e54 => ?_)
    obtain rfl : x53 = nI (op - 1) := e54.trans (nI_subN (a := 1) (b := op) (by omega))
    refine r_ldi (f := (B 62)) (j := (op - 1)) hx hb hE hP 62 (ma_62 G a _) rfl (by omega) (by decide) dX12_beginsNow_277 ?_
    have hP : va_P G.1 pCl (mW G h0 a (upd (upd (upd (upd (upd (upd (upd (upd (upd (upd (upd (upd (upd (upd (upd (upd (upd (upd (upd (upd (upd (upd (upd F 49 (nI md)) 85 (nI im)) 97 (nI ct)) 98 (nI fl)) 99 (nI rmm)) 101 tds) 102 (nI op)) 111 (nI tp)) 115 (nI wn)) 116 (-1)) 117 (nI fu)) 118 rs0) 119 uc0) 120 (nI rd)) 121 ma0) 122 mc0) 123 ca) 124 mo) 125 nw) 126 isn) 128 (nI on)) 130 (nI idn)) 111 (nI tp)) (updA (updA B 68 (B 68)) 69 (B 69))) _ := hP
    have hD : va_D A (mW G h0 a (upd (upd (upd (upd (upd (upd (upd (upd (upd (upd (upd (upd (upd (upd (upd (upd (upd (upd (upd (upd (upd (upd (upd F 49 (nI md)) 85 (nI im)) 97 (nI ct)) 98 (nI fl)) 99 (nI rmm)) 101 tds) 102 (nI op)) 111 (nI tp)) 115 (nI wn)) 116 (-1)) 117 (nI fu)) 118 rs0) 119 uc0) 120 (nI rd)) 121 ma0) 122 mc0) 123 ca) 124 mo) 125 nw) 126 isn) 128 (nI on)) 130 (nI idn)) 111 (nI tp)) (updA (updA B 68 (B 68)) 69 (B 69))) := hD
    refine pc_V0 (G := G) (As := [.int (nI n9), .int ((B 62) (op - 1))]) (rest := []) hx hb hml hown hq hE hX pX0_al hP hD hS hA hl.1 (R_gives l G h0 a (upd (upd (upd (upd (upd (upd (upd (upd (upd (upd (upd (upd (upd (upd (upd (upd (upd (upd (upd (upd (upd (upd F 49 (nI md)) 85 (nI im)) 97 (nI ct)) 98 (nI fl)) 99 (nI rmm)) 101 tds) 102 (nI op)) 111 (nI tp)) 115 (nI wn)) 116 (-1)) 117 (nI fu)) 118 rs0) 119 uc0) 120 (nI rd)) 121 ma0) 122 mc0) 123 ca) 124 mo) 125 nw) 126 isn) 128 (nI on)) 130 (nI idn)) B n9 t9 tp ((B 62) (op - 1)) (B 68) (B 69) (by omega) ht1 (by omega) (by omega)) (gV pw_2069 pw_2070 pw_2071 pw_1523 pw_2006) hV_X12_gives 0 9 rfl rfl rfl rfl (Nat.le_of_ble_eq_true rfl) dX12_beginsNow_278 ⟨Nat.le_of_ble_eq_true rfl, Nat.le_of_ble_eq_true rfl⟩ ⟨Nat.le_of_ble_eq_true rfl, Nat.le_of_ble_eq_true rfl⟩ (fun v57 u55 H locs hw56 hP hD hS => ?_)
    obtain ⟨b58, rf59⟩ := u55
    obtain ⟨hw56, h60, h61⟩ := hw56
    replace h60 : rf59 = upd (B 69) tp (nI b58) := h60
    replace h61 : b58 ≤ 1 ∧ 3 * b58 ≤ t9 ∧ t9 ≤ 2 + 9000 * b58 := h61
    obtain rfl : v57 = none := hw56
    have hP : va_P G.1 pCl (mW G h0 a (upd (upd (upd (upd (upd (upd (upd (upd (upd (upd (upd (upd (upd (upd (upd (upd (upd (upd (upd (upd (upd (upd F 49 (nI md)) 85 (nI im)) 97 (nI ct)) 98 (nI fl)) 99 (nI rmm)) 101 tds) 102 (nI op)) 111 (nI (tp + 1))) 115 (nI wn)) 116 (-1)) 117 (nI fu)) 118 rs0) 119 uc0) 120 (nI rd)) 121 ma0) 122 mc0) 123 ca) 124 mo) 125 (nI n9)) 126 0) 128 (nI on)) 130 (nI idn)) (updA (updA B 68 (upd (B 68) tp ((B 62) (op - 1)))) 69 rf59)) _ := hP
    have hD : va_D A (mW G h0 a (upd (upd (upd (upd (upd (upd (upd (upd (upd (upd (upd (upd (upd (upd (upd (upd (upd (upd (upd (upd (upd (upd F 49 (nI md)) 85 (nI im)) 97 (nI ct)) 98 (nI fl)) 99 (nI rmm)) 101 tds) 102 (nI op)) 111 (nI (tp + 1))) 115 (nI wn)) 116 (-1)) 117 (nI fu)) 118 rs0) 119 uc0) 120 (nI rd)) 121 ma0) 122 mc0) 123 ca) 124 mo) 125 (nI n9)) 126 0) 128 (nI on)) 130 (nI idn)) (updA (updA B 68 (upd (B 68) tp ((B 62) (op - 1)))) 69 rf59)) := hD
    refine W.widen (k := 0) (n := 0) (Nat.le_of_ble_eq_true rfl) (Nat.le_of_ble_eq_true rfl) ?_
    refine W.eq (g2 := F0 m 281 ls []) rfl ?_
    obtain rfl : rf59 = _ := h60
    have hP : va_P G.1 pCl (mW G h0 a (upd (upd (upd (upd (upd (upd (upd (upd (upd (upd (upd (upd (upd (upd (upd (upd (upd (upd (upd (upd (upd (upd F 49 (nI md)) 85 (nI im)) 97 (nI ct)) 98 (nI fl)) 99 (nI rmm)) 101 tds) 102 (nI op)) 111 (nI (tp + 1))) 115 (nI wn)) 116 (-1)) 117 (nI fu)) 118 rs0) 119 uc0) 120 (nI rd)) 121 ma0) 122 mc0) 123 ca) 124 mo) 125 (nI n9)) 126 0) 128 (nI on)) 130 (nI idn)) (updA (updA B 68 (upd (B 68) tp ((B 62) (op - 1)))) 69 (upd (B 69) tp (nI b58)))) _ := hP
    have hD : va_D A (mW G h0 a (upd (upd (upd (upd (upd (upd (upd (upd (upd (upd (upd (upd (upd (upd (upd (upd (upd (upd (upd (upd (upd (upd F 49 (nI md)) 85 (nI im)) 97 (nI ct)) 98 (nI fl)) 99 (nI rmm)) 101 tds) 102 (nI op)) 111 (nI (tp + 1))) 115 (nI wn)) 116 (-1)) 117 (nI fu)) 118 rs0) 119 uc0) 120 (nI rd)) 121 ma0) 122 mc0) 123 ca) 124 mo) 125 (nI n9)) 126 0) 128 (nI on)) 130 (nI idn)) (updA (updA B 68 (upd (B 68) tp ((B 62) (op - 1)))) 69 (upd (B 69) tp (nI b58)))) := hD
    refine lv_goto (tgt := 712) hx hb dX12_beginsNow_281 (by decide) ?_
    have hz62 : Nx Xs (updA (updA B 68 (upd (B 68) tp ((B 62) (op - 1)))) 69 (upd (B 69) tp (nI b58))) gh nd T nm wr lz dc fd md pr bk M rmm fu (Phi gh ps op (rkN gh n9 false)) op (tp + 1) wn fu rd on idn fl ct ((-1) : Int32) (nI n9) (0 : Int32) uc0 := (hR.gives hkd (by omega) (fun h => absurd h (by omega)) ht1 ht2 ht3 (by rw [ht7]; exact hR.top.2.1.2) h61)
    have hP : va_P G.1 pCl (mW G h0 a (upd (upd (upd (upd (upd (upd (upd (upd (upd (upd (upd (upd (upd (upd (upd (upd (upd (upd (upd (upd (upd (upd F 49 (nI md)) 85 (nI im)) 97 (nI ct)) 98 (nI fl)) 99 (nI rmm)) 101 tds) 102 (nI op)) 111 (nI (tp + 1))) 115 (nI wn)) 116 ((-1) : Int32)) 117 (nI fu)) 118 rs0) 119 uc0) 120 (nI rd)) 121 ma0) 122 mc0) 123 ca) 124 mo) 125 (nI n9)) 126 (0 : Int32)) 128 (nI on)) 130 (nI idn)) (updA (updA B 68 (upd (B 68) tp ((B 62) (op - 1)))) 69 (upd (B 69) tp (nI b58)))) _ := hP
    have hD : va_D A (mW G h0 a (upd (upd (upd (upd (upd (upd (upd (upd (upd (upd (upd (upd (upd (upd (upd (upd (upd (upd (upd (upd (upd (upd F 49 (nI md)) 85 (nI im)) 97 (nI ct)) 98 (nI fl)) 99 (nI rmm)) 101 tds) 102 (nI op)) 111 (nI (tp + 1))) 115 (nI wn)) 116 ((-1) : Int32)) 117 (nI fu)) 118 rs0) 119 uc0) 120 (nI rd)) 121 ma0) 122 mc0) 123 ca) 124 mo) 125 (nI n9)) 126 (0 : Int32)) 128 (nI on)) 130 (nI idn)) (updA (updA B 68 (upd (B 68) tp ((B 62) (op - 1)))) 69 (upd (B 69) tp (nI b58)))) := hD
    exact W.vret hx hb hr (fun t9 ht9 hW9 => ⟨⟨_, (op, (tp + 1), wn, fu, ((-1) : Int32), (nI n9), (0 : Int32), rs0, uc0, on, idn, fl, ct, tds, ma0, mc0, ca, mo, rd, (updA (updA B 68 (upd (B 68) tp ((B 62) (op - 1)))) 69 (upd (B 69) tp (nI b58)))), rfl, ⟨rfl, hz62⟩, by rw [ht9]; exact hP, hD⟩, hS.F ht9⟩) hS.2.2 dX12_beginsNow_712
  · clear hn44 hkr hko
    refine lv_aload_n hx hb dX12_beginsNow_0 rfl (lv_at hl 0 rfl) ?_
    refine r_get (v := .ref (a 9)) hx hb hown hq hE hP 17 38 tFX12_17 (by decide) pw_1439 rfl dX12_beginsNow_1 ?_
    refine lv_iload_n hx hb dX12_beginsNow_4 rfl (lv_at hl 1 rfl) ?_
    refine r_ldi (f := (B 9)) (j := n9) hx hb hE hP 9 (ma_9 G a _) rfl (by omega) (by decide) dX12_beginsNow_5 ?_
    refine lv_topi (fun x63 e64 => ?_)
    obtain rfl : x63 = 6 := e64.trans ((congrFun hw9 _).trans hkd)
    refine lv_istore_n (lv' := [(2, .int 6), (0, .ref h0), (1, .int (nI n9))]) hx hb dX12_beginsNow_6 rfl hl (by decide) rfl (fun ls hl => ?_)
    refine lv_iload_n hx hb dX12_beginsNow_7 rfl (lv_at hl 0 rfl) ?_
    refine lv_bipush (v := 30) hx hb dX12_beginsNow_8 (by decide) ?_
    refine lv_icmp_lt (tgt := 41) hx hb dX12_beginsNow_10 (by decide) (fun c65 => ?_) (fun c65 => absurd c65 (by decide))
    refine lv_iload_n hx hb dX12_beginsNow_41 rfl (lv_at hl 0 rfl) ?_
    refine lv_tableIn (tgt := 326) (off := 284) hx hb dX12_beginsNow_42 (by decide) (by decide) (by decide) (by decide) ?_
    obtain ⟨t9, ht1, ht2, ht3, ht4, hs9⟩ := hR.b6 hkd
    rcases hs9 with ⟨v9, hs1, hs2, hs3⟩ | ⟨f9, o9, a8, g9, hs1, hs2, hs4, hs5, hs6, hs7, hs8, hs3⟩
    · refine lv_aload_n hx hb dX12_beginsNow_326 rfl (lv_at hl 1 rfl) ?_
      refine r_get (v := .ref (a 18)) hx hb hown hq hE hP 26 65 tFX12_26 (by decide) pw_1448 rfl dX12_beginsNow_327 ?_
      refine lv_iload_n hx hb dX12_beginsNow_330 rfl (lv_at hl 2 rfl) ?_
      refine r_ldi (f := (B 18)) (j := n9) hx hb hE hP 18 (ma_18 G a _) rfl (by omega) (by decide) dX12_beginsNow_331 ?_
      refine lv_topi (fun x66 e67 => ?_)
      obtain rfl : x66 = nI v9 := e67.trans hs1
      refine lv_if_lt (tgt := 358) hx hb dX12_beginsNow_332 (by decide) (fun c68 => (by have n69 : v9 < 0 := (nI_ltI (a := v9) (b := 0) (by omega) (by omega)).mp c68; omega)) (fun c68 => ?_)
      refine lv_aload_n hx hb dX12_beginsNow_335 rfl (lv_at hl 1 rfl) ?_
      refine lv_iload_n hx hb dX12_beginsNow_336 rfl (lv_at hl 2 rfl) ?_
      refine lv_aload_n hx hb dX12_beginsNow_337 rfl (lv_at hl 1 rfl) ?_
      refine r_get (v := .ref (a 66)) hx hb hown hq hE hP 107 211 tFX12_107 (by decide) pw_1498 rfl dX12_beginsNow_338 ?_
      refine lv_aload_n hx hb dX12_beginsNow_341 rfl (lv_at hl 1 rfl) ?_
      refine lv_aload_n hx hb dX12_beginsNow_342 rfl (lv_at hl 1 rfl) ?_
      refine r_get (v := .ref (a 18)) hx hb hown hq hE hP 26 65 tFX12_26 (by decide) pw_1448 rfl dX12_beginsNow_343 ?_
      refine lv_iload_n hx hb dX12_beginsNow_346 rfl (lv_at hl 2 rfl) ?_
      refine r_ldi (f := (B 18)) (j := n9) hx hb hE hP 18 (ma_18 G a _) rfl (by omega) (by decide) dX12_beginsNow_347 ?_
      refine lv_topi (fun x70 e71 => ?_)
      obtain rfl : x70 = nI v9 := e71.trans hs1
      have hP : va_P G.1 pCl (mW G h0 a (upd (upd (upd (upd (upd (upd (upd (upd (upd (upd (upd (upd (upd (upd (upd (upd (upd (upd (upd (upd (upd (upd (upd F 49 (nI md)) 85 (nI im)) 97 (nI ct)) 98 (nI fl)) 99 (nI rmm)) 101 tds) 102 (nI op)) 111 (nI tp)) 115 (nI wn)) 116 (-1)) 117 (nI fu)) 118 rs0) 119 uc0) 120 (nI rd)) 121 ma0) 122 mc0) 123 ca) 124 mo) 125 nw) 126 isn) 128 (nI on)) 130 (nI idn)) 102 (nI op)) B) _ := hP
      have hD : va_D A (mW G h0 a (upd (upd (upd (upd (upd (upd (upd (upd (upd (upd (upd (upd (upd (upd (upd (upd (upd (upd (upd (upd (upd (upd (upd F 49 (nI md)) 85 (nI im)) 97 (nI ct)) 98 (nI fl)) 99 (nI rmm)) 101 tds) 102 (nI op)) 111 (nI tp)) 115 (nI wn)) 116 (-1)) 117 (nI fu)) 118 rs0) 119 uc0) 120 (nI rd)) 121 ma0) 122 mc0) 123 ca) 124 mo) 125 nw) 126 isn) 128 (nI on)) 130 (nI idn)) 102 (nI op)) B) := hD
      refine pc_V0 (G := G) (As := [.int (nI v9)]) (rest := [.ref (a 66), .int (nI n9), .ref h0]) hx hb hml hown hq hE hX pX0_al hP hD hS hA hl.1 (R_at32 l G h0 a (upd (upd (upd (upd (upd (upd (upd (upd (upd (upd (upd (upd (upd (upd (upd (upd (upd (upd (upd (upd (upd (upd F 49 (nI md)) 85 (nI im)) 97 (nI ct)) 98 (nI fl)) 99 (nI rmm)) 101 tds) 102 (nI op)) 111 (nI tp)) 115 (nI wn)) 116 (-1)) 117 (nI fu)) 118 rs0) 119 uc0) 120 (nI rd)) 121 ma0) 122 mc0) 123 ca) 124 mo) 125 nw) 126 isn) 128 (nI on)) 130 (nI idn)) B v9 op (by omega) (by omega)) (gV pw_2040 pw_2041 pw_2042 pw_1523 pw_2013) hV_X12_at32 0 9 rfl rfl rfl rfl (Nat.le_of_ble_eq_true rfl) dX12_beginsNow_348 ⟨Nat.le_of_ble_eq_true rfl, Nat.le_of_ble_eq_true rfl⟩ ⟨Nat.le_of_ble_eq_true rfl, Nat.le_of_ble_eq_true rfl⟩ (fun v74 u72 H locs hw73 hP hD hS => ?_)
      obtain rfl : v74 = some (.int (nI (32 * (op - 1) + v9))) := hw73
      have hP : va_P G.1 pCl (mW G h0 a (upd (upd (upd (upd (upd (upd (upd (upd (upd (upd (upd (upd (upd (upd (upd (upd (upd (upd (upd (upd (upd (upd F 49 (nI md)) 85 (nI im)) 97 (nI ct)) 98 (nI fl)) 99 (nI rmm)) 101 tds) 102 (nI op)) 111 (nI tp)) 115 (nI wn)) 116 (-1)) 117 (nI fu)) 118 rs0) 119 uc0) 120 (nI rd)) 121 ma0) 122 mc0) 123 ca) 124 mo) 125 nw) 126 isn) 128 (nI on)) 130 (nI idn)) B) _ := hP
      have hD : va_D A (mW G h0 a (upd (upd (upd (upd (upd (upd (upd (upd (upd (upd (upd (upd (upd (upd (upd (upd (upd (upd (upd (upd (upd (upd F 49 (nI md)) 85 (nI im)) 97 (nI ct)) 98 (nI fl)) 99 (nI rmm)) 101 tds) 102 (nI op)) 111 (nI tp)) 115 (nI wn)) 116 (-1)) 117 (nI fu)) 118 rs0) 119 uc0) 120 (nI rd)) 121 ma0) 122 mc0) 123 ca) 124 mo) 125 nw) 126 isn) 128 (nI on)) 130 (nI idn)) B) := hD
      refine W.widen (k := 0) (n := 0) (Nat.le_of_ble_eq_true rfl) (Nat.le_of_ble_eq_true rfl) ?_
      refine W.eq (g2 := F0 m 351 ls [.int (nI (32 * (op - 1) + v9)), .ref (a 66), .int (nI n9), .ref h0]) rfl ?_
      refine r_ldi (f := (B 66)) (j := (32 * (op - 1) + v9)) hx hb hE hP 66 (ma_66 G a _) rfl (by omega) (by decide) dX12_beginsNow_351 ?_
      have hP : va_P G.1 pCl (mW G h0 a (upd (upd (upd (upd (upd (upd (upd (upd (upd (upd (upd (upd (upd (upd (upd (upd (upd (upd (upd (upd (upd (upd (upd F 49 (nI md)) 85 (nI im)) 97 (nI ct)) 98 (nI fl)) 99 (nI rmm)) 101 tds) 102 (nI op)) 111 (nI tp)) 115 (nI wn)) 116 (-1)) 117 (nI fu)) 118 rs0) 119 uc0) 120 (nI rd)) 121 ma0) 122 mc0) 123 ca) 124 mo) 125 nw) 126 isn) 128 (nI on)) 130 (nI idn)) 111 (nI tp)) (updA (updA B 68 (B 68)) 69 (B 69))) _ := hP
      have hD : va_D A (mW G h0 a (upd (upd (upd (upd (upd (upd (upd (upd (upd (upd (upd (upd (upd (upd (upd (upd (upd (upd (upd (upd (upd (upd (upd F 49 (nI md)) 85 (nI im)) 97 (nI ct)) 98 (nI fl)) 99 (nI rmm)) 101 tds) 102 (nI op)) 111 (nI tp)) 115 (nI wn)) 116 (-1)) 117 (nI fu)) 118 rs0) 119 uc0) 120 (nI rd)) 121 ma0) 122 mc0) 123 ca) 124 mo) 125 nw) 126 isn) 128 (nI on)) 130 (nI idn)) 111 (nI tp)) (updA (updA B 68 (B 68)) 69 (B 69))) := hD
      refine pc_V0 (G := G) (As := [.int (nI n9), .int ((B 66) (32 * (op - 1) + v9))]) (rest := []) hx hb hml hown hq hE hX pX0_al hP hD hS hA hl.1 (R_gives l G h0 a (upd (upd (upd (upd (upd (upd (upd (upd (upd (upd (upd (upd (upd (upd (upd (upd (upd (upd (upd (upd (upd (upd F 49 (nI md)) 85 (nI im)) 97 (nI ct)) 98 (nI fl)) 99 (nI rmm)) 101 tds) 102 (nI op)) 111 (nI tp)) 115 (nI wn)) 116 (-1)) 117 (nI fu)) 118 rs0) 119 uc0) 120 (nI rd)) 121 ma0) 122 mc0) 123 ca) 124 mo) 125 nw) 126 isn) 128 (nI on)) 130 (nI idn)) B n9 t9 tp ((B 66) (32 * (op - 1) + v9)) (B 68) (B 69) (by omega) ht1 (by omega) (by omega)) (gV pw_2069 pw_2070 pw_2071 pw_1523 pw_2006) hV_X12_gives 0 9 rfl rfl rfl rfl (Nat.le_of_ble_eq_true rfl) dX12_beginsNow_352 ⟨Nat.le_of_ble_eq_true rfl, Nat.le_of_ble_eq_true rfl⟩ ⟨Nat.le_of_ble_eq_true rfl, Nat.le_of_ble_eq_true rfl⟩ (fun v77 u75 H locs hw76 hP hD hS => ?_)
      obtain ⟨b78, rf79⟩ := u75
      obtain ⟨hw76, h80, h81⟩ := hw76
      replace h80 : rf79 = upd (B 69) tp (nI b78) := h80
      replace h81 : b78 ≤ 1 ∧ 3 * b78 ≤ t9 ∧ t9 ≤ 2 + 9000 * b78 := h81
      obtain rfl : v77 = none := hw76
      have hP : va_P G.1 pCl (mW G h0 a (upd (upd (upd (upd (upd (upd (upd (upd (upd (upd (upd (upd (upd (upd (upd (upd (upd (upd (upd (upd (upd (upd F 49 (nI md)) 85 (nI im)) 97 (nI ct)) 98 (nI fl)) 99 (nI rmm)) 101 tds) 102 (nI op)) 111 (nI (tp + 1))) 115 (nI wn)) 116 (-1)) 117 (nI fu)) 118 rs0) 119 uc0) 120 (nI rd)) 121 ma0) 122 mc0) 123 ca) 124 mo) 125 (nI n9)) 126 0) 128 (nI on)) 130 (nI idn)) (updA (updA B 68 (upd (B 68) tp ((B 66) (32 * (op - 1) + v9)))) 69 rf79)) _ := hP
      have hD : va_D A (mW G h0 a (upd (upd (upd (upd (upd (upd (upd (upd (upd (upd (upd (upd (upd (upd (upd (upd (upd (upd (upd (upd (upd (upd F 49 (nI md)) 85 (nI im)) 97 (nI ct)) 98 (nI fl)) 99 (nI rmm)) 101 tds) 102 (nI op)) 111 (nI (tp + 1))) 115 (nI wn)) 116 (-1)) 117 (nI fu)) 118 rs0) 119 uc0) 120 (nI rd)) 121 ma0) 122 mc0) 123 ca) 124 mo) 125 (nI n9)) 126 0) 128 (nI on)) 130 (nI idn)) (updA (updA B 68 (upd (B 68) tp ((B 66) (32 * (op - 1) + v9)))) 69 rf79)) := hD
      refine W.widen (k := 0) (n := 0) (Nat.le_of_ble_eq_true rfl) (Nat.le_of_ble_eq_true rfl) ?_
      refine W.eq (g2 := F0 m 355 ls []) rfl ?_
      obtain rfl : rf79 = _ := h80
      have hP : va_P G.1 pCl (mW G h0 a (upd (upd (upd (upd (upd (upd (upd (upd (upd (upd (upd (upd (upd (upd (upd (upd (upd (upd (upd (upd (upd (upd F 49 (nI md)) 85 (nI im)) 97 (nI ct)) 98 (nI fl)) 99 (nI rmm)) 101 tds) 102 (nI op)) 111 (nI (tp + 1))) 115 (nI wn)) 116 (-1)) 117 (nI fu)) 118 rs0) 119 uc0) 120 (nI rd)) 121 ma0) 122 mc0) 123 ca) 124 mo) 125 (nI n9)) 126 0) 128 (nI on)) 130 (nI idn)) (updA (updA B 68 (upd (B 68) tp ((B 66) (32 * (op - 1) + v9)))) 69 (upd (B 69) tp (nI b78)))) _ := hP
      have hD : va_D A (mW G h0 a (upd (upd (upd (upd (upd (upd (upd (upd (upd (upd (upd (upd (upd (upd (upd (upd (upd (upd (upd (upd (upd (upd F 49 (nI md)) 85 (nI im)) 97 (nI ct)) 98 (nI fl)) 99 (nI rmm)) 101 tds) 102 (nI op)) 111 (nI (tp + 1))) 115 (nI wn)) 116 (-1)) 117 (nI fu)) 118 rs0) 119 uc0) 120 (nI rd)) 121 ma0) 122 mc0) 123 ca) 124 mo) 125 (nI n9)) 126 0) 128 (nI on)) 130 (nI idn)) (updA (updA B 68 (upd (B 68) tp ((B 66) (32 * (op - 1) + v9)))) 69 (upd (B 69) tp (nI b78)))) := hD
      refine lv_goto (tgt := 712) hx hb dX12_beginsNow_355 (by decide) ?_
      have hz82 : Nx Xs (updA (updA B 68 (upd (B 68) tp ((B 66) (32 * (op - 1) + v9)))) 69 (upd (B 69) tp (nI b78))) gh nd T nm wr lz dc fd md pr bk M rmm fu (Phi gh ps op (rkN gh n9 false)) op (tp + 1) wn fu rd on idn fl ct ((-1) : Int32) (nI n9) (0 : Int32) uc0 := (hR.gives hkd (by omega) (fun h => absurd h (by omega)) ht1 ht2 ht3 hs3 h81)
      have hP : va_P G.1 pCl (mW G h0 a (upd (upd (upd (upd (upd (upd (upd (upd (upd (upd (upd (upd (upd (upd (upd (upd (upd (upd (upd (upd (upd (upd F 49 (nI md)) 85 (nI im)) 97 (nI ct)) 98 (nI fl)) 99 (nI rmm)) 101 tds) 102 (nI op)) 111 (nI (tp + 1))) 115 (nI wn)) 116 ((-1) : Int32)) 117 (nI fu)) 118 rs0) 119 uc0) 120 (nI rd)) 121 ma0) 122 mc0) 123 ca) 124 mo) 125 (nI n9)) 126 (0 : Int32)) 128 (nI on)) 130 (nI idn)) (updA (updA B 68 (upd (B 68) tp ((B 66) (32 * (op - 1) + v9)))) 69 (upd (B 69) tp (nI b78)))) _ := hP
      have hD : va_D A (mW G h0 a (upd (upd (upd (upd (upd (upd (upd (upd (upd (upd (upd (upd (upd (upd (upd (upd (upd (upd (upd (upd (upd (upd F 49 (nI md)) 85 (nI im)) 97 (nI ct)) 98 (nI fl)) 99 (nI rmm)) 101 tds) 102 (nI op)) 111 (nI (tp + 1))) 115 (nI wn)) 116 ((-1) : Int32)) 117 (nI fu)) 118 rs0) 119 uc0) 120 (nI rd)) 121 ma0) 122 mc0) 123 ca) 124 mo) 125 (nI n9)) 126 (0 : Int32)) 128 (nI on)) 130 (nI idn)) (updA (updA B 68 (upd (B 68) tp ((B 66) (32 * (op - 1) + v9)))) 69 (upd (B 69) tp (nI b78)))) := hD
      exact W.vret hx hb hr (fun t9 ht9 hW9 => ⟨⟨_, (op, (tp + 1), wn, fu, ((-1) : Int32), (nI n9), (0 : Int32), rs0, uc0, on, idn, fl, ct, tds, ma0, mc0, ca, mo, rd, (updA (updA B 68 (upd (B 68) tp ((B 66) (32 * (op - 1) + v9)))) 69 (upd (B 69) tp (nI b78)))), rfl, ⟨rfl, hz82⟩, by rw [ht9]; exact hP, hD⟩, hS.F ht9⟩) hS.2.2 dX12_beginsNow_712
    · refine lv_aload_n hx hb dX12_beginsNow_326 rfl (lv_at hl 1 rfl) ?_
      refine r_get (v := .ref (a 18)) hx hb hown hq hE hP 26 65 tFX12_26 (by decide) pw_1448 rfl dX12_beginsNow_327 ?_
      refine lv_iload_n hx hb dX12_beginsNow_330 rfl (lv_at hl 2 rfl) ?_
      refine r_ldi (f := (B 18)) (j := n9) hx hb hE hP 18 (ma_18 G a _) rfl (by omega) (by decide) dX12_beginsNow_331 ?_
      refine lv_if_lt (tgt := 358) hx hb dX12_beginsNow_332 (by decide) (fun c83 => ?_) (fun c83 => absurd (by rw [hs2]; exact neg2 (by omega)) c83)
      refine lv_aload_n hx hb dX12_beginsNow_358 rfl (lv_at hl 1 rfl) ?_
      refine lv_iload_n hx hb dX12_beginsNow_359 rfl (lv_at hl 2 rfl) ?_
      refine lv_aload_n hx hb dX12_beginsNow_360 rfl (lv_at hl 1 rfl) ?_
      refine r_get (v := .ref (a 60)) hx hb hown hq hE hP 96 193 tFX12_96 (by decide) pw_1492 rfl dX12_beginsNow_361 ?_
      refine lv_aload_n hx hb dX12_beginsNow_364 rfl (lv_at hl 1 rfl) ?_
      refine r_get (v := .ref (a 58)) hx hb hown hq hE hP 94 187 tFX12_94 (by decide) pw_1490 rfl dX12_beginsNow_365 ?_
      refine lv_aload_n hx hb dX12_beginsNow_368 rfl (lv_at hl 1 rfl) ?_
      refine r_get (v := .ref (a 62)) hx hb hown hq hE hP 103 199 tFX12_103 (by decide) pw_1494 rfl dX12_beginsNow_369 ?_
      refine lv_aload_n hx hb dX12_beginsNow_372 rfl (lv_at hl 1 rfl) ?_
      refine r_get (v := .int (nI op)) hx hb hown hq hE hP 102 707 tFX12_102 (by decide) pw_1969 rfl dX12_beginsNow_373 ?_
      refine lv_iconst (v := 1) hx hb dX12_beginsNow_376 (by decide) ?_
      refine lv_isub hx hb dX12_beginsNow_377 ?_
      refine lv_topi (fun x84 e85 => ?_)
      obtain rfl : x84 = nI (op - 1) := e85.trans (nI_subN (a := 1) (b := op) (by omega))
      refine r_ldi (f := (B 62)) (j := (op - 1)) hx hb hE hP 62 (ma_62 G a _) rfl (by omega) (by decide) dX12_beginsNow_378 ?_
      refine lv_topi (fun x86 e87 => ?_)
      obtain rfl : x86 = nI (o9 + 1) := e87.trans hs4
      refine lv_iconst (v := 1) hx hb dX12_beginsNow_379 (by decide) ?_
      refine lv_isub hx hb dX12_beginsNow_380 ?_
      refine lv_topi (fun x88 e89 => ?_)
      obtain rfl : x88 = nI ((o9 + 1) - 1) := e89.trans (nI_subN (a := 1) (b := (o9 + 1)) (by omega))
      refine r_ldi (f := (B 58)) (j := ((o9 + 1) - 1)) hx hb hE hP 58 (ma_58 G a _) rfl (by omega) (by decide) dX12_beginsNow_381 ?_
      refine lv_topi (fun x90 e91 => ?_)
      obtain rfl : x90 = nI a8 := e91.trans (by rw [show ((o9 + 1) - 1) = o9 by omega]; exact hs6)
      refine lv_aload_n hx hb dX12_beginsNow_382 rfl (lv_at hl 1 rfl) ?_
      refine r_get (v := .ref (a 53)) hx hb hown hq hE hP 89 171 tFX12_89 (by decide) pw_1484 rfl dX12_beginsNow_383 ?_
      refine lv_bipush (v := (-2)) hx hb dX12_beginsNow_386 (by decide) ?_
      refine lv_aload_n hx hb dX12_beginsNow_388 rfl (lv_at hl 1 rfl) ?_
      refine r_get (v := .ref (a 18)) hx hb hown hq hE hP 26 65 tFX12_26 (by decide) pw_1448 rfl dX12_beginsNow_389 ?_
      refine lv_iload_n hx hb dX12_beginsNow_392 rfl (lv_at hl 2 rfl) ?_
      refine r_ldi (f := (B 18)) (j := n9) hx hb hE hP 18 (ma_18 G a _) rfl (by omega) (by decide) dX12_beginsNow_393 ?_
      refine lv_isub hx hb dX12_beginsNow_394 ?_
      refine lv_topi (fun x92 e93 => ?_)
      obtain rfl : x92 = nI f9 := e93.trans (by rw [hs2]; exact neg2b (by omega))
      refine r_ldi (f := (B 53)) (j := f9) hx hb hE hP 53 (ma_53 G a _) rfl (by omega) (by decide) dX12_beginsNow_395 ?_
      refine lv_topi (fun x94 e95 => ?_)
      obtain rfl : x94 = nI g9 := e95.trans hs7
      refine lv_iadd hx hb dX12_beginsNow_396 ?_
      refine lv_topi (fun x96 e97 => ?_)
      obtain rfl : x96 = nI (a8 + g9) := e97.trans (nI_add (a8) (g9))
      refine r_ldi (f := (B 60)) (j := (a8 + g9)) hx hb hE hP 60 (ma_60 G a _) rfl (by omega) (by decide) dX12_beginsNow_397 ?_
      have hP : va_P G.1 pCl (mW G h0 a (upd (upd (upd (upd (upd (upd (upd (upd (upd (upd (upd (upd (upd (upd (upd (upd (upd (upd (upd (upd (upd (upd (upd F 49 (nI md)) 85 (nI im)) 97 (nI ct)) 98 (nI fl)) 99 (nI rmm)) 101 tds) 102 (nI op)) 111 (nI tp)) 115 (nI wn)) 116 (-1)) 117 (nI fu)) 118 rs0) 119 uc0) 120 (nI rd)) 121 ma0) 122 mc0) 123 ca) 124 mo) 125 nw) 126 isn) 128 (nI on)) 130 (nI idn)) 111 (nI tp)) (updA (updA B 68 (B 68)) 69 (B 69))) _ := hP
      have hD : va_D A (mW G h0 a (upd (upd (upd (upd (upd (upd (upd (upd (upd (upd (upd (upd (upd (upd (upd (upd (upd (upd (upd (upd (upd (upd (upd F 49 (nI md)) 85 (nI im)) 97 (nI ct)) 98 (nI fl)) 99 (nI rmm)) 101 tds) 102 (nI op)) 111 (nI tp)) 115 (nI wn)) 116 (-1)) 117 (nI fu)) 118 rs0) 119 uc0) 120 (nI rd)) 121 ma0) 122 mc0) 123 ca) 124 mo) 125 nw) 126 isn) 128 (nI on)) 130 (nI idn)) 111 (nI tp)) (updA (updA B 68 (B 68)) 69 (B 69))) := hD
      refine pc_V0 (G := G) (As := [.int (nI n9), .int ((B 60) (a8 + g9))]) (rest := []) hx hb hml hown hq hE hX pX0_al hP hD hS hA hl.1 (R_gives l G h0 a (upd (upd (upd (upd (upd (upd (upd (upd (upd (upd (upd (upd (upd (upd (upd (upd (upd (upd (upd (upd (upd (upd F 49 (nI md)) 85 (nI im)) 97 (nI ct)) 98 (nI fl)) 99 (nI rmm)) 101 tds) 102 (nI op)) 111 (nI tp)) 115 (nI wn)) 116 (-1)) 117 (nI fu)) 118 rs0) 119 uc0) 120 (nI rd)) 121 ma0) 122 mc0) 123 ca) 124 mo) 125 nw) 126 isn) 128 (nI on)) 130 (nI idn)) B n9 t9 tp ((B 60) (a8 + g9)) (B 68) (B 69) (by omega) ht1 (by omega) (by omega)) (gV pw_2069 pw_2070 pw_2071 pw_1523 pw_2006) hV_X12_gives 0 9 rfl rfl rfl rfl (Nat.le_of_ble_eq_true rfl) dX12_beginsNow_398 ⟨Nat.le_of_ble_eq_true rfl, Nat.le_of_ble_eq_true rfl⟩ ⟨Nat.le_of_ble_eq_true rfl, Nat.le_of_ble_eq_true rfl⟩ (fun v100 u98 H locs hw99 hP hD hS => ?_)
      obtain ⟨b101, rf102⟩ := u98
      obtain ⟨hw99, h103, h104⟩ := hw99
      replace h103 : rf102 = upd (B 69) tp (nI b101) := h103
      replace h104 : b101 ≤ 1 ∧ 3 * b101 ≤ t9 ∧ t9 ≤ 2 + 9000 * b101 := h104
      obtain rfl : v100 = none := hw99
      have hP : va_P G.1 pCl (mW G h0 a (upd (upd (upd (upd (upd (upd (upd (upd (upd (upd (upd (upd (upd (upd (upd (upd (upd (upd (upd (upd (upd (upd F 49 (nI md)) 85 (nI im)) 97 (nI ct)) 98 (nI fl)) 99 (nI rmm)) 101 tds) 102 (nI op)) 111 (nI (tp + 1))) 115 (nI wn)) 116 (-1)) 117 (nI fu)) 118 rs0) 119 uc0) 120 (nI rd)) 121 ma0) 122 mc0) 123 ca) 124 mo) 125 (nI n9)) 126 0) 128 (nI on)) 130 (nI idn)) (updA (updA B 68 (upd (B 68) tp ((B 60) (a8 + g9)))) 69 rf102)) _ := hP
      have hD : va_D A (mW G h0 a (upd (upd (upd (upd (upd (upd (upd (upd (upd (upd (upd (upd (upd (upd (upd (upd (upd (upd (upd (upd (upd (upd F 49 (nI md)) 85 (nI im)) 97 (nI ct)) 98 (nI fl)) 99 (nI rmm)) 101 tds) 102 (nI op)) 111 (nI (tp + 1))) 115 (nI wn)) 116 (-1)) 117 (nI fu)) 118 rs0) 119 uc0) 120 (nI rd)) 121 ma0) 122 mc0) 123 ca) 124 mo) 125 (nI n9)) 126 0) 128 (nI on)) 130 (nI idn)) (updA (updA B 68 (upd (B 68) tp ((B 60) (a8 + g9)))) 69 rf102)) := hD
      refine W.widen (k := 0) (n := 0) (Nat.le_of_ble_eq_true rfl) (Nat.le_of_ble_eq_true rfl) ?_
      refine W.eq (g2 := F0 m 401 ls []) rfl ?_
      obtain rfl : rf102 = _ := h103
      have hP : va_P G.1 pCl (mW G h0 a (upd (upd (upd (upd (upd (upd (upd (upd (upd (upd (upd (upd (upd (upd (upd (upd (upd (upd (upd (upd (upd (upd F 49 (nI md)) 85 (nI im)) 97 (nI ct)) 98 (nI fl)) 99 (nI rmm)) 101 tds) 102 (nI op)) 111 (nI (tp + 1))) 115 (nI wn)) 116 (-1)) 117 (nI fu)) 118 rs0) 119 uc0) 120 (nI rd)) 121 ma0) 122 mc0) 123 ca) 124 mo) 125 (nI n9)) 126 0) 128 (nI on)) 130 (nI idn)) (updA (updA B 68 (upd (B 68) tp ((B 60) (a8 + g9)))) 69 (upd (B 69) tp (nI b101)))) _ := hP
      have hD : va_D A (mW G h0 a (upd (upd (upd (upd (upd (upd (upd (upd (upd (upd (upd (upd (upd (upd (upd (upd (upd (upd (upd (upd (upd (upd F 49 (nI md)) 85 (nI im)) 97 (nI ct)) 98 (nI fl)) 99 (nI rmm)) 101 tds) 102 (nI op)) 111 (nI (tp + 1))) 115 (nI wn)) 116 (-1)) 117 (nI fu)) 118 rs0) 119 uc0) 120 (nI rd)) 121 ma0) 122 mc0) 123 ca) 124 mo) 125 (nI n9)) 126 0) 128 (nI on)) 130 (nI idn)) (updA (updA B 68 (upd (B 68) tp ((B 60) (a8 + g9)))) 69 (upd (B 69) tp (nI b101)))) := hD
      refine lv_goto (tgt := 712) hx hb dX12_beginsNow_401 (by decide) ?_
      have hz105 : Nx Xs (updA (updA B 68 (upd (B 68) tp ((B 60) (a8 + g9)))) 69 (upd (B 69) tp (nI b101))) gh nd T nm wr lz dc fd md pr bk M rmm fu (Phi gh ps op (rkN gh n9 false)) op (tp + 1) wn fu rd on idn fl ct ((-1) : Int32) (nI n9) (0 : Int32) uc0 := (hR.gives hkd (by omega) (fun h => absurd h (by omega)) ht1 ht2 ht3 hs3 h104)
      have hP : va_P G.1 pCl (mW G h0 a (upd (upd (upd (upd (upd (upd (upd (upd (upd (upd (upd (upd (upd (upd (upd (upd (upd (upd (upd (upd (upd (upd F 49 (nI md)) 85 (nI im)) 97 (nI ct)) 98 (nI fl)) 99 (nI rmm)) 101 tds) 102 (nI op)) 111 (nI (tp + 1))) 115 (nI wn)) 116 ((-1) : Int32)) 117 (nI fu)) 118 rs0) 119 uc0) 120 (nI rd)) 121 ma0) 122 mc0) 123 ca) 124 mo) 125 (nI n9)) 126 (0 : Int32)) 128 (nI on)) 130 (nI idn)) (updA (updA B 68 (upd (B 68) tp ((B 60) (a8 + g9)))) 69 (upd (B 69) tp (nI b101)))) _ := hP
      have hD : va_D A (mW G h0 a (upd (upd (upd (upd (upd (upd (upd (upd (upd (upd (upd (upd (upd (upd (upd (upd (upd (upd (upd (upd (upd (upd F 49 (nI md)) 85 (nI im)) 97 (nI ct)) 98 (nI fl)) 99 (nI rmm)) 101 tds) 102 (nI op)) 111 (nI (tp + 1))) 115 (nI wn)) 116 ((-1) : Int32)) 117 (nI fu)) 118 rs0) 119 uc0) 120 (nI rd)) 121 ma0) 122 mc0) 123 ca) 124 mo) 125 (nI n9)) 126 (0 : Int32)) 128 (nI on)) 130 (nI idn)) (updA (updA B 68 (upd (B 68) tp ((B 60) (a8 + g9)))) 69 (upd (B 69) tp (nI b101)))) := hD
      exact W.vret hx hb hr (fun t9 ht9 hW9 => ⟨⟨_, (op, (tp + 1), wn, fu, ((-1) : Int32), (nI n9), (0 : Int32), rs0, uc0, on, idn, fl, ct, tds, ma0, mc0, ca, mo, rd, (updA (updA B 68 (upd (B 68) tp ((B 60) (a8 + g9)))) 69 (upd (B 69) tp (nI b101)))), rfl, ⟨rfl, hz105⟩, by rw [ht9]; exact hP, hD⟩, hS.F ht9⟩) hS.2.2 dX12_beginsNow_712
  · clear hn44 hkr hko
    refine lv_aload_n hx hb dX12_beginsNow_0 rfl (lv_at hl 0 rfl) ?_
    refine r_get (v := .ref (a 9)) hx hb hown hq hE hP 17 38 tFX12_17 (by decide) pw_1439 rfl dX12_beginsNow_1 ?_
    refine lv_iload_n hx hb dX12_beginsNow_4 rfl (lv_at hl 1 rfl) ?_
    refine r_ldi (f := (B 9)) (j := n9) hx hb hE hP 9 (ma_9 G a _) rfl (by omega) (by decide) dX12_beginsNow_5 ?_
    refine lv_topi (fun x106 e107 => ?_)
    obtain rfl : x106 = 7 := e107.trans ((congrFun hw9 _).trans hkd)
    refine lv_istore_n (lv' := [(2, .int 7), (0, .ref h0), (1, .int (nI n9))]) hx hb dX12_beginsNow_6 rfl hl (by decide) rfl (fun ls hl => ?_)
    refine lv_iload_n hx hb dX12_beginsNow_7 rfl (lv_at hl 0 rfl) ?_
    refine lv_bipush (v := 30) hx hb dX12_beginsNow_8 (by decide) ?_
    refine lv_icmp_lt (tgt := 41) hx hb dX12_beginsNow_10 (by decide) (fun c108 => ?_) (fun c108 => absurd c108 (by decide))
    refine lv_iload_n hx hb dX12_beginsNow_41 rfl (lv_at hl 0 rfl) ?_
    refine lv_tableIn (tgt := 445) (off := 403) hx hb dX12_beginsNow_42 (by decide) (by decide) (by decide) (by decide) ?_
    by_cases hb9 : Xs 13 n9 = -1
    · have hY := hR.rdy0 hkd (by omega) hb9
      refine lv_aload_n hx hb dX12_beginsNow_445 rfl (lv_at hl 1 rfl) ?_
      refine r_get (v := .ref (a 13)) hx hb hown hq hE hP 21 50 tFX12_21 (by decide) pw_1443 rfl dX12_beginsNow_446 ?_
      refine lv_iload_n hx hb dX12_beginsNow_449 rfl (lv_at hl 2 rfl) ?_
      refine r_ldi (f := (B 13)) (j := n9) hx hb hE hP 13 (ma_13 G a _) rfl (by omega) (by decide) dX12_beginsNow_450 ?_
      refine lv_topi (fun x109 e110 => ?_)
      obtain rfl : x109 = (-1) := e110.trans ((congrFun hw13 _).trans hb9)
      refine lv_iconst (v := (-1)) hx hb dX12_beginsNow_451 (by decide) ?_
      refine lv_icmp_ne (tgt := 463) hx hb dX12_beginsNow_452 (by decide) (fun c111 => absurd c111 (by decide)) (fun c111 => ?_)
      refine lv_aload_n hx hb dX12_beginsNow_455 rfl (lv_at hl 1 rfl) ?_
      refine lv_iload_n hx hb dX12_beginsNow_456 rfl (lv_at hl 2 rfl) ?_
      have hP : va_P G.1 pCl (mW G h0 a (upd (upd (upd (upd (upd (upd (upd (upd (upd (upd (upd (upd (upd (upd (upd (upd (upd (upd (upd (upd (upd (upd (upd (upd (upd (upd (upd (upd (upd (upd (upd (upd (upd (upd F 49 (nI md)) 85 (nI im)) 97 (nI ct)) 98 (nI fl)) 99 (nI rmm)) 101 tds) 102 (nI op)) 111 (nI tp)) 115 (nI wn)) 116 (-1)) 117 (nI fu)) 118 rs0) 119 uc0) 120 (nI rd)) 121 ma0) 122 mc0) 123 ca) 124 mo) 125 nw) 126 isn) 128 (nI on)) 130 (nI idn)) 49 (nI md)) 102 (nI op)) 111 (nI tp)) 115 (nI wn)) 116 (-1)) 117 (nI fu)) 118 rs0) 119 uc0) 123 ca) 124 mo) 125 nw) 126 isn) B) _ := hP
      have hD : va_D A (mW G h0 a (upd (upd (upd (upd (upd (upd (upd (upd (upd (upd (upd (upd (upd (upd (upd (upd (upd (upd (upd (upd (upd (upd (upd (upd (upd (upd (upd (upd (upd (upd (upd (upd (upd (upd F 49 (nI md)) 85 (nI im)) 97 (nI ct)) 98 (nI fl)) 99 (nI rmm)) 101 tds) 102 (nI op)) 111 (nI tp)) 115 (nI wn)) 116 (-1)) 117 (nI fu)) 118 rs0) 119 uc0) 120 (nI rd)) 121 ma0) 122 mc0) 123 ca) 124 mo) 125 nw) 126 isn) 128 (nI on)) 130 (nI idn)) 49 (nI md)) 102 (nI op)) 111 (nI tp)) 115 (nI wn)) 116 (-1)) 117 (nI fu)) 118 rs0) 119 uc0) 123 ca) 124 mo) 125 nw) 126 isn) B) := hD
      refine pc_V0 (G := G) (As := [.int (nI n9)]) (rest := []) hx hb hml hown hq hE hX pX0_al hP hD hS hA hl.1 (R_invokes7 l G h0 a (upd (upd (upd (upd (upd (upd (upd (upd (upd (upd (upd (upd (upd (upd (upd (upd (upd (upd (upd (upd (upd (upd F 49 (nI md)) 85 (nI im)) 97 (nI ct)) 98 (nI fl)) 99 (nI rmm)) 101 tds) 102 (nI op)) 111 (nI tp)) 115 (nI wn)) 116 (-1)) 117 (nI fu)) 118 rs0) 119 uc0) 120 (nI rd)) 121 ma0) 122 mc0) 123 ca) 124 mo) 125 nw) 126 isn) 128 (nI on)) 130 (nI idn)) B Xs gh nd T nm wr lz dc fd md pr bk M rmm (Phi gh ps op (rkN gh n9 false)) op tp wn fu rd on idn fl ct n9 0 mt ps yy bf wf nw isn rs0 uc0 ca mo hY (by omega) hkd) (gV pw_2075 pw_2076 pw_2077 pw_1523 pw_2063) hV_X12_invokes 0 9 rfl rfl rfl rfl (Nat.le_of_ble_eq_true rfl) dX12_beginsNow_457 ⟨Nat.le_of_ble_eq_true rfl, Nat.le_of_ble_eq_true rfl⟩ ⟨Nat.le_of_ble_eq_true rfl, Nat.le_of_ble_eq_true rfl⟩ (fun v114 u112 H locs hw113 hP hD hS => ?_)
      obtain ⟨op115, tp116, wn117, fu118, en119, nw120, is121, rs122, uc123, ca124, mo125, X126⟩ := u112
      obtain ⟨hw113, h127⟩ := hw113
      replace h127 : Nx Xs X126 gh nd T nm wr lz dc fd md pr bk M rmm fu (Phi gh ps op (rkN gh n9 false)) op115 tp116 wn117 fu118 rd on idn fl ct en119 nw120 is121 uc123 := h127
      obtain rfl : v114 = none := hw113
      have hP : va_P G.1 pCl (mW G h0 a (upd (upd (upd (upd (upd (upd (upd (upd (upd (upd (upd (upd (upd (upd (upd (upd (upd (upd (upd (upd (upd (upd F 49 (nI md)) 85 (nI im)) 97 (nI ct)) 98 (nI fl)) 99 (nI rmm)) 101 tds) 102 (nI op115)) 111 (nI tp116)) 115 (nI wn117)) 116 en119) 117 (nI fu118)) 118 rs122) 119 uc123) 120 (nI rd)) 121 ma0) 122 mc0) 123 ca124) 124 mo125) 125 nw120) 126 is121) 128 (nI on)) 130 (nI idn)) X126) _ := hP
      have hD : va_D A (mW G h0 a (upd (upd (upd (upd (upd (upd (upd (upd (upd (upd (upd (upd (upd (upd (upd (upd (upd (upd (upd (upd (upd (upd F 49 (nI md)) 85 (nI im)) 97 (nI ct)) 98 (nI fl)) 99 (nI rmm)) 101 tds) 102 (nI op115)) 111 (nI tp116)) 115 (nI wn117)) 116 en119) 117 (nI fu118)) 118 rs122) 119 uc123) 120 (nI rd)) 121 ma0) 122 mc0) 123 ca124) 124 mo125) 125 nw120) 126 is121) 128 (nI on)) 130 (nI idn)) X126) := hD
      refine W.widen (k := 0) (n := 0) (Nat.le_of_ble_eq_true rfl) (Nat.le_of_ble_eq_true rfl) ?_
      refine W.eq (g2 := F0 m 460 ls []) rfl ?_
      refine lv_goto (tgt := 712) hx hb dX12_beginsNow_460 (by decide) ?_
      have hz128 : Nx Xs X126 gh nd T nm wr lz dc fd md pr bk M rmm fu (Phi gh ps op (rkN gh n9 false)) op115 tp116 wn117 fu118 rd on idn fl ct en119 nw120 is121 uc123 := h127
      have hP : va_P G.1 pCl (mW G h0 a (upd (upd (upd (upd (upd (upd (upd (upd (upd (upd (upd (upd (upd (upd (upd (upd (upd (upd (upd (upd (upd (upd F 49 (nI md)) 85 (nI im)) 97 (nI ct)) 98 (nI fl)) 99 (nI rmm)) 101 tds) 102 (nI op115)) 111 (nI tp116)) 115 (nI wn117)) 116 en119) 117 (nI fu118)) 118 rs122) 119 uc123) 120 (nI rd)) 121 ma0) 122 mc0) 123 ca124) 124 mo125) 125 nw120) 126 is121) 128 (nI on)) 130 (nI idn)) X126) _ := hP
      have hD : va_D A (mW G h0 a (upd (upd (upd (upd (upd (upd (upd (upd (upd (upd (upd (upd (upd (upd (upd (upd (upd (upd (upd (upd (upd (upd F 49 (nI md)) 85 (nI im)) 97 (nI ct)) 98 (nI fl)) 99 (nI rmm)) 101 tds) 102 (nI op115)) 111 (nI tp116)) 115 (nI wn117)) 116 en119) 117 (nI fu118)) 118 rs122) 119 uc123) 120 (nI rd)) 121 ma0) 122 mc0) 123 ca124) 124 mo125) 125 nw120) 126 is121) 128 (nI on)) 130 (nI idn)) X126) := hD
      exact W.vret hx hb hr (fun t9 ht9 hW9 => ⟨⟨_, (op115, tp116, wn117, fu118, en119, nw120, is121, rs122, uc123, on, idn, fl, ct, tds, ma0, mc0, ca124, mo125, rd, X126), rfl, ⟨rfl, hz128⟩, by rw [ht9]; exact hP, hD⟩, hS.F ht9⟩) hS.2.2 dX12_beginsNow_712
    · obtain ⟨j1, ha1, ha2, ha3⟩ := hR.b7 (uc := uc0) hkd (by omega) hb9
      refine lv_aload_n hx hb dX12_beginsNow_445 rfl (lv_at hl 1 rfl) ?_
      refine r_get (v := .ref (a 13)) hx hb hown hq hE hP 21 50 tFX12_21 (by decide) pw_1443 rfl dX12_beginsNow_446 ?_
      refine lv_iload_n hx hb dX12_beginsNow_449 rfl (lv_at hl 2 rfl) ?_
      refine r_ldi (f := (B 13)) (j := n9) hx hb hE hP 13 (ma_13 G a _) rfl (by omega) (by decide) dX12_beginsNow_450 ?_
      refine lv_topi (fun x129 e130 => ?_)
      obtain rfl : x129 = nI j1 := e130.trans ((congrFun hw13 _).trans ha1)
      refine lv_iconst (v := (-1)) hx hb dX12_beginsNow_451 (by decide) ?_
      refine lv_icmp_ne (tgt := 463) hx hb dX12_beginsNow_452 (by decide) (fun c131 => ?_) (fun c131 => absurd c131 (nI_m1 (by omega)))
      refine lv_aload_n hx hb dX12_beginsNow_463 rfl (lv_at hl 1 rfl) ?_
      refine lv_aload_n hx hb dX12_beginsNow_464 rfl (lv_at hl 1 rfl) ?_
      refine r_get (v := .ref (a 13)) hx hb hown hq hE hP 21 50 tFX12_21 (by decide) pw_1443 rfl dX12_beginsNow_465 ?_
      refine lv_iload_n hx hb dX12_beginsNow_468 rfl (lv_at hl 2 rfl) ?_
      refine r_ldi (f := (B 13)) (j := n9) hx hb hE hP 13 (ma_13 G a _) rfl (by omega) (by decide) dX12_beginsNow_469 ?_
      refine lv_topi (fun x132 e133 => ?_)
      obtain rfl : x132 = nI j1 := e133.trans ((congrFun hw13 _).trans ha1)
      have hP : va_P G.1 pCl (mW G h0 a (upd (upd (upd (upd (upd (upd (upd (upd (upd (upd (upd (upd (upd (upd (upd (upd (upd (upd (upd (upd (upd (upd F 49 (nI md)) 85 (nI im)) 97 (nI ct)) 98 (nI fl)) 99 (nI rmm)) 101 tds) 102 (nI op)) 111 (nI tp)) 115 (nI wn)) 116 (-1)) 117 (nI fu)) 118 rs0) 119 uc0) 120 (nI rd)) 121 ma0) 122 mc0) 123 ca) 124 mo) 125 nw) 126 isn) 128 (nI on)) 130 (nI idn)) B) _ := hP
      have hD : va_D A (mW G h0 a (upd (upd (upd (upd (upd (upd (upd (upd (upd (upd (upd (upd (upd (upd (upd (upd (upd (upd (upd (upd (upd (upd F 49 (nI md)) 85 (nI im)) 97 (nI ct)) 98 (nI fl)) 99 (nI rmm)) 101 tds) 102 (nI op)) 111 (nI tp)) 115 (nI wn)) 116 (-1)) 117 (nI fu)) 118 rs0) 119 uc0) 120 (nI rd)) 121 ma0) 122 mc0) 123 ca) 124 mo) 125 nw) 126 isn) 128 (nI on)) 130 (nI idn)) B) := hD
      refine pc_V0 (G := G) (As := [.int (nI j1)]) (rest := []) hx hb hml hown hq hE hX pX0_al hP hD hS hA hl.1 (R_begin l G h0 a (upd (upd (upd (upd (upd (upd (upd (upd (upd (upd (upd (upd (upd (upd (upd (upd (upd (upd (upd (upd (upd (upd F 49 (nI md)) 85 (nI im)) 97 (nI ct)) 98 (nI fl)) 99 (nI rmm)) 101 tds) 102 (nI op)) 111 (nI tp)) 115 (nI wn)) 116 (-1)) 117 (nI fu)) 118 rs0) 119 uc0) 120 (nI rd)) 121 ma0) 122 mc0) 123 ca) 124 mo) 125 nw) 126 isn) 128 (nI on)) 130 (nI idn)) B (nI j1)) (gV pw_2016 pw_2017 pw_2018 pw_1523 pw_2002) hV_X12_begin 0 9 rfl rfl rfl rfl (Nat.le_of_ble_eq_true rfl) dX12_beginsNow_470 ⟨Nat.le_of_ble_eq_true rfl, Nat.le_of_ble_eq_true rfl⟩ ⟨Nat.le_of_ble_eq_true rfl, Nat.le_of_ble_eq_true rfl⟩ (fun v136 u134 H locs hw135 hP hD hS => ?_)
      obtain rfl : v136 = none := hw135
      have hP : va_P G.1 pCl (mW G h0 a (upd (upd (upd (upd (upd (upd (upd (upd (upd (upd (upd (upd (upd (upd (upd (upd (upd (upd (upd (upd (upd (upd F 49 (nI md)) 85 (nI im)) 97 (nI ct)) 98 (nI fl)) 99 (nI rmm)) 101 tds) 102 (nI op)) 111 (nI tp)) 115 (nI wn)) 116 (-1)) 117 (nI fu)) 118 rs0) 119 uc0) 120 (nI rd)) 121 ma0) 122 mc0) 123 ca) 124 mo) 125 (nI j1)) 126 1) 128 (nI on)) 130 (nI idn)) B) _ := hP
      have hD : va_D A (mW G h0 a (upd (upd (upd (upd (upd (upd (upd (upd (upd (upd (upd (upd (upd (upd (upd (upd (upd (upd (upd (upd (upd (upd F 49 (nI md)) 85 (nI im)) 97 (nI ct)) 98 (nI fl)) 99 (nI rmm)) 101 tds) 102 (nI op)) 111 (nI tp)) 115 (nI wn)) 116 (-1)) 117 (nI fu)) 118 rs0) 119 uc0) 120 (nI rd)) 121 ma0) 122 mc0) 123 ca) 124 mo) 125 (nI j1)) 126 1) 128 (nI on)) 130 (nI idn)) B) := hD
      refine W.widen (k := 0) (n := 0) (Nat.le_of_ble_eq_true rfl) (Nat.le_of_ble_eq_true rfl) ?_
      refine W.eq (g2 := F0 m 473 ls []) rfl ?_
      refine lv_goto (tgt := 712) hx hb dX12_beginsNow_473 (by decide) ?_
      have hz137 : Nx Xs B gh nd T nm wr lz dc fd md pr bk M rmm fu (Phi gh ps op (rkN gh n9 false)) op tp wn fu rd on idn fl ct ((-1) : Int32) (nI j1) (1 : Int32) uc0 := ha3
      have hP : va_P G.1 pCl (mW G h0 a (upd (upd (upd (upd (upd (upd (upd (upd (upd (upd (upd (upd (upd (upd (upd (upd (upd (upd (upd (upd (upd (upd F 49 (nI md)) 85 (nI im)) 97 (nI ct)) 98 (nI fl)) 99 (nI rmm)) 101 tds) 102 (nI op)) 111 (nI tp)) 115 (nI wn)) 116 ((-1) : Int32)) 117 (nI fu)) 118 rs0) 119 uc0) 120 (nI rd)) 121 ma0) 122 mc0) 123 ca) 124 mo) 125 (nI j1)) 126 (1 : Int32)) 128 (nI on)) 130 (nI idn)) B) _ := hP
      have hD : va_D A (mW G h0 a (upd (upd (upd (upd (upd (upd (upd (upd (upd (upd (upd (upd (upd (upd (upd (upd (upd (upd (upd (upd (upd (upd F 49 (nI md)) 85 (nI im)) 97 (nI ct)) 98 (nI fl)) 99 (nI rmm)) 101 tds) 102 (nI op)) 111 (nI tp)) 115 (nI wn)) 116 ((-1) : Int32)) 117 (nI fu)) 118 rs0) 119 uc0) 120 (nI rd)) 121 ma0) 122 mc0) 123 ca) 124 mo) 125 (nI j1)) 126 (1 : Int32)) 128 (nI on)) 130 (nI idn)) B) := hD
      exact W.vret hx hb hr (fun t9 ht9 hW9 => ⟨⟨_, (op, tp, wn, fu, ((-1) : Int32), (nI j1), (1 : Int32), rs0, uc0, on, idn, fl, ct, tds, ma0, mc0, ca, mo, rd, B), rfl, ⟨rfl, hz137⟩, by rw [ht9]; exact hP, hD⟩, hS.F ht9⟩) hS.2.2 dX12_beginsNow_712
  · clear hn44 hkr hko
    refine lv_aload_n hx hb dX12_beginsNow_0 rfl (lv_at hl 0 rfl) ?_
    refine r_get (v := .ref (a 9)) hx hb hown hq hE hP 17 38 tFX12_17 (by decide) pw_1439 rfl dX12_beginsNow_1 ?_
    refine lv_iload_n hx hb dX12_beginsNow_4 rfl (lv_at hl 1 rfl) ?_
    refine r_ldi (f := (B 9)) (j := n9) hx hb hE hP 9 (ma_9 G a _) rfl (by omega) (by decide) dX12_beginsNow_5 ?_
    refine lv_topi (fun x138 e139 => ?_)
    obtain rfl : x138 = 8 := e139.trans ((congrFun hw9 _).trans hkd)
    refine lv_istore_n (lv' := [(2, .int 8), (0, .ref h0), (1, .int (nI n9))]) hx hb dX12_beginsNow_6 rfl hl (by decide) rfl (fun ls hl => ?_)
    refine lv_iload_n hx hb dX12_beginsNow_7 rfl (lv_at hl 0 rfl) ?_
    refine lv_bipush (v := 30) hx hb dX12_beginsNow_8 (by decide) ?_
    refine lv_icmp_lt (tgt := 41) hx hb dX12_beginsNow_10 (by decide) (fun c140 => ?_) (fun c140 => absurd c140 (by decide))
    refine lv_iload_n hx hb dX12_beginsNow_41 rfl (lv_at hl 0 rfl) ?_
    refine lv_tableIn (tgt := 445) (off := 403) hx hb dX12_beginsNow_42 (by decide) (by decide) (by decide) (by decide) ?_
    by_cases hb9 : Xs 13 n9 = -1
    · have hY := hR.rdy0 hkd (by omega) hb9
      refine lv_aload_n hx hb dX12_beginsNow_445 rfl (lv_at hl 1 rfl) ?_
      refine r_get (v := .ref (a 13)) hx hb hown hq hE hP 21 50 tFX12_21 (by decide) pw_1443 rfl dX12_beginsNow_446 ?_
      refine lv_iload_n hx hb dX12_beginsNow_449 rfl (lv_at hl 2 rfl) ?_
      refine r_ldi (f := (B 13)) (j := n9) hx hb hE hP 13 (ma_13 G a _) rfl (by omega) (by decide) dX12_beginsNow_450 ?_
      refine lv_topi (fun x141 e142 => ?_)
      obtain rfl : x141 = (-1) := e142.trans ((congrFun hw13 _).trans hb9)
      refine lv_iconst (v := (-1)) hx hb dX12_beginsNow_451 (by decide) ?_
      refine lv_icmp_ne (tgt := 463) hx hb dX12_beginsNow_452 (by decide) (fun c143 => absurd c143 (by decide)) (fun c143 => ?_)
      refine lv_aload_n hx hb dX12_beginsNow_455 rfl (lv_at hl 1 rfl) ?_
      refine lv_iload_n hx hb dX12_beginsNow_456 rfl (lv_at hl 2 rfl) ?_
      have hP : va_P G.1 pCl (mW G h0 a (upd (upd (upd (upd (upd (upd (upd (upd (upd (upd (upd (upd (upd (upd (upd (upd (upd (upd (upd (upd (upd (upd (upd (upd (upd (upd (upd (upd (upd (upd (upd (upd (upd (upd F 49 (nI md)) 85 (nI im)) 97 (nI ct)) 98 (nI fl)) 99 (nI rmm)) 101 tds) 102 (nI op)) 111 (nI tp)) 115 (nI wn)) 116 (-1)) 117 (nI fu)) 118 rs0) 119 uc0) 120 (nI rd)) 121 ma0) 122 mc0) 123 ca) 124 mo) 125 nw) 126 isn) 128 (nI on)) 130 (nI idn)) 49 (nI md)) 102 (nI op)) 111 (nI tp)) 115 (nI wn)) 116 (-1)) 117 (nI fu)) 118 rs0) 119 uc0) 123 ca) 124 mo) 125 nw) 126 isn) B) _ := hP
      have hD : va_D A (mW G h0 a (upd (upd (upd (upd (upd (upd (upd (upd (upd (upd (upd (upd (upd (upd (upd (upd (upd (upd (upd (upd (upd (upd (upd (upd (upd (upd (upd (upd (upd (upd (upd (upd (upd (upd F 49 (nI md)) 85 (nI im)) 97 (nI ct)) 98 (nI fl)) 99 (nI rmm)) 101 tds) 102 (nI op)) 111 (nI tp)) 115 (nI wn)) 116 (-1)) 117 (nI fu)) 118 rs0) 119 uc0) 120 (nI rd)) 121 ma0) 122 mc0) 123 ca) 124 mo) 125 nw) 126 isn) 128 (nI on)) 130 (nI idn)) 49 (nI md)) 102 (nI op)) 111 (nI tp)) 115 (nI wn)) 116 (-1)) 117 (nI fu)) 118 rs0) 119 uc0) 123 ca) 124 mo) 125 nw) 126 isn) B) := hD
      refine pc_V0 (G := G) (As := [.int (nI n9)]) (rest := []) hx hb hml hown hq hE hX pX0_al hP hD hS hA hl.1 (R_invokes8 l G h0 a (upd (upd (upd (upd (upd (upd (upd (upd (upd (upd (upd (upd (upd (upd (upd (upd (upd (upd (upd (upd (upd (upd F 49 (nI md)) 85 (nI im)) 97 (nI ct)) 98 (nI fl)) 99 (nI rmm)) 101 tds) 102 (nI op)) 111 (nI tp)) 115 (nI wn)) 116 (-1)) 117 (nI fu)) 118 rs0) 119 uc0) 120 (nI rd)) 121 ma0) 122 mc0) 123 ca) 124 mo) 125 nw) 126 isn) 128 (nI on)) 130 (nI idn)) B Xs gh nd T nm wr lz dc fd md pr bk M rmm (Phi gh ps op (rkN gh n9 false)) op tp wn fu rd on idn fl ct n9 0 mt ps yy bf wf nw isn rs0 uc0 ca mo hY (by omega) hkd) (gV pw_2075 pw_2076 pw_2077 pw_1523 pw_2063) hV_X12_invokes 0 9 rfl rfl rfl rfl (Nat.le_of_ble_eq_true rfl) dX12_beginsNow_457 ⟨Nat.le_of_ble_eq_true rfl, Nat.le_of_ble_eq_true rfl⟩ ⟨Nat.le_of_ble_eq_true rfl, Nat.le_of_ble_eq_true rfl⟩ (fun v146 u144 H locs hw145 hP hD hS => ?_)
      obtain ⟨op147, tp148, wn149, fu150, en151, nw152, is153, rs154, uc155, ca156, mo157, X158⟩ := u144
      obtain ⟨hw145, h159⟩ := hw145
      replace h159 : Nx Xs X158 gh nd T nm wr lz dc fd md pr bk M rmm fu (Phi gh ps op (rkN gh n9 false)) op147 tp148 wn149 fu150 rd on idn fl ct en151 nw152 is153 uc155 := h159
      obtain rfl : v146 = none := hw145
      have hP : va_P G.1 pCl (mW G h0 a (upd (upd (upd (upd (upd (upd (upd (upd (upd (upd (upd (upd (upd (upd (upd (upd (upd (upd (upd (upd (upd (upd F 49 (nI md)) 85 (nI im)) 97 (nI ct)) 98 (nI fl)) 99 (nI rmm)) 101 tds) 102 (nI op147)) 111 (nI tp148)) 115 (nI wn149)) 116 en151) 117 (nI fu150)) 118 rs154) 119 uc155) 120 (nI rd)) 121 ma0) 122 mc0) 123 ca156) 124 mo157) 125 nw152) 126 is153) 128 (nI on)) 130 (nI idn)) X158) _ := hP
      have hD : va_D A (mW G h0 a (upd (upd (upd (upd (upd (upd (upd (upd (upd (upd (upd (upd (upd (upd (upd (upd (upd (upd (upd (upd (upd (upd F 49 (nI md)) 85 (nI im)) 97 (nI ct)) 98 (nI fl)) 99 (nI rmm)) 101 tds) 102 (nI op147)) 111 (nI tp148)) 115 (nI wn149)) 116 en151) 117 (nI fu150)) 118 rs154) 119 uc155) 120 (nI rd)) 121 ma0) 122 mc0) 123 ca156) 124 mo157) 125 nw152) 126 is153) 128 (nI on)) 130 (nI idn)) X158) := hD
      refine W.widen (k := 0) (n := 0) (Nat.le_of_ble_eq_true rfl) (Nat.le_of_ble_eq_true rfl) ?_
      refine W.eq (g2 := F0 m 460 ls []) rfl ?_
      refine lv_goto (tgt := 712) hx hb dX12_beginsNow_460 (by decide) ?_
      have hz160 : Nx Xs X158 gh nd T nm wr lz dc fd md pr bk M rmm fu (Phi gh ps op (rkN gh n9 false)) op147 tp148 wn149 fu150 rd on idn fl ct en151 nw152 is153 uc155 := h159
      have hP : va_P G.1 pCl (mW G h0 a (upd (upd (upd (upd (upd (upd (upd (upd (upd (upd (upd (upd (upd (upd (upd (upd (upd (upd (upd (upd (upd (upd F 49 (nI md)) 85 (nI im)) 97 (nI ct)) 98 (nI fl)) 99 (nI rmm)) 101 tds) 102 (nI op147)) 111 (nI tp148)) 115 (nI wn149)) 116 en151) 117 (nI fu150)) 118 rs154) 119 uc155) 120 (nI rd)) 121 ma0) 122 mc0) 123 ca156) 124 mo157) 125 nw152) 126 is153) 128 (nI on)) 130 (nI idn)) X158) _ := hP
      have hD : va_D A (mW G h0 a (upd (upd (upd (upd (upd (upd (upd (upd (upd (upd (upd (upd (upd (upd (upd (upd (upd (upd (upd (upd (upd (upd F 49 (nI md)) 85 (nI im)) 97 (nI ct)) 98 (nI fl)) 99 (nI rmm)) 101 tds) 102 (nI op147)) 111 (nI tp148)) 115 (nI wn149)) 116 en151) 117 (nI fu150)) 118 rs154) 119 uc155) 120 (nI rd)) 121 ma0) 122 mc0) 123 ca156) 124 mo157) 125 nw152) 126 is153) 128 (nI on)) 130 (nI idn)) X158) := hD
      exact W.vret hx hb hr (fun t9 ht9 hW9 => ⟨⟨_, (op147, tp148, wn149, fu150, en151, nw152, is153, rs154, uc155, on, idn, fl, ct, tds, ma0, mc0, ca156, mo157, rd, X158), rfl, ⟨rfl, hz160⟩, by rw [ht9]; exact hP, hD⟩, hS.F ht9⟩) hS.2.2 dX12_beginsNow_712
    · obtain ⟨j1, ha1, ha2, ha3⟩ := hR.b7 (uc := uc0) hkd (by omega) hb9
      refine lv_aload_n hx hb dX12_beginsNow_445 rfl (lv_at hl 1 rfl) ?_
      refine r_get (v := .ref (a 13)) hx hb hown hq hE hP 21 50 tFX12_21 (by decide) pw_1443 rfl dX12_beginsNow_446 ?_
      refine lv_iload_n hx hb dX12_beginsNow_449 rfl (lv_at hl 2 rfl) ?_
      refine r_ldi (f := (B 13)) (j := n9) hx hb hE hP 13 (ma_13 G a _) rfl (by omega) (by decide) dX12_beginsNow_450 ?_
      refine lv_topi (fun x161 e162 => ?_)
      obtain rfl : x161 = nI j1 := e162.trans ((congrFun hw13 _).trans ha1)
      refine lv_iconst (v := (-1)) hx hb dX12_beginsNow_451 (by decide) ?_
      refine lv_icmp_ne (tgt := 463) hx hb dX12_beginsNow_452 (by decide) (fun c163 => ?_) (fun c163 => absurd c163 (nI_m1 (by omega)))
      refine lv_aload_n hx hb dX12_beginsNow_463 rfl (lv_at hl 1 rfl) ?_
      refine lv_aload_n hx hb dX12_beginsNow_464 rfl (lv_at hl 1 rfl) ?_
      refine r_get (v := .ref (a 13)) hx hb hown hq hE hP 21 50 tFX12_21 (by decide) pw_1443 rfl dX12_beginsNow_465 ?_
      refine lv_iload_n hx hb dX12_beginsNow_468 rfl (lv_at hl 2 rfl) ?_
      refine r_ldi (f := (B 13)) (j := n9) hx hb hE hP 13 (ma_13 G a _) rfl (by omega) (by decide) dX12_beginsNow_469 ?_
      refine lv_topi (fun x164 e165 => ?_)
      obtain rfl : x164 = nI j1 := e165.trans ((congrFun hw13 _).trans ha1)
      have hP : va_P G.1 pCl (mW G h0 a (upd (upd (upd (upd (upd (upd (upd (upd (upd (upd (upd (upd (upd (upd (upd (upd (upd (upd (upd (upd (upd (upd F 49 (nI md)) 85 (nI im)) 97 (nI ct)) 98 (nI fl)) 99 (nI rmm)) 101 tds) 102 (nI op)) 111 (nI tp)) 115 (nI wn)) 116 (-1)) 117 (nI fu)) 118 rs0) 119 uc0) 120 (nI rd)) 121 ma0) 122 mc0) 123 ca) 124 mo) 125 nw) 126 isn) 128 (nI on)) 130 (nI idn)) B) _ := hP
      have hD : va_D A (mW G h0 a (upd (upd (upd (upd (upd (upd (upd (upd (upd (upd (upd (upd (upd (upd (upd (upd (upd (upd (upd (upd (upd (upd F 49 (nI md)) 85 (nI im)) 97 (nI ct)) 98 (nI fl)) 99 (nI rmm)) 101 tds) 102 (nI op)) 111 (nI tp)) 115 (nI wn)) 116 (-1)) 117 (nI fu)) 118 rs0) 119 uc0) 120 (nI rd)) 121 ma0) 122 mc0) 123 ca) 124 mo) 125 nw) 126 isn) 128 (nI on)) 130 (nI idn)) B) := hD
      refine pc_V0 (G := G) (As := [.int (nI j1)]) (rest := []) hx hb hml hown hq hE hX pX0_al hP hD hS hA hl.1 (R_begin l G h0 a (upd (upd (upd (upd (upd (upd (upd (upd (upd (upd (upd (upd (upd (upd (upd (upd (upd (upd (upd (upd (upd (upd F 49 (nI md)) 85 (nI im)) 97 (nI ct)) 98 (nI fl)) 99 (nI rmm)) 101 tds) 102 (nI op)) 111 (nI tp)) 115 (nI wn)) 116 (-1)) 117 (nI fu)) 118 rs0) 119 uc0) 120 (nI rd)) 121 ma0) 122 mc0) 123 ca) 124 mo) 125 nw) 126 isn) 128 (nI on)) 130 (nI idn)) B (nI j1)) (gV pw_2016 pw_2017 pw_2018 pw_1523 pw_2002) hV_X12_begin 0 9 rfl rfl rfl rfl (Nat.le_of_ble_eq_true rfl) dX12_beginsNow_470 ⟨Nat.le_of_ble_eq_true rfl, Nat.le_of_ble_eq_true rfl⟩ ⟨Nat.le_of_ble_eq_true rfl, Nat.le_of_ble_eq_true rfl⟩ (fun v168 u166 H locs hw167 hP hD hS => ?_)
      obtain rfl : v168 = none := hw167
      have hP : va_P G.1 pCl (mW G h0 a (upd (upd (upd (upd (upd (upd (upd (upd (upd (upd (upd (upd (upd (upd (upd (upd (upd (upd (upd (upd (upd (upd F 49 (nI md)) 85 (nI im)) 97 (nI ct)) 98 (nI fl)) 99 (nI rmm)) 101 tds) 102 (nI op)) 111 (nI tp)) 115 (nI wn)) 116 (-1)) 117 (nI fu)) 118 rs0) 119 uc0) 120 (nI rd)) 121 ma0) 122 mc0) 123 ca) 124 mo) 125 (nI j1)) 126 1) 128 (nI on)) 130 (nI idn)) B) _ := hP
      have hD : va_D A (mW G h0 a (upd (upd (upd (upd (upd (upd (upd (upd (upd (upd (upd (upd (upd (upd (upd (upd (upd (upd (upd (upd (upd (upd F 49 (nI md)) 85 (nI im)) 97 (nI ct)) 98 (nI fl)) 99 (nI rmm)) 101 tds) 102 (nI op)) 111 (nI tp)) 115 (nI wn)) 116 (-1)) 117 (nI fu)) 118 rs0) 119 uc0) 120 (nI rd)) 121 ma0) 122 mc0) 123 ca) 124 mo) 125 (nI j1)) 126 1) 128 (nI on)) 130 (nI idn)) B) := hD
      refine W.widen (k := 0) (n := 0) (Nat.le_of_ble_eq_true rfl) (Nat.le_of_ble_eq_true rfl) ?_
      refine W.eq (g2 := F0 m 473 ls []) rfl ?_
      refine lv_goto (tgt := 712) hx hb dX12_beginsNow_473 (by decide) ?_
      have hz169 : Nx Xs B gh nd T nm wr lz dc fd md pr bk M rmm fu (Phi gh ps op (rkN gh n9 false)) op tp wn fu rd on idn fl ct ((-1) : Int32) (nI j1) (1 : Int32) uc0 := ha3
      have hP : va_P G.1 pCl (mW G h0 a (upd (upd (upd (upd (upd (upd (upd (upd (upd (upd (upd (upd (upd (upd (upd (upd (upd (upd (upd (upd (upd (upd F 49 (nI md)) 85 (nI im)) 97 (nI ct)) 98 (nI fl)) 99 (nI rmm)) 101 tds) 102 (nI op)) 111 (nI tp)) 115 (nI wn)) 116 ((-1) : Int32)) 117 (nI fu)) 118 rs0) 119 uc0) 120 (nI rd)) 121 ma0) 122 mc0) 123 ca) 124 mo) 125 (nI j1)) 126 (1 : Int32)) 128 (nI on)) 130 (nI idn)) B) _ := hP
      have hD : va_D A (mW G h0 a (upd (upd (upd (upd (upd (upd (upd (upd (upd (upd (upd (upd (upd (upd (upd (upd (upd (upd (upd (upd (upd (upd F 49 (nI md)) 85 (nI im)) 97 (nI ct)) 98 (nI fl)) 99 (nI rmm)) 101 tds) 102 (nI op)) 111 (nI tp)) 115 (nI wn)) 116 ((-1) : Int32)) 117 (nI fu)) 118 rs0) 119 uc0) 120 (nI rd)) 121 ma0) 122 mc0) 123 ca) 124 mo) 125 (nI j1)) 126 (1 : Int32)) 128 (nI on)) 130 (nI idn)) B) := hD
      exact W.vret hx hb hr (fun t9 ht9 hW9 => ⟨⟨_, (op, tp, wn, fu, ((-1) : Int32), (nI j1), (1 : Int32), rs0, uc0, on, idn, fl, ct, tds, ma0, mc0, ca, mo, rd, B), rfl, ⟨rfl, hz169⟩, by rw [ht9]; exact hP, hD⟩, hS.F ht9⟩) hS.2.2 dX12_beginsNow_712
  · clear hn44 hkr hko
    refine lv_aload_n hx hb dX12_beginsNow_0 rfl (lv_at hl 0 rfl) ?_
    refine r_get (v := .ref (a 9)) hx hb hown hq hE hP 17 38 tFX12_17 (by decide) pw_1439 rfl dX12_beginsNow_1 ?_
    refine lv_iload_n hx hb dX12_beginsNow_4 rfl (lv_at hl 1 rfl) ?_
    refine r_ldi (f := (B 9)) (j := n9) hx hb hE hP 9 (ma_9 G a _) rfl (by omega) (by decide) dX12_beginsNow_5 ?_
    refine lv_topi (fun x170 e171 => ?_)
    obtain rfl : x170 = 9 := e171.trans ((congrFun hw9 _).trans hkd)
    refine lv_istore_n (lv' := [(2, .int 9), (0, .ref h0), (1, .int (nI n9))]) hx hb dX12_beginsNow_6 rfl hl (by decide) rfl (fun ls hl => ?_)
    refine lv_iload_n hx hb dX12_beginsNow_7 rfl (lv_at hl 0 rfl) ?_
    refine lv_bipush (v := 30) hx hb dX12_beginsNow_8 (by decide) ?_
    refine lv_icmp_lt (tgt := 41) hx hb dX12_beginsNow_10 (by decide) (fun c172 => ?_) (fun c172 => absurd c172 (by decide))
    refine lv_iload_n hx hb dX12_beginsNow_41 rfl (lv_at hl 0 rfl) ?_
    refine lv_tableIn (tgt := 404) (off := 362) hx hb dX12_beginsNow_42 (by decide) (by decide) (by decide) (by decide) ?_
    obtain ⟨c9, hs1, hs2, hs3, hs4, hs5, hs6, hs7⟩ := hR.b9 hkd
    refine lv_aload_n hx hb dX12_beginsNow_404 rfl (lv_at hl 1 rfl) ?_
    have hP : va_P G.1 pCl (mW G h0 a (upd (upd (upd (upd (upd (upd (upd (upd (upd (upd (upd (upd (upd (upd (upd (upd (upd (upd (upd (upd (upd (upd (upd (upd F 49 (nI md)) 85 (nI im)) 97 (nI ct)) 98 (nI fl)) 99 (nI rmm)) 101 tds) 102 (nI op)) 111 (nI tp)) 115 (nI wn)) 116 (-1)) 117 (nI fu)) 118 rs0) 119 uc0) 120 (nI rd)) 121 ma0) 122 mc0) 123 ca) 124 mo) 125 nw) 126 isn) 128 (nI on)) 130 (nI idn)) 116 (-1)) 117 (nI fu)) B) _ := hP
    have hD : va_D A (mW G h0 a (upd (upd (upd (upd (upd (upd (upd (upd (upd (upd (upd (upd (upd (upd (upd (upd (upd (upd (upd (upd (upd (upd (upd (upd F 49 (nI md)) 85 (nI im)) 97 (nI ct)) 98 (nI fl)) 99 (nI rmm)) 101 tds) 102 (nI op)) 111 (nI tp)) 115 (nI wn)) 116 (-1)) 117 (nI fu)) 118 rs0) 119 uc0) 120 (nI rd)) 121 ma0) 122 mc0) 123 ca) 124 mo) 125 nw) 126 isn) 128 (nI on)) 130 (nI idn)) 116 (-1)) 117 (nI fu)) B) := hD
    refine pc_V0 (G := G) (As := []) (rest := []) hx hb hml hown hq hE hX pX0_al hP hD hS hA hl.1 (R_pays l G h0 a (upd (upd (upd (upd (upd (upd (upd (upd (upd (upd (upd (upd (upd (upd (upd (upd (upd (upd (upd (upd (upd (upd F 49 (nI md)) 85 (nI im)) 97 (nI ct)) 98 (nI fl)) 99 (nI rmm)) 101 tds) 102 (nI op)) 111 (nI tp)) 115 (nI wn)) 116 (-1)) 117 (nI fu)) 118 rs0) 119 uc0) 120 (nI rd)) 121 ma0) 122 mc0) 123 ca) 124 mo) 125 nw) 126 isn) 128 (nI on)) 130 (nI idn)) B fu (-1) (by omega)) (gV pw_2026 pw_2027 pw_2028 pw_1523 pw_2000) hV_X12_pays 0 9 rfl rfl rfl rfl (Nat.le_of_ble_eq_true rfl) dX12_beginsNow_405 ⟨Nat.le_of_ble_eq_true rfl, Nat.le_of_ble_eq_true rfl⟩ ⟨Nat.le_of_ble_eq_true rfl, Nat.le_of_ble_eq_true rfl⟩ (fun v175 u173 H locs hw174 hP hD hS => ?_)
    obtain ⟨r176, fu177, en178⟩ := u173
    obtain ⟨hw174, h179, h180, h181, h182⟩ := hw174
    replace h179 : r176 ≤ 1 := h179
    replace h180 : fu177 + r176 = fu := h180
    replace h181 : If (r176 = 1) (en178 = (-1)) := h181
    replace h182 : If (r176 = 0) (en178 = 2) := h182
    obtain rfl : v175 = some (.int (nI r176)) := hw174
    have hP : va_P G.1 pCl (mW G h0 a (upd (upd (upd (upd (upd (upd (upd (upd (upd (upd (upd (upd (upd (upd (upd (upd (upd (upd (upd (upd (upd (upd F 49 (nI md)) 85 (nI im)) 97 (nI ct)) 98 (nI fl)) 99 (nI rmm)) 101 tds) 102 (nI op)) 111 (nI tp)) 115 (nI wn)) 116 en178) 117 (nI fu177)) 118 rs0) 119 uc0) 120 (nI rd)) 121 ma0) 122 mc0) 123 ca) 124 mo) 125 nw) 126 isn) 128 (nI on)) 130 (nI idn)) B) _ := hP
    have hD : va_D A (mW G h0 a (upd (upd (upd (upd (upd (upd (upd (upd (upd (upd (upd (upd (upd (upd (upd (upd (upd (upd (upd (upd (upd (upd F 49 (nI md)) 85 (nI im)) 97 (nI ct)) 98 (nI fl)) 99 (nI rmm)) 101 tds) 102 (nI op)) 111 (nI tp)) 115 (nI wn)) 116 en178) 117 (nI fu177)) 118 rs0) 119 uc0) 120 (nI rd)) 121 ma0) 122 mc0) 123 ca) 124 mo) 125 nw) 126 isn) 128 (nI on)) 130 (nI idn)) B) := hD
    refine W.widen (k := 0) (n := 0) (Nat.le_of_ble_eq_true rfl) (Nat.le_of_ble_eq_true rfl) ?_
    refine W.eq (g2 := F0 m 408 ls [.int (nI r176)]) rfl ?_
    rcases (show r176 = 0 ∨ r176 = 1 by omega) with hr0 | hr0
    · have hen := h182 hr0
      subst hr0
      have hP : va_P G.1 pCl (mW G h0 a (upd (upd (upd (upd (upd (upd (upd (upd (upd (upd (upd (upd (upd (upd (upd (upd (upd (upd (upd (upd (upd (upd F 49 (nI md)) 85 (nI im)) 97 (nI ct)) 98 (nI fl)) 99 (nI rmm)) 101 tds) 102 (nI op)) 111 (nI tp)) 115 (nI wn)) 116 en178) 117 (nI fu177)) 118 rs0) 119 uc0) 120 (nI rd)) 121 ma0) 122 mc0) 123 ca) 124 mo) 125 nw) 126 isn) 128 (nI on)) 130 (nI idn)) B) _ := hP
      have hD : va_D A (mW G h0 a (upd (upd (upd (upd (upd (upd (upd (upd (upd (upd (upd (upd (upd (upd (upd (upd (upd (upd (upd (upd (upd (upd F 49 (nI md)) 85 (nI im)) 97 (nI ct)) 98 (nI fl)) 99 (nI rmm)) 101 tds) 102 (nI op)) 111 (nI tp)) 115 (nI wn)) 116 en178) 117 (nI fu177)) 118 rs0) 119 uc0) 120 (nI rd)) 121 ma0) 122 mc0) 123 ca) 124 mo) 125 nw) 126 isn) 128 (nI on)) 130 (nI idn)) B) := hD
      refine W.eq (g2 := F0 m 408 ls [.int 0]) rfl ?_
      refine lv_if_eq (tgt := 712) hx hb dX12_beginsNow_408 (by decide) (fun c183 => ?_) (fun c183 => absurd c183 (by decide))
      have hz184 : Nx Xs B gh nd T nm wr lz dc fd md pr bk M rmm fu (Phi gh ps op (rkN gh n9 false)) op tp wn fu177 rd on idn fl ct en178 nw isn uc0 := (hR.stop Sta.rfl hR.hp (by rw [hen]; decide) (by rw [hen]; decide))
      have hP : va_P G.1 pCl (mW G h0 a (upd (upd (upd (upd (upd (upd (upd (upd (upd (upd (upd (upd (upd (upd (upd (upd (upd (upd (upd (upd (upd (upd F 49 (nI md)) 85 (nI im)) 97 (nI ct)) 98 (nI fl)) 99 (nI rmm)) 101 tds) 102 (nI op)) 111 (nI tp)) 115 (nI wn)) 116 en178) 117 (nI fu177)) 118 rs0) 119 uc0) 120 (nI rd)) 121 ma0) 122 mc0) 123 ca) 124 mo) 125 nw) 126 isn) 128 (nI on)) 130 (nI idn)) B) _ := hP
      have hD : va_D A (mW G h0 a (upd (upd (upd (upd (upd (upd (upd (upd (upd (upd (upd (upd (upd (upd (upd (upd (upd (upd (upd (upd (upd (upd F 49 (nI md)) 85 (nI im)) 97 (nI ct)) 98 (nI fl)) 99 (nI rmm)) 101 tds) 102 (nI op)) 111 (nI tp)) 115 (nI wn)) 116 en178) 117 (nI fu177)) 118 rs0) 119 uc0) 120 (nI rd)) 121 ma0) 122 mc0) 123 ca) 124 mo) 125 nw) 126 isn) 128 (nI on)) 130 (nI idn)) B) := hD
      exact W.vret hx hb hr (fun t9 ht9 hW9 => ⟨⟨_, (op, tp, wn, fu177, en178, nw, isn, rs0, uc0, on, idn, fl, ct, tds, ma0, mc0, ca, mo, rd, B), rfl, ⟨rfl, hz184⟩, by rw [ht9]; exact hP, hD⟩, hS.F ht9⟩) hS.2.2 dX12_beginsNow_712
    · obtain rfl : en178 = _ := h181 hr0
      subst hr0
      have hP : va_P G.1 pCl (mW G h0 a (upd (upd (upd (upd (upd (upd (upd (upd (upd (upd (upd (upd (upd (upd (upd (upd (upd (upd (upd (upd (upd (upd F 49 (nI md)) 85 (nI im)) 97 (nI ct)) 98 (nI fl)) 99 (nI rmm)) 101 tds) 102 (nI op)) 111 (nI tp)) 115 (nI wn)) 116 (-1)) 117 (nI fu177)) 118 rs0) 119 uc0) 120 (nI rd)) 121 ma0) 122 mc0) 123 ca) 124 mo) 125 nw) 126 isn) 128 (nI on)) 130 (nI idn)) B) _ := hP
      have hD : va_D A (mW G h0 a (upd (upd (upd (upd (upd (upd (upd (upd (upd (upd (upd (upd (upd (upd (upd (upd (upd (upd (upd (upd (upd (upd F 49 (nI md)) 85 (nI im)) 97 (nI ct)) 98 (nI fl)) 99 (nI rmm)) 101 tds) 102 (nI op)) 111 (nI tp)) 115 (nI wn)) 116 (-1)) 117 (nI fu177)) 118 rs0) 119 uc0) 120 (nI rd)) 121 ma0) 122 mc0) 123 ca) 124 mo) 125 nw) 126 isn) 128 (nI on)) 130 (nI idn)) B) := hD
      refine W.eq (g2 := F0 m 408 ls [.int 1]) rfl ?_
      refine lv_if_eq (tgt := 712) hx hb dX12_beginsNow_408 (by decide) (fun c185 => absurd c185 (by decide)) (fun c185 => ?_)
      refine lv_aload_n hx hb dX12_beginsNow_411 rfl (lv_at hl 1 rfl) ?_
      refine lv_aload_n hx hb dX12_beginsNow_412 rfl (lv_at hl 1 rfl) ?_
      refine r_get (v := .ref (a 18)) hx hb hown hq hE hP 26 65 tFX12_26 (by decide) pw_1448 rfl dX12_beginsNow_413 ?_
      refine lv_iload_n hx hb dX12_beginsNow_416 rfl (lv_at hl 2 rfl) ?_
      refine r_ldi (f := (B 18)) (j := n9) hx hb hE hP 18 (ma_18 G a _) rfl (by omega) (by decide) dX12_beginsNow_417 ?_
      refine lv_topi (fun x186 e187 => ?_)
      obtain rfl : x186 = nI c9 := e187.trans hs1
      refine lv_iconst (v := 0) hx hb dX12_beginsNow_418 (by decide) ?_
      refine lv_aload_n hx hb dX12_beginsNow_419 rfl (lv_at hl 1 rfl) ?_
      refine r_get (v := .ref (a 30)) hx hb hown hq hE hP 42 102 tFX12_42 (by decide) pw_1461 rfl dX12_beginsNow_420 ?_
      refine lv_aload_n hx hb dX12_beginsNow_423 rfl (lv_at hl 1 rfl) ?_
      refine r_get (v := .ref (a 18)) hx hb hown hq hE hP 26 65 tFX12_26 (by decide) pw_1448 rfl dX12_beginsNow_424 ?_
      refine lv_iload_n hx hb dX12_beginsNow_427 rfl (lv_at hl 2 rfl) ?_
      refine r_ldi (f := (B 18)) (j := n9) hx hb hE hP 18 (ma_18 G a _) rfl (by omega) (by decide) dX12_beginsNow_428 ?_
      refine lv_topi (fun x188 e189 => ?_)
      obtain rfl : x188 = nI c9 := e189.trans hs1
      refine r_ldi (f := (B 30)) (j := c9) hx hb hE hP 30 (ma_30 G a _) rfl (by omega) (by decide) dX12_beginsNow_429 ?_
      refine lv_topi (fun x190 e191 => ?_)
      obtain rfl : x190 = nI (1 + cfF Xs c9 fd) := e191.trans hs6
      refine lv_iconst (v := 1) hx hb dX12_beginsNow_430 (by decide) ?_
      refine lv_isub hx hb dX12_beginsNow_431 ?_
      refine lv_topi (fun x192 e193 => ?_)
      obtain rfl : x192 = nI ((1 + cfF Xs c9 fd) - 1) := e193.trans (nI_subN (a := 1) (b := (1 + cfF Xs c9 fd)) (by omega))
      refine lv_topi (fun x194 e195 => ?_)
      obtain rfl : x194 = nI (cfF Xs c9 fd) := e195.trans (congrArg nI (by omega))
      obtain ⟨hk0, hk1, hk2, hk3, hk4, hk5, hk6, hk7⟩ := Cfg.mkh hPg hR.hp hR.cf
      have hP : va_P G.1 pCl (mW G h0 a (upd (upd (upd (upd (upd (upd (upd (upd (upd (upd (upd (upd (upd (upd (upd (upd (upd (upd (upd (upd (upd (upd (upd (upd (upd (upd (upd (upd (upd (upd (upd F 49 (nI md)) 85 (nI im)) 97 (nI ct)) 98 (nI fl)) 99 (nI rmm)) 101 tds) 102 (nI op)) 111 (nI tp)) 115 (nI wn)) 116 (-1)) 117 (nI fu177)) 118 rs0) 119 uc0) 120 (nI rd)) 121 ma0) 122 mc0) 123 ca) 124 mo) 125 nw) 126 isn) 128 (nI on)) 130 (nI idn)) 97 (nI ct)) 98 (nI fl)) 99 (nI rmm)) 102 (nI op)) 111 (nI tp)) 115 (nI wn)) 116 (-1)) 128 (nI on)) 130 (nI idn)) (updA (updA (updA (updA (updA (updA (updA (updA (updA B 55 (B 55)) 56 (B 56)) 57 (B 57)) 58 (B 58)) 59 (B 59)) 60 (B 60)) 61 (B 61)) 73 (B 73)) 74 (B 74))) _ := hP
      have hD : va_D A (mW G h0 a (upd (upd (upd (upd (upd (upd (upd (upd (upd (upd (upd (upd (upd (upd (upd (upd (upd (upd (upd (upd (upd (upd (upd (upd (upd (upd (upd (upd (upd (upd (upd F 49 (nI md)) 85 (nI im)) 97 (nI ct)) 98 (nI fl)) 99 (nI rmm)) 101 tds) 102 (nI op)) 111 (nI tp)) 115 (nI wn)) 116 (-1)) 117 (nI fu177)) 118 rs0) 119 uc0) 120 (nI rd)) 121 ma0) 122 mc0) 123 ca) 124 mo) 125 nw) 126 isn) 128 (nI on)) 130 (nI idn)) 97 (nI ct)) 98 (nI fl)) 99 (nI rmm)) 102 (nI op)) 111 (nI tp)) 115 (nI wn)) 116 (-1)) 128 (nI on)) 130 (nI idn)) (updA (updA (updA (updA (updA (updA (updA (updA (updA B 55 (B 55)) 56 (B 56)) 57 (B 57)) 58 (B 58)) 59 (B 59)) 60 (B 60)) 61 (B 61)) 73 (B 73)) 74 (B 74))) := hD
      refine pc_V0 (G := G) (As := [.int (nI c9), .int 0, .int (nI (cfF Xs c9 fd))]) (rest := []) hx hb hml hown hq hE hX pX0_al hP hD hS hA hl.1 (R_make l G h0 a (upd (upd (upd (upd (upd (upd (upd (upd (upd (upd (upd (upd (upd (upd (upd (upd (upd (upd (upd (upd (upd (upd F 49 (nI md)) 85 (nI im)) 97 (nI ct)) 98 (nI fl)) 99 (nI rmm)) 101 tds) 102 (nI op)) 111 (nI tp)) 115 (nI wn)) 116 (-1)) 117 (nI fu177)) 118 rs0) 119 uc0) 120 (nI rd)) 121 ma0) 122 mc0) 123 ca) 124 mo) 125 nw) 126 isn) 128 (nI on)) 130 (nI idn)) B (cfF Xs c9 fd) (nI c9) 0 (-1) on op tp wn idn fl rmm (B 59) (B 61) (B 73) (B 74) (B 58) (B 60) ct (B 55) (B 56) (B 57) (by omega) (by omega) (by omega) (by omega) hk1 hk2 hk3 hk4 hk5 hk6 hk7 (by omega)) (gV pw_2072 pw_2073 pw_2074 pw_1523 pw_1993) hV_X12_make 0 9 rfl rfl rfl rfl (Nat.le_of_ble_eq_true rfl) dX12_beginsNow_432 ⟨Nat.le_of_ble_eq_true rfl, Nat.le_of_ble_eq_true rfl⟩ ⟨Nat.le_of_ble_eq_true rfl, Nat.le_of_ble_eq_true rfl⟩ (fun v198 u196 H locs hw197 hP hD hS => ?_)
      obtain ⟨r199, on200, idn201, fl202, ct203, en204, tds205, ma206, mc207, od208, id209, oa210, cl211, sn212, td213, oc214, os215, om216, sn217⟩ := u196
      obtain ⟨hw197, h218, h219, h220, h221, h222, h223, h224, h225⟩ := hw197
      replace h218 : HS om216 oc214 od208 id209 oa210 on200 idn201 fl202 rmm := h218
      replace h219 : ct203 = smF om216 od208 on200 := h219
      replace h220 : ((∀ c : Nat, c < op → RfS sn217 ((B 62) c)) ∧ (∀ c s v : Nat, c < op → (B 63) c = nI s → s ≤ 30 → v < s → ¬ (B 67) (32 * c + v) = 0 → RfS sn217 ((B 66) (32 * c + v))) ∧ (∀ k : Nat, k < tp → ¬ (B 69) k = 0 → RfS sn217 ((B 68) k)) ∧ (∀ k : Nat, k < wn → ¬ (B 72) k = 0 → RfS sn217 ((B 71) k)) ∧ (∀ o : Nat, o < 3000 → Lvd (B 73) on o → ¬ sn217 o = 0 → ∀ v : Int32, (Chd (B 55) (B 56) (B 57) (B 58) (B 60) ((B 75)) ((B 76)) ((B 77))) o v → RfS sn217 v)) := h220
      replace h221 : r199 ≤ 3000 := h221
      replace h222 : If (r199 = 0) (en204 = 3 ∧ oc214 = (B 55) ∧ os215 = (B 56) ∧ om216 = (B 57)) := h222
      replace h223 : If (0 < r199) (en204 = (-1) ∧ oc214 = upd (B 55) (r199 - 1) (nI c9) ∧ os215 = upd (B 56) (r199 - 1) 0 ∧ om216 = upd (B 57) (r199 - 1) (nI (cfF Xs c9 fd)) ∧ (cfF Xs c9 fd) ≤ 3000 ∧ (¬ Lvd (B 73) on (r199 - 1) ∨ sn217 (r199 - 1) = 0) ∧ ∃ p : Nat, oa210 (r199 - 1) = nI p ∧ p + (cfF Xs c9 fd) ≤ 3000 ∧ ∀ i : Nat, i < (cfF Xs c9 fd) → cl211 (p + i) = 0) := h223
      replace h224 : ∀ o : Nat, o < 3000 → (Lvd od208 on200 o ↔ (Lvd (B 73) on o ∧ ¬ sn217 o = 0) ∨ (0 < r199 ∧ o = r199 - 1)) := h224
      replace h225 : ∀ o : Nat, o < 3000 → Lvd (B 73) on o → ¬ sn217 o = 0 → ∀ i q p p1 : Nat, (B 57) o = nI q → (B 58) o = nI p → oa210 o = nI p1 → i < q → q ≤ 3000 → p ≤ 3000 → p1 ≤ 3000 → cl211 (p1 + i) = (B 60) (p + i) := h225
      obtain rfl : v198 = some (.int (nI r199)) := hw197
      have hP : va_P G.1 pCl (mW G h0 a (upd (upd (upd (upd (upd (upd (upd (upd (upd (upd (upd (upd (upd (upd (upd (upd (upd (upd (upd (upd (upd (upd F 49 (nI md)) 85 (nI im)) 97 (nI ct203)) 98 (nI fl202)) 99 (nI rmm)) 101 tds205) 102 (nI op)) 111 (nI tp)) 115 (nI wn)) 116 en204) 117 (nI fu177)) 118 rs0) 119 uc0) 120 (nI rd)) 121 ma206) 122 mc207) 123 ca) 124 mo) 125 nw) 126 isn) 128 (nI on200)) 130 (nI idn201)) (updA (updA (updA (updA (updA (updA (updA (updA (updA B 55 oc214) 56 os215) 57 om216) 58 oa210) 59 sn212) 60 cl211) 61 td213) 73 od208) 74 id209)) _ := hP
      have hD : va_D A (mW G h0 a (upd (upd (upd (upd (upd (upd (upd (upd (upd (upd (upd (upd (upd (upd (upd (upd (upd (upd (upd (upd (upd (upd F 49 (nI md)) 85 (nI im)) 97 (nI ct203)) 98 (nI fl202)) 99 (nI rmm)) 101 tds205) 102 (nI op)) 111 (nI tp)) 115 (nI wn)) 116 en204) 117 (nI fu177)) 118 rs0) 119 uc0) 120 (nI rd)) 121 ma206) 122 mc207) 123 ca) 124 mo) 125 nw) 126 isn) 128 (nI on200)) 130 (nI idn201)) (updA (updA (updA (updA (updA (updA (updA (updA (updA B 55 oc214) 56 os215) 57 om216) 58 oa210) 59 sn212) 60 cl211) 61 td213) 73 od208) 74 id209)) := hD
      refine W.widen (k := 0) (n := 0) (Nat.le_of_ble_eq_true rfl) (Nat.le_of_ble_eq_true rfl) ?_
      refine W.eq (g2 := F0 m 435 ls [.int (nI r199)]) rfl ?_
      have hmk : MkQ B (updA (updA (updA (updA (updA (updA (updA (updA (updA B 55 oc214) 56 os215) 57 om216) 58 oa210) 59 sn212) 60 cl211) 61 td213) 73 od208) 74 id209) sn217 on on200 idn201 fl202 ct203 rmm op tp wn r199 (cfF Xs c9 fd) (nI c9) 0 (-1) en204 := ⟨h218, h219, h220, h221, h222, h223, h224, h225⟩
      refine lv_istore_n (lv' := [(3, .int (nI r199)), (2, .int 9), (0, .ref h0), (1, .int (nI n9))]) hx hb dX12_beginsNow_435 rfl hl (by decide) rfl (fun ls hl => ?_)
      refine lv_aload_n hx hb dX12_beginsNow_436 rfl (lv_at hl 2 rfl) ?_
      refine lv_iload_n hx hb dX12_beginsNow_437 rfl (lv_at hl 3 rfl) ?_
      refine lv_iload_n hx hb dX12_beginsNow_438 rfl (lv_at hl 0 rfl) ?_
      have hP : va_P G.1 pCl (mW G h0 a (upd (upd (upd (upd (upd (upd (upd (upd (upd (upd (upd (upd (upd (upd (upd (upd (upd (upd (upd (upd (upd (upd (upd F 49 (nI md)) 85 (nI im)) 97 (nI ct203)) 98 (nI fl202)) 99 (nI rmm)) 101 tds205) 102 (nI op)) 111 (nI tp)) 115 (nI wn)) 116 en204) 117 (nI fu177)) 118 rs0) 119 uc0) 120 (nI rd)) 121 ma206) 122 mc207) 123 ca) 124 mo) 125 nw) 126 isn) 128 (nI on200)) 130 (nI idn201)) 111 (nI tp)) (updA (updA (updA (updA (updA (updA (updA (updA (updA (updA (updA B 55 oc214) 56 os215) 57 om216) 58 oa210) 59 sn212) 60 cl211) 61 td213) 73 od208) 74 id209) 68 (B 68)) 69 (B 69))) _ := hP
      have hD : va_D A (mW G h0 a (upd (upd (upd (upd (upd (upd (upd (upd (upd (upd (upd (upd (upd (upd (upd (upd (upd (upd (upd (upd (upd (upd (upd F 49 (nI md)) 85 (nI im)) 97 (nI ct203)) 98 (nI fl202)) 99 (nI rmm)) 101 tds205) 102 (nI op)) 111 (nI tp)) 115 (nI wn)) 116 en204) 117 (nI fu177)) 118 rs0) 119 uc0) 120 (nI rd)) 121 ma206) 122 mc207) 123 ca) 124 mo) 125 nw) 126 isn) 128 (nI on200)) 130 (nI idn201)) 111 (nI tp)) (updA (updA (updA (updA (updA (updA (updA (updA (updA (updA (updA B 55 oc214) 56 os215) 57 om216) 58 oa210) 59 sn212) 60 cl211) 61 td213) 73 od208) 74 id209) 68 (B 68)) 69 (B 69))) := hD
      refine pc_V0 (G := G) (As := [.int (nI n9), .int (nI r199)]) (rest := []) hx hb hml hown hq hE hX pX0_al hP hD hS hA hl.1 (R_gives l G h0 a (upd (upd (upd (upd (upd (upd (upd (upd (upd (upd (upd (upd (upd (upd (upd (upd (upd (upd (upd (upd (upd (upd F 49 (nI md)) 85 (nI im)) 97 (nI ct203)) 98 (nI fl202)) 99 (nI rmm)) 101 tds205) 102 (nI op)) 111 (nI tp)) 115 (nI wn)) 116 en204) 117 (nI fu177)) 118 rs0) 119 uc0) 120 (nI rd)) 121 ma206) 122 mc207) 123 ca) 124 mo) 125 nw) 126 isn) 128 (nI on200)) 130 (nI idn201)) (updA (updA (updA (updA (updA (updA (updA (updA (updA B 55 oc214) 56 os215) 57 om216) 58 oa210) 59 sn212) 60 cl211) 61 td213) 73 od208) 74 id209) n9 (10 + c9) tp (nI r199) (B 68) (B 69) (by omega) hs4 (by omega) (by omega)) (gV pw_2069 pw_2070 pw_2071 pw_1523 pw_2006) hV_X12_gives 0 9 rfl rfl rfl rfl (Nat.le_of_ble_eq_true rfl) dX12_beginsNow_439 ⟨Nat.le_of_ble_eq_true rfl, Nat.le_of_ble_eq_true rfl⟩ ⟨Nat.le_of_ble_eq_true rfl, Nat.le_of_ble_eq_true rfl⟩ (fun v228 u226 H locs hw227 hP hD hS => ?_)
      obtain ⟨b229, rf230⟩ := u226
      obtain ⟨hw227, h231, h232⟩ := hw227
      replace h231 : rf230 = upd (B 69) tp (nI b229) := h231
      replace h232 : b229 ≤ 1 ∧ 3 * b229 ≤ (10 + c9) ∧ (10 + c9) ≤ 2 + 9000 * b229 := h232
      obtain rfl : v228 = none := hw227
      have hP : va_P G.1 pCl (mW G h0 a (upd (upd (upd (upd (upd (upd (upd (upd (upd (upd (upd (upd (upd (upd (upd (upd (upd (upd (upd (upd (upd (upd F 49 (nI md)) 85 (nI im)) 97 (nI ct203)) 98 (nI fl202)) 99 (nI rmm)) 101 tds205) 102 (nI op)) 111 (nI (tp + 1))) 115 (nI wn)) 116 en204) 117 (nI fu177)) 118 rs0) 119 uc0) 120 (nI rd)) 121 ma206) 122 mc207) 123 ca) 124 mo) 125 (nI n9)) 126 0) 128 (nI on200)) 130 (nI idn201)) (updA (updA (updA (updA (updA (updA (updA (updA (updA (updA (updA B 55 oc214) 56 os215) 57 om216) 58 oa210) 59 sn212) 60 cl211) 61 td213) 68 (upd (B 68) tp (nI r199))) 69 rf230) 73 od208) 74 id209)) _ := hP
      have hD : va_D A (mW G h0 a (upd (upd (upd (upd (upd (upd (upd (upd (upd (upd (upd (upd (upd (upd (upd (upd (upd (upd (upd (upd (upd (upd F 49 (nI md)) 85 (nI im)) 97 (nI ct203)) 98 (nI fl202)) 99 (nI rmm)) 101 tds205) 102 (nI op)) 111 (nI (tp + 1))) 115 (nI wn)) 116 en204) 117 (nI fu177)) 118 rs0) 119 uc0) 120 (nI rd)) 121 ma206) 122 mc207) 123 ca) 124 mo) 125 (nI n9)) 126 0) 128 (nI on200)) 130 (nI idn201)) (updA (updA (updA (updA (updA (updA (updA (updA (updA (updA (updA B 55 oc214) 56 os215) 57 om216) 58 oa210) 59 sn212) 60 cl211) 61 td213) 68 (upd (B 68) tp (nI r199))) 69 rf230) 73 od208) 74 id209)) := hD
      refine W.widen (k := 0) (n := 0) (Nat.le_of_ble_eq_true rfl) (Nat.le_of_ble_eq_true rfl) ?_
      refine W.eq (g2 := F0 m 442 ls []) rfl ?_
      obtain rfl : rf230 = _ := h231
      have hP : va_P G.1 pCl (mW G h0 a (upd (upd (upd (upd (upd (upd (upd (upd (upd (upd (upd (upd (upd (upd (upd (upd (upd (upd (upd (upd (upd (upd F 49 (nI md)) 85 (nI im)) 97 (nI ct203)) 98 (nI fl202)) 99 (nI rmm)) 101 tds205) 102 (nI op)) 111 (nI (tp + 1))) 115 (nI wn)) 116 en204) 117 (nI fu177)) 118 rs0) 119 uc0) 120 (nI rd)) 121 ma206) 122 mc207) 123 ca) 124 mo) 125 (nI n9)) 126 0) 128 (nI on200)) 130 (nI idn201)) (updA (updA (updA (updA (updA (updA (updA (updA (updA (updA (updA B 55 oc214) 56 os215) 57 om216) 58 oa210) 59 sn212) 60 cl211) 61 td213) 68 (upd (B 68) tp (nI r199))) 69 (upd (B 69) tp (nI b229))) 73 od208) 74 id209)) _ := hP
      have hD : va_D A (mW G h0 a (upd (upd (upd (upd (upd (upd (upd (upd (upd (upd (upd (upd (upd (upd (upd (upd (upd (upd (upd (upd (upd (upd F 49 (nI md)) 85 (nI im)) 97 (nI ct203)) 98 (nI fl202)) 99 (nI rmm)) 101 tds205) 102 (nI op)) 111 (nI (tp + 1))) 115 (nI wn)) 116 en204) 117 (nI fu177)) 118 rs0) 119 uc0) 120 (nI rd)) 121 ma206) 122 mc207) 123 ca) 124 mo) 125 (nI n9)) 126 0) 128 (nI on200)) 130 (nI idn201)) (updA (updA (updA (updA (updA (updA (updA (updA (updA (updA (updA B 55 oc214) 56 os215) 57 om216) 58 oa210) 59 sn212) 60 cl211) 61 td213) 68 (upd (B 68) tp (nI r199))) 69 (upd (B 69) tp (nI b229))) 73 od208) 74 id209)) := hD
      refine lv_goto (tgt := 712) hx hb dX12_beginsNow_442 (by decide) ?_
      have hz233 : Nx Xs (updA (updA (updA (updA (updA (updA (updA (updA (updA (updA (updA B 55 oc214) 56 os215) 57 om216) 58 oa210) 59 sn212) 60 cl211) 61 td213) 68 (upd (B 68) tp (nI r199))) 69 (upd (B 69) tp (nI b229))) 73 od208) 74 id209) gh nd T nm wr lz dc fd md pr bk M rmm fu (Phi gh ps op (rkN gh n9 false)) op (tp + 1) wn fu177 rd on200 idn201 fl202 ct203 en204 (nI n9) (0 : Int32) uc0 := (by obtain ⟨kp9, kp1, kp2⟩ := hR.2.2.2; rw [upd4]; exact MkQ.go hPg hR.hp hR.cf ⟨kp1, kp2⟩ hkd (by omega) (by omega) hs4 hs5 (by omega) h232 hmk (Sta.up (Sta.up (Sta.up (Sta.up (Sta.up (Sta.up (Sta.up (Sta.up (Sta.up (Sta.rfl) (by omega)) (by omega)) (by omega)) (by omega)) (by omega)) (by omega)) (by omega)) (by omega)) (by omega)) ⟨rfl, rfl, rfl⟩ ⟨rfl, rfl, rfl⟩ ⟨rfl, rfl, rfl, rfl, rfl⟩ rfl (MkQ.obj hPg hmk (Sta.up (Sta.up (Sta.up (Sta.up (Sta.up (Sta.up (Sta.up (Sta.up (Sta.up (Sta.rfl) (by omega)) (by omega)) (by omega)) (by omega)) (by omega)) (by omega)) (by omega)) (by omega)) (by omega)) hs2 hs3) h180)
      have hP : va_P G.1 pCl (mW G h0 a (upd (upd (upd (upd (upd (upd (upd (upd (upd (upd (upd (upd (upd (upd (upd (upd (upd (upd (upd (upd (upd (upd F 49 (nI md)) 85 (nI im)) 97 (nI ct203)) 98 (nI fl202)) 99 (nI rmm)) 101 tds205) 102 (nI op)) 111 (nI (tp + 1))) 115 (nI wn)) 116 en204) 117 (nI fu177)) 118 rs0) 119 uc0) 120 (nI rd)) 121 ma206) 122 mc207) 123 ca) 124 mo) 125 (nI n9)) 126 (0 : Int32)) 128 (nI on200)) 130 (nI idn201)) (updA (updA (updA (updA (updA (updA (updA (updA (updA (updA (updA B 55 oc214) 56 os215) 57 om216) 58 oa210) 59 sn212) 60 cl211) 61 td213) 68 (upd (B 68) tp (nI r199))) 69 (upd (B 69) tp (nI b229))) 73 od208) 74 id209)) _ := hP
      have hD : va_D A (mW G h0 a (upd (upd (upd (upd (upd (upd (upd (upd (upd (upd (upd (upd (upd (upd (upd (upd (upd (upd (upd (upd (upd (upd F 49 (nI md)) 85 (nI im)) 97 (nI ct203)) 98 (nI fl202)) 99 (nI rmm)) 101 tds205) 102 (nI op)) 111 (nI (tp + 1))) 115 (nI wn)) 116 en204) 117 (nI fu177)) 118 rs0) 119 uc0) 120 (nI rd)) 121 ma206) 122 mc207) 123 ca) 124 mo) 125 (nI n9)) 126 (0 : Int32)) 128 (nI on200)) 130 (nI idn201)) (updA (updA (updA (updA (updA (updA (updA (updA (updA (updA (updA B 55 oc214) 56 os215) 57 om216) 58 oa210) 59 sn212) 60 cl211) 61 td213) 68 (upd (B 68) tp (nI r199))) 69 (upd (B 69) tp (nI b229))) 73 od208) 74 id209)) := hD
      exact W.vret hx hb hr (fun t9 ht9 hW9 => ⟨⟨_, (op, (tp + 1), wn, fu177, en204, (nI n9), (0 : Int32), rs0, uc0, on200, idn201, fl202, ct203, tds205, ma206, mc207, ca, mo, rd, (updA (updA (updA (updA (updA (updA (updA (updA (updA (updA (updA B 55 oc214) 56 os215) 57 om216) 58 oa210) 59 sn212) 60 cl211) 61 td213) 68 (upd (B 68) tp (nI r199))) 69 (upd (B 69) tp (nI b229))) 73 od208) 74 id209)), rfl, ⟨rfl, hz233⟩, by rw [ht9]; exact hP, hD⟩, hS.F ht9⟩) hS.2.2 dX12_beginsNow_712
  · clear hn44 hkr hko
    refine lv_aload_n hx hb dX12_beginsNow_0 rfl (lv_at hl 0 rfl) ?_
    refine r_get (v := .ref (a 9)) hx hb hown hq hE hP 17 38 tFX12_17 (by decide) pw_1439 rfl dX12_beginsNow_1 ?_
    refine lv_iload_n hx hb dX12_beginsNow_4 rfl (lv_at hl 1 rfl) ?_
    refine r_ldi (f := (B 9)) (j := n9) hx hb hE hP 9 (ma_9 G a _) rfl (by omega) (by decide) dX12_beginsNow_5 ?_
    refine lv_topi (fun x234 e235 => ?_)
    obtain rfl : x234 = 10 := e235.trans ((congrFun hw9 _).trans hkd)
    refine lv_istore_n (lv' := [(2, .int 10), (0, .ref h0), (1, .int (nI n9))]) hx hb dX12_beginsNow_6 rfl hl (by decide) rfl (fun ls hl => ?_)
    refine lv_iload_n hx hb dX12_beginsNow_7 rfl (lv_at hl 0 rfl) ?_
    refine lv_bipush (v := 30) hx hb dX12_beginsNow_8 (by decide) ?_
    refine lv_icmp_lt (tgt := 41) hx hb dX12_beginsNow_10 (by decide) (fun c236 => ?_) (fun c236 => absurd c236 (by decide))
    refine lv_iload_n hx hb dX12_beginsNow_41 rfl (lv_at hl 0 rfl) ?_
    refine lv_tableIn (tgt := 701) (off := 659) hx hb dX12_beginsNow_42 (by decide) (by decide) (by decide) (by decide) ?_
    refine lv_aload_n hx hb dX12_beginsNow_701 rfl (lv_at hl 1 rfl) ?_
    refine lv_iload_n hx hb dX12_beginsNow_702 rfl (lv_at hl 2 rfl) ?_
    refine lv_aload_n hx hb dX12_beginsNow_703 rfl (lv_at hl 1 rfl) ?_
    refine r_get (v := .ref (a 12)) hx hb hown hq hE hP 20 47 tFX12_20 (by decide) pw_1442 rfl dX12_beginsNow_704 ?_
    refine lv_iload_n hx hb dX12_beginsNow_707 rfl (lv_at hl 2 rfl) ?_
    refine r_ldi (f := (B 12)) (j := n9) hx hb hE hP 12 (ma_12 G a _) rfl (by omega) (by decide) dX12_beginsNow_708 ?_
    obtain ⟨jc, hj1, -⟩ := hPg.fs.kid hrm.2.2.1 hkd (by omega) (s := 1) (by omega) (by omega) (by decide) (by omega)
    obtain ⟨j1, ha1, ha2, ha3⟩ := hR.bK (uc := uc0) hkd (by omega) (by decide) (by decide) (by decide) rfl rfl (by omega)
    have hP : va_P G.1 pCl (mW G h0 a (upd (upd (upd (upd (upd (upd (upd (upd (upd (upd (upd (upd (upd (upd (upd (upd (upd (upd (upd (upd (upd (upd F 49 (nI md)) 85 (nI im)) 97 (nI ct)) 98 (nI fl)) 99 (nI rmm)) 101 tds) 102 (nI op)) 111 (nI tp)) 115 (nI wn)) 116 (-1)) 117 (nI fu)) 118 rs0) 119 uc0) 120 (nI rd)) 121 ma0) 122 mc0) 123 ca) 124 mo) 125 nw) 126 isn) 128 (nI on)) 130 (nI idn)) B) _ := hP
    have hD : va_D A (mW G h0 a (upd (upd (upd (upd (upd (upd (upd (upd (upd (upd (upd (upd (upd (upd (upd (upd (upd (upd (upd (upd (upd (upd F 49 (nI md)) 85 (nI im)) 97 (nI ct)) 98 (nI fl)) 99 (nI rmm)) 101 tds) 102 (nI op)) 111 (nI tp)) 115 (nI wn)) 116 (-1)) 117 (nI fu)) 118 rs0) 119 uc0) 120 (nI rd)) 121 ma0) 122 mc0) 123 ca) 124 mo) 125 nw) 126 isn) 128 (nI on)) 130 (nI idn)) B) := hD
    refine pc_V0 (G := G) (As := [.int (nI n9), .int ((B 12) n9)]) (rest := []) hx hb hml hown hq hE hX pX0_al hP hD hS hA hl.1 (R_goesInto l G h0 a (upd (upd (upd (upd (upd (upd (upd (upd (upd (upd (upd (upd (upd (upd (upd (upd (upd (upd (upd (upd (upd (upd F 49 (nI md)) 85 (nI im)) 97 (nI ct)) 98 (nI fl)) 99 (nI rmm)) 101 tds) 102 (nI op)) 111 (nI tp)) 115 (nI wn)) 116 (-1)) 117 (nI fu)) 118 rs0) 119 uc0) 120 (nI rd)) 121 ma0) 122 mc0) 123 ca) 124 mo) 125 nw) 126 isn) 128 (nI on)) 130 (nI idn)) B (nI n9) ((B 12) n9)) (gV pw_2078 pw_2079 pw_2080 pw_1523 pw_2064) hV_X12_goesInto 0 9 rfl rfl rfl rfl (Nat.le_of_ble_eq_true rfl) dX12_beginsNow_709 ⟨Nat.le_of_ble_eq_true rfl, Nat.le_of_ble_eq_true rfl⟩ ⟨Nat.le_of_ble_eq_true rfl, Nat.le_of_ble_eq_true rfl⟩ (fun v239 u237 H locs hw238 hP hD hS => ?_)
    obtain ⟨nw240, is241⟩ := u237
    obtain ⟨hw238, h242, h243⟩ := hw238
    replace h242 : If (((B 12) n9) = -1) (nw240 = (nI n9) ∧ is241 = 0) := h242
    replace h243 : If (¬ ((B 12) n9) = -1) (nw240 = ((B 12) n9) ∧ is241 = 1) := h243
    obtain rfl : v239 = none := hw238
    have hP : va_P G.1 pCl (mW G h0 a (upd (upd (upd (upd (upd (upd (upd (upd (upd (upd (upd (upd (upd (upd (upd (upd (upd (upd (upd (upd (upd (upd F 49 (nI md)) 85 (nI im)) 97 (nI ct)) 98 (nI fl)) 99 (nI rmm)) 101 tds) 102 (nI op)) 111 (nI tp)) 115 (nI wn)) 116 (-1)) 117 (nI fu)) 118 rs0) 119 uc0) 120 (nI rd)) 121 ma0) 122 mc0) 123 ca) 124 mo) 125 nw240) 126 is241) 128 (nI on)) 130 (nI idn)) B) _ := hP
    have hD : va_D A (mW G h0 a (upd (upd (upd (upd (upd (upd (upd (upd (upd (upd (upd (upd (upd (upd (upd (upd (upd (upd (upd (upd (upd (upd F 49 (nI md)) 85 (nI im)) 97 (nI ct)) 98 (nI fl)) 99 (nI rmm)) 101 tds) 102 (nI op)) 111 (nI tp)) 115 (nI wn)) 116 (-1)) 117 (nI fu)) 118 rs0) 119 uc0) 120 (nI rd)) 121 ma0) 122 mc0) 123 ca) 124 mo) 125 nw240) 126 is241) 128 (nI on)) 130 (nI idn)) B) := hD
    refine W.widen (k := 0) (n := 0) (Nat.le_of_ble_eq_true rfl) (Nat.le_of_ble_eq_true rfl) ?_
    refine W.eq (g2 := F0 m 712 ls []) rfl ?_
    have hz244 : Nx Xs B gh nd T nm wr lz dc fd md pr bk M rmm fu (Phi gh ps op (rkN gh n9 false)) op tp wn fu rd on idn fl ct ((-1) : Int32) nw240 is241 uc0 := (by obtain ⟨y1, y2⟩ := h243 (by rw [hw12, ha1]; exact nI_m1 (by omega)); rw [y1, y2, hw12, ha1]; exact ha3)
    have hP : va_P G.1 pCl (mW G h0 a (upd (upd (upd (upd (upd (upd (upd (upd (upd (upd (upd (upd (upd (upd (upd (upd (upd (upd (upd (upd (upd (upd F 49 (nI md)) 85 (nI im)) 97 (nI ct)) 98 (nI fl)) 99 (nI rmm)) 101 tds) 102 (nI op)) 111 (nI tp)) 115 (nI wn)) 116 ((-1) : Int32)) 117 (nI fu)) 118 rs0) 119 uc0) 120 (nI rd)) 121 ma0) 122 mc0) 123 ca) 124 mo) 125 nw240) 126 is241) 128 (nI on)) 130 (nI idn)) B) _ := hP
    have hD : va_D A (mW G h0 a (upd (upd (upd (upd (upd (upd (upd (upd (upd (upd (upd (upd (upd (upd (upd (upd (upd (upd (upd (upd (upd (upd F 49 (nI md)) 85 (nI im)) 97 (nI ct)) 98 (nI fl)) 99 (nI rmm)) 101 tds) 102 (nI op)) 111 (nI tp)) 115 (nI wn)) 116 ((-1) : Int32)) 117 (nI fu)) 118 rs0) 119 uc0) 120 (nI rd)) 121 ma0) 122 mc0) 123 ca) 124 mo) 125 nw240) 126 is241) 128 (nI on)) 130 (nI idn)) B) := hD
    exact W.vret hx hb hr (fun t9 ht9 hW9 => ⟨⟨_, (op, tp, wn, fu, ((-1) : Int32), nw240, is241, rs0, uc0, on, idn, fl, ct, tds, ma0, mc0, ca, mo, rd, B), rfl, ⟨rfl, hz244⟩, by rw [ht9]; exact hP, hD⟩, hS.F ht9⟩) hS.2.2 dX12_beginsNow_712
  · clear hn44 hkr hko
    refine lv_aload_n hx hb dX12_beginsNow_0 rfl (lv_at hl 0 rfl) ?_
    refine r_get (v := .ref (a 9)) hx hb hown hq hE hP 17 38 tFX12_17 (by decide) pw_1439 rfl dX12_beginsNow_1 ?_
    refine lv_iload_n hx hb dX12_beginsNow_4 rfl (lv_at hl 1 rfl) ?_
    refine r_ldi (f := (B 9)) (j := n9) hx hb hE hP 9 (ma_9 G a _) rfl (by omega) (by decide) dX12_beginsNow_5 ?_
    refine lv_topi (fun x245 e246 => ?_)
    obtain rfl : x245 = 11 := e246.trans ((congrFun hw9 _).trans hkd)
    refine lv_istore_n (lv' := [(2, .int 11), (0, .ref h0), (1, .int (nI n9))]) hx hb dX12_beginsNow_6 rfl hl (by decide) rfl (fun ls hl => ?_)
    refine lv_iload_n hx hb dX12_beginsNow_7 rfl (lv_at hl 0 rfl) ?_
    refine lv_bipush (v := 30) hx hb dX12_beginsNow_8 (by decide) ?_
    refine lv_icmp_lt (tgt := 41) hx hb dX12_beginsNow_10 (by decide) (fun c247 => ?_) (fun c247 => absurd c247 (by decide))
    refine lv_iload_n hx hb dX12_beginsNow_41 rfl (lv_at hl 0 rfl) ?_
    refine lv_tableIn (tgt := 284) (off := 242) hx hb dX12_beginsNow_42 (by decide) (by decide) (by decide) (by decide) ?_
    obtain ⟨t9, ht1, ht2, ht3, ht4, ht5, ht6⟩ := hR.bNum hkd (by omega)
    have ht7 := ht5 (by omega) (by omega)
    clear ht5 ht6
    refine lv_aload_n hx hb dX12_beginsNow_284 rfl (lv_at hl 1 rfl) ?_
    refine lv_iload_n hx hb dX12_beginsNow_285 rfl (lv_at hl 2 rfl) ?_
    refine lv_aload_n hx hb dX12_beginsNow_286 rfl (lv_at hl 1 rfl) ?_
    refine r_get (v := .int (nI rd)) hx hb hown hq hE hP 120 769 tFX12_120 (by decide) pw_2065 rfl dX12_beginsNow_287 ?_
    refine lv_aload_n hx hb dX12_beginsNow_290 rfl (lv_at hl 1 rfl) ?_
    refine r_get (v := .int (nI im)) hx hb hown hq hE hP 85 689 tFX12_85 (by decide) pw_1961 rfl dX12_beginsNow_291 ?_
    refine lv_icmp_ge (tgt := 309) hx hb dX12_beginsNow_294 (by decide) (fun c248 => ?_) (fun c248 => ?_)
    · have n249 : im ≤ rd := (nI_leI (a := im) (b := rd) (by omega) (by omega)).mp c248
      refine lv_iconst (v := 0) hx hb dX12_beginsNow_309 (by decide) ?_
      have hP : va_P G.1 pCl (mW G h0 a (upd (upd (upd (upd (upd (upd (upd (upd (upd (upd (upd (upd (upd (upd (upd (upd (upd (upd (upd (upd (upd (upd (upd F 49 (nI md)) 85 (nI im)) 97 (nI ct)) 98 (nI fl)) 99 (nI rmm)) 101 tds) 102 (nI op)) 111 (nI tp)) 115 (nI wn)) 116 (-1)) 117 (nI fu)) 118 rs0) 119 uc0) 120 (nI rd)) 121 ma0) 122 mc0) 123 ca) 124 mo) 125 nw) 126 isn) 128 (nI on)) 130 (nI idn)) 111 (nI tp)) (updA (updA B 68 (B 68)) 69 (B 69))) _ := hP
      have hD : va_D A (mW G h0 a (upd (upd (upd (upd (upd (upd (upd (upd (upd (upd (upd (upd (upd (upd (upd (upd (upd (upd (upd (upd (upd (upd (upd F 49 (nI md)) 85 (nI im)) 97 (nI ct)) 98 (nI fl)) 99 (nI rmm)) 101 tds) 102 (nI op)) 111 (nI tp)) 115 (nI wn)) 116 (-1)) 117 (nI fu)) 118 rs0) 119 uc0) 120 (nI rd)) 121 ma0) 122 mc0) 123 ca) 124 mo) 125 nw) 126 isn) 128 (nI on)) 130 (nI idn)) 111 (nI tp)) (updA (updA B 68 (B 68)) 69 (B 69))) := hD
      refine pc_V0 (G := G) (As := [.int (nI n9), .int 0]) (rest := []) hx hb hml hown hq hE hX pX0_al hP hD hS hA hl.1 (R_gives l G h0 a (upd (upd (upd (upd (upd (upd (upd (upd (upd (upd (upd (upd (upd (upd (upd (upd (upd (upd (upd (upd (upd (upd F 49 (nI md)) 85 (nI im)) 97 (nI ct)) 98 (nI fl)) 99 (nI rmm)) 101 tds) 102 (nI op)) 111 (nI tp)) 115 (nI wn)) 116 (-1)) 117 (nI fu)) 118 rs0) 119 uc0) 120 (nI rd)) 121 ma0) 122 mc0) 123 ca) 124 mo) 125 nw) 126 isn) 128 (nI on)) 130 (nI idn)) B n9 t9 tp 0 (B 68) (B 69) (by omega) ht1 (by omega) (by omega)) (gV pw_2069 pw_2070 pw_2071 pw_1523 pw_2006) hV_X12_gives 0 9 rfl rfl rfl rfl (Nat.le_of_ble_eq_true rfl) dX12_beginsNow_310 ⟨Nat.le_of_ble_eq_true rfl, Nat.le_of_ble_eq_true rfl⟩ ⟨Nat.le_of_ble_eq_true rfl, Nat.le_of_ble_eq_true rfl⟩ (fun v252 u250 H locs hw251 hP hD hS => ?_)
      obtain ⟨b253, rf254⟩ := u250
      obtain ⟨hw251, h255, h256⟩ := hw251
      replace h255 : rf254 = upd (B 69) tp (nI b253) := h255
      replace h256 : b253 ≤ 1 ∧ 3 * b253 ≤ t9 ∧ t9 ≤ 2 + 9000 * b253 := h256
      obtain rfl : v252 = none := hw251
      have hP : va_P G.1 pCl (mW G h0 a (upd (upd (upd (upd (upd (upd (upd (upd (upd (upd (upd (upd (upd (upd (upd (upd (upd (upd (upd (upd (upd (upd F 49 (nI md)) 85 (nI im)) 97 (nI ct)) 98 (nI fl)) 99 (nI rmm)) 101 tds) 102 (nI op)) 111 (nI (tp + 1))) 115 (nI wn)) 116 (-1)) 117 (nI fu)) 118 rs0) 119 uc0) 120 (nI rd)) 121 ma0) 122 mc0) 123 ca) 124 mo) 125 (nI n9)) 126 0) 128 (nI on)) 130 (nI idn)) (updA (updA B 68 (upd (B 68) tp 0)) 69 rf254)) _ := hP
      have hD : va_D A (mW G h0 a (upd (upd (upd (upd (upd (upd (upd (upd (upd (upd (upd (upd (upd (upd (upd (upd (upd (upd (upd (upd (upd (upd F 49 (nI md)) 85 (nI im)) 97 (nI ct)) 98 (nI fl)) 99 (nI rmm)) 101 tds) 102 (nI op)) 111 (nI (tp + 1))) 115 (nI wn)) 116 (-1)) 117 (nI fu)) 118 rs0) 119 uc0) 120 (nI rd)) 121 ma0) 122 mc0) 123 ca) 124 mo) 125 (nI n9)) 126 0) 128 (nI on)) 130 (nI idn)) (updA (updA B 68 (upd (B 68) tp 0)) 69 rf254)) := hD
      refine W.widen (k := 0) (n := 0) (Nat.le_of_ble_eq_true rfl) (Nat.le_of_ble_eq_true rfl) ?_
      refine W.eq (g2 := F0 m 313 ls []) rfl ?_
      obtain rfl : rf254 = _ := h255
      have hP : va_P G.1 pCl (mW G h0 a (upd (upd (upd (upd (upd (upd (upd (upd (upd (upd (upd (upd (upd (upd (upd (upd (upd (upd (upd (upd (upd (upd F 49 (nI md)) 85 (nI im)) 97 (nI ct)) 98 (nI fl)) 99 (nI rmm)) 101 tds) 102 (nI op)) 111 (nI (tp + 1))) 115 (nI wn)) 116 (-1)) 117 (nI fu)) 118 rs0) 119 uc0) 120 (nI rd)) 121 ma0) 122 mc0) 123 ca) 124 mo) 125 (nI n9)) 126 0) 128 (nI on)) 130 (nI idn)) (updA (updA B 68 (upd (B 68) tp 0)) 69 (upd (B 69) tp (nI b253)))) _ := hP
      have hD : va_D A (mW G h0 a (upd (upd (upd (upd (upd (upd (upd (upd (upd (upd (upd (upd (upd (upd (upd (upd (upd (upd (upd (upd (upd (upd F 49 (nI md)) 85 (nI im)) 97 (nI ct)) 98 (nI fl)) 99 (nI rmm)) 101 tds) 102 (nI op)) 111 (nI (tp + 1))) 115 (nI wn)) 116 (-1)) 117 (nI fu)) 118 rs0) 119 uc0) 120 (nI rd)) 121 ma0) 122 mc0) 123 ca) 124 mo) 125 (nI n9)) 126 0) 128 (nI on)) 130 (nI idn)) (updA (updA B 68 (upd (B 68) tp 0)) 69 (upd (B 69) tp (nI b253)))) := hD
      refine lv_aload_n hx hb dX12_beginsNow_313 rfl (lv_at hl 1 rfl) ?_
      refine lv_dup hx hb dX12_beginsNow_314 rfl ?_
      refine r_get (v := .int (nI rd)) hx hb hown hq hE hP 120 769 tFX12_120 (by decide) pw_2065 rfl dX12_beginsNow_315 ?_
      refine lv_iconst (v := 1) hx hb dX12_beginsNow_318 (by decide) ?_
      refine lv_iadd hx hb dX12_beginsNow_319 ?_
      refine lv_topi (fun x257 e258 => ?_)
      obtain rfl : x257 = nI (rd + 1) := e258.trans (nI_add (rd) (1))
      refine r_put (v := (nI (rd + 1))) (ty := .int) hx hb hown hq hE hP hD hS 120 769 tFX12_120 (by decide) pw_2065 (by decide) rfl rfl (ms_120 a _ _) dX12_beginsNow_320 (fun H locs hP hD hS => ?_)
      refine lv_goto (tgt := 712) hx hb dX12_beginsNow_323 (by decide) ?_
      have hz259 : Nx Xs (updA (updA B 68 (upd (B 68) tp 0)) 69 (upd (B 69) tp (nI b253))) gh nd T nm wr lz dc fd md pr bk M rmm fu (Phi gh ps op (rkN gh n9 false)) op (tp + 1) wn fu (rd + 1) on idn fl ct ((-1) : Int32) (nI n9) (0 : Int32) uc0 := (hR.read hkd (by omega) (fun h => absurd h (by omega)) ht1 ht2 ht3 (VTd.num (by omega)) h256)
      have hP : va_P G.1 pCl (mW G h0 a (upd (upd (upd (upd (upd (upd (upd (upd (upd (upd (upd (upd (upd (upd (upd (upd (upd (upd (upd (upd (upd (upd F 49 (nI md)) 85 (nI im)) 97 (nI ct)) 98 (nI fl)) 99 (nI rmm)) 101 tds) 102 (nI op)) 111 (nI (tp + 1))) 115 (nI wn)) 116 ((-1) : Int32)) 117 (nI fu)) 118 rs0) 119 uc0) 120 (nI (rd + 1))) 121 ma0) 122 mc0) 123 ca) 124 mo) 125 (nI n9)) 126 (0 : Int32)) 128 (nI on)) 130 (nI idn)) (updA (updA B 68 (upd (B 68) tp 0)) 69 (upd (B 69) tp (nI b253)))) _ := hP
      have hD : va_D A (mW G h0 a (upd (upd (upd (upd (upd (upd (upd (upd (upd (upd (upd (upd (upd (upd (upd (upd (upd (upd (upd (upd (upd (upd F 49 (nI md)) 85 (nI im)) 97 (nI ct)) 98 (nI fl)) 99 (nI rmm)) 101 tds) 102 (nI op)) 111 (nI (tp + 1))) 115 (nI wn)) 116 ((-1) : Int32)) 117 (nI fu)) 118 rs0) 119 uc0) 120 (nI (rd + 1))) 121 ma0) 122 mc0) 123 ca) 124 mo) 125 (nI n9)) 126 (0 : Int32)) 128 (nI on)) 130 (nI idn)) (updA (updA B 68 (upd (B 68) tp 0)) 69 (upd (B 69) tp (nI b253)))) := hD
      exact W.vret hx hb hr (fun t9 ht9 hW9 => ⟨⟨_, (op, (tp + 1), wn, fu, ((-1) : Int32), (nI n9), (0 : Int32), rs0, uc0, on, idn, fl, ct, tds, ma0, mc0, ca, mo, (rd + 1), (updA (updA B 68 (upd (B 68) tp 0)) 69 (upd (B 69) tp (nI b253)))), rfl, ⟨rfl, hz259⟩, by rw [ht9]; exact hP, hD⟩, hS.F ht9⟩) hS.2.2 dX12_beginsNow_712
    · have n260 : ¬ (im ≤ rd) := fun h9 => c248 ((nI_leI (a := im) (b := rd) (by omega) (by omega)).mpr h9)
      refine lv_aload_n hx hb dX12_beginsNow_297 rfl (lv_at hl 1 rfl) ?_
      refine r_get (v := .ref (a 50)) hx hb hown hq hE hP 84 162 tFX12_84 (by decide) pw_1481 rfl dX12_beginsNow_298 ?_
      refine lv_aload_n hx hb dX12_beginsNow_301 rfl (lv_at hl 1 rfl) ?_
      refine r_get (v := .int (nI rd)) hx hb hown hq hE hP 120 769 tFX12_120 (by decide) pw_2065 rfl dX12_beginsNow_302 ?_
      refine r_ldi (f := (B 50)) (j := rd) hx hb hE hP 50 (ma_50 G a _) rfl (by omega) (by decide) dX12_beginsNow_305 ?_
      refine lv_goto (tgt := 310) hx hb dX12_beginsNow_306 (by decide) ?_
      have hP : va_P G.1 pCl (mW G h0 a (upd (upd (upd (upd (upd (upd (upd (upd (upd (upd (upd (upd (upd (upd (upd (upd (upd (upd (upd (upd (upd (upd (upd F 49 (nI md)) 85 (nI im)) 97 (nI ct)) 98 (nI fl)) 99 (nI rmm)) 101 tds) 102 (nI op)) 111 (nI tp)) 115 (nI wn)) 116 (-1)) 117 (nI fu)) 118 rs0) 119 uc0) 120 (nI rd)) 121 ma0) 122 mc0) 123 ca) 124 mo) 125 nw) 126 isn) 128 (nI on)) 130 (nI idn)) 111 (nI tp)) (updA (updA B 68 (B 68)) 69 (B 69))) _ := hP
      have hD : va_D A (mW G h0 a (upd (upd (upd (upd (upd (upd (upd (upd (upd (upd (upd (upd (upd (upd (upd (upd (upd (upd (upd (upd (upd (upd (upd F 49 (nI md)) 85 (nI im)) 97 (nI ct)) 98 (nI fl)) 99 (nI rmm)) 101 tds) 102 (nI op)) 111 (nI tp)) 115 (nI wn)) 116 (-1)) 117 (nI fu)) 118 rs0) 119 uc0) 120 (nI rd)) 121 ma0) 122 mc0) 123 ca) 124 mo) 125 nw) 126 isn) 128 (nI on)) 130 (nI idn)) 111 (nI tp)) (updA (updA B 68 (B 68)) 69 (B 69))) := hD
      refine pc_V0 (G := G) (As := [.int (nI n9), .int ((B 50) rd)]) (rest := []) hx hb hml hown hq hE hX pX0_al hP hD hS hA hl.1 (R_gives l G h0 a (upd (upd (upd (upd (upd (upd (upd (upd (upd (upd (upd (upd (upd (upd (upd (upd (upd (upd (upd (upd (upd (upd F 49 (nI md)) 85 (nI im)) 97 (nI ct)) 98 (nI fl)) 99 (nI rmm)) 101 tds) 102 (nI op)) 111 (nI tp)) 115 (nI wn)) 116 (-1)) 117 (nI fu)) 118 rs0) 119 uc0) 120 (nI rd)) 121 ma0) 122 mc0) 123 ca) 124 mo) 125 nw) 126 isn) 128 (nI on)) 130 (nI idn)) B n9 t9 tp ((B 50) rd) (B 68) (B 69) (by omega) ht1 (by omega) (by omega)) (gV pw_2069 pw_2070 pw_2071 pw_1523 pw_2006) hV_X12_gives 0 9 rfl rfl rfl rfl (Nat.le_of_ble_eq_true rfl) dX12_beginsNow_310 ⟨Nat.le_of_ble_eq_true rfl, Nat.le_of_ble_eq_true rfl⟩ ⟨Nat.le_of_ble_eq_true rfl, Nat.le_of_ble_eq_true rfl⟩ (fun v263 u261 H locs hw262 hP hD hS => ?_)
      obtain ⟨b264, rf265⟩ := u261
      obtain ⟨hw262, h266, h267⟩ := hw262
      replace h266 : rf265 = upd (B 69) tp (nI b264) := h266
      replace h267 : b264 ≤ 1 ∧ 3 * b264 ≤ t9 ∧ t9 ≤ 2 + 9000 * b264 := h267
      obtain rfl : v263 = none := hw262
      have hP : va_P G.1 pCl (mW G h0 a (upd (upd (upd (upd (upd (upd (upd (upd (upd (upd (upd (upd (upd (upd (upd (upd (upd (upd (upd (upd (upd (upd F 49 (nI md)) 85 (nI im)) 97 (nI ct)) 98 (nI fl)) 99 (nI rmm)) 101 tds) 102 (nI op)) 111 (nI (tp + 1))) 115 (nI wn)) 116 (-1)) 117 (nI fu)) 118 rs0) 119 uc0) 120 (nI rd)) 121 ma0) 122 mc0) 123 ca) 124 mo) 125 (nI n9)) 126 0) 128 (nI on)) 130 (nI idn)) (updA (updA B 68 (upd (B 68) tp ((B 50) rd))) 69 rf265)) _ := hP
      have hD : va_D A (mW G h0 a (upd (upd (upd (upd (upd (upd (upd (upd (upd (upd (upd (upd (upd (upd (upd (upd (upd (upd (upd (upd (upd (upd F 49 (nI md)) 85 (nI im)) 97 (nI ct)) 98 (nI fl)) 99 (nI rmm)) 101 tds) 102 (nI op)) 111 (nI (tp + 1))) 115 (nI wn)) 116 (-1)) 117 (nI fu)) 118 rs0) 119 uc0) 120 (nI rd)) 121 ma0) 122 mc0) 123 ca) 124 mo) 125 (nI n9)) 126 0) 128 (nI on)) 130 (nI idn)) (updA (updA B 68 (upd (B 68) tp ((B 50) rd))) 69 rf265)) := hD
      refine W.widen (k := 0) (n := 0) (Nat.le_of_ble_eq_true rfl) (Nat.le_of_ble_eq_true rfl) ?_
      refine W.eq (g2 := F0 m 313 ls []) rfl ?_
      obtain rfl : rf265 = _ := h266
      have hP : va_P G.1 pCl (mW G h0 a (upd (upd (upd (upd (upd (upd (upd (upd (upd (upd (upd (upd (upd (upd (upd (upd (upd (upd (upd (upd (upd (upd F 49 (nI md)) 85 (nI im)) 97 (nI ct)) 98 (nI fl)) 99 (nI rmm)) 101 tds) 102 (nI op)) 111 (nI (tp + 1))) 115 (nI wn)) 116 (-1)) 117 (nI fu)) 118 rs0) 119 uc0) 120 (nI rd)) 121 ma0) 122 mc0) 123 ca) 124 mo) 125 (nI n9)) 126 0) 128 (nI on)) 130 (nI idn)) (updA (updA B 68 (upd (B 68) tp ((B 50) rd))) 69 (upd (B 69) tp (nI b264)))) _ := hP
      have hD : va_D A (mW G h0 a (upd (upd (upd (upd (upd (upd (upd (upd (upd (upd (upd (upd (upd (upd (upd (upd (upd (upd (upd (upd (upd (upd F 49 (nI md)) 85 (nI im)) 97 (nI ct)) 98 (nI fl)) 99 (nI rmm)) 101 tds) 102 (nI op)) 111 (nI (tp + 1))) 115 (nI wn)) 116 (-1)) 117 (nI fu)) 118 rs0) 119 uc0) 120 (nI rd)) 121 ma0) 122 mc0) 123 ca) 124 mo) 125 (nI n9)) 126 0) 128 (nI on)) 130 (nI idn)) (updA (updA B 68 (upd (B 68) tp ((B 50) rd))) 69 (upd (B 69) tp (nI b264)))) := hD
      refine lv_aload_n hx hb dX12_beginsNow_313 rfl (lv_at hl 1 rfl) ?_
      refine lv_dup hx hb dX12_beginsNow_314 rfl ?_
      refine r_get (v := .int (nI rd)) hx hb hown hq hE hP 120 769 tFX12_120 (by decide) pw_2065 rfl dX12_beginsNow_315 ?_
      refine lv_iconst (v := 1) hx hb dX12_beginsNow_318 (by decide) ?_
      refine lv_iadd hx hb dX12_beginsNow_319 ?_
      refine lv_topi (fun x268 e269 => ?_)
      obtain rfl : x268 = nI (rd + 1) := e269.trans (nI_add (rd) (1))
      refine r_put (v := (nI (rd + 1))) (ty := .int) hx hb hown hq hE hP hD hS 120 769 tFX12_120 (by decide) pw_2065 (by decide) rfl rfl (ms_120 a _ _) dX12_beginsNow_320 (fun H locs hP hD hS => ?_)
      refine lv_goto (tgt := 712) hx hb dX12_beginsNow_323 (by decide) ?_
      have hz270 : Nx Xs (updA (updA B 68 (upd (B 68) tp ((B 50) rd))) 69 (upd (B 69) tp (nI b264))) gh nd T nm wr lz dc fd md pr bk M rmm fu (Phi gh ps op (rkN gh n9 false)) op (tp + 1) wn fu (rd + 1) on idn fl ct ((-1) : Int32) (nI n9) (0 : Int32) uc0 := (hR.read hkd (by omega) (fun h => absurd h (by omega)) ht1 ht2 ht3 (VTd.num (by omega)) h267)
      have hP : va_P G.1 pCl (mW G h0 a (upd (upd (upd (upd (upd (upd (upd (upd (upd (upd (upd (upd (upd (upd (upd (upd (upd (upd (upd (upd (upd (upd F 49 (nI md)) 85 (nI im)) 97 (nI ct)) 98 (nI fl)) 99 (nI rmm)) 101 tds) 102 (nI op)) 111 (nI (tp + 1))) 115 (nI wn)) 116 ((-1) : Int32)) 117 (nI fu)) 118 rs0) 119 uc0) 120 (nI (rd + 1))) 121 ma0) 122 mc0) 123 ca) 124 mo) 125 (nI n9)) 126 (0 : Int32)) 128 (nI on)) 130 (nI idn)) (updA (updA B 68 (upd (B 68) tp ((B 50) rd))) 69 (upd (B 69) tp (nI b264)))) _ := hP
      have hD : va_D A (mW G h0 a (upd (upd (upd (upd (upd (upd (upd (upd (upd (upd (upd (upd (upd (upd (upd (upd (upd (upd (upd (upd (upd (upd F 49 (nI md)) 85 (nI im)) 97 (nI ct)) 98 (nI fl)) 99 (nI rmm)) 101 tds) 102 (nI op)) 111 (nI (tp + 1))) 115 (nI wn)) 116 ((-1) : Int32)) 117 (nI fu)) 118 rs0) 119 uc0) 120 (nI (rd + 1))) 121 ma0) 122 mc0) 123 ca) 124 mo) 125 (nI n9)) 126 (0 : Int32)) 128 (nI on)) 130 (nI idn)) (updA (updA B 68 (upd (B 68) tp ((B 50) rd))) 69 (upd (B 69) tp (nI b264)))) := hD
      exact W.vret hx hb hr (fun t9 ht9 hW9 => ⟨⟨_, (op, (tp + 1), wn, fu, ((-1) : Int32), (nI n9), (0 : Int32), rs0, uc0, on, idn, fl, ct, tds, ma0, mc0, ca, mo, (rd + 1), (updA (updA B 68 (upd (B 68) tp ((B 50) rd))) 69 (upd (B 69) tp (nI b264)))), rfl, ⟨rfl, hz270⟩, by rw [ht9]; exact hP, hD⟩, hS.F ht9⟩) hS.2.2 dX12_beginsNow_712
  · clear hn44 hkr hko
    refine lv_aload_n hx hb dX12_beginsNow_0 rfl (lv_at hl 0 rfl) ?_
    refine r_get (v := .ref (a 9)) hx hb hown hq hE hP 17 38 tFX12_17 (by decide) pw_1439 rfl dX12_beginsNow_1 ?_
    refine lv_iload_n hx hb dX12_beginsNow_4 rfl (lv_at hl 1 rfl) ?_
    refine r_ldi (f := (B 9)) (j := n9) hx hb hE hP 9 (ma_9 G a _) rfl (by omega) (by decide) dX12_beginsNow_5 ?_
    refine lv_topi (fun x271 e272 => ?_)
    obtain rfl : x271 = 12 := e272.trans ((congrFun hw9 _).trans hkd)
    refine lv_istore_n (lv' := [(2, .int 12), (0, .ref h0), (1, .int (nI n9))]) hx hb dX12_beginsNow_6 rfl hl (by decide) rfl (fun ls hl => ?_)
    refine lv_iload_n hx hb dX12_beginsNow_7 rfl (lv_at hl 0 rfl) ?_
    refine lv_bipush (v := 30) hx hb dX12_beginsNow_8 (by decide) ?_
    refine lv_icmp_lt (tgt := 41) hx hb dX12_beginsNow_10 (by decide) (fun c273 => ?_) (fun c273 => absurd c273 (by decide))
    refine lv_iload_n hx hb dX12_beginsNow_41 rfl (lv_at hl 0 rfl) ?_
    refine lv_tableIn (tgt := 701) (off := 659) hx hb dX12_beginsNow_42 (by decide) (by decide) (by decide) (by decide) ?_
    refine lv_aload_n hx hb dX12_beginsNow_701 rfl (lv_at hl 1 rfl) ?_
    refine lv_iload_n hx hb dX12_beginsNow_702 rfl (lv_at hl 2 rfl) ?_
    refine lv_aload_n hx hb dX12_beginsNow_703 rfl (lv_at hl 1 rfl) ?_
    refine r_get (v := .ref (a 12)) hx hb hown hq hE hP 20 47 tFX12_20 (by decide) pw_1442 rfl dX12_beginsNow_704 ?_
    refine lv_iload_n hx hb dX12_beginsNow_707 rfl (lv_at hl 2 rfl) ?_
    refine r_ldi (f := (B 12)) (j := n9) hx hb hE hP 12 (ma_12 G a _) rfl (by omega) (by decide) dX12_beginsNow_708 ?_
    obtain ⟨jc, hj1, -⟩ := hPg.fs.kid hrm.2.2.1 hkd (by omega) (s := 1) (by omega) (by omega) (by decide) (by omega)
    obtain ⟨j1, ha1, ha2, ha3⟩ := hR.bK (uc := uc0) hkd (by omega) (by decide) (by decide) (by decide) rfl rfl (by omega)
    have hP : va_P G.1 pCl (mW G h0 a (upd (upd (upd (upd (upd (upd (upd (upd (upd (upd (upd (upd (upd (upd (upd (upd (upd (upd (upd (upd (upd (upd F 49 (nI md)) 85 (nI im)) 97 (nI ct)) 98 (nI fl)) 99 (nI rmm)) 101 tds) 102 (nI op)) 111 (nI tp)) 115 (nI wn)) 116 (-1)) 117 (nI fu)) 118 rs0) 119 uc0) 120 (nI rd)) 121 ma0) 122 mc0) 123 ca) 124 mo) 125 nw) 126 isn) 128 (nI on)) 130 (nI idn)) B) _ := hP
    have hD : va_D A (mW G h0 a (upd (upd (upd (upd (upd (upd (upd (upd (upd (upd (upd (upd (upd (upd (upd (upd (upd (upd (upd (upd (upd (upd F 49 (nI md)) 85 (nI im)) 97 (nI ct)) 98 (nI fl)) 99 (nI rmm)) 101 tds) 102 (nI op)) 111 (nI tp)) 115 (nI wn)) 116 (-1)) 117 (nI fu)) 118 rs0) 119 uc0) 120 (nI rd)) 121 ma0) 122 mc0) 123 ca) 124 mo) 125 nw) 126 isn) 128 (nI on)) 130 (nI idn)) B) := hD
    refine pc_V0 (G := G) (As := [.int (nI n9), .int ((B 12) n9)]) (rest := []) hx hb hml hown hq hE hX pX0_al hP hD hS hA hl.1 (R_goesInto l G h0 a (upd (upd (upd (upd (upd (upd (upd (upd (upd (upd (upd (upd (upd (upd (upd (upd (upd (upd (upd (upd (upd (upd F 49 (nI md)) 85 (nI im)) 97 (nI ct)) 98 (nI fl)) 99 (nI rmm)) 101 tds) 102 (nI op)) 111 (nI tp)) 115 (nI wn)) 116 (-1)) 117 (nI fu)) 118 rs0) 119 uc0) 120 (nI rd)) 121 ma0) 122 mc0) 123 ca) 124 mo) 125 nw) 126 isn) 128 (nI on)) 130 (nI idn)) B (nI n9) ((B 12) n9)) (gV pw_2078 pw_2079 pw_2080 pw_1523 pw_2064) hV_X12_goesInto 0 9 rfl rfl rfl rfl (Nat.le_of_ble_eq_true rfl) dX12_beginsNow_709 ⟨Nat.le_of_ble_eq_true rfl, Nat.le_of_ble_eq_true rfl⟩ ⟨Nat.le_of_ble_eq_true rfl, Nat.le_of_ble_eq_true rfl⟩ (fun v276 u274 H locs hw275 hP hD hS => ?_)
    obtain ⟨nw277, is278⟩ := u274
    obtain ⟨hw275, h279, h280⟩ := hw275
    replace h279 : If (((B 12) n9) = -1) (nw277 = (nI n9) ∧ is278 = 0) := h279
    replace h280 : If (¬ ((B 12) n9) = -1) (nw277 = ((B 12) n9) ∧ is278 = 1) := h280
    obtain rfl : v276 = none := hw275
    have hP : va_P G.1 pCl (mW G h0 a (upd (upd (upd (upd (upd (upd (upd (upd (upd (upd (upd (upd (upd (upd (upd (upd (upd (upd (upd (upd (upd (upd F 49 (nI md)) 85 (nI im)) 97 (nI ct)) 98 (nI fl)) 99 (nI rmm)) 101 tds) 102 (nI op)) 111 (nI tp)) 115 (nI wn)) 116 (-1)) 117 (nI fu)) 118 rs0) 119 uc0) 120 (nI rd)) 121 ma0) 122 mc0) 123 ca) 124 mo) 125 nw277) 126 is278) 128 (nI on)) 130 (nI idn)) B) _ := hP
    have hD : va_D A (mW G h0 a (upd (upd (upd (upd (upd (upd (upd (upd (upd (upd (upd (upd (upd (upd (upd (upd (upd (upd (upd (upd (upd (upd F 49 (nI md)) 85 (nI im)) 97 (nI ct)) 98 (nI fl)) 99 (nI rmm)) 101 tds) 102 (nI op)) 111 (nI tp)) 115 (nI wn)) 116 (-1)) 117 (nI fu)) 118 rs0) 119 uc0) 120 (nI rd)) 121 ma0) 122 mc0) 123 ca) 124 mo) 125 nw277) 126 is278) 128 (nI on)) 130 (nI idn)) B) := hD
    refine W.widen (k := 0) (n := 0) (Nat.le_of_ble_eq_true rfl) (Nat.le_of_ble_eq_true rfl) ?_
    refine W.eq (g2 := F0 m 712 ls []) rfl ?_
    have hz281 : Nx Xs B gh nd T nm wr lz dc fd md pr bk M rmm fu (Phi gh ps op (rkN gh n9 false)) op tp wn fu rd on idn fl ct ((-1) : Int32) nw277 is278 uc0 := (by obtain ⟨y1, y2⟩ := h280 (by rw [hw12, ha1]; exact nI_m1 (by omega)); rw [y1, y2, hw12, ha1]; exact ha3)
    have hP : va_P G.1 pCl (mW G h0 a (upd (upd (upd (upd (upd (upd (upd (upd (upd (upd (upd (upd (upd (upd (upd (upd (upd (upd (upd (upd (upd (upd F 49 (nI md)) 85 (nI im)) 97 (nI ct)) 98 (nI fl)) 99 (nI rmm)) 101 tds) 102 (nI op)) 111 (nI tp)) 115 (nI wn)) 116 ((-1) : Int32)) 117 (nI fu)) 118 rs0) 119 uc0) 120 (nI rd)) 121 ma0) 122 mc0) 123 ca) 124 mo) 125 nw277) 126 is278) 128 (nI on)) 130 (nI idn)) B) _ := hP
    have hD : va_D A (mW G h0 a (upd (upd (upd (upd (upd (upd (upd (upd (upd (upd (upd (upd (upd (upd (upd (upd (upd (upd (upd (upd (upd (upd F 49 (nI md)) 85 (nI im)) 97 (nI ct)) 98 (nI fl)) 99 (nI rmm)) 101 tds) 102 (nI op)) 111 (nI tp)) 115 (nI wn)) 116 ((-1) : Int32)) 117 (nI fu)) 118 rs0) 119 uc0) 120 (nI rd)) 121 ma0) 122 mc0) 123 ca) 124 mo) 125 nw277) 126 is278) 128 (nI on)) 130 (nI idn)) B) := hD
    exact W.vret hx hb hr (fun t9 ht9 hW9 => ⟨⟨_, (op, tp, wn, fu, ((-1) : Int32), nw277, is278, rs0, uc0, on, idn, fl, ct, tds, ma0, mc0, ca, mo, rd, B), rfl, ⟨rfl, hz281⟩, by rw [ht9]; exact hP, hD⟩, hS.F ht9⟩) hS.2.2 dX12_beginsNow_712
  · clear hn44 hkr hko
    refine lv_aload_n hx hb dX12_beginsNow_0 rfl (lv_at hl 0 rfl) ?_
    refine r_get (v := .ref (a 9)) hx hb hown hq hE hP 17 38 tFX12_17 (by decide) pw_1439 rfl dX12_beginsNow_1 ?_
    refine lv_iload_n hx hb dX12_beginsNow_4 rfl (lv_at hl 1 rfl) ?_
    refine r_ldi (f := (B 9)) (j := n9) hx hb hE hP 9 (ma_9 G a _) rfl (by omega) (by decide) dX12_beginsNow_5 ?_
    refine lv_topi (fun x282 e283 => ?_)
    obtain rfl : x282 = 13 := e283.trans ((congrFun hw9 _).trans hkd)
    refine lv_istore_n (lv' := [(2, .int 13), (0, .ref h0), (1, .int (nI n9))]) hx hb dX12_beginsNow_6 rfl hl (by decide) rfl (fun ls hl => ?_)
    refine lv_iload_n hx hb dX12_beginsNow_7 rfl (lv_at hl 0 rfl) ?_
    refine lv_bipush (v := 30) hx hb dX12_beginsNow_8 (by decide) ?_
    refine lv_icmp_lt (tgt := 41) hx hb dX12_beginsNow_10 (by decide) (fun c284 => ?_) (fun c284 => absurd c284 (by decide))
    refine lv_iload_n hx hb dX12_beginsNow_41 rfl (lv_at hl 0 rfl) ?_
    refine lv_tableIn (tgt := 701) (off := 659) hx hb dX12_beginsNow_42 (by decide) (by decide) (by decide) (by decide) ?_
    refine lv_aload_n hx hb dX12_beginsNow_701 rfl (lv_at hl 1 rfl) ?_
    refine lv_iload_n hx hb dX12_beginsNow_702 rfl (lv_at hl 2 rfl) ?_
    refine lv_aload_n hx hb dX12_beginsNow_703 rfl (lv_at hl 1 rfl) ?_
    refine r_get (v := .ref (a 12)) hx hb hown hq hE hP 20 47 tFX12_20 (by decide) pw_1442 rfl dX12_beginsNow_704 ?_
    refine lv_iload_n hx hb dX12_beginsNow_707 rfl (lv_at hl 2 rfl) ?_
    refine r_ldi (f := (B 12)) (j := n9) hx hb hE hP 12 (ma_12 G a _) rfl (by omega) (by decide) dX12_beginsNow_708 ?_
    obtain ⟨jc, hj1, -⟩ := hPg.fs.kid hrm.2.2.1 hkd (by omega) (s := 1) (by omega) (by omega) (by decide) (by omega)
    obtain ⟨j1, ha1, ha2, ha3⟩ := hR.bK (uc := uc0) hkd (by omega) (by decide) (by decide) (by decide) rfl rfl (by omega)
    have hP : va_P G.1 pCl (mW G h0 a (upd (upd (upd (upd (upd (upd (upd (upd (upd (upd (upd (upd (upd (upd (upd (upd (upd (upd (upd (upd (upd (upd F 49 (nI md)) 85 (nI im)) 97 (nI ct)) 98 (nI fl)) 99 (nI rmm)) 101 tds) 102 (nI op)) 111 (nI tp)) 115 (nI wn)) 116 (-1)) 117 (nI fu)) 118 rs0) 119 uc0) 120 (nI rd)) 121 ma0) 122 mc0) 123 ca) 124 mo) 125 nw) 126 isn) 128 (nI on)) 130 (nI idn)) B) _ := hP
    have hD : va_D A (mW G h0 a (upd (upd (upd (upd (upd (upd (upd (upd (upd (upd (upd (upd (upd (upd (upd (upd (upd (upd (upd (upd (upd (upd F 49 (nI md)) 85 (nI im)) 97 (nI ct)) 98 (nI fl)) 99 (nI rmm)) 101 tds) 102 (nI op)) 111 (nI tp)) 115 (nI wn)) 116 (-1)) 117 (nI fu)) 118 rs0) 119 uc0) 120 (nI rd)) 121 ma0) 122 mc0) 123 ca) 124 mo) 125 nw) 126 isn) 128 (nI on)) 130 (nI idn)) B) := hD
    refine pc_V0 (G := G) (As := [.int (nI n9), .int ((B 12) n9)]) (rest := []) hx hb hml hown hq hE hX pX0_al hP hD hS hA hl.1 (R_goesInto l G h0 a (upd (upd (upd (upd (upd (upd (upd (upd (upd (upd (upd (upd (upd (upd (upd (upd (upd (upd (upd (upd (upd (upd F 49 (nI md)) 85 (nI im)) 97 (nI ct)) 98 (nI fl)) 99 (nI rmm)) 101 tds) 102 (nI op)) 111 (nI tp)) 115 (nI wn)) 116 (-1)) 117 (nI fu)) 118 rs0) 119 uc0) 120 (nI rd)) 121 ma0) 122 mc0) 123 ca) 124 mo) 125 nw) 126 isn) 128 (nI on)) 130 (nI idn)) B (nI n9) ((B 12) n9)) (gV pw_2078 pw_2079 pw_2080 pw_1523 pw_2064) hV_X12_goesInto 0 9 rfl rfl rfl rfl (Nat.le_of_ble_eq_true rfl) dX12_beginsNow_709 ⟨Nat.le_of_ble_eq_true rfl, Nat.le_of_ble_eq_true rfl⟩ ⟨Nat.le_of_ble_eq_true rfl, Nat.le_of_ble_eq_true rfl⟩ (fun v287 u285 H locs hw286 hP hD hS => ?_)
    obtain ⟨nw288, is289⟩ := u285
    obtain ⟨hw286, h290, h291⟩ := hw286
    replace h290 : If (((B 12) n9) = -1) (nw288 = (nI n9) ∧ is289 = 0) := h290
    replace h291 : If (¬ ((B 12) n9) = -1) (nw288 = ((B 12) n9) ∧ is289 = 1) := h291
    obtain rfl : v287 = none := hw286
    have hP : va_P G.1 pCl (mW G h0 a (upd (upd (upd (upd (upd (upd (upd (upd (upd (upd (upd (upd (upd (upd (upd (upd (upd (upd (upd (upd (upd (upd F 49 (nI md)) 85 (nI im)) 97 (nI ct)) 98 (nI fl)) 99 (nI rmm)) 101 tds) 102 (nI op)) 111 (nI tp)) 115 (nI wn)) 116 (-1)) 117 (nI fu)) 118 rs0) 119 uc0) 120 (nI rd)) 121 ma0) 122 mc0) 123 ca) 124 mo) 125 nw288) 126 is289) 128 (nI on)) 130 (nI idn)) B) _ := hP
    have hD : va_D A (mW G h0 a (upd (upd (upd (upd (upd (upd (upd (upd (upd (upd (upd (upd (upd (upd (upd (upd (upd (upd (upd (upd (upd (upd F 49 (nI md)) 85 (nI im)) 97 (nI ct)) 98 (nI fl)) 99 (nI rmm)) 101 tds) 102 (nI op)) 111 (nI tp)) 115 (nI wn)) 116 (-1)) 117 (nI fu)) 118 rs0) 119 uc0) 120 (nI rd)) 121 ma0) 122 mc0) 123 ca) 124 mo) 125 nw288) 126 is289) 128 (nI on)) 130 (nI idn)) B) := hD
    refine W.widen (k := 0) (n := 0) (Nat.le_of_ble_eq_true rfl) (Nat.le_of_ble_eq_true rfl) ?_
    refine W.eq (g2 := F0 m 712 ls []) rfl ?_
    have hz292 : Nx Xs B gh nd T nm wr lz dc fd md pr bk M rmm fu (Phi gh ps op (rkN gh n9 false)) op tp wn fu rd on idn fl ct ((-1) : Int32) nw288 is289 uc0 := (by obtain ⟨y1, y2⟩ := h291 (by rw [hw12, ha1]; exact nI_m1 (by omega)); rw [y1, y2, hw12, ha1]; exact ha3)
    have hP : va_P G.1 pCl (mW G h0 a (upd (upd (upd (upd (upd (upd (upd (upd (upd (upd (upd (upd (upd (upd (upd (upd (upd (upd (upd (upd (upd (upd F 49 (nI md)) 85 (nI im)) 97 (nI ct)) 98 (nI fl)) 99 (nI rmm)) 101 tds) 102 (nI op)) 111 (nI tp)) 115 (nI wn)) 116 ((-1) : Int32)) 117 (nI fu)) 118 rs0) 119 uc0) 120 (nI rd)) 121 ma0) 122 mc0) 123 ca) 124 mo) 125 nw288) 126 is289) 128 (nI on)) 130 (nI idn)) B) _ := hP
    have hD : va_D A (mW G h0 a (upd (upd (upd (upd (upd (upd (upd (upd (upd (upd (upd (upd (upd (upd (upd (upd (upd (upd (upd (upd (upd (upd F 49 (nI md)) 85 (nI im)) 97 (nI ct)) 98 (nI fl)) 99 (nI rmm)) 101 tds) 102 (nI op)) 111 (nI tp)) 115 (nI wn)) 116 ((-1) : Int32)) 117 (nI fu)) 118 rs0) 119 uc0) 120 (nI rd)) 121 ma0) 122 mc0) 123 ca) 124 mo) 125 nw288) 126 is289) 128 (nI on)) 130 (nI idn)) B) := hD
    exact W.vret hx hb hr (fun t9 ht9 hW9 => ⟨⟨_, (op, tp, wn, fu, ((-1) : Int32), nw288, is289, rs0, uc0, on, idn, fl, ct, tds, ma0, mc0, ca, mo, rd, B), rfl, ⟨rfl, hz292⟩, by rw [ht9]; exact hP, hD⟩, hS.F ht9⟩) hS.2.2 dX12_beginsNow_712
  · clear hn44 hkr hko
    refine lv_aload_n hx hb dX12_beginsNow_0 rfl (lv_at hl 0 rfl) ?_
    refine r_get (v := .ref (a 9)) hx hb hown hq hE hP 17 38 tFX12_17 (by decide) pw_1439 rfl dX12_beginsNow_1 ?_
    refine lv_iload_n hx hb dX12_beginsNow_4 rfl (lv_at hl 1 rfl) ?_
    refine r_ldi (f := (B 9)) (j := n9) hx hb hE hP 9 (ma_9 G a _) rfl (by omega) (by decide) dX12_beginsNow_5 ?_
    refine lv_topi (fun x293 e294 => ?_)
    obtain rfl : x293 = 14 := e294.trans ((congrFun hw9 _).trans hkd)
    refine lv_istore_n (lv' := [(2, .int 14), (0, .ref h0), (1, .int (nI n9))]) hx hb dX12_beginsNow_6 rfl hl (by decide) rfl (fun ls hl => ?_)
    refine lv_iload_n hx hb dX12_beginsNow_7 rfl (lv_at hl 0 rfl) ?_
    refine lv_bipush (v := 30) hx hb dX12_beginsNow_8 (by decide) ?_
    refine lv_icmp_lt (tgt := 41) hx hb dX12_beginsNow_10 (by decide) (fun c295 => ?_) (fun c295 => absurd c295 (by decide))
    refine lv_iload_n hx hb dX12_beginsNow_41 rfl (lv_at hl 0 rfl) ?_
    refine lv_tableIn (tgt := 701) (off := 659) hx hb dX12_beginsNow_42 (by decide) (by decide) (by decide) (by decide) ?_
    refine lv_aload_n hx hb dX12_beginsNow_701 rfl (lv_at hl 1 rfl) ?_
    refine lv_iload_n hx hb dX12_beginsNow_702 rfl (lv_at hl 2 rfl) ?_
    refine lv_aload_n hx hb dX12_beginsNow_703 rfl (lv_at hl 1 rfl) ?_
    refine r_get (v := .ref (a 12)) hx hb hown hq hE hP 20 47 tFX12_20 (by decide) pw_1442 rfl dX12_beginsNow_704 ?_
    refine lv_iload_n hx hb dX12_beginsNow_707 rfl (lv_at hl 2 rfl) ?_
    refine r_ldi (f := (B 12)) (j := n9) hx hb hE hP 12 (ma_12 G a _) rfl (by omega) (by decide) dX12_beginsNow_708 ?_
    obtain ⟨jc, hj1, -⟩ := hPg.fs.kid hrm.2.2.1 hkd (by omega) (s := 1) (by omega) (by omega) (by decide) (by omega)
    obtain ⟨j1, ha1, ha2, ha3⟩ := hR.bK (uc := uc0) hkd (by omega) (by decide) (by decide) (by decide) rfl rfl (by omega)
    have hP : va_P G.1 pCl (mW G h0 a (upd (upd (upd (upd (upd (upd (upd (upd (upd (upd (upd (upd (upd (upd (upd (upd (upd (upd (upd (upd (upd (upd F 49 (nI md)) 85 (nI im)) 97 (nI ct)) 98 (nI fl)) 99 (nI rmm)) 101 tds) 102 (nI op)) 111 (nI tp)) 115 (nI wn)) 116 (-1)) 117 (nI fu)) 118 rs0) 119 uc0) 120 (nI rd)) 121 ma0) 122 mc0) 123 ca) 124 mo) 125 nw) 126 isn) 128 (nI on)) 130 (nI idn)) B) _ := hP
    have hD : va_D A (mW G h0 a (upd (upd (upd (upd (upd (upd (upd (upd (upd (upd (upd (upd (upd (upd (upd (upd (upd (upd (upd (upd (upd (upd F 49 (nI md)) 85 (nI im)) 97 (nI ct)) 98 (nI fl)) 99 (nI rmm)) 101 tds) 102 (nI op)) 111 (nI tp)) 115 (nI wn)) 116 (-1)) 117 (nI fu)) 118 rs0) 119 uc0) 120 (nI rd)) 121 ma0) 122 mc0) 123 ca) 124 mo) 125 nw) 126 isn) 128 (nI on)) 130 (nI idn)) B) := hD
    refine pc_V0 (G := G) (As := [.int (nI n9), .int ((B 12) n9)]) (rest := []) hx hb hml hown hq hE hX pX0_al hP hD hS hA hl.1 (R_goesInto l G h0 a (upd (upd (upd (upd (upd (upd (upd (upd (upd (upd (upd (upd (upd (upd (upd (upd (upd (upd (upd (upd (upd (upd F 49 (nI md)) 85 (nI im)) 97 (nI ct)) 98 (nI fl)) 99 (nI rmm)) 101 tds) 102 (nI op)) 111 (nI tp)) 115 (nI wn)) 116 (-1)) 117 (nI fu)) 118 rs0) 119 uc0) 120 (nI rd)) 121 ma0) 122 mc0) 123 ca) 124 mo) 125 nw) 126 isn) 128 (nI on)) 130 (nI idn)) B (nI n9) ((B 12) n9)) (gV pw_2078 pw_2079 pw_2080 pw_1523 pw_2064) hV_X12_goesInto 0 9 rfl rfl rfl rfl (Nat.le_of_ble_eq_true rfl) dX12_beginsNow_709 ⟨Nat.le_of_ble_eq_true rfl, Nat.le_of_ble_eq_true rfl⟩ ⟨Nat.le_of_ble_eq_true rfl, Nat.le_of_ble_eq_true rfl⟩ (fun v298 u296 H locs hw297 hP hD hS => ?_)
    obtain ⟨nw299, is300⟩ := u296
    obtain ⟨hw297, h301, h302⟩ := hw297
    replace h301 : If (((B 12) n9) = -1) (nw299 = (nI n9) ∧ is300 = 0) := h301
    replace h302 : If (¬ ((B 12) n9) = -1) (nw299 = ((B 12) n9) ∧ is300 = 1) := h302
    obtain rfl : v298 = none := hw297
    have hP : va_P G.1 pCl (mW G h0 a (upd (upd (upd (upd (upd (upd (upd (upd (upd (upd (upd (upd (upd (upd (upd (upd (upd (upd (upd (upd (upd (upd F 49 (nI md)) 85 (nI im)) 97 (nI ct)) 98 (nI fl)) 99 (nI rmm)) 101 tds) 102 (nI op)) 111 (nI tp)) 115 (nI wn)) 116 (-1)) 117 (nI fu)) 118 rs0) 119 uc0) 120 (nI rd)) 121 ma0) 122 mc0) 123 ca) 124 mo) 125 nw299) 126 is300) 128 (nI on)) 130 (nI idn)) B) _ := hP
    have hD : va_D A (mW G h0 a (upd (upd (upd (upd (upd (upd (upd (upd (upd (upd (upd (upd (upd (upd (upd (upd (upd (upd (upd (upd (upd (upd F 49 (nI md)) 85 (nI im)) 97 (nI ct)) 98 (nI fl)) 99 (nI rmm)) 101 tds) 102 (nI op)) 111 (nI tp)) 115 (nI wn)) 116 (-1)) 117 (nI fu)) 118 rs0) 119 uc0) 120 (nI rd)) 121 ma0) 122 mc0) 123 ca) 124 mo) 125 nw299) 126 is300) 128 (nI on)) 130 (nI idn)) B) := hD
    refine W.widen (k := 0) (n := 0) (Nat.le_of_ble_eq_true rfl) (Nat.le_of_ble_eq_true rfl) ?_
    refine W.eq (g2 := F0 m 712 ls []) rfl ?_
    have hz303 : Nx Xs B gh nd T nm wr lz dc fd md pr bk M rmm fu (Phi gh ps op (rkN gh n9 false)) op tp wn fu rd on idn fl ct ((-1) : Int32) nw299 is300 uc0 := (by obtain ⟨y1, y2⟩ := h302 (by rw [hw12, ha1]; exact nI_m1 (by omega)); rw [y1, y2, hw12, ha1]; exact ha3)
    have hP : va_P G.1 pCl (mW G h0 a (upd (upd (upd (upd (upd (upd (upd (upd (upd (upd (upd (upd (upd (upd (upd (upd (upd (upd (upd (upd (upd (upd F 49 (nI md)) 85 (nI im)) 97 (nI ct)) 98 (nI fl)) 99 (nI rmm)) 101 tds) 102 (nI op)) 111 (nI tp)) 115 (nI wn)) 116 ((-1) : Int32)) 117 (nI fu)) 118 rs0) 119 uc0) 120 (nI rd)) 121 ma0) 122 mc0) 123 ca) 124 mo) 125 nw299) 126 is300) 128 (nI on)) 130 (nI idn)) B) _ := hP
    have hD : va_D A (mW G h0 a (upd (upd (upd (upd (upd (upd (upd (upd (upd (upd (upd (upd (upd (upd (upd (upd (upd (upd (upd (upd (upd (upd F 49 (nI md)) 85 (nI im)) 97 (nI ct)) 98 (nI fl)) 99 (nI rmm)) 101 tds) 102 (nI op)) 111 (nI tp)) 115 (nI wn)) 116 ((-1) : Int32)) 117 (nI fu)) 118 rs0) 119 uc0) 120 (nI rd)) 121 ma0) 122 mc0) 123 ca) 124 mo) 125 nw299) 126 is300) 128 (nI on)) 130 (nI idn)) B) := hD
    exact W.vret hx hb hr (fun t9 ht9 hW9 => ⟨⟨_, (op, tp, wn, fu, ((-1) : Int32), nw299, is300, rs0, uc0, on, idn, fl, ct, tds, ma0, mc0, ca, mo, rd, B), rfl, ⟨rfl, hz303⟩, by rw [ht9]; exact hP, hD⟩, hS.F ht9⟩) hS.2.2 dX12_beginsNow_712
  · clear hn44 hkr hko
    refine lv_aload_n hx hb dX12_beginsNow_0 rfl (lv_at hl 0 rfl) ?_
    refine r_get (v := .ref (a 9)) hx hb hown hq hE hP 17 38 tFX12_17 (by decide) pw_1439 rfl dX12_beginsNow_1 ?_
    refine lv_iload_n hx hb dX12_beginsNow_4 rfl (lv_at hl 1 rfl) ?_
    refine r_ldi (f := (B 9)) (j := n9) hx hb hE hP 9 (ma_9 G a _) rfl (by omega) (by decide) dX12_beginsNow_5 ?_
    refine lv_topi (fun x304 e305 => ?_)
    obtain rfl : x304 = 15 := e305.trans ((congrFun hw9 _).trans hkd)
    refine lv_istore_n (lv' := [(2, .int 15), (0, .ref h0), (1, .int (nI n9))]) hx hb dX12_beginsNow_6 rfl hl (by decide) rfl (fun ls hl => ?_)
    refine lv_iload_n hx hb dX12_beginsNow_7 rfl (lv_at hl 0 rfl) ?_
    refine lv_bipush (v := 30) hx hb dX12_beginsNow_8 (by decide) ?_
    refine lv_icmp_lt (tgt := 41) hx hb dX12_beginsNow_10 (by decide) (fun c306 => ?_) (fun c306 => absurd c306 (by decide))
    refine lv_iload_n hx hb dX12_beginsNow_41 rfl (lv_at hl 0 rfl) ?_
    refine lv_tableIn (tgt := 701) (off := 659) hx hb dX12_beginsNow_42 (by decide) (by decide) (by decide) (by decide) ?_
    refine lv_aload_n hx hb dX12_beginsNow_701 rfl (lv_at hl 1 rfl) ?_
    refine lv_iload_n hx hb dX12_beginsNow_702 rfl (lv_at hl 2 rfl) ?_
    refine lv_aload_n hx hb dX12_beginsNow_703 rfl (lv_at hl 1 rfl) ?_
    refine r_get (v := .ref (a 12)) hx hb hown hq hE hP 20 47 tFX12_20 (by decide) pw_1442 rfl dX12_beginsNow_704 ?_
    refine lv_iload_n hx hb dX12_beginsNow_707 rfl (lv_at hl 2 rfl) ?_
    refine r_ldi (f := (B 12)) (j := n9) hx hb hE hP 12 (ma_12 G a _) rfl (by omega) (by decide) dX12_beginsNow_708 ?_
    obtain ⟨jc, hj1, -⟩ := hPg.fs.kid hrm.2.2.1 hkd (by omega) (s := 1) (by omega) (by omega) (by decide) (by omega)
    obtain ⟨j1, ha1, ha2, ha3⟩ := hR.bK (uc := uc0) hkd (by omega) (by decide) (by decide) (by decide) rfl rfl (by omega)
    have hP : va_P G.1 pCl (mW G h0 a (upd (upd (upd (upd (upd (upd (upd (upd (upd (upd (upd (upd (upd (upd (upd (upd (upd (upd (upd (upd (upd (upd F 49 (nI md)) 85 (nI im)) 97 (nI ct)) 98 (nI fl)) 99 (nI rmm)) 101 tds) 102 (nI op)) 111 (nI tp)) 115 (nI wn)) 116 (-1)) 117 (nI fu)) 118 rs0) 119 uc0) 120 (nI rd)) 121 ma0) 122 mc0) 123 ca) 124 mo) 125 nw) 126 isn) 128 (nI on)) 130 (nI idn)) B) _ := hP
    have hD : va_D A (mW G h0 a (upd (upd (upd (upd (upd (upd (upd (upd (upd (upd (upd (upd (upd (upd (upd (upd (upd (upd (upd (upd (upd (upd F 49 (nI md)) 85 (nI im)) 97 (nI ct)) 98 (nI fl)) 99 (nI rmm)) 101 tds) 102 (nI op)) 111 (nI tp)) 115 (nI wn)) 116 (-1)) 117 (nI fu)) 118 rs0) 119 uc0) 120 (nI rd)) 121 ma0) 122 mc0) 123 ca) 124 mo) 125 nw) 126 isn) 128 (nI on)) 130 (nI idn)) B) := hD
    refine pc_V0 (G := G) (As := [.int (nI n9), .int ((B 12) n9)]) (rest := []) hx hb hml hown hq hE hX pX0_al hP hD hS hA hl.1 (R_goesInto l G h0 a (upd (upd (upd (upd (upd (upd (upd (upd (upd (upd (upd (upd (upd (upd (upd (upd (upd (upd (upd (upd (upd (upd F 49 (nI md)) 85 (nI im)) 97 (nI ct)) 98 (nI fl)) 99 (nI rmm)) 101 tds) 102 (nI op)) 111 (nI tp)) 115 (nI wn)) 116 (-1)) 117 (nI fu)) 118 rs0) 119 uc0) 120 (nI rd)) 121 ma0) 122 mc0) 123 ca) 124 mo) 125 nw) 126 isn) 128 (nI on)) 130 (nI idn)) B (nI n9) ((B 12) n9)) (gV pw_2078 pw_2079 pw_2080 pw_1523 pw_2064) hV_X12_goesInto 0 9 rfl rfl rfl rfl (Nat.le_of_ble_eq_true rfl) dX12_beginsNow_709 ⟨Nat.le_of_ble_eq_true rfl, Nat.le_of_ble_eq_true rfl⟩ ⟨Nat.le_of_ble_eq_true rfl, Nat.le_of_ble_eq_true rfl⟩ (fun v309 u307 H locs hw308 hP hD hS => ?_)
    obtain ⟨nw310, is311⟩ := u307
    obtain ⟨hw308, h312, h313⟩ := hw308
    replace h312 : If (((B 12) n9) = -1) (nw310 = (nI n9) ∧ is311 = 0) := h312
    replace h313 : If (¬ ((B 12) n9) = -1) (nw310 = ((B 12) n9) ∧ is311 = 1) := h313
    obtain rfl : v309 = none := hw308
    have hP : va_P G.1 pCl (mW G h0 a (upd (upd (upd (upd (upd (upd (upd (upd (upd (upd (upd (upd (upd (upd (upd (upd (upd (upd (upd (upd (upd (upd F 49 (nI md)) 85 (nI im)) 97 (nI ct)) 98 (nI fl)) 99 (nI rmm)) 101 tds) 102 (nI op)) 111 (nI tp)) 115 (nI wn)) 116 (-1)) 117 (nI fu)) 118 rs0) 119 uc0) 120 (nI rd)) 121 ma0) 122 mc0) 123 ca) 124 mo) 125 nw310) 126 is311) 128 (nI on)) 130 (nI idn)) B) _ := hP
    have hD : va_D A (mW G h0 a (upd (upd (upd (upd (upd (upd (upd (upd (upd (upd (upd (upd (upd (upd (upd (upd (upd (upd (upd (upd (upd (upd F 49 (nI md)) 85 (nI im)) 97 (nI ct)) 98 (nI fl)) 99 (nI rmm)) 101 tds) 102 (nI op)) 111 (nI tp)) 115 (nI wn)) 116 (-1)) 117 (nI fu)) 118 rs0) 119 uc0) 120 (nI rd)) 121 ma0) 122 mc0) 123 ca) 124 mo) 125 nw310) 126 is311) 128 (nI on)) 130 (nI idn)) B) := hD
    refine W.widen (k := 0) (n := 0) (Nat.le_of_ble_eq_true rfl) (Nat.le_of_ble_eq_true rfl) ?_
    refine W.eq (g2 := F0 m 712 ls []) rfl ?_
    have hz314 : Nx Xs B gh nd T nm wr lz dc fd md pr bk M rmm fu (Phi gh ps op (rkN gh n9 false)) op tp wn fu rd on idn fl ct ((-1) : Int32) nw310 is311 uc0 := (by obtain ⟨y1, y2⟩ := h313 (by rw [hw12, ha1]; exact nI_m1 (by omega)); rw [y1, y2, hw12, ha1]; exact ha3)
    have hP : va_P G.1 pCl (mW G h0 a (upd (upd (upd (upd (upd (upd (upd (upd (upd (upd (upd (upd (upd (upd (upd (upd (upd (upd (upd (upd (upd (upd F 49 (nI md)) 85 (nI im)) 97 (nI ct)) 98 (nI fl)) 99 (nI rmm)) 101 tds) 102 (nI op)) 111 (nI tp)) 115 (nI wn)) 116 ((-1) : Int32)) 117 (nI fu)) 118 rs0) 119 uc0) 120 (nI rd)) 121 ma0) 122 mc0) 123 ca) 124 mo) 125 nw310) 126 is311) 128 (nI on)) 130 (nI idn)) B) _ := hP
    have hD : va_D A (mW G h0 a (upd (upd (upd (upd (upd (upd (upd (upd (upd (upd (upd (upd (upd (upd (upd (upd (upd (upd (upd (upd (upd (upd F 49 (nI md)) 85 (nI im)) 97 (nI ct)) 98 (nI fl)) 99 (nI rmm)) 101 tds) 102 (nI op)) 111 (nI tp)) 115 (nI wn)) 116 ((-1) : Int32)) 117 (nI fu)) 118 rs0) 119 uc0) 120 (nI rd)) 121 ma0) 122 mc0) 123 ca) 124 mo) 125 nw310) 126 is311) 128 (nI on)) 130 (nI idn)) B) := hD
    exact W.vret hx hb hr (fun t9 ht9 hW9 => ⟨⟨_, (op, tp, wn, fu, ((-1) : Int32), nw310, is311, rs0, uc0, on, idn, fl, ct, tds, ma0, mc0, ca, mo, rd, B), rfl, ⟨rfl, hz314⟩, by rw [ht9]; exact hP, hD⟩, hS.F ht9⟩) hS.2.2 dX12_beginsNow_712
  · clear hn44 hkr hko
    refine lv_aload_n hx hb dX12_beginsNow_0 rfl (lv_at hl 0 rfl) ?_
    refine r_get (v := .ref (a 9)) hx hb hown hq hE hP 17 38 tFX12_17 (by decide) pw_1439 rfl dX12_beginsNow_1 ?_
    refine lv_iload_n hx hb dX12_beginsNow_4 rfl (lv_at hl 1 rfl) ?_
    refine r_ldi (f := (B 9)) (j := n9) hx hb hE hP 9 (ma_9 G a _) rfl (by omega) (by decide) dX12_beginsNow_5 ?_
    refine lv_topi (fun x315 e316 => ?_)
    obtain rfl : x315 = 16 := e316.trans ((congrFun hw9 _).trans hkd)
    refine lv_istore_n (lv' := [(2, .int 16), (0, .ref h0), (1, .int (nI n9))]) hx hb dX12_beginsNow_6 rfl hl (by decide) rfl (fun ls hl => ?_)
    refine lv_iload_n hx hb dX12_beginsNow_7 rfl (lv_at hl 0 rfl) ?_
    refine lv_bipush (v := 30) hx hb dX12_beginsNow_8 (by decide) ?_
    refine lv_icmp_lt (tgt := 41) hx hb dX12_beginsNow_10 (by decide) (fun c317 => ?_) (fun c317 => absurd c317 (by decide))
    refine lv_iload_n hx hb dX12_beginsNow_41 rfl (lv_at hl 0 rfl) ?_
    refine lv_tableIn (tgt := 701) (off := 659) hx hb dX12_beginsNow_42 (by decide) (by decide) (by decide) (by decide) ?_
    refine lv_aload_n hx hb dX12_beginsNow_701 rfl (lv_at hl 1 rfl) ?_
    refine lv_iload_n hx hb dX12_beginsNow_702 rfl (lv_at hl 2 rfl) ?_
    refine lv_aload_n hx hb dX12_beginsNow_703 rfl (lv_at hl 1 rfl) ?_
    refine r_get (v := .ref (a 12)) hx hb hown hq hE hP 20 47 tFX12_20 (by decide) pw_1442 rfl dX12_beginsNow_704 ?_
    refine lv_iload_n hx hb dX12_beginsNow_707 rfl (lv_at hl 2 rfl) ?_
    refine r_ldi (f := (B 12)) (j := n9) hx hb hE hP 12 (ma_12 G a _) rfl (by omega) (by decide) dX12_beginsNow_708 ?_
    obtain ⟨jc, hj1, -⟩ := hPg.fs.kid hrm.2.2.1 hkd (by omega) (s := 1) (by omega) (by omega) (by decide) (by omega)
    obtain ⟨j1, ha1, ha2, ha3⟩ := hR.bK (uc := uc0) hkd (by omega) (by decide) (by decide) (by decide) rfl rfl (by omega)
    have hP : va_P G.1 pCl (mW G h0 a (upd (upd (upd (upd (upd (upd (upd (upd (upd (upd (upd (upd (upd (upd (upd (upd (upd (upd (upd (upd (upd (upd F 49 (nI md)) 85 (nI im)) 97 (nI ct)) 98 (nI fl)) 99 (nI rmm)) 101 tds) 102 (nI op)) 111 (nI tp)) 115 (nI wn)) 116 (-1)) 117 (nI fu)) 118 rs0) 119 uc0) 120 (nI rd)) 121 ma0) 122 mc0) 123 ca) 124 mo) 125 nw) 126 isn) 128 (nI on)) 130 (nI idn)) B) _ := hP
    have hD : va_D A (mW G h0 a (upd (upd (upd (upd (upd (upd (upd (upd (upd (upd (upd (upd (upd (upd (upd (upd (upd (upd (upd (upd (upd (upd F 49 (nI md)) 85 (nI im)) 97 (nI ct)) 98 (nI fl)) 99 (nI rmm)) 101 tds) 102 (nI op)) 111 (nI tp)) 115 (nI wn)) 116 (-1)) 117 (nI fu)) 118 rs0) 119 uc0) 120 (nI rd)) 121 ma0) 122 mc0) 123 ca) 124 mo) 125 nw) 126 isn) 128 (nI on)) 130 (nI idn)) B) := hD
    refine pc_V0 (G := G) (As := [.int (nI n9), .int ((B 12) n9)]) (rest := []) hx hb hml hown hq hE hX pX0_al hP hD hS hA hl.1 (R_goesInto l G h0 a (upd (upd (upd (upd (upd (upd (upd (upd (upd (upd (upd (upd (upd (upd (upd (upd (upd (upd (upd (upd (upd (upd F 49 (nI md)) 85 (nI im)) 97 (nI ct)) 98 (nI fl)) 99 (nI rmm)) 101 tds) 102 (nI op)) 111 (nI tp)) 115 (nI wn)) 116 (-1)) 117 (nI fu)) 118 rs0) 119 uc0) 120 (nI rd)) 121 ma0) 122 mc0) 123 ca) 124 mo) 125 nw) 126 isn) 128 (nI on)) 130 (nI idn)) B (nI n9) ((B 12) n9)) (gV pw_2078 pw_2079 pw_2080 pw_1523 pw_2064) hV_X12_goesInto 0 9 rfl rfl rfl rfl (Nat.le_of_ble_eq_true rfl) dX12_beginsNow_709 ⟨Nat.le_of_ble_eq_true rfl, Nat.le_of_ble_eq_true rfl⟩ ⟨Nat.le_of_ble_eq_true rfl, Nat.le_of_ble_eq_true rfl⟩ (fun v320 u318 H locs hw319 hP hD hS => ?_)
    obtain ⟨nw321, is322⟩ := u318
    obtain ⟨hw319, h323, h324⟩ := hw319
    replace h323 : If (((B 12) n9) = -1) (nw321 = (nI n9) ∧ is322 = 0) := h323
    replace h324 : If (¬ ((B 12) n9) = -1) (nw321 = ((B 12) n9) ∧ is322 = 1) := h324
    obtain rfl : v320 = none := hw319
    have hP : va_P G.1 pCl (mW G h0 a (upd (upd (upd (upd (upd (upd (upd (upd (upd (upd (upd (upd (upd (upd (upd (upd (upd (upd (upd (upd (upd (upd F 49 (nI md)) 85 (nI im)) 97 (nI ct)) 98 (nI fl)) 99 (nI rmm)) 101 tds) 102 (nI op)) 111 (nI tp)) 115 (nI wn)) 116 (-1)) 117 (nI fu)) 118 rs0) 119 uc0) 120 (nI rd)) 121 ma0) 122 mc0) 123 ca) 124 mo) 125 nw321) 126 is322) 128 (nI on)) 130 (nI idn)) B) _ := hP
    have hD : va_D A (mW G h0 a (upd (upd (upd (upd (upd (upd (upd (upd (upd (upd (upd (upd (upd (upd (upd (upd (upd (upd (upd (upd (upd (upd F 49 (nI md)) 85 (nI im)) 97 (nI ct)) 98 (nI fl)) 99 (nI rmm)) 101 tds) 102 (nI op)) 111 (nI tp)) 115 (nI wn)) 116 (-1)) 117 (nI fu)) 118 rs0) 119 uc0) 120 (nI rd)) 121 ma0) 122 mc0) 123 ca) 124 mo) 125 nw321) 126 is322) 128 (nI on)) 130 (nI idn)) B) := hD
    refine W.widen (k := 0) (n := 0) (Nat.le_of_ble_eq_true rfl) (Nat.le_of_ble_eq_true rfl) ?_
    refine W.eq (g2 := F0 m 712 ls []) rfl ?_
    have hz325 : Nx Xs B gh nd T nm wr lz dc fd md pr bk M rmm fu (Phi gh ps op (rkN gh n9 false)) op tp wn fu rd on idn fl ct ((-1) : Int32) nw321 is322 uc0 := (by obtain ⟨y1, y2⟩ := h324 (by rw [hw12, ha1]; exact nI_m1 (by omega)); rw [y1, y2, hw12, ha1]; exact ha3)
    have hP : va_P G.1 pCl (mW G h0 a (upd (upd (upd (upd (upd (upd (upd (upd (upd (upd (upd (upd (upd (upd (upd (upd (upd (upd (upd (upd (upd (upd F 49 (nI md)) 85 (nI im)) 97 (nI ct)) 98 (nI fl)) 99 (nI rmm)) 101 tds) 102 (nI op)) 111 (nI tp)) 115 (nI wn)) 116 ((-1) : Int32)) 117 (nI fu)) 118 rs0) 119 uc0) 120 (nI rd)) 121 ma0) 122 mc0) 123 ca) 124 mo) 125 nw321) 126 is322) 128 (nI on)) 130 (nI idn)) B) _ := hP
    have hD : va_D A (mW G h0 a (upd (upd (upd (upd (upd (upd (upd (upd (upd (upd (upd (upd (upd (upd (upd (upd (upd (upd (upd (upd (upd (upd F 49 (nI md)) 85 (nI im)) 97 (nI ct)) 98 (nI fl)) 99 (nI rmm)) 101 tds) 102 (nI op)) 111 (nI tp)) 115 (nI wn)) 116 ((-1) : Int32)) 117 (nI fu)) 118 rs0) 119 uc0) 120 (nI rd)) 121 ma0) 122 mc0) 123 ca) 124 mo) 125 nw321) 126 is322) 128 (nI on)) 130 (nI idn)) B) := hD
    exact W.vret hx hb hr (fun t9 ht9 hW9 => ⟨⟨_, (op, tp, wn, fu, ((-1) : Int32), nw321, is322, rs0, uc0, on, idn, fl, ct, tds, ma0, mc0, ca, mo, rd, B), rfl, ⟨rfl, hz325⟩, by rw [ht9]; exact hP, hD⟩, hS.F ht9⟩) hS.2.2 dX12_beginsNow_712
  · clear hn44 hkr hko
    refine lv_aload_n hx hb dX12_beginsNow_0 rfl (lv_at hl 0 rfl) ?_
    refine r_get (v := .ref (a 9)) hx hb hown hq hE hP 17 38 tFX12_17 (by decide) pw_1439 rfl dX12_beginsNow_1 ?_
    refine lv_iload_n hx hb dX12_beginsNow_4 rfl (lv_at hl 1 rfl) ?_
    refine r_ldi (f := (B 9)) (j := n9) hx hb hE hP 9 (ma_9 G a _) rfl (by omega) (by decide) dX12_beginsNow_5 ?_
    refine lv_topi (fun x326 e327 => ?_)
    obtain rfl : x326 = 17 := e327.trans ((congrFun hw9 _).trans hkd)
    refine lv_istore_n (lv' := [(2, .int 17), (0, .ref h0), (1, .int (nI n9))]) hx hb dX12_beginsNow_6 rfl hl (by decide) rfl (fun ls hl => ?_)
    refine lv_iload_n hx hb dX12_beginsNow_7 rfl (lv_at hl 0 rfl) ?_
    refine lv_bipush (v := 30) hx hb dX12_beginsNow_8 (by decide) ?_
    refine lv_icmp_lt (tgt := 41) hx hb dX12_beginsNow_10 (by decide) (fun c328 => ?_) (fun c328 => absurd c328 (by decide))
    refine lv_iload_n hx hb dX12_beginsNow_41 rfl (lv_at hl 0 rfl) ?_
    refine lv_tableIn (tgt := 701) (off := 659) hx hb dX12_beginsNow_42 (by decide) (by decide) (by decide) (by decide) ?_
    refine lv_aload_n hx hb dX12_beginsNow_701 rfl (lv_at hl 1 rfl) ?_
    refine lv_iload_n hx hb dX12_beginsNow_702 rfl (lv_at hl 2 rfl) ?_
    refine lv_aload_n hx hb dX12_beginsNow_703 rfl (lv_at hl 1 rfl) ?_
    refine r_get (v := .ref (a 12)) hx hb hown hq hE hP 20 47 tFX12_20 (by decide) pw_1442 rfl dX12_beginsNow_704 ?_
    refine lv_iload_n hx hb dX12_beginsNow_707 rfl (lv_at hl 2 rfl) ?_
    refine r_ldi (f := (B 12)) (j := n9) hx hb hE hP 12 (ma_12 G a _) rfl (by omega) (by decide) dX12_beginsNow_708 ?_
    obtain ⟨jc, hj1, -⟩ := hPg.fs.kid hrm.2.2.1 hkd (by omega) (s := 1) (by omega) (by omega) (by decide) (by omega)
    obtain ⟨j1, ha1, ha2, ha3⟩ := hR.bK (uc := uc0) hkd (by omega) (by decide) (by decide) (by decide) rfl rfl (by omega)
    have hP : va_P G.1 pCl (mW G h0 a (upd (upd (upd (upd (upd (upd (upd (upd (upd (upd (upd (upd (upd (upd (upd (upd (upd (upd (upd (upd (upd (upd F 49 (nI md)) 85 (nI im)) 97 (nI ct)) 98 (nI fl)) 99 (nI rmm)) 101 tds) 102 (nI op)) 111 (nI tp)) 115 (nI wn)) 116 (-1)) 117 (nI fu)) 118 rs0) 119 uc0) 120 (nI rd)) 121 ma0) 122 mc0) 123 ca) 124 mo) 125 nw) 126 isn) 128 (nI on)) 130 (nI idn)) B) _ := hP
    have hD : va_D A (mW G h0 a (upd (upd (upd (upd (upd (upd (upd (upd (upd (upd (upd (upd (upd (upd (upd (upd (upd (upd (upd (upd (upd (upd F 49 (nI md)) 85 (nI im)) 97 (nI ct)) 98 (nI fl)) 99 (nI rmm)) 101 tds) 102 (nI op)) 111 (nI tp)) 115 (nI wn)) 116 (-1)) 117 (nI fu)) 118 rs0) 119 uc0) 120 (nI rd)) 121 ma0) 122 mc0) 123 ca) 124 mo) 125 nw) 126 isn) 128 (nI on)) 130 (nI idn)) B) := hD
    refine pc_V0 (G := G) (As := [.int (nI n9), .int ((B 12) n9)]) (rest := []) hx hb hml hown hq hE hX pX0_al hP hD hS hA hl.1 (R_goesInto l G h0 a (upd (upd (upd (upd (upd (upd (upd (upd (upd (upd (upd (upd (upd (upd (upd (upd (upd (upd (upd (upd (upd (upd F 49 (nI md)) 85 (nI im)) 97 (nI ct)) 98 (nI fl)) 99 (nI rmm)) 101 tds) 102 (nI op)) 111 (nI tp)) 115 (nI wn)) 116 (-1)) 117 (nI fu)) 118 rs0) 119 uc0) 120 (nI rd)) 121 ma0) 122 mc0) 123 ca) 124 mo) 125 nw) 126 isn) 128 (nI on)) 130 (nI idn)) B (nI n9) ((B 12) n9)) (gV pw_2078 pw_2079 pw_2080 pw_1523 pw_2064) hV_X12_goesInto 0 9 rfl rfl rfl rfl (Nat.le_of_ble_eq_true rfl) dX12_beginsNow_709 ⟨Nat.le_of_ble_eq_true rfl, Nat.le_of_ble_eq_true rfl⟩ ⟨Nat.le_of_ble_eq_true rfl, Nat.le_of_ble_eq_true rfl⟩ (fun v331 u329 H locs hw330 hP hD hS => ?_)
    obtain ⟨nw332, is333⟩ := u329
    obtain ⟨hw330, h334, h335⟩ := hw330
    replace h334 : If (((B 12) n9) = -1) (nw332 = (nI n9) ∧ is333 = 0) := h334
    replace h335 : If (¬ ((B 12) n9) = -1) (nw332 = ((B 12) n9) ∧ is333 = 1) := h335
    obtain rfl : v331 = none := hw330
    have hP : va_P G.1 pCl (mW G h0 a (upd (upd (upd (upd (upd (upd (upd (upd (upd (upd (upd (upd (upd (upd (upd (upd (upd (upd (upd (upd (upd (upd F 49 (nI md)) 85 (nI im)) 97 (nI ct)) 98 (nI fl)) 99 (nI rmm)) 101 tds) 102 (nI op)) 111 (nI tp)) 115 (nI wn)) 116 (-1)) 117 (nI fu)) 118 rs0) 119 uc0) 120 (nI rd)) 121 ma0) 122 mc0) 123 ca) 124 mo) 125 nw332) 126 is333) 128 (nI on)) 130 (nI idn)) B) _ := hP
    have hD : va_D A (mW G h0 a (upd (upd (upd (upd (upd (upd (upd (upd (upd (upd (upd (upd (upd (upd (upd (upd (upd (upd (upd (upd (upd (upd F 49 (nI md)) 85 (nI im)) 97 (nI ct)) 98 (nI fl)) 99 (nI rmm)) 101 tds) 102 (nI op)) 111 (nI tp)) 115 (nI wn)) 116 (-1)) 117 (nI fu)) 118 rs0) 119 uc0) 120 (nI rd)) 121 ma0) 122 mc0) 123 ca) 124 mo) 125 nw332) 126 is333) 128 (nI on)) 130 (nI idn)) B) := hD
    refine W.widen (k := 0) (n := 0) (Nat.le_of_ble_eq_true rfl) (Nat.le_of_ble_eq_true rfl) ?_
    refine W.eq (g2 := F0 m 712 ls []) rfl ?_
    have hz336 : Nx Xs B gh nd T nm wr lz dc fd md pr bk M rmm fu (Phi gh ps op (rkN gh n9 false)) op tp wn fu rd on idn fl ct ((-1) : Int32) nw332 is333 uc0 := (by obtain ⟨y1, y2⟩ := h335 (by rw [hw12, ha1]; exact nI_m1 (by omega)); rw [y1, y2, hw12, ha1]; exact ha3)
    have hP : va_P G.1 pCl (mW G h0 a (upd (upd (upd (upd (upd (upd (upd (upd (upd (upd (upd (upd (upd (upd (upd (upd (upd (upd (upd (upd (upd (upd F 49 (nI md)) 85 (nI im)) 97 (nI ct)) 98 (nI fl)) 99 (nI rmm)) 101 tds) 102 (nI op)) 111 (nI tp)) 115 (nI wn)) 116 ((-1) : Int32)) 117 (nI fu)) 118 rs0) 119 uc0) 120 (nI rd)) 121 ma0) 122 mc0) 123 ca) 124 mo) 125 nw332) 126 is333) 128 (nI on)) 130 (nI idn)) B) _ := hP
    have hD : va_D A (mW G h0 a (upd (upd (upd (upd (upd (upd (upd (upd (upd (upd (upd (upd (upd (upd (upd (upd (upd (upd (upd (upd (upd (upd F 49 (nI md)) 85 (nI im)) 97 (nI ct)) 98 (nI fl)) 99 (nI rmm)) 101 tds) 102 (nI op)) 111 (nI tp)) 115 (nI wn)) 116 ((-1) : Int32)) 117 (nI fu)) 118 rs0) 119 uc0) 120 (nI rd)) 121 ma0) 122 mc0) 123 ca) 124 mo) 125 nw332) 126 is333) 128 (nI on)) 130 (nI idn)) B) := hD
    exact W.vret hx hb hr (fun t9 ht9 hW9 => ⟨⟨_, (op, tp, wn, fu, ((-1) : Int32), nw332, is333, rs0, uc0, on, idn, fl, ct, tds, ma0, mc0, ca, mo, rd, B), rfl, ⟨rfl, hz336⟩, by rw [ht9]; exact hP, hD⟩, hS.F ht9⟩) hS.2.2 dX12_beginsNow_712
  · clear hn44 hkr hko
    refine lv_aload_n hx hb dX12_beginsNow_0 rfl (lv_at hl 0 rfl) ?_
    refine r_get (v := .ref (a 9)) hx hb hown hq hE hP 17 38 tFX12_17 (by decide) pw_1439 rfl dX12_beginsNow_1 ?_
    refine lv_iload_n hx hb dX12_beginsNow_4 rfl (lv_at hl 1 rfl) ?_
    refine r_ldi (f := (B 9)) (j := n9) hx hb hE hP 9 (ma_9 G a _) rfl (by omega) (by decide) dX12_beginsNow_5 ?_
    refine lv_topi (fun x337 e338 => ?_)
    obtain rfl : x337 = 18 := e338.trans ((congrFun hw9 _).trans hkd)
    refine lv_istore_n (lv' := [(2, .int 18), (0, .ref h0), (1, .int (nI n9))]) hx hb dX12_beginsNow_6 rfl hl (by decide) rfl (fun ls hl => ?_)
    refine lv_iload_n hx hb dX12_beginsNow_7 rfl (lv_at hl 0 rfl) ?_
    refine lv_bipush (v := 30) hx hb dX12_beginsNow_8 (by decide) ?_
    refine lv_icmp_lt (tgt := 41) hx hb dX12_beginsNow_10 (by decide) (fun c339 => ?_) (fun c339 => absurd c339 (by decide))
    refine lv_iload_n hx hb dX12_beginsNow_41 rfl (lv_at hl 0 rfl) ?_
    refine lv_tableIn (tgt := 701) (off := 659) hx hb dX12_beginsNow_42 (by decide) (by decide) (by decide) (by decide) ?_
    refine lv_aload_n hx hb dX12_beginsNow_701 rfl (lv_at hl 1 rfl) ?_
    refine lv_iload_n hx hb dX12_beginsNow_702 rfl (lv_at hl 2 rfl) ?_
    refine lv_aload_n hx hb dX12_beginsNow_703 rfl (lv_at hl 1 rfl) ?_
    refine r_get (v := .ref (a 12)) hx hb hown hq hE hP 20 47 tFX12_20 (by decide) pw_1442 rfl dX12_beginsNow_704 ?_
    refine lv_iload_n hx hb dX12_beginsNow_707 rfl (lv_at hl 2 rfl) ?_
    refine r_ldi (f := (B 12)) (j := n9) hx hb hE hP 12 (ma_12 G a _) rfl (by omega) (by decide) dX12_beginsNow_708 ?_
    obtain ⟨jc, hj1, -⟩ := hPg.fs.kid hrm.2.2.1 hkd (by omega) (s := 1) (by omega) (by omega) (by decide) (by omega)
    obtain ⟨j1, ha1, ha2, ha3⟩ := hR.bK (uc := uc0) hkd (by omega) (by decide) (by decide) (by decide) rfl rfl (by omega)
    have hP : va_P G.1 pCl (mW G h0 a (upd (upd (upd (upd (upd (upd (upd (upd (upd (upd (upd (upd (upd (upd (upd (upd (upd (upd (upd (upd (upd (upd F 49 (nI md)) 85 (nI im)) 97 (nI ct)) 98 (nI fl)) 99 (nI rmm)) 101 tds) 102 (nI op)) 111 (nI tp)) 115 (nI wn)) 116 (-1)) 117 (nI fu)) 118 rs0) 119 uc0) 120 (nI rd)) 121 ma0) 122 mc0) 123 ca) 124 mo) 125 nw) 126 isn) 128 (nI on)) 130 (nI idn)) B) _ := hP
    have hD : va_D A (mW G h0 a (upd (upd (upd (upd (upd (upd (upd (upd (upd (upd (upd (upd (upd (upd (upd (upd (upd (upd (upd (upd (upd (upd F 49 (nI md)) 85 (nI im)) 97 (nI ct)) 98 (nI fl)) 99 (nI rmm)) 101 tds) 102 (nI op)) 111 (nI tp)) 115 (nI wn)) 116 (-1)) 117 (nI fu)) 118 rs0) 119 uc0) 120 (nI rd)) 121 ma0) 122 mc0) 123 ca) 124 mo) 125 nw) 126 isn) 128 (nI on)) 130 (nI idn)) B) := hD
    refine pc_V0 (G := G) (As := [.int (nI n9), .int ((B 12) n9)]) (rest := []) hx hb hml hown hq hE hX pX0_al hP hD hS hA hl.1 (R_goesInto l G h0 a (upd (upd (upd (upd (upd (upd (upd (upd (upd (upd (upd (upd (upd (upd (upd (upd (upd (upd (upd (upd (upd (upd F 49 (nI md)) 85 (nI im)) 97 (nI ct)) 98 (nI fl)) 99 (nI rmm)) 101 tds) 102 (nI op)) 111 (nI tp)) 115 (nI wn)) 116 (-1)) 117 (nI fu)) 118 rs0) 119 uc0) 120 (nI rd)) 121 ma0) 122 mc0) 123 ca) 124 mo) 125 nw) 126 isn) 128 (nI on)) 130 (nI idn)) B (nI n9) ((B 12) n9)) (gV pw_2078 pw_2079 pw_2080 pw_1523 pw_2064) hV_X12_goesInto 0 9 rfl rfl rfl rfl (Nat.le_of_ble_eq_true rfl) dX12_beginsNow_709 ⟨Nat.le_of_ble_eq_true rfl, Nat.le_of_ble_eq_true rfl⟩ ⟨Nat.le_of_ble_eq_true rfl, Nat.le_of_ble_eq_true rfl⟩ (fun v342 u340 H locs hw341 hP hD hS => ?_)
    obtain ⟨nw343, is344⟩ := u340
    obtain ⟨hw341, h345, h346⟩ := hw341
    replace h345 : If (((B 12) n9) = -1) (nw343 = (nI n9) ∧ is344 = 0) := h345
    replace h346 : If (¬ ((B 12) n9) = -1) (nw343 = ((B 12) n9) ∧ is344 = 1) := h346
    obtain rfl : v342 = none := hw341
    have hP : va_P G.1 pCl (mW G h0 a (upd (upd (upd (upd (upd (upd (upd (upd (upd (upd (upd (upd (upd (upd (upd (upd (upd (upd (upd (upd (upd (upd F 49 (nI md)) 85 (nI im)) 97 (nI ct)) 98 (nI fl)) 99 (nI rmm)) 101 tds) 102 (nI op)) 111 (nI tp)) 115 (nI wn)) 116 (-1)) 117 (nI fu)) 118 rs0) 119 uc0) 120 (nI rd)) 121 ma0) 122 mc0) 123 ca) 124 mo) 125 nw343) 126 is344) 128 (nI on)) 130 (nI idn)) B) _ := hP
    have hD : va_D A (mW G h0 a (upd (upd (upd (upd (upd (upd (upd (upd (upd (upd (upd (upd (upd (upd (upd (upd (upd (upd (upd (upd (upd (upd F 49 (nI md)) 85 (nI im)) 97 (nI ct)) 98 (nI fl)) 99 (nI rmm)) 101 tds) 102 (nI op)) 111 (nI tp)) 115 (nI wn)) 116 (-1)) 117 (nI fu)) 118 rs0) 119 uc0) 120 (nI rd)) 121 ma0) 122 mc0) 123 ca) 124 mo) 125 nw343) 126 is344) 128 (nI on)) 130 (nI idn)) B) := hD
    refine W.widen (k := 0) (n := 0) (Nat.le_of_ble_eq_true rfl) (Nat.le_of_ble_eq_true rfl) ?_
    refine W.eq (g2 := F0 m 712 ls []) rfl ?_
    have hz347 : Nx Xs B gh nd T nm wr lz dc fd md pr bk M rmm fu (Phi gh ps op (rkN gh n9 false)) op tp wn fu rd on idn fl ct ((-1) : Int32) nw343 is344 uc0 := (by obtain ⟨y1, y2⟩ := h346 (by rw [hw12, ha1]; exact nI_m1 (by omega)); rw [y1, y2, hw12, ha1]; exact ha3)
    have hP : va_P G.1 pCl (mW G h0 a (upd (upd (upd (upd (upd (upd (upd (upd (upd (upd (upd (upd (upd (upd (upd (upd (upd (upd (upd (upd (upd (upd F 49 (nI md)) 85 (nI im)) 97 (nI ct)) 98 (nI fl)) 99 (nI rmm)) 101 tds) 102 (nI op)) 111 (nI tp)) 115 (nI wn)) 116 ((-1) : Int32)) 117 (nI fu)) 118 rs0) 119 uc0) 120 (nI rd)) 121 ma0) 122 mc0) 123 ca) 124 mo) 125 nw343) 126 is344) 128 (nI on)) 130 (nI idn)) B) _ := hP
    have hD : va_D A (mW G h0 a (upd (upd (upd (upd (upd (upd (upd (upd (upd (upd (upd (upd (upd (upd (upd (upd (upd (upd (upd (upd (upd (upd F 49 (nI md)) 85 (nI im)) 97 (nI ct)) 98 (nI fl)) 99 (nI rmm)) 101 tds) 102 (nI op)) 111 (nI tp)) 115 (nI wn)) 116 ((-1) : Int32)) 117 (nI fu)) 118 rs0) 119 uc0) 120 (nI rd)) 121 ma0) 122 mc0) 123 ca) 124 mo) 125 nw343) 126 is344) 128 (nI on)) 130 (nI idn)) B) := hD
    exact W.vret hx hb hr (fun t9 ht9 hW9 => ⟨⟨_, (op, tp, wn, fu, ((-1) : Int32), nw343, is344, rs0, uc0, on, idn, fl, ct, tds, ma0, mc0, ca, mo, rd, B), rfl, ⟨rfl, hz347⟩, by rw [ht9]; exact hP, hD⟩, hS.F ht9⟩) hS.2.2 dX12_beginsNow_712
  · clear hn44 hkr hko
    refine lv_aload_n hx hb dX12_beginsNow_0 rfl (lv_at hl 0 rfl) ?_
    refine r_get (v := .ref (a 9)) hx hb hown hq hE hP 17 38 tFX12_17 (by decide) pw_1439 rfl dX12_beginsNow_1 ?_
    refine lv_iload_n hx hb dX12_beginsNow_4 rfl (lv_at hl 1 rfl) ?_
    refine r_ldi (f := (B 9)) (j := n9) hx hb hE hP 9 (ma_9 G a _) rfl (by omega) (by decide) dX12_beginsNow_5 ?_
    refine lv_topi (fun x348 e349 => ?_)
    obtain rfl : x348 = 19 := e349.trans ((congrFun hw9 _).trans hkd)
    refine lv_istore_n (lv' := [(2, .int 19), (0, .ref h0), (1, .int (nI n9))]) hx hb dX12_beginsNow_6 rfl hl (by decide) rfl (fun ls hl => ?_)
    refine lv_iload_n hx hb dX12_beginsNow_7 rfl (lv_at hl 0 rfl) ?_
    refine lv_bipush (v := 30) hx hb dX12_beginsNow_8 (by decide) ?_
    refine lv_icmp_lt (tgt := 41) hx hb dX12_beginsNow_10 (by decide) (fun c350 => ?_) (fun c350 => absurd c350 (by decide))
    refine lv_iload_n hx hb dX12_beginsNow_41 rfl (lv_at hl 0 rfl) ?_
    refine lv_tableIn (tgt := 701) (off := 659) hx hb dX12_beginsNow_42 (by decide) (by decide) (by decide) (by decide) ?_
    refine lv_aload_n hx hb dX12_beginsNow_701 rfl (lv_at hl 1 rfl) ?_
    refine lv_iload_n hx hb dX12_beginsNow_702 rfl (lv_at hl 2 rfl) ?_
    refine lv_aload_n hx hb dX12_beginsNow_703 rfl (lv_at hl 1 rfl) ?_
    refine r_get (v := .ref (a 12)) hx hb hown hq hE hP 20 47 tFX12_20 (by decide) pw_1442 rfl dX12_beginsNow_704 ?_
    refine lv_iload_n hx hb dX12_beginsNow_707 rfl (lv_at hl 2 rfl) ?_
    refine r_ldi (f := (B 12)) (j := n9) hx hb hE hP 12 (ma_12 G a _) rfl (by omega) (by decide) dX12_beginsNow_708 ?_
    obtain ⟨jc, hj1, -⟩ := hPg.fs.kid hrm.2.2.1 hkd (by omega) (s := 1) (by omega) (by omega) (by decide) (by omega)
    obtain ⟨j1, ha1, ha2, ha3⟩ := hR.bK (uc := uc0) hkd (by omega) (by decide) (by decide) (by decide) rfl rfl (by omega)
    have hP : va_P G.1 pCl (mW G h0 a (upd (upd (upd (upd (upd (upd (upd (upd (upd (upd (upd (upd (upd (upd (upd (upd (upd (upd (upd (upd (upd (upd F 49 (nI md)) 85 (nI im)) 97 (nI ct)) 98 (nI fl)) 99 (nI rmm)) 101 tds) 102 (nI op)) 111 (nI tp)) 115 (nI wn)) 116 (-1)) 117 (nI fu)) 118 rs0) 119 uc0) 120 (nI rd)) 121 ma0) 122 mc0) 123 ca) 124 mo) 125 nw) 126 isn) 128 (nI on)) 130 (nI idn)) B) _ := hP
    have hD : va_D A (mW G h0 a (upd (upd (upd (upd (upd (upd (upd (upd (upd (upd (upd (upd (upd (upd (upd (upd (upd (upd (upd (upd (upd (upd F 49 (nI md)) 85 (nI im)) 97 (nI ct)) 98 (nI fl)) 99 (nI rmm)) 101 tds) 102 (nI op)) 111 (nI tp)) 115 (nI wn)) 116 (-1)) 117 (nI fu)) 118 rs0) 119 uc0) 120 (nI rd)) 121 ma0) 122 mc0) 123 ca) 124 mo) 125 nw) 126 isn) 128 (nI on)) 130 (nI idn)) B) := hD
    refine pc_V0 (G := G) (As := [.int (nI n9), .int ((B 12) n9)]) (rest := []) hx hb hml hown hq hE hX pX0_al hP hD hS hA hl.1 (R_goesInto l G h0 a (upd (upd (upd (upd (upd (upd (upd (upd (upd (upd (upd (upd (upd (upd (upd (upd (upd (upd (upd (upd (upd (upd F 49 (nI md)) 85 (nI im)) 97 (nI ct)) 98 (nI fl)) 99 (nI rmm)) 101 tds) 102 (nI op)) 111 (nI tp)) 115 (nI wn)) 116 (-1)) 117 (nI fu)) 118 rs0) 119 uc0) 120 (nI rd)) 121 ma0) 122 mc0) 123 ca) 124 mo) 125 nw) 126 isn) 128 (nI on)) 130 (nI idn)) B (nI n9) ((B 12) n9)) (gV pw_2078 pw_2079 pw_2080 pw_1523 pw_2064) hV_X12_goesInto 0 9 rfl rfl rfl rfl (Nat.le_of_ble_eq_true rfl) dX12_beginsNow_709 ⟨Nat.le_of_ble_eq_true rfl, Nat.le_of_ble_eq_true rfl⟩ ⟨Nat.le_of_ble_eq_true rfl, Nat.le_of_ble_eq_true rfl⟩ (fun v353 u351 H locs hw352 hP hD hS => ?_)
    obtain ⟨nw354, is355⟩ := u351
    obtain ⟨hw352, h356, h357⟩ := hw352
    replace h356 : If (((B 12) n9) = -1) (nw354 = (nI n9) ∧ is355 = 0) := h356
    replace h357 : If (¬ ((B 12) n9) = -1) (nw354 = ((B 12) n9) ∧ is355 = 1) := h357
    obtain rfl : v353 = none := hw352
    have hP : va_P G.1 pCl (mW G h0 a (upd (upd (upd (upd (upd (upd (upd (upd (upd (upd (upd (upd (upd (upd (upd (upd (upd (upd (upd (upd (upd (upd F 49 (nI md)) 85 (nI im)) 97 (nI ct)) 98 (nI fl)) 99 (nI rmm)) 101 tds) 102 (nI op)) 111 (nI tp)) 115 (nI wn)) 116 (-1)) 117 (nI fu)) 118 rs0) 119 uc0) 120 (nI rd)) 121 ma0) 122 mc0) 123 ca) 124 mo) 125 nw354) 126 is355) 128 (nI on)) 130 (nI idn)) B) _ := hP
    have hD : va_D A (mW G h0 a (upd (upd (upd (upd (upd (upd (upd (upd (upd (upd (upd (upd (upd (upd (upd (upd (upd (upd (upd (upd (upd (upd F 49 (nI md)) 85 (nI im)) 97 (nI ct)) 98 (nI fl)) 99 (nI rmm)) 101 tds) 102 (nI op)) 111 (nI tp)) 115 (nI wn)) 116 (-1)) 117 (nI fu)) 118 rs0) 119 uc0) 120 (nI rd)) 121 ma0) 122 mc0) 123 ca) 124 mo) 125 nw354) 126 is355) 128 (nI on)) 130 (nI idn)) B) := hD
    refine W.widen (k := 0) (n := 0) (Nat.le_of_ble_eq_true rfl) (Nat.le_of_ble_eq_true rfl) ?_
    refine W.eq (g2 := F0 m 712 ls []) rfl ?_
    have hz358 : Nx Xs B gh nd T nm wr lz dc fd md pr bk M rmm fu (Phi gh ps op (rkN gh n9 false)) op tp wn fu rd on idn fl ct ((-1) : Int32) nw354 is355 uc0 := (by obtain ⟨y1, y2⟩ := h357 (by rw [hw12, ha1]; exact nI_m1 (by omega)); rw [y1, y2, hw12, ha1]; exact ha3)
    have hP : va_P G.1 pCl (mW G h0 a (upd (upd (upd (upd (upd (upd (upd (upd (upd (upd (upd (upd (upd (upd (upd (upd (upd (upd (upd (upd (upd (upd F 49 (nI md)) 85 (nI im)) 97 (nI ct)) 98 (nI fl)) 99 (nI rmm)) 101 tds) 102 (nI op)) 111 (nI tp)) 115 (nI wn)) 116 ((-1) : Int32)) 117 (nI fu)) 118 rs0) 119 uc0) 120 (nI rd)) 121 ma0) 122 mc0) 123 ca) 124 mo) 125 nw354) 126 is355) 128 (nI on)) 130 (nI idn)) B) _ := hP
    have hD : va_D A (mW G h0 a (upd (upd (upd (upd (upd (upd (upd (upd (upd (upd (upd (upd (upd (upd (upd (upd (upd (upd (upd (upd (upd (upd F 49 (nI md)) 85 (nI im)) 97 (nI ct)) 98 (nI fl)) 99 (nI rmm)) 101 tds) 102 (nI op)) 111 (nI tp)) 115 (nI wn)) 116 ((-1) : Int32)) 117 (nI fu)) 118 rs0) 119 uc0) 120 (nI rd)) 121 ma0) 122 mc0) 123 ca) 124 mo) 125 nw354) 126 is355) 128 (nI on)) 130 (nI idn)) B) := hD
    exact W.vret hx hb hr (fun t9 ht9 hW9 => ⟨⟨_, (op, tp, wn, fu, ((-1) : Int32), nw354, is355, rs0, uc0, on, idn, fl, ct, tds, ma0, mc0, ca, mo, rd, B), rfl, ⟨rfl, hz358⟩, by rw [ht9]; exact hP, hD⟩, hS.F ht9⟩) hS.2.2 dX12_beginsNow_712
  · clear hn44 hkr hko
    refine lv_aload_n hx hb dX12_beginsNow_0 rfl (lv_at hl 0 rfl) ?_
    refine r_get (v := .ref (a 9)) hx hb hown hq hE hP 17 38 tFX12_17 (by decide) pw_1439 rfl dX12_beginsNow_1 ?_
    refine lv_iload_n hx hb dX12_beginsNow_4 rfl (lv_at hl 1 rfl) ?_
    refine r_ldi (f := (B 9)) (j := n9) hx hb hE hP 9 (ma_9 G a _) rfl (by omega) (by decide) dX12_beginsNow_5 ?_
    refine lv_topi (fun x359 e360 => ?_)
    obtain rfl : x359 = 20 := e360.trans ((congrFun hw9 _).trans hkd)
    refine lv_istore_n (lv' := [(2, .int 20), (0, .ref h0), (1, .int (nI n9))]) hx hb dX12_beginsNow_6 rfl hl (by decide) rfl (fun ls hl => ?_)
    refine lv_iload_n hx hb dX12_beginsNow_7 rfl (lv_at hl 0 rfl) ?_
    refine lv_bipush (v := 30) hx hb dX12_beginsNow_8 (by decide) ?_
    refine lv_icmp_lt (tgt := 41) hx hb dX12_beginsNow_10 (by decide) (fun c361 => ?_) (fun c361 => absurd c361 (by decide))
    refine lv_iload_n hx hb dX12_beginsNow_41 rfl (lv_at hl 0 rfl) ?_
    refine lv_tableIn (tgt := 701) (off := 659) hx hb dX12_beginsNow_42 (by decide) (by decide) (by decide) (by decide) ?_
    refine lv_aload_n hx hb dX12_beginsNow_701 rfl (lv_at hl 1 rfl) ?_
    refine lv_iload_n hx hb dX12_beginsNow_702 rfl (lv_at hl 2 rfl) ?_
    refine lv_aload_n hx hb dX12_beginsNow_703 rfl (lv_at hl 1 rfl) ?_
    refine r_get (v := .ref (a 12)) hx hb hown hq hE hP 20 47 tFX12_20 (by decide) pw_1442 rfl dX12_beginsNow_704 ?_
    refine lv_iload_n hx hb dX12_beginsNow_707 rfl (lv_at hl 2 rfl) ?_
    refine r_ldi (f := (B 12)) (j := n9) hx hb hE hP 12 (ma_12 G a _) rfl (by omega) (by decide) dX12_beginsNow_708 ?_
    obtain ⟨jc, hj1, -⟩ := hPg.fs.kid hrm.2.2.1 hkd (by omega) (s := 1) (by omega) (by omega) (by decide) (by omega)
    obtain ⟨j1, ha1, ha2, ha3⟩ := hR.bK (uc := uc0) hkd (by omega) (by decide) (by decide) (by decide) rfl rfl (by omega)
    have hP : va_P G.1 pCl (mW G h0 a (upd (upd (upd (upd (upd (upd (upd (upd (upd (upd (upd (upd (upd (upd (upd (upd (upd (upd (upd (upd (upd (upd F 49 (nI md)) 85 (nI im)) 97 (nI ct)) 98 (nI fl)) 99 (nI rmm)) 101 tds) 102 (nI op)) 111 (nI tp)) 115 (nI wn)) 116 (-1)) 117 (nI fu)) 118 rs0) 119 uc0) 120 (nI rd)) 121 ma0) 122 mc0) 123 ca) 124 mo) 125 nw) 126 isn) 128 (nI on)) 130 (nI idn)) B) _ := hP
    have hD : va_D A (mW G h0 a (upd (upd (upd (upd (upd (upd (upd (upd (upd (upd (upd (upd (upd (upd (upd (upd (upd (upd (upd (upd (upd (upd F 49 (nI md)) 85 (nI im)) 97 (nI ct)) 98 (nI fl)) 99 (nI rmm)) 101 tds) 102 (nI op)) 111 (nI tp)) 115 (nI wn)) 116 (-1)) 117 (nI fu)) 118 rs0) 119 uc0) 120 (nI rd)) 121 ma0) 122 mc0) 123 ca) 124 mo) 125 nw) 126 isn) 128 (nI on)) 130 (nI idn)) B) := hD
    refine pc_V0 (G := G) (As := [.int (nI n9), .int ((B 12) n9)]) (rest := []) hx hb hml hown hq hE hX pX0_al hP hD hS hA hl.1 (R_goesInto l G h0 a (upd (upd (upd (upd (upd (upd (upd (upd (upd (upd (upd (upd (upd (upd (upd (upd (upd (upd (upd (upd (upd (upd F 49 (nI md)) 85 (nI im)) 97 (nI ct)) 98 (nI fl)) 99 (nI rmm)) 101 tds) 102 (nI op)) 111 (nI tp)) 115 (nI wn)) 116 (-1)) 117 (nI fu)) 118 rs0) 119 uc0) 120 (nI rd)) 121 ma0) 122 mc0) 123 ca) 124 mo) 125 nw) 126 isn) 128 (nI on)) 130 (nI idn)) B (nI n9) ((B 12) n9)) (gV pw_2078 pw_2079 pw_2080 pw_1523 pw_2064) hV_X12_goesInto 0 9 rfl rfl rfl rfl (Nat.le_of_ble_eq_true rfl) dX12_beginsNow_709 ⟨Nat.le_of_ble_eq_true rfl, Nat.le_of_ble_eq_true rfl⟩ ⟨Nat.le_of_ble_eq_true rfl, Nat.le_of_ble_eq_true rfl⟩ (fun v364 u362 H locs hw363 hP hD hS => ?_)
    obtain ⟨nw365, is366⟩ := u362
    obtain ⟨hw363, h367, h368⟩ := hw363
    replace h367 : If (((B 12) n9) = -1) (nw365 = (nI n9) ∧ is366 = 0) := h367
    replace h368 : If (¬ ((B 12) n9) = -1) (nw365 = ((B 12) n9) ∧ is366 = 1) := h368
    obtain rfl : v364 = none := hw363
    have hP : va_P G.1 pCl (mW G h0 a (upd (upd (upd (upd (upd (upd (upd (upd (upd (upd (upd (upd (upd (upd (upd (upd (upd (upd (upd (upd (upd (upd F 49 (nI md)) 85 (nI im)) 97 (nI ct)) 98 (nI fl)) 99 (nI rmm)) 101 tds) 102 (nI op)) 111 (nI tp)) 115 (nI wn)) 116 (-1)) 117 (nI fu)) 118 rs0) 119 uc0) 120 (nI rd)) 121 ma0) 122 mc0) 123 ca) 124 mo) 125 nw365) 126 is366) 128 (nI on)) 130 (nI idn)) B) _ := hP
    have hD : va_D A (mW G h0 a (upd (upd (upd (upd (upd (upd (upd (upd (upd (upd (upd (upd (upd (upd (upd (upd (upd (upd (upd (upd (upd (upd F 49 (nI md)) 85 (nI im)) 97 (nI ct)) 98 (nI fl)) 99 (nI rmm)) 101 tds) 102 (nI op)) 111 (nI tp)) 115 (nI wn)) 116 (-1)) 117 (nI fu)) 118 rs0) 119 uc0) 120 (nI rd)) 121 ma0) 122 mc0) 123 ca) 124 mo) 125 nw365) 126 is366) 128 (nI on)) 130 (nI idn)) B) := hD
    refine W.widen (k := 0) (n := 0) (Nat.le_of_ble_eq_true rfl) (Nat.le_of_ble_eq_true rfl) ?_
    refine W.eq (g2 := F0 m 712 ls []) rfl ?_
    have hz369 : Nx Xs B gh nd T nm wr lz dc fd md pr bk M rmm fu (Phi gh ps op (rkN gh n9 false)) op tp wn fu rd on idn fl ct ((-1) : Int32) nw365 is366 uc0 := (by obtain ⟨y1, y2⟩ := h368 (by rw [hw12, ha1]; exact nI_m1 (by omega)); rw [y1, y2, hw12, ha1]; exact ha3)
    have hP : va_P G.1 pCl (mW G h0 a (upd (upd (upd (upd (upd (upd (upd (upd (upd (upd (upd (upd (upd (upd (upd (upd (upd (upd (upd (upd (upd (upd F 49 (nI md)) 85 (nI im)) 97 (nI ct)) 98 (nI fl)) 99 (nI rmm)) 101 tds) 102 (nI op)) 111 (nI tp)) 115 (nI wn)) 116 ((-1) : Int32)) 117 (nI fu)) 118 rs0) 119 uc0) 120 (nI rd)) 121 ma0) 122 mc0) 123 ca) 124 mo) 125 nw365) 126 is366) 128 (nI on)) 130 (nI idn)) B) _ := hP
    have hD : va_D A (mW G h0 a (upd (upd (upd (upd (upd (upd (upd (upd (upd (upd (upd (upd (upd (upd (upd (upd (upd (upd (upd (upd (upd (upd F 49 (nI md)) 85 (nI im)) 97 (nI ct)) 98 (nI fl)) 99 (nI rmm)) 101 tds) 102 (nI op)) 111 (nI tp)) 115 (nI wn)) 116 ((-1) : Int32)) 117 (nI fu)) 118 rs0) 119 uc0) 120 (nI rd)) 121 ma0) 122 mc0) 123 ca) 124 mo) 125 nw365) 126 is366) 128 (nI on)) 130 (nI idn)) B) := hD
    exact W.vret hx hb hr (fun t9 ht9 hW9 => ⟨⟨_, (op, tp, wn, fu, ((-1) : Int32), nw365, is366, rs0, uc0, on, idn, fl, ct, tds, ma0, mc0, ca, mo, rd, B), rfl, ⟨rfl, hz369⟩, by rw [ht9]; exact hP, hD⟩, hS.F ht9⟩) hS.2.2 dX12_beginsNow_712
  · clear hn44 hkr hko
    refine lv_aload_n hx hb dX12_beginsNow_0 rfl (lv_at hl 0 rfl) ?_
    refine r_get (v := .ref (a 9)) hx hb hown hq hE hP 17 38 tFX12_17 (by decide) pw_1439 rfl dX12_beginsNow_1 ?_
    refine lv_iload_n hx hb dX12_beginsNow_4 rfl (lv_at hl 1 rfl) ?_
    refine r_ldi (f := (B 9)) (j := n9) hx hb hE hP 9 (ma_9 G a _) rfl (by omega) (by decide) dX12_beginsNow_5 ?_
    refine lv_topi (fun x370 e371 => ?_)
    obtain rfl : x370 = 21 := e371.trans ((congrFun hw9 _).trans hkd)
    refine lv_istore_n (lv' := [(2, .int 21), (0, .ref h0), (1, .int (nI n9))]) hx hb dX12_beginsNow_6 rfl hl (by decide) rfl (fun ls hl => ?_)
    refine lv_iload_n hx hb dX12_beginsNow_7 rfl (lv_at hl 0 rfl) ?_
    refine lv_bipush (v := 30) hx hb dX12_beginsNow_8 (by decide) ?_
    refine lv_icmp_lt (tgt := 41) hx hb dX12_beginsNow_10 (by decide) (fun c372 => ?_) (fun c372 => absurd c372 (by decide))
    refine lv_iload_n hx hb dX12_beginsNow_41 rfl (lv_at hl 0 rfl) ?_
    refine lv_tableIn (tgt := 701) (off := 659) hx hb dX12_beginsNow_42 (by decide) (by decide) (by decide) (by decide) ?_
    refine lv_aload_n hx hb dX12_beginsNow_701 rfl (lv_at hl 1 rfl) ?_
    refine lv_iload_n hx hb dX12_beginsNow_702 rfl (lv_at hl 2 rfl) ?_
    refine lv_aload_n hx hb dX12_beginsNow_703 rfl (lv_at hl 1 rfl) ?_
    refine r_get (v := .ref (a 12)) hx hb hown hq hE hP 20 47 tFX12_20 (by decide) pw_1442 rfl dX12_beginsNow_704 ?_
    refine lv_iload_n hx hb dX12_beginsNow_707 rfl (lv_at hl 2 rfl) ?_
    refine r_ldi (f := (B 12)) (j := n9) hx hb hE hP 12 (ma_12 G a _) rfl (by omega) (by decide) dX12_beginsNow_708 ?_
    obtain ⟨jc, hj1, -⟩ := hPg.fs.kid hrm.2.2.1 hkd (by omega) (s := 1) (by omega) (by omega) (by decide) (by omega)
    obtain ⟨j1, ha1, ha2, ha3⟩ := hR.bK (uc := uc0) hkd (by omega) (by decide) (by decide) (by decide) rfl rfl (by omega)
    have hP : va_P G.1 pCl (mW G h0 a (upd (upd (upd (upd (upd (upd (upd (upd (upd (upd (upd (upd (upd (upd (upd (upd (upd (upd (upd (upd (upd (upd F 49 (nI md)) 85 (nI im)) 97 (nI ct)) 98 (nI fl)) 99 (nI rmm)) 101 tds) 102 (nI op)) 111 (nI tp)) 115 (nI wn)) 116 (-1)) 117 (nI fu)) 118 rs0) 119 uc0) 120 (nI rd)) 121 ma0) 122 mc0) 123 ca) 124 mo) 125 nw) 126 isn) 128 (nI on)) 130 (nI idn)) B) _ := hP
    have hD : va_D A (mW G h0 a (upd (upd (upd (upd (upd (upd (upd (upd (upd (upd (upd (upd (upd (upd (upd (upd (upd (upd (upd (upd (upd (upd F 49 (nI md)) 85 (nI im)) 97 (nI ct)) 98 (nI fl)) 99 (nI rmm)) 101 tds) 102 (nI op)) 111 (nI tp)) 115 (nI wn)) 116 (-1)) 117 (nI fu)) 118 rs0) 119 uc0) 120 (nI rd)) 121 ma0) 122 mc0) 123 ca) 124 mo) 125 nw) 126 isn) 128 (nI on)) 130 (nI idn)) B) := hD
    refine pc_V0 (G := G) (As := [.int (nI n9), .int ((B 12) n9)]) (rest := []) hx hb hml hown hq hE hX pX0_al hP hD hS hA hl.1 (R_goesInto l G h0 a (upd (upd (upd (upd (upd (upd (upd (upd (upd (upd (upd (upd (upd (upd (upd (upd (upd (upd (upd (upd (upd (upd F 49 (nI md)) 85 (nI im)) 97 (nI ct)) 98 (nI fl)) 99 (nI rmm)) 101 tds) 102 (nI op)) 111 (nI tp)) 115 (nI wn)) 116 (-1)) 117 (nI fu)) 118 rs0) 119 uc0) 120 (nI rd)) 121 ma0) 122 mc0) 123 ca) 124 mo) 125 nw) 126 isn) 128 (nI on)) 130 (nI idn)) B (nI n9) ((B 12) n9)) (gV pw_2078 pw_2079 pw_2080 pw_1523 pw_2064) hV_X12_goesInto 0 9 rfl rfl rfl rfl (Nat.le_of_ble_eq_true rfl) dX12_beginsNow_709 ⟨Nat.le_of_ble_eq_true rfl, Nat.le_of_ble_eq_true rfl⟩ ⟨Nat.le_of_ble_eq_true rfl, Nat.le_of_ble_eq_true rfl⟩ (fun v375 u373 H locs hw374 hP hD hS => ?_)
    obtain ⟨nw376, is377⟩ := u373
    obtain ⟨hw374, h378, h379⟩ := hw374
    replace h378 : If (((B 12) n9) = -1) (nw376 = (nI n9) ∧ is377 = 0) := h378
    replace h379 : If (¬ ((B 12) n9) = -1) (nw376 = ((B 12) n9) ∧ is377 = 1) := h379
    obtain rfl : v375 = none := hw374
    have hP : va_P G.1 pCl (mW G h0 a (upd (upd (upd (upd (upd (upd (upd (upd (upd (upd (upd (upd (upd (upd (upd (upd (upd (upd (upd (upd (upd (upd F 49 (nI md)) 85 (nI im)) 97 (nI ct)) 98 (nI fl)) 99 (nI rmm)) 101 tds) 102 (nI op)) 111 (nI tp)) 115 (nI wn)) 116 (-1)) 117 (nI fu)) 118 rs0) 119 uc0) 120 (nI rd)) 121 ma0) 122 mc0) 123 ca) 124 mo) 125 nw376) 126 is377) 128 (nI on)) 130 (nI idn)) B) _ := hP
    have hD : va_D A (mW G h0 a (upd (upd (upd (upd (upd (upd (upd (upd (upd (upd (upd (upd (upd (upd (upd (upd (upd (upd (upd (upd (upd (upd F 49 (nI md)) 85 (nI im)) 97 (nI ct)) 98 (nI fl)) 99 (nI rmm)) 101 tds) 102 (nI op)) 111 (nI tp)) 115 (nI wn)) 116 (-1)) 117 (nI fu)) 118 rs0) 119 uc0) 120 (nI rd)) 121 ma0) 122 mc0) 123 ca) 124 mo) 125 nw376) 126 is377) 128 (nI on)) 130 (nI idn)) B) := hD
    refine W.widen (k := 0) (n := 0) (Nat.le_of_ble_eq_true rfl) (Nat.le_of_ble_eq_true rfl) ?_
    refine W.eq (g2 := F0 m 712 ls []) rfl ?_
    have hz380 : Nx Xs B gh nd T nm wr lz dc fd md pr bk M rmm fu (Phi gh ps op (rkN gh n9 false)) op tp wn fu rd on idn fl ct ((-1) : Int32) nw376 is377 uc0 := (by obtain ⟨y1, y2⟩ := h379 (by rw [hw12, ha1]; exact nI_m1 (by omega)); rw [y1, y2, hw12, ha1]; exact ha3)
    have hP : va_P G.1 pCl (mW G h0 a (upd (upd (upd (upd (upd (upd (upd (upd (upd (upd (upd (upd (upd (upd (upd (upd (upd (upd (upd (upd (upd (upd F 49 (nI md)) 85 (nI im)) 97 (nI ct)) 98 (nI fl)) 99 (nI rmm)) 101 tds) 102 (nI op)) 111 (nI tp)) 115 (nI wn)) 116 ((-1) : Int32)) 117 (nI fu)) 118 rs0) 119 uc0) 120 (nI rd)) 121 ma0) 122 mc0) 123 ca) 124 mo) 125 nw376) 126 is377) 128 (nI on)) 130 (nI idn)) B) _ := hP
    have hD : va_D A (mW G h0 a (upd (upd (upd (upd (upd (upd (upd (upd (upd (upd (upd (upd (upd (upd (upd (upd (upd (upd (upd (upd (upd (upd F 49 (nI md)) 85 (nI im)) 97 (nI ct)) 98 (nI fl)) 99 (nI rmm)) 101 tds) 102 (nI op)) 111 (nI tp)) 115 (nI wn)) 116 ((-1) : Int32)) 117 (nI fu)) 118 rs0) 119 uc0) 120 (nI rd)) 121 ma0) 122 mc0) 123 ca) 124 mo) 125 nw376) 126 is377) 128 (nI on)) 130 (nI idn)) B) := hD
    exact W.vret hx hb hr (fun t9 ht9 hW9 => ⟨⟨_, (op, tp, wn, fu, ((-1) : Int32), nw376, is377, rs0, uc0, on, idn, fl, ct, tds, ma0, mc0, ca, mo, rd, B), rfl, ⟨rfl, hz380⟩, by rw [ht9]; exact hP, hD⟩, hS.F ht9⟩) hS.2.2 dX12_beginsNow_712
  · clear hn44 hkr hko
    refine lv_aload_n hx hb dX12_beginsNow_0 rfl (lv_at hl 0 rfl) ?_
    refine r_get (v := .ref (a 9)) hx hb hown hq hE hP 17 38 tFX12_17 (by decide) pw_1439 rfl dX12_beginsNow_1 ?_
    refine lv_iload_n hx hb dX12_beginsNow_4 rfl (lv_at hl 1 rfl) ?_
    refine r_ldi (f := (B 9)) (j := n9) hx hb hE hP 9 (ma_9 G a _) rfl (by omega) (by decide) dX12_beginsNow_5 ?_
    refine lv_topi (fun x381 e382 => ?_)
    obtain rfl : x381 = 22 := e382.trans ((congrFun hw9 _).trans hkd)
    refine lv_istore_n (lv' := [(2, .int 22), (0, .ref h0), (1, .int (nI n9))]) hx hb dX12_beginsNow_6 rfl hl (by decide) rfl (fun ls hl => ?_)
    refine lv_iload_n hx hb dX12_beginsNow_7 rfl (lv_at hl 0 rfl) ?_
    refine lv_bipush (v := 30) hx hb dX12_beginsNow_8 (by decide) ?_
    refine lv_icmp_lt (tgt := 41) hx hb dX12_beginsNow_10 (by decide) (fun c383 => ?_) (fun c383 => absurd c383 (by decide))
    refine lv_iload_n hx hb dX12_beginsNow_41 rfl (lv_at hl 0 rfl) ?_
    refine lv_tableIn (tgt := 701) (off := 659) hx hb dX12_beginsNow_42 (by decide) (by decide) (by decide) (by decide) ?_
    refine lv_aload_n hx hb dX12_beginsNow_701 rfl (lv_at hl 1 rfl) ?_
    refine lv_iload_n hx hb dX12_beginsNow_702 rfl (lv_at hl 2 rfl) ?_
    refine lv_aload_n hx hb dX12_beginsNow_703 rfl (lv_at hl 1 rfl) ?_
    refine r_get (v := .ref (a 12)) hx hb hown hq hE hP 20 47 tFX12_20 (by decide) pw_1442 rfl dX12_beginsNow_704 ?_
    refine lv_iload_n hx hb dX12_beginsNow_707 rfl (lv_at hl 2 rfl) ?_
    refine r_ldi (f := (B 12)) (j := n9) hx hb hE hP 12 (ma_12 G a _) rfl (by omega) (by decide) dX12_beginsNow_708 ?_
    obtain ⟨jc, hj1, -⟩ := hPg.fs.kid hrm.2.2.1 hkd (by omega) (s := 1) (by omega) (by omega) (by decide) (by omega)
    obtain ⟨j1, ha1, ha2, ha3⟩ := hR.bK (uc := uc0) hkd (by omega) (by decide) (by decide) (by decide) rfl rfl (by omega)
    have hP : va_P G.1 pCl (mW G h0 a (upd (upd (upd (upd (upd (upd (upd (upd (upd (upd (upd (upd (upd (upd (upd (upd (upd (upd (upd (upd (upd (upd F 49 (nI md)) 85 (nI im)) 97 (nI ct)) 98 (nI fl)) 99 (nI rmm)) 101 tds) 102 (nI op)) 111 (nI tp)) 115 (nI wn)) 116 (-1)) 117 (nI fu)) 118 rs0) 119 uc0) 120 (nI rd)) 121 ma0) 122 mc0) 123 ca) 124 mo) 125 nw) 126 isn) 128 (nI on)) 130 (nI idn)) B) _ := hP
    have hD : va_D A (mW G h0 a (upd (upd (upd (upd (upd (upd (upd (upd (upd (upd (upd (upd (upd (upd (upd (upd (upd (upd (upd (upd (upd (upd F 49 (nI md)) 85 (nI im)) 97 (nI ct)) 98 (nI fl)) 99 (nI rmm)) 101 tds) 102 (nI op)) 111 (nI tp)) 115 (nI wn)) 116 (-1)) 117 (nI fu)) 118 rs0) 119 uc0) 120 (nI rd)) 121 ma0) 122 mc0) 123 ca) 124 mo) 125 nw) 126 isn) 128 (nI on)) 130 (nI idn)) B) := hD
    refine pc_V0 (G := G) (As := [.int (nI n9), .int ((B 12) n9)]) (rest := []) hx hb hml hown hq hE hX pX0_al hP hD hS hA hl.1 (R_goesInto l G h0 a (upd (upd (upd (upd (upd (upd (upd (upd (upd (upd (upd (upd (upd (upd (upd (upd (upd (upd (upd (upd (upd (upd F 49 (nI md)) 85 (nI im)) 97 (nI ct)) 98 (nI fl)) 99 (nI rmm)) 101 tds) 102 (nI op)) 111 (nI tp)) 115 (nI wn)) 116 (-1)) 117 (nI fu)) 118 rs0) 119 uc0) 120 (nI rd)) 121 ma0) 122 mc0) 123 ca) 124 mo) 125 nw) 126 isn) 128 (nI on)) 130 (nI idn)) B (nI n9) ((B 12) n9)) (gV pw_2078 pw_2079 pw_2080 pw_1523 pw_2064) hV_X12_goesInto 0 9 rfl rfl rfl rfl (Nat.le_of_ble_eq_true rfl) dX12_beginsNow_709 ⟨Nat.le_of_ble_eq_true rfl, Nat.le_of_ble_eq_true rfl⟩ ⟨Nat.le_of_ble_eq_true rfl, Nat.le_of_ble_eq_true rfl⟩ (fun v386 u384 H locs hw385 hP hD hS => ?_)
    obtain ⟨nw387, is388⟩ := u384
    obtain ⟨hw385, h389, h390⟩ := hw385
    replace h389 : If (((B 12) n9) = -1) (nw387 = (nI n9) ∧ is388 = 0) := h389
    replace h390 : If (¬ ((B 12) n9) = -1) (nw387 = ((B 12) n9) ∧ is388 = 1) := h390
    obtain rfl : v386 = none := hw385
    have hP : va_P G.1 pCl (mW G h0 a (upd (upd (upd (upd (upd (upd (upd (upd (upd (upd (upd (upd (upd (upd (upd (upd (upd (upd (upd (upd (upd (upd F 49 (nI md)) 85 (nI im)) 97 (nI ct)) 98 (nI fl)) 99 (nI rmm)) 101 tds) 102 (nI op)) 111 (nI tp)) 115 (nI wn)) 116 (-1)) 117 (nI fu)) 118 rs0) 119 uc0) 120 (nI rd)) 121 ma0) 122 mc0) 123 ca) 124 mo) 125 nw387) 126 is388) 128 (nI on)) 130 (nI idn)) B) _ := hP
    have hD : va_D A (mW G h0 a (upd (upd (upd (upd (upd (upd (upd (upd (upd (upd (upd (upd (upd (upd (upd (upd (upd (upd (upd (upd (upd (upd F 49 (nI md)) 85 (nI im)) 97 (nI ct)) 98 (nI fl)) 99 (nI rmm)) 101 tds) 102 (nI op)) 111 (nI tp)) 115 (nI wn)) 116 (-1)) 117 (nI fu)) 118 rs0) 119 uc0) 120 (nI rd)) 121 ma0) 122 mc0) 123 ca) 124 mo) 125 nw387) 126 is388) 128 (nI on)) 130 (nI idn)) B) := hD
    refine W.widen (k := 0) (n := 0) (Nat.le_of_ble_eq_true rfl) (Nat.le_of_ble_eq_true rfl) ?_
    refine W.eq (g2 := F0 m 712 ls []) rfl ?_
    have hz391 : Nx Xs B gh nd T nm wr lz dc fd md pr bk M rmm fu (Phi gh ps op (rkN gh n9 false)) op tp wn fu rd on idn fl ct ((-1) : Int32) nw387 is388 uc0 := (by obtain ⟨y1, y2⟩ := h390 (by rw [hw12, ha1]; exact nI_m1 (by omega)); rw [y1, y2, hw12, ha1]; exact ha3)
    have hP : va_P G.1 pCl (mW G h0 a (upd (upd (upd (upd (upd (upd (upd (upd (upd (upd (upd (upd (upd (upd (upd (upd (upd (upd (upd (upd (upd (upd F 49 (nI md)) 85 (nI im)) 97 (nI ct)) 98 (nI fl)) 99 (nI rmm)) 101 tds) 102 (nI op)) 111 (nI tp)) 115 (nI wn)) 116 ((-1) : Int32)) 117 (nI fu)) 118 rs0) 119 uc0) 120 (nI rd)) 121 ma0) 122 mc0) 123 ca) 124 mo) 125 nw387) 126 is388) 128 (nI on)) 130 (nI idn)) B) _ := hP
    have hD : va_D A (mW G h0 a (upd (upd (upd (upd (upd (upd (upd (upd (upd (upd (upd (upd (upd (upd (upd (upd (upd (upd (upd (upd (upd (upd F 49 (nI md)) 85 (nI im)) 97 (nI ct)) 98 (nI fl)) 99 (nI rmm)) 101 tds) 102 (nI op)) 111 (nI tp)) 115 (nI wn)) 116 ((-1) : Int32)) 117 (nI fu)) 118 rs0) 119 uc0) 120 (nI rd)) 121 ma0) 122 mc0) 123 ca) 124 mo) 125 nw387) 126 is388) 128 (nI on)) 130 (nI idn)) B) := hD
    exact W.vret hx hb hr (fun t9 ht9 hW9 => ⟨⟨_, (op, tp, wn, fu, ((-1) : Int32), nw387, is388, rs0, uc0, on, idn, fl, ct, tds, ma0, mc0, ca, mo, rd, B), rfl, ⟨rfl, hz391⟩, by rw [ht9]; exact hP, hD⟩, hS.F ht9⟩) hS.2.2 dX12_beginsNow_712
  · clear hn44 hkr hko
    refine lv_aload_n hx hb dX12_beginsNow_0 rfl (lv_at hl 0 rfl) ?_
    refine r_get (v := .ref (a 9)) hx hb hown hq hE hP 17 38 tFX12_17 (by decide) pw_1439 rfl dX12_beginsNow_1 ?_
    refine lv_iload_n hx hb dX12_beginsNow_4 rfl (lv_at hl 1 rfl) ?_
    refine r_ldi (f := (B 9)) (j := n9) hx hb hE hP 9 (ma_9 G a _) rfl (by omega) (by decide) dX12_beginsNow_5 ?_
    refine lv_topi (fun x392 e393 => ?_)
    obtain rfl : x392 = 23 := e393.trans ((congrFun hw9 _).trans hkd)
    refine lv_istore_n (lv' := [(2, .int 23), (0, .ref h0), (1, .int (nI n9))]) hx hb dX12_beginsNow_6 rfl hl (by decide) rfl (fun ls hl => ?_)
    refine lv_iload_n hx hb dX12_beginsNow_7 rfl (lv_at hl 0 rfl) ?_
    refine lv_bipush (v := 30) hx hb dX12_beginsNow_8 (by decide) ?_
    refine lv_icmp_lt (tgt := 41) hx hb dX12_beginsNow_10 (by decide) (fun c394 => ?_) (fun c394 => absurd c394 (by decide))
    refine lv_iload_n hx hb dX12_beginsNow_41 rfl (lv_at hl 0 rfl) ?_
    refine lv_tableIn (tgt := 701) (off := 659) hx hb dX12_beginsNow_42 (by decide) (by decide) (by decide) (by decide) ?_
    refine lv_aload_n hx hb dX12_beginsNow_701 rfl (lv_at hl 1 rfl) ?_
    refine lv_iload_n hx hb dX12_beginsNow_702 rfl (lv_at hl 2 rfl) ?_
    refine lv_aload_n hx hb dX12_beginsNow_703 rfl (lv_at hl 1 rfl) ?_
    refine r_get (v := .ref (a 12)) hx hb hown hq hE hP 20 47 tFX12_20 (by decide) pw_1442 rfl dX12_beginsNow_704 ?_
    refine lv_iload_n hx hb dX12_beginsNow_707 rfl (lv_at hl 2 rfl) ?_
    refine r_ldi (f := (B 12)) (j := n9) hx hb hE hP 12 (ma_12 G a _) rfl (by omega) (by decide) dX12_beginsNow_708 ?_
    obtain ⟨jc, hj1, -⟩ := hPg.fs.kid hrm.2.2.1 hkd (by omega) (s := 1) (by omega) (by omega) (by decide) (by omega)
    obtain ⟨j1, ha1, ha2, ha3⟩ := hR.bK (uc := uc0) hkd (by omega) (by decide) (by decide) (by decide) rfl rfl (by omega)
    have hP : va_P G.1 pCl (mW G h0 a (upd (upd (upd (upd (upd (upd (upd (upd (upd (upd (upd (upd (upd (upd (upd (upd (upd (upd (upd (upd (upd (upd F 49 (nI md)) 85 (nI im)) 97 (nI ct)) 98 (nI fl)) 99 (nI rmm)) 101 tds) 102 (nI op)) 111 (nI tp)) 115 (nI wn)) 116 (-1)) 117 (nI fu)) 118 rs0) 119 uc0) 120 (nI rd)) 121 ma0) 122 mc0) 123 ca) 124 mo) 125 nw) 126 isn) 128 (nI on)) 130 (nI idn)) B) _ := hP
    have hD : va_D A (mW G h0 a (upd (upd (upd (upd (upd (upd (upd (upd (upd (upd (upd (upd (upd (upd (upd (upd (upd (upd (upd (upd (upd (upd F 49 (nI md)) 85 (nI im)) 97 (nI ct)) 98 (nI fl)) 99 (nI rmm)) 101 tds) 102 (nI op)) 111 (nI tp)) 115 (nI wn)) 116 (-1)) 117 (nI fu)) 118 rs0) 119 uc0) 120 (nI rd)) 121 ma0) 122 mc0) 123 ca) 124 mo) 125 nw) 126 isn) 128 (nI on)) 130 (nI idn)) B) := hD
    refine pc_V0 (G := G) (As := [.int (nI n9), .int ((B 12) n9)]) (rest := []) hx hb hml hown hq hE hX pX0_al hP hD hS hA hl.1 (R_goesInto l G h0 a (upd (upd (upd (upd (upd (upd (upd (upd (upd (upd (upd (upd (upd (upd (upd (upd (upd (upd (upd (upd (upd (upd F 49 (nI md)) 85 (nI im)) 97 (nI ct)) 98 (nI fl)) 99 (nI rmm)) 101 tds) 102 (nI op)) 111 (nI tp)) 115 (nI wn)) 116 (-1)) 117 (nI fu)) 118 rs0) 119 uc0) 120 (nI rd)) 121 ma0) 122 mc0) 123 ca) 124 mo) 125 nw) 126 isn) 128 (nI on)) 130 (nI idn)) B (nI n9) ((B 12) n9)) (gV pw_2078 pw_2079 pw_2080 pw_1523 pw_2064) hV_X12_goesInto 0 9 rfl rfl rfl rfl (Nat.le_of_ble_eq_true rfl) dX12_beginsNow_709 ⟨Nat.le_of_ble_eq_true rfl, Nat.le_of_ble_eq_true rfl⟩ ⟨Nat.le_of_ble_eq_true rfl, Nat.le_of_ble_eq_true rfl⟩ (fun v397 u395 H locs hw396 hP hD hS => ?_)
    obtain ⟨nw398, is399⟩ := u395
    obtain ⟨hw396, h400, h401⟩ := hw396
    replace h400 : If (((B 12) n9) = -1) (nw398 = (nI n9) ∧ is399 = 0) := h400
    replace h401 : If (¬ ((B 12) n9) = -1) (nw398 = ((B 12) n9) ∧ is399 = 1) := h401
    obtain rfl : v397 = none := hw396
    have hP : va_P G.1 pCl (mW G h0 a (upd (upd (upd (upd (upd (upd (upd (upd (upd (upd (upd (upd (upd (upd (upd (upd (upd (upd (upd (upd (upd (upd F 49 (nI md)) 85 (nI im)) 97 (nI ct)) 98 (nI fl)) 99 (nI rmm)) 101 tds) 102 (nI op)) 111 (nI tp)) 115 (nI wn)) 116 (-1)) 117 (nI fu)) 118 rs0) 119 uc0) 120 (nI rd)) 121 ma0) 122 mc0) 123 ca) 124 mo) 125 nw398) 126 is399) 128 (nI on)) 130 (nI idn)) B) _ := hP
    have hD : va_D A (mW G h0 a (upd (upd (upd (upd (upd (upd (upd (upd (upd (upd (upd (upd (upd (upd (upd (upd (upd (upd (upd (upd (upd (upd F 49 (nI md)) 85 (nI im)) 97 (nI ct)) 98 (nI fl)) 99 (nI rmm)) 101 tds) 102 (nI op)) 111 (nI tp)) 115 (nI wn)) 116 (-1)) 117 (nI fu)) 118 rs0) 119 uc0) 120 (nI rd)) 121 ma0) 122 mc0) 123 ca) 124 mo) 125 nw398) 126 is399) 128 (nI on)) 130 (nI idn)) B) := hD
    refine W.widen (k := 0) (n := 0) (Nat.le_of_ble_eq_true rfl) (Nat.le_of_ble_eq_true rfl) ?_
    refine W.eq (g2 := F0 m 712 ls []) rfl ?_
    have hz402 : Nx Xs B gh nd T nm wr lz dc fd md pr bk M rmm fu (Phi gh ps op (rkN gh n9 false)) op tp wn fu rd on idn fl ct ((-1) : Int32) nw398 is399 uc0 := (by obtain ⟨y1, y2⟩ := h401 (by rw [hw12, ha1]; exact nI_m1 (by omega)); rw [y1, y2, hw12, ha1]; exact ha3)
    have hP : va_P G.1 pCl (mW G h0 a (upd (upd (upd (upd (upd (upd (upd (upd (upd (upd (upd (upd (upd (upd (upd (upd (upd (upd (upd (upd (upd (upd F 49 (nI md)) 85 (nI im)) 97 (nI ct)) 98 (nI fl)) 99 (nI rmm)) 101 tds) 102 (nI op)) 111 (nI tp)) 115 (nI wn)) 116 ((-1) : Int32)) 117 (nI fu)) 118 rs0) 119 uc0) 120 (nI rd)) 121 ma0) 122 mc0) 123 ca) 124 mo) 125 nw398) 126 is399) 128 (nI on)) 130 (nI idn)) B) _ := hP
    have hD : va_D A (mW G h0 a (upd (upd (upd (upd (upd (upd (upd (upd (upd (upd (upd (upd (upd (upd (upd (upd (upd (upd (upd (upd (upd (upd F 49 (nI md)) 85 (nI im)) 97 (nI ct)) 98 (nI fl)) 99 (nI rmm)) 101 tds) 102 (nI op)) 111 (nI tp)) 115 (nI wn)) 116 ((-1) : Int32)) 117 (nI fu)) 118 rs0) 119 uc0) 120 (nI rd)) 121 ma0) 122 mc0) 123 ca) 124 mo) 125 nw398) 126 is399) 128 (nI on)) 130 (nI idn)) B) := hD
    exact W.vret hx hb hr (fun t9 ht9 hW9 => ⟨⟨_, (op, tp, wn, fu, ((-1) : Int32), nw398, is399, rs0, uc0, on, idn, fl, ct, tds, ma0, mc0, ca, mo, rd, B), rfl, ⟨rfl, hz402⟩, by rw [ht9]; exact hP, hD⟩, hS.F ht9⟩) hS.2.2 dX12_beginsNow_712
  · clear hn44 hkr hko
    refine lv_aload_n hx hb dX12_beginsNow_0 rfl (lv_at hl 0 rfl) ?_
    refine r_get (v := .ref (a 9)) hx hb hown hq hE hP 17 38 tFX12_17 (by decide) pw_1439 rfl dX12_beginsNow_1 ?_
    refine lv_iload_n hx hb dX12_beginsNow_4 rfl (lv_at hl 1 rfl) ?_
    refine r_ldi (f := (B 9)) (j := n9) hx hb hE hP 9 (ma_9 G a _) rfl (by omega) (by decide) dX12_beginsNow_5 ?_
    refine lv_topi (fun x403 e404 => ?_)
    obtain rfl : x403 = 30 := e404.trans ((congrFun hw9 _).trans hkd)
    refine lv_istore_n (lv' := [(2, .int 30), (0, .ref h0), (1, .int (nI n9))]) hx hb dX12_beginsNow_6 rfl hl (by decide) rfl (fun ls hl => ?_)
    refine lv_iload_n hx hb dX12_beginsNow_7 rfl (lv_at hl 0 rfl) ?_
    refine lv_bipush (v := 30) hx hb dX12_beginsNow_8 (by decide) ?_
    refine lv_icmp_lt (tgt := 41) hx hb dX12_beginsNow_10 (by decide) (fun c405 => absurd c405 (by decide)) (fun c405 => ?_)
    refine lv_iload_n hx hb dX12_beginsNow_13 rfl (lv_at hl 0 rfl) ?_
    refine lv_bipush (v := 31) hx hb dX12_beginsNow_14 (by decide) ?_
    refine lv_icmp_eq (tgt := 41) hx hb dX12_beginsNow_16 (by decide) (fun c406 => absurd c406 (by decide)) (fun c406 => ?_)
    refine lv_iload_n hx hb dX12_beginsNow_19 rfl (lv_at hl 0 rfl) ?_
    refine lv_bipush (v := 43) hx hb dX12_beginsNow_20 (by decide) ?_
    refine lv_icmp_eq (tgt := 41) hx hb dX12_beginsNow_22 (by decide) (fun c407 => absurd c407 (by decide)) (fun c407 => ?_)
    refine lv_aload_n hx hb dX12_beginsNow_25 rfl (lv_at hl 1 rfl) ?_
    refine lv_iload_n hx hb dX12_beginsNow_26 rfl (lv_at hl 2 rfl) ?_
    have hP : va_P G.1 pCl (mW G h0 a (upd (upd (upd (upd (upd (upd (upd (upd (upd (upd (upd (upd (upd (upd (upd (upd (upd (upd (upd (upd (upd (upd F 49 (nI md)) 85 (nI im)) 97 (nI ct)) 98 (nI fl)) 99 (nI rmm)) 101 tds) 102 (nI op)) 111 (nI tp)) 115 (nI wn)) 116 (-1)) 117 (nI fu)) 118 rs0) 119 uc0) 120 (nI rd)) 121 ma0) 122 mc0) 123 ca) 124 mo) 125 nw) 126 isn) 128 (nI on)) 130 (nI idn)) B) _ := hP
    have hD : va_D A (mW G h0 a (upd (upd (upd (upd (upd (upd (upd (upd (upd (upd (upd (upd (upd (upd (upd (upd (upd (upd (upd (upd (upd (upd F 49 (nI md)) 85 (nI im)) 97 (nI ct)) 98 (nI fl)) 99 (nI rmm)) 101 tds) 102 (nI op)) 111 (nI tp)) 115 (nI wn)) 116 (-1)) 117 (nI fu)) 118 rs0) 119 uc0) 120 (nI rd)) 121 ma0) 122 mc0) 123 ca) 124 mo) 125 nw) 126 isn) 128 (nI on)) 130 (nI idn)) B) := hD
    refine pc_V0 (G := G) (As := [.int (nI n9)]) (rest := []) hx hb hml hown hq hE hX pX0_al hP hD hS hA hl.1 (R_isFirst l G h0 a (upd (upd (upd (upd (upd (upd (upd (upd (upd (upd (upd (upd (upd (upd (upd (upd (upd (upd (upd (upd (upd (upd F 49 (nI md)) 85 (nI im)) 97 (nI ct)) 98 (nI fl)) 99 (nI rmm)) 101 tds) 102 (nI op)) 111 (nI tp)) 115 (nI wn)) 116 (-1)) 117 (nI fu)) 118 rs0) 119 uc0) 120 (nI rd)) 121 ma0) 122 mc0) 123 ca) 124 mo) 125 nw) 126 isn) 128 (nI on)) 130 (nI idn)) B n9 nd (by omega) (by omega) (hR.upP hR.rt.2.2)) (gV pw_2066 pw_2067 pw_2068 pw_1523 pw_2020) hV_X12_isFirst 0 9 rfl rfl rfl rfl (Nat.le_of_ble_eq_true rfl) dX12_beginsNow_27 ⟨Nat.le_of_ble_eq_true rfl, Nat.le_of_ble_eq_true rfl⟩ ⟨Nat.le_of_ble_eq_true rfl, Nat.le_of_ble_eq_true rfl⟩ (fun v410 u408 H locs hw409 hP hD hS => ?_)
    obtain ⟨r411, rfl⟩ : ∃ z, z = u408 := ⟨_, rfl⟩
    obtain ⟨hw409, h412⟩ := hw409
    replace h412 : r411 ≤ 1 := h412
    obtain rfl : v410 = some (.int (nI r411)) := hw409
    have hP : va_P G.1 pCl (mW G h0 a (upd (upd (upd (upd (upd (upd (upd (upd (upd (upd (upd (upd (upd (upd (upd (upd (upd (upd (upd (upd (upd (upd F 49 (nI md)) 85 (nI im)) 97 (nI ct)) 98 (nI fl)) 99 (nI rmm)) 101 tds) 102 (nI op)) 111 (nI tp)) 115 (nI wn)) 116 (-1)) 117 (nI fu)) 118 rs0) 119 uc0) 120 (nI rd)) 121 ma0) 122 mc0) 123 ca) 124 mo) 125 nw) 126 isn) 128 (nI on)) 130 (nI idn)) B) _ := hP
    have hD : va_D A (mW G h0 a (upd (upd (upd (upd (upd (upd (upd (upd (upd (upd (upd (upd (upd (upd (upd (upd (upd (upd (upd (upd (upd (upd F 49 (nI md)) 85 (nI im)) 97 (nI ct)) 98 (nI fl)) 99 (nI rmm)) 101 tds) 102 (nI op)) 111 (nI tp)) 115 (nI wn)) 116 (-1)) 117 (nI fu)) 118 rs0) 119 uc0) 120 (nI rd)) 121 ma0) 122 mc0) 123 ca) 124 mo) 125 nw) 126 isn) 128 (nI on)) 130 (nI idn)) B) := hD
    refine W.widen (k := 0) (n := 0) (Nat.le_of_ble_eq_true rfl) (Nat.le_of_ble_eq_true rfl) ?_
    refine W.eq (g2 := F0 m 30 ls [.int (nI r411)]) rfl ?_
    refine lv_if_ne (tgt := 41) hx hb dX12_beginsNow_30 (by decide) (fun c413 => ?_) (fun c413 => ?_)
    · have n414 : ¬ (r411 = 0) := fun h9 => c413 ((nI_eq (a := r411) (b := 0) (by omega) (by omega)).mpr h9)
      refine lv_iload_n hx hb dX12_beginsNow_41 rfl (lv_at hl 0 rfl) ?_
      refine lv_tableIn (tgt := 476) (off := 434) hx hb dX12_beginsNow_42 (by decide) (by decide) (by decide) (by decide) ?_
      obtain ⟨v9, y9, t9, hs1, hs2, hs3, hs4, hs5, hs6, hs7⟩ := hR.b30 (uc := uc0) hkd
      refine lv_aload_n hx hb dX12_beginsNow_476 rfl (lv_at hl 1 rfl) ?_
      refine r_get (v := .ref (a 66)) hx hb hown hq hE hP 107 211 tFX12_107 (by decide) pw_1498 rfl dX12_beginsNow_477 ?_
      refine lv_aload_n hx hb dX12_beginsNow_480 rfl (lv_at hl 1 rfl) ?_
      refine lv_aload_n hx hb dX12_beginsNow_481 rfl (lv_at hl 1 rfl) ?_
      refine r_get (v := .ref (a 18)) hx hb hown hq hE hP 26 65 tFX12_26 (by decide) pw_1448 rfl dX12_beginsNow_482 ?_
      refine lv_iload_n hx hb dX12_beginsNow_485 rfl (lv_at hl 2 rfl) ?_
      refine r_ldi (f := (B 18)) (j := n9) hx hb hE hP 18 (ma_18 G a _) rfl (by omega) (by decide) dX12_beginsNow_486 ?_
      refine lv_topi (fun x415 e416 => ?_)
      obtain rfl : x415 = nI v9 := e416.trans hs1
      have hP : va_P G.1 pCl (mW G h0 a (upd (upd (upd (upd (upd (upd (upd (upd (upd (upd (upd (upd (upd (upd (upd (upd (upd (upd (upd (upd (upd (upd (upd F 49 (nI md)) 85 (nI im)) 97 (nI ct)) 98 (nI fl)) 99 (nI rmm)) 101 tds) 102 (nI op)) 111 (nI tp)) 115 (nI wn)) 116 (-1)) 117 (nI fu)) 118 rs0) 119 uc0) 120 (nI rd)) 121 ma0) 122 mc0) 123 ca) 124 mo) 125 nw) 126 isn) 128 (nI on)) 130 (nI idn)) 102 (nI op)) B) _ := hP
      have hD : va_D A (mW G h0 a (upd (upd (upd (upd (upd (upd (upd (upd (upd (upd (upd (upd (upd (upd (upd (upd (upd (upd (upd (upd (upd (upd (upd F 49 (nI md)) 85 (nI im)) 97 (nI ct)) 98 (nI fl)) 99 (nI rmm)) 101 tds) 102 (nI op)) 111 (nI tp)) 115 (nI wn)) 116 (-1)) 117 (nI fu)) 118 rs0) 119 uc0) 120 (nI rd)) 121 ma0) 122 mc0) 123 ca) 124 mo) 125 nw) 126 isn) 128 (nI on)) 130 (nI idn)) 102 (nI op)) B) := hD
      refine pc_V0 (G := G) (As := [.int (nI v9)]) (rest := [.ref (a 66)]) hx hb hml hown hq hE hX pX0_al hP hD hS hA hl.1 (R_at32 l G h0 a (upd (upd (upd (upd (upd (upd (upd (upd (upd (upd (upd (upd (upd (upd (upd (upd (upd (upd (upd (upd (upd (upd F 49 (nI md)) 85 (nI im)) 97 (nI ct)) 98 (nI fl)) 99 (nI rmm)) 101 tds) 102 (nI op)) 111 (nI tp)) 115 (nI wn)) 116 (-1)) 117 (nI fu)) 118 rs0) 119 uc0) 120 (nI rd)) 121 ma0) 122 mc0) 123 ca) 124 mo) 125 nw) 126 isn) 128 (nI on)) 130 (nI idn)) B v9 op (by omega) (by omega)) (gV pw_2040 pw_2041 pw_2042 pw_1523 pw_2013) hV_X12_at32 0 9 rfl rfl rfl rfl (Nat.le_of_ble_eq_true rfl) dX12_beginsNow_487 ⟨Nat.le_of_ble_eq_true rfl, Nat.le_of_ble_eq_true rfl⟩ ⟨Nat.le_of_ble_eq_true rfl, Nat.le_of_ble_eq_true rfl⟩ (fun v419 u417 H locs hw418 hP hD hS => ?_)
      obtain rfl : v419 = some (.int (nI (32 * (op - 1) + v9))) := hw418
      have hP : va_P G.1 pCl (mW G h0 a (upd (upd (upd (upd (upd (upd (upd (upd (upd (upd (upd (upd (upd (upd (upd (upd (upd (upd (upd (upd (upd (upd F 49 (nI md)) 85 (nI im)) 97 (nI ct)) 98 (nI fl)) 99 (nI rmm)) 101 tds) 102 (nI op)) 111 (nI tp)) 115 (nI wn)) 116 (-1)) 117 (nI fu)) 118 rs0) 119 uc0) 120 (nI rd)) 121 ma0) 122 mc0) 123 ca) 124 mo) 125 nw) 126 isn) 128 (nI on)) 130 (nI idn)) B) _ := hP
      have hD : va_D A (mW G h0 a (upd (upd (upd (upd (upd (upd (upd (upd (upd (upd (upd (upd (upd (upd (upd (upd (upd (upd (upd (upd (upd (upd F 49 (nI md)) 85 (nI im)) 97 (nI ct)) 98 (nI fl)) 99 (nI rmm)) 101 tds) 102 (nI op)) 111 (nI tp)) 115 (nI wn)) 116 (-1)) 117 (nI fu)) 118 rs0) 119 uc0) 120 (nI rd)) 121 ma0) 122 mc0) 123 ca) 124 mo) 125 nw) 126 isn) 128 (nI on)) 130 (nI idn)) B) := hD
      refine W.widen (k := 0) (n := 0) (Nat.le_of_ble_eq_true rfl) (Nat.le_of_ble_eq_true rfl) ?_
      refine W.eq (g2 := F0 m 490 ls [.int (nI (32 * (op - 1) + v9)), .ref (a 66)]) rfl ?_
      refine lv_iconst (v := 0) hx hb dX12_beginsNow_490 (by decide) ?_
      refine r_sti (f := (B 66)) (j := (32 * (op - 1) + v9)) hx hb hE hP hD hS 66 (ma_66 G a _) rfl (mas_66 G a _) (by omega) (by decide) dX12_beginsNow_491 (fun H locs hP hD hS => ?_)
      refine lv_aload_n hx hb dX12_beginsNow_492 rfl (lv_at hl 1 rfl) ?_
      refine r_get (v := .ref (a 67)) hx hb hown hq hE hP 108 214 tFX12_108 (by decide) pw_1499 rfl dX12_beginsNow_493 ?_
      refine lv_aload_n hx hb dX12_beginsNow_496 rfl (lv_at hl 1 rfl) ?_
      refine lv_aload_n hx hb dX12_beginsNow_497 rfl (lv_at hl 1 rfl) ?_
      refine r_get (v := .ref (a 18)) hx hb hown hq hE hP 26 65 tFX12_26 (by decide) pw_1448 rfl dX12_beginsNow_498 ?_
      refine lv_iload_n hx hb dX12_beginsNow_501 rfl (lv_at hl 2 rfl) ?_
      refine r_ldi (f := (B 18)) (j := n9) hx hb hE hP 18 (ma_18 G a _) rfl (by omega) (by decide) dX12_beginsNow_502 ?_
      refine lv_topi (fun x420 e421 => ?_)
      obtain rfl : x420 = nI v9 := e421.trans hs1
      have hP : va_P G.1 pCl (mW G h0 a (upd (upd (upd (upd (upd (upd (upd (upd (upd (upd (upd (upd (upd (upd (upd (upd (upd (upd (upd (upd (upd (upd (upd F 49 (nI md)) 85 (nI im)) 97 (nI ct)) 98 (nI fl)) 99 (nI rmm)) 101 tds) 102 (nI op)) 111 (nI tp)) 115 (nI wn)) 116 (-1)) 117 (nI fu)) 118 rs0) 119 uc0) 120 (nI rd)) 121 ma0) 122 mc0) 123 ca) 124 mo) 125 nw) 126 isn) 128 (nI on)) 130 (nI idn)) 102 (nI op)) (updA B 66 (upd (B 66) (32 * (op - 1) + v9) 0))) _ := hP
      have hD : va_D A (mW G h0 a (upd (upd (upd (upd (upd (upd (upd (upd (upd (upd (upd (upd (upd (upd (upd (upd (upd (upd (upd (upd (upd (upd (upd F 49 (nI md)) 85 (nI im)) 97 (nI ct)) 98 (nI fl)) 99 (nI rmm)) 101 tds) 102 (nI op)) 111 (nI tp)) 115 (nI wn)) 116 (-1)) 117 (nI fu)) 118 rs0) 119 uc0) 120 (nI rd)) 121 ma0) 122 mc0) 123 ca) 124 mo) 125 nw) 126 isn) 128 (nI on)) 130 (nI idn)) 102 (nI op)) (updA B 66 (upd (B 66) (32 * (op - 1) + v9) 0))) := hD
      refine pc_V0 (G := G) (As := [.int (nI v9)]) (rest := [.ref (a 67)]) hx hb hml hown hq hE hX pX0_al hP hD hS hA hl.1 (R_at32 l G h0 a (upd (upd (upd (upd (upd (upd (upd (upd (upd (upd (upd (upd (upd (upd (upd (upd (upd (upd (upd (upd (upd (upd F 49 (nI md)) 85 (nI im)) 97 (nI ct)) 98 (nI fl)) 99 (nI rmm)) 101 tds) 102 (nI op)) 111 (nI tp)) 115 (nI wn)) 116 (-1)) 117 (nI fu)) 118 rs0) 119 uc0) 120 (nI rd)) 121 ma0) 122 mc0) 123 ca) 124 mo) 125 nw) 126 isn) 128 (nI on)) 130 (nI idn)) (updA B 66 (upd (B 66) (32 * (op - 1) + v9) 0)) v9 op (by omega) (by omega)) (gV pw_2040 pw_2041 pw_2042 pw_1523 pw_2013) hV_X12_at32 0 9 rfl rfl rfl rfl (Nat.le_of_ble_eq_true rfl) dX12_beginsNow_503 ⟨Nat.le_of_ble_eq_true rfl, Nat.le_of_ble_eq_true rfl⟩ ⟨Nat.le_of_ble_eq_true rfl, Nat.le_of_ble_eq_true rfl⟩ (fun v424 u422 H locs hw423 hP hD hS => ?_)
      obtain rfl : v424 = some (.int (nI (32 * (op - 1) + v9))) := hw423
      have hP : va_P G.1 pCl (mW G h0 a (upd (upd (upd (upd (upd (upd (upd (upd (upd (upd (upd (upd (upd (upd (upd (upd (upd (upd (upd (upd (upd (upd F 49 (nI md)) 85 (nI im)) 97 (nI ct)) 98 (nI fl)) 99 (nI rmm)) 101 tds) 102 (nI op)) 111 (nI tp)) 115 (nI wn)) 116 (-1)) 117 (nI fu)) 118 rs0) 119 uc0) 120 (nI rd)) 121 ma0) 122 mc0) 123 ca) 124 mo) 125 nw) 126 isn) 128 (nI on)) 130 (nI idn)) (updA B 66 (upd (B 66) (32 * (op - 1) + v9) 0))) _ := hP
      have hD : va_D A (mW G h0 a (upd (upd (upd (upd (upd (upd (upd (upd (upd (upd (upd (upd (upd (upd (upd (upd (upd (upd (upd (upd (upd (upd F 49 (nI md)) 85 (nI im)) 97 (nI ct)) 98 (nI fl)) 99 (nI rmm)) 101 tds) 102 (nI op)) 111 (nI tp)) 115 (nI wn)) 116 (-1)) 117 (nI fu)) 118 rs0) 119 uc0) 120 (nI rd)) 121 ma0) 122 mc0) 123 ca) 124 mo) 125 nw) 126 isn) 128 (nI on)) 130 (nI idn)) (updA B 66 (upd (B 66) (32 * (op - 1) + v9) 0))) := hD
      refine W.widen (k := 0) (n := 0) (Nat.le_of_ble_eq_true rfl) (Nat.le_of_ble_eq_true rfl) ?_
      refine W.eq (g2 := F0 m 506 ls [.int (nI (32 * (op - 1) + v9)), .ref (a 67)]) rfl ?_
      refine lv_aload_n hx hb dX12_beginsNow_506 rfl (lv_at hl 1 rfl) ?_
      refine lv_aload_n hx hb dX12_beginsNow_507 rfl (lv_at hl 1 rfl) ?_
      refine r_get (v := .ref (a 21)) hx hb hown hq hE hP 30 75 tFX12_30 (by decide) pw_1452 rfl dX12_beginsNow_508 ?_
      refine lv_aload_n hx hb dX12_beginsNow_511 rfl (lv_at hl 1 rfl) ?_
      refine r_get (v := .ref (a 12)) hx hb hown hq hE hP 20 47 tFX12_20 (by decide) pw_1442 rfl dX12_beginsNow_512 ?_
      refine lv_iload_n hx hb dX12_beginsNow_515 rfl (lv_at hl 2 rfl) ?_
      refine r_ldi (f := (B 12)) (j := n9) hx hb hE hP 12 (ma_12 G a _) rfl (by omega) (by decide) dX12_beginsNow_516 ?_
      refine lv_topi (fun x425 e426 => ?_)
      obtain rfl : x425 = nI y9 := e426.trans ((congrFun hw12 _).trans hs3)
      refine r_ldi (f := (B 21)) (j := y9) hx hb hE hP 21 (ma_21 G a _) rfl (by omega) (by decide) dX12_beginsNow_517 ?_
      refine lv_topi (fun x427 e428 => ?_)
      obtain rfl : x427 = nI t9 := e428.trans ((congrFun hw21 _).trans hs5)
      have hP : va_P G.1 pCl (mW G h0 a (upd (upd (upd (upd (upd (upd (upd (upd (upd (upd (upd (upd (upd (upd (upd (upd (upd (upd (upd (upd (upd (upd F 49 (nI md)) 85 (nI im)) 97 (nI ct)) 98 (nI fl)) 99 (nI rmm)) 101 tds) 102 (nI op)) 111 (nI tp)) 115 (nI wn)) 116 (-1)) 117 (nI fu)) 118 rs0) 119 uc0) 120 (nI rd)) 121 ma0) 122 mc0) 123 ca) 124 mo) 125 nw) 126 isn) 128 (nI on)) 130 (nI idn)) (updA B 66 (upd (B 66) (32 * (op - 1) + v9) 0))) _ := hP
      have hD : va_D A (mW G h0 a (upd (upd (upd (upd (upd (upd (upd (upd (upd (upd (upd (upd (upd (upd (upd (upd (upd (upd (upd (upd (upd (upd F 49 (nI md)) 85 (nI im)) 97 (nI ct)) 98 (nI fl)) 99 (nI rmm)) 101 tds) 102 (nI op)) 111 (nI tp)) 115 (nI wn)) 116 (-1)) 117 (nI fu)) 118 rs0) 119 uc0) 120 (nI rd)) 121 ma0) 122 mc0) 123 ca) 124 mo) 125 nw) 126 isn) 128 (nI on)) 130 (nI idn)) (updA B 66 (upd (B 66) (32 * (op - 1) + v9) 0))) := hD
      refine pc_V0 (G := G) (As := [.int (nI t9)]) (rest := [.int (nI (32 * (op - 1) + v9)), .ref (a 67)]) hx hb hml hown hq hE hX pX0_al hP hD hS hA hl.1 (R_isReference l G h0 a (upd (upd (upd (upd (upd (upd (upd (upd (upd (upd (upd (upd (upd (upd (upd (upd (upd (upd (upd (upd (upd (upd F 49 (nI md)) 85 (nI im)) 97 (nI ct)) 98 (nI fl)) 99 (nI rmm)) 101 tds) 102 (nI op)) 111 (nI tp)) 115 (nI wn)) 116 (-1)) 117 (nI fu)) 118 rs0) 119 uc0) 120 (nI rd)) 121 ma0) 122 mc0) 123 ca) 124 mo) 125 nw) 126 isn) 128 (nI on)) 130 (nI idn)) (updA B 66 (upd (B 66) (32 * (op - 1) + v9) 0)) t9 (by omega)) (gV pw_1783 pw_1784 pw_1785 pw_1523 pw_1779) hV_X12_isReference 0 9 rfl rfl rfl rfl (Nat.le_of_ble_eq_true rfl) dX12_beginsNow_518 ⟨Nat.le_of_ble_eq_true rfl, Nat.le_of_ble_eq_true rfl⟩ ⟨Nat.le_of_ble_eq_true rfl, Nat.le_of_ble_eq_true rfl⟩ (fun v431 u429 H locs hw430 hP hD hS => ?_)
      obtain ⟨r432, rfl⟩ : ∃ z, z = u429 := ⟨_, rfl⟩
      obtain ⟨hw430, h433, h434, h435⟩ := hw430
      replace h433 : r432 ≤ 1 := h433
      replace h434 : 3 * r432 ≤ t9 := h434
      replace h435 : t9 ≤ 2 + 9000 * r432 := h435
      obtain rfl : v431 = some (.int (nI r432)) := hw430
      have hP : va_P G.1 pCl (mW G h0 a (upd (upd (upd (upd (upd (upd (upd (upd (upd (upd (upd (upd (upd (upd (upd (upd (upd (upd (upd (upd (upd (upd F 49 (nI md)) 85 (nI im)) 97 (nI ct)) 98 (nI fl)) 99 (nI rmm)) 101 tds) 102 (nI op)) 111 (nI tp)) 115 (nI wn)) 116 (-1)) 117 (nI fu)) 118 rs0) 119 uc0) 120 (nI rd)) 121 ma0) 122 mc0) 123 ca) 124 mo) 125 nw) 126 isn) 128 (nI on)) 130 (nI idn)) (updA B 66 (upd (B 66) (32 * (op - 1) + v9) 0))) _ := hP
      have hD : va_D A (mW G h0 a (upd (upd (upd (upd (upd (upd (upd (upd (upd (upd (upd (upd (upd (upd (upd (upd (upd (upd (upd (upd (upd (upd F 49 (nI md)) 85 (nI im)) 97 (nI ct)) 98 (nI fl)) 99 (nI rmm)) 101 tds) 102 (nI op)) 111 (nI tp)) 115 (nI wn)) 116 (-1)) 117 (nI fu)) 118 rs0) 119 uc0) 120 (nI rd)) 121 ma0) 122 mc0) 123 ca) 124 mo) 125 nw) 126 isn) 128 (nI on)) 130 (nI idn)) (updA B 66 (upd (B 66) (32 * (op - 1) + v9) 0))) := hD
      refine W.widen (k := 0) (n := 0) (Nat.le_of_ble_eq_true rfl) (Nat.le_of_ble_eq_true rfl) ?_
      refine W.eq (g2 := F0 m 521 ls [.int (nI r432), .int (nI (32 * (op - 1) + v9)), .ref (a 67)]) rfl ?_
      refine r_stz (f := (B 67)) (j := (32 * (op - 1) + v9)) hx hb hE hP hD hS 67 (ma_67 G a _) rfl (mas_67 G a _) (by omega) (by decide) dX12_beginsNow_521 (fun H locs hP hD hS => ?_)
      have hbt436 : vp_nar .boolean (nI r432) = nI r432 := vp_bit (by omega)
      rw [hbt436] at hP hD
      have hP : va_P G.1 pCl (mW G h0 a (upd (upd (upd (upd (upd (upd (upd (upd (upd (upd (upd (upd (upd (upd (upd (upd (upd (upd (upd (upd (upd (upd F 49 (nI md)) 85 (nI im)) 97 (nI ct)) 98 (nI fl)) 99 (nI rmm)) 101 tds) 102 (nI op)) 111 (nI tp)) 115 (nI wn)) 116 (-1)) 117 (nI fu)) 118 rs0) 119 uc0) 120 (nI rd)) 121 ma0) 122 mc0) 123 ca) 124 mo) 125 nw) 126 isn) 128 (nI on)) 130 (nI idn)) (updA (updA B 66 (upd (B 66) (32 * (op - 1) + v9) 0)) 67 (upd (B 67) (32 * (op - 1) + v9) (nI r432)))) _ := hP
      have hD : va_D A (mW G h0 a (upd (upd (upd (upd (upd (upd (upd (upd (upd (upd (upd (upd (upd (upd (upd (upd (upd (upd (upd (upd (upd (upd F 49 (nI md)) 85 (nI im)) 97 (nI ct)) 98 (nI fl)) 99 (nI rmm)) 101 tds) 102 (nI op)) 111 (nI tp)) 115 (nI wn)) 116 (-1)) 117 (nI fu)) 118 rs0) 119 uc0) 120 (nI rd)) 121 ma0) 122 mc0) 123 ca) 124 mo) 125 nw) 126 isn) 128 (nI on)) 130 (nI idn)) (updA (updA B 66 (upd (B 66) (32 * (op - 1) + v9) 0)) 67 (upd (B 67) (32 * (op - 1) + v9) (nI r432)))) := hD
      refine lv_aload_n hx hb dX12_beginsNow_522 rfl (lv_at hl 1 rfl) ?_
      refine r_get (v := .ref (a 63)) hx hb hown hq hE hP 104 202 tFX12_104 (by decide) pw_1495 rfl dX12_beginsNow_523 ?_
      refine lv_aload_n hx hb dX12_beginsNow_526 rfl (lv_at hl 1 rfl) ?_
      refine r_get (v := .int (nI op)) hx hb hown hq hE hP 102 707 tFX12_102 (by decide) pw_1969 rfl dX12_beginsNow_527 ?_
      refine lv_iconst (v := 1) hx hb dX12_beginsNow_530 (by decide) ?_
      refine lv_isub hx hb dX12_beginsNow_531 ?_
      refine lv_topi (fun x437 e438 => ?_)
      obtain rfl : x437 = nI (op - 1) := e438.trans (nI_subN (a := 1) (b := op) (by omega))
      refine lv_aload_n hx hb dX12_beginsNow_532 rfl (lv_at hl 1 rfl) ?_
      refine r_get (v := .ref (a 18)) hx hb hown hq hE hP 26 65 tFX12_26 (by decide) pw_1448 rfl dX12_beginsNow_533 ?_
      refine lv_iload_n hx hb dX12_beginsNow_536 rfl (lv_at hl 2 rfl) ?_
      refine r_ldi (f := (B 18)) (j := n9) hx hb hE hP 18 (ma_18 G a _) rfl (by omega) (by decide) dX12_beginsNow_537 ?_
      refine lv_topi (fun x439 e440 => ?_)
      obtain rfl : x439 = nI v9 := e440.trans hs1
      refine lv_iconst (v := 1) hx hb dX12_beginsNow_538 (by decide) ?_
      refine lv_iadd hx hb dX12_beginsNow_539 ?_
      refine lv_topi (fun x441 e442 => ?_)
      obtain rfl : x441 = nI (v9 + 1) := e442.trans (nI_add (v9) (1))
      refine r_sti (f := (B 63)) (j := (op - 1)) hx hb hE hP hD hS 63 (ma_63 G a _) rfl (mas_63 G a _) (by omega) (by decide) dX12_beginsNow_540 (fun H locs hP hD hS => ?_)
      refine lv_aload_n hx hb dX12_beginsNow_541 rfl (lv_at hl 1 rfl) ?_
      refine lv_iload_n hx hb dX12_beginsNow_542 rfl (lv_at hl 2 rfl) ?_
      refine lv_aload_n hx hb dX12_beginsNow_543 rfl (lv_at hl 1 rfl) ?_
      refine r_get (v := .ref (a 13)) hx hb hown hq hE hP 21 50 tFX12_21 (by decide) pw_1443 rfl dX12_beginsNow_544 ?_
      refine lv_iload_n hx hb dX12_beginsNow_547 rfl (lv_at hl 2 rfl) ?_
      refine r_ldi (f := (B 13)) (j := n9) hx hb hE hP 13 (ma_13 G a _) rfl (by omega) (by decide) dX12_beginsNow_548 ?_
      have hs8 := hs7 r432 ⟨h433, h434, h435⟩
      have hP : va_P G.1 pCl (mW G h0 a (upd (upd (upd (upd (upd (upd (upd (upd (upd (upd (upd (upd (upd (upd (upd (upd (upd (upd (upd (upd (upd (upd F 49 (nI md)) 85 (nI im)) 97 (nI ct)) 98 (nI fl)) 99 (nI rmm)) 101 tds) 102 (nI op)) 111 (nI tp)) 115 (nI wn)) 116 (-1)) 117 (nI fu)) 118 rs0) 119 uc0) 120 (nI rd)) 121 ma0) 122 mc0) 123 ca) 124 mo) 125 nw) 126 isn) 128 (nI on)) 130 (nI idn)) (updA (updA (updA B 63 (upd (B 63) (op - 1) (nI (v9 + 1)))) 66 (upd (B 66) (32 * (op - 1) + v9) 0)) 67 (upd (B 67) (32 * (op - 1) + v9) (nI r432)))) _ := hP
      have hD : va_D A (mW G h0 a (upd (upd (upd (upd (upd (upd (upd (upd (upd (upd (upd (upd (upd (upd (upd (upd (upd (upd (upd (upd (upd (upd F 49 (nI md)) 85 (nI im)) 97 (nI ct)) 98 (nI fl)) 99 (nI rmm)) 101 tds) 102 (nI op)) 111 (nI tp)) 115 (nI wn)) 116 (-1)) 117 (nI fu)) 118 rs0) 119 uc0) 120 (nI rd)) 121 ma0) 122 mc0) 123 ca) 124 mo) 125 nw) 126 isn) 128 (nI on)) 130 (nI idn)) (updA (updA (updA B 63 (upd (B 63) (op - 1) (nI (v9 + 1)))) 66 (upd (B 66) (32 * (op - 1) + v9) 0)) 67 (upd (B 67) (32 * (op - 1) + v9) (nI r432)))) := hD
      refine pc_V0 (G := G) (As := [.int (nI n9), .int ((B 13) n9)]) (rest := []) hx hb hml hown hq hE hX pX0_al hP hD hS hA hl.1 (R_goesInto l G h0 a (upd (upd (upd (upd (upd (upd (upd (upd (upd (upd (upd (upd (upd (upd (upd (upd (upd (upd (upd (upd (upd (upd F 49 (nI md)) 85 (nI im)) 97 (nI ct)) 98 (nI fl)) 99 (nI rmm)) 101 tds) 102 (nI op)) 111 (nI tp)) 115 (nI wn)) 116 (-1)) 117 (nI fu)) 118 rs0) 119 uc0) 120 (nI rd)) 121 ma0) 122 mc0) 123 ca) 124 mo) 125 nw) 126 isn) 128 (nI on)) 130 (nI idn)) (updA (updA (updA B 63 (upd (B 63) (op - 1) (nI (v9 + 1)))) 66 (upd (B 66) (32 * (op - 1) + v9) 0)) 67 (upd (B 67) (32 * (op - 1) + v9) (nI r432))) (nI n9) ((B 13) n9)) (gV pw_2078 pw_2079 pw_2080 pw_1523 pw_2064) hV_X12_goesInto 0 9 rfl rfl rfl rfl (Nat.le_of_ble_eq_true rfl) dX12_beginsNow_549 ⟨Nat.le_of_ble_eq_true rfl, Nat.le_of_ble_eq_true rfl⟩ ⟨Nat.le_of_ble_eq_true rfl, Nat.le_of_ble_eq_true rfl⟩ (fun v445 u443 H locs hw444 hP hD hS => ?_)
      obtain ⟨nw446, is447⟩ := u443
      obtain ⟨hw444, h448, h449⟩ := hw444
      replace h448 : If (((B 13) n9) = -1) (nw446 = (nI n9) ∧ is447 = 0) := h448
      replace h449 : If (¬ ((B 13) n9) = -1) (nw446 = ((B 13) n9) ∧ is447 = 1) := h449
      obtain rfl : v445 = none := hw444
      have hP : va_P G.1 pCl (mW G h0 a (upd (upd (upd (upd (upd (upd (upd (upd (upd (upd (upd (upd (upd (upd (upd (upd (upd (upd (upd (upd (upd (upd F 49 (nI md)) 85 (nI im)) 97 (nI ct)) 98 (nI fl)) 99 (nI rmm)) 101 tds) 102 (nI op)) 111 (nI tp)) 115 (nI wn)) 116 (-1)) 117 (nI fu)) 118 rs0) 119 uc0) 120 (nI rd)) 121 ma0) 122 mc0) 123 ca) 124 mo) 125 nw446) 126 is447) 128 (nI on)) 130 (nI idn)) (updA (updA (updA B 63 (upd (B 63) (op - 1) (nI (v9 + 1)))) 66 (upd (B 66) (32 * (op - 1) + v9) 0)) 67 (upd (B 67) (32 * (op - 1) + v9) (nI r432)))) _ := hP
      have hD : va_D A (mW G h0 a (upd (upd (upd (upd (upd (upd (upd (upd (upd (upd (upd (upd (upd (upd (upd (upd (upd (upd (upd (upd (upd (upd F 49 (nI md)) 85 (nI im)) 97 (nI ct)) 98 (nI fl)) 99 (nI rmm)) 101 tds) 102 (nI op)) 111 (nI tp)) 115 (nI wn)) 116 (-1)) 117 (nI fu)) 118 rs0) 119 uc0) 120 (nI rd)) 121 ma0) 122 mc0) 123 ca) 124 mo) 125 nw446) 126 is447) 128 (nI on)) 130 (nI idn)) (updA (updA (updA B 63 (upd (B 63) (op - 1) (nI (v9 + 1)))) 66 (upd (B 66) (32 * (op - 1) + v9) 0)) 67 (upd (B 67) (32 * (op - 1) + v9) (nI r432)))) := hD
      refine W.widen (k := 0) (n := 0) (Nat.le_of_ble_eq_true rfl) (Nat.le_of_ble_eq_true rfl) ?_
      refine W.eq (g2 := F0 m 552 ls []) rfl ?_
      refine lv_goto (tgt := 712) hx hb dX12_beginsNow_552 (by decide) ?_
      have hz450 : Nx Xs (updA (updA (updA B 63 (upd (B 63) (op - 1) (nI (v9 + 1)))) 66 (upd (B 66) (32 * (op - 1) + v9) 0)) 67 (upd (B 67) (32 * (op - 1) + v9) (nI r432))) gh nd T nm wr lz dc fd md pr bk M rmm fu (Phi gh ps op (rkN gh n9 false)) op tp wn fu rd on idn fl ct ((-1) : Int32) nw446 is447 uc0 := (by rcases hs8 with ⟨z1, z2⟩ | ⟨z0, z1, z3, z2⟩; obtain ⟨y1, y2⟩ := h448 (by rw [hw13]; exact z1); rw [y1, y2]; exact z2; obtain ⟨y1, y2⟩ := h449 (by rw [hw13, z1]; exact nI_m1 (by omega)); rw [y1, y2, hw13, z1]; exact z2)
      have hP : va_P G.1 pCl (mW G h0 a (upd (upd (upd (upd (upd (upd (upd (upd (upd (upd (upd (upd (upd (upd (upd (upd (upd (upd (upd (upd (upd (upd F 49 (nI md)) 85 (nI im)) 97 (nI ct)) 98 (nI fl)) 99 (nI rmm)) 101 tds) 102 (nI op)) 111 (nI tp)) 115 (nI wn)) 116 ((-1) : Int32)) 117 (nI fu)) 118 rs0) 119 uc0) 120 (nI rd)) 121 ma0) 122 mc0) 123 ca) 124 mo) 125 nw446) 126 is447) 128 (nI on)) 130 (nI idn)) (updA (updA (updA B 63 (upd (B 63) (op - 1) (nI (v9 + 1)))) 66 (upd (B 66) (32 * (op - 1) + v9) 0)) 67 (upd (B 67) (32 * (op - 1) + v9) (nI r432)))) _ := hP
      have hD : va_D A (mW G h0 a (upd (upd (upd (upd (upd (upd (upd (upd (upd (upd (upd (upd (upd (upd (upd (upd (upd (upd (upd (upd (upd (upd F 49 (nI md)) 85 (nI im)) 97 (nI ct)) 98 (nI fl)) 99 (nI rmm)) 101 tds) 102 (nI op)) 111 (nI tp)) 115 (nI wn)) 116 ((-1) : Int32)) 117 (nI fu)) 118 rs0) 119 uc0) 120 (nI rd)) 121 ma0) 122 mc0) 123 ca) 124 mo) 125 nw446) 126 is447) 128 (nI on)) 130 (nI idn)) (updA (updA (updA B 63 (upd (B 63) (op - 1) (nI (v9 + 1)))) 66 (upd (B 66) (32 * (op - 1) + v9) 0)) 67 (upd (B 67) (32 * (op - 1) + v9) (nI r432)))) := hD
      exact W.vret hx hb hr (fun t9 ht9 hW9 => ⟨⟨_, (op, tp, wn, fu, ((-1) : Int32), nw446, is447, rs0, uc0, on, idn, fl, ct, tds, ma0, mc0, ca, mo, rd, (updA (updA (updA B 63 (upd (B 63) (op - 1) (nI (v9 + 1)))) 66 (upd (B 66) (32 * (op - 1) + v9) 0)) 67 (upd (B 67) (32 * (op - 1) + v9) (nI r432)))), rfl, ⟨rfl, hz450⟩, by rw [ht9]; exact hP, hD⟩, hS.F ht9⟩) hS.2.2 dX12_beginsNow_712
    · have n451 : r411 = 0 := (nI_eq (a := r411) (b := 0) (by omega) (by omega)).mp c413
      refine lv_aload_n hx hb dX12_beginsNow_33 rfl (lv_at hl 1 rfl) ?_
      have hP : va_P G.1 pCl (mW G h0 a (upd (upd (upd (upd (upd (upd (upd (upd (upd (upd (upd (upd (upd (upd (upd (upd (upd (upd (upd (upd (upd (upd (upd (upd F 49 (nI md)) 85 (nI im)) 97 (nI ct)) 98 (nI fl)) 99 (nI rmm)) 101 tds) 102 (nI op)) 111 (nI tp)) 115 (nI wn)) 116 (-1)) 117 (nI fu)) 118 rs0) 119 uc0) 120 (nI rd)) 121 ma0) 122 mc0) 123 ca) 124 mo) 125 nw) 126 isn) 128 (nI on)) 130 (nI idn)) 116 (-1)) 117 (nI fu)) B) _ := hP
      have hD : va_D A (mW G h0 a (upd (upd (upd (upd (upd (upd (upd (upd (upd (upd (upd (upd (upd (upd (upd (upd (upd (upd (upd (upd (upd (upd (upd (upd F 49 (nI md)) 85 (nI im)) 97 (nI ct)) 98 (nI fl)) 99 (nI rmm)) 101 tds) 102 (nI op)) 111 (nI tp)) 115 (nI wn)) 116 (-1)) 117 (nI fu)) 118 rs0) 119 uc0) 120 (nI rd)) 121 ma0) 122 mc0) 123 ca) 124 mo) 125 nw) 126 isn) 128 (nI on)) 130 (nI idn)) 116 (-1)) 117 (nI fu)) B) := hD
      refine pc_V0 (G := G) (As := []) (rest := []) hx hb hml hown hq hE hX pX0_al hP hD hS hA hl.1 (R_pays l G h0 a (upd (upd (upd (upd (upd (upd (upd (upd (upd (upd (upd (upd (upd (upd (upd (upd (upd (upd (upd (upd (upd (upd F 49 (nI md)) 85 (nI im)) 97 (nI ct)) 98 (nI fl)) 99 (nI rmm)) 101 tds) 102 (nI op)) 111 (nI tp)) 115 (nI wn)) 116 (-1)) 117 (nI fu)) 118 rs0) 119 uc0) 120 (nI rd)) 121 ma0) 122 mc0) 123 ca) 124 mo) 125 nw) 126 isn) 128 (nI on)) 130 (nI idn)) B fu (-1) (by omega)) (gV pw_2026 pw_2027 pw_2028 pw_1523 pw_2000) hV_X12_pays 0 9 rfl rfl rfl rfl (Nat.le_of_ble_eq_true rfl) dX12_beginsNow_34 ⟨Nat.le_of_ble_eq_true rfl, Nat.le_of_ble_eq_true rfl⟩ ⟨Nat.le_of_ble_eq_true rfl, Nat.le_of_ble_eq_true rfl⟩ (fun v454 u452 H locs hw453 hP hD hS => ?_)
      obtain ⟨r455, fu456, en457⟩ := u452
      obtain ⟨hw453, h458, h459, h460, h461⟩ := hw453
      replace h458 : r455 ≤ 1 := h458
      replace h459 : fu456 + r455 = fu := h459
      replace h460 : If (r455 = 1) (en457 = (-1)) := h460
      replace h461 : If (r455 = 0) (en457 = 2) := h461
      obtain rfl : v454 = some (.int (nI r455)) := hw453
      have hP : va_P G.1 pCl (mW G h0 a (upd (upd (upd (upd (upd (upd (upd (upd (upd (upd (upd (upd (upd (upd (upd (upd (upd (upd (upd (upd (upd (upd F 49 (nI md)) 85 (nI im)) 97 (nI ct)) 98 (nI fl)) 99 (nI rmm)) 101 tds) 102 (nI op)) 111 (nI tp)) 115 (nI wn)) 116 en457) 117 (nI fu456)) 118 rs0) 119 uc0) 120 (nI rd)) 121 ma0) 122 mc0) 123 ca) 124 mo) 125 nw) 126 isn) 128 (nI on)) 130 (nI idn)) B) _ := hP
      have hD : va_D A (mW G h0 a (upd (upd (upd (upd (upd (upd (upd (upd (upd (upd (upd (upd (upd (upd (upd (upd (upd (upd (upd (upd (upd (upd F 49 (nI md)) 85 (nI im)) 97 (nI ct)) 98 (nI fl)) 99 (nI rmm)) 101 tds) 102 (nI op)) 111 (nI tp)) 115 (nI wn)) 116 en457) 117 (nI fu456)) 118 rs0) 119 uc0) 120 (nI rd)) 121 ma0) 122 mc0) 123 ca) 124 mo) 125 nw) 126 isn) 128 (nI on)) 130 (nI idn)) B) := hD
      refine W.widen (k := 0) (n := 0) (Nat.le_of_ble_eq_true rfl) (Nat.le_of_ble_eq_true rfl) ?_
      refine W.eq (g2 := F0 m 37 ls [.int (nI r455)]) rfl ?_
      rcases (show r455 = 0 ∨ r455 = 1 by omega) with hr0 | hr0
      · have hen := h461 hr0
        subst hr0
        have hP : va_P G.1 pCl (mW G h0 a (upd (upd (upd (upd (upd (upd (upd (upd (upd (upd (upd (upd (upd (upd (upd (upd (upd (upd (upd (upd (upd (upd F 49 (nI md)) 85 (nI im)) 97 (nI ct)) 98 (nI fl)) 99 (nI rmm)) 101 tds) 102 (nI op)) 111 (nI tp)) 115 (nI wn)) 116 en457) 117 (nI fu456)) 118 rs0) 119 uc0) 120 (nI rd)) 121 ma0) 122 mc0) 123 ca) 124 mo) 125 nw) 126 isn) 128 (nI on)) 130 (nI idn)) B) _ := hP
        have hD : va_D A (mW G h0 a (upd (upd (upd (upd (upd (upd (upd (upd (upd (upd (upd (upd (upd (upd (upd (upd (upd (upd (upd (upd (upd (upd F 49 (nI md)) 85 (nI im)) 97 (nI ct)) 98 (nI fl)) 99 (nI rmm)) 101 tds) 102 (nI op)) 111 (nI tp)) 115 (nI wn)) 116 en457) 117 (nI fu456)) 118 rs0) 119 uc0) 120 (nI rd)) 121 ma0) 122 mc0) 123 ca) 124 mo) 125 nw) 126 isn) 128 (nI on)) 130 (nI idn)) B) := hD
        refine W.eq (g2 := F0 m 37 ls [.int 0]) rfl ?_
        refine lv_if_ne (tgt := 41) hx hb dX12_beginsNow_37 (by decide) (fun c462 => absurd c462 (by decide)) (fun c462 => ?_)
        have hz463 : Nx Xs B gh nd T nm wr lz dc fd md pr bk M rmm fu (Phi gh ps op (rkN gh n9 false)) op tp wn fu456 rd on idn fl ct en457 nw isn uc0 := (hR.stop Sta.rfl hR.hp (by rw [hen]; decide) (by rw [hen]; decide))
        have hP : va_P G.1 pCl (mW G h0 a (upd (upd (upd (upd (upd (upd (upd (upd (upd (upd (upd (upd (upd (upd (upd (upd (upd (upd (upd (upd (upd (upd F 49 (nI md)) 85 (nI im)) 97 (nI ct)) 98 (nI fl)) 99 (nI rmm)) 101 tds) 102 (nI op)) 111 (nI tp)) 115 (nI wn)) 116 en457) 117 (nI fu456)) 118 rs0) 119 uc0) 120 (nI rd)) 121 ma0) 122 mc0) 123 ca) 124 mo) 125 nw) 126 isn) 128 (nI on)) 130 (nI idn)) B) _ := hP
        have hD : va_D A (mW G h0 a (upd (upd (upd (upd (upd (upd (upd (upd (upd (upd (upd (upd (upd (upd (upd (upd (upd (upd (upd (upd (upd (upd F 49 (nI md)) 85 (nI im)) 97 (nI ct)) 98 (nI fl)) 99 (nI rmm)) 101 tds) 102 (nI op)) 111 (nI tp)) 115 (nI wn)) 116 en457) 117 (nI fu456)) 118 rs0) 119 uc0) 120 (nI rd)) 121 ma0) 122 mc0) 123 ca) 124 mo) 125 nw) 126 isn) 128 (nI on)) 130 (nI idn)) B) := hD
        exact W.vret hx hb hr (fun t9 ht9 hW9 => ⟨⟨_, (op, tp, wn, fu456, en457, nw, isn, rs0, uc0, on, idn, fl, ct, tds, ma0, mc0, ca, mo, rd, B), rfl, ⟨rfl, hz463⟩, by rw [ht9]; exact hP, hD⟩, hS.F ht9⟩) hS.2.2 dX12_beginsNow_40
      · obtain rfl : en457 = _ := h460 hr0
        subst hr0
        have hP : va_P G.1 pCl (mW G h0 a (upd (upd (upd (upd (upd (upd (upd (upd (upd (upd (upd (upd (upd (upd (upd (upd (upd (upd (upd (upd (upd (upd F 49 (nI md)) 85 (nI im)) 97 (nI ct)) 98 (nI fl)) 99 (nI rmm)) 101 tds) 102 (nI op)) 111 (nI tp)) 115 (nI wn)) 116 (-1)) 117 (nI fu456)) 118 rs0) 119 uc0) 120 (nI rd)) 121 ma0) 122 mc0) 123 ca) 124 mo) 125 nw) 126 isn) 128 (nI on)) 130 (nI idn)) B) _ := hP
        have hD : va_D A (mW G h0 a (upd (upd (upd (upd (upd (upd (upd (upd (upd (upd (upd (upd (upd (upd (upd (upd (upd (upd (upd (upd (upd (upd F 49 (nI md)) 85 (nI im)) 97 (nI ct)) 98 (nI fl)) 99 (nI rmm)) 101 tds) 102 (nI op)) 111 (nI tp)) 115 (nI wn)) 116 (-1)) 117 (nI fu456)) 118 rs0) 119 uc0) 120 (nI rd)) 121 ma0) 122 mc0) 123 ca) 124 mo) 125 nw) 126 isn) 128 (nI on)) 130 (nI idn)) B) := hD
        refine W.eq (g2 := F0 m 37 ls [.int 1]) rfl ?_
        have hR1 := hR.fuel (show fu456 ≤ fu by omega)
        refine lv_if_ne (tgt := 41) hx hb dX12_beginsNow_37 (by decide) (fun c464 => ?_) (fun c464 => absurd c464 (by decide))
        refine lv_iload_n hx hb dX12_beginsNow_41 rfl (lv_at hl 0 rfl) ?_
        refine lv_tableIn (tgt := 476) (off := 434) hx hb dX12_beginsNow_42 (by decide) (by decide) (by decide) (by decide) ?_
        obtain ⟨v9, y9, t9, hs1, hs2, hs3, hs4, hs5, hs6, hs7⟩ := hR1.b30 (uc := uc0) hkd
        refine lv_aload_n hx hb dX12_beginsNow_476 rfl (lv_at hl 1 rfl) ?_
        refine r_get (v := .ref (a 66)) hx hb hown hq hE hP 107 211 tFX12_107 (by decide) pw_1498 rfl dX12_beginsNow_477 ?_
        refine lv_aload_n hx hb dX12_beginsNow_480 rfl (lv_at hl 1 rfl) ?_
        refine lv_aload_n hx hb dX12_beginsNow_481 rfl (lv_at hl 1 rfl) ?_
        refine r_get (v := .ref (a 18)) hx hb hown hq hE hP 26 65 tFX12_26 (by decide) pw_1448 rfl dX12_beginsNow_482 ?_
        refine lv_iload_n hx hb dX12_beginsNow_485 rfl (lv_at hl 2 rfl) ?_
        refine r_ldi (f := (B 18)) (j := n9) hx hb hE hP 18 (ma_18 G a _) rfl (by omega) (by decide) dX12_beginsNow_486 ?_
        refine lv_topi (fun x465 e466 => ?_)
        obtain rfl : x465 = nI v9 := e466.trans hs1
        have hP : va_P G.1 pCl (mW G h0 a (upd (upd (upd (upd (upd (upd (upd (upd (upd (upd (upd (upd (upd (upd (upd (upd (upd (upd (upd (upd (upd (upd (upd F 49 (nI md)) 85 (nI im)) 97 (nI ct)) 98 (nI fl)) 99 (nI rmm)) 101 tds) 102 (nI op)) 111 (nI tp)) 115 (nI wn)) 116 (-1)) 117 (nI fu456)) 118 rs0) 119 uc0) 120 (nI rd)) 121 ma0) 122 mc0) 123 ca) 124 mo) 125 nw) 126 isn) 128 (nI on)) 130 (nI idn)) 102 (nI op)) B) _ := hP
        have hD : va_D A (mW G h0 a (upd (upd (upd (upd (upd (upd (upd (upd (upd (upd (upd (upd (upd (upd (upd (upd (upd (upd (upd (upd (upd (upd (upd F 49 (nI md)) 85 (nI im)) 97 (nI ct)) 98 (nI fl)) 99 (nI rmm)) 101 tds) 102 (nI op)) 111 (nI tp)) 115 (nI wn)) 116 (-1)) 117 (nI fu456)) 118 rs0) 119 uc0) 120 (nI rd)) 121 ma0) 122 mc0) 123 ca) 124 mo) 125 nw) 126 isn) 128 (nI on)) 130 (nI idn)) 102 (nI op)) B) := hD
        refine pc_V0 (G := G) (As := [.int (nI v9)]) (rest := [.ref (a 66)]) hx hb hml hown hq hE hX pX0_al hP hD hS hA hl.1 (R_at32 l G h0 a (upd (upd (upd (upd (upd (upd (upd (upd (upd (upd (upd (upd (upd (upd (upd (upd (upd (upd (upd (upd (upd (upd F 49 (nI md)) 85 (nI im)) 97 (nI ct)) 98 (nI fl)) 99 (nI rmm)) 101 tds) 102 (nI op)) 111 (nI tp)) 115 (nI wn)) 116 (-1)) 117 (nI fu456)) 118 rs0) 119 uc0) 120 (nI rd)) 121 ma0) 122 mc0) 123 ca) 124 mo) 125 nw) 126 isn) 128 (nI on)) 130 (nI idn)) B v9 op (by omega) (by omega)) (gV pw_2040 pw_2041 pw_2042 pw_1523 pw_2013) hV_X12_at32 0 9 rfl rfl rfl rfl (Nat.le_of_ble_eq_true rfl) dX12_beginsNow_487 ⟨Nat.le_of_ble_eq_true rfl, Nat.le_of_ble_eq_true rfl⟩ ⟨Nat.le_of_ble_eq_true rfl, Nat.le_of_ble_eq_true rfl⟩ (fun v469 u467 H locs hw468 hP hD hS => ?_)
        obtain rfl : v469 = some (.int (nI (32 * (op - 1) + v9))) := hw468
        have hP : va_P G.1 pCl (mW G h0 a (upd (upd (upd (upd (upd (upd (upd (upd (upd (upd (upd (upd (upd (upd (upd (upd (upd (upd (upd (upd (upd (upd F 49 (nI md)) 85 (nI im)) 97 (nI ct)) 98 (nI fl)) 99 (nI rmm)) 101 tds) 102 (nI op)) 111 (nI tp)) 115 (nI wn)) 116 (-1)) 117 (nI fu456)) 118 rs0) 119 uc0) 120 (nI rd)) 121 ma0) 122 mc0) 123 ca) 124 mo) 125 nw) 126 isn) 128 (nI on)) 130 (nI idn)) B) _ := hP
        have hD : va_D A (mW G h0 a (upd (upd (upd (upd (upd (upd (upd (upd (upd (upd (upd (upd (upd (upd (upd (upd (upd (upd (upd (upd (upd (upd F 49 (nI md)) 85 (nI im)) 97 (nI ct)) 98 (nI fl)) 99 (nI rmm)) 101 tds) 102 (nI op)) 111 (nI tp)) 115 (nI wn)) 116 (-1)) 117 (nI fu456)) 118 rs0) 119 uc0) 120 (nI rd)) 121 ma0) 122 mc0) 123 ca) 124 mo) 125 nw) 126 isn) 128 (nI on)) 130 (nI idn)) B) := hD
        refine W.widen (k := 0) (n := 0) (Nat.le_of_ble_eq_true rfl) (Nat.le_of_ble_eq_true rfl) ?_
        refine W.eq (g2 := F0 m 490 ls [.int (nI (32 * (op - 1) + v9)), .ref (a 66)]) rfl ?_
        refine lv_iconst (v := 0) hx hb dX12_beginsNow_490 (by decide) ?_
        refine r_sti (f := (B 66)) (j := (32 * (op - 1) + v9)) hx hb hE hP hD hS 66 (ma_66 G a _) rfl (mas_66 G a _) (by omega) (by decide) dX12_beginsNow_491 (fun H locs hP hD hS => ?_)
        refine lv_aload_n hx hb dX12_beginsNow_492 rfl (lv_at hl 1 rfl) ?_
        refine r_get (v := .ref (a 67)) hx hb hown hq hE hP 108 214 tFX12_108 (by decide) pw_1499 rfl dX12_beginsNow_493 ?_
        refine lv_aload_n hx hb dX12_beginsNow_496 rfl (lv_at hl 1 rfl) ?_
        refine lv_aload_n hx hb dX12_beginsNow_497 rfl (lv_at hl 1 rfl) ?_
        refine r_get (v := .ref (a 18)) hx hb hown hq hE hP 26 65 tFX12_26 (by decide) pw_1448 rfl dX12_beginsNow_498 ?_
        refine lv_iload_n hx hb dX12_beginsNow_501 rfl (lv_at hl 2 rfl) ?_
        refine r_ldi (f := (B 18)) (j := n9) hx hb hE hP 18 (ma_18 G a _) rfl (by omega) (by decide) dX12_beginsNow_502 ?_
        refine lv_topi (fun x470 e471 => ?_)
        obtain rfl : x470 = nI v9 := e471.trans hs1
        have hP : va_P G.1 pCl (mW G h0 a (upd (upd (upd (upd (upd (upd (upd (upd (upd (upd (upd (upd (upd (upd (upd (upd (upd (upd (upd (upd (upd (upd (upd F 49 (nI md)) 85 (nI im)) 97 (nI ct)) 98 (nI fl)) 99 (nI rmm)) 101 tds) 102 (nI op)) 111 (nI tp)) 115 (nI wn)) 116 (-1)) 117 (nI fu456)) 118 rs0) 119 uc0) 120 (nI rd)) 121 ma0) 122 mc0) 123 ca) 124 mo) 125 nw) 126 isn) 128 (nI on)) 130 (nI idn)) 102 (nI op)) (updA B 66 (upd (B 66) (32 * (op - 1) + v9) 0))) _ := hP
        have hD : va_D A (mW G h0 a (upd (upd (upd (upd (upd (upd (upd (upd (upd (upd (upd (upd (upd (upd (upd (upd (upd (upd (upd (upd (upd (upd (upd F 49 (nI md)) 85 (nI im)) 97 (nI ct)) 98 (nI fl)) 99 (nI rmm)) 101 tds) 102 (nI op)) 111 (nI tp)) 115 (nI wn)) 116 (-1)) 117 (nI fu456)) 118 rs0) 119 uc0) 120 (nI rd)) 121 ma0) 122 mc0) 123 ca) 124 mo) 125 nw) 126 isn) 128 (nI on)) 130 (nI idn)) 102 (nI op)) (updA B 66 (upd (B 66) (32 * (op - 1) + v9) 0))) := hD
        refine pc_V0 (G := G) (As := [.int (nI v9)]) (rest := [.ref (a 67)]) hx hb hml hown hq hE hX pX0_al hP hD hS hA hl.1 (R_at32 l G h0 a (upd (upd (upd (upd (upd (upd (upd (upd (upd (upd (upd (upd (upd (upd (upd (upd (upd (upd (upd (upd (upd (upd F 49 (nI md)) 85 (nI im)) 97 (nI ct)) 98 (nI fl)) 99 (nI rmm)) 101 tds) 102 (nI op)) 111 (nI tp)) 115 (nI wn)) 116 (-1)) 117 (nI fu456)) 118 rs0) 119 uc0) 120 (nI rd)) 121 ma0) 122 mc0) 123 ca) 124 mo) 125 nw) 126 isn) 128 (nI on)) 130 (nI idn)) (updA B 66 (upd (B 66) (32 * (op - 1) + v9) 0)) v9 op (by omega) (by omega)) (gV pw_2040 pw_2041 pw_2042 pw_1523 pw_2013) hV_X12_at32 0 9 rfl rfl rfl rfl (Nat.le_of_ble_eq_true rfl) dX12_beginsNow_503 ⟨Nat.le_of_ble_eq_true rfl, Nat.le_of_ble_eq_true rfl⟩ ⟨Nat.le_of_ble_eq_true rfl, Nat.le_of_ble_eq_true rfl⟩ (fun v474 u472 H locs hw473 hP hD hS => ?_)
        obtain rfl : v474 = some (.int (nI (32 * (op - 1) + v9))) := hw473
        have hP : va_P G.1 pCl (mW G h0 a (upd (upd (upd (upd (upd (upd (upd (upd (upd (upd (upd (upd (upd (upd (upd (upd (upd (upd (upd (upd (upd (upd F 49 (nI md)) 85 (nI im)) 97 (nI ct)) 98 (nI fl)) 99 (nI rmm)) 101 tds) 102 (nI op)) 111 (nI tp)) 115 (nI wn)) 116 (-1)) 117 (nI fu456)) 118 rs0) 119 uc0) 120 (nI rd)) 121 ma0) 122 mc0) 123 ca) 124 mo) 125 nw) 126 isn) 128 (nI on)) 130 (nI idn)) (updA B 66 (upd (B 66) (32 * (op - 1) + v9) 0))) _ := hP
        have hD : va_D A (mW G h0 a (upd (upd (upd (upd (upd (upd (upd (upd (upd (upd (upd (upd (upd (upd (upd (upd (upd (upd (upd (upd (upd (upd F 49 (nI md)) 85 (nI im)) 97 (nI ct)) 98 (nI fl)) 99 (nI rmm)) 101 tds) 102 (nI op)) 111 (nI tp)) 115 (nI wn)) 116 (-1)) 117 (nI fu456)) 118 rs0) 119 uc0) 120 (nI rd)) 121 ma0) 122 mc0) 123 ca) 124 mo) 125 nw) 126 isn) 128 (nI on)) 130 (nI idn)) (updA B 66 (upd (B 66) (32 * (op - 1) + v9) 0))) := hD
        refine W.widen (k := 0) (n := 0) (Nat.le_of_ble_eq_true rfl) (Nat.le_of_ble_eq_true rfl) ?_
        refine W.eq (g2 := F0 m 506 ls [.int (nI (32 * (op - 1) + v9)), .ref (a 67)]) rfl ?_
        refine lv_aload_n hx hb dX12_beginsNow_506 rfl (lv_at hl 1 rfl) ?_
        refine lv_aload_n hx hb dX12_beginsNow_507 rfl (lv_at hl 1 rfl) ?_
        refine r_get (v := .ref (a 21)) hx hb hown hq hE hP 30 75 tFX12_30 (by decide) pw_1452 rfl dX12_beginsNow_508 ?_
        refine lv_aload_n hx hb dX12_beginsNow_511 rfl (lv_at hl 1 rfl) ?_
        refine r_get (v := .ref (a 12)) hx hb hown hq hE hP 20 47 tFX12_20 (by decide) pw_1442 rfl dX12_beginsNow_512 ?_
        refine lv_iload_n hx hb dX12_beginsNow_515 rfl (lv_at hl 2 rfl) ?_
        refine r_ldi (f := (B 12)) (j := n9) hx hb hE hP 12 (ma_12 G a _) rfl (by omega) (by decide) dX12_beginsNow_516 ?_
        refine lv_topi (fun x475 e476 => ?_)
        obtain rfl : x475 = nI y9 := e476.trans ((congrFun hw12 _).trans hs3)
        refine r_ldi (f := (B 21)) (j := y9) hx hb hE hP 21 (ma_21 G a _) rfl (by omega) (by decide) dX12_beginsNow_517 ?_
        refine lv_topi (fun x477 e478 => ?_)
        obtain rfl : x477 = nI t9 := e478.trans ((congrFun hw21 _).trans hs5)
        have hP : va_P G.1 pCl (mW G h0 a (upd (upd (upd (upd (upd (upd (upd (upd (upd (upd (upd (upd (upd (upd (upd (upd (upd (upd (upd (upd (upd (upd F 49 (nI md)) 85 (nI im)) 97 (nI ct)) 98 (nI fl)) 99 (nI rmm)) 101 tds) 102 (nI op)) 111 (nI tp)) 115 (nI wn)) 116 (-1)) 117 (nI fu456)) 118 rs0) 119 uc0) 120 (nI rd)) 121 ma0) 122 mc0) 123 ca) 124 mo) 125 nw) 126 isn) 128 (nI on)) 130 (nI idn)) (updA B 66 (upd (B 66) (32 * (op - 1) + v9) 0))) _ := hP
        have hD : va_D A (mW G h0 a (upd (upd (upd (upd (upd (upd (upd (upd (upd (upd (upd (upd (upd (upd (upd (upd (upd (upd (upd (upd (upd (upd F 49 (nI md)) 85 (nI im)) 97 (nI ct)) 98 (nI fl)) 99 (nI rmm)) 101 tds) 102 (nI op)) 111 (nI tp)) 115 (nI wn)) 116 (-1)) 117 (nI fu456)) 118 rs0) 119 uc0) 120 (nI rd)) 121 ma0) 122 mc0) 123 ca) 124 mo) 125 nw) 126 isn) 128 (nI on)) 130 (nI idn)) (updA B 66 (upd (B 66) (32 * (op - 1) + v9) 0))) := hD
        refine pc_V0 (G := G) (As := [.int (nI t9)]) (rest := [.int (nI (32 * (op - 1) + v9)), .ref (a 67)]) hx hb hml hown hq hE hX pX0_al hP hD hS hA hl.1 (R_isReference l G h0 a (upd (upd (upd (upd (upd (upd (upd (upd (upd (upd (upd (upd (upd (upd (upd (upd (upd (upd (upd (upd (upd (upd F 49 (nI md)) 85 (nI im)) 97 (nI ct)) 98 (nI fl)) 99 (nI rmm)) 101 tds) 102 (nI op)) 111 (nI tp)) 115 (nI wn)) 116 (-1)) 117 (nI fu456)) 118 rs0) 119 uc0) 120 (nI rd)) 121 ma0) 122 mc0) 123 ca) 124 mo) 125 nw) 126 isn) 128 (nI on)) 130 (nI idn)) (updA B 66 (upd (B 66) (32 * (op - 1) + v9) 0)) t9 (by omega)) (gV pw_1783 pw_1784 pw_1785 pw_1523 pw_1779) hV_X12_isReference 0 9 rfl rfl rfl rfl (Nat.le_of_ble_eq_true rfl) dX12_beginsNow_518 ⟨Nat.le_of_ble_eq_true rfl, Nat.le_of_ble_eq_true rfl⟩ ⟨Nat.le_of_ble_eq_true rfl, Nat.le_of_ble_eq_true rfl⟩ (fun v481 u479 H locs hw480 hP hD hS => ?_)
        obtain ⟨r482, rfl⟩ : ∃ z, z = u479 := ⟨_, rfl⟩
        obtain ⟨hw480, h483, h484, h485⟩ := hw480
        replace h483 : r482 ≤ 1 := h483
        replace h484 : 3 * r482 ≤ t9 := h484
        replace h485 : t9 ≤ 2 + 9000 * r482 := h485
        obtain rfl : v481 = some (.int (nI r482)) := hw480
        have hP : va_P G.1 pCl (mW G h0 a (upd (upd (upd (upd (upd (upd (upd (upd (upd (upd (upd (upd (upd (upd (upd (upd (upd (upd (upd (upd (upd (upd F 49 (nI md)) 85 (nI im)) 97 (nI ct)) 98 (nI fl)) 99 (nI rmm)) 101 tds) 102 (nI op)) 111 (nI tp)) 115 (nI wn)) 116 (-1)) 117 (nI fu456)) 118 rs0) 119 uc0) 120 (nI rd)) 121 ma0) 122 mc0) 123 ca) 124 mo) 125 nw) 126 isn) 128 (nI on)) 130 (nI idn)) (updA B 66 (upd (B 66) (32 * (op - 1) + v9) 0))) _ := hP
        have hD : va_D A (mW G h0 a (upd (upd (upd (upd (upd (upd (upd (upd (upd (upd (upd (upd (upd (upd (upd (upd (upd (upd (upd (upd (upd (upd F 49 (nI md)) 85 (nI im)) 97 (nI ct)) 98 (nI fl)) 99 (nI rmm)) 101 tds) 102 (nI op)) 111 (nI tp)) 115 (nI wn)) 116 (-1)) 117 (nI fu456)) 118 rs0) 119 uc0) 120 (nI rd)) 121 ma0) 122 mc0) 123 ca) 124 mo) 125 nw) 126 isn) 128 (nI on)) 130 (nI idn)) (updA B 66 (upd (B 66) (32 * (op - 1) + v9) 0))) := hD
        refine W.widen (k := 0) (n := 0) (Nat.le_of_ble_eq_true rfl) (Nat.le_of_ble_eq_true rfl) ?_
        refine W.eq (g2 := F0 m 521 ls [.int (nI r482), .int (nI (32 * (op - 1) + v9)), .ref (a 67)]) rfl ?_
        refine r_stz (f := (B 67)) (j := (32 * (op - 1) + v9)) hx hb hE hP hD hS 67 (ma_67 G a _) rfl (mas_67 G a _) (by omega) (by decide) dX12_beginsNow_521 (fun H locs hP hD hS => ?_)
        have hbt486 : vp_nar .boolean (nI r482) = nI r482 := vp_bit (by omega)
        rw [hbt486] at hP hD
        have hP : va_P G.1 pCl (mW G h0 a (upd (upd (upd (upd (upd (upd (upd (upd (upd (upd (upd (upd (upd (upd (upd (upd (upd (upd (upd (upd (upd (upd F 49 (nI md)) 85 (nI im)) 97 (nI ct)) 98 (nI fl)) 99 (nI rmm)) 101 tds) 102 (nI op)) 111 (nI tp)) 115 (nI wn)) 116 (-1)) 117 (nI fu456)) 118 rs0) 119 uc0) 120 (nI rd)) 121 ma0) 122 mc0) 123 ca) 124 mo) 125 nw) 126 isn) 128 (nI on)) 130 (nI idn)) (updA (updA B 66 (upd (B 66) (32 * (op - 1) + v9) 0)) 67 (upd (B 67) (32 * (op - 1) + v9) (nI r482)))) _ := hP
        have hD : va_D A (mW G h0 a (upd (upd (upd (upd (upd (upd (upd (upd (upd (upd (upd (upd (upd (upd (upd (upd (upd (upd (upd (upd (upd (upd F 49 (nI md)) 85 (nI im)) 97 (nI ct)) 98 (nI fl)) 99 (nI rmm)) 101 tds) 102 (nI op)) 111 (nI tp)) 115 (nI wn)) 116 (-1)) 117 (nI fu456)) 118 rs0) 119 uc0) 120 (nI rd)) 121 ma0) 122 mc0) 123 ca) 124 mo) 125 nw) 126 isn) 128 (nI on)) 130 (nI idn)) (updA (updA B 66 (upd (B 66) (32 * (op - 1) + v9) 0)) 67 (upd (B 67) (32 * (op - 1) + v9) (nI r482)))) := hD
        refine lv_aload_n hx hb dX12_beginsNow_522 rfl (lv_at hl 1 rfl) ?_
        refine r_get (v := .ref (a 63)) hx hb hown hq hE hP 104 202 tFX12_104 (by decide) pw_1495 rfl dX12_beginsNow_523 ?_
        refine lv_aload_n hx hb dX12_beginsNow_526 rfl (lv_at hl 1 rfl) ?_
        refine r_get (v := .int (nI op)) hx hb hown hq hE hP 102 707 tFX12_102 (by decide) pw_1969 rfl dX12_beginsNow_527 ?_
        refine lv_iconst (v := 1) hx hb dX12_beginsNow_530 (by decide) ?_
        refine lv_isub hx hb dX12_beginsNow_531 ?_
        refine lv_topi (fun x487 e488 => ?_)
        obtain rfl : x487 = nI (op - 1) := e488.trans (nI_subN (a := 1) (b := op) (by omega))
        refine lv_aload_n hx hb dX12_beginsNow_532 rfl (lv_at hl 1 rfl) ?_
        refine r_get (v := .ref (a 18)) hx hb hown hq hE hP 26 65 tFX12_26 (by decide) pw_1448 rfl dX12_beginsNow_533 ?_
        refine lv_iload_n hx hb dX12_beginsNow_536 rfl (lv_at hl 2 rfl) ?_
        refine r_ldi (f := (B 18)) (j := n9) hx hb hE hP 18 (ma_18 G a _) rfl (by omega) (by decide) dX12_beginsNow_537 ?_
        refine lv_topi (fun x489 e490 => ?_)
        obtain rfl : x489 = nI v9 := e490.trans hs1
        refine lv_iconst (v := 1) hx hb dX12_beginsNow_538 (by decide) ?_
        refine lv_iadd hx hb dX12_beginsNow_539 ?_
        refine lv_topi (fun x491 e492 => ?_)
        obtain rfl : x491 = nI (v9 + 1) := e492.trans (nI_add (v9) (1))
        refine r_sti (f := (B 63)) (j := (op - 1)) hx hb hE hP hD hS 63 (ma_63 G a _) rfl (mas_63 G a _) (by omega) (by decide) dX12_beginsNow_540 (fun H locs hP hD hS => ?_)
        refine lv_aload_n hx hb dX12_beginsNow_541 rfl (lv_at hl 1 rfl) ?_
        refine lv_iload_n hx hb dX12_beginsNow_542 rfl (lv_at hl 2 rfl) ?_
        refine lv_aload_n hx hb dX12_beginsNow_543 rfl (lv_at hl 1 rfl) ?_
        refine r_get (v := .ref (a 13)) hx hb hown hq hE hP 21 50 tFX12_21 (by decide) pw_1443 rfl dX12_beginsNow_544 ?_
        refine lv_iload_n hx hb dX12_beginsNow_547 rfl (lv_at hl 2 rfl) ?_
        refine r_ldi (f := (B 13)) (j := n9) hx hb hE hP 13 (ma_13 G a _) rfl (by omega) (by decide) dX12_beginsNow_548 ?_
        have hs8 := hs7 r482 ⟨h483, h484, h485⟩
        have hP : va_P G.1 pCl (mW G h0 a (upd (upd (upd (upd (upd (upd (upd (upd (upd (upd (upd (upd (upd (upd (upd (upd (upd (upd (upd (upd (upd (upd F 49 (nI md)) 85 (nI im)) 97 (nI ct)) 98 (nI fl)) 99 (nI rmm)) 101 tds) 102 (nI op)) 111 (nI tp)) 115 (nI wn)) 116 (-1)) 117 (nI fu456)) 118 rs0) 119 uc0) 120 (nI rd)) 121 ma0) 122 mc0) 123 ca) 124 mo) 125 nw) 126 isn) 128 (nI on)) 130 (nI idn)) (updA (updA (updA B 63 (upd (B 63) (op - 1) (nI (v9 + 1)))) 66 (upd (B 66) (32 * (op - 1) + v9) 0)) 67 (upd (B 67) (32 * (op - 1) + v9) (nI r482)))) _ := hP
        have hD : va_D A (mW G h0 a (upd (upd (upd (upd (upd (upd (upd (upd (upd (upd (upd (upd (upd (upd (upd (upd (upd (upd (upd (upd (upd (upd F 49 (nI md)) 85 (nI im)) 97 (nI ct)) 98 (nI fl)) 99 (nI rmm)) 101 tds) 102 (nI op)) 111 (nI tp)) 115 (nI wn)) 116 (-1)) 117 (nI fu456)) 118 rs0) 119 uc0) 120 (nI rd)) 121 ma0) 122 mc0) 123 ca) 124 mo) 125 nw) 126 isn) 128 (nI on)) 130 (nI idn)) (updA (updA (updA B 63 (upd (B 63) (op - 1) (nI (v9 + 1)))) 66 (upd (B 66) (32 * (op - 1) + v9) 0)) 67 (upd (B 67) (32 * (op - 1) + v9) (nI r482)))) := hD
        refine pc_V0 (G := G) (As := [.int (nI n9), .int ((B 13) n9)]) (rest := []) hx hb hml hown hq hE hX pX0_al hP hD hS hA hl.1 (R_goesInto l G h0 a (upd (upd (upd (upd (upd (upd (upd (upd (upd (upd (upd (upd (upd (upd (upd (upd (upd (upd (upd (upd (upd (upd F 49 (nI md)) 85 (nI im)) 97 (nI ct)) 98 (nI fl)) 99 (nI rmm)) 101 tds) 102 (nI op)) 111 (nI tp)) 115 (nI wn)) 116 (-1)) 117 (nI fu456)) 118 rs0) 119 uc0) 120 (nI rd)) 121 ma0) 122 mc0) 123 ca) 124 mo) 125 nw) 126 isn) 128 (nI on)) 130 (nI idn)) (updA (updA (updA B 63 (upd (B 63) (op - 1) (nI (v9 + 1)))) 66 (upd (B 66) (32 * (op - 1) + v9) 0)) 67 (upd (B 67) (32 * (op - 1) + v9) (nI r482))) (nI n9) ((B 13) n9)) (gV pw_2078 pw_2079 pw_2080 pw_1523 pw_2064) hV_X12_goesInto 0 9 rfl rfl rfl rfl (Nat.le_of_ble_eq_true rfl) dX12_beginsNow_549 ⟨Nat.le_of_ble_eq_true rfl, Nat.le_of_ble_eq_true rfl⟩ ⟨Nat.le_of_ble_eq_true rfl, Nat.le_of_ble_eq_true rfl⟩ (fun v495 u493 H locs hw494 hP hD hS => ?_)
        obtain ⟨nw496, is497⟩ := u493
        obtain ⟨hw494, h498, h499⟩ := hw494
        replace h498 : If (((B 13) n9) = -1) (nw496 = (nI n9) ∧ is497 = 0) := h498
        replace h499 : If (¬ ((B 13) n9) = -1) (nw496 = ((B 13) n9) ∧ is497 = 1) := h499
        obtain rfl : v495 = none := hw494
        have hP : va_P G.1 pCl (mW G h0 a (upd (upd (upd (upd (upd (upd (upd (upd (upd (upd (upd (upd (upd (upd (upd (upd (upd (upd (upd (upd (upd (upd F 49 (nI md)) 85 (nI im)) 97 (nI ct)) 98 (nI fl)) 99 (nI rmm)) 101 tds) 102 (nI op)) 111 (nI tp)) 115 (nI wn)) 116 (-1)) 117 (nI fu456)) 118 rs0) 119 uc0) 120 (nI rd)) 121 ma0) 122 mc0) 123 ca) 124 mo) 125 nw496) 126 is497) 128 (nI on)) 130 (nI idn)) (updA (updA (updA B 63 (upd (B 63) (op - 1) (nI (v9 + 1)))) 66 (upd (B 66) (32 * (op - 1) + v9) 0)) 67 (upd (B 67) (32 * (op - 1) + v9) (nI r482)))) _ := hP
        have hD : va_D A (mW G h0 a (upd (upd (upd (upd (upd (upd (upd (upd (upd (upd (upd (upd (upd (upd (upd (upd (upd (upd (upd (upd (upd (upd F 49 (nI md)) 85 (nI im)) 97 (nI ct)) 98 (nI fl)) 99 (nI rmm)) 101 tds) 102 (nI op)) 111 (nI tp)) 115 (nI wn)) 116 (-1)) 117 (nI fu456)) 118 rs0) 119 uc0) 120 (nI rd)) 121 ma0) 122 mc0) 123 ca) 124 mo) 125 nw496) 126 is497) 128 (nI on)) 130 (nI idn)) (updA (updA (updA B 63 (upd (B 63) (op - 1) (nI (v9 + 1)))) 66 (upd (B 66) (32 * (op - 1) + v9) 0)) 67 (upd (B 67) (32 * (op - 1) + v9) (nI r482)))) := hD
        refine W.widen (k := 0) (n := 0) (Nat.le_of_ble_eq_true rfl) (Nat.le_of_ble_eq_true rfl) ?_
        refine W.eq (g2 := F0 m 552 ls []) rfl ?_
        refine lv_goto (tgt := 712) hx hb dX12_beginsNow_552 (by decide) ?_
        have hz500 : Nx Xs (updA (updA (updA B 63 (upd (B 63) (op - 1) (nI (v9 + 1)))) 66 (upd (B 66) (32 * (op - 1) + v9) 0)) 67 (upd (B 67) (32 * (op - 1) + v9) (nI r482))) gh nd T nm wr lz dc fd md pr bk M rmm fu (Phi gh ps op (rkN gh n9 false)) op tp wn fu456 rd on idn fl ct ((-1) : Int32) nw496 is497 uc0 := (Nx.le (fu1 := fu456) (by rcases hs8 with ⟨z1, z2⟩ | ⟨z0, z1, z3, z2⟩; obtain ⟨y1, y2⟩ := h498 (by rw [hw13]; exact z1); rw [y1, y2]; exact z2; obtain ⟨y1, y2⟩ := h499 (by rw [hw13, z1]; exact nI_m1 (by omega)); rw [y1, y2, hw13, z1]; exact z2) (by omega))
        have hP : va_P G.1 pCl (mW G h0 a (upd (upd (upd (upd (upd (upd (upd (upd (upd (upd (upd (upd (upd (upd (upd (upd (upd (upd (upd (upd (upd (upd F 49 (nI md)) 85 (nI im)) 97 (nI ct)) 98 (nI fl)) 99 (nI rmm)) 101 tds) 102 (nI op)) 111 (nI tp)) 115 (nI wn)) 116 ((-1) : Int32)) 117 (nI fu456)) 118 rs0) 119 uc0) 120 (nI rd)) 121 ma0) 122 mc0) 123 ca) 124 mo) 125 nw496) 126 is497) 128 (nI on)) 130 (nI idn)) (updA (updA (updA B 63 (upd (B 63) (op - 1) (nI (v9 + 1)))) 66 (upd (B 66) (32 * (op - 1) + v9) 0)) 67 (upd (B 67) (32 * (op - 1) + v9) (nI r482)))) _ := hP
        have hD : va_D A (mW G h0 a (upd (upd (upd (upd (upd (upd (upd (upd (upd (upd (upd (upd (upd (upd (upd (upd (upd (upd (upd (upd (upd (upd F 49 (nI md)) 85 (nI im)) 97 (nI ct)) 98 (nI fl)) 99 (nI rmm)) 101 tds) 102 (nI op)) 111 (nI tp)) 115 (nI wn)) 116 ((-1) : Int32)) 117 (nI fu456)) 118 rs0) 119 uc0) 120 (nI rd)) 121 ma0) 122 mc0) 123 ca) 124 mo) 125 nw496) 126 is497) 128 (nI on)) 130 (nI idn)) (updA (updA (updA B 63 (upd (B 63) (op - 1) (nI (v9 + 1)))) 66 (upd (B 66) (32 * (op - 1) + v9) 0)) 67 (upd (B 67) (32 * (op - 1) + v9) (nI r482)))) := hD
        exact W.vret hx hb hr (fun t9 ht9 hW9 => ⟨⟨_, (op, tp, wn, fu456, ((-1) : Int32), nw496, is497, rs0, uc0, on, idn, fl, ct, tds, ma0, mc0, ca, mo, rd, (updA (updA (updA B 63 (upd (B 63) (op - 1) (nI (v9 + 1)))) 66 (upd (B 66) (32 * (op - 1) + v9) 0)) 67 (upd (B 67) (32 * (op - 1) + v9) (nI r482)))), rfl, ⟨rfl, hz500⟩, by rw [ht9]; exact hP, hD⟩, hS.F ht9⟩) hS.2.2 dX12_beginsNow_712
  · clear hn44 hkr hko
    refine lv_aload_n hx hb dX12_beginsNow_0 rfl (lv_at hl 0 rfl) ?_
    refine r_get (v := .ref (a 9)) hx hb hown hq hE hP 17 38 tFX12_17 (by decide) pw_1439 rfl dX12_beginsNow_1 ?_
    refine lv_iload_n hx hb dX12_beginsNow_4 rfl (lv_at hl 1 rfl) ?_
    refine r_ldi (f := (B 9)) (j := n9) hx hb hE hP 9 (ma_9 G a _) rfl (by omega) (by decide) dX12_beginsNow_5 ?_
    refine lv_topi (fun x501 e502 => ?_)
    obtain rfl : x501 = 31 := e502.trans ((congrFun hw9 _).trans hkd)
    refine lv_istore_n (lv' := [(2, .int 31), (0, .ref h0), (1, .int (nI n9))]) hx hb dX12_beginsNow_6 rfl hl (by decide) rfl (fun ls hl => ?_)
    refine lv_iload_n hx hb dX12_beginsNow_7 rfl (lv_at hl 0 rfl) ?_
    refine lv_bipush (v := 30) hx hb dX12_beginsNow_8 (by decide) ?_
    refine lv_icmp_lt (tgt := 41) hx hb dX12_beginsNow_10 (by decide) (fun c503 => absurd c503 (by decide)) (fun c503 => ?_)
    refine lv_iload_n hx hb dX12_beginsNow_13 rfl (lv_at hl 0 rfl) ?_
    refine lv_bipush (v := 31) hx hb dX12_beginsNow_14 (by decide) ?_
    refine lv_icmp_eq (tgt := 41) hx hb dX12_beginsNow_16 (by decide) (fun c504 => ?_) (fun c504 => absurd c504 (by decide))
    refine lv_iload_n hx hb dX12_beginsNow_41 rfl (lv_at hl 0 rfl) ?_
    refine lv_tableIn (tgt := 701) (off := 659) hx hb dX12_beginsNow_42 (by decide) (by decide) (by decide) (by decide) ?_
    refine lv_aload_n hx hb dX12_beginsNow_701 rfl (lv_at hl 1 rfl) ?_
    refine lv_iload_n hx hb dX12_beginsNow_702 rfl (lv_at hl 2 rfl) ?_
    refine lv_aload_n hx hb dX12_beginsNow_703 rfl (lv_at hl 1 rfl) ?_
    refine r_get (v := .ref (a 12)) hx hb hown hq hE hP 20 47 tFX12_20 (by decide) pw_1442 rfl dX12_beginsNow_704 ?_
    refine lv_iload_n hx hb dX12_beginsNow_707 rfl (lv_at hl 2 rfl) ?_
    refine r_ldi (f := (B 12)) (j := n9) hx hb hE hP 12 (ma_12 G a _) rfl (by omega) (by decide) dX12_beginsNow_708 ?_
    have hs8 := (show (Xs 12 n9 = -1 ∧ Nx Xs B gh nd T nm wr lz dc fd md pr bk M rmm fu (Phi gh ps op (rkN gh n9 false)) op tp wn fu rd on idn fl ct (-1) (nI n9) 0 uc0) ∨ ∃ j1 : Nat, Xs 12 n9 = nI j1 ∧ j1 < nd ∧ Nx Xs B gh nd T nm wr lz dc fd md pr bk M rmm fu (Phi gh ps op (rkN gh n9 false)) op tp wn fu rd on idn fl ct (-1) (nI j1) 1 uc0 from by by_cases z : Xs 12 n9 = -1; exact Or.inl ⟨z, hR.still hkd (by omega) (by omega) (by omega)⟩; exact Or.inr (hR.b31 hkd z))
    have hP : va_P G.1 pCl (mW G h0 a (upd (upd (upd (upd (upd (upd (upd (upd (upd (upd (upd (upd (upd (upd (upd (upd (upd (upd (upd (upd (upd (upd F 49 (nI md)) 85 (nI im)) 97 (nI ct)) 98 (nI fl)) 99 (nI rmm)) 101 tds) 102 (nI op)) 111 (nI tp)) 115 (nI wn)) 116 (-1)) 117 (nI fu)) 118 rs0) 119 uc0) 120 (nI rd)) 121 ma0) 122 mc0) 123 ca) 124 mo) 125 nw) 126 isn) 128 (nI on)) 130 (nI idn)) B) _ := hP
    have hD : va_D A (mW G h0 a (upd (upd (upd (upd (upd (upd (upd (upd (upd (upd (upd (upd (upd (upd (upd (upd (upd (upd (upd (upd (upd (upd F 49 (nI md)) 85 (nI im)) 97 (nI ct)) 98 (nI fl)) 99 (nI rmm)) 101 tds) 102 (nI op)) 111 (nI tp)) 115 (nI wn)) 116 (-1)) 117 (nI fu)) 118 rs0) 119 uc0) 120 (nI rd)) 121 ma0) 122 mc0) 123 ca) 124 mo) 125 nw) 126 isn) 128 (nI on)) 130 (nI idn)) B) := hD
    refine pc_V0 (G := G) (As := [.int (nI n9), .int ((B 12) n9)]) (rest := []) hx hb hml hown hq hE hX pX0_al hP hD hS hA hl.1 (R_goesInto l G h0 a (upd (upd (upd (upd (upd (upd (upd (upd (upd (upd (upd (upd (upd (upd (upd (upd (upd (upd (upd (upd (upd (upd F 49 (nI md)) 85 (nI im)) 97 (nI ct)) 98 (nI fl)) 99 (nI rmm)) 101 tds) 102 (nI op)) 111 (nI tp)) 115 (nI wn)) 116 (-1)) 117 (nI fu)) 118 rs0) 119 uc0) 120 (nI rd)) 121 ma0) 122 mc0) 123 ca) 124 mo) 125 nw) 126 isn) 128 (nI on)) 130 (nI idn)) B (nI n9) ((B 12) n9)) (gV pw_2078 pw_2079 pw_2080 pw_1523 pw_2064) hV_X12_goesInto 0 9 rfl rfl rfl rfl (Nat.le_of_ble_eq_true rfl) dX12_beginsNow_709 ⟨Nat.le_of_ble_eq_true rfl, Nat.le_of_ble_eq_true rfl⟩ ⟨Nat.le_of_ble_eq_true rfl, Nat.le_of_ble_eq_true rfl⟩ (fun v507 u505 H locs hw506 hP hD hS => ?_)
    obtain ⟨nw508, is509⟩ := u505
    obtain ⟨hw506, h510, h511⟩ := hw506
    replace h510 : If (((B 12) n9) = -1) (nw508 = (nI n9) ∧ is509 = 0) := h510
    replace h511 : If (¬ ((B 12) n9) = -1) (nw508 = ((B 12) n9) ∧ is509 = 1) := h511
    obtain rfl : v507 = none := hw506
    have hP : va_P G.1 pCl (mW G h0 a (upd (upd (upd (upd (upd (upd (upd (upd (upd (upd (upd (upd (upd (upd (upd (upd (upd (upd (upd (upd (upd (upd F 49 (nI md)) 85 (nI im)) 97 (nI ct)) 98 (nI fl)) 99 (nI rmm)) 101 tds) 102 (nI op)) 111 (nI tp)) 115 (nI wn)) 116 (-1)) 117 (nI fu)) 118 rs0) 119 uc0) 120 (nI rd)) 121 ma0) 122 mc0) 123 ca) 124 mo) 125 nw508) 126 is509) 128 (nI on)) 130 (nI idn)) B) _ := hP
    have hD : va_D A (mW G h0 a (upd (upd (upd (upd (upd (upd (upd (upd (upd (upd (upd (upd (upd (upd (upd (upd (upd (upd (upd (upd (upd (upd F 49 (nI md)) 85 (nI im)) 97 (nI ct)) 98 (nI fl)) 99 (nI rmm)) 101 tds) 102 (nI op)) 111 (nI tp)) 115 (nI wn)) 116 (-1)) 117 (nI fu)) 118 rs0) 119 uc0) 120 (nI rd)) 121 ma0) 122 mc0) 123 ca) 124 mo) 125 nw508) 126 is509) 128 (nI on)) 130 (nI idn)) B) := hD
    refine W.widen (k := 0) (n := 0) (Nat.le_of_ble_eq_true rfl) (Nat.le_of_ble_eq_true rfl) ?_
    refine W.eq (g2 := F0 m 712 ls []) rfl ?_
    have hz512 : Nx Xs B gh nd T nm wr lz dc fd md pr bk M rmm fu (Phi gh ps op (rkN gh n9 false)) op tp wn fu rd on idn fl ct ((-1) : Int32) nw508 is509 uc0 := (by rcases hs8 with ⟨z1, z2⟩ | ⟨z0, z1, z3, z2⟩; obtain ⟨y1, y2⟩ := h510 (by rw [hw12]; exact z1); rw [y1, y2]; exact z2; obtain ⟨y1, y2⟩ := h511 (by rw [hw12, z1]; exact nI_m1 (by omega)); rw [y1, y2, hw12, z1]; exact z2)
    have hP : va_P G.1 pCl (mW G h0 a (upd (upd (upd (upd (upd (upd (upd (upd (upd (upd (upd (upd (upd (upd (upd (upd (upd (upd (upd (upd (upd (upd F 49 (nI md)) 85 (nI im)) 97 (nI ct)) 98 (nI fl)) 99 (nI rmm)) 101 tds) 102 (nI op)) 111 (nI tp)) 115 (nI wn)) 116 ((-1) : Int32)) 117 (nI fu)) 118 rs0) 119 uc0) 120 (nI rd)) 121 ma0) 122 mc0) 123 ca) 124 mo) 125 nw508) 126 is509) 128 (nI on)) 130 (nI idn)) B) _ := hP
    have hD : va_D A (mW G h0 a (upd (upd (upd (upd (upd (upd (upd (upd (upd (upd (upd (upd (upd (upd (upd (upd (upd (upd (upd (upd (upd (upd F 49 (nI md)) 85 (nI im)) 97 (nI ct)) 98 (nI fl)) 99 (nI rmm)) 101 tds) 102 (nI op)) 111 (nI tp)) 115 (nI wn)) 116 ((-1) : Int32)) 117 (nI fu)) 118 rs0) 119 uc0) 120 (nI rd)) 121 ma0) 122 mc0) 123 ca) 124 mo) 125 nw508) 126 is509) 128 (nI on)) 130 (nI idn)) B) := hD
    exact W.vret hx hb hr (fun t9 ht9 hW9 => ⟨⟨_, (op, tp, wn, fu, ((-1) : Int32), nw508, is509, rs0, uc0, on, idn, fl, ct, tds, ma0, mc0, ca, mo, rd, B), rfl, ⟨rfl, hz512⟩, by rw [ht9]; exact hP, hD⟩, hS.F ht9⟩) hS.2.2 dX12_beginsNow_712
  · clear hn44 hkr hko
    refine lv_aload_n hx hb dX12_beginsNow_0 rfl (lv_at hl 0 rfl) ?_
    refine r_get (v := .ref (a 9)) hx hb hown hq hE hP 17 38 tFX12_17 (by decide) pw_1439 rfl dX12_beginsNow_1 ?_
    refine lv_iload_n hx hb dX12_beginsNow_4 rfl (lv_at hl 1 rfl) ?_
    refine r_ldi (f := (B 9)) (j := n9) hx hb hE hP 9 (ma_9 G a _) rfl (by omega) (by decide) dX12_beginsNow_5 ?_
    refine lv_topi (fun x513 e514 => ?_)
    obtain rfl : x513 = 32 := e514.trans ((congrFun hw9 _).trans hkd)
    refine lv_istore_n (lv' := [(2, .int 32), (0, .ref h0), (1, .int (nI n9))]) hx hb dX12_beginsNow_6 rfl hl (by decide) rfl (fun ls hl => ?_)
    refine lv_iload_n hx hb dX12_beginsNow_7 rfl (lv_at hl 0 rfl) ?_
    refine lv_bipush (v := 30) hx hb dX12_beginsNow_8 (by decide) ?_
    refine lv_icmp_lt (tgt := 41) hx hb dX12_beginsNow_10 (by decide) (fun c515 => absurd c515 (by decide)) (fun c515 => ?_)
    refine lv_iload_n hx hb dX12_beginsNow_13 rfl (lv_at hl 0 rfl) ?_
    refine lv_bipush (v := 31) hx hb dX12_beginsNow_14 (by decide) ?_
    refine lv_icmp_eq (tgt := 41) hx hb dX12_beginsNow_16 (by decide) (fun c516 => absurd c516 (by decide)) (fun c516 => ?_)
    refine lv_iload_n hx hb dX12_beginsNow_19 rfl (lv_at hl 0 rfl) ?_
    refine lv_bipush (v := 43) hx hb dX12_beginsNow_20 (by decide) ?_
    refine lv_icmp_eq (tgt := 41) hx hb dX12_beginsNow_22 (by decide) (fun c517 => absurd c517 (by decide)) (fun c517 => ?_)
    refine lv_aload_n hx hb dX12_beginsNow_25 rfl (lv_at hl 1 rfl) ?_
    refine lv_iload_n hx hb dX12_beginsNow_26 rfl (lv_at hl 2 rfl) ?_
    have hP : va_P G.1 pCl (mW G h0 a (upd (upd (upd (upd (upd (upd (upd (upd (upd (upd (upd (upd (upd (upd (upd (upd (upd (upd (upd (upd (upd (upd F 49 (nI md)) 85 (nI im)) 97 (nI ct)) 98 (nI fl)) 99 (nI rmm)) 101 tds) 102 (nI op)) 111 (nI tp)) 115 (nI wn)) 116 (-1)) 117 (nI fu)) 118 rs0) 119 uc0) 120 (nI rd)) 121 ma0) 122 mc0) 123 ca) 124 mo) 125 nw) 126 isn) 128 (nI on)) 130 (nI idn)) B) _ := hP
    have hD : va_D A (mW G h0 a (upd (upd (upd (upd (upd (upd (upd (upd (upd (upd (upd (upd (upd (upd (upd (upd (upd (upd (upd (upd (upd (upd F 49 (nI md)) 85 (nI im)) 97 (nI ct)) 98 (nI fl)) 99 (nI rmm)) 101 tds) 102 (nI op)) 111 (nI tp)) 115 (nI wn)) 116 (-1)) 117 (nI fu)) 118 rs0) 119 uc0) 120 (nI rd)) 121 ma0) 122 mc0) 123 ca) 124 mo) 125 nw) 126 isn) 128 (nI on)) 130 (nI idn)) B) := hD
    refine pc_V0 (G := G) (As := [.int (nI n9)]) (rest := []) hx hb hml hown hq hE hX pX0_al hP hD hS hA hl.1 (R_isFirst l G h0 a (upd (upd (upd (upd (upd (upd (upd (upd (upd (upd (upd (upd (upd (upd (upd (upd (upd (upd (upd (upd (upd (upd F 49 (nI md)) 85 (nI im)) 97 (nI ct)) 98 (nI fl)) 99 (nI rmm)) 101 tds) 102 (nI op)) 111 (nI tp)) 115 (nI wn)) 116 (-1)) 117 (nI fu)) 118 rs0) 119 uc0) 120 (nI rd)) 121 ma0) 122 mc0) 123 ca) 124 mo) 125 nw) 126 isn) 128 (nI on)) 130 (nI idn)) B n9 nd (by omega) (by omega) (hR.upP hR.rt.2.2)) (gV pw_2066 pw_2067 pw_2068 pw_1523 pw_2020) hV_X12_isFirst 0 9 rfl rfl rfl rfl (Nat.le_of_ble_eq_true rfl) dX12_beginsNow_27 ⟨Nat.le_of_ble_eq_true rfl, Nat.le_of_ble_eq_true rfl⟩ ⟨Nat.le_of_ble_eq_true rfl, Nat.le_of_ble_eq_true rfl⟩ (fun v520 u518 H locs hw519 hP hD hS => ?_)
    obtain ⟨r521, rfl⟩ : ∃ z, z = u518 := ⟨_, rfl⟩
    obtain ⟨hw519, h522⟩ := hw519
    replace h522 : r521 ≤ 1 := h522
    obtain rfl : v520 = some (.int (nI r521)) := hw519
    have hP : va_P G.1 pCl (mW G h0 a (upd (upd (upd (upd (upd (upd (upd (upd (upd (upd (upd (upd (upd (upd (upd (upd (upd (upd (upd (upd (upd (upd F 49 (nI md)) 85 (nI im)) 97 (nI ct)) 98 (nI fl)) 99 (nI rmm)) 101 tds) 102 (nI op)) 111 (nI tp)) 115 (nI wn)) 116 (-1)) 117 (nI fu)) 118 rs0) 119 uc0) 120 (nI rd)) 121 ma0) 122 mc0) 123 ca) 124 mo) 125 nw) 126 isn) 128 (nI on)) 130 (nI idn)) B) _ := hP
    have hD : va_D A (mW G h0 a (upd (upd (upd (upd (upd (upd (upd (upd (upd (upd (upd (upd (upd (upd (upd (upd (upd (upd (upd (upd (upd (upd F 49 (nI md)) 85 (nI im)) 97 (nI ct)) 98 (nI fl)) 99 (nI rmm)) 101 tds) 102 (nI op)) 111 (nI tp)) 115 (nI wn)) 116 (-1)) 117 (nI fu)) 118 rs0) 119 uc0) 120 (nI rd)) 121 ma0) 122 mc0) 123 ca) 124 mo) 125 nw) 126 isn) 128 (nI on)) 130 (nI idn)) B) := hD
    refine W.widen (k := 0) (n := 0) (Nat.le_of_ble_eq_true rfl) (Nat.le_of_ble_eq_true rfl) ?_
    refine W.eq (g2 := F0 m 30 ls [.int (nI r521)]) rfl ?_
    refine lv_if_ne (tgt := 41) hx hb dX12_beginsNow_30 (by decide) (fun c523 => ?_) (fun c523 => ?_)
    · have n524 : ¬ (r521 = 0) := fun h9 => c523 ((nI_eq (a := r521) (b := 0) (by omega) (by omega)).mpr h9)
      refine lv_iload_n hx hb dX12_beginsNow_41 rfl (lv_at hl 0 rfl) ?_
      refine lv_tableIn (tgt := 555) (off := 513) hx hb dX12_beginsNow_42 (by decide) (by decide) (by decide) (by decide) ?_
      obtain ⟨a9, ka, hs1, hs2, hs3, hs4, hs5, hs6⟩ := hR.b32 (uc := uc0) hkd
      rcases hs4 with rfl | rfl | rfl
      · obtain ⟨j1, ha1, ha2, ha3⟩ := hs5 rfl
        clear hs5 hs6
        refine lv_aload_n hx hb dX12_beginsNow_555 rfl (lv_at hl 1 rfl) ?_
        refine lv_aload_n hx hb dX12_beginsNow_556 rfl (lv_at hl 1 rfl) ?_
        refine r_get (v := .ref (a 9)) hx hb hown hq hE hP 17 38 tFX12_17 (by decide) pw_1439 rfl dX12_beginsNow_557 ?_
        refine lv_aload_n hx hb dX12_beginsNow_560 rfl (lv_at hl 1 rfl) ?_
        refine r_get (v := .ref (a 12)) hx hb hown hq hE hP 20 47 tFX12_20 (by decide) pw_1442 rfl dX12_beginsNow_561 ?_
        refine lv_iload_n hx hb dX12_beginsNow_564 rfl (lv_at hl 2 rfl) ?_
        refine r_ldi (f := (B 12)) (j := n9) hx hb hE hP 12 (ma_12 G a _) rfl (by omega) (by decide) dX12_beginsNow_565 ?_
        refine lv_topi (fun x525 e526 => ?_)
        obtain rfl : x525 = nI a9 := e526.trans ((congrFun hw12 _).trans hs1)
        refine r_ldi (f := (B 9)) (j := a9) hx hb hE hP 9 (ma_9 G a _) rfl (by omega) (by decide) dX12_beginsNow_566 ?_
        refine lv_topi (fun x527 e528 => ?_)
        obtain rfl : x527 = 6 := e528.trans ((congrFun hw9 _).trans hs3)
        refine lv_bipush (v := 6) hx hb dX12_beginsNow_567 (by decide) ?_
        refine lv_icmp_ne (tgt := 581) hx hb dX12_beginsNow_569 (by decide) (fun c529 => absurd c529 (by decide)) (fun c529 => ?_)
        refine lv_aload_n hx hb dX12_beginsNow_572 rfl (lv_at hl 1 rfl) ?_
        refine r_get (v := .ref (a 13)) hx hb hown hq hE hP 21 50 tFX12_21 (by decide) pw_1443 rfl dX12_beginsNow_573 ?_
        refine lv_iload_n hx hb dX12_beginsNow_576 rfl (lv_at hl 2 rfl) ?_
        refine r_ldi (f := (B 13)) (j := n9) hx hb hE hP 13 (ma_13 G a _) rfl (by omega) (by decide) dX12_beginsNow_577 ?_
        refine lv_topi (fun x530 e531 => ?_)
        obtain rfl : x530 = nI j1 := e531.trans ((congrFun hw13 _).trans ha1)
        refine lv_goto (tgt := 592) hx hb dX12_beginsNow_578 (by decide) ?_
        have hP : va_P G.1 pCl (mW G h0 a (upd (upd (upd (upd (upd (upd (upd (upd (upd (upd (upd (upd (upd (upd (upd (upd (upd (upd (upd (upd (upd (upd F 49 (nI md)) 85 (nI im)) 97 (nI ct)) 98 (nI fl)) 99 (nI rmm)) 101 tds) 102 (nI op)) 111 (nI tp)) 115 (nI wn)) 116 (-1)) 117 (nI fu)) 118 rs0) 119 uc0) 120 (nI rd)) 121 ma0) 122 mc0) 123 ca) 124 mo) 125 nw) 126 isn) 128 (nI on)) 130 (nI idn)) B) _ := hP
        have hD : va_D A (mW G h0 a (upd (upd (upd (upd (upd (upd (upd (upd (upd (upd (upd (upd (upd (upd (upd (upd (upd (upd (upd (upd (upd (upd F 49 (nI md)) 85 (nI im)) 97 (nI ct)) 98 (nI fl)) 99 (nI rmm)) 101 tds) 102 (nI op)) 111 (nI tp)) 115 (nI wn)) 116 (-1)) 117 (nI fu)) 118 rs0) 119 uc0) 120 (nI rd)) 121 ma0) 122 mc0) 123 ca) 124 mo) 125 nw) 126 isn) 128 (nI on)) 130 (nI idn)) B) := hD
        refine pc_V0 (G := G) (As := [.int (nI j1)]) (rest := []) hx hb hml hown hq hE hX pX0_al hP hD hS hA hl.1 (R_begin l G h0 a (upd (upd (upd (upd (upd (upd (upd (upd (upd (upd (upd (upd (upd (upd (upd (upd (upd (upd (upd (upd (upd (upd F 49 (nI md)) 85 (nI im)) 97 (nI ct)) 98 (nI fl)) 99 (nI rmm)) 101 tds) 102 (nI op)) 111 (nI tp)) 115 (nI wn)) 116 (-1)) 117 (nI fu)) 118 rs0) 119 uc0) 120 (nI rd)) 121 ma0) 122 mc0) 123 ca) 124 mo) 125 nw) 126 isn) 128 (nI on)) 130 (nI idn)) B (nI j1)) (gV pw_2016 pw_2017 pw_2018 pw_1523 pw_2002) hV_X12_begin 0 9 rfl rfl rfl rfl (Nat.le_of_ble_eq_true rfl) dX12_beginsNow_592 ⟨Nat.le_of_ble_eq_true rfl, Nat.le_of_ble_eq_true rfl⟩ ⟨Nat.le_of_ble_eq_true rfl, Nat.le_of_ble_eq_true rfl⟩ (fun v534 u532 H locs hw533 hP hD hS => ?_)
        obtain rfl : v534 = none := hw533
        have hP : va_P G.1 pCl (mW G h0 a (upd (upd (upd (upd (upd (upd (upd (upd (upd (upd (upd (upd (upd (upd (upd (upd (upd (upd (upd (upd (upd (upd F 49 (nI md)) 85 (nI im)) 97 (nI ct)) 98 (nI fl)) 99 (nI rmm)) 101 tds) 102 (nI op)) 111 (nI tp)) 115 (nI wn)) 116 (-1)) 117 (nI fu)) 118 rs0) 119 uc0) 120 (nI rd)) 121 ma0) 122 mc0) 123 ca) 124 mo) 125 (nI j1)) 126 1) 128 (nI on)) 130 (nI idn)) B) _ := hP
        have hD : va_D A (mW G h0 a (upd (upd (upd (upd (upd (upd (upd (upd (upd (upd (upd (upd (upd (upd (upd (upd (upd (upd (upd (upd (upd (upd F 49 (nI md)) 85 (nI im)) 97 (nI ct)) 98 (nI fl)) 99 (nI rmm)) 101 tds) 102 (nI op)) 111 (nI tp)) 115 (nI wn)) 116 (-1)) 117 (nI fu)) 118 rs0) 119 uc0) 120 (nI rd)) 121 ma0) 122 mc0) 123 ca) 124 mo) 125 (nI j1)) 126 1) 128 (nI on)) 130 (nI idn)) B) := hD
        refine W.widen (k := 0) (n := 0) (Nat.le_of_ble_eq_true rfl) (Nat.le_of_ble_eq_true rfl) ?_
        refine W.eq (g2 := F0 m 595 ls []) rfl ?_
        refine lv_goto (tgt := 712) hx hb dX12_beginsNow_595 (by decide) ?_
        have hz535 : Nx Xs B gh nd T nm wr lz dc fd md pr bk M rmm fu (Phi gh ps op (rkN gh n9 false)) op tp wn fu rd on idn fl ct ((-1) : Int32) (nI j1) (1 : Int32) uc0 := ha3
        have hP : va_P G.1 pCl (mW G h0 a (upd (upd (upd (upd (upd (upd (upd (upd (upd (upd (upd (upd (upd (upd (upd (upd (upd (upd (upd (upd (upd (upd F 49 (nI md)) 85 (nI im)) 97 (nI ct)) 98 (nI fl)) 99 (nI rmm)) 101 tds) 102 (nI op)) 111 (nI tp)) 115 (nI wn)) 116 ((-1) : Int32)) 117 (nI fu)) 118 rs0) 119 uc0) 120 (nI rd)) 121 ma0) 122 mc0) 123 ca) 124 mo) 125 (nI j1)) 126 (1 : Int32)) 128 (nI on)) 130 (nI idn)) B) _ := hP
        have hD : va_D A (mW G h0 a (upd (upd (upd (upd (upd (upd (upd (upd (upd (upd (upd (upd (upd (upd (upd (upd (upd (upd (upd (upd (upd (upd F 49 (nI md)) 85 (nI im)) 97 (nI ct)) 98 (nI fl)) 99 (nI rmm)) 101 tds) 102 (nI op)) 111 (nI tp)) 115 (nI wn)) 116 ((-1) : Int32)) 117 (nI fu)) 118 rs0) 119 uc0) 120 (nI rd)) 121 ma0) 122 mc0) 123 ca) 124 mo) 125 (nI j1)) 126 (1 : Int32)) 128 (nI on)) 130 (nI idn)) B) := hD
        exact W.vret hx hb hr (fun t9 ht9 hW9 => ⟨⟨_, (op, tp, wn, fu, ((-1) : Int32), (nI j1), (1 : Int32), rs0, uc0, on, idn, fl, ct, tds, ma0, mc0, ca, mo, rd, B), rfl, ⟨rfl, hz535⟩, by rw [ht9]; exact hP, hD⟩, hS.F ht9⟩) hS.2.2 dX12_beginsNow_712
      · obtain ⟨j1, ha1, ha2, ha3⟩ := hs6 (by omega)
        clear hs5 hs6
        refine lv_aload_n hx hb dX12_beginsNow_555 rfl (lv_at hl 1 rfl) ?_
        refine lv_aload_n hx hb dX12_beginsNow_556 rfl (lv_at hl 1 rfl) ?_
        refine r_get (v := .ref (a 9)) hx hb hown hq hE hP 17 38 tFX12_17 (by decide) pw_1439 rfl dX12_beginsNow_557 ?_
        refine lv_aload_n hx hb dX12_beginsNow_560 rfl (lv_at hl 1 rfl) ?_
        refine r_get (v := .ref (a 12)) hx hb hown hq hE hP 20 47 tFX12_20 (by decide) pw_1442 rfl dX12_beginsNow_561 ?_
        refine lv_iload_n hx hb dX12_beginsNow_564 rfl (lv_at hl 2 rfl) ?_
        refine r_ldi (f := (B 12)) (j := n9) hx hb hE hP 12 (ma_12 G a _) rfl (by omega) (by decide) dX12_beginsNow_565 ?_
        refine lv_topi (fun x536 e537 => ?_)
        obtain rfl : x536 = nI a9 := e537.trans ((congrFun hw12 _).trans hs1)
        refine r_ldi (f := (B 9)) (j := a9) hx hb hE hP 9 (ma_9 G a _) rfl (by omega) (by decide) dX12_beginsNow_566 ?_
        refine lv_topi (fun x538 e539 => ?_)
        obtain rfl : x538 = 12 := e539.trans ((congrFun hw9 _).trans hs3)
        refine lv_bipush (v := 6) hx hb dX12_beginsNow_567 (by decide) ?_
        refine lv_icmp_ne (tgt := 581) hx hb dX12_beginsNow_569 (by decide) (fun c540 => ?_) (fun c540 => absurd c540 (by decide))
        refine lv_aload_n hx hb dX12_beginsNow_581 rfl (lv_at hl 1 rfl) ?_
        refine r_get (v := .ref (a 12)) hx hb hown hq hE hP 20 47 tFX12_20 (by decide) pw_1442 rfl dX12_beginsNow_582 ?_
        refine lv_aload_n hx hb dX12_beginsNow_585 rfl (lv_at hl 1 rfl) ?_
        refine r_get (v := .ref (a 12)) hx hb hown hq hE hP 20 47 tFX12_20 (by decide) pw_1442 rfl dX12_beginsNow_586 ?_
        refine lv_iload_n hx hb dX12_beginsNow_589 rfl (lv_at hl 2 rfl) ?_
        refine r_ldi (f := (B 12)) (j := n9) hx hb hE hP 12 (ma_12 G a _) rfl (by omega) (by decide) dX12_beginsNow_590 ?_
        refine lv_topi (fun x541 e542 => ?_)
        obtain rfl : x541 = nI a9 := e542.trans ((congrFun hw12 _).trans hs1)
        refine r_ldi (f := (B 12)) (j := a9) hx hb hE hP 12 (ma_12 G a _) rfl (by omega) (by decide) dX12_beginsNow_591 ?_
        refine lv_topi (fun x543 e544 => ?_)
        obtain rfl : x543 = nI j1 := e544.trans ((congrFun hw12 _).trans ha1)
        have hP : va_P G.1 pCl (mW G h0 a (upd (upd (upd (upd (upd (upd (upd (upd (upd (upd (upd (upd (upd (upd (upd (upd (upd (upd (upd (upd (upd (upd F 49 (nI md)) 85 (nI im)) 97 (nI ct)) 98 (nI fl)) 99 (nI rmm)) 101 tds) 102 (nI op)) 111 (nI tp)) 115 (nI wn)) 116 (-1)) 117 (nI fu)) 118 rs0) 119 uc0) 120 (nI rd)) 121 ma0) 122 mc0) 123 ca) 124 mo) 125 nw) 126 isn) 128 (nI on)) 130 (nI idn)) B) _ := hP
        have hD : va_D A (mW G h0 a (upd (upd (upd (upd (upd (upd (upd (upd (upd (upd (upd (upd (upd (upd (upd (upd (upd (upd (upd (upd (upd (upd F 49 (nI md)) 85 (nI im)) 97 (nI ct)) 98 (nI fl)) 99 (nI rmm)) 101 tds) 102 (nI op)) 111 (nI tp)) 115 (nI wn)) 116 (-1)) 117 (nI fu)) 118 rs0) 119 uc0) 120 (nI rd)) 121 ma0) 122 mc0) 123 ca) 124 mo) 125 nw) 126 isn) 128 (nI on)) 130 (nI idn)) B) := hD
        refine pc_V0 (G := G) (As := [.int (nI j1)]) (rest := []) hx hb hml hown hq hE hX pX0_al hP hD hS hA hl.1 (R_begin l G h0 a (upd (upd (upd (upd (upd (upd (upd (upd (upd (upd (upd (upd (upd (upd (upd (upd (upd (upd (upd (upd (upd (upd F 49 (nI md)) 85 (nI im)) 97 (nI ct)) 98 (nI fl)) 99 (nI rmm)) 101 tds) 102 (nI op)) 111 (nI tp)) 115 (nI wn)) 116 (-1)) 117 (nI fu)) 118 rs0) 119 uc0) 120 (nI rd)) 121 ma0) 122 mc0) 123 ca) 124 mo) 125 nw) 126 isn) 128 (nI on)) 130 (nI idn)) B (nI j1)) (gV pw_2016 pw_2017 pw_2018 pw_1523 pw_2002) hV_X12_begin 0 9 rfl rfl rfl rfl (Nat.le_of_ble_eq_true rfl) dX12_beginsNow_592 ⟨Nat.le_of_ble_eq_true rfl, Nat.le_of_ble_eq_true rfl⟩ ⟨Nat.le_of_ble_eq_true rfl, Nat.le_of_ble_eq_true rfl⟩ (fun v547 u545 H locs hw546 hP hD hS => ?_)
        obtain rfl : v547 = none := hw546
        have hP : va_P G.1 pCl (mW G h0 a (upd (upd (upd (upd (upd (upd (upd (upd (upd (upd (upd (upd (upd (upd (upd (upd (upd (upd (upd (upd (upd (upd F 49 (nI md)) 85 (nI im)) 97 (nI ct)) 98 (nI fl)) 99 (nI rmm)) 101 tds) 102 (nI op)) 111 (nI tp)) 115 (nI wn)) 116 (-1)) 117 (nI fu)) 118 rs0) 119 uc0) 120 (nI rd)) 121 ma0) 122 mc0) 123 ca) 124 mo) 125 (nI j1)) 126 1) 128 (nI on)) 130 (nI idn)) B) _ := hP
        have hD : va_D A (mW G h0 a (upd (upd (upd (upd (upd (upd (upd (upd (upd (upd (upd (upd (upd (upd (upd (upd (upd (upd (upd (upd (upd (upd F 49 (nI md)) 85 (nI im)) 97 (nI ct)) 98 (nI fl)) 99 (nI rmm)) 101 tds) 102 (nI op)) 111 (nI tp)) 115 (nI wn)) 116 (-1)) 117 (nI fu)) 118 rs0) 119 uc0) 120 (nI rd)) 121 ma0) 122 mc0) 123 ca) 124 mo) 125 (nI j1)) 126 1) 128 (nI on)) 130 (nI idn)) B) := hD
        refine W.widen (k := 0) (n := 0) (Nat.le_of_ble_eq_true rfl) (Nat.le_of_ble_eq_true rfl) ?_
        refine W.eq (g2 := F0 m 595 ls []) rfl ?_
        refine lv_goto (tgt := 712) hx hb dX12_beginsNow_595 (by decide) ?_
        have hz548 : Nx Xs B gh nd T nm wr lz dc fd md pr bk M rmm fu (Phi gh ps op (rkN gh n9 false)) op tp wn fu rd on idn fl ct ((-1) : Int32) (nI j1) (1 : Int32) uc0 := ha3
        have hP : va_P G.1 pCl (mW G h0 a (upd (upd (upd (upd (upd (upd (upd (upd (upd (upd (upd (upd (upd (upd (upd (upd (upd (upd (upd (upd (upd (upd F 49 (nI md)) 85 (nI im)) 97 (nI ct)) 98 (nI fl)) 99 (nI rmm)) 101 tds) 102 (nI op)) 111 (nI tp)) 115 (nI wn)) 116 ((-1) : Int32)) 117 (nI fu)) 118 rs0) 119 uc0) 120 (nI rd)) 121 ma0) 122 mc0) 123 ca) 124 mo) 125 (nI j1)) 126 (1 : Int32)) 128 (nI on)) 130 (nI idn)) B) _ := hP
        have hD : va_D A (mW G h0 a (upd (upd (upd (upd (upd (upd (upd (upd (upd (upd (upd (upd (upd (upd (upd (upd (upd (upd (upd (upd (upd (upd F 49 (nI md)) 85 (nI im)) 97 (nI ct)) 98 (nI fl)) 99 (nI rmm)) 101 tds) 102 (nI op)) 111 (nI tp)) 115 (nI wn)) 116 ((-1) : Int32)) 117 (nI fu)) 118 rs0) 119 uc0) 120 (nI rd)) 121 ma0) 122 mc0) 123 ca) 124 mo) 125 (nI j1)) 126 (1 : Int32)) 128 (nI on)) 130 (nI idn)) B) := hD
        exact W.vret hx hb hr (fun t9 ht9 hW9 => ⟨⟨_, (op, tp, wn, fu, ((-1) : Int32), (nI j1), (1 : Int32), rs0, uc0, on, idn, fl, ct, tds, ma0, mc0, ca, mo, rd, B), rfl, ⟨rfl, hz548⟩, by rw [ht9]; exact hP, hD⟩, hS.F ht9⟩) hS.2.2 dX12_beginsNow_712
      · obtain ⟨j1, ha1, ha2, ha3⟩ := hs6 (by omega)
        clear hs5 hs6
        refine lv_aload_n hx hb dX12_beginsNow_555 rfl (lv_at hl 1 rfl) ?_
        refine lv_aload_n hx hb dX12_beginsNow_556 rfl (lv_at hl 1 rfl) ?_
        refine r_get (v := .ref (a 9)) hx hb hown hq hE hP 17 38 tFX12_17 (by decide) pw_1439 rfl dX12_beginsNow_557 ?_
        refine lv_aload_n hx hb dX12_beginsNow_560 rfl (lv_at hl 1 rfl) ?_
        refine r_get (v := .ref (a 12)) hx hb hown hq hE hP 20 47 tFX12_20 (by decide) pw_1442 rfl dX12_beginsNow_561 ?_
        refine lv_iload_n hx hb dX12_beginsNow_564 rfl (lv_at hl 2 rfl) ?_
        refine r_ldi (f := (B 12)) (j := n9) hx hb hE hP 12 (ma_12 G a _) rfl (by omega) (by decide) dX12_beginsNow_565 ?_
        refine lv_topi (fun x549 e550 => ?_)
        obtain rfl : x549 = nI a9 := e550.trans ((congrFun hw12 _).trans hs1)
        refine r_ldi (f := (B 9)) (j := a9) hx hb hE hP 9 (ma_9 G a _) rfl (by omega) (by decide) dX12_beginsNow_566 ?_
        refine lv_topi (fun x551 e552 => ?_)
        obtain rfl : x551 = 15 := e552.trans ((congrFun hw9 _).trans hs3)
        refine lv_bipush (v := 6) hx hb dX12_beginsNow_567 (by decide) ?_
        refine lv_icmp_ne (tgt := 581) hx hb dX12_beginsNow_569 (by decide) (fun c553 => ?_) (fun c553 => absurd c553 (by decide))
        refine lv_aload_n hx hb dX12_beginsNow_581 rfl (lv_at hl 1 rfl) ?_
        refine r_get (v := .ref (a 12)) hx hb hown hq hE hP 20 47 tFX12_20 (by decide) pw_1442 rfl dX12_beginsNow_582 ?_
        refine lv_aload_n hx hb dX12_beginsNow_585 rfl (lv_at hl 1 rfl) ?_
        refine r_get (v := .ref (a 12)) hx hb hown hq hE hP 20 47 tFX12_20 (by decide) pw_1442 rfl dX12_beginsNow_586 ?_
        refine lv_iload_n hx hb dX12_beginsNow_589 rfl (lv_at hl 2 rfl) ?_
        refine r_ldi (f := (B 12)) (j := n9) hx hb hE hP 12 (ma_12 G a _) rfl (by omega) (by decide) dX12_beginsNow_590 ?_
        refine lv_topi (fun x554 e555 => ?_)
        obtain rfl : x554 = nI a9 := e555.trans ((congrFun hw12 _).trans hs1)
        refine r_ldi (f := (B 12)) (j := a9) hx hb hE hP 12 (ma_12 G a _) rfl (by omega) (by decide) dX12_beginsNow_591 ?_
        refine lv_topi (fun x556 e557 => ?_)
        obtain rfl : x556 = nI j1 := e557.trans ((congrFun hw12 _).trans ha1)
        have hP : va_P G.1 pCl (mW G h0 a (upd (upd (upd (upd (upd (upd (upd (upd (upd (upd (upd (upd (upd (upd (upd (upd (upd (upd (upd (upd (upd (upd F 49 (nI md)) 85 (nI im)) 97 (nI ct)) 98 (nI fl)) 99 (nI rmm)) 101 tds) 102 (nI op)) 111 (nI tp)) 115 (nI wn)) 116 (-1)) 117 (nI fu)) 118 rs0) 119 uc0) 120 (nI rd)) 121 ma0) 122 mc0) 123 ca) 124 mo) 125 nw) 126 isn) 128 (nI on)) 130 (nI idn)) B) _ := hP
        have hD : va_D A (mW G h0 a (upd (upd (upd (upd (upd (upd (upd (upd (upd (upd (upd (upd (upd (upd (upd (upd (upd (upd (upd (upd (upd (upd F 49 (nI md)) 85 (nI im)) 97 (nI ct)) 98 (nI fl)) 99 (nI rmm)) 101 tds) 102 (nI op)) 111 (nI tp)) 115 (nI wn)) 116 (-1)) 117 (nI fu)) 118 rs0) 119 uc0) 120 (nI rd)) 121 ma0) 122 mc0) 123 ca) 124 mo) 125 nw) 126 isn) 128 (nI on)) 130 (nI idn)) B) := hD
        refine pc_V0 (G := G) (As := [.int (nI j1)]) (rest := []) hx hb hml hown hq hE hX pX0_al hP hD hS hA hl.1 (R_begin l G h0 a (upd (upd (upd (upd (upd (upd (upd (upd (upd (upd (upd (upd (upd (upd (upd (upd (upd (upd (upd (upd (upd (upd F 49 (nI md)) 85 (nI im)) 97 (nI ct)) 98 (nI fl)) 99 (nI rmm)) 101 tds) 102 (nI op)) 111 (nI tp)) 115 (nI wn)) 116 (-1)) 117 (nI fu)) 118 rs0) 119 uc0) 120 (nI rd)) 121 ma0) 122 mc0) 123 ca) 124 mo) 125 nw) 126 isn) 128 (nI on)) 130 (nI idn)) B (nI j1)) (gV pw_2016 pw_2017 pw_2018 pw_1523 pw_2002) hV_X12_begin 0 9 rfl rfl rfl rfl (Nat.le_of_ble_eq_true rfl) dX12_beginsNow_592 ⟨Nat.le_of_ble_eq_true rfl, Nat.le_of_ble_eq_true rfl⟩ ⟨Nat.le_of_ble_eq_true rfl, Nat.le_of_ble_eq_true rfl⟩ (fun v560 u558 H locs hw559 hP hD hS => ?_)
        obtain rfl : v560 = none := hw559
        have hP : va_P G.1 pCl (mW G h0 a (upd (upd (upd (upd (upd (upd (upd (upd (upd (upd (upd (upd (upd (upd (upd (upd (upd (upd (upd (upd (upd (upd F 49 (nI md)) 85 (nI im)) 97 (nI ct)) 98 (nI fl)) 99 (nI rmm)) 101 tds) 102 (nI op)) 111 (nI tp)) 115 (nI wn)) 116 (-1)) 117 (nI fu)) 118 rs0) 119 uc0) 120 (nI rd)) 121 ma0) 122 mc0) 123 ca) 124 mo) 125 (nI j1)) 126 1) 128 (nI on)) 130 (nI idn)) B) _ := hP
        have hD : va_D A (mW G h0 a (upd (upd (upd (upd (upd (upd (upd (upd (upd (upd (upd (upd (upd (upd (upd (upd (upd (upd (upd (upd (upd (upd F 49 (nI md)) 85 (nI im)) 97 (nI ct)) 98 (nI fl)) 99 (nI rmm)) 101 tds) 102 (nI op)) 111 (nI tp)) 115 (nI wn)) 116 (-1)) 117 (nI fu)) 118 rs0) 119 uc0) 120 (nI rd)) 121 ma0) 122 mc0) 123 ca) 124 mo) 125 (nI j1)) 126 1) 128 (nI on)) 130 (nI idn)) B) := hD
        refine W.widen (k := 0) (n := 0) (Nat.le_of_ble_eq_true rfl) (Nat.le_of_ble_eq_true rfl) ?_
        refine W.eq (g2 := F0 m 595 ls []) rfl ?_
        refine lv_goto (tgt := 712) hx hb dX12_beginsNow_595 (by decide) ?_
        have hz561 : Nx Xs B gh nd T nm wr lz dc fd md pr bk M rmm fu (Phi gh ps op (rkN gh n9 false)) op tp wn fu rd on idn fl ct ((-1) : Int32) (nI j1) (1 : Int32) uc0 := ha3
        have hP : va_P G.1 pCl (mW G h0 a (upd (upd (upd (upd (upd (upd (upd (upd (upd (upd (upd (upd (upd (upd (upd (upd (upd (upd (upd (upd (upd (upd F 49 (nI md)) 85 (nI im)) 97 (nI ct)) 98 (nI fl)) 99 (nI rmm)) 101 tds) 102 (nI op)) 111 (nI tp)) 115 (nI wn)) 116 ((-1) : Int32)) 117 (nI fu)) 118 rs0) 119 uc0) 120 (nI rd)) 121 ma0) 122 mc0) 123 ca) 124 mo) 125 (nI j1)) 126 (1 : Int32)) 128 (nI on)) 130 (nI idn)) B) _ := hP
        have hD : va_D A (mW G h0 a (upd (upd (upd (upd (upd (upd (upd (upd (upd (upd (upd (upd (upd (upd (upd (upd (upd (upd (upd (upd (upd (upd F 49 (nI md)) 85 (nI im)) 97 (nI ct)) 98 (nI fl)) 99 (nI rmm)) 101 tds) 102 (nI op)) 111 (nI tp)) 115 (nI wn)) 116 ((-1) : Int32)) 117 (nI fu)) 118 rs0) 119 uc0) 120 (nI rd)) 121 ma0) 122 mc0) 123 ca) 124 mo) 125 (nI j1)) 126 (1 : Int32)) 128 (nI on)) 130 (nI idn)) B) := hD
        exact W.vret hx hb hr (fun t9 ht9 hW9 => ⟨⟨_, (op, tp, wn, fu, ((-1) : Int32), (nI j1), (1 : Int32), rs0, uc0, on, idn, fl, ct, tds, ma0, mc0, ca, mo, rd, B), rfl, ⟨rfl, hz561⟩, by rw [ht9]; exact hP, hD⟩, hS.F ht9⟩) hS.2.2 dX12_beginsNow_712
    · have n562 : r521 = 0 := (nI_eq (a := r521) (b := 0) (by omega) (by omega)).mp c523
      refine lv_aload_n hx hb dX12_beginsNow_33 rfl (lv_at hl 1 rfl) ?_
      have hP : va_P G.1 pCl (mW G h0 a (upd (upd (upd (upd (upd (upd (upd (upd (upd (upd (upd (upd (upd (upd (upd (upd (upd (upd (upd (upd (upd (upd (upd (upd F 49 (nI md)) 85 (nI im)) 97 (nI ct)) 98 (nI fl)) 99 (nI rmm)) 101 tds) 102 (nI op)) 111 (nI tp)) 115 (nI wn)) 116 (-1)) 117 (nI fu)) 118 rs0) 119 uc0) 120 (nI rd)) 121 ma0) 122 mc0) 123 ca) 124 mo) 125 nw) 126 isn) 128 (nI on)) 130 (nI idn)) 116 (-1)) 117 (nI fu)) B) _ := hP
      have hD : va_D A (mW G h0 a (upd (upd (upd (upd (upd (upd (upd (upd (upd (upd (upd (upd (upd (upd (upd (upd (upd (upd (upd (upd (upd (upd (upd (upd F 49 (nI md)) 85 (nI im)) 97 (nI ct)) 98 (nI fl)) 99 (nI rmm)) 101 tds) 102 (nI op)) 111 (nI tp)) 115 (nI wn)) 116 (-1)) 117 (nI fu)) 118 rs0) 119 uc0) 120 (nI rd)) 121 ma0) 122 mc0) 123 ca) 124 mo) 125 nw) 126 isn) 128 (nI on)) 130 (nI idn)) 116 (-1)) 117 (nI fu)) B) := hD
      refine pc_V0 (G := G) (As := []) (rest := []) hx hb hml hown hq hE hX pX0_al hP hD hS hA hl.1 (R_pays l G h0 a (upd (upd (upd (upd (upd (upd (upd (upd (upd (upd (upd (upd (upd (upd (upd (upd (upd (upd (upd (upd (upd (upd F 49 (nI md)) 85 (nI im)) 97 (nI ct)) 98 (nI fl)) 99 (nI rmm)) 101 tds) 102 (nI op)) 111 (nI tp)) 115 (nI wn)) 116 (-1)) 117 (nI fu)) 118 rs0) 119 uc0) 120 (nI rd)) 121 ma0) 122 mc0) 123 ca) 124 mo) 125 nw) 126 isn) 128 (nI on)) 130 (nI idn)) B fu (-1) (by omega)) (gV pw_2026 pw_2027 pw_2028 pw_1523 pw_2000) hV_X12_pays 0 9 rfl rfl rfl rfl (Nat.le_of_ble_eq_true rfl) dX12_beginsNow_34 ⟨Nat.le_of_ble_eq_true rfl, Nat.le_of_ble_eq_true rfl⟩ ⟨Nat.le_of_ble_eq_true rfl, Nat.le_of_ble_eq_true rfl⟩ (fun v565 u563 H locs hw564 hP hD hS => ?_)
      obtain ⟨r566, fu567, en568⟩ := u563
      obtain ⟨hw564, h569, h570, h571, h572⟩ := hw564
      replace h569 : r566 ≤ 1 := h569
      replace h570 : fu567 + r566 = fu := h570
      replace h571 : If (r566 = 1) (en568 = (-1)) := h571
      replace h572 : If (r566 = 0) (en568 = 2) := h572
      obtain rfl : v565 = some (.int (nI r566)) := hw564
      have hP : va_P G.1 pCl (mW G h0 a (upd (upd (upd (upd (upd (upd (upd (upd (upd (upd (upd (upd (upd (upd (upd (upd (upd (upd (upd (upd (upd (upd F 49 (nI md)) 85 (nI im)) 97 (nI ct)) 98 (nI fl)) 99 (nI rmm)) 101 tds) 102 (nI op)) 111 (nI tp)) 115 (nI wn)) 116 en568) 117 (nI fu567)) 118 rs0) 119 uc0) 120 (nI rd)) 121 ma0) 122 mc0) 123 ca) 124 mo) 125 nw) 126 isn) 128 (nI on)) 130 (nI idn)) B) _ := hP
      have hD : va_D A (mW G h0 a (upd (upd (upd (upd (upd (upd (upd (upd (upd (upd (upd (upd (upd (upd (upd (upd (upd (upd (upd (upd (upd (upd F 49 (nI md)) 85 (nI im)) 97 (nI ct)) 98 (nI fl)) 99 (nI rmm)) 101 tds) 102 (nI op)) 111 (nI tp)) 115 (nI wn)) 116 en568) 117 (nI fu567)) 118 rs0) 119 uc0) 120 (nI rd)) 121 ma0) 122 mc0) 123 ca) 124 mo) 125 nw) 126 isn) 128 (nI on)) 130 (nI idn)) B) := hD
      refine W.widen (k := 0) (n := 0) (Nat.le_of_ble_eq_true rfl) (Nat.le_of_ble_eq_true rfl) ?_
      refine W.eq (g2 := F0 m 37 ls [.int (nI r566)]) rfl ?_
      rcases (show r566 = 0 ∨ r566 = 1 by omega) with hr0 | hr0
      · have hen := h572 hr0
        subst hr0
        have hP : va_P G.1 pCl (mW G h0 a (upd (upd (upd (upd (upd (upd (upd (upd (upd (upd (upd (upd (upd (upd (upd (upd (upd (upd (upd (upd (upd (upd F 49 (nI md)) 85 (nI im)) 97 (nI ct)) 98 (nI fl)) 99 (nI rmm)) 101 tds) 102 (nI op)) 111 (nI tp)) 115 (nI wn)) 116 en568) 117 (nI fu567)) 118 rs0) 119 uc0) 120 (nI rd)) 121 ma0) 122 mc0) 123 ca) 124 mo) 125 nw) 126 isn) 128 (nI on)) 130 (nI idn)) B) _ := hP
        have hD : va_D A (mW G h0 a (upd (upd (upd (upd (upd (upd (upd (upd (upd (upd (upd (upd (upd (upd (upd (upd (upd (upd (upd (upd (upd (upd F 49 (nI md)) 85 (nI im)) 97 (nI ct)) 98 (nI fl)) 99 (nI rmm)) 101 tds) 102 (nI op)) 111 (nI tp)) 115 (nI wn)) 116 en568) 117 (nI fu567)) 118 rs0) 119 uc0) 120 (nI rd)) 121 ma0) 122 mc0) 123 ca) 124 mo) 125 nw) 126 isn) 128 (nI on)) 130 (nI idn)) B) := hD
        refine W.eq (g2 := F0 m 37 ls [.int 0]) rfl ?_
        refine lv_if_ne (tgt := 41) hx hb dX12_beginsNow_37 (by decide) (fun c573 => absurd c573 (by decide)) (fun c573 => ?_)
        have hz574 : Nx Xs B gh nd T nm wr lz dc fd md pr bk M rmm fu (Phi gh ps op (rkN gh n9 false)) op tp wn fu567 rd on idn fl ct en568 nw isn uc0 := (hR.stop Sta.rfl hR.hp (by rw [hen]; decide) (by rw [hen]; decide))
        have hP : va_P G.1 pCl (mW G h0 a (upd (upd (upd (upd (upd (upd (upd (upd (upd (upd (upd (upd (upd (upd (upd (upd (upd (upd (upd (upd (upd (upd F 49 (nI md)) 85 (nI im)) 97 (nI ct)) 98 (nI fl)) 99 (nI rmm)) 101 tds) 102 (nI op)) 111 (nI tp)) 115 (nI wn)) 116 en568) 117 (nI fu567)) 118 rs0) 119 uc0) 120 (nI rd)) 121 ma0) 122 mc0) 123 ca) 124 mo) 125 nw) 126 isn) 128 (nI on)) 130 (nI idn)) B) _ := hP
        have hD : va_D A (mW G h0 a (upd (upd (upd (upd (upd (upd (upd (upd (upd (upd (upd (upd (upd (upd (upd (upd (upd (upd (upd (upd (upd (upd F 49 (nI md)) 85 (nI im)) 97 (nI ct)) 98 (nI fl)) 99 (nI rmm)) 101 tds) 102 (nI op)) 111 (nI tp)) 115 (nI wn)) 116 en568) 117 (nI fu567)) 118 rs0) 119 uc0) 120 (nI rd)) 121 ma0) 122 mc0) 123 ca) 124 mo) 125 nw) 126 isn) 128 (nI on)) 130 (nI idn)) B) := hD
        exact W.vret hx hb hr (fun t9 ht9 hW9 => ⟨⟨_, (op, tp, wn, fu567, en568, nw, isn, rs0, uc0, on, idn, fl, ct, tds, ma0, mc0, ca, mo, rd, B), rfl, ⟨rfl, hz574⟩, by rw [ht9]; exact hP, hD⟩, hS.F ht9⟩) hS.2.2 dX12_beginsNow_40
      · obtain rfl : en568 = _ := h571 hr0
        subst hr0
        have hP : va_P G.1 pCl (mW G h0 a (upd (upd (upd (upd (upd (upd (upd (upd (upd (upd (upd (upd (upd (upd (upd (upd (upd (upd (upd (upd (upd (upd F 49 (nI md)) 85 (nI im)) 97 (nI ct)) 98 (nI fl)) 99 (nI rmm)) 101 tds) 102 (nI op)) 111 (nI tp)) 115 (nI wn)) 116 (-1)) 117 (nI fu567)) 118 rs0) 119 uc0) 120 (nI rd)) 121 ma0) 122 mc0) 123 ca) 124 mo) 125 nw) 126 isn) 128 (nI on)) 130 (nI idn)) B) _ := hP
        have hD : va_D A (mW G h0 a (upd (upd (upd (upd (upd (upd (upd (upd (upd (upd (upd (upd (upd (upd (upd (upd (upd (upd (upd (upd (upd (upd F 49 (nI md)) 85 (nI im)) 97 (nI ct)) 98 (nI fl)) 99 (nI rmm)) 101 tds) 102 (nI op)) 111 (nI tp)) 115 (nI wn)) 116 (-1)) 117 (nI fu567)) 118 rs0) 119 uc0) 120 (nI rd)) 121 ma0) 122 mc0) 123 ca) 124 mo) 125 nw) 126 isn) 128 (nI on)) 130 (nI idn)) B) := hD
        refine W.eq (g2 := F0 m 37 ls [.int 1]) rfl ?_
        have hR1 := hR.fuel (show fu567 ≤ fu by omega)
        refine lv_if_ne (tgt := 41) hx hb dX12_beginsNow_37 (by decide) (fun c575 => ?_) (fun c575 => absurd c575 (by decide))
        refine lv_iload_n hx hb dX12_beginsNow_41 rfl (lv_at hl 0 rfl) ?_
        refine lv_tableIn (tgt := 555) (off := 513) hx hb dX12_beginsNow_42 (by decide) (by decide) (by decide) (by decide) ?_
        obtain ⟨a9, ka, hs1, hs2, hs3, hs4, hs5, hs6⟩ := hR1.b32 (uc := uc0) hkd
        rcases hs4 with rfl | rfl | rfl
        · obtain ⟨j1, ha1, ha2, ha3⟩ := hs5 rfl
          clear hs5 hs6
          refine lv_aload_n hx hb dX12_beginsNow_555 rfl (lv_at hl 1 rfl) ?_
          refine lv_aload_n hx hb dX12_beginsNow_556 rfl (lv_at hl 1 rfl) ?_
          refine r_get (v := .ref (a 9)) hx hb hown hq hE hP 17 38 tFX12_17 (by decide) pw_1439 rfl dX12_beginsNow_557 ?_
          refine lv_aload_n hx hb dX12_beginsNow_560 rfl (lv_at hl 1 rfl) ?_
          refine r_get (v := .ref (a 12)) hx hb hown hq hE hP 20 47 tFX12_20 (by decide) pw_1442 rfl dX12_beginsNow_561 ?_
          refine lv_iload_n hx hb dX12_beginsNow_564 rfl (lv_at hl 2 rfl) ?_
          refine r_ldi (f := (B 12)) (j := n9) hx hb hE hP 12 (ma_12 G a _) rfl (by omega) (by decide) dX12_beginsNow_565 ?_
          refine lv_topi (fun x576 e577 => ?_)
          obtain rfl : x576 = nI a9 := e577.trans ((congrFun hw12 _).trans hs1)
          refine r_ldi (f := (B 9)) (j := a9) hx hb hE hP 9 (ma_9 G a _) rfl (by omega) (by decide) dX12_beginsNow_566 ?_
          refine lv_topi (fun x578 e579 => ?_)
          obtain rfl : x578 = 6 := e579.trans ((congrFun hw9 _).trans hs3)
          refine lv_bipush (v := 6) hx hb dX12_beginsNow_567 (by decide) ?_
          refine lv_icmp_ne (tgt := 581) hx hb dX12_beginsNow_569 (by decide) (fun c580 => absurd c580 (by decide)) (fun c580 => ?_)
          refine lv_aload_n hx hb dX12_beginsNow_572 rfl (lv_at hl 1 rfl) ?_
          refine r_get (v := .ref (a 13)) hx hb hown hq hE hP 21 50 tFX12_21 (by decide) pw_1443 rfl dX12_beginsNow_573 ?_
          refine lv_iload_n hx hb dX12_beginsNow_576 rfl (lv_at hl 2 rfl) ?_
          refine r_ldi (f := (B 13)) (j := n9) hx hb hE hP 13 (ma_13 G a _) rfl (by omega) (by decide) dX12_beginsNow_577 ?_
          refine lv_topi (fun x581 e582 => ?_)
          obtain rfl : x581 = nI j1 := e582.trans ((congrFun hw13 _).trans ha1)
          refine lv_goto (tgt := 592) hx hb dX12_beginsNow_578 (by decide) ?_
          have hP : va_P G.1 pCl (mW G h0 a (upd (upd (upd (upd (upd (upd (upd (upd (upd (upd (upd (upd (upd (upd (upd (upd (upd (upd (upd (upd (upd (upd F 49 (nI md)) 85 (nI im)) 97 (nI ct)) 98 (nI fl)) 99 (nI rmm)) 101 tds) 102 (nI op)) 111 (nI tp)) 115 (nI wn)) 116 (-1)) 117 (nI fu567)) 118 rs0) 119 uc0) 120 (nI rd)) 121 ma0) 122 mc0) 123 ca) 124 mo) 125 nw) 126 isn) 128 (nI on)) 130 (nI idn)) B) _ := hP
          have hD : va_D A (mW G h0 a (upd (upd (upd (upd (upd (upd (upd (upd (upd (upd (upd (upd (upd (upd (upd (upd (upd (upd (upd (upd (upd (upd F 49 (nI md)) 85 (nI im)) 97 (nI ct)) 98 (nI fl)) 99 (nI rmm)) 101 tds) 102 (nI op)) 111 (nI tp)) 115 (nI wn)) 116 (-1)) 117 (nI fu567)) 118 rs0) 119 uc0) 120 (nI rd)) 121 ma0) 122 mc0) 123 ca) 124 mo) 125 nw) 126 isn) 128 (nI on)) 130 (nI idn)) B) := hD
          refine pc_V0 (G := G) (As := [.int (nI j1)]) (rest := []) hx hb hml hown hq hE hX pX0_al hP hD hS hA hl.1 (R_begin l G h0 a (upd (upd (upd (upd (upd (upd (upd (upd (upd (upd (upd (upd (upd (upd (upd (upd (upd (upd (upd (upd (upd (upd F 49 (nI md)) 85 (nI im)) 97 (nI ct)) 98 (nI fl)) 99 (nI rmm)) 101 tds) 102 (nI op)) 111 (nI tp)) 115 (nI wn)) 116 (-1)) 117 (nI fu567)) 118 rs0) 119 uc0) 120 (nI rd)) 121 ma0) 122 mc0) 123 ca) 124 mo) 125 nw) 126 isn) 128 (nI on)) 130 (nI idn)) B (nI j1)) (gV pw_2016 pw_2017 pw_2018 pw_1523 pw_2002) hV_X12_begin 0 9 rfl rfl rfl rfl (Nat.le_of_ble_eq_true rfl) dX12_beginsNow_592 ⟨Nat.le_of_ble_eq_true rfl, Nat.le_of_ble_eq_true rfl⟩ ⟨Nat.le_of_ble_eq_true rfl, Nat.le_of_ble_eq_true rfl⟩ (fun v585 u583 H locs hw584 hP hD hS => ?_)
          obtain rfl : v585 = none := hw584
          have hP : va_P G.1 pCl (mW G h0 a (upd (upd (upd (upd (upd (upd (upd (upd (upd (upd (upd (upd (upd (upd (upd (upd (upd (upd (upd (upd (upd (upd F 49 (nI md)) 85 (nI im)) 97 (nI ct)) 98 (nI fl)) 99 (nI rmm)) 101 tds) 102 (nI op)) 111 (nI tp)) 115 (nI wn)) 116 (-1)) 117 (nI fu567)) 118 rs0) 119 uc0) 120 (nI rd)) 121 ma0) 122 mc0) 123 ca) 124 mo) 125 (nI j1)) 126 1) 128 (nI on)) 130 (nI idn)) B) _ := hP
          have hD : va_D A (mW G h0 a (upd (upd (upd (upd (upd (upd (upd (upd (upd (upd (upd (upd (upd (upd (upd (upd (upd (upd (upd (upd (upd (upd F 49 (nI md)) 85 (nI im)) 97 (nI ct)) 98 (nI fl)) 99 (nI rmm)) 101 tds) 102 (nI op)) 111 (nI tp)) 115 (nI wn)) 116 (-1)) 117 (nI fu567)) 118 rs0) 119 uc0) 120 (nI rd)) 121 ma0) 122 mc0) 123 ca) 124 mo) 125 (nI j1)) 126 1) 128 (nI on)) 130 (nI idn)) B) := hD
          refine W.widen (k := 0) (n := 0) (Nat.le_of_ble_eq_true rfl) (Nat.le_of_ble_eq_true rfl) ?_
          refine W.eq (g2 := F0 m 595 ls []) rfl ?_
          refine lv_goto (tgt := 712) hx hb dX12_beginsNow_595 (by decide) ?_
          have hz586 : Nx Xs B gh nd T nm wr lz dc fd md pr bk M rmm fu (Phi gh ps op (rkN gh n9 false)) op tp wn fu567 rd on idn fl ct ((-1) : Int32) (nI j1) (1 : Int32) uc0 := (Nx.le (fu1 := fu567) ha3 (by omega))
          have hP : va_P G.1 pCl (mW G h0 a (upd (upd (upd (upd (upd (upd (upd (upd (upd (upd (upd (upd (upd (upd (upd (upd (upd (upd (upd (upd (upd (upd F 49 (nI md)) 85 (nI im)) 97 (nI ct)) 98 (nI fl)) 99 (nI rmm)) 101 tds) 102 (nI op)) 111 (nI tp)) 115 (nI wn)) 116 ((-1) : Int32)) 117 (nI fu567)) 118 rs0) 119 uc0) 120 (nI rd)) 121 ma0) 122 mc0) 123 ca) 124 mo) 125 (nI j1)) 126 (1 : Int32)) 128 (nI on)) 130 (nI idn)) B) _ := hP
          have hD : va_D A (mW G h0 a (upd (upd (upd (upd (upd (upd (upd (upd (upd (upd (upd (upd (upd (upd (upd (upd (upd (upd (upd (upd (upd (upd F 49 (nI md)) 85 (nI im)) 97 (nI ct)) 98 (nI fl)) 99 (nI rmm)) 101 tds) 102 (nI op)) 111 (nI tp)) 115 (nI wn)) 116 ((-1) : Int32)) 117 (nI fu567)) 118 rs0) 119 uc0) 120 (nI rd)) 121 ma0) 122 mc0) 123 ca) 124 mo) 125 (nI j1)) 126 (1 : Int32)) 128 (nI on)) 130 (nI idn)) B) := hD
          exact W.vret hx hb hr (fun t9 ht9 hW9 => ⟨⟨_, (op, tp, wn, fu567, ((-1) : Int32), (nI j1), (1 : Int32), rs0, uc0, on, idn, fl, ct, tds, ma0, mc0, ca, mo, rd, B), rfl, ⟨rfl, hz586⟩, by rw [ht9]; exact hP, hD⟩, hS.F ht9⟩) hS.2.2 dX12_beginsNow_712
        · obtain ⟨j1, ha1, ha2, ha3⟩ := hs6 (by omega)
          clear hs5 hs6
          refine lv_aload_n hx hb dX12_beginsNow_555 rfl (lv_at hl 1 rfl) ?_
          refine lv_aload_n hx hb dX12_beginsNow_556 rfl (lv_at hl 1 rfl) ?_
          refine r_get (v := .ref (a 9)) hx hb hown hq hE hP 17 38 tFX12_17 (by decide) pw_1439 rfl dX12_beginsNow_557 ?_
          refine lv_aload_n hx hb dX12_beginsNow_560 rfl (lv_at hl 1 rfl) ?_
          refine r_get (v := .ref (a 12)) hx hb hown hq hE hP 20 47 tFX12_20 (by decide) pw_1442 rfl dX12_beginsNow_561 ?_
          refine lv_iload_n hx hb dX12_beginsNow_564 rfl (lv_at hl 2 rfl) ?_
          refine r_ldi (f := (B 12)) (j := n9) hx hb hE hP 12 (ma_12 G a _) rfl (by omega) (by decide) dX12_beginsNow_565 ?_
          refine lv_topi (fun x587 e588 => ?_)
          obtain rfl : x587 = nI a9 := e588.trans ((congrFun hw12 _).trans hs1)
          refine r_ldi (f := (B 9)) (j := a9) hx hb hE hP 9 (ma_9 G a _) rfl (by omega) (by decide) dX12_beginsNow_566 ?_
          refine lv_topi (fun x589 e590 => ?_)
          obtain rfl : x589 = 12 := e590.trans ((congrFun hw9 _).trans hs3)
          refine lv_bipush (v := 6) hx hb dX12_beginsNow_567 (by decide) ?_
          refine lv_icmp_ne (tgt := 581) hx hb dX12_beginsNow_569 (by decide) (fun c591 => ?_) (fun c591 => absurd c591 (by decide))
          refine lv_aload_n hx hb dX12_beginsNow_581 rfl (lv_at hl 1 rfl) ?_
          refine r_get (v := .ref (a 12)) hx hb hown hq hE hP 20 47 tFX12_20 (by decide) pw_1442 rfl dX12_beginsNow_582 ?_
          refine lv_aload_n hx hb dX12_beginsNow_585 rfl (lv_at hl 1 rfl) ?_
          refine r_get (v := .ref (a 12)) hx hb hown hq hE hP 20 47 tFX12_20 (by decide) pw_1442 rfl dX12_beginsNow_586 ?_
          refine lv_iload_n hx hb dX12_beginsNow_589 rfl (lv_at hl 2 rfl) ?_
          refine r_ldi (f := (B 12)) (j := n9) hx hb hE hP 12 (ma_12 G a _) rfl (by omega) (by decide) dX12_beginsNow_590 ?_
          refine lv_topi (fun x592 e593 => ?_)
          obtain rfl : x592 = nI a9 := e593.trans ((congrFun hw12 _).trans hs1)
          refine r_ldi (f := (B 12)) (j := a9) hx hb hE hP 12 (ma_12 G a _) rfl (by omega) (by decide) dX12_beginsNow_591 ?_
          refine lv_topi (fun x594 e595 => ?_)
          obtain rfl : x594 = nI j1 := e595.trans ((congrFun hw12 _).trans ha1)
          have hP : va_P G.1 pCl (mW G h0 a (upd (upd (upd (upd (upd (upd (upd (upd (upd (upd (upd (upd (upd (upd (upd (upd (upd (upd (upd (upd (upd (upd F 49 (nI md)) 85 (nI im)) 97 (nI ct)) 98 (nI fl)) 99 (nI rmm)) 101 tds) 102 (nI op)) 111 (nI tp)) 115 (nI wn)) 116 (-1)) 117 (nI fu567)) 118 rs0) 119 uc0) 120 (nI rd)) 121 ma0) 122 mc0) 123 ca) 124 mo) 125 nw) 126 isn) 128 (nI on)) 130 (nI idn)) B) _ := hP
          have hD : va_D A (mW G h0 a (upd (upd (upd (upd (upd (upd (upd (upd (upd (upd (upd (upd (upd (upd (upd (upd (upd (upd (upd (upd (upd (upd F 49 (nI md)) 85 (nI im)) 97 (nI ct)) 98 (nI fl)) 99 (nI rmm)) 101 tds) 102 (nI op)) 111 (nI tp)) 115 (nI wn)) 116 (-1)) 117 (nI fu567)) 118 rs0) 119 uc0) 120 (nI rd)) 121 ma0) 122 mc0) 123 ca) 124 mo) 125 nw) 126 isn) 128 (nI on)) 130 (nI idn)) B) := hD
          refine pc_V0 (G := G) (As := [.int (nI j1)]) (rest := []) hx hb hml hown hq hE hX pX0_al hP hD hS hA hl.1 (R_begin l G h0 a (upd (upd (upd (upd (upd (upd (upd (upd (upd (upd (upd (upd (upd (upd (upd (upd (upd (upd (upd (upd (upd (upd F 49 (nI md)) 85 (nI im)) 97 (nI ct)) 98 (nI fl)) 99 (nI rmm)) 101 tds) 102 (nI op)) 111 (nI tp)) 115 (nI wn)) 116 (-1)) 117 (nI fu567)) 118 rs0) 119 uc0) 120 (nI rd)) 121 ma0) 122 mc0) 123 ca) 124 mo) 125 nw) 126 isn) 128 (nI on)) 130 (nI idn)) B (nI j1)) (gV pw_2016 pw_2017 pw_2018 pw_1523 pw_2002) hV_X12_begin 0 9 rfl rfl rfl rfl (Nat.le_of_ble_eq_true rfl) dX12_beginsNow_592 ⟨Nat.le_of_ble_eq_true rfl, Nat.le_of_ble_eq_true rfl⟩ ⟨Nat.le_of_ble_eq_true rfl, Nat.le_of_ble_eq_true rfl⟩ (fun v598 u596 H locs hw597 hP hD hS => ?_)
          obtain rfl : v598 = none := hw597
          have hP : va_P G.1 pCl (mW G h0 a (upd (upd (upd (upd (upd (upd (upd (upd (upd (upd (upd (upd (upd (upd (upd (upd (upd (upd (upd (upd (upd (upd F 49 (nI md)) 85 (nI im)) 97 (nI ct)) 98 (nI fl)) 99 (nI rmm)) 101 tds) 102 (nI op)) 111 (nI tp)) 115 (nI wn)) 116 (-1)) 117 (nI fu567)) 118 rs0) 119 uc0) 120 (nI rd)) 121 ma0) 122 mc0) 123 ca) 124 mo) 125 (nI j1)) 126 1) 128 (nI on)) 130 (nI idn)) B) _ := hP
          have hD : va_D A (mW G h0 a (upd (upd (upd (upd (upd (upd (upd (upd (upd (upd (upd (upd (upd (upd (upd (upd (upd (upd (upd (upd (upd (upd F 49 (nI md)) 85 (nI im)) 97 (nI ct)) 98 (nI fl)) 99 (nI rmm)) 101 tds) 102 (nI op)) 111 (nI tp)) 115 (nI wn)) 116 (-1)) 117 (nI fu567)) 118 rs0) 119 uc0) 120 (nI rd)) 121 ma0) 122 mc0) 123 ca) 124 mo) 125 (nI j1)) 126 1) 128 (nI on)) 130 (nI idn)) B) := hD
          refine W.widen (k := 0) (n := 0) (Nat.le_of_ble_eq_true rfl) (Nat.le_of_ble_eq_true rfl) ?_
          refine W.eq (g2 := F0 m 595 ls []) rfl ?_
          refine lv_goto (tgt := 712) hx hb dX12_beginsNow_595 (by decide) ?_
          have hz599 : Nx Xs B gh nd T nm wr lz dc fd md pr bk M rmm fu (Phi gh ps op (rkN gh n9 false)) op tp wn fu567 rd on idn fl ct ((-1) : Int32) (nI j1) (1 : Int32) uc0 := (Nx.le (fu1 := fu567) ha3 (by omega))
          have hP : va_P G.1 pCl (mW G h0 a (upd (upd (upd (upd (upd (upd (upd (upd (upd (upd (upd (upd (upd (upd (upd (upd (upd (upd (upd (upd (upd (upd F 49 (nI md)) 85 (nI im)) 97 (nI ct)) 98 (nI fl)) 99 (nI rmm)) 101 tds) 102 (nI op)) 111 (nI tp)) 115 (nI wn)) 116 ((-1) : Int32)) 117 (nI fu567)) 118 rs0) 119 uc0) 120 (nI rd)) 121 ma0) 122 mc0) 123 ca) 124 mo) 125 (nI j1)) 126 (1 : Int32)) 128 (nI on)) 130 (nI idn)) B) _ := hP
          have hD : va_D A (mW G h0 a (upd (upd (upd (upd (upd (upd (upd (upd (upd (upd (upd (upd (upd (upd (upd (upd (upd (upd (upd (upd (upd (upd F 49 (nI md)) 85 (nI im)) 97 (nI ct)) 98 (nI fl)) 99 (nI rmm)) 101 tds) 102 (nI op)) 111 (nI tp)) 115 (nI wn)) 116 ((-1) : Int32)) 117 (nI fu567)) 118 rs0) 119 uc0) 120 (nI rd)) 121 ma0) 122 mc0) 123 ca) 124 mo) 125 (nI j1)) 126 (1 : Int32)) 128 (nI on)) 130 (nI idn)) B) := hD
          exact W.vret hx hb hr (fun t9 ht9 hW9 => ⟨⟨_, (op, tp, wn, fu567, ((-1) : Int32), (nI j1), (1 : Int32), rs0, uc0, on, idn, fl, ct, tds, ma0, mc0, ca, mo, rd, B), rfl, ⟨rfl, hz599⟩, by rw [ht9]; exact hP, hD⟩, hS.F ht9⟩) hS.2.2 dX12_beginsNow_712
        · obtain ⟨j1, ha1, ha2, ha3⟩ := hs6 (by omega)
          clear hs5 hs6
          refine lv_aload_n hx hb dX12_beginsNow_555 rfl (lv_at hl 1 rfl) ?_
          refine lv_aload_n hx hb dX12_beginsNow_556 rfl (lv_at hl 1 rfl) ?_
          refine r_get (v := .ref (a 9)) hx hb hown hq hE hP 17 38 tFX12_17 (by decide) pw_1439 rfl dX12_beginsNow_557 ?_
          refine lv_aload_n hx hb dX12_beginsNow_560 rfl (lv_at hl 1 rfl) ?_
          refine r_get (v := .ref (a 12)) hx hb hown hq hE hP 20 47 tFX12_20 (by decide) pw_1442 rfl dX12_beginsNow_561 ?_
          refine lv_iload_n hx hb dX12_beginsNow_564 rfl (lv_at hl 2 rfl) ?_
          refine r_ldi (f := (B 12)) (j := n9) hx hb hE hP 12 (ma_12 G a _) rfl (by omega) (by decide) dX12_beginsNow_565 ?_
          refine lv_topi (fun x600 e601 => ?_)
          obtain rfl : x600 = nI a9 := e601.trans ((congrFun hw12 _).trans hs1)
          refine r_ldi (f := (B 9)) (j := a9) hx hb hE hP 9 (ma_9 G a _) rfl (by omega) (by decide) dX12_beginsNow_566 ?_
          refine lv_topi (fun x602 e603 => ?_)
          obtain rfl : x602 = 15 := e603.trans ((congrFun hw9 _).trans hs3)
          refine lv_bipush (v := 6) hx hb dX12_beginsNow_567 (by decide) ?_
          refine lv_icmp_ne (tgt := 581) hx hb dX12_beginsNow_569 (by decide) (fun c604 => ?_) (fun c604 => absurd c604 (by decide))
          refine lv_aload_n hx hb dX12_beginsNow_581 rfl (lv_at hl 1 rfl) ?_
          refine r_get (v := .ref (a 12)) hx hb hown hq hE hP 20 47 tFX12_20 (by decide) pw_1442 rfl dX12_beginsNow_582 ?_
          refine lv_aload_n hx hb dX12_beginsNow_585 rfl (lv_at hl 1 rfl) ?_
          refine r_get (v := .ref (a 12)) hx hb hown hq hE hP 20 47 tFX12_20 (by decide) pw_1442 rfl dX12_beginsNow_586 ?_
          refine lv_iload_n hx hb dX12_beginsNow_589 rfl (lv_at hl 2 rfl) ?_
          refine r_ldi (f := (B 12)) (j := n9) hx hb hE hP 12 (ma_12 G a _) rfl (by omega) (by decide) dX12_beginsNow_590 ?_
          refine lv_topi (fun x605 e606 => ?_)
          obtain rfl : x605 = nI a9 := e606.trans ((congrFun hw12 _).trans hs1)
          refine r_ldi (f := (B 12)) (j := a9) hx hb hE hP 12 (ma_12 G a _) rfl (by omega) (by decide) dX12_beginsNow_591 ?_
          refine lv_topi (fun x607 e608 => ?_)
          obtain rfl : x607 = nI j1 := e608.trans ((congrFun hw12 _).trans ha1)
          have hP : va_P G.1 pCl (mW G h0 a (upd (upd (upd (upd (upd (upd (upd (upd (upd (upd (upd (upd (upd (upd (upd (upd (upd (upd (upd (upd (upd (upd F 49 (nI md)) 85 (nI im)) 97 (nI ct)) 98 (nI fl)) 99 (nI rmm)) 101 tds) 102 (nI op)) 111 (nI tp)) 115 (nI wn)) 116 (-1)) 117 (nI fu567)) 118 rs0) 119 uc0) 120 (nI rd)) 121 ma0) 122 mc0) 123 ca) 124 mo) 125 nw) 126 isn) 128 (nI on)) 130 (nI idn)) B) _ := hP
          have hD : va_D A (mW G h0 a (upd (upd (upd (upd (upd (upd (upd (upd (upd (upd (upd (upd (upd (upd (upd (upd (upd (upd (upd (upd (upd (upd F 49 (nI md)) 85 (nI im)) 97 (nI ct)) 98 (nI fl)) 99 (nI rmm)) 101 tds) 102 (nI op)) 111 (nI tp)) 115 (nI wn)) 116 (-1)) 117 (nI fu567)) 118 rs0) 119 uc0) 120 (nI rd)) 121 ma0) 122 mc0) 123 ca) 124 mo) 125 nw) 126 isn) 128 (nI on)) 130 (nI idn)) B) := hD
          refine pc_V0 (G := G) (As := [.int (nI j1)]) (rest := []) hx hb hml hown hq hE hX pX0_al hP hD hS hA hl.1 (R_begin l G h0 a (upd (upd (upd (upd (upd (upd (upd (upd (upd (upd (upd (upd (upd (upd (upd (upd (upd (upd (upd (upd (upd (upd F 49 (nI md)) 85 (nI im)) 97 (nI ct)) 98 (nI fl)) 99 (nI rmm)) 101 tds) 102 (nI op)) 111 (nI tp)) 115 (nI wn)) 116 (-1)) 117 (nI fu567)) 118 rs0) 119 uc0) 120 (nI rd)) 121 ma0) 122 mc0) 123 ca) 124 mo) 125 nw) 126 isn) 128 (nI on)) 130 (nI idn)) B (nI j1)) (gV pw_2016 pw_2017 pw_2018 pw_1523 pw_2002) hV_X12_begin 0 9 rfl rfl rfl rfl (Nat.le_of_ble_eq_true rfl) dX12_beginsNow_592 ⟨Nat.le_of_ble_eq_true rfl, Nat.le_of_ble_eq_true rfl⟩ ⟨Nat.le_of_ble_eq_true rfl, Nat.le_of_ble_eq_true rfl⟩ (fun v611 u609 H locs hw610 hP hD hS => ?_)
          obtain rfl : v611 = none := hw610
          have hP : va_P G.1 pCl (mW G h0 a (upd (upd (upd (upd (upd (upd (upd (upd (upd (upd (upd (upd (upd (upd (upd (upd (upd (upd (upd (upd (upd (upd F 49 (nI md)) 85 (nI im)) 97 (nI ct)) 98 (nI fl)) 99 (nI rmm)) 101 tds) 102 (nI op)) 111 (nI tp)) 115 (nI wn)) 116 (-1)) 117 (nI fu567)) 118 rs0) 119 uc0) 120 (nI rd)) 121 ma0) 122 mc0) 123 ca) 124 mo) 125 (nI j1)) 126 1) 128 (nI on)) 130 (nI idn)) B) _ := hP
          have hD : va_D A (mW G h0 a (upd (upd (upd (upd (upd (upd (upd (upd (upd (upd (upd (upd (upd (upd (upd (upd (upd (upd (upd (upd (upd (upd F 49 (nI md)) 85 (nI im)) 97 (nI ct)) 98 (nI fl)) 99 (nI rmm)) 101 tds) 102 (nI op)) 111 (nI tp)) 115 (nI wn)) 116 (-1)) 117 (nI fu567)) 118 rs0) 119 uc0) 120 (nI rd)) 121 ma0) 122 mc0) 123 ca) 124 mo) 125 (nI j1)) 126 1) 128 (nI on)) 130 (nI idn)) B) := hD
          refine W.widen (k := 0) (n := 0) (Nat.le_of_ble_eq_true rfl) (Nat.le_of_ble_eq_true rfl) ?_
          refine W.eq (g2 := F0 m 595 ls []) rfl ?_
          refine lv_goto (tgt := 712) hx hb dX12_beginsNow_595 (by decide) ?_
          have hz612 : Nx Xs B gh nd T nm wr lz dc fd md pr bk M rmm fu (Phi gh ps op (rkN gh n9 false)) op tp wn fu567 rd on idn fl ct ((-1) : Int32) (nI j1) (1 : Int32) uc0 := (Nx.le (fu1 := fu567) ha3 (by omega))
          have hP : va_P G.1 pCl (mW G h0 a (upd (upd (upd (upd (upd (upd (upd (upd (upd (upd (upd (upd (upd (upd (upd (upd (upd (upd (upd (upd (upd (upd F 49 (nI md)) 85 (nI im)) 97 (nI ct)) 98 (nI fl)) 99 (nI rmm)) 101 tds) 102 (nI op)) 111 (nI tp)) 115 (nI wn)) 116 ((-1) : Int32)) 117 (nI fu567)) 118 rs0) 119 uc0) 120 (nI rd)) 121 ma0) 122 mc0) 123 ca) 124 mo) 125 (nI j1)) 126 (1 : Int32)) 128 (nI on)) 130 (nI idn)) B) _ := hP
          have hD : va_D A (mW G h0 a (upd (upd (upd (upd (upd (upd (upd (upd (upd (upd (upd (upd (upd (upd (upd (upd (upd (upd (upd (upd (upd (upd F 49 (nI md)) 85 (nI im)) 97 (nI ct)) 98 (nI fl)) 99 (nI rmm)) 101 tds) 102 (nI op)) 111 (nI tp)) 115 (nI wn)) 116 ((-1) : Int32)) 117 (nI fu567)) 118 rs0) 119 uc0) 120 (nI rd)) 121 ma0) 122 mc0) 123 ca) 124 mo) 125 (nI j1)) 126 (1 : Int32)) 128 (nI on)) 130 (nI idn)) B) := hD
          exact W.vret hx hb hr (fun t9 ht9 hW9 => ⟨⟨_, (op, tp, wn, fu567, ((-1) : Int32), (nI j1), (1 : Int32), rs0, uc0, on, idn, fl, ct, tds, ma0, mc0, ca, mo, rd, B), rfl, ⟨rfl, hz612⟩, by rw [ht9]; exact hP, hD⟩, hS.F ht9⟩) hS.2.2 dX12_beginsNow_712
  · clear hn44 hkr hko
    refine lv_aload_n hx hb dX12_beginsNow_0 rfl (lv_at hl 0 rfl) ?_
    refine r_get (v := .ref (a 9)) hx hb hown hq hE hP 17 38 tFX12_17 (by decide) pw_1439 rfl dX12_beginsNow_1 ?_
    refine lv_iload_n hx hb dX12_beginsNow_4 rfl (lv_at hl 1 rfl) ?_
    refine r_ldi (f := (B 9)) (j := n9) hx hb hE hP 9 (ma_9 G a _) rfl (by omega) (by decide) dX12_beginsNow_5 ?_
    refine lv_topi (fun x613 e614 => ?_)
    obtain rfl : x613 = 33 := e614.trans ((congrFun hw9 _).trans hkd)
    refine lv_istore_n (lv' := [(2, .int 33), (0, .ref h0), (1, .int (nI n9))]) hx hb dX12_beginsNow_6 rfl hl (by decide) rfl (fun ls hl => ?_)
    refine lv_iload_n hx hb dX12_beginsNow_7 rfl (lv_at hl 0 rfl) ?_
    refine lv_bipush (v := 30) hx hb dX12_beginsNow_8 (by decide) ?_
    refine lv_icmp_lt (tgt := 41) hx hb dX12_beginsNow_10 (by decide) (fun c615 => absurd c615 (by decide)) (fun c615 => ?_)
    refine lv_iload_n hx hb dX12_beginsNow_13 rfl (lv_at hl 0 rfl) ?_
    refine lv_bipush (v := 31) hx hb dX12_beginsNow_14 (by decide) ?_
    refine lv_icmp_eq (tgt := 41) hx hb dX12_beginsNow_16 (by decide) (fun c616 => absurd c616 (by decide)) (fun c616 => ?_)
    refine lv_iload_n hx hb dX12_beginsNow_19 rfl (lv_at hl 0 rfl) ?_
    refine lv_bipush (v := 43) hx hb dX12_beginsNow_20 (by decide) ?_
    refine lv_icmp_eq (tgt := 41) hx hb dX12_beginsNow_22 (by decide) (fun c617 => absurd c617 (by decide)) (fun c617 => ?_)
    refine lv_aload_n hx hb dX12_beginsNow_25 rfl (lv_at hl 1 rfl) ?_
    refine lv_iload_n hx hb dX12_beginsNow_26 rfl (lv_at hl 2 rfl) ?_
    have hP : va_P G.1 pCl (mW G h0 a (upd (upd (upd (upd (upd (upd (upd (upd (upd (upd (upd (upd (upd (upd (upd (upd (upd (upd (upd (upd (upd (upd F 49 (nI md)) 85 (nI im)) 97 (nI ct)) 98 (nI fl)) 99 (nI rmm)) 101 tds) 102 (nI op)) 111 (nI tp)) 115 (nI wn)) 116 (-1)) 117 (nI fu)) 118 rs0) 119 uc0) 120 (nI rd)) 121 ma0) 122 mc0) 123 ca) 124 mo) 125 nw) 126 isn) 128 (nI on)) 130 (nI idn)) B) _ := hP
    have hD : va_D A (mW G h0 a (upd (upd (upd (upd (upd (upd (upd (upd (upd (upd (upd (upd (upd (upd (upd (upd (upd (upd (upd (upd (upd (upd F 49 (nI md)) 85 (nI im)) 97 (nI ct)) 98 (nI fl)) 99 (nI rmm)) 101 tds) 102 (nI op)) 111 (nI tp)) 115 (nI wn)) 116 (-1)) 117 (nI fu)) 118 rs0) 119 uc0) 120 (nI rd)) 121 ma0) 122 mc0) 123 ca) 124 mo) 125 nw) 126 isn) 128 (nI on)) 130 (nI idn)) B) := hD
    refine pc_V0 (G := G) (As := [.int (nI n9)]) (rest := []) hx hb hml hown hq hE hX pX0_al hP hD hS hA hl.1 (R_isFirst l G h0 a (upd (upd (upd (upd (upd (upd (upd (upd (upd (upd (upd (upd (upd (upd (upd (upd (upd (upd (upd (upd (upd (upd F 49 (nI md)) 85 (nI im)) 97 (nI ct)) 98 (nI fl)) 99 (nI rmm)) 101 tds) 102 (nI op)) 111 (nI tp)) 115 (nI wn)) 116 (-1)) 117 (nI fu)) 118 rs0) 119 uc0) 120 (nI rd)) 121 ma0) 122 mc0) 123 ca) 124 mo) 125 nw) 126 isn) 128 (nI on)) 130 (nI idn)) B n9 nd (by omega) (by omega) (hR.upP hR.rt.2.2)) (gV pw_2066 pw_2067 pw_2068 pw_1523 pw_2020) hV_X12_isFirst 0 9 rfl rfl rfl rfl (Nat.le_of_ble_eq_true rfl) dX12_beginsNow_27 ⟨Nat.le_of_ble_eq_true rfl, Nat.le_of_ble_eq_true rfl⟩ ⟨Nat.le_of_ble_eq_true rfl, Nat.le_of_ble_eq_true rfl⟩ (fun v620 u618 H locs hw619 hP hD hS => ?_)
    obtain ⟨r621, rfl⟩ : ∃ z, z = u618 := ⟨_, rfl⟩
    obtain ⟨hw619, h622⟩ := hw619
    replace h622 : r621 ≤ 1 := h622
    obtain rfl : v620 = some (.int (nI r621)) := hw619
    have hP : va_P G.1 pCl (mW G h0 a (upd (upd (upd (upd (upd (upd (upd (upd (upd (upd (upd (upd (upd (upd (upd (upd (upd (upd (upd (upd (upd (upd F 49 (nI md)) 85 (nI im)) 97 (nI ct)) 98 (nI fl)) 99 (nI rmm)) 101 tds) 102 (nI op)) 111 (nI tp)) 115 (nI wn)) 116 (-1)) 117 (nI fu)) 118 rs0) 119 uc0) 120 (nI rd)) 121 ma0) 122 mc0) 123 ca) 124 mo) 125 nw) 126 isn) 128 (nI on)) 130 (nI idn)) B) _ := hP
    have hD : va_D A (mW G h0 a (upd (upd (upd (upd (upd (upd (upd (upd (upd (upd (upd (upd (upd (upd (upd (upd (upd (upd (upd (upd (upd (upd F 49 (nI md)) 85 (nI im)) 97 (nI ct)) 98 (nI fl)) 99 (nI rmm)) 101 tds) 102 (nI op)) 111 (nI tp)) 115 (nI wn)) 116 (-1)) 117 (nI fu)) 118 rs0) 119 uc0) 120 (nI rd)) 121 ma0) 122 mc0) 123 ca) 124 mo) 125 nw) 126 isn) 128 (nI on)) 130 (nI idn)) B) := hD
    refine W.widen (k := 0) (n := 0) (Nat.le_of_ble_eq_true rfl) (Nat.le_of_ble_eq_true rfl) ?_
    refine W.eq (g2 := F0 m 30 ls [.int (nI r621)]) rfl ?_
    refine lv_if_ne (tgt := 41) hx hb dX12_beginsNow_30 (by decide) (fun c623 => ?_) (fun c623 => ?_)
    · have n624 : ¬ (r621 = 0) := fun h9 => c623 ((nI_eq (a := r621) (b := 0) (by omega) (by omega)).mpr h9)
      refine lv_iload_n hx hb dX12_beginsNow_41 rfl (lv_at hl 0 rfl) ?_
      refine lv_tableIn (tgt := 701) (off := 659) hx hb dX12_beginsNow_42 (by decide) (by decide) (by decide) (by decide) ?_
      refine lv_aload_n hx hb dX12_beginsNow_701 rfl (lv_at hl 1 rfl) ?_
      refine lv_iload_n hx hb dX12_beginsNow_702 rfl (lv_at hl 2 rfl) ?_
      refine lv_aload_n hx hb dX12_beginsNow_703 rfl (lv_at hl 1 rfl) ?_
      refine r_get (v := .ref (a 12)) hx hb hown hq hE hP 20 47 tFX12_20 (by decide) pw_1442 rfl dX12_beginsNow_704 ?_
      refine lv_iload_n hx hb dX12_beginsNow_707 rfl (lv_at hl 2 rfl) ?_
      refine r_ldi (f := (B 12)) (j := n9) hx hb hE hP 12 (ma_12 G a _) rfl (by omega) (by decide) dX12_beginsNow_708 ?_
      obtain ⟨jc, hj1, -⟩ := hPg.fs.kid hrm.2.2.1 hkd (by omega) (s := 1) (by omega) (by omega) (by decide) (by omega)
      obtain ⟨j1, ha1, ha2, ha3⟩ := hR.bK (uc := uc0) hkd (by omega) (by decide) (by decide) (by decide) rfl rfl (by omega)
      have hP : va_P G.1 pCl (mW G h0 a (upd (upd (upd (upd (upd (upd (upd (upd (upd (upd (upd (upd (upd (upd (upd (upd (upd (upd (upd (upd (upd (upd F 49 (nI md)) 85 (nI im)) 97 (nI ct)) 98 (nI fl)) 99 (nI rmm)) 101 tds) 102 (nI op)) 111 (nI tp)) 115 (nI wn)) 116 (-1)) 117 (nI fu)) 118 rs0) 119 uc0) 120 (nI rd)) 121 ma0) 122 mc0) 123 ca) 124 mo) 125 nw) 126 isn) 128 (nI on)) 130 (nI idn)) B) _ := hP
      have hD : va_D A (mW G h0 a (upd (upd (upd (upd (upd (upd (upd (upd (upd (upd (upd (upd (upd (upd (upd (upd (upd (upd (upd (upd (upd (upd F 49 (nI md)) 85 (nI im)) 97 (nI ct)) 98 (nI fl)) 99 (nI rmm)) 101 tds) 102 (nI op)) 111 (nI tp)) 115 (nI wn)) 116 (-1)) 117 (nI fu)) 118 rs0) 119 uc0) 120 (nI rd)) 121 ma0) 122 mc0) 123 ca) 124 mo) 125 nw) 126 isn) 128 (nI on)) 130 (nI idn)) B) := hD
      refine pc_V0 (G := G) (As := [.int (nI n9), .int ((B 12) n9)]) (rest := []) hx hb hml hown hq hE hX pX0_al hP hD hS hA hl.1 (R_goesInto l G h0 a (upd (upd (upd (upd (upd (upd (upd (upd (upd (upd (upd (upd (upd (upd (upd (upd (upd (upd (upd (upd (upd (upd F 49 (nI md)) 85 (nI im)) 97 (nI ct)) 98 (nI fl)) 99 (nI rmm)) 101 tds) 102 (nI op)) 111 (nI tp)) 115 (nI wn)) 116 (-1)) 117 (nI fu)) 118 rs0) 119 uc0) 120 (nI rd)) 121 ma0) 122 mc0) 123 ca) 124 mo) 125 nw) 126 isn) 128 (nI on)) 130 (nI idn)) B (nI n9) ((B 12) n9)) (gV pw_2078 pw_2079 pw_2080 pw_1523 pw_2064) hV_X12_goesInto 0 9 rfl rfl rfl rfl (Nat.le_of_ble_eq_true rfl) dX12_beginsNow_709 ⟨Nat.le_of_ble_eq_true rfl, Nat.le_of_ble_eq_true rfl⟩ ⟨Nat.le_of_ble_eq_true rfl, Nat.le_of_ble_eq_true rfl⟩ (fun v627 u625 H locs hw626 hP hD hS => ?_)
      obtain ⟨nw628, is629⟩ := u625
      obtain ⟨hw626, h630, h631⟩ := hw626
      replace h630 : If (((B 12) n9) = -1) (nw628 = (nI n9) ∧ is629 = 0) := h630
      replace h631 : If (¬ ((B 12) n9) = -1) (nw628 = ((B 12) n9) ∧ is629 = 1) := h631
      obtain rfl : v627 = none := hw626
      have hP : va_P G.1 pCl (mW G h0 a (upd (upd (upd (upd (upd (upd (upd (upd (upd (upd (upd (upd (upd (upd (upd (upd (upd (upd (upd (upd (upd (upd F 49 (nI md)) 85 (nI im)) 97 (nI ct)) 98 (nI fl)) 99 (nI rmm)) 101 tds) 102 (nI op)) 111 (nI tp)) 115 (nI wn)) 116 (-1)) 117 (nI fu)) 118 rs0) 119 uc0) 120 (nI rd)) 121 ma0) 122 mc0) 123 ca) 124 mo) 125 nw628) 126 is629) 128 (nI on)) 130 (nI idn)) B) _ := hP
      have hD : va_D A (mW G h0 a (upd (upd (upd (upd (upd (upd (upd (upd (upd (upd (upd (upd (upd (upd (upd (upd (upd (upd (upd (upd (upd (upd F 49 (nI md)) 85 (nI im)) 97 (nI ct)) 98 (nI fl)) 99 (nI rmm)) 101 tds) 102 (nI op)) 111 (nI tp)) 115 (nI wn)) 116 (-1)) 117 (nI fu)) 118 rs0) 119 uc0) 120 (nI rd)) 121 ma0) 122 mc0) 123 ca) 124 mo) 125 nw628) 126 is629) 128 (nI on)) 130 (nI idn)) B) := hD
      refine W.widen (k := 0) (n := 0) (Nat.le_of_ble_eq_true rfl) (Nat.le_of_ble_eq_true rfl) ?_
      refine W.eq (g2 := F0 m 712 ls []) rfl ?_
      have hz632 : Nx Xs B gh nd T nm wr lz dc fd md pr bk M rmm fu (Phi gh ps op (rkN gh n9 false)) op tp wn fu rd on idn fl ct ((-1) : Int32) nw628 is629 uc0 := (by obtain ⟨y1, y2⟩ := h631 (by rw [hw12, ha1]; exact nI_m1 (by omega)); rw [y1, y2, hw12, ha1]; exact ha3)
      have hP : va_P G.1 pCl (mW G h0 a (upd (upd (upd (upd (upd (upd (upd (upd (upd (upd (upd (upd (upd (upd (upd (upd (upd (upd (upd (upd (upd (upd F 49 (nI md)) 85 (nI im)) 97 (nI ct)) 98 (nI fl)) 99 (nI rmm)) 101 tds) 102 (nI op)) 111 (nI tp)) 115 (nI wn)) 116 ((-1) : Int32)) 117 (nI fu)) 118 rs0) 119 uc0) 120 (nI rd)) 121 ma0) 122 mc0) 123 ca) 124 mo) 125 nw628) 126 is629) 128 (nI on)) 130 (nI idn)) B) _ := hP
      have hD : va_D A (mW G h0 a (upd (upd (upd (upd (upd (upd (upd (upd (upd (upd (upd (upd (upd (upd (upd (upd (upd (upd (upd (upd (upd (upd F 49 (nI md)) 85 (nI im)) 97 (nI ct)) 98 (nI fl)) 99 (nI rmm)) 101 tds) 102 (nI op)) 111 (nI tp)) 115 (nI wn)) 116 ((-1) : Int32)) 117 (nI fu)) 118 rs0) 119 uc0) 120 (nI rd)) 121 ma0) 122 mc0) 123 ca) 124 mo) 125 nw628) 126 is629) 128 (nI on)) 130 (nI idn)) B) := hD
      exact W.vret hx hb hr (fun t9 ht9 hW9 => ⟨⟨_, (op, tp, wn, fu, ((-1) : Int32), nw628, is629, rs0, uc0, on, idn, fl, ct, tds, ma0, mc0, ca, mo, rd, B), rfl, ⟨rfl, hz632⟩, by rw [ht9]; exact hP, hD⟩, hS.F ht9⟩) hS.2.2 dX12_beginsNow_712
    · have n633 : r621 = 0 := (nI_eq (a := r621) (b := 0) (by omega) (by omega)).mp c623
      refine lv_aload_n hx hb dX12_beginsNow_33 rfl (lv_at hl 1 rfl) ?_
      have hP : va_P G.1 pCl (mW G h0 a (upd (upd (upd (upd (upd (upd (upd (upd (upd (upd (upd (upd (upd (upd (upd (upd (upd (upd (upd (upd (upd (upd (upd (upd F 49 (nI md)) 85 (nI im)) 97 (nI ct)) 98 (nI fl)) 99 (nI rmm)) 101 tds) 102 (nI op)) 111 (nI tp)) 115 (nI wn)) 116 (-1)) 117 (nI fu)) 118 rs0) 119 uc0) 120 (nI rd)) 121 ma0) 122 mc0) 123 ca) 124 mo) 125 nw) 126 isn) 128 (nI on)) 130 (nI idn)) 116 (-1)) 117 (nI fu)) B) _ := hP
      have hD : va_D A (mW G h0 a (upd (upd (upd (upd (upd (upd (upd (upd (upd (upd (upd (upd (upd (upd (upd (upd (upd (upd (upd (upd (upd (upd (upd (upd F 49 (nI md)) 85 (nI im)) 97 (nI ct)) 98 (nI fl)) 99 (nI rmm)) 101 tds) 102 (nI op)) 111 (nI tp)) 115 (nI wn)) 116 (-1)) 117 (nI fu)) 118 rs0) 119 uc0) 120 (nI rd)) 121 ma0) 122 mc0) 123 ca) 124 mo) 125 nw) 126 isn) 128 (nI on)) 130 (nI idn)) 116 (-1)) 117 (nI fu)) B) := hD
      refine pc_V0 (G := G) (As := []) (rest := []) hx hb hml hown hq hE hX pX0_al hP hD hS hA hl.1 (R_pays l G h0 a (upd (upd (upd (upd (upd (upd (upd (upd (upd (upd (upd (upd (upd (upd (upd (upd (upd (upd (upd (upd (upd (upd F 49 (nI md)) 85 (nI im)) 97 (nI ct)) 98 (nI fl)) 99 (nI rmm)) 101 tds) 102 (nI op)) 111 (nI tp)) 115 (nI wn)) 116 (-1)) 117 (nI fu)) 118 rs0) 119 uc0) 120 (nI rd)) 121 ma0) 122 mc0) 123 ca) 124 mo) 125 nw) 126 isn) 128 (nI on)) 130 (nI idn)) B fu (-1) (by omega)) (gV pw_2026 pw_2027 pw_2028 pw_1523 pw_2000) hV_X12_pays 0 9 rfl rfl rfl rfl (Nat.le_of_ble_eq_true rfl) dX12_beginsNow_34 ⟨Nat.le_of_ble_eq_true rfl, Nat.le_of_ble_eq_true rfl⟩ ⟨Nat.le_of_ble_eq_true rfl, Nat.le_of_ble_eq_true rfl⟩ (fun v636 u634 H locs hw635 hP hD hS => ?_)
      obtain ⟨r637, fu638, en639⟩ := u634
      obtain ⟨hw635, h640, h641, h642, h643⟩ := hw635
      replace h640 : r637 ≤ 1 := h640
      replace h641 : fu638 + r637 = fu := h641
      replace h642 : If (r637 = 1) (en639 = (-1)) := h642
      replace h643 : If (r637 = 0) (en639 = 2) := h643
      obtain rfl : v636 = some (.int (nI r637)) := hw635
      have hP : va_P G.1 pCl (mW G h0 a (upd (upd (upd (upd (upd (upd (upd (upd (upd (upd (upd (upd (upd (upd (upd (upd (upd (upd (upd (upd (upd (upd F 49 (nI md)) 85 (nI im)) 97 (nI ct)) 98 (nI fl)) 99 (nI rmm)) 101 tds) 102 (nI op)) 111 (nI tp)) 115 (nI wn)) 116 en639) 117 (nI fu638)) 118 rs0) 119 uc0) 120 (nI rd)) 121 ma0) 122 mc0) 123 ca) 124 mo) 125 nw) 126 isn) 128 (nI on)) 130 (nI idn)) B) _ := hP
      have hD : va_D A (mW G h0 a (upd (upd (upd (upd (upd (upd (upd (upd (upd (upd (upd (upd (upd (upd (upd (upd (upd (upd (upd (upd (upd (upd F 49 (nI md)) 85 (nI im)) 97 (nI ct)) 98 (nI fl)) 99 (nI rmm)) 101 tds) 102 (nI op)) 111 (nI tp)) 115 (nI wn)) 116 en639) 117 (nI fu638)) 118 rs0) 119 uc0) 120 (nI rd)) 121 ma0) 122 mc0) 123 ca) 124 mo) 125 nw) 126 isn) 128 (nI on)) 130 (nI idn)) B) := hD
      refine W.widen (k := 0) (n := 0) (Nat.le_of_ble_eq_true rfl) (Nat.le_of_ble_eq_true rfl) ?_
      refine W.eq (g2 := F0 m 37 ls [.int (nI r637)]) rfl ?_
      rcases (show r637 = 0 ∨ r637 = 1 by omega) with hr0 | hr0
      · have hen := h643 hr0
        subst hr0
        have hP : va_P G.1 pCl (mW G h0 a (upd (upd (upd (upd (upd (upd (upd (upd (upd (upd (upd (upd (upd (upd (upd (upd (upd (upd (upd (upd (upd (upd F 49 (nI md)) 85 (nI im)) 97 (nI ct)) 98 (nI fl)) 99 (nI rmm)) 101 tds) 102 (nI op)) 111 (nI tp)) 115 (nI wn)) 116 en639) 117 (nI fu638)) 118 rs0) 119 uc0) 120 (nI rd)) 121 ma0) 122 mc0) 123 ca) 124 mo) 125 nw) 126 isn) 128 (nI on)) 130 (nI idn)) B) _ := hP
        have hD : va_D A (mW G h0 a (upd (upd (upd (upd (upd (upd (upd (upd (upd (upd (upd (upd (upd (upd (upd (upd (upd (upd (upd (upd (upd (upd F 49 (nI md)) 85 (nI im)) 97 (nI ct)) 98 (nI fl)) 99 (nI rmm)) 101 tds) 102 (nI op)) 111 (nI tp)) 115 (nI wn)) 116 en639) 117 (nI fu638)) 118 rs0) 119 uc0) 120 (nI rd)) 121 ma0) 122 mc0) 123 ca) 124 mo) 125 nw) 126 isn) 128 (nI on)) 130 (nI idn)) B) := hD
        refine W.eq (g2 := F0 m 37 ls [.int 0]) rfl ?_
        refine lv_if_ne (tgt := 41) hx hb dX12_beginsNow_37 (by decide) (fun c644 => absurd c644 (by decide)) (fun c644 => ?_)
        have hz645 : Nx Xs B gh nd T nm wr lz dc fd md pr bk M rmm fu (Phi gh ps op (rkN gh n9 false)) op tp wn fu638 rd on idn fl ct en639 nw isn uc0 := (hR.stop Sta.rfl hR.hp (by rw [hen]; decide) (by rw [hen]; decide))
        have hP : va_P G.1 pCl (mW G h0 a (upd (upd (upd (upd (upd (upd (upd (upd (upd (upd (upd (upd (upd (upd (upd (upd (upd (upd (upd (upd (upd (upd F 49 (nI md)) 85 (nI im)) 97 (nI ct)) 98 (nI fl)) 99 (nI rmm)) 101 tds) 102 (nI op)) 111 (nI tp)) 115 (nI wn)) 116 en639) 117 (nI fu638)) 118 rs0) 119 uc0) 120 (nI rd)) 121 ma0) 122 mc0) 123 ca) 124 mo) 125 nw) 126 isn) 128 (nI on)) 130 (nI idn)) B) _ := hP
        have hD : va_D A (mW G h0 a (upd (upd (upd (upd (upd (upd (upd (upd (upd (upd (upd (upd (upd (upd (upd (upd (upd (upd (upd (upd (upd (upd F 49 (nI md)) 85 (nI im)) 97 (nI ct)) 98 (nI fl)) 99 (nI rmm)) 101 tds) 102 (nI op)) 111 (nI tp)) 115 (nI wn)) 116 en639) 117 (nI fu638)) 118 rs0) 119 uc0) 120 (nI rd)) 121 ma0) 122 mc0) 123 ca) 124 mo) 125 nw) 126 isn) 128 (nI on)) 130 (nI idn)) B) := hD
        exact W.vret hx hb hr (fun t9 ht9 hW9 => ⟨⟨_, (op, tp, wn, fu638, en639, nw, isn, rs0, uc0, on, idn, fl, ct, tds, ma0, mc0, ca, mo, rd, B), rfl, ⟨rfl, hz645⟩, by rw [ht9]; exact hP, hD⟩, hS.F ht9⟩) hS.2.2 dX12_beginsNow_40
      · obtain rfl : en639 = _ := h642 hr0
        subst hr0
        have hP : va_P G.1 pCl (mW G h0 a (upd (upd (upd (upd (upd (upd (upd (upd (upd (upd (upd (upd (upd (upd (upd (upd (upd (upd (upd (upd (upd (upd F 49 (nI md)) 85 (nI im)) 97 (nI ct)) 98 (nI fl)) 99 (nI rmm)) 101 tds) 102 (nI op)) 111 (nI tp)) 115 (nI wn)) 116 (-1)) 117 (nI fu638)) 118 rs0) 119 uc0) 120 (nI rd)) 121 ma0) 122 mc0) 123 ca) 124 mo) 125 nw) 126 isn) 128 (nI on)) 130 (nI idn)) B) _ := hP
        have hD : va_D A (mW G h0 a (upd (upd (upd (upd (upd (upd (upd (upd (upd (upd (upd (upd (upd (upd (upd (upd (upd (upd (upd (upd (upd (upd F 49 (nI md)) 85 (nI im)) 97 (nI ct)) 98 (nI fl)) 99 (nI rmm)) 101 tds) 102 (nI op)) 111 (nI tp)) 115 (nI wn)) 116 (-1)) 117 (nI fu638)) 118 rs0) 119 uc0) 120 (nI rd)) 121 ma0) 122 mc0) 123 ca) 124 mo) 125 nw) 126 isn) 128 (nI on)) 130 (nI idn)) B) := hD
        refine W.eq (g2 := F0 m 37 ls [.int 1]) rfl ?_
        have hR1 := hR.fuel (show fu638 ≤ fu by omega)
        refine lv_if_ne (tgt := 41) hx hb dX12_beginsNow_37 (by decide) (fun c646 => ?_) (fun c646 => absurd c646 (by decide))
        refine lv_iload_n hx hb dX12_beginsNow_41 rfl (lv_at hl 0 rfl) ?_
        refine lv_tableIn (tgt := 701) (off := 659) hx hb dX12_beginsNow_42 (by decide) (by decide) (by decide) (by decide) ?_
        refine lv_aload_n hx hb dX12_beginsNow_701 rfl (lv_at hl 1 rfl) ?_
        refine lv_iload_n hx hb dX12_beginsNow_702 rfl (lv_at hl 2 rfl) ?_
        refine lv_aload_n hx hb dX12_beginsNow_703 rfl (lv_at hl 1 rfl) ?_
        refine r_get (v := .ref (a 12)) hx hb hown hq hE hP 20 47 tFX12_20 (by decide) pw_1442 rfl dX12_beginsNow_704 ?_
        refine lv_iload_n hx hb dX12_beginsNow_707 rfl (lv_at hl 2 rfl) ?_
        refine r_ldi (f := (B 12)) (j := n9) hx hb hE hP 12 (ma_12 G a _) rfl (by omega) (by decide) dX12_beginsNow_708 ?_
        obtain ⟨jc, hj1, -⟩ := hPg.fs.kid hrm.2.2.1 hkd (by omega) (s := 1) (by omega) (by omega) (by decide) (by omega)
        obtain ⟨j1, ha1, ha2, ha3⟩ := hR1.bK (uc := uc0) hkd (by omega) (by decide) (by decide) (by decide) rfl rfl (by omega)
        have hP : va_P G.1 pCl (mW G h0 a (upd (upd (upd (upd (upd (upd (upd (upd (upd (upd (upd (upd (upd (upd (upd (upd (upd (upd (upd (upd (upd (upd F 49 (nI md)) 85 (nI im)) 97 (nI ct)) 98 (nI fl)) 99 (nI rmm)) 101 tds) 102 (nI op)) 111 (nI tp)) 115 (nI wn)) 116 (-1)) 117 (nI fu638)) 118 rs0) 119 uc0) 120 (nI rd)) 121 ma0) 122 mc0) 123 ca) 124 mo) 125 nw) 126 isn) 128 (nI on)) 130 (nI idn)) B) _ := hP
        have hD : va_D A (mW G h0 a (upd (upd (upd (upd (upd (upd (upd (upd (upd (upd (upd (upd (upd (upd (upd (upd (upd (upd (upd (upd (upd (upd F 49 (nI md)) 85 (nI im)) 97 (nI ct)) 98 (nI fl)) 99 (nI rmm)) 101 tds) 102 (nI op)) 111 (nI tp)) 115 (nI wn)) 116 (-1)) 117 (nI fu638)) 118 rs0) 119 uc0) 120 (nI rd)) 121 ma0) 122 mc0) 123 ca) 124 mo) 125 nw) 126 isn) 128 (nI on)) 130 (nI idn)) B) := hD
        refine pc_V0 (G := G) (As := [.int (nI n9), .int ((B 12) n9)]) (rest := []) hx hb hml hown hq hE hX pX0_al hP hD hS hA hl.1 (R_goesInto l G h0 a (upd (upd (upd (upd (upd (upd (upd (upd (upd (upd (upd (upd (upd (upd (upd (upd (upd (upd (upd (upd (upd (upd F 49 (nI md)) 85 (nI im)) 97 (nI ct)) 98 (nI fl)) 99 (nI rmm)) 101 tds) 102 (nI op)) 111 (nI tp)) 115 (nI wn)) 116 (-1)) 117 (nI fu638)) 118 rs0) 119 uc0) 120 (nI rd)) 121 ma0) 122 mc0) 123 ca) 124 mo) 125 nw) 126 isn) 128 (nI on)) 130 (nI idn)) B (nI n9) ((B 12) n9)) (gV pw_2078 pw_2079 pw_2080 pw_1523 pw_2064) hV_X12_goesInto 0 9 rfl rfl rfl rfl (Nat.le_of_ble_eq_true rfl) dX12_beginsNow_709 ⟨Nat.le_of_ble_eq_true rfl, Nat.le_of_ble_eq_true rfl⟩ ⟨Nat.le_of_ble_eq_true rfl, Nat.le_of_ble_eq_true rfl⟩ (fun v649 u647 H locs hw648 hP hD hS => ?_)
        obtain ⟨nw650, is651⟩ := u647
        obtain ⟨hw648, h652, h653⟩ := hw648
        replace h652 : If (((B 12) n9) = -1) (nw650 = (nI n9) ∧ is651 = 0) := h652
        replace h653 : If (¬ ((B 12) n9) = -1) (nw650 = ((B 12) n9) ∧ is651 = 1) := h653
        obtain rfl : v649 = none := hw648
        have hP : va_P G.1 pCl (mW G h0 a (upd (upd (upd (upd (upd (upd (upd (upd (upd (upd (upd (upd (upd (upd (upd (upd (upd (upd (upd (upd (upd (upd F 49 (nI md)) 85 (nI im)) 97 (nI ct)) 98 (nI fl)) 99 (nI rmm)) 101 tds) 102 (nI op)) 111 (nI tp)) 115 (nI wn)) 116 (-1)) 117 (nI fu638)) 118 rs0) 119 uc0) 120 (nI rd)) 121 ma0) 122 mc0) 123 ca) 124 mo) 125 nw650) 126 is651) 128 (nI on)) 130 (nI idn)) B) _ := hP
        have hD : va_D A (mW G h0 a (upd (upd (upd (upd (upd (upd (upd (upd (upd (upd (upd (upd (upd (upd (upd (upd (upd (upd (upd (upd (upd (upd F 49 (nI md)) 85 (nI im)) 97 (nI ct)) 98 (nI fl)) 99 (nI rmm)) 101 tds) 102 (nI op)) 111 (nI tp)) 115 (nI wn)) 116 (-1)) 117 (nI fu638)) 118 rs0) 119 uc0) 120 (nI rd)) 121 ma0) 122 mc0) 123 ca) 124 mo) 125 nw650) 126 is651) 128 (nI on)) 130 (nI idn)) B) := hD
        refine W.widen (k := 0) (n := 0) (Nat.le_of_ble_eq_true rfl) (Nat.le_of_ble_eq_true rfl) ?_
        refine W.eq (g2 := F0 m 712 ls []) rfl ?_
        have hz654 : Nx Xs B gh nd T nm wr lz dc fd md pr bk M rmm fu (Phi gh ps op (rkN gh n9 false)) op tp wn fu638 rd on idn fl ct ((-1) : Int32) nw650 is651 uc0 := (Nx.le (fu1 := fu638) (by obtain ⟨y1, y2⟩ := h653 (by rw [hw12, ha1]; exact nI_m1 (by omega)); rw [y1, y2, hw12, ha1]; exact ha3) (by omega))
        have hP : va_P G.1 pCl (mW G h0 a (upd (upd (upd (upd (upd (upd (upd (upd (upd (upd (upd (upd (upd (upd (upd (upd (upd (upd (upd (upd (upd (upd F 49 (nI md)) 85 (nI im)) 97 (nI ct)) 98 (nI fl)) 99 (nI rmm)) 101 tds) 102 (nI op)) 111 (nI tp)) 115 (nI wn)) 116 ((-1) : Int32)) 117 (nI fu638)) 118 rs0) 119 uc0) 120 (nI rd)) 121 ma0) 122 mc0) 123 ca) 124 mo) 125 nw650) 126 is651) 128 (nI on)) 130 (nI idn)) B) _ := hP
        have hD : va_D A (mW G h0 a (upd (upd (upd (upd (upd (upd (upd (upd (upd (upd (upd (upd (upd (upd (upd (upd (upd (upd (upd (upd (upd (upd F 49 (nI md)) 85 (nI im)) 97 (nI ct)) 98 (nI fl)) 99 (nI rmm)) 101 tds) 102 (nI op)) 111 (nI tp)) 115 (nI wn)) 116 ((-1) : Int32)) 117 (nI fu638)) 118 rs0) 119 uc0) 120 (nI rd)) 121 ma0) 122 mc0) 123 ca) 124 mo) 125 nw650) 126 is651) 128 (nI on)) 130 (nI idn)) B) := hD
        exact W.vret hx hb hr (fun t9 ht9 hW9 => ⟨⟨_, (op, tp, wn, fu638, ((-1) : Int32), nw650, is651, rs0, uc0, on, idn, fl, ct, tds, ma0, mc0, ca, mo, rd, B), rfl, ⟨rfl, hz654⟩, by rw [ht9]; exact hP, hD⟩, hS.F ht9⟩) hS.2.2 dX12_beginsNow_712
  · clear hn44 hkr hko
    refine lv_aload_n hx hb dX12_beginsNow_0 rfl (lv_at hl 0 rfl) ?_
    refine r_get (v := .ref (a 9)) hx hb hown hq hE hP 17 38 tFX12_17 (by decide) pw_1439 rfl dX12_beginsNow_1 ?_
    refine lv_iload_n hx hb dX12_beginsNow_4 rfl (lv_at hl 1 rfl) ?_
    refine r_ldi (f := (B 9)) (j := n9) hx hb hE hP 9 (ma_9 G a _) rfl (by omega) (by decide) dX12_beginsNow_5 ?_
    refine lv_topi (fun x655 e656 => ?_)
    obtain rfl : x655 = 34 := e656.trans ((congrFun hw9 _).trans hkd)
    refine lv_istore_n (lv' := [(2, .int 34), (0, .ref h0), (1, .int (nI n9))]) hx hb dX12_beginsNow_6 rfl hl (by decide) rfl (fun ls hl => ?_)
    refine lv_iload_n hx hb dX12_beginsNow_7 rfl (lv_at hl 0 rfl) ?_
    refine lv_bipush (v := 30) hx hb dX12_beginsNow_8 (by decide) ?_
    refine lv_icmp_lt (tgt := 41) hx hb dX12_beginsNow_10 (by decide) (fun c657 => absurd c657 (by decide)) (fun c657 => ?_)
    refine lv_iload_n hx hb dX12_beginsNow_13 rfl (lv_at hl 0 rfl) ?_
    refine lv_bipush (v := 31) hx hb dX12_beginsNow_14 (by decide) ?_
    refine lv_icmp_eq (tgt := 41) hx hb dX12_beginsNow_16 (by decide) (fun c658 => absurd c658 (by decide)) (fun c658 => ?_)
    refine lv_iload_n hx hb dX12_beginsNow_19 rfl (lv_at hl 0 rfl) ?_
    refine lv_bipush (v := 43) hx hb dX12_beginsNow_20 (by decide) ?_
    refine lv_icmp_eq (tgt := 41) hx hb dX12_beginsNow_22 (by decide) (fun c659 => absurd c659 (by decide)) (fun c659 => ?_)
    refine lv_aload_n hx hb dX12_beginsNow_25 rfl (lv_at hl 1 rfl) ?_
    refine lv_iload_n hx hb dX12_beginsNow_26 rfl (lv_at hl 2 rfl) ?_
    have hP : va_P G.1 pCl (mW G h0 a (upd (upd (upd (upd (upd (upd (upd (upd (upd (upd (upd (upd (upd (upd (upd (upd (upd (upd (upd (upd (upd (upd F 49 (nI md)) 85 (nI im)) 97 (nI ct)) 98 (nI fl)) 99 (nI rmm)) 101 tds) 102 (nI op)) 111 (nI tp)) 115 (nI wn)) 116 (-1)) 117 (nI fu)) 118 rs0) 119 uc0) 120 (nI rd)) 121 ma0) 122 mc0) 123 ca) 124 mo) 125 nw) 126 isn) 128 (nI on)) 130 (nI idn)) B) _ := hP
    have hD : va_D A (mW G h0 a (upd (upd (upd (upd (upd (upd (upd (upd (upd (upd (upd (upd (upd (upd (upd (upd (upd (upd (upd (upd (upd (upd F 49 (nI md)) 85 (nI im)) 97 (nI ct)) 98 (nI fl)) 99 (nI rmm)) 101 tds) 102 (nI op)) 111 (nI tp)) 115 (nI wn)) 116 (-1)) 117 (nI fu)) 118 rs0) 119 uc0) 120 (nI rd)) 121 ma0) 122 mc0) 123 ca) 124 mo) 125 nw) 126 isn) 128 (nI on)) 130 (nI idn)) B) := hD
    refine pc_V0 (G := G) (As := [.int (nI n9)]) (rest := []) hx hb hml hown hq hE hX pX0_al hP hD hS hA hl.1 (R_isFirst l G h0 a (upd (upd (upd (upd (upd (upd (upd (upd (upd (upd (upd (upd (upd (upd (upd (upd (upd (upd (upd (upd (upd (upd F 49 (nI md)) 85 (nI im)) 97 (nI ct)) 98 (nI fl)) 99 (nI rmm)) 101 tds) 102 (nI op)) 111 (nI tp)) 115 (nI wn)) 116 (-1)) 117 (nI fu)) 118 rs0) 119 uc0) 120 (nI rd)) 121 ma0) 122 mc0) 123 ca) 124 mo) 125 nw) 126 isn) 128 (nI on)) 130 (nI idn)) B n9 nd (by omega) (by omega) (hR.upP hR.rt.2.2)) (gV pw_2066 pw_2067 pw_2068 pw_1523 pw_2020) hV_X12_isFirst 0 9 rfl rfl rfl rfl (Nat.le_of_ble_eq_true rfl) dX12_beginsNow_27 ⟨Nat.le_of_ble_eq_true rfl, Nat.le_of_ble_eq_true rfl⟩ ⟨Nat.le_of_ble_eq_true rfl, Nat.le_of_ble_eq_true rfl⟩ (fun v662 u660 H locs hw661 hP hD hS => ?_)
    obtain ⟨r663, rfl⟩ : ∃ z, z = u660 := ⟨_, rfl⟩
    obtain ⟨hw661, h664⟩ := hw661
    replace h664 : r663 ≤ 1 := h664
    obtain rfl : v662 = some (.int (nI r663)) := hw661
    have hP : va_P G.1 pCl (mW G h0 a (upd (upd (upd (upd (upd (upd (upd (upd (upd (upd (upd (upd (upd (upd (upd (upd (upd (upd (upd (upd (upd (upd F 49 (nI md)) 85 (nI im)) 97 (nI ct)) 98 (nI fl)) 99 (nI rmm)) 101 tds) 102 (nI op)) 111 (nI tp)) 115 (nI wn)) 116 (-1)) 117 (nI fu)) 118 rs0) 119 uc0) 120 (nI rd)) 121 ma0) 122 mc0) 123 ca) 124 mo) 125 nw) 126 isn) 128 (nI on)) 130 (nI idn)) B) _ := hP
    have hD : va_D A (mW G h0 a (upd (upd (upd (upd (upd (upd (upd (upd (upd (upd (upd (upd (upd (upd (upd (upd (upd (upd (upd (upd (upd (upd F 49 (nI md)) 85 (nI im)) 97 (nI ct)) 98 (nI fl)) 99 (nI rmm)) 101 tds) 102 (nI op)) 111 (nI tp)) 115 (nI wn)) 116 (-1)) 117 (nI fu)) 118 rs0) 119 uc0) 120 (nI rd)) 121 ma0) 122 mc0) 123 ca) 124 mo) 125 nw) 126 isn) 128 (nI on)) 130 (nI idn)) B) := hD
    refine W.widen (k := 0) (n := 0) (Nat.le_of_ble_eq_true rfl) (Nat.le_of_ble_eq_true rfl) ?_
    refine W.eq (g2 := F0 m 30 ls [.int (nI r663)]) rfl ?_
    refine lv_if_ne (tgt := 41) hx hb dX12_beginsNow_30 (by decide) (fun c665 => ?_) (fun c665 => ?_)
    · have n666 : ¬ (r663 = 0) := fun h9 => c665 ((nI_eq (a := r663) (b := 0) (by omega) (by omega)).mpr h9)
      refine lv_iload_n hx hb dX12_beginsNow_41 rfl (lv_at hl 0 rfl) ?_
      refine lv_tableIn (tgt := 701) (off := 659) hx hb dX12_beginsNow_42 (by decide) (by decide) (by decide) (by decide) ?_
      refine lv_aload_n hx hb dX12_beginsNow_701 rfl (lv_at hl 1 rfl) ?_
      refine lv_iload_n hx hb dX12_beginsNow_702 rfl (lv_at hl 2 rfl) ?_
      refine lv_aload_n hx hb dX12_beginsNow_703 rfl (lv_at hl 1 rfl) ?_
      refine r_get (v := .ref (a 12)) hx hb hown hq hE hP 20 47 tFX12_20 (by decide) pw_1442 rfl dX12_beginsNow_704 ?_
      refine lv_iload_n hx hb dX12_beginsNow_707 rfl (lv_at hl 2 rfl) ?_
      refine r_ldi (f := (B 12)) (j := n9) hx hb hE hP 12 (ma_12 G a _) rfl (by omega) (by decide) dX12_beginsNow_708 ?_
      obtain ⟨jc, hj1, -⟩ := hPg.fs.kid hrm.2.2.1 hkd (by omega) (s := 1) (by omega) (by omega) (by decide) (by omega)
      obtain ⟨j1, ha1, ha2, ha3⟩ := hR.bK (uc := uc0) hkd (by omega) (by decide) (by decide) (by decide) rfl rfl (by omega)
      have hP : va_P G.1 pCl (mW G h0 a (upd (upd (upd (upd (upd (upd (upd (upd (upd (upd (upd (upd (upd (upd (upd (upd (upd (upd (upd (upd (upd (upd F 49 (nI md)) 85 (nI im)) 97 (nI ct)) 98 (nI fl)) 99 (nI rmm)) 101 tds) 102 (nI op)) 111 (nI tp)) 115 (nI wn)) 116 (-1)) 117 (nI fu)) 118 rs0) 119 uc0) 120 (nI rd)) 121 ma0) 122 mc0) 123 ca) 124 mo) 125 nw) 126 isn) 128 (nI on)) 130 (nI idn)) B) _ := hP
      have hD : va_D A (mW G h0 a (upd (upd (upd (upd (upd (upd (upd (upd (upd (upd (upd (upd (upd (upd (upd (upd (upd (upd (upd (upd (upd (upd F 49 (nI md)) 85 (nI im)) 97 (nI ct)) 98 (nI fl)) 99 (nI rmm)) 101 tds) 102 (nI op)) 111 (nI tp)) 115 (nI wn)) 116 (-1)) 117 (nI fu)) 118 rs0) 119 uc0) 120 (nI rd)) 121 ma0) 122 mc0) 123 ca) 124 mo) 125 nw) 126 isn) 128 (nI on)) 130 (nI idn)) B) := hD
      refine pc_V0 (G := G) (As := [.int (nI n9), .int ((B 12) n9)]) (rest := []) hx hb hml hown hq hE hX pX0_al hP hD hS hA hl.1 (R_goesInto l G h0 a (upd (upd (upd (upd (upd (upd (upd (upd (upd (upd (upd (upd (upd (upd (upd (upd (upd (upd (upd (upd (upd (upd F 49 (nI md)) 85 (nI im)) 97 (nI ct)) 98 (nI fl)) 99 (nI rmm)) 101 tds) 102 (nI op)) 111 (nI tp)) 115 (nI wn)) 116 (-1)) 117 (nI fu)) 118 rs0) 119 uc0) 120 (nI rd)) 121 ma0) 122 mc0) 123 ca) 124 mo) 125 nw) 126 isn) 128 (nI on)) 130 (nI idn)) B (nI n9) ((B 12) n9)) (gV pw_2078 pw_2079 pw_2080 pw_1523 pw_2064) hV_X12_goesInto 0 9 rfl rfl rfl rfl (Nat.le_of_ble_eq_true rfl) dX12_beginsNow_709 ⟨Nat.le_of_ble_eq_true rfl, Nat.le_of_ble_eq_true rfl⟩ ⟨Nat.le_of_ble_eq_true rfl, Nat.le_of_ble_eq_true rfl⟩ (fun v669 u667 H locs hw668 hP hD hS => ?_)
      obtain ⟨nw670, is671⟩ := u667
      obtain ⟨hw668, h672, h673⟩ := hw668
      replace h672 : If (((B 12) n9) = -1) (nw670 = (nI n9) ∧ is671 = 0) := h672
      replace h673 : If (¬ ((B 12) n9) = -1) (nw670 = ((B 12) n9) ∧ is671 = 1) := h673
      obtain rfl : v669 = none := hw668
      have hP : va_P G.1 pCl (mW G h0 a (upd (upd (upd (upd (upd (upd (upd (upd (upd (upd (upd (upd (upd (upd (upd (upd (upd (upd (upd (upd (upd (upd F 49 (nI md)) 85 (nI im)) 97 (nI ct)) 98 (nI fl)) 99 (nI rmm)) 101 tds) 102 (nI op)) 111 (nI tp)) 115 (nI wn)) 116 (-1)) 117 (nI fu)) 118 rs0) 119 uc0) 120 (nI rd)) 121 ma0) 122 mc0) 123 ca) 124 mo) 125 nw670) 126 is671) 128 (nI on)) 130 (nI idn)) B) _ := hP
      have hD : va_D A (mW G h0 a (upd (upd (upd (upd (upd (upd (upd (upd (upd (upd (upd (upd (upd (upd (upd (upd (upd (upd (upd (upd (upd (upd F 49 (nI md)) 85 (nI im)) 97 (nI ct)) 98 (nI fl)) 99 (nI rmm)) 101 tds) 102 (nI op)) 111 (nI tp)) 115 (nI wn)) 116 (-1)) 117 (nI fu)) 118 rs0) 119 uc0) 120 (nI rd)) 121 ma0) 122 mc0) 123 ca) 124 mo) 125 nw670) 126 is671) 128 (nI on)) 130 (nI idn)) B) := hD
      refine W.widen (k := 0) (n := 0) (Nat.le_of_ble_eq_true rfl) (Nat.le_of_ble_eq_true rfl) ?_
      refine W.eq (g2 := F0 m 712 ls []) rfl ?_
      have hz674 : Nx Xs B gh nd T nm wr lz dc fd md pr bk M rmm fu (Phi gh ps op (rkN gh n9 false)) op tp wn fu rd on idn fl ct ((-1) : Int32) nw670 is671 uc0 := (by obtain ⟨y1, y2⟩ := h673 (by rw [hw12, ha1]; exact nI_m1 (by omega)); rw [y1, y2, hw12, ha1]; exact ha3)
      have hP : va_P G.1 pCl (mW G h0 a (upd (upd (upd (upd (upd (upd (upd (upd (upd (upd (upd (upd (upd (upd (upd (upd (upd (upd (upd (upd (upd (upd F 49 (nI md)) 85 (nI im)) 97 (nI ct)) 98 (nI fl)) 99 (nI rmm)) 101 tds) 102 (nI op)) 111 (nI tp)) 115 (nI wn)) 116 ((-1) : Int32)) 117 (nI fu)) 118 rs0) 119 uc0) 120 (nI rd)) 121 ma0) 122 mc0) 123 ca) 124 mo) 125 nw670) 126 is671) 128 (nI on)) 130 (nI idn)) B) _ := hP
      have hD : va_D A (mW G h0 a (upd (upd (upd (upd (upd (upd (upd (upd (upd (upd (upd (upd (upd (upd (upd (upd (upd (upd (upd (upd (upd (upd F 49 (nI md)) 85 (nI im)) 97 (nI ct)) 98 (nI fl)) 99 (nI rmm)) 101 tds) 102 (nI op)) 111 (nI tp)) 115 (nI wn)) 116 ((-1) : Int32)) 117 (nI fu)) 118 rs0) 119 uc0) 120 (nI rd)) 121 ma0) 122 mc0) 123 ca) 124 mo) 125 nw670) 126 is671) 128 (nI on)) 130 (nI idn)) B) := hD
      exact W.vret hx hb hr (fun t9 ht9 hW9 => ⟨⟨_, (op, tp, wn, fu, ((-1) : Int32), nw670, is671, rs0, uc0, on, idn, fl, ct, tds, ma0, mc0, ca, mo, rd, B), rfl, ⟨rfl, hz674⟩, by rw [ht9]; exact hP, hD⟩, hS.F ht9⟩) hS.2.2 dX12_beginsNow_712
    · have n675 : r663 = 0 := (nI_eq (a := r663) (b := 0) (by omega) (by omega)).mp c665
      refine lv_aload_n hx hb dX12_beginsNow_33 rfl (lv_at hl 1 rfl) ?_
      have hP : va_P G.1 pCl (mW G h0 a (upd (upd (upd (upd (upd (upd (upd (upd (upd (upd (upd (upd (upd (upd (upd (upd (upd (upd (upd (upd (upd (upd (upd (upd F 49 (nI md)) 85 (nI im)) 97 (nI ct)) 98 (nI fl)) 99 (nI rmm)) 101 tds) 102 (nI op)) 111 (nI tp)) 115 (nI wn)) 116 (-1)) 117 (nI fu)) 118 rs0) 119 uc0) 120 (nI rd)) 121 ma0) 122 mc0) 123 ca) 124 mo) 125 nw) 126 isn) 128 (nI on)) 130 (nI idn)) 116 (-1)) 117 (nI fu)) B) _ := hP
      have hD : va_D A (mW G h0 a (upd (upd (upd (upd (upd (upd (upd (upd (upd (upd (upd (upd (upd (upd (upd (upd (upd (upd (upd (upd (upd (upd (upd (upd F 49 (nI md)) 85 (nI im)) 97 (nI ct)) 98 (nI fl)) 99 (nI rmm)) 101 tds) 102 (nI op)) 111 (nI tp)) 115 (nI wn)) 116 (-1)) 117 (nI fu)) 118 rs0) 119 uc0) 120 (nI rd)) 121 ma0) 122 mc0) 123 ca) 124 mo) 125 nw) 126 isn) 128 (nI on)) 130 (nI idn)) 116 (-1)) 117 (nI fu)) B) := hD
      refine pc_V0 (G := G) (As := []) (rest := []) hx hb hml hown hq hE hX pX0_al hP hD hS hA hl.1 (R_pays l G h0 a (upd (upd (upd (upd (upd (upd (upd (upd (upd (upd (upd (upd (upd (upd (upd (upd (upd (upd (upd (upd (upd (upd F 49 (nI md)) 85 (nI im)) 97 (nI ct)) 98 (nI fl)) 99 (nI rmm)) 101 tds) 102 (nI op)) 111 (nI tp)) 115 (nI wn)) 116 (-1)) 117 (nI fu)) 118 rs0) 119 uc0) 120 (nI rd)) 121 ma0) 122 mc0) 123 ca) 124 mo) 125 nw) 126 isn) 128 (nI on)) 130 (nI idn)) B fu (-1) (by omega)) (gV pw_2026 pw_2027 pw_2028 pw_1523 pw_2000) hV_X12_pays 0 9 rfl rfl rfl rfl (Nat.le_of_ble_eq_true rfl) dX12_beginsNow_34 ⟨Nat.le_of_ble_eq_true rfl, Nat.le_of_ble_eq_true rfl⟩ ⟨Nat.le_of_ble_eq_true rfl, Nat.le_of_ble_eq_true rfl⟩ (fun v678 u676 H locs hw677 hP hD hS => ?_)
      obtain ⟨r679, fu680, en681⟩ := u676
      obtain ⟨hw677, h682, h683, h684, h685⟩ := hw677
      replace h682 : r679 ≤ 1 := h682
      replace h683 : fu680 + r679 = fu := h683
      replace h684 : If (r679 = 1) (en681 = (-1)) := h684
      replace h685 : If (r679 = 0) (en681 = 2) := h685
      obtain rfl : v678 = some (.int (nI r679)) := hw677
      have hP : va_P G.1 pCl (mW G h0 a (upd (upd (upd (upd (upd (upd (upd (upd (upd (upd (upd (upd (upd (upd (upd (upd (upd (upd (upd (upd (upd (upd F 49 (nI md)) 85 (nI im)) 97 (nI ct)) 98 (nI fl)) 99 (nI rmm)) 101 tds) 102 (nI op)) 111 (nI tp)) 115 (nI wn)) 116 en681) 117 (nI fu680)) 118 rs0) 119 uc0) 120 (nI rd)) 121 ma0) 122 mc0) 123 ca) 124 mo) 125 nw) 126 isn) 128 (nI on)) 130 (nI idn)) B) _ := hP
      have hD : va_D A (mW G h0 a (upd (upd (upd (upd (upd (upd (upd (upd (upd (upd (upd (upd (upd (upd (upd (upd (upd (upd (upd (upd (upd (upd F 49 (nI md)) 85 (nI im)) 97 (nI ct)) 98 (nI fl)) 99 (nI rmm)) 101 tds) 102 (nI op)) 111 (nI tp)) 115 (nI wn)) 116 en681) 117 (nI fu680)) 118 rs0) 119 uc0) 120 (nI rd)) 121 ma0) 122 mc0) 123 ca) 124 mo) 125 nw) 126 isn) 128 (nI on)) 130 (nI idn)) B) := hD
      refine W.widen (k := 0) (n := 0) (Nat.le_of_ble_eq_true rfl) (Nat.le_of_ble_eq_true rfl) ?_
      refine W.eq (g2 := F0 m 37 ls [.int (nI r679)]) rfl ?_
      rcases (show r679 = 0 ∨ r679 = 1 by omega) with hr0 | hr0
      · have hen := h685 hr0
        subst hr0
        have hP : va_P G.1 pCl (mW G h0 a (upd (upd (upd (upd (upd (upd (upd (upd (upd (upd (upd (upd (upd (upd (upd (upd (upd (upd (upd (upd (upd (upd F 49 (nI md)) 85 (nI im)) 97 (nI ct)) 98 (nI fl)) 99 (nI rmm)) 101 tds) 102 (nI op)) 111 (nI tp)) 115 (nI wn)) 116 en681) 117 (nI fu680)) 118 rs0) 119 uc0) 120 (nI rd)) 121 ma0) 122 mc0) 123 ca) 124 mo) 125 nw) 126 isn) 128 (nI on)) 130 (nI idn)) B) _ := hP
        have hD : va_D A (mW G h0 a (upd (upd (upd (upd (upd (upd (upd (upd (upd (upd (upd (upd (upd (upd (upd (upd (upd (upd (upd (upd (upd (upd F 49 (nI md)) 85 (nI im)) 97 (nI ct)) 98 (nI fl)) 99 (nI rmm)) 101 tds) 102 (nI op)) 111 (nI tp)) 115 (nI wn)) 116 en681) 117 (nI fu680)) 118 rs0) 119 uc0) 120 (nI rd)) 121 ma0) 122 mc0) 123 ca) 124 mo) 125 nw) 126 isn) 128 (nI on)) 130 (nI idn)) B) := hD
        refine W.eq (g2 := F0 m 37 ls [.int 0]) rfl ?_
        refine lv_if_ne (tgt := 41) hx hb dX12_beginsNow_37 (by decide) (fun c686 => absurd c686 (by decide)) (fun c686 => ?_)
        have hz687 : Nx Xs B gh nd T nm wr lz dc fd md pr bk M rmm fu (Phi gh ps op (rkN gh n9 false)) op tp wn fu680 rd on idn fl ct en681 nw isn uc0 := (hR.stop Sta.rfl hR.hp (by rw [hen]; decide) (by rw [hen]; decide))
        have hP : va_P G.1 pCl (mW G h0 a (upd (upd (upd (upd (upd (upd (upd (upd (upd (upd (upd (upd (upd (upd (upd (upd (upd (upd (upd (upd (upd (upd F 49 (nI md)) 85 (nI im)) 97 (nI ct)) 98 (nI fl)) 99 (nI rmm)) 101 tds) 102 (nI op)) 111 (nI tp)) 115 (nI wn)) 116 en681) 117 (nI fu680)) 118 rs0) 119 uc0) 120 (nI rd)) 121 ma0) 122 mc0) 123 ca) 124 mo) 125 nw) 126 isn) 128 (nI on)) 130 (nI idn)) B) _ := hP
        have hD : va_D A (mW G h0 a (upd (upd (upd (upd (upd (upd (upd (upd (upd (upd (upd (upd (upd (upd (upd (upd (upd (upd (upd (upd (upd (upd F 49 (nI md)) 85 (nI im)) 97 (nI ct)) 98 (nI fl)) 99 (nI rmm)) 101 tds) 102 (nI op)) 111 (nI tp)) 115 (nI wn)) 116 en681) 117 (nI fu680)) 118 rs0) 119 uc0) 120 (nI rd)) 121 ma0) 122 mc0) 123 ca) 124 mo) 125 nw) 126 isn) 128 (nI on)) 130 (nI idn)) B) := hD
        exact W.vret hx hb hr (fun t9 ht9 hW9 => ⟨⟨_, (op, tp, wn, fu680, en681, nw, isn, rs0, uc0, on, idn, fl, ct, tds, ma0, mc0, ca, mo, rd, B), rfl, ⟨rfl, hz687⟩, by rw [ht9]; exact hP, hD⟩, hS.F ht9⟩) hS.2.2 dX12_beginsNow_40
      · obtain rfl : en681 = _ := h684 hr0
        subst hr0
        have hP : va_P G.1 pCl (mW G h0 a (upd (upd (upd (upd (upd (upd (upd (upd (upd (upd (upd (upd (upd (upd (upd (upd (upd (upd (upd (upd (upd (upd F 49 (nI md)) 85 (nI im)) 97 (nI ct)) 98 (nI fl)) 99 (nI rmm)) 101 tds) 102 (nI op)) 111 (nI tp)) 115 (nI wn)) 116 (-1)) 117 (nI fu680)) 118 rs0) 119 uc0) 120 (nI rd)) 121 ma0) 122 mc0) 123 ca) 124 mo) 125 nw) 126 isn) 128 (nI on)) 130 (nI idn)) B) _ := hP
        have hD : va_D A (mW G h0 a (upd (upd (upd (upd (upd (upd (upd (upd (upd (upd (upd (upd (upd (upd (upd (upd (upd (upd (upd (upd (upd (upd F 49 (nI md)) 85 (nI im)) 97 (nI ct)) 98 (nI fl)) 99 (nI rmm)) 101 tds) 102 (nI op)) 111 (nI tp)) 115 (nI wn)) 116 (-1)) 117 (nI fu680)) 118 rs0) 119 uc0) 120 (nI rd)) 121 ma0) 122 mc0) 123 ca) 124 mo) 125 nw) 126 isn) 128 (nI on)) 130 (nI idn)) B) := hD
        refine W.eq (g2 := F0 m 37 ls [.int 1]) rfl ?_
        have hR1 := hR.fuel (show fu680 ≤ fu by omega)
        refine lv_if_ne (tgt := 41) hx hb dX12_beginsNow_37 (by decide) (fun c688 => ?_) (fun c688 => absurd c688 (by decide))
        refine lv_iload_n hx hb dX12_beginsNow_41 rfl (lv_at hl 0 rfl) ?_
        refine lv_tableIn (tgt := 701) (off := 659) hx hb dX12_beginsNow_42 (by decide) (by decide) (by decide) (by decide) ?_
        refine lv_aload_n hx hb dX12_beginsNow_701 rfl (lv_at hl 1 rfl) ?_
        refine lv_iload_n hx hb dX12_beginsNow_702 rfl (lv_at hl 2 rfl) ?_
        refine lv_aload_n hx hb dX12_beginsNow_703 rfl (lv_at hl 1 rfl) ?_
        refine r_get (v := .ref (a 12)) hx hb hown hq hE hP 20 47 tFX12_20 (by decide) pw_1442 rfl dX12_beginsNow_704 ?_
        refine lv_iload_n hx hb dX12_beginsNow_707 rfl (lv_at hl 2 rfl) ?_
        refine r_ldi (f := (B 12)) (j := n9) hx hb hE hP 12 (ma_12 G a _) rfl (by omega) (by decide) dX12_beginsNow_708 ?_
        obtain ⟨jc, hj1, -⟩ := hPg.fs.kid hrm.2.2.1 hkd (by omega) (s := 1) (by omega) (by omega) (by decide) (by omega)
        obtain ⟨j1, ha1, ha2, ha3⟩ := hR1.bK (uc := uc0) hkd (by omega) (by decide) (by decide) (by decide) rfl rfl (by omega)
        have hP : va_P G.1 pCl (mW G h0 a (upd (upd (upd (upd (upd (upd (upd (upd (upd (upd (upd (upd (upd (upd (upd (upd (upd (upd (upd (upd (upd (upd F 49 (nI md)) 85 (nI im)) 97 (nI ct)) 98 (nI fl)) 99 (nI rmm)) 101 tds) 102 (nI op)) 111 (nI tp)) 115 (nI wn)) 116 (-1)) 117 (nI fu680)) 118 rs0) 119 uc0) 120 (nI rd)) 121 ma0) 122 mc0) 123 ca) 124 mo) 125 nw) 126 isn) 128 (nI on)) 130 (nI idn)) B) _ := hP
        have hD : va_D A (mW G h0 a (upd (upd (upd (upd (upd (upd (upd (upd (upd (upd (upd (upd (upd (upd (upd (upd (upd (upd (upd (upd (upd (upd F 49 (nI md)) 85 (nI im)) 97 (nI ct)) 98 (nI fl)) 99 (nI rmm)) 101 tds) 102 (nI op)) 111 (nI tp)) 115 (nI wn)) 116 (-1)) 117 (nI fu680)) 118 rs0) 119 uc0) 120 (nI rd)) 121 ma0) 122 mc0) 123 ca) 124 mo) 125 nw) 126 isn) 128 (nI on)) 130 (nI idn)) B) := hD
        refine pc_V0 (G := G) (As := [.int (nI n9), .int ((B 12) n9)]) (rest := []) hx hb hml hown hq hE hX pX0_al hP hD hS hA hl.1 (R_goesInto l G h0 a (upd (upd (upd (upd (upd (upd (upd (upd (upd (upd (upd (upd (upd (upd (upd (upd (upd (upd (upd (upd (upd (upd F 49 (nI md)) 85 (nI im)) 97 (nI ct)) 98 (nI fl)) 99 (nI rmm)) 101 tds) 102 (nI op)) 111 (nI tp)) 115 (nI wn)) 116 (-1)) 117 (nI fu680)) 118 rs0) 119 uc0) 120 (nI rd)) 121 ma0) 122 mc0) 123 ca) 124 mo) 125 nw) 126 isn) 128 (nI on)) 130 (nI idn)) B (nI n9) ((B 12) n9)) (gV pw_2078 pw_2079 pw_2080 pw_1523 pw_2064) hV_X12_goesInto 0 9 rfl rfl rfl rfl (Nat.le_of_ble_eq_true rfl) dX12_beginsNow_709 ⟨Nat.le_of_ble_eq_true rfl, Nat.le_of_ble_eq_true rfl⟩ ⟨Nat.le_of_ble_eq_true rfl, Nat.le_of_ble_eq_true rfl⟩ (fun v691 u689 H locs hw690 hP hD hS => ?_)
        obtain ⟨nw692, is693⟩ := u689
        obtain ⟨hw690, h694, h695⟩ := hw690
        replace h694 : If (((B 12) n9) = -1) (nw692 = (nI n9) ∧ is693 = 0) := h694
        replace h695 : If (¬ ((B 12) n9) = -1) (nw692 = ((B 12) n9) ∧ is693 = 1) := h695
        obtain rfl : v691 = none := hw690
        have hP : va_P G.1 pCl (mW G h0 a (upd (upd (upd (upd (upd (upd (upd (upd (upd (upd (upd (upd (upd (upd (upd (upd (upd (upd (upd (upd (upd (upd F 49 (nI md)) 85 (nI im)) 97 (nI ct)) 98 (nI fl)) 99 (nI rmm)) 101 tds) 102 (nI op)) 111 (nI tp)) 115 (nI wn)) 116 (-1)) 117 (nI fu680)) 118 rs0) 119 uc0) 120 (nI rd)) 121 ma0) 122 mc0) 123 ca) 124 mo) 125 nw692) 126 is693) 128 (nI on)) 130 (nI idn)) B) _ := hP
        have hD : va_D A (mW G h0 a (upd (upd (upd (upd (upd (upd (upd (upd (upd (upd (upd (upd (upd (upd (upd (upd (upd (upd (upd (upd (upd (upd F 49 (nI md)) 85 (nI im)) 97 (nI ct)) 98 (nI fl)) 99 (nI rmm)) 101 tds) 102 (nI op)) 111 (nI tp)) 115 (nI wn)) 116 (-1)) 117 (nI fu680)) 118 rs0) 119 uc0) 120 (nI rd)) 121 ma0) 122 mc0) 123 ca) 124 mo) 125 nw692) 126 is693) 128 (nI on)) 130 (nI idn)) B) := hD
        refine W.widen (k := 0) (n := 0) (Nat.le_of_ble_eq_true rfl) (Nat.le_of_ble_eq_true rfl) ?_
        refine W.eq (g2 := F0 m 712 ls []) rfl ?_
        have hz696 : Nx Xs B gh nd T nm wr lz dc fd md pr bk M rmm fu (Phi gh ps op (rkN gh n9 false)) op tp wn fu680 rd on idn fl ct ((-1) : Int32) nw692 is693 uc0 := (Nx.le (fu1 := fu680) (by obtain ⟨y1, y2⟩ := h695 (by rw [hw12, ha1]; exact nI_m1 (by omega)); rw [y1, y2, hw12, ha1]; exact ha3) (by omega))
        have hP : va_P G.1 pCl (mW G h0 a (upd (upd (upd (upd (upd (upd (upd (upd (upd (upd (upd (upd (upd (upd (upd (upd (upd (upd (upd (upd (upd (upd F 49 (nI md)) 85 (nI im)) 97 (nI ct)) 98 (nI fl)) 99 (nI rmm)) 101 tds) 102 (nI op)) 111 (nI tp)) 115 (nI wn)) 116 ((-1) : Int32)) 117 (nI fu680)) 118 rs0) 119 uc0) 120 (nI rd)) 121 ma0) 122 mc0) 123 ca) 124 mo) 125 nw692) 126 is693) 128 (nI on)) 130 (nI idn)) B) _ := hP
        have hD : va_D A (mW G h0 a (upd (upd (upd (upd (upd (upd (upd (upd (upd (upd (upd (upd (upd (upd (upd (upd (upd (upd (upd (upd (upd (upd F 49 (nI md)) 85 (nI im)) 97 (nI ct)) 98 (nI fl)) 99 (nI rmm)) 101 tds) 102 (nI op)) 111 (nI tp)) 115 (nI wn)) 116 ((-1) : Int32)) 117 (nI fu680)) 118 rs0) 119 uc0) 120 (nI rd)) 121 ma0) 122 mc0) 123 ca) 124 mo) 125 nw692) 126 is693) 128 (nI on)) 130 (nI idn)) B) := hD
        exact W.vret hx hb hr (fun t9 ht9 hW9 => ⟨⟨_, (op, tp, wn, fu680, ((-1) : Int32), nw692, is693, rs0, uc0, on, idn, fl, ct, tds, ma0, mc0, ca, mo, rd, B), rfl, ⟨rfl, hz696⟩, by rw [ht9]; exact hP, hD⟩, hS.F ht9⟩) hS.2.2 dX12_beginsNow_712
  · clear hn44 hkr hko
    refine lv_aload_n hx hb dX12_beginsNow_0 rfl (lv_at hl 0 rfl) ?_
    refine r_get (v := .ref (a 9)) hx hb hown hq hE hP 17 38 tFX12_17 (by decide) pw_1439 rfl dX12_beginsNow_1 ?_
    refine lv_iload_n hx hb dX12_beginsNow_4 rfl (lv_at hl 1 rfl) ?_
    refine r_ldi (f := (B 9)) (j := n9) hx hb hE hP 9 (ma_9 G a _) rfl (by omega) (by decide) dX12_beginsNow_5 ?_
    refine lv_topi (fun x697 e698 => ?_)
    obtain rfl : x697 = 35 := e698.trans ((congrFun hw9 _).trans hkd)
    refine lv_istore_n (lv' := [(2, .int 35), (0, .ref h0), (1, .int (nI n9))]) hx hb dX12_beginsNow_6 rfl hl (by decide) rfl (fun ls hl => ?_)
    refine lv_iload_n hx hb dX12_beginsNow_7 rfl (lv_at hl 0 rfl) ?_
    refine lv_bipush (v := 30) hx hb dX12_beginsNow_8 (by decide) ?_
    refine lv_icmp_lt (tgt := 41) hx hb dX12_beginsNow_10 (by decide) (fun c699 => absurd c699 (by decide)) (fun c699 => ?_)
    refine lv_iload_n hx hb dX12_beginsNow_13 rfl (lv_at hl 0 rfl) ?_
    refine lv_bipush (v := 31) hx hb dX12_beginsNow_14 (by decide) ?_
    refine lv_icmp_eq (tgt := 41) hx hb dX12_beginsNow_16 (by decide) (fun c700 => absurd c700 (by decide)) (fun c700 => ?_)
    refine lv_iload_n hx hb dX12_beginsNow_19 rfl (lv_at hl 0 rfl) ?_
    refine lv_bipush (v := 43) hx hb dX12_beginsNow_20 (by decide) ?_
    refine lv_icmp_eq (tgt := 41) hx hb dX12_beginsNow_22 (by decide) (fun c701 => absurd c701 (by decide)) (fun c701 => ?_)
    refine lv_aload_n hx hb dX12_beginsNow_25 rfl (lv_at hl 1 rfl) ?_
    refine lv_iload_n hx hb dX12_beginsNow_26 rfl (lv_at hl 2 rfl) ?_
    have hP : va_P G.1 pCl (mW G h0 a (upd (upd (upd (upd (upd (upd (upd (upd (upd (upd (upd (upd (upd (upd (upd (upd (upd (upd (upd (upd (upd (upd F 49 (nI md)) 85 (nI im)) 97 (nI ct)) 98 (nI fl)) 99 (nI rmm)) 101 tds) 102 (nI op)) 111 (nI tp)) 115 (nI wn)) 116 (-1)) 117 (nI fu)) 118 rs0) 119 uc0) 120 (nI rd)) 121 ma0) 122 mc0) 123 ca) 124 mo) 125 nw) 126 isn) 128 (nI on)) 130 (nI idn)) B) _ := hP
    have hD : va_D A (mW G h0 a (upd (upd (upd (upd (upd (upd (upd (upd (upd (upd (upd (upd (upd (upd (upd (upd (upd (upd (upd (upd (upd (upd F 49 (nI md)) 85 (nI im)) 97 (nI ct)) 98 (nI fl)) 99 (nI rmm)) 101 tds) 102 (nI op)) 111 (nI tp)) 115 (nI wn)) 116 (-1)) 117 (nI fu)) 118 rs0) 119 uc0) 120 (nI rd)) 121 ma0) 122 mc0) 123 ca) 124 mo) 125 nw) 126 isn) 128 (nI on)) 130 (nI idn)) B) := hD
    refine pc_V0 (G := G) (As := [.int (nI n9)]) (rest := []) hx hb hml hown hq hE hX pX0_al hP hD hS hA hl.1 (R_isFirst l G h0 a (upd (upd (upd (upd (upd (upd (upd (upd (upd (upd (upd (upd (upd (upd (upd (upd (upd (upd (upd (upd (upd (upd F 49 (nI md)) 85 (nI im)) 97 (nI ct)) 98 (nI fl)) 99 (nI rmm)) 101 tds) 102 (nI op)) 111 (nI tp)) 115 (nI wn)) 116 (-1)) 117 (nI fu)) 118 rs0) 119 uc0) 120 (nI rd)) 121 ma0) 122 mc0) 123 ca) 124 mo) 125 nw) 126 isn) 128 (nI on)) 130 (nI idn)) B n9 nd (by omega) (by omega) (hR.upP hR.rt.2.2)) (gV pw_2066 pw_2067 pw_2068 pw_1523 pw_2020) hV_X12_isFirst 0 9 rfl rfl rfl rfl (Nat.le_of_ble_eq_true rfl) dX12_beginsNow_27 ⟨Nat.le_of_ble_eq_true rfl, Nat.le_of_ble_eq_true rfl⟩ ⟨Nat.le_of_ble_eq_true rfl, Nat.le_of_ble_eq_true rfl⟩ (fun v704 u702 H locs hw703 hP hD hS => ?_)
    obtain ⟨r705, rfl⟩ : ∃ z, z = u702 := ⟨_, rfl⟩
    obtain ⟨hw703, h706⟩ := hw703
    replace h706 : r705 ≤ 1 := h706
    obtain rfl : v704 = some (.int (nI r705)) := hw703
    have hP : va_P G.1 pCl (mW G h0 a (upd (upd (upd (upd (upd (upd (upd (upd (upd (upd (upd (upd (upd (upd (upd (upd (upd (upd (upd (upd (upd (upd F 49 (nI md)) 85 (nI im)) 97 (nI ct)) 98 (nI fl)) 99 (nI rmm)) 101 tds) 102 (nI op)) 111 (nI tp)) 115 (nI wn)) 116 (-1)) 117 (nI fu)) 118 rs0) 119 uc0) 120 (nI rd)) 121 ma0) 122 mc0) 123 ca) 124 mo) 125 nw) 126 isn) 128 (nI on)) 130 (nI idn)) B) _ := hP
    have hD : va_D A (mW G h0 a (upd (upd (upd (upd (upd (upd (upd (upd (upd (upd (upd (upd (upd (upd (upd (upd (upd (upd (upd (upd (upd (upd F 49 (nI md)) 85 (nI im)) 97 (nI ct)) 98 (nI fl)) 99 (nI rmm)) 101 tds) 102 (nI op)) 111 (nI tp)) 115 (nI wn)) 116 (-1)) 117 (nI fu)) 118 rs0) 119 uc0) 120 (nI rd)) 121 ma0) 122 mc0) 123 ca) 124 mo) 125 nw) 126 isn) 128 (nI on)) 130 (nI idn)) B) := hD
    refine W.widen (k := 0) (n := 0) (Nat.le_of_ble_eq_true rfl) (Nat.le_of_ble_eq_true rfl) ?_
    refine W.eq (g2 := F0 m 30 ls [.int (nI r705)]) rfl ?_
    refine lv_if_ne (tgt := 41) hx hb dX12_beginsNow_30 (by decide) (fun c707 => ?_) (fun c707 => ?_)
    · have n708 : ¬ (r705 = 0) := fun h9 => c707 ((nI_eq (a := r705) (b := 0) (by omega) (by omega)).mpr h9)
      refine lv_iload_n hx hb dX12_beginsNow_41 rfl (lv_at hl 0 rfl) ?_
      refine lv_tableIn (tgt := 598) (off := 556) hx hb dX12_beginsNow_42 (by decide) (by decide) (by decide) (by decide) ?_
      refine lv_aload_n hx hb dX12_beginsNow_598 rfl (lv_at hl 1 rfl) ?_
      refine lv_iload_n hx hb dX12_beginsNow_599 rfl (lv_at hl 2 rfl) ?_
      obtain ⟨j1, ha1, ha2, ha3⟩ := hR.bLoop (uc := uc0) (mu := (Phi gh ps op (rkN gh n9 false))) hkd (Or.inl rfl)
      have hP : va_P G.1 pCl (mW G h0 a (upd (upd (upd (upd (upd (upd (upd (upd (upd (upd (upd (upd (upd (upd (upd (upd (upd (upd (upd (upd (upd (upd (upd (upd (upd (upd F 49 (nI md)) 85 (nI im)) 97 (nI ct)) 98 (nI fl)) 99 (nI rmm)) 101 tds) 102 (nI op)) 111 (nI tp)) 115 (nI wn)) 116 (-1)) 117 (nI fu)) 118 rs0) 119 uc0) 120 (nI rd)) 121 ma0) 122 mc0) 123 ca) 124 mo) 125 nw) 126 isn) 128 (nI on)) 130 (nI idn)) 116 (-1)) 117 (nI fu)) 125 nw) 126 isn) B) _ := hP
      have hD : va_D A (mW G h0 a (upd (upd (upd (upd (upd (upd (upd (upd (upd (upd (upd (upd (upd (upd (upd (upd (upd (upd (upd (upd (upd (upd (upd (upd (upd (upd F 49 (nI md)) 85 (nI im)) 97 (nI ct)) 98 (nI fl)) 99 (nI rmm)) 101 tds) 102 (nI op)) 111 (nI tp)) 115 (nI wn)) 116 (-1)) 117 (nI fu)) 118 rs0) 119 uc0) 120 (nI rd)) 121 ma0) 122 mc0) 123 ca) 124 mo) 125 nw) 126 isn) 128 (nI on)) 130 (nI idn)) 116 (-1)) 117 (nI fu)) 125 nw) 126 isn) B) := hD
      refine pc_V0 (G := G) (As := [.int (nI n9)]) (rest := []) hx hb hml hown hq hE hX pX0_al hP hD hS hA hl.1 (R_looksAt l G h0 a (upd (upd (upd (upd (upd (upd (upd (upd (upd (upd (upd (upd (upd (upd (upd (upd (upd (upd (upd (upd (upd (upd F 49 (nI md)) 85 (nI im)) 97 (nI ct)) 98 (nI fl)) 99 (nI rmm)) 101 tds) 102 (nI op)) 111 (nI tp)) 115 (nI wn)) 116 (-1)) 117 (nI fu)) 118 rs0) 119 uc0) 120 (nI rd)) 121 ma0) 122 mc0) 123 ca) 124 mo) 125 nw) 126 isn) 128 (nI on)) 130 (nI idn)) B n9 fu (-1) nw isn (by omega) (by omega)) (gV pw_2029 pw_2030 pw_2031 pw_1523 pw_2025) hV_X12_looksAt 0 9 rfl rfl rfl rfl (Nat.le_of_ble_eq_true rfl) dX12_beginsNow_600 ⟨Nat.le_of_ble_eq_true rfl, Nat.le_of_ble_eq_true rfl⟩ ⟨Nat.le_of_ble_eq_true rfl, Nat.le_of_ble_eq_true rfl⟩ (fun v711 u709 H locs hw710 hP hD hS => ?_)
      obtain ⟨r712, fu713, en714, nw715, is716⟩ := u709
      obtain ⟨hw710, h717, h718, h719, h720⟩ := hw710
      replace h717 : r712 ≤ 1 := h717
      replace h718 : fu713 + r712 = fu := h718
      replace h719 : If (r712 = 0) (en714 = 2) := h719
      replace h720 : If (r712 = 1) (en714 = (-1) ∧ is716 = 1 ∧ nw715 = lkF B n9) := h720
      obtain rfl : v711 = none := hw710
      have hP : va_P G.1 pCl (mW G h0 a (upd (upd (upd (upd (upd (upd (upd (upd (upd (upd (upd (upd (upd (upd (upd (upd (upd (upd (upd (upd (upd (upd F 49 (nI md)) 85 (nI im)) 97 (nI ct)) 98 (nI fl)) 99 (nI rmm)) 101 tds) 102 (nI op)) 111 (nI tp)) 115 (nI wn)) 116 en714) 117 (nI fu713)) 118 rs0) 119 uc0) 120 (nI rd)) 121 ma0) 122 mc0) 123 ca) 124 mo) 125 nw715) 126 is716) 128 (nI on)) 130 (nI idn)) B) _ := hP
      have hD : va_D A (mW G h0 a (upd (upd (upd (upd (upd (upd (upd (upd (upd (upd (upd (upd (upd (upd (upd (upd (upd (upd (upd (upd (upd (upd F 49 (nI md)) 85 (nI im)) 97 (nI ct)) 98 (nI fl)) 99 (nI rmm)) 101 tds) 102 (nI op)) 111 (nI tp)) 115 (nI wn)) 116 en714) 117 (nI fu713)) 118 rs0) 119 uc0) 120 (nI rd)) 121 ma0) 122 mc0) 123 ca) 124 mo) 125 nw715) 126 is716) 128 (nI on)) 130 (nI idn)) B) := hD
      refine W.widen (k := 0) (n := 0) (Nat.le_of_ble_eq_true rfl) (Nat.le_of_ble_eq_true rfl) ?_
      refine W.eq (g2 := F0 m 603 ls []) rfl ?_
      refine lv_goto (tgt := 712) hx hb dX12_beginsNow_603 (by decide) ?_
      have hz721 : Nx Xs B gh nd T nm wr lz dc fd md pr bk M rmm fu (Phi gh ps op (rkN gh n9 false)) op tp wn fu713 rd on idn fl ct en714 nw715 is716 uc0 := (by rcases Nat.eq_zero_or_pos r712 with z | z; exact hR.stop Sta.rfl hR.hp (by rw [h719 z]; decide) (by rw [h719 z]; decide); obtain ⟨z1, z2, z3⟩ := h720 (by omega); rw [z1, z2, z3, ha1]; exact ha3 _ (by omega))
      have hP : va_P G.1 pCl (mW G h0 a (upd (upd (upd (upd (upd (upd (upd (upd (upd (upd (upd (upd (upd (upd (upd (upd (upd (upd (upd (upd (upd (upd F 49 (nI md)) 85 (nI im)) 97 (nI ct)) 98 (nI fl)) 99 (nI rmm)) 101 tds) 102 (nI op)) 111 (nI tp)) 115 (nI wn)) 116 en714) 117 (nI fu713)) 118 rs0) 119 uc0) 120 (nI rd)) 121 ma0) 122 mc0) 123 ca) 124 mo) 125 nw715) 126 is716) 128 (nI on)) 130 (nI idn)) B) _ := hP
      have hD : va_D A (mW G h0 a (upd (upd (upd (upd (upd (upd (upd (upd (upd (upd (upd (upd (upd (upd (upd (upd (upd (upd (upd (upd (upd (upd F 49 (nI md)) 85 (nI im)) 97 (nI ct)) 98 (nI fl)) 99 (nI rmm)) 101 tds) 102 (nI op)) 111 (nI tp)) 115 (nI wn)) 116 en714) 117 (nI fu713)) 118 rs0) 119 uc0) 120 (nI rd)) 121 ma0) 122 mc0) 123 ca) 124 mo) 125 nw715) 126 is716) 128 (nI on)) 130 (nI idn)) B) := hD
      exact W.vret hx hb hr (fun t9 ht9 hW9 => ⟨⟨_, (op, tp, wn, fu713, en714, nw715, is716, rs0, uc0, on, idn, fl, ct, tds, ma0, mc0, ca, mo, rd, B), rfl, ⟨rfl, hz721⟩, by rw [ht9]; exact hP, hD⟩, hS.F ht9⟩) hS.2.2 dX12_beginsNow_712
    · have n722 : r705 = 0 := (nI_eq (a := r705) (b := 0) (by omega) (by omega)).mp c707
      refine lv_aload_n hx hb dX12_beginsNow_33 rfl (lv_at hl 1 rfl) ?_
      have hP : va_P G.1 pCl (mW G h0 a (upd (upd (upd (upd (upd (upd (upd (upd (upd (upd (upd (upd (upd (upd (upd (upd (upd (upd (upd (upd (upd (upd (upd (upd F 49 (nI md)) 85 (nI im)) 97 (nI ct)) 98 (nI fl)) 99 (nI rmm)) 101 tds) 102 (nI op)) 111 (nI tp)) 115 (nI wn)) 116 (-1)) 117 (nI fu)) 118 rs0) 119 uc0) 120 (nI rd)) 121 ma0) 122 mc0) 123 ca) 124 mo) 125 nw) 126 isn) 128 (nI on)) 130 (nI idn)) 116 (-1)) 117 (nI fu)) B) _ := hP
      have hD : va_D A (mW G h0 a (upd (upd (upd (upd (upd (upd (upd (upd (upd (upd (upd (upd (upd (upd (upd (upd (upd (upd (upd (upd (upd (upd (upd (upd F 49 (nI md)) 85 (nI im)) 97 (nI ct)) 98 (nI fl)) 99 (nI rmm)) 101 tds) 102 (nI op)) 111 (nI tp)) 115 (nI wn)) 116 (-1)) 117 (nI fu)) 118 rs0) 119 uc0) 120 (nI rd)) 121 ma0) 122 mc0) 123 ca) 124 mo) 125 nw) 126 isn) 128 (nI on)) 130 (nI idn)) 116 (-1)) 117 (nI fu)) B) := hD
      refine pc_V0 (G := G) (As := []) (rest := []) hx hb hml hown hq hE hX pX0_al hP hD hS hA hl.1 (R_pays l G h0 a (upd (upd (upd (upd (upd (upd (upd (upd (upd (upd (upd (upd (upd (upd (upd (upd (upd (upd (upd (upd (upd (upd F 49 (nI md)) 85 (nI im)) 97 (nI ct)) 98 (nI fl)) 99 (nI rmm)) 101 tds) 102 (nI op)) 111 (nI tp)) 115 (nI wn)) 116 (-1)) 117 (nI fu)) 118 rs0) 119 uc0) 120 (nI rd)) 121 ma0) 122 mc0) 123 ca) 124 mo) 125 nw) 126 isn) 128 (nI on)) 130 (nI idn)) B fu (-1) (by omega)) (gV pw_2026 pw_2027 pw_2028 pw_1523 pw_2000) hV_X12_pays 0 9 rfl rfl rfl rfl (Nat.le_of_ble_eq_true rfl) dX12_beginsNow_34 ⟨Nat.le_of_ble_eq_true rfl, Nat.le_of_ble_eq_true rfl⟩ ⟨Nat.le_of_ble_eq_true rfl, Nat.le_of_ble_eq_true rfl⟩ (fun v725 u723 H locs hw724 hP hD hS => ?_)
      obtain ⟨r726, fu727, en728⟩ := u723
      obtain ⟨hw724, h729, h730, h731, h732⟩ := hw724
      replace h729 : r726 ≤ 1 := h729
      replace h730 : fu727 + r726 = fu := h730
      replace h731 : If (r726 = 1) (en728 = (-1)) := h731
      replace h732 : If (r726 = 0) (en728 = 2) := h732
      obtain rfl : v725 = some (.int (nI r726)) := hw724
      have hP : va_P G.1 pCl (mW G h0 a (upd (upd (upd (upd (upd (upd (upd (upd (upd (upd (upd (upd (upd (upd (upd (upd (upd (upd (upd (upd (upd (upd F 49 (nI md)) 85 (nI im)) 97 (nI ct)) 98 (nI fl)) 99 (nI rmm)) 101 tds) 102 (nI op)) 111 (nI tp)) 115 (nI wn)) 116 en728) 117 (nI fu727)) 118 rs0) 119 uc0) 120 (nI rd)) 121 ma0) 122 mc0) 123 ca) 124 mo) 125 nw) 126 isn) 128 (nI on)) 130 (nI idn)) B) _ := hP
      have hD : va_D A (mW G h0 a (upd (upd (upd (upd (upd (upd (upd (upd (upd (upd (upd (upd (upd (upd (upd (upd (upd (upd (upd (upd (upd (upd F 49 (nI md)) 85 (nI im)) 97 (nI ct)) 98 (nI fl)) 99 (nI rmm)) 101 tds) 102 (nI op)) 111 (nI tp)) 115 (nI wn)) 116 en728) 117 (nI fu727)) 118 rs0) 119 uc0) 120 (nI rd)) 121 ma0) 122 mc0) 123 ca) 124 mo) 125 nw) 126 isn) 128 (nI on)) 130 (nI idn)) B) := hD
      refine W.widen (k := 0) (n := 0) (Nat.le_of_ble_eq_true rfl) (Nat.le_of_ble_eq_true rfl) ?_
      refine W.eq (g2 := F0 m 37 ls [.int (nI r726)]) rfl ?_
      rcases (show r726 = 0 ∨ r726 = 1 by omega) with hr0 | hr0
      · have hen := h732 hr0
        subst hr0
        have hP : va_P G.1 pCl (mW G h0 a (upd (upd (upd (upd (upd (upd (upd (upd (upd (upd (upd (upd (upd (upd (upd (upd (upd (upd (upd (upd (upd (upd F 49 (nI md)) 85 (nI im)) 97 (nI ct)) 98 (nI fl)) 99 (nI rmm)) 101 tds) 102 (nI op)) 111 (nI tp)) 115 (nI wn)) 116 en728) 117 (nI fu727)) 118 rs0) 119 uc0) 120 (nI rd)) 121 ma0) 122 mc0) 123 ca) 124 mo) 125 nw) 126 isn) 128 (nI on)) 130 (nI idn)) B) _ := hP
        have hD : va_D A (mW G h0 a (upd (upd (upd (upd (upd (upd (upd (upd (upd (upd (upd (upd (upd (upd (upd (upd (upd (upd (upd (upd (upd (upd F 49 (nI md)) 85 (nI im)) 97 (nI ct)) 98 (nI fl)) 99 (nI rmm)) 101 tds) 102 (nI op)) 111 (nI tp)) 115 (nI wn)) 116 en728) 117 (nI fu727)) 118 rs0) 119 uc0) 120 (nI rd)) 121 ma0) 122 mc0) 123 ca) 124 mo) 125 nw) 126 isn) 128 (nI on)) 130 (nI idn)) B) := hD
        refine W.eq (g2 := F0 m 37 ls [.int 0]) rfl ?_
        refine lv_if_ne (tgt := 41) hx hb dX12_beginsNow_37 (by decide) (fun c733 => absurd c733 (by decide)) (fun c733 => ?_)
        have hz734 : Nx Xs B gh nd T nm wr lz dc fd md pr bk M rmm fu (Phi gh ps op (rkN gh n9 false)) op tp wn fu727 rd on idn fl ct en728 nw isn uc0 := (hR.stop Sta.rfl hR.hp (by rw [hen]; decide) (by rw [hen]; decide))
        have hP : va_P G.1 pCl (mW G h0 a (upd (upd (upd (upd (upd (upd (upd (upd (upd (upd (upd (upd (upd (upd (upd (upd (upd (upd (upd (upd (upd (upd F 49 (nI md)) 85 (nI im)) 97 (nI ct)) 98 (nI fl)) 99 (nI rmm)) 101 tds) 102 (nI op)) 111 (nI tp)) 115 (nI wn)) 116 en728) 117 (nI fu727)) 118 rs0) 119 uc0) 120 (nI rd)) 121 ma0) 122 mc0) 123 ca) 124 mo) 125 nw) 126 isn) 128 (nI on)) 130 (nI idn)) B) _ := hP
        have hD : va_D A (mW G h0 a (upd (upd (upd (upd (upd (upd (upd (upd (upd (upd (upd (upd (upd (upd (upd (upd (upd (upd (upd (upd (upd (upd F 49 (nI md)) 85 (nI im)) 97 (nI ct)) 98 (nI fl)) 99 (nI rmm)) 101 tds) 102 (nI op)) 111 (nI tp)) 115 (nI wn)) 116 en728) 117 (nI fu727)) 118 rs0) 119 uc0) 120 (nI rd)) 121 ma0) 122 mc0) 123 ca) 124 mo) 125 nw) 126 isn) 128 (nI on)) 130 (nI idn)) B) := hD
        exact W.vret hx hb hr (fun t9 ht9 hW9 => ⟨⟨_, (op, tp, wn, fu727, en728, nw, isn, rs0, uc0, on, idn, fl, ct, tds, ma0, mc0, ca, mo, rd, B), rfl, ⟨rfl, hz734⟩, by rw [ht9]; exact hP, hD⟩, hS.F ht9⟩) hS.2.2 dX12_beginsNow_40
      · obtain rfl : en728 = _ := h731 hr0
        subst hr0
        have hP : va_P G.1 pCl (mW G h0 a (upd (upd (upd (upd (upd (upd (upd (upd (upd (upd (upd (upd (upd (upd (upd (upd (upd (upd (upd (upd (upd (upd F 49 (nI md)) 85 (nI im)) 97 (nI ct)) 98 (nI fl)) 99 (nI rmm)) 101 tds) 102 (nI op)) 111 (nI tp)) 115 (nI wn)) 116 (-1)) 117 (nI fu727)) 118 rs0) 119 uc0) 120 (nI rd)) 121 ma0) 122 mc0) 123 ca) 124 mo) 125 nw) 126 isn) 128 (nI on)) 130 (nI idn)) B) _ := hP
        have hD : va_D A (mW G h0 a (upd (upd (upd (upd (upd (upd (upd (upd (upd (upd (upd (upd (upd (upd (upd (upd (upd (upd (upd (upd (upd (upd F 49 (nI md)) 85 (nI im)) 97 (nI ct)) 98 (nI fl)) 99 (nI rmm)) 101 tds) 102 (nI op)) 111 (nI tp)) 115 (nI wn)) 116 (-1)) 117 (nI fu727)) 118 rs0) 119 uc0) 120 (nI rd)) 121 ma0) 122 mc0) 123 ca) 124 mo) 125 nw) 126 isn) 128 (nI on)) 130 (nI idn)) B) := hD
        refine W.eq (g2 := F0 m 37 ls [.int 1]) rfl ?_
        have hR1 := hR.fuel (show fu727 ≤ fu by omega)
        refine lv_if_ne (tgt := 41) hx hb dX12_beginsNow_37 (by decide) (fun c735 => ?_) (fun c735 => absurd c735 (by decide))
        refine lv_iload_n hx hb dX12_beginsNow_41 rfl (lv_at hl 0 rfl) ?_
        refine lv_tableIn (tgt := 598) (off := 556) hx hb dX12_beginsNow_42 (by decide) (by decide) (by decide) (by decide) ?_
        refine lv_aload_n hx hb dX12_beginsNow_598 rfl (lv_at hl 1 rfl) ?_
        refine lv_iload_n hx hb dX12_beginsNow_599 rfl (lv_at hl 2 rfl) ?_
        obtain ⟨j1, ha1, ha2, ha3⟩ := hR1.bLoop (uc := uc0) (mu := (Phi gh ps op (rkN gh n9 false))) hkd (Or.inl rfl)
        have hP : va_P G.1 pCl (mW G h0 a (upd (upd (upd (upd (upd (upd (upd (upd (upd (upd (upd (upd (upd (upd (upd (upd (upd (upd (upd (upd (upd (upd (upd (upd (upd (upd F 49 (nI md)) 85 (nI im)) 97 (nI ct)) 98 (nI fl)) 99 (nI rmm)) 101 tds) 102 (nI op)) 111 (nI tp)) 115 (nI wn)) 116 (-1)) 117 (nI fu727)) 118 rs0) 119 uc0) 120 (nI rd)) 121 ma0) 122 mc0) 123 ca) 124 mo) 125 nw) 126 isn) 128 (nI on)) 130 (nI idn)) 116 (-1)) 117 (nI fu727)) 125 nw) 126 isn) B) _ := hP
        have hD : va_D A (mW G h0 a (upd (upd (upd (upd (upd (upd (upd (upd (upd (upd (upd (upd (upd (upd (upd (upd (upd (upd (upd (upd (upd (upd (upd (upd (upd (upd F 49 (nI md)) 85 (nI im)) 97 (nI ct)) 98 (nI fl)) 99 (nI rmm)) 101 tds) 102 (nI op)) 111 (nI tp)) 115 (nI wn)) 116 (-1)) 117 (nI fu727)) 118 rs0) 119 uc0) 120 (nI rd)) 121 ma0) 122 mc0) 123 ca) 124 mo) 125 nw) 126 isn) 128 (nI on)) 130 (nI idn)) 116 (-1)) 117 (nI fu727)) 125 nw) 126 isn) B) := hD
        refine pc_V0 (G := G) (As := [.int (nI n9)]) (rest := []) hx hb hml hown hq hE hX pX0_al hP hD hS hA hl.1 (R_looksAt l G h0 a (upd (upd (upd (upd (upd (upd (upd (upd (upd (upd (upd (upd (upd (upd (upd (upd (upd (upd (upd (upd (upd (upd F 49 (nI md)) 85 (nI im)) 97 (nI ct)) 98 (nI fl)) 99 (nI rmm)) 101 tds) 102 (nI op)) 111 (nI tp)) 115 (nI wn)) 116 (-1)) 117 (nI fu727)) 118 rs0) 119 uc0) 120 (nI rd)) 121 ma0) 122 mc0) 123 ca) 124 mo) 125 nw) 126 isn) 128 (nI on)) 130 (nI idn)) B n9 fu727 (-1) nw isn (by omega) (by omega)) (gV pw_2029 pw_2030 pw_2031 pw_1523 pw_2025) hV_X12_looksAt 0 9 rfl rfl rfl rfl (Nat.le_of_ble_eq_true rfl) dX12_beginsNow_600 ⟨Nat.le_of_ble_eq_true rfl, Nat.le_of_ble_eq_true rfl⟩ ⟨Nat.le_of_ble_eq_true rfl, Nat.le_of_ble_eq_true rfl⟩ (fun v738 u736 H locs hw737 hP hD hS => ?_)
        obtain ⟨r739, fu740, en741, nw742, is743⟩ := u736
        obtain ⟨hw737, h744, h745, h746, h747⟩ := hw737
        replace h744 : r739 ≤ 1 := h744
        replace h745 : fu740 + r739 = fu727 := h745
        replace h746 : If (r739 = 0) (en741 = 2) := h746
        replace h747 : If (r739 = 1) (en741 = (-1) ∧ is743 = 1 ∧ nw742 = lkF B n9) := h747
        obtain rfl : v738 = none := hw737
        have hP : va_P G.1 pCl (mW G h0 a (upd (upd (upd (upd (upd (upd (upd (upd (upd (upd (upd (upd (upd (upd (upd (upd (upd (upd (upd (upd (upd (upd F 49 (nI md)) 85 (nI im)) 97 (nI ct)) 98 (nI fl)) 99 (nI rmm)) 101 tds) 102 (nI op)) 111 (nI tp)) 115 (nI wn)) 116 en741) 117 (nI fu740)) 118 rs0) 119 uc0) 120 (nI rd)) 121 ma0) 122 mc0) 123 ca) 124 mo) 125 nw742) 126 is743) 128 (nI on)) 130 (nI idn)) B) _ := hP
        have hD : va_D A (mW G h0 a (upd (upd (upd (upd (upd (upd (upd (upd (upd (upd (upd (upd (upd (upd (upd (upd (upd (upd (upd (upd (upd (upd F 49 (nI md)) 85 (nI im)) 97 (nI ct)) 98 (nI fl)) 99 (nI rmm)) 101 tds) 102 (nI op)) 111 (nI tp)) 115 (nI wn)) 116 en741) 117 (nI fu740)) 118 rs0) 119 uc0) 120 (nI rd)) 121 ma0) 122 mc0) 123 ca) 124 mo) 125 nw742) 126 is743) 128 (nI on)) 130 (nI idn)) B) := hD
        refine W.widen (k := 0) (n := 0) (Nat.le_of_ble_eq_true rfl) (Nat.le_of_ble_eq_true rfl) ?_
        refine W.eq (g2 := F0 m 603 ls []) rfl ?_
        refine lv_goto (tgt := 712) hx hb dX12_beginsNow_603 (by decide) ?_
        have hz748 : Nx Xs B gh nd T nm wr lz dc fd md pr bk M rmm fu (Phi gh ps op (rkN gh n9 false)) op tp wn fu740 rd on idn fl ct en741 nw742 is743 uc0 := (Nx.le (fu1 := fu727) (by rcases Nat.eq_zero_or_pos r739 with z | z; exact hR.stop Sta.rfl hR.hp (by rw [h746 z]; decide) (by rw [h746 z]; decide); obtain ⟨z1, z2, z3⟩ := h747 (by omega); rw [z1, z2, z3, ha1]; exact ha3 _ (by omega)) (by omega))
        have hP : va_P G.1 pCl (mW G h0 a (upd (upd (upd (upd (upd (upd (upd (upd (upd (upd (upd (upd (upd (upd (upd (upd (upd (upd (upd (upd (upd (upd F 49 (nI md)) 85 (nI im)) 97 (nI ct)) 98 (nI fl)) 99 (nI rmm)) 101 tds) 102 (nI op)) 111 (nI tp)) 115 (nI wn)) 116 en741) 117 (nI fu740)) 118 rs0) 119 uc0) 120 (nI rd)) 121 ma0) 122 mc0) 123 ca) 124 mo) 125 nw742) 126 is743) 128 (nI on)) 130 (nI idn)) B) _ := hP
        have hD : va_D A (mW G h0 a (upd (upd (upd (upd (upd (upd (upd (upd (upd (upd (upd (upd (upd (upd (upd (upd (upd (upd (upd (upd (upd (upd F 49 (nI md)) 85 (nI im)) 97 (nI ct)) 98 (nI fl)) 99 (nI rmm)) 101 tds) 102 (nI op)) 111 (nI tp)) 115 (nI wn)) 116 en741) 117 (nI fu740)) 118 rs0) 119 uc0) 120 (nI rd)) 121 ma0) 122 mc0) 123 ca) 124 mo) 125 nw742) 126 is743) 128 (nI on)) 130 (nI idn)) B) := hD
        exact W.vret hx hb hr (fun t9 ht9 hW9 => ⟨⟨_, (op, tp, wn, fu740, en741, nw742, is743, rs0, uc0, on, idn, fl, ct, tds, ma0, mc0, ca, mo, rd, B), rfl, ⟨rfl, hz748⟩, by rw [ht9]; exact hP, hD⟩, hS.F ht9⟩) hS.2.2 dX12_beginsNow_712
  · clear hn44 hkr hko
    refine lv_aload_n hx hb dX12_beginsNow_0 rfl (lv_at hl 0 rfl) ?_
    refine r_get (v := .ref (a 9)) hx hb hown hq hE hP 17 38 tFX12_17 (by decide) pw_1439 rfl dX12_beginsNow_1 ?_
    refine lv_iload_n hx hb dX12_beginsNow_4 rfl (lv_at hl 1 rfl) ?_
    refine r_ldi (f := (B 9)) (j := n9) hx hb hE hP 9 (ma_9 G a _) rfl (by omega) (by decide) dX12_beginsNow_5 ?_
    refine lv_topi (fun x749 e750 => ?_)
    obtain rfl : x749 = 36 := e750.trans ((congrFun hw9 _).trans hkd)
    refine lv_istore_n (lv' := [(2, .int 36), (0, .ref h0), (1, .int (nI n9))]) hx hb dX12_beginsNow_6 rfl hl (by decide) rfl (fun ls hl => ?_)
    refine lv_iload_n hx hb dX12_beginsNow_7 rfl (lv_at hl 0 rfl) ?_
    refine lv_bipush (v := 30) hx hb dX12_beginsNow_8 (by decide) ?_
    refine lv_icmp_lt (tgt := 41) hx hb dX12_beginsNow_10 (by decide) (fun c751 => absurd c751 (by decide)) (fun c751 => ?_)
    refine lv_iload_n hx hb dX12_beginsNow_13 rfl (lv_at hl 0 rfl) ?_
    refine lv_bipush (v := 31) hx hb dX12_beginsNow_14 (by decide) ?_
    refine lv_icmp_eq (tgt := 41) hx hb dX12_beginsNow_16 (by decide) (fun c752 => absurd c752 (by decide)) (fun c752 => ?_)
    refine lv_iload_n hx hb dX12_beginsNow_19 rfl (lv_at hl 0 rfl) ?_
    refine lv_bipush (v := 43) hx hb dX12_beginsNow_20 (by decide) ?_
    refine lv_icmp_eq (tgt := 41) hx hb dX12_beginsNow_22 (by decide) (fun c753 => absurd c753 (by decide)) (fun c753 => ?_)
    refine lv_aload_n hx hb dX12_beginsNow_25 rfl (lv_at hl 1 rfl) ?_
    refine lv_iload_n hx hb dX12_beginsNow_26 rfl (lv_at hl 2 rfl) ?_
    have hP : va_P G.1 pCl (mW G h0 a (upd (upd (upd (upd (upd (upd (upd (upd (upd (upd (upd (upd (upd (upd (upd (upd (upd (upd (upd (upd (upd (upd F 49 (nI md)) 85 (nI im)) 97 (nI ct)) 98 (nI fl)) 99 (nI rmm)) 101 tds) 102 (nI op)) 111 (nI tp)) 115 (nI wn)) 116 (-1)) 117 (nI fu)) 118 rs0) 119 uc0) 120 (nI rd)) 121 ma0) 122 mc0) 123 ca) 124 mo) 125 nw) 126 isn) 128 (nI on)) 130 (nI idn)) B) _ := hP
    have hD : va_D A (mW G h0 a (upd (upd (upd (upd (upd (upd (upd (upd (upd (upd (upd (upd (upd (upd (upd (upd (upd (upd (upd (upd (upd (upd F 49 (nI md)) 85 (nI im)) 97 (nI ct)) 98 (nI fl)) 99 (nI rmm)) 101 tds) 102 (nI op)) 111 (nI tp)) 115 (nI wn)) 116 (-1)) 117 (nI fu)) 118 rs0) 119 uc0) 120 (nI rd)) 121 ma0) 122 mc0) 123 ca) 124 mo) 125 nw) 126 isn) 128 (nI on)) 130 (nI idn)) B) := hD
    refine pc_V0 (G := G) (As := [.int (nI n9)]) (rest := []) hx hb hml hown hq hE hX pX0_al hP hD hS hA hl.1 (R_isFirst l G h0 a (upd (upd (upd (upd (upd (upd (upd (upd (upd (upd (upd (upd (upd (upd (upd (upd (upd (upd (upd (upd (upd (upd F 49 (nI md)) 85 (nI im)) 97 (nI ct)) 98 (nI fl)) 99 (nI rmm)) 101 tds) 102 (nI op)) 111 (nI tp)) 115 (nI wn)) 116 (-1)) 117 (nI fu)) 118 rs0) 119 uc0) 120 (nI rd)) 121 ma0) 122 mc0) 123 ca) 124 mo) 125 nw) 126 isn) 128 (nI on)) 130 (nI idn)) B n9 nd (by omega) (by omega) (hR.upP hR.rt.2.2)) (gV pw_2066 pw_2067 pw_2068 pw_1523 pw_2020) hV_X12_isFirst 0 9 rfl rfl rfl rfl (Nat.le_of_ble_eq_true rfl) dX12_beginsNow_27 ⟨Nat.le_of_ble_eq_true rfl, Nat.le_of_ble_eq_true rfl⟩ ⟨Nat.le_of_ble_eq_true rfl, Nat.le_of_ble_eq_true rfl⟩ (fun v756 u754 H locs hw755 hP hD hS => ?_)
    obtain ⟨r757, rfl⟩ : ∃ z, z = u754 := ⟨_, rfl⟩
    obtain ⟨hw755, h758⟩ := hw755
    replace h758 : r757 ≤ 1 := h758
    obtain rfl : v756 = some (.int (nI r757)) := hw755
    have hP : va_P G.1 pCl (mW G h0 a (upd (upd (upd (upd (upd (upd (upd (upd (upd (upd (upd (upd (upd (upd (upd (upd (upd (upd (upd (upd (upd (upd F 49 (nI md)) 85 (nI im)) 97 (nI ct)) 98 (nI fl)) 99 (nI rmm)) 101 tds) 102 (nI op)) 111 (nI tp)) 115 (nI wn)) 116 (-1)) 117 (nI fu)) 118 rs0) 119 uc0) 120 (nI rd)) 121 ma0) 122 mc0) 123 ca) 124 mo) 125 nw) 126 isn) 128 (nI on)) 130 (nI idn)) B) _ := hP
    have hD : va_D A (mW G h0 a (upd (upd (upd (upd (upd (upd (upd (upd (upd (upd (upd (upd (upd (upd (upd (upd (upd (upd (upd (upd (upd (upd F 49 (nI md)) 85 (nI im)) 97 (nI ct)) 98 (nI fl)) 99 (nI rmm)) 101 tds) 102 (nI op)) 111 (nI tp)) 115 (nI wn)) 116 (-1)) 117 (nI fu)) 118 rs0) 119 uc0) 120 (nI rd)) 121 ma0) 122 mc0) 123 ca) 124 mo) 125 nw) 126 isn) 128 (nI on)) 130 (nI idn)) B) := hD
    refine W.widen (k := 0) (n := 0) (Nat.le_of_ble_eq_true rfl) (Nat.le_of_ble_eq_true rfl) ?_
    refine W.eq (g2 := F0 m 30 ls [.int (nI r757)]) rfl ?_
    refine lv_if_ne (tgt := 41) hx hb dX12_beginsNow_30 (by decide) (fun c759 => ?_) (fun c759 => ?_)
    · have n760 : ¬ (r757 = 0) := fun h9 => c759 ((nI_eq (a := r757) (b := 0) (by omega) (by omega)).mpr h9)
      refine lv_iload_n hx hb dX12_beginsNow_41 rfl (lv_at hl 0 rfl) ?_
      refine lv_tableIn (tgt := 606) (off := 564) hx hb dX12_beginsNow_42 (by decide) (by decide) (by decide) (by decide) ?_
      by_cases hb9 : Xs 12 n9 = -1
      · refine lv_aload_n hx hb dX12_beginsNow_606 rfl (lv_at hl 1 rfl) ?_
        refine r_get (v := .ref (a 12)) hx hb hown hq hE hP 20 47 tFX12_20 (by decide) pw_1442 rfl dX12_beginsNow_607 ?_
        refine lv_iload_n hx hb dX12_beginsNow_610 rfl (lv_at hl 2 rfl) ?_
        refine r_ldi (f := (B 12)) (j := n9) hx hb hE hP 12 (ma_12 G a _) rfl (by omega) (by decide) dX12_beginsNow_611 ?_
        refine lv_topi (fun x761 e762 => ?_)
        obtain rfl : x761 = (-1) := e762.trans ((congrFun hw12 _).trans hb9)
        refine lv_iconst (v := (-1)) hx hb dX12_beginsNow_612 (by decide) ?_
        refine lv_icmp_ne (tgt := 624) hx hb dX12_beginsNow_613 (by decide) (fun c763 => absurd c763 (by decide)) (fun c763 => ?_)
        refine lv_aload_n hx hb dX12_beginsNow_616 rfl (lv_at hl 1 rfl) ?_
        refine lv_iload_n hx hb dX12_beginsNow_617 rfl (lv_at hl 2 rfl) ?_
        obtain ⟨j1, ha1, ha2, ha3⟩ := hR.bLoop (uc := uc0) (mu := (Phi gh ps op (rkN gh n9 false))) hkd (Or.inr ⟨rfl, hb9⟩)
        have hP : va_P G.1 pCl (mW G h0 a (upd (upd (upd (upd (upd (upd (upd (upd (upd (upd (upd (upd (upd (upd (upd (upd (upd (upd (upd (upd (upd (upd (upd (upd (upd (upd F 49 (nI md)) 85 (nI im)) 97 (nI ct)) 98 (nI fl)) 99 (nI rmm)) 101 tds) 102 (nI op)) 111 (nI tp)) 115 (nI wn)) 116 (-1)) 117 (nI fu)) 118 rs0) 119 uc0) 120 (nI rd)) 121 ma0) 122 mc0) 123 ca) 124 mo) 125 nw) 126 isn) 128 (nI on)) 130 (nI idn)) 116 (-1)) 117 (nI fu)) 125 nw) 126 isn) B) _ := hP
        have hD : va_D A (mW G h0 a (upd (upd (upd (upd (upd (upd (upd (upd (upd (upd (upd (upd (upd (upd (upd (upd (upd (upd (upd (upd (upd (upd (upd (upd (upd (upd F 49 (nI md)) 85 (nI im)) 97 (nI ct)) 98 (nI fl)) 99 (nI rmm)) 101 tds) 102 (nI op)) 111 (nI tp)) 115 (nI wn)) 116 (-1)) 117 (nI fu)) 118 rs0) 119 uc0) 120 (nI rd)) 121 ma0) 122 mc0) 123 ca) 124 mo) 125 nw) 126 isn) 128 (nI on)) 130 (nI idn)) 116 (-1)) 117 (nI fu)) 125 nw) 126 isn) B) := hD
        refine pc_V0 (G := G) (As := [.int (nI n9)]) (rest := []) hx hb hml hown hq hE hX pX0_al hP hD hS hA hl.1 (R_looksAt l G h0 a (upd (upd (upd (upd (upd (upd (upd (upd (upd (upd (upd (upd (upd (upd (upd (upd (upd (upd (upd (upd (upd (upd F 49 (nI md)) 85 (nI im)) 97 (nI ct)) 98 (nI fl)) 99 (nI rmm)) 101 tds) 102 (nI op)) 111 (nI tp)) 115 (nI wn)) 116 (-1)) 117 (nI fu)) 118 rs0) 119 uc0) 120 (nI rd)) 121 ma0) 122 mc0) 123 ca) 124 mo) 125 nw) 126 isn) 128 (nI on)) 130 (nI idn)) B n9 fu (-1) nw isn (by omega) (by omega)) (gV pw_2029 pw_2030 pw_2031 pw_1523 pw_2025) hV_X12_looksAt 0 9 rfl rfl rfl rfl (Nat.le_of_ble_eq_true rfl) dX12_beginsNow_618 ⟨Nat.le_of_ble_eq_true rfl, Nat.le_of_ble_eq_true rfl⟩ ⟨Nat.le_of_ble_eq_true rfl, Nat.le_of_ble_eq_true rfl⟩ (fun v766 u764 H locs hw765 hP hD hS => ?_)
        obtain ⟨r767, fu768, en769, nw770, is771⟩ := u764
        obtain ⟨hw765, h772, h773, h774, h775⟩ := hw765
        replace h772 : r767 ≤ 1 := h772
        replace h773 : fu768 + r767 = fu := h773
        replace h774 : If (r767 = 0) (en769 = 2) := h774
        replace h775 : If (r767 = 1) (en769 = (-1) ∧ is771 = 1 ∧ nw770 = lkF B n9) := h775
        obtain rfl : v766 = none := hw765
        have hP : va_P G.1 pCl (mW G h0 a (upd (upd (upd (upd (upd (upd (upd (upd (upd (upd (upd (upd (upd (upd (upd (upd (upd (upd (upd (upd (upd (upd F 49 (nI md)) 85 (nI im)) 97 (nI ct)) 98 (nI fl)) 99 (nI rmm)) 101 tds) 102 (nI op)) 111 (nI tp)) 115 (nI wn)) 116 en769) 117 (nI fu768)) 118 rs0) 119 uc0) 120 (nI rd)) 121 ma0) 122 mc0) 123 ca) 124 mo) 125 nw770) 126 is771) 128 (nI on)) 130 (nI idn)) B) _ := hP
        have hD : va_D A (mW G h0 a (upd (upd (upd (upd (upd (upd (upd (upd (upd (upd (upd (upd (upd (upd (upd (upd (upd (upd (upd (upd (upd (upd F 49 (nI md)) 85 (nI im)) 97 (nI ct)) 98 (nI fl)) 99 (nI rmm)) 101 tds) 102 (nI op)) 111 (nI tp)) 115 (nI wn)) 116 en769) 117 (nI fu768)) 118 rs0) 119 uc0) 120 (nI rd)) 121 ma0) 122 mc0) 123 ca) 124 mo) 125 nw770) 126 is771) 128 (nI on)) 130 (nI idn)) B) := hD
        refine W.widen (k := 0) (n := 0) (Nat.le_of_ble_eq_true rfl) (Nat.le_of_ble_eq_true rfl) ?_
        refine W.eq (g2 := F0 m 621 ls []) rfl ?_
        refine lv_goto (tgt := 712) hx hb dX12_beginsNow_621 (by decide) ?_
        have hz776 : Nx Xs B gh nd T nm wr lz dc fd md pr bk M rmm fu (Phi gh ps op (rkN gh n9 false)) op tp wn fu768 rd on idn fl ct en769 nw770 is771 uc0 := (by rcases Nat.eq_zero_or_pos r767 with z | z; exact hR.stop Sta.rfl hR.hp (by rw [h774 z]; decide) (by rw [h774 z]; decide); obtain ⟨z1, z2, z3⟩ := h775 (by omega); rw [z1, z2, z3, ha1]; exact ha3 _ (by omega))
        have hP : va_P G.1 pCl (mW G h0 a (upd (upd (upd (upd (upd (upd (upd (upd (upd (upd (upd (upd (upd (upd (upd (upd (upd (upd (upd (upd (upd (upd F 49 (nI md)) 85 (nI im)) 97 (nI ct)) 98 (nI fl)) 99 (nI rmm)) 101 tds) 102 (nI op)) 111 (nI tp)) 115 (nI wn)) 116 en769) 117 (nI fu768)) 118 rs0) 119 uc0) 120 (nI rd)) 121 ma0) 122 mc0) 123 ca) 124 mo) 125 nw770) 126 is771) 128 (nI on)) 130 (nI idn)) B) _ := hP
        have hD : va_D A (mW G h0 a (upd (upd (upd (upd (upd (upd (upd (upd (upd (upd (upd (upd (upd (upd (upd (upd (upd (upd (upd (upd (upd (upd F 49 (nI md)) 85 (nI im)) 97 (nI ct)) 98 (nI fl)) 99 (nI rmm)) 101 tds) 102 (nI op)) 111 (nI tp)) 115 (nI wn)) 116 en769) 117 (nI fu768)) 118 rs0) 119 uc0) 120 (nI rd)) 121 ma0) 122 mc0) 123 ca) 124 mo) 125 nw770) 126 is771) 128 (nI on)) 130 (nI idn)) B) := hD
        exact W.vret hx hb hr (fun t9 ht9 hW9 => ⟨⟨_, (op, tp, wn, fu768, en769, nw770, is771, rs0, uc0, on, idn, fl, ct, tds, ma0, mc0, ca, mo, rd, B), rfl, ⟨rfl, hz776⟩, by rw [ht9]; exact hP, hD⟩, hS.F ht9⟩) hS.2.2 dX12_beginsNow_712
      · obtain ⟨j1, ha1, ha2, ha3⟩ := hR.bA (uc := uc0) hkd (by omega) (s := 1) (by omega) (by omega) (by decide) (by decide) (by decide) rfl rfl (by omega) hb9
        refine lv_aload_n hx hb dX12_beginsNow_606 rfl (lv_at hl 1 rfl) ?_
        refine r_get (v := .ref (a 12)) hx hb hown hq hE hP 20 47 tFX12_20 (by decide) pw_1442 rfl dX12_beginsNow_607 ?_
        refine lv_iload_n hx hb dX12_beginsNow_610 rfl (lv_at hl 2 rfl) ?_
        refine r_ldi (f := (B 12)) (j := n9) hx hb hE hP 12 (ma_12 G a _) rfl (by omega) (by decide) dX12_beginsNow_611 ?_
        refine lv_topi (fun x777 e778 => ?_)
        obtain rfl : x777 = nI j1 := e778.trans ((congrFun hw12 _).trans ha1)
        refine lv_iconst (v := (-1)) hx hb dX12_beginsNow_612 (by decide) ?_
        refine lv_icmp_ne (tgt := 624) hx hb dX12_beginsNow_613 (by decide) (fun c779 => ?_) (fun c779 => absurd c779 (nI_m1 (by omega)))
        refine lv_aload_n hx hb dX12_beginsNow_624 rfl (lv_at hl 1 rfl) ?_
        refine lv_aload_n hx hb dX12_beginsNow_625 rfl (lv_at hl 1 rfl) ?_
        refine r_get (v := .ref (a 12)) hx hb hown hq hE hP 20 47 tFX12_20 (by decide) pw_1442 rfl dX12_beginsNow_626 ?_
        refine lv_iload_n hx hb dX12_beginsNow_629 rfl (lv_at hl 2 rfl) ?_
        refine r_ldi (f := (B 12)) (j := n9) hx hb hE hP 12 (ma_12 G a _) rfl (by omega) (by decide) dX12_beginsNow_630 ?_
        refine lv_topi (fun x780 e781 => ?_)
        obtain rfl : x780 = nI j1 := e781.trans ((congrFun hw12 _).trans ha1)
        have hP : va_P G.1 pCl (mW G h0 a (upd (upd (upd (upd (upd (upd (upd (upd (upd (upd (upd (upd (upd (upd (upd (upd (upd (upd (upd (upd (upd (upd F 49 (nI md)) 85 (nI im)) 97 (nI ct)) 98 (nI fl)) 99 (nI rmm)) 101 tds) 102 (nI op)) 111 (nI tp)) 115 (nI wn)) 116 (-1)) 117 (nI fu)) 118 rs0) 119 uc0) 120 (nI rd)) 121 ma0) 122 mc0) 123 ca) 124 mo) 125 nw) 126 isn) 128 (nI on)) 130 (nI idn)) B) _ := hP
        have hD : va_D A (mW G h0 a (upd (upd (upd (upd (upd (upd (upd (upd (upd (upd (upd (upd (upd (upd (upd (upd (upd (upd (upd (upd (upd (upd F 49 (nI md)) 85 (nI im)) 97 (nI ct)) 98 (nI fl)) 99 (nI rmm)) 101 tds) 102 (nI op)) 111 (nI tp)) 115 (nI wn)) 116 (-1)) 117 (nI fu)) 118 rs0) 119 uc0) 120 (nI rd)) 121 ma0) 122 mc0) 123 ca) 124 mo) 125 nw) 126 isn) 128 (nI on)) 130 (nI idn)) B) := hD
        refine pc_V0 (G := G) (As := [.int (nI j1)]) (rest := []) hx hb hml hown hq hE hX pX0_al hP hD hS hA hl.1 (R_begin l G h0 a (upd (upd (upd (upd (upd (upd (upd (upd (upd (upd (upd (upd (upd (upd (upd (upd (upd (upd (upd (upd (upd (upd F 49 (nI md)) 85 (nI im)) 97 (nI ct)) 98 (nI fl)) 99 (nI rmm)) 101 tds) 102 (nI op)) 111 (nI tp)) 115 (nI wn)) 116 (-1)) 117 (nI fu)) 118 rs0) 119 uc0) 120 (nI rd)) 121 ma0) 122 mc0) 123 ca) 124 mo) 125 nw) 126 isn) 128 (nI on)) 130 (nI idn)) B (nI j1)) (gV pw_2016 pw_2017 pw_2018 pw_1523 pw_2002) hV_X12_begin 0 9 rfl rfl rfl rfl (Nat.le_of_ble_eq_true rfl) dX12_beginsNow_631 ⟨Nat.le_of_ble_eq_true rfl, Nat.le_of_ble_eq_true rfl⟩ ⟨Nat.le_of_ble_eq_true rfl, Nat.le_of_ble_eq_true rfl⟩ (fun v784 u782 H locs hw783 hP hD hS => ?_)
        obtain rfl : v784 = none := hw783
        have hP : va_P G.1 pCl (mW G h0 a (upd (upd (upd (upd (upd (upd (upd (upd (upd (upd (upd (upd (upd (upd (upd (upd (upd (upd (upd (upd (upd (upd F 49 (nI md)) 85 (nI im)) 97 (nI ct)) 98 (nI fl)) 99 (nI rmm)) 101 tds) 102 (nI op)) 111 (nI tp)) 115 (nI wn)) 116 (-1)) 117 (nI fu)) 118 rs0) 119 uc0) 120 (nI rd)) 121 ma0) 122 mc0) 123 ca) 124 mo) 125 (nI j1)) 126 1) 128 (nI on)) 130 (nI idn)) B) _ := hP
        have hD : va_D A (mW G h0 a (upd (upd (upd (upd (upd (upd (upd (upd (upd (upd (upd (upd (upd (upd (upd (upd (upd (upd (upd (upd (upd (upd F 49 (nI md)) 85 (nI im)) 97 (nI ct)) 98 (nI fl)) 99 (nI rmm)) 101 tds) 102 (nI op)) 111 (nI tp)) 115 (nI wn)) 116 (-1)) 117 (nI fu)) 118 rs0) 119 uc0) 120 (nI rd)) 121 ma0) 122 mc0) 123 ca) 124 mo) 125 (nI j1)) 126 1) 128 (nI on)) 130 (nI idn)) B) := hD
        refine W.widen (k := 0) (n := 0) (Nat.le_of_ble_eq_true rfl) (Nat.le_of_ble_eq_true rfl) ?_
        refine W.eq (g2 := F0 m 634 ls []) rfl ?_
        refine lv_goto (tgt := 712) hx hb dX12_beginsNow_634 (by decide) ?_
        have hz785 : Nx Xs B gh nd T nm wr lz dc fd md pr bk M rmm fu (Phi gh ps op (rkN gh n9 false)) op tp wn fu rd on idn fl ct ((-1) : Int32) (nI j1) (1 : Int32) uc0 := ha3
        have hP : va_P G.1 pCl (mW G h0 a (upd (upd (upd (upd (upd (upd (upd (upd (upd (upd (upd (upd (upd (upd (upd (upd (upd (upd (upd (upd (upd (upd F 49 (nI md)) 85 (nI im)) 97 (nI ct)) 98 (nI fl)) 99 (nI rmm)) 101 tds) 102 (nI op)) 111 (nI tp)) 115 (nI wn)) 116 ((-1) : Int32)) 117 (nI fu)) 118 rs0) 119 uc0) 120 (nI rd)) 121 ma0) 122 mc0) 123 ca) 124 mo) 125 (nI j1)) 126 (1 : Int32)) 128 (nI on)) 130 (nI idn)) B) _ := hP
        have hD : va_D A (mW G h0 a (upd (upd (upd (upd (upd (upd (upd (upd (upd (upd (upd (upd (upd (upd (upd (upd (upd (upd (upd (upd (upd (upd F 49 (nI md)) 85 (nI im)) 97 (nI ct)) 98 (nI fl)) 99 (nI rmm)) 101 tds) 102 (nI op)) 111 (nI tp)) 115 (nI wn)) 116 ((-1) : Int32)) 117 (nI fu)) 118 rs0) 119 uc0) 120 (nI rd)) 121 ma0) 122 mc0) 123 ca) 124 mo) 125 (nI j1)) 126 (1 : Int32)) 128 (nI on)) 130 (nI idn)) B) := hD
        exact W.vret hx hb hr (fun t9 ht9 hW9 => ⟨⟨_, (op, tp, wn, fu, ((-1) : Int32), (nI j1), (1 : Int32), rs0, uc0, on, idn, fl, ct, tds, ma0, mc0, ca, mo, rd, B), rfl, ⟨rfl, hz785⟩, by rw [ht9]; exact hP, hD⟩, hS.F ht9⟩) hS.2.2 dX12_beginsNow_712
    · have n786 : r757 = 0 := (nI_eq (a := r757) (b := 0) (by omega) (by omega)).mp c759
      refine lv_aload_n hx hb dX12_beginsNow_33 rfl (lv_at hl 1 rfl) ?_
      have hP : va_P G.1 pCl (mW G h0 a (upd (upd (upd (upd (upd (upd (upd (upd (upd (upd (upd (upd (upd (upd (upd (upd (upd (upd (upd (upd (upd (upd (upd (upd F 49 (nI md)) 85 (nI im)) 97 (nI ct)) 98 (nI fl)) 99 (nI rmm)) 101 tds) 102 (nI op)) 111 (nI tp)) 115 (nI wn)) 116 (-1)) 117 (nI fu)) 118 rs0) 119 uc0) 120 (nI rd)) 121 ma0) 122 mc0) 123 ca) 124 mo) 125 nw) 126 isn) 128 (nI on)) 130 (nI idn)) 116 (-1)) 117 (nI fu)) B) _ := hP
      have hD : va_D A (mW G h0 a (upd (upd (upd (upd (upd (upd (upd (upd (upd (upd (upd (upd (upd (upd (upd (upd (upd (upd (upd (upd (upd (upd (upd (upd F 49 (nI md)) 85 (nI im)) 97 (nI ct)) 98 (nI fl)) 99 (nI rmm)) 101 tds) 102 (nI op)) 111 (nI tp)) 115 (nI wn)) 116 (-1)) 117 (nI fu)) 118 rs0) 119 uc0) 120 (nI rd)) 121 ma0) 122 mc0) 123 ca) 124 mo) 125 nw) 126 isn) 128 (nI on)) 130 (nI idn)) 116 (-1)) 117 (nI fu)) B) := hD
      refine pc_V0 (G := G) (As := []) (rest := []) hx hb hml hown hq hE hX pX0_al hP hD hS hA hl.1 (R_pays l G h0 a (upd (upd (upd (upd (upd (upd (upd (upd (upd (upd (upd (upd (upd (upd (upd (upd (upd (upd (upd (upd (upd (upd F 49 (nI md)) 85 (nI im)) 97 (nI ct)) 98 (nI fl)) 99 (nI rmm)) 101 tds) 102 (nI op)) 111 (nI tp)) 115 (nI wn)) 116 (-1)) 117 (nI fu)) 118 rs0) 119 uc0) 120 (nI rd)) 121 ma0) 122 mc0) 123 ca) 124 mo) 125 nw) 126 isn) 128 (nI on)) 130 (nI idn)) B fu (-1) (by omega)) (gV pw_2026 pw_2027 pw_2028 pw_1523 pw_2000) hV_X12_pays 0 9 rfl rfl rfl rfl (Nat.le_of_ble_eq_true rfl) dX12_beginsNow_34 ⟨Nat.le_of_ble_eq_true rfl, Nat.le_of_ble_eq_true rfl⟩ ⟨Nat.le_of_ble_eq_true rfl, Nat.le_of_ble_eq_true rfl⟩ (fun v789 u787 H locs hw788 hP hD hS => ?_)
      obtain ⟨r790, fu791, en792⟩ := u787
      obtain ⟨hw788, h793, h794, h795, h796⟩ := hw788
      replace h793 : r790 ≤ 1 := h793
      replace h794 : fu791 + r790 = fu := h794
      replace h795 : If (r790 = 1) (en792 = (-1)) := h795
      replace h796 : If (r790 = 0) (en792 = 2) := h796
      obtain rfl : v789 = some (.int (nI r790)) := hw788
      have hP : va_P G.1 pCl (mW G h0 a (upd (upd (upd (upd (upd (upd (upd (upd (upd (upd (upd (upd (upd (upd (upd (upd (upd (upd (upd (upd (upd (upd F 49 (nI md)) 85 (nI im)) 97 (nI ct)) 98 (nI fl)) 99 (nI rmm)) 101 tds) 102 (nI op)) 111 (nI tp)) 115 (nI wn)) 116 en792) 117 (nI fu791)) 118 rs0) 119 uc0) 120 (nI rd)) 121 ma0) 122 mc0) 123 ca) 124 mo) 125 nw) 126 isn) 128 (nI on)) 130 (nI idn)) B) _ := hP
      have hD : va_D A (mW G h0 a (upd (upd (upd (upd (upd (upd (upd (upd (upd (upd (upd (upd (upd (upd (upd (upd (upd (upd (upd (upd (upd (upd F 49 (nI md)) 85 (nI im)) 97 (nI ct)) 98 (nI fl)) 99 (nI rmm)) 101 tds) 102 (nI op)) 111 (nI tp)) 115 (nI wn)) 116 en792) 117 (nI fu791)) 118 rs0) 119 uc0) 120 (nI rd)) 121 ma0) 122 mc0) 123 ca) 124 mo) 125 nw) 126 isn) 128 (nI on)) 130 (nI idn)) B) := hD
      refine W.widen (k := 0) (n := 0) (Nat.le_of_ble_eq_true rfl) (Nat.le_of_ble_eq_true rfl) ?_
      refine W.eq (g2 := F0 m 37 ls [.int (nI r790)]) rfl ?_
      rcases (show r790 = 0 ∨ r790 = 1 by omega) with hr0 | hr0
      · have hen := h796 hr0
        subst hr0
        have hP : va_P G.1 pCl (mW G h0 a (upd (upd (upd (upd (upd (upd (upd (upd (upd (upd (upd (upd (upd (upd (upd (upd (upd (upd (upd (upd (upd (upd F 49 (nI md)) 85 (nI im)) 97 (nI ct)) 98 (nI fl)) 99 (nI rmm)) 101 tds) 102 (nI op)) 111 (nI tp)) 115 (nI wn)) 116 en792) 117 (nI fu791)) 118 rs0) 119 uc0) 120 (nI rd)) 121 ma0) 122 mc0) 123 ca) 124 mo) 125 nw) 126 isn) 128 (nI on)) 130 (nI idn)) B) _ := hP
        have hD : va_D A (mW G h0 a (upd (upd (upd (upd (upd (upd (upd (upd (upd (upd (upd (upd (upd (upd (upd (upd (upd (upd (upd (upd (upd (upd F 49 (nI md)) 85 (nI im)) 97 (nI ct)) 98 (nI fl)) 99 (nI rmm)) 101 tds) 102 (nI op)) 111 (nI tp)) 115 (nI wn)) 116 en792) 117 (nI fu791)) 118 rs0) 119 uc0) 120 (nI rd)) 121 ma0) 122 mc0) 123 ca) 124 mo) 125 nw) 126 isn) 128 (nI on)) 130 (nI idn)) B) := hD
        refine W.eq (g2 := F0 m 37 ls [.int 0]) rfl ?_
        refine lv_if_ne (tgt := 41) hx hb dX12_beginsNow_37 (by decide) (fun c797 => absurd c797 (by decide)) (fun c797 => ?_)
        have hz798 : Nx Xs B gh nd T nm wr lz dc fd md pr bk M rmm fu (Phi gh ps op (rkN gh n9 false)) op tp wn fu791 rd on idn fl ct en792 nw isn uc0 := (hR.stop Sta.rfl hR.hp (by rw [hen]; decide) (by rw [hen]; decide))
        have hP : va_P G.1 pCl (mW G h0 a (upd (upd (upd (upd (upd (upd (upd (upd (upd (upd (upd (upd (upd (upd (upd (upd (upd (upd (upd (upd (upd (upd F 49 (nI md)) 85 (nI im)) 97 (nI ct)) 98 (nI fl)) 99 (nI rmm)) 101 tds) 102 (nI op)) 111 (nI tp)) 115 (nI wn)) 116 en792) 117 (nI fu791)) 118 rs0) 119 uc0) 120 (nI rd)) 121 ma0) 122 mc0) 123 ca) 124 mo) 125 nw) 126 isn) 128 (nI on)) 130 (nI idn)) B) _ := hP
        have hD : va_D A (mW G h0 a (upd (upd (upd (upd (upd (upd (upd (upd (upd (upd (upd (upd (upd (upd (upd (upd (upd (upd (upd (upd (upd (upd F 49 (nI md)) 85 (nI im)) 97 (nI ct)) 98 (nI fl)) 99 (nI rmm)) 101 tds) 102 (nI op)) 111 (nI tp)) 115 (nI wn)) 116 en792) 117 (nI fu791)) 118 rs0) 119 uc0) 120 (nI rd)) 121 ma0) 122 mc0) 123 ca) 124 mo) 125 nw) 126 isn) 128 (nI on)) 130 (nI idn)) B) := hD
        exact W.vret hx hb hr (fun t9 ht9 hW9 => ⟨⟨_, (op, tp, wn, fu791, en792, nw, isn, rs0, uc0, on, idn, fl, ct, tds, ma0, mc0, ca, mo, rd, B), rfl, ⟨rfl, hz798⟩, by rw [ht9]; exact hP, hD⟩, hS.F ht9⟩) hS.2.2 dX12_beginsNow_40
      · obtain rfl : en792 = _ := h795 hr0
        subst hr0
        have hP : va_P G.1 pCl (mW G h0 a (upd (upd (upd (upd (upd (upd (upd (upd (upd (upd (upd (upd (upd (upd (upd (upd (upd (upd (upd (upd (upd (upd F 49 (nI md)) 85 (nI im)) 97 (nI ct)) 98 (nI fl)) 99 (nI rmm)) 101 tds) 102 (nI op)) 111 (nI tp)) 115 (nI wn)) 116 (-1)) 117 (nI fu791)) 118 rs0) 119 uc0) 120 (nI rd)) 121 ma0) 122 mc0) 123 ca) 124 mo) 125 nw) 126 isn) 128 (nI on)) 130 (nI idn)) B) _ := hP
        have hD : va_D A (mW G h0 a (upd (upd (upd (upd (upd (upd (upd (upd (upd (upd (upd (upd (upd (upd (upd (upd (upd (upd (upd (upd (upd (upd F 49 (nI md)) 85 (nI im)) 97 (nI ct)) 98 (nI fl)) 99 (nI rmm)) 101 tds) 102 (nI op)) 111 (nI tp)) 115 (nI wn)) 116 (-1)) 117 (nI fu791)) 118 rs0) 119 uc0) 120 (nI rd)) 121 ma0) 122 mc0) 123 ca) 124 mo) 125 nw) 126 isn) 128 (nI on)) 130 (nI idn)) B) := hD
        refine W.eq (g2 := F0 m 37 ls [.int 1]) rfl ?_
        have hR1 := hR.fuel (show fu791 ≤ fu by omega)
        refine lv_if_ne (tgt := 41) hx hb dX12_beginsNow_37 (by decide) (fun c799 => ?_) (fun c799 => absurd c799 (by decide))
        refine lv_iload_n hx hb dX12_beginsNow_41 rfl (lv_at hl 0 rfl) ?_
        refine lv_tableIn (tgt := 606) (off := 564) hx hb dX12_beginsNow_42 (by decide) (by decide) (by decide) (by decide) ?_
        by_cases hb9 : Xs 12 n9 = -1
        · refine lv_aload_n hx hb dX12_beginsNow_606 rfl (lv_at hl 1 rfl) ?_
          refine r_get (v := .ref (a 12)) hx hb hown hq hE hP 20 47 tFX12_20 (by decide) pw_1442 rfl dX12_beginsNow_607 ?_
          refine lv_iload_n hx hb dX12_beginsNow_610 rfl (lv_at hl 2 rfl) ?_
          refine r_ldi (f := (B 12)) (j := n9) hx hb hE hP 12 (ma_12 G a _) rfl (by omega) (by decide) dX12_beginsNow_611 ?_
          refine lv_topi (fun x800 e801 => ?_)
          obtain rfl : x800 = (-1) := e801.trans ((congrFun hw12 _).trans hb9)
          refine lv_iconst (v := (-1)) hx hb dX12_beginsNow_612 (by decide) ?_
          refine lv_icmp_ne (tgt := 624) hx hb dX12_beginsNow_613 (by decide) (fun c802 => absurd c802 (by decide)) (fun c802 => ?_)
          refine lv_aload_n hx hb dX12_beginsNow_616 rfl (lv_at hl 1 rfl) ?_
          refine lv_iload_n hx hb dX12_beginsNow_617 rfl (lv_at hl 2 rfl) ?_
          obtain ⟨j1, ha1, ha2, ha3⟩ := hR1.bLoop (uc := uc0) (mu := (Phi gh ps op (rkN gh n9 false))) hkd (Or.inr ⟨rfl, hb9⟩)
          have hP : va_P G.1 pCl (mW G h0 a (upd (upd (upd (upd (upd (upd (upd (upd (upd (upd (upd (upd (upd (upd (upd (upd (upd (upd (upd (upd (upd (upd (upd (upd (upd (upd F 49 (nI md)) 85 (nI im)) 97 (nI ct)) 98 (nI fl)) 99 (nI rmm)) 101 tds) 102 (nI op)) 111 (nI tp)) 115 (nI wn)) 116 (-1)) 117 (nI fu791)) 118 rs0) 119 uc0) 120 (nI rd)) 121 ma0) 122 mc0) 123 ca) 124 mo) 125 nw) 126 isn) 128 (nI on)) 130 (nI idn)) 116 (-1)) 117 (nI fu791)) 125 nw) 126 isn) B) _ := hP
          have hD : va_D A (mW G h0 a (upd (upd (upd (upd (upd (upd (upd (upd (upd (upd (upd (upd (upd (upd (upd (upd (upd (upd (upd (upd (upd (upd (upd (upd (upd (upd F 49 (nI md)) 85 (nI im)) 97 (nI ct)) 98 (nI fl)) 99 (nI rmm)) 101 tds) 102 (nI op)) 111 (nI tp)) 115 (nI wn)) 116 (-1)) 117 (nI fu791)) 118 rs0) 119 uc0) 120 (nI rd)) 121 ma0) 122 mc0) 123 ca) 124 mo) 125 nw) 126 isn) 128 (nI on)) 130 (nI idn)) 116 (-1)) 117 (nI fu791)) 125 nw) 126 isn) B) := hD
          refine pc_V0 (G := G) (As := [.int (nI n9)]) (rest := []) hx hb hml hown hq hE hX pX0_al hP hD hS hA hl.1 (R_looksAt l G h0 a (upd (upd (upd (upd (upd (upd (upd (upd (upd (upd (upd (upd (upd (upd (upd (upd (upd (upd (upd (upd (upd (upd F 49 (nI md)) 85 (nI im)) 97 (nI ct)) 98 (nI fl)) 99 (nI rmm)) 101 tds) 102 (nI op)) 111 (nI tp)) 115 (nI wn)) 116 (-1)) 117 (nI fu791)) 118 rs0) 119 uc0) 120 (nI rd)) 121 ma0) 122 mc0) 123 ca) 124 mo) 125 nw) 126 isn) 128 (nI on)) 130 (nI idn)) B n9 fu791 (-1) nw isn (by omega) (by omega)) (gV pw_2029 pw_2030 pw_2031 pw_1523 pw_2025) hV_X12_looksAt 0 9 rfl rfl rfl rfl (Nat.le_of_ble_eq_true rfl) dX12_beginsNow_618 ⟨Nat.le_of_ble_eq_true rfl, Nat.le_of_ble_eq_true rfl⟩ ⟨Nat.le_of_ble_eq_true rfl, Nat.le_of_ble_eq_true rfl⟩ (fun v805 u803 H locs hw804 hP hD hS => ?_)
          obtain ⟨r806, fu807, en808, nw809, is810⟩ := u803
          obtain ⟨hw804, h811, h812, h813, h814⟩ := hw804
          replace h811 : r806 ≤ 1 := h811
          replace h812 : fu807 + r806 = fu791 := h812
          replace h813 : If (r806 = 0) (en808 = 2) := h813
          replace h814 : If (r806 = 1) (en808 = (-1) ∧ is810 = 1 ∧ nw809 = lkF B n9) := h814
          obtain rfl : v805 = none := hw804
          have hP : va_P G.1 pCl (mW G h0 a (upd (upd (upd (upd (upd (upd (upd (upd (upd (upd (upd (upd (upd (upd (upd (upd (upd (upd (upd (upd (upd (upd F 49 (nI md)) 85 (nI im)) 97 (nI ct)) 98 (nI fl)) 99 (nI rmm)) 101 tds) 102 (nI op)) 111 (nI tp)) 115 (nI wn)) 116 en808) 117 (nI fu807)) 118 rs0) 119 uc0) 120 (nI rd)) 121 ma0) 122 mc0) 123 ca) 124 mo) 125 nw809) 126 is810) 128 (nI on)) 130 (nI idn)) B) _ := hP
          have hD : va_D A (mW G h0 a (upd (upd (upd (upd (upd (upd (upd (upd (upd (upd (upd (upd (upd (upd (upd (upd (upd (upd (upd (upd (upd (upd F 49 (nI md)) 85 (nI im)) 97 (nI ct)) 98 (nI fl)) 99 (nI rmm)) 101 tds) 102 (nI op)) 111 (nI tp)) 115 (nI wn)) 116 en808) 117 (nI fu807)) 118 rs0) 119 uc0) 120 (nI rd)) 121 ma0) 122 mc0) 123 ca) 124 mo) 125 nw809) 126 is810) 128 (nI on)) 130 (nI idn)) B) := hD
          refine W.widen (k := 0) (n := 0) (Nat.le_of_ble_eq_true rfl) (Nat.le_of_ble_eq_true rfl) ?_
          refine W.eq (g2 := F0 m 621 ls []) rfl ?_
          refine lv_goto (tgt := 712) hx hb dX12_beginsNow_621 (by decide) ?_
          have hz815 : Nx Xs B gh nd T nm wr lz dc fd md pr bk M rmm fu (Phi gh ps op (rkN gh n9 false)) op tp wn fu807 rd on idn fl ct en808 nw809 is810 uc0 := (Nx.le (fu1 := fu791) (by rcases Nat.eq_zero_or_pos r806 with z | z; exact hR.stop Sta.rfl hR.hp (by rw [h813 z]; decide) (by rw [h813 z]; decide); obtain ⟨z1, z2, z3⟩ := h814 (by omega); rw [z1, z2, z3, ha1]; exact ha3 _ (by omega)) (by omega))
          have hP : va_P G.1 pCl (mW G h0 a (upd (upd (upd (upd (upd (upd (upd (upd (upd (upd (upd (upd (upd (upd (upd (upd (upd (upd (upd (upd (upd (upd F 49 (nI md)) 85 (nI im)) 97 (nI ct)) 98 (nI fl)) 99 (nI rmm)) 101 tds) 102 (nI op)) 111 (nI tp)) 115 (nI wn)) 116 en808) 117 (nI fu807)) 118 rs0) 119 uc0) 120 (nI rd)) 121 ma0) 122 mc0) 123 ca) 124 mo) 125 nw809) 126 is810) 128 (nI on)) 130 (nI idn)) B) _ := hP
          have hD : va_D A (mW G h0 a (upd (upd (upd (upd (upd (upd (upd (upd (upd (upd (upd (upd (upd (upd (upd (upd (upd (upd (upd (upd (upd (upd F 49 (nI md)) 85 (nI im)) 97 (nI ct)) 98 (nI fl)) 99 (nI rmm)) 101 tds) 102 (nI op)) 111 (nI tp)) 115 (nI wn)) 116 en808) 117 (nI fu807)) 118 rs0) 119 uc0) 120 (nI rd)) 121 ma0) 122 mc0) 123 ca) 124 mo) 125 nw809) 126 is810) 128 (nI on)) 130 (nI idn)) B) := hD
          exact W.vret hx hb hr (fun t9 ht9 hW9 => ⟨⟨_, (op, tp, wn, fu807, en808, nw809, is810, rs0, uc0, on, idn, fl, ct, tds, ma0, mc0, ca, mo, rd, B), rfl, ⟨rfl, hz815⟩, by rw [ht9]; exact hP, hD⟩, hS.F ht9⟩) hS.2.2 dX12_beginsNow_712
        · obtain ⟨j1, ha1, ha2, ha3⟩ := hR1.bA (uc := uc0) hkd (by omega) (s := 1) (by omega) (by omega) (by decide) (by decide) (by decide) rfl rfl (by omega) hb9
          refine lv_aload_n hx hb dX12_beginsNow_606 rfl (lv_at hl 1 rfl) ?_
          refine r_get (v := .ref (a 12)) hx hb hown hq hE hP 20 47 tFX12_20 (by decide) pw_1442 rfl dX12_beginsNow_607 ?_
          refine lv_iload_n hx hb dX12_beginsNow_610 rfl (lv_at hl 2 rfl) ?_
          refine r_ldi (f := (B 12)) (j := n9) hx hb hE hP 12 (ma_12 G a _) rfl (by omega) (by decide) dX12_beginsNow_611 ?_
          refine lv_topi (fun x816 e817 => ?_)
          obtain rfl : x816 = nI j1 := e817.trans ((congrFun hw12 _).trans ha1)
          refine lv_iconst (v := (-1)) hx hb dX12_beginsNow_612 (by decide) ?_
          refine lv_icmp_ne (tgt := 624) hx hb dX12_beginsNow_613 (by decide) (fun c818 => ?_) (fun c818 => absurd c818 (nI_m1 (by omega)))
          refine lv_aload_n hx hb dX12_beginsNow_624 rfl (lv_at hl 1 rfl) ?_
          refine lv_aload_n hx hb dX12_beginsNow_625 rfl (lv_at hl 1 rfl) ?_
          refine r_get (v := .ref (a 12)) hx hb hown hq hE hP 20 47 tFX12_20 (by decide) pw_1442 rfl dX12_beginsNow_626 ?_
          refine lv_iload_n hx hb dX12_beginsNow_629 rfl (lv_at hl 2 rfl) ?_
          refine r_ldi (f := (B 12)) (j := n9) hx hb hE hP 12 (ma_12 G a _) rfl (by omega) (by decide) dX12_beginsNow_630 ?_
          refine lv_topi (fun x819 e820 => ?_)
          obtain rfl : x819 = nI j1 := e820.trans ((congrFun hw12 _).trans ha1)
          have hP : va_P G.1 pCl (mW G h0 a (upd (upd (upd (upd (upd (upd (upd (upd (upd (upd (upd (upd (upd (upd (upd (upd (upd (upd (upd (upd (upd (upd F 49 (nI md)) 85 (nI im)) 97 (nI ct)) 98 (nI fl)) 99 (nI rmm)) 101 tds) 102 (nI op)) 111 (nI tp)) 115 (nI wn)) 116 (-1)) 117 (nI fu791)) 118 rs0) 119 uc0) 120 (nI rd)) 121 ma0) 122 mc0) 123 ca) 124 mo) 125 nw) 126 isn) 128 (nI on)) 130 (nI idn)) B) _ := hP
          have hD : va_D A (mW G h0 a (upd (upd (upd (upd (upd (upd (upd (upd (upd (upd (upd (upd (upd (upd (upd (upd (upd (upd (upd (upd (upd (upd F 49 (nI md)) 85 (nI im)) 97 (nI ct)) 98 (nI fl)) 99 (nI rmm)) 101 tds) 102 (nI op)) 111 (nI tp)) 115 (nI wn)) 116 (-1)) 117 (nI fu791)) 118 rs0) 119 uc0) 120 (nI rd)) 121 ma0) 122 mc0) 123 ca) 124 mo) 125 nw) 126 isn) 128 (nI on)) 130 (nI idn)) B) := hD
          refine pc_V0 (G := G) (As := [.int (nI j1)]) (rest := []) hx hb hml hown hq hE hX pX0_al hP hD hS hA hl.1 (R_begin l G h0 a (upd (upd (upd (upd (upd (upd (upd (upd (upd (upd (upd (upd (upd (upd (upd (upd (upd (upd (upd (upd (upd (upd F 49 (nI md)) 85 (nI im)) 97 (nI ct)) 98 (nI fl)) 99 (nI rmm)) 101 tds) 102 (nI op)) 111 (nI tp)) 115 (nI wn)) 116 (-1)) 117 (nI fu791)) 118 rs0) 119 uc0) 120 (nI rd)) 121 ma0) 122 mc0) 123 ca) 124 mo) 125 nw) 126 isn) 128 (nI on)) 130 (nI idn)) B (nI j1)) (gV pw_2016 pw_2017 pw_2018 pw_1523 pw_2002) hV_X12_begin 0 9 rfl rfl rfl rfl (Nat.le_of_ble_eq_true rfl) dX12_beginsNow_631 ⟨Nat.le_of_ble_eq_true rfl, Nat.le_of_ble_eq_true rfl⟩ ⟨Nat.le_of_ble_eq_true rfl, Nat.le_of_ble_eq_true rfl⟩ (fun v823 u821 H locs hw822 hP hD hS => ?_)
          obtain rfl : v823 = none := hw822
          have hP : va_P G.1 pCl (mW G h0 a (upd (upd (upd (upd (upd (upd (upd (upd (upd (upd (upd (upd (upd (upd (upd (upd (upd (upd (upd (upd (upd (upd F 49 (nI md)) 85 (nI im)) 97 (nI ct)) 98 (nI fl)) 99 (nI rmm)) 101 tds) 102 (nI op)) 111 (nI tp)) 115 (nI wn)) 116 (-1)) 117 (nI fu791)) 118 rs0) 119 uc0) 120 (nI rd)) 121 ma0) 122 mc0) 123 ca) 124 mo) 125 (nI j1)) 126 1) 128 (nI on)) 130 (nI idn)) B) _ := hP
          have hD : va_D A (mW G h0 a (upd (upd (upd (upd (upd (upd (upd (upd (upd (upd (upd (upd (upd (upd (upd (upd (upd (upd (upd (upd (upd (upd F 49 (nI md)) 85 (nI im)) 97 (nI ct)) 98 (nI fl)) 99 (nI rmm)) 101 tds) 102 (nI op)) 111 (nI tp)) 115 (nI wn)) 116 (-1)) 117 (nI fu791)) 118 rs0) 119 uc0) 120 (nI rd)) 121 ma0) 122 mc0) 123 ca) 124 mo) 125 (nI j1)) 126 1) 128 (nI on)) 130 (nI idn)) B) := hD
          refine W.widen (k := 0) (n := 0) (Nat.le_of_ble_eq_true rfl) (Nat.le_of_ble_eq_true rfl) ?_
          refine W.eq (g2 := F0 m 634 ls []) rfl ?_
          refine lv_goto (tgt := 712) hx hb dX12_beginsNow_634 (by decide) ?_
          have hz824 : Nx Xs B gh nd T nm wr lz dc fd md pr bk M rmm fu (Phi gh ps op (rkN gh n9 false)) op tp wn fu791 rd on idn fl ct ((-1) : Int32) (nI j1) (1 : Int32) uc0 := (Nx.le (fu1 := fu791) ha3 (by omega))
          have hP : va_P G.1 pCl (mW G h0 a (upd (upd (upd (upd (upd (upd (upd (upd (upd (upd (upd (upd (upd (upd (upd (upd (upd (upd (upd (upd (upd (upd F 49 (nI md)) 85 (nI im)) 97 (nI ct)) 98 (nI fl)) 99 (nI rmm)) 101 tds) 102 (nI op)) 111 (nI tp)) 115 (nI wn)) 116 ((-1) : Int32)) 117 (nI fu791)) 118 rs0) 119 uc0) 120 (nI rd)) 121 ma0) 122 mc0) 123 ca) 124 mo) 125 (nI j1)) 126 (1 : Int32)) 128 (nI on)) 130 (nI idn)) B) _ := hP
          have hD : va_D A (mW G h0 a (upd (upd (upd (upd (upd (upd (upd (upd (upd (upd (upd (upd (upd (upd (upd (upd (upd (upd (upd (upd (upd (upd F 49 (nI md)) 85 (nI im)) 97 (nI ct)) 98 (nI fl)) 99 (nI rmm)) 101 tds) 102 (nI op)) 111 (nI tp)) 115 (nI wn)) 116 ((-1) : Int32)) 117 (nI fu791)) 118 rs0) 119 uc0) 120 (nI rd)) 121 ma0) 122 mc0) 123 ca) 124 mo) 125 (nI j1)) 126 (1 : Int32)) 128 (nI on)) 130 (nI idn)) B) := hD
          exact W.vret hx hb hr (fun t9 ht9 hW9 => ⟨⟨_, (op, tp, wn, fu791, ((-1) : Int32), (nI j1), (1 : Int32), rs0, uc0, on, idn, fl, ct, tds, ma0, mc0, ca, mo, rd, B), rfl, ⟨rfl, hz824⟩, by rw [ht9]; exact hP, hD⟩, hS.F ht9⟩) hS.2.2 dX12_beginsNow_712
  · clear hn44 hkr hko
    refine lv_aload_n hx hb dX12_beginsNow_0 rfl (lv_at hl 0 rfl) ?_
    refine r_get (v := .ref (a 9)) hx hb hown hq hE hP 17 38 tFX12_17 (by decide) pw_1439 rfl dX12_beginsNow_1 ?_
    refine lv_iload_n hx hb dX12_beginsNow_4 rfl (lv_at hl 1 rfl) ?_
    refine r_ldi (f := (B 9)) (j := n9) hx hb hE hP 9 (ma_9 G a _) rfl (by omega) (by decide) dX12_beginsNow_5 ?_
    refine lv_topi (fun x825 e826 => ?_)
    obtain rfl : x825 = 37 := e826.trans ((congrFun hw9 _).trans hkd)
    refine lv_istore_n (lv' := [(2, .int 37), (0, .ref h0), (1, .int (nI n9))]) hx hb dX12_beginsNow_6 rfl hl (by decide) rfl (fun ls hl => ?_)
    refine lv_iload_n hx hb dX12_beginsNow_7 rfl (lv_at hl 0 rfl) ?_
    refine lv_bipush (v := 30) hx hb dX12_beginsNow_8 (by decide) ?_
    refine lv_icmp_lt (tgt := 41) hx hb dX12_beginsNow_10 (by decide) (fun c827 => absurd c827 (by decide)) (fun c827 => ?_)
    refine lv_iload_n hx hb dX12_beginsNow_13 rfl (lv_at hl 0 rfl) ?_
    refine lv_bipush (v := 31) hx hb dX12_beginsNow_14 (by decide) ?_
    refine lv_icmp_eq (tgt := 41) hx hb dX12_beginsNow_16 (by decide) (fun c828 => absurd c828 (by decide)) (fun c828 => ?_)
    refine lv_iload_n hx hb dX12_beginsNow_19 rfl (lv_at hl 0 rfl) ?_
    refine lv_bipush (v := 43) hx hb dX12_beginsNow_20 (by decide) ?_
    refine lv_icmp_eq (tgt := 41) hx hb dX12_beginsNow_22 (by decide) (fun c829 => absurd c829 (by decide)) (fun c829 => ?_)
    refine lv_aload_n hx hb dX12_beginsNow_25 rfl (lv_at hl 1 rfl) ?_
    refine lv_iload_n hx hb dX12_beginsNow_26 rfl (lv_at hl 2 rfl) ?_
    have hP : va_P G.1 pCl (mW G h0 a (upd (upd (upd (upd (upd (upd (upd (upd (upd (upd (upd (upd (upd (upd (upd (upd (upd (upd (upd (upd (upd (upd F 49 (nI md)) 85 (nI im)) 97 (nI ct)) 98 (nI fl)) 99 (nI rmm)) 101 tds) 102 (nI op)) 111 (nI tp)) 115 (nI wn)) 116 (-1)) 117 (nI fu)) 118 rs0) 119 uc0) 120 (nI rd)) 121 ma0) 122 mc0) 123 ca) 124 mo) 125 nw) 126 isn) 128 (nI on)) 130 (nI idn)) B) _ := hP
    have hD : va_D A (mW G h0 a (upd (upd (upd (upd (upd (upd (upd (upd (upd (upd (upd (upd (upd (upd (upd (upd (upd (upd (upd (upd (upd (upd F 49 (nI md)) 85 (nI im)) 97 (nI ct)) 98 (nI fl)) 99 (nI rmm)) 101 tds) 102 (nI op)) 111 (nI tp)) 115 (nI wn)) 116 (-1)) 117 (nI fu)) 118 rs0) 119 uc0) 120 (nI rd)) 121 ma0) 122 mc0) 123 ca) 124 mo) 125 nw) 126 isn) 128 (nI on)) 130 (nI idn)) B) := hD
    refine pc_V0 (G := G) (As := [.int (nI n9)]) (rest := []) hx hb hml hown hq hE hX pX0_al hP hD hS hA hl.1 (R_isFirst l G h0 a (upd (upd (upd (upd (upd (upd (upd (upd (upd (upd (upd (upd (upd (upd (upd (upd (upd (upd (upd (upd (upd (upd F 49 (nI md)) 85 (nI im)) 97 (nI ct)) 98 (nI fl)) 99 (nI rmm)) 101 tds) 102 (nI op)) 111 (nI tp)) 115 (nI wn)) 116 (-1)) 117 (nI fu)) 118 rs0) 119 uc0) 120 (nI rd)) 121 ma0) 122 mc0) 123 ca) 124 mo) 125 nw) 126 isn) 128 (nI on)) 130 (nI idn)) B n9 nd (by omega) (by omega) (hR.upP hR.rt.2.2)) (gV pw_2066 pw_2067 pw_2068 pw_1523 pw_2020) hV_X12_isFirst 0 9 rfl rfl rfl rfl (Nat.le_of_ble_eq_true rfl) dX12_beginsNow_27 ⟨Nat.le_of_ble_eq_true rfl, Nat.le_of_ble_eq_true rfl⟩ ⟨Nat.le_of_ble_eq_true rfl, Nat.le_of_ble_eq_true rfl⟩ (fun v832 u830 H locs hw831 hP hD hS => ?_)
    obtain ⟨r833, rfl⟩ : ∃ z, z = u830 := ⟨_, rfl⟩
    obtain ⟨hw831, h834⟩ := hw831
    replace h834 : r833 ≤ 1 := h834
    obtain rfl : v832 = some (.int (nI r833)) := hw831
    have hP : va_P G.1 pCl (mW G h0 a (upd (upd (upd (upd (upd (upd (upd (upd (upd (upd (upd (upd (upd (upd (upd (upd (upd (upd (upd (upd (upd (upd F 49 (nI md)) 85 (nI im)) 97 (nI ct)) 98 (nI fl)) 99 (nI rmm)) 101 tds) 102 (nI op)) 111 (nI tp)) 115 (nI wn)) 116 (-1)) 117 (nI fu)) 118 rs0) 119 uc0) 120 (nI rd)) 121 ma0) 122 mc0) 123 ca) 124 mo) 125 nw) 126 isn) 128 (nI on)) 130 (nI idn)) B) _ := hP
    have hD : va_D A (mW G h0 a (upd (upd (upd (upd (upd (upd (upd (upd (upd (upd (upd (upd (upd (upd (upd (upd (upd (upd (upd (upd (upd (upd F 49 (nI md)) 85 (nI im)) 97 (nI ct)) 98 (nI fl)) 99 (nI rmm)) 101 tds) 102 (nI op)) 111 (nI tp)) 115 (nI wn)) 116 (-1)) 117 (nI fu)) 118 rs0) 119 uc0) 120 (nI rd)) 121 ma0) 122 mc0) 123 ca) 124 mo) 125 nw) 126 isn) 128 (nI on)) 130 (nI idn)) B) := hD
    refine W.widen (k := 0) (n := 0) (Nat.le_of_ble_eq_true rfl) (Nat.le_of_ble_eq_true rfl) ?_
    refine W.eq (g2 := F0 m 30 ls [.int (nI r833)]) rfl ?_
    refine lv_if_ne (tgt := 41) hx hb dX12_beginsNow_30 (by decide) (fun c835 => ?_) (fun c835 => ?_)
    · have n836 : ¬ (r833 = 0) := fun h9 => c835 ((nI_eq (a := r833) (b := 0) (by omega) (by omega)).mpr h9)
      refine lv_iload_n hx hb dX12_beginsNow_41 rfl (lv_at hl 0 rfl) ?_
      refine lv_tableIn (tgt := 637) (off := 595) hx hb dX12_beginsNow_42 (by decide) (by decide) (by decide) (by decide) ?_
      by_cases hb9 : Xs 12 n9 = -1
      · refine lv_aload_n hx hb dX12_beginsNow_637 rfl (lv_at hl 1 rfl) ?_
        refine r_get (v := .ref (a 12)) hx hb hown hq hE hP 20 47 tFX12_20 (by decide) pw_1442 rfl dX12_beginsNow_638 ?_
        refine lv_iload_n hx hb dX12_beginsNow_641 rfl (lv_at hl 2 rfl) ?_
        refine r_ldi (f := (B 12)) (j := n9) hx hb hE hP 12 (ma_12 G a _) rfl (by omega) (by decide) dX12_beginsNow_642 ?_
        refine lv_topi (fun x837 e838 => ?_)
        obtain rfl : x837 = (-1) := e838.trans ((congrFun hw12 _).trans hb9)
        refine lv_iconst (v := (-1)) hx hb dX12_beginsNow_643 (by decide) ?_
        refine lv_icmp_ne (tgt := 658) hx hb dX12_beginsNow_644 (by decide) (fun c839 => absurd c839 (by decide)) (fun c839 => ?_)
        refine lv_aload_n hx hb dX12_beginsNow_647 rfl (lv_at hl 1 rfl) ?_
        refine lv_iload_n hx hb dX12_beginsNow_648 rfl (lv_at hl 2 rfl) ?_
        refine lv_iconst (v := 2) hx hb dX12_beginsNow_649 (by decide) ?_
        refine lv_iconst (v := 0) hx hb dX12_beginsNow_650 (by decide) ?_
        refine lv_iconst (v := 0) hx hb dX12_beginsNow_651 (by decide) ?_
        obtain ⟨hb1, hk9, hrf⟩ := hR.bLv (kd := 2) hkd (Or.inl ⟨rfl, hb9, rfl⟩)
        have hv9 := ((hk9.resolve_left (fun h => absurd h.1 (by decide))).resolve_right (fun h => absurd h.1 (by decide))).2
        have hP : va_P G.1 pCl (mW G h0 a (upd (upd (upd (upd (upd (upd (upd (upd (upd (upd (upd (upd (upd (upd (upd (upd (upd (upd (upd (upd (upd (upd (upd (upd (upd (upd (upd (upd (upd (upd (upd F 49 (nI md)) 85 (nI im)) 97 (nI ct)) 98 (nI fl)) 99 (nI rmm)) 101 tds) 102 (nI op)) 111 (nI tp)) 115 (nI wn)) 116 (-1)) 117 (nI fu)) 118 rs0) 119 uc0) 120 (nI rd)) 121 ma0) 122 mc0) 123 ca) 124 mo) 125 nw) 126 isn) 128 (nI on)) 130 (nI idn)) 102 (nI op)) 111 (nI tp)) 115 (nI wn)) 116 (-1)) 117 (nI fu)) 118 rs0) 119 uc0) 125 nw) 126 isn) B) _ := hP
        have hD : va_D A (mW G h0 a (upd (upd (upd (upd (upd (upd (upd (upd (upd (upd (upd (upd (upd (upd (upd (upd (upd (upd (upd (upd (upd (upd (upd (upd (upd (upd (upd (upd (upd (upd (upd F 49 (nI md)) 85 (nI im)) 97 (nI ct)) 98 (nI fl)) 99 (nI rmm)) 101 tds) 102 (nI op)) 111 (nI tp)) 115 (nI wn)) 116 (-1)) 117 (nI fu)) 118 rs0) 119 uc0) 120 (nI rd)) 121 ma0) 122 mc0) 123 ca) 124 mo) 125 nw) 126 isn) 128 (nI on)) 130 (nI idn)) 102 (nI op)) 111 (nI tp)) 115 (nI wn)) 116 (-1)) 117 (nI fu)) 118 rs0) 119 uc0) 125 nw) 126 isn) B) := hD
        refine pc_V0 (G := G) (As := [.int (nI n9), .int 2, .int 0, .int (nI 0)]) (rest := []) hx hb hml hown hq hE hX pX0_al hP hD hS hA hl.1 (R_leaves2 l G h0 a (upd (upd (upd (upd (upd (upd (upd (upd (upd (upd (upd (upd (upd (upd (upd (upd (upd (upd (upd (upd (upd (upd F 49 (nI md)) 85 (nI im)) 97 (nI ct)) 98 (nI fl)) 99 (nI rmm)) 101 tds) 102 (nI op)) 111 (nI tp)) 115 (nI wn)) 116 (-1)) 117 (nI fu)) 118 rs0) 119 uc0) 120 (nI rd)) 121 ma0) 122 mc0) 123 ca) 124 mo) 125 nw) 126 isn) 128 (nI on)) 130 (nI idn)) B Xs gh nd T nm wr lz dc fd md pr bk M rmm (Phi gh ps op (rkN gh n9 false)) op wn fu rd on idn fl ct n9 0 0 mt ps yy bf wf (nI tp) nw isn rs0 uc0 hR.ln (by omega) hb1 hrf hv9) (gV pw_2050 pw_2051 pw_2052 pw_1523 pw_2049) hV_X12_leaves 0 9 rfl rfl rfl rfl (Nat.le_of_ble_eq_true rfl) dX12_beginsNow_652 ⟨Nat.le_of_ble_eq_true rfl, Nat.le_of_ble_eq_true rfl⟩ ⟨Nat.le_of_ble_eq_true rfl, Nat.le_of_ble_eq_true rfl⟩ (fun v842 u840 H locs hw841 hP hD hS => ?_)
        obtain ⟨op843, tp844, wn845, fu846, en847, nw848, is849, rs850, uc851, X852⟩ := u840
        obtain ⟨hw841, h853⟩ := hw841
        replace h853 : Nx Xs X852 gh nd T nm wr lz dc fd md pr bk M rmm fu (Phi gh ps op (rkN gh n9 false)) op843 tp844 wn845 fu846 rd on idn fl ct en847 nw848 is849 uc851 := h853
        obtain rfl : v842 = none := hw841
        have hP : va_P G.1 pCl (mW G h0 a (upd (upd (upd (upd (upd (upd (upd (upd (upd (upd (upd (upd (upd (upd (upd (upd (upd (upd (upd (upd (upd (upd F 49 (nI md)) 85 (nI im)) 97 (nI ct)) 98 (nI fl)) 99 (nI rmm)) 101 tds) 102 (nI op843)) 111 (nI tp844)) 115 (nI wn845)) 116 en847) 117 (nI fu846)) 118 rs850) 119 uc851) 120 (nI rd)) 121 ma0) 122 mc0) 123 ca) 124 mo) 125 nw848) 126 is849) 128 (nI on)) 130 (nI idn)) X852) _ := hP
        have hD : va_D A (mW G h0 a (upd (upd (upd (upd (upd (upd (upd (upd (upd (upd (upd (upd (upd (upd (upd (upd (upd (upd (upd (upd (upd (upd F 49 (nI md)) 85 (nI im)) 97 (nI ct)) 98 (nI fl)) 99 (nI rmm)) 101 tds) 102 (nI op843)) 111 (nI tp844)) 115 (nI wn845)) 116 en847) 117 (nI fu846)) 118 rs850) 119 uc851) 120 (nI rd)) 121 ma0) 122 mc0) 123 ca) 124 mo) 125 nw848) 126 is849) 128 (nI on)) 130 (nI idn)) X852) := hD
        refine W.widen (k := 0) (n := 0) (Nat.le_of_ble_eq_true rfl) (Nat.le_of_ble_eq_true rfl) ?_
        refine W.eq (g2 := F0 m 655 ls []) rfl ?_
        refine lv_goto (tgt := 712) hx hb dX12_beginsNow_655 (by decide) ?_
        have hz854 : Nx Xs X852 gh nd T nm wr lz dc fd md pr bk M rmm fu (Phi gh ps op (rkN gh n9 false)) op843 tp844 wn845 fu846 rd on idn fl ct en847 nw848 is849 uc851 := h853
        have hP : va_P G.1 pCl (mW G h0 a (upd (upd (upd (upd (upd (upd (upd (upd (upd (upd (upd (upd (upd (upd (upd (upd (upd (upd (upd (upd (upd (upd F 49 (nI md)) 85 (nI im)) 97 (nI ct)) 98 (nI fl)) 99 (nI rmm)) 101 tds) 102 (nI op843)) 111 (nI tp844)) 115 (nI wn845)) 116 en847) 117 (nI fu846)) 118 rs850) 119 uc851) 120 (nI rd)) 121 ma0) 122 mc0) 123 ca) 124 mo) 125 nw848) 126 is849) 128 (nI on)) 130 (nI idn)) X852) _ := hP
        have hD : va_D A (mW G h0 a (upd (upd (upd (upd (upd (upd (upd (upd (upd (upd (upd (upd (upd (upd (upd (upd (upd (upd (upd (upd (upd (upd F 49 (nI md)) 85 (nI im)) 97 (nI ct)) 98 (nI fl)) 99 (nI rmm)) 101 tds) 102 (nI op843)) 111 (nI tp844)) 115 (nI wn845)) 116 en847) 117 (nI fu846)) 118 rs850) 119 uc851) 120 (nI rd)) 121 ma0) 122 mc0) 123 ca) 124 mo) 125 nw848) 126 is849) 128 (nI on)) 130 (nI idn)) X852) := hD
        exact W.vret hx hb hr (fun t9 ht9 hW9 => ⟨⟨_, (op843, tp844, wn845, fu846, en847, nw848, is849, rs850, uc851, on, idn, fl, ct, tds, ma0, mc0, ca, mo, rd, X852), rfl, ⟨rfl, hz854⟩, by rw [ht9]; exact hP, hD⟩, hS.F ht9⟩) hS.2.2 dX12_beginsNow_712
      · obtain ⟨j1, ha1, ha2, ha3⟩ := hR.bA (uc := uc0) hkd (by omega) (s := 1) (by omega) (by omega) (by decide) (by decide) (by decide) rfl rfl (by omega) hb9
        refine lv_aload_n hx hb dX12_beginsNow_637 rfl (lv_at hl 1 rfl) ?_
        refine r_get (v := .ref (a 12)) hx hb hown hq hE hP 20 47 tFX12_20 (by decide) pw_1442 rfl dX12_beginsNow_638 ?_
        refine lv_iload_n hx hb dX12_beginsNow_641 rfl (lv_at hl 2 rfl) ?_
        refine r_ldi (f := (B 12)) (j := n9) hx hb hE hP 12 (ma_12 G a _) rfl (by omega) (by decide) dX12_beginsNow_642 ?_
        refine lv_topi (fun x855 e856 => ?_)
        obtain rfl : x855 = nI j1 := e856.trans ((congrFun hw12 _).trans ha1)
        refine lv_iconst (v := (-1)) hx hb dX12_beginsNow_643 (by decide) ?_
        refine lv_icmp_ne (tgt := 658) hx hb dX12_beginsNow_644 (by decide) (fun c857 => ?_) (fun c857 => absurd c857 (nI_m1 (by omega)))
        refine lv_aload_n hx hb dX12_beginsNow_658 rfl (lv_at hl 1 rfl) ?_
        refine lv_aload_n hx hb dX12_beginsNow_659 rfl (lv_at hl 1 rfl) ?_
        refine r_get (v := .ref (a 12)) hx hb hown hq hE hP 20 47 tFX12_20 (by decide) pw_1442 rfl dX12_beginsNow_660 ?_
        refine lv_iload_n hx hb dX12_beginsNow_663 rfl (lv_at hl 2 rfl) ?_
        refine r_ldi (f := (B 12)) (j := n9) hx hb hE hP 12 (ma_12 G a _) rfl (by omega) (by decide) dX12_beginsNow_664 ?_
        refine lv_topi (fun x858 e859 => ?_)
        obtain rfl : x858 = nI j1 := e859.trans ((congrFun hw12 _).trans ha1)
        have hP : va_P G.1 pCl (mW G h0 a (upd (upd (upd (upd (upd (upd (upd (upd (upd (upd (upd (upd (upd (upd (upd (upd (upd (upd (upd (upd (upd (upd F 49 (nI md)) 85 (nI im)) 97 (nI ct)) 98 (nI fl)) 99 (nI rmm)) 101 tds) 102 (nI op)) 111 (nI tp)) 115 (nI wn)) 116 (-1)) 117 (nI fu)) 118 rs0) 119 uc0) 120 (nI rd)) 121 ma0) 122 mc0) 123 ca) 124 mo) 125 nw) 126 isn) 128 (nI on)) 130 (nI idn)) B) _ := hP
        have hD : va_D A (mW G h0 a (upd (upd (upd (upd (upd (upd (upd (upd (upd (upd (upd (upd (upd (upd (upd (upd (upd (upd (upd (upd (upd (upd F 49 (nI md)) 85 (nI im)) 97 (nI ct)) 98 (nI fl)) 99 (nI rmm)) 101 tds) 102 (nI op)) 111 (nI tp)) 115 (nI wn)) 116 (-1)) 117 (nI fu)) 118 rs0) 119 uc0) 120 (nI rd)) 121 ma0) 122 mc0) 123 ca) 124 mo) 125 nw) 126 isn) 128 (nI on)) 130 (nI idn)) B) := hD
        refine pc_V0 (G := G) (As := [.int (nI j1)]) (rest := []) hx hb hml hown hq hE hX pX0_al hP hD hS hA hl.1 (R_begin l G h0 a (upd (upd (upd (upd (upd (upd (upd (upd (upd (upd (upd (upd (upd (upd (upd (upd (upd (upd (upd (upd (upd (upd F 49 (nI md)) 85 (nI im)) 97 (nI ct)) 98 (nI fl)) 99 (nI rmm)) 101 tds) 102 (nI op)) 111 (nI tp)) 115 (nI wn)) 116 (-1)) 117 (nI fu)) 118 rs0) 119 uc0) 120 (nI rd)) 121 ma0) 122 mc0) 123 ca) 124 mo) 125 nw) 126 isn) 128 (nI on)) 130 (nI idn)) B (nI j1)) (gV pw_2016 pw_2017 pw_2018 pw_1523 pw_2002) hV_X12_begin 0 9 rfl rfl rfl rfl (Nat.le_of_ble_eq_true rfl) dX12_beginsNow_665 ⟨Nat.le_of_ble_eq_true rfl, Nat.le_of_ble_eq_true rfl⟩ ⟨Nat.le_of_ble_eq_true rfl, Nat.le_of_ble_eq_true rfl⟩ (fun v862 u860 H locs hw861 hP hD hS => ?_)
        obtain rfl : v862 = none := hw861
        have hP : va_P G.1 pCl (mW G h0 a (upd (upd (upd (upd (upd (upd (upd (upd (upd (upd (upd (upd (upd (upd (upd (upd (upd (upd (upd (upd (upd (upd F 49 (nI md)) 85 (nI im)) 97 (nI ct)) 98 (nI fl)) 99 (nI rmm)) 101 tds) 102 (nI op)) 111 (nI tp)) 115 (nI wn)) 116 (-1)) 117 (nI fu)) 118 rs0) 119 uc0) 120 (nI rd)) 121 ma0) 122 mc0) 123 ca) 124 mo) 125 (nI j1)) 126 1) 128 (nI on)) 130 (nI idn)) B) _ := hP
        have hD : va_D A (mW G h0 a (upd (upd (upd (upd (upd (upd (upd (upd (upd (upd (upd (upd (upd (upd (upd (upd (upd (upd (upd (upd (upd (upd F 49 (nI md)) 85 (nI im)) 97 (nI ct)) 98 (nI fl)) 99 (nI rmm)) 101 tds) 102 (nI op)) 111 (nI tp)) 115 (nI wn)) 116 (-1)) 117 (nI fu)) 118 rs0) 119 uc0) 120 (nI rd)) 121 ma0) 122 mc0) 123 ca) 124 mo) 125 (nI j1)) 126 1) 128 (nI on)) 130 (nI idn)) B) := hD
        refine W.widen (k := 0) (n := 0) (Nat.le_of_ble_eq_true rfl) (Nat.le_of_ble_eq_true rfl) ?_
        refine W.eq (g2 := F0 m 668 ls []) rfl ?_
        refine lv_goto (tgt := 712) hx hb dX12_beginsNow_668 (by decide) ?_
        have hz863 : Nx Xs B gh nd T nm wr lz dc fd md pr bk M rmm fu (Phi gh ps op (rkN gh n9 false)) op tp wn fu rd on idn fl ct ((-1) : Int32) (nI j1) (1 : Int32) uc0 := ha3
        have hP : va_P G.1 pCl (mW G h0 a (upd (upd (upd (upd (upd (upd (upd (upd (upd (upd (upd (upd (upd (upd (upd (upd (upd (upd (upd (upd (upd (upd F 49 (nI md)) 85 (nI im)) 97 (nI ct)) 98 (nI fl)) 99 (nI rmm)) 101 tds) 102 (nI op)) 111 (nI tp)) 115 (nI wn)) 116 ((-1) : Int32)) 117 (nI fu)) 118 rs0) 119 uc0) 120 (nI rd)) 121 ma0) 122 mc0) 123 ca) 124 mo) 125 (nI j1)) 126 (1 : Int32)) 128 (nI on)) 130 (nI idn)) B) _ := hP
        have hD : va_D A (mW G h0 a (upd (upd (upd (upd (upd (upd (upd (upd (upd (upd (upd (upd (upd (upd (upd (upd (upd (upd (upd (upd (upd (upd F 49 (nI md)) 85 (nI im)) 97 (nI ct)) 98 (nI fl)) 99 (nI rmm)) 101 tds) 102 (nI op)) 111 (nI tp)) 115 (nI wn)) 116 ((-1) : Int32)) 117 (nI fu)) 118 rs0) 119 uc0) 120 (nI rd)) 121 ma0) 122 mc0) 123 ca) 124 mo) 125 (nI j1)) 126 (1 : Int32)) 128 (nI on)) 130 (nI idn)) B) := hD
        exact W.vret hx hb hr (fun t9 ht9 hW9 => ⟨⟨_, (op, tp, wn, fu, ((-1) : Int32), (nI j1), (1 : Int32), rs0, uc0, on, idn, fl, ct, tds, ma0, mc0, ca, mo, rd, B), rfl, ⟨rfl, hz863⟩, by rw [ht9]; exact hP, hD⟩, hS.F ht9⟩) hS.2.2 dX12_beginsNow_712
    · have n864 : r833 = 0 := (nI_eq (a := r833) (b := 0) (by omega) (by omega)).mp c835
      refine lv_aload_n hx hb dX12_beginsNow_33 rfl (lv_at hl 1 rfl) ?_
      have hP : va_P G.1 pCl (mW G h0 a (upd (upd (upd (upd (upd (upd (upd (upd (upd (upd (upd (upd (upd (upd (upd (upd (upd (upd (upd (upd (upd (upd (upd (upd F 49 (nI md)) 85 (nI im)) 97 (nI ct)) 98 (nI fl)) 99 (nI rmm)) 101 tds) 102 (nI op)) 111 (nI tp)) 115 (nI wn)) 116 (-1)) 117 (nI fu)) 118 rs0) 119 uc0) 120 (nI rd)) 121 ma0) 122 mc0) 123 ca) 124 mo) 125 nw) 126 isn) 128 (nI on)) 130 (nI idn)) 116 (-1)) 117 (nI fu)) B) _ := hP
      have hD : va_D A (mW G h0 a (upd (upd (upd (upd (upd (upd (upd (upd (upd (upd (upd (upd (upd (upd (upd (upd (upd (upd (upd (upd (upd (upd (upd (upd F 49 (nI md)) 85 (nI im)) 97 (nI ct)) 98 (nI fl)) 99 (nI rmm)) 101 tds) 102 (nI op)) 111 (nI tp)) 115 (nI wn)) 116 (-1)) 117 (nI fu)) 118 rs0) 119 uc0) 120 (nI rd)) 121 ma0) 122 mc0) 123 ca) 124 mo) 125 nw) 126 isn) 128 (nI on)) 130 (nI idn)) 116 (-1)) 117 (nI fu)) B) := hD
      refine pc_V0 (G := G) (As := []) (rest := []) hx hb hml hown hq hE hX pX0_al hP hD hS hA hl.1 (R_pays l G h0 a (upd (upd (upd (upd (upd (upd (upd (upd (upd (upd (upd (upd (upd (upd (upd (upd (upd (upd (upd (upd (upd (upd F 49 (nI md)) 85 (nI im)) 97 (nI ct)) 98 (nI fl)) 99 (nI rmm)) 101 tds) 102 (nI op)) 111 (nI tp)) 115 (nI wn)) 116 (-1)) 117 (nI fu)) 118 rs0) 119 uc0) 120 (nI rd)) 121 ma0) 122 mc0) 123 ca) 124 mo) 125 nw) 126 isn) 128 (nI on)) 130 (nI idn)) B fu (-1) (by omega)) (gV pw_2026 pw_2027 pw_2028 pw_1523 pw_2000) hV_X12_pays 0 9 rfl rfl rfl rfl (Nat.le_of_ble_eq_true rfl) dX12_beginsNow_34 ⟨Nat.le_of_ble_eq_true rfl, Nat.le_of_ble_eq_true rfl⟩ ⟨Nat.le_of_ble_eq_true rfl, Nat.le_of_ble_eq_true rfl⟩ (fun v867 u865 H locs hw866 hP hD hS => ?_)
      obtain ⟨r868, fu869, en870⟩ := u865
      obtain ⟨hw866, h871, h872, h873, h874⟩ := hw866
      replace h871 : r868 ≤ 1 := h871
      replace h872 : fu869 + r868 = fu := h872
      replace h873 : If (r868 = 1) (en870 = (-1)) := h873
      replace h874 : If (r868 = 0) (en870 = 2) := h874
      obtain rfl : v867 = some (.int (nI r868)) := hw866
      have hP : va_P G.1 pCl (mW G h0 a (upd (upd (upd (upd (upd (upd (upd (upd (upd (upd (upd (upd (upd (upd (upd (upd (upd (upd (upd (upd (upd (upd F 49 (nI md)) 85 (nI im)) 97 (nI ct)) 98 (nI fl)) 99 (nI rmm)) 101 tds) 102 (nI op)) 111 (nI tp)) 115 (nI wn)) 116 en870) 117 (nI fu869)) 118 rs0) 119 uc0) 120 (nI rd)) 121 ma0) 122 mc0) 123 ca) 124 mo) 125 nw) 126 isn) 128 (nI on)) 130 (nI idn)) B) _ := hP
      have hD : va_D A (mW G h0 a (upd (upd (upd (upd (upd (upd (upd (upd (upd (upd (upd (upd (upd (upd (upd (upd (upd (upd (upd (upd (upd (upd F 49 (nI md)) 85 (nI im)) 97 (nI ct)) 98 (nI fl)) 99 (nI rmm)) 101 tds) 102 (nI op)) 111 (nI tp)) 115 (nI wn)) 116 en870) 117 (nI fu869)) 118 rs0) 119 uc0) 120 (nI rd)) 121 ma0) 122 mc0) 123 ca) 124 mo) 125 nw) 126 isn) 128 (nI on)) 130 (nI idn)) B) := hD
      refine W.widen (k := 0) (n := 0) (Nat.le_of_ble_eq_true rfl) (Nat.le_of_ble_eq_true rfl) ?_
      refine W.eq (g2 := F0 m 37 ls [.int (nI r868)]) rfl ?_
      rcases (show r868 = 0 ∨ r868 = 1 by omega) with hr0 | hr0
      · have hen := h874 hr0
        subst hr0
        have hP : va_P G.1 pCl (mW G h0 a (upd (upd (upd (upd (upd (upd (upd (upd (upd (upd (upd (upd (upd (upd (upd (upd (upd (upd (upd (upd (upd (upd F 49 (nI md)) 85 (nI im)) 97 (nI ct)) 98 (nI fl)) 99 (nI rmm)) 101 tds) 102 (nI op)) 111 (nI tp)) 115 (nI wn)) 116 en870) 117 (nI fu869)) 118 rs0) 119 uc0) 120 (nI rd)) 121 ma0) 122 mc0) 123 ca) 124 mo) 125 nw) 126 isn) 128 (nI on)) 130 (nI idn)) B) _ := hP
        have hD : va_D A (mW G h0 a (upd (upd (upd (upd (upd (upd (upd (upd (upd (upd (upd (upd (upd (upd (upd (upd (upd (upd (upd (upd (upd (upd F 49 (nI md)) 85 (nI im)) 97 (nI ct)) 98 (nI fl)) 99 (nI rmm)) 101 tds) 102 (nI op)) 111 (nI tp)) 115 (nI wn)) 116 en870) 117 (nI fu869)) 118 rs0) 119 uc0) 120 (nI rd)) 121 ma0) 122 mc0) 123 ca) 124 mo) 125 nw) 126 isn) 128 (nI on)) 130 (nI idn)) B) := hD
        refine W.eq (g2 := F0 m 37 ls [.int 0]) rfl ?_
        refine lv_if_ne (tgt := 41) hx hb dX12_beginsNow_37 (by decide) (fun c875 => absurd c875 (by decide)) (fun c875 => ?_)
        have hz876 : Nx Xs B gh nd T nm wr lz dc fd md pr bk M rmm fu (Phi gh ps op (rkN gh n9 false)) op tp wn fu869 rd on idn fl ct en870 nw isn uc0 := (hR.stop Sta.rfl hR.hp (by rw [hen]; decide) (by rw [hen]; decide))
        have hP : va_P G.1 pCl (mW G h0 a (upd (upd (upd (upd (upd (upd (upd (upd (upd (upd (upd (upd (upd (upd (upd (upd (upd (upd (upd (upd (upd (upd F 49 (nI md)) 85 (nI im)) 97 (nI ct)) 98 (nI fl)) 99 (nI rmm)) 101 tds) 102 (nI op)) 111 (nI tp)) 115 (nI wn)) 116 en870) 117 (nI fu869)) 118 rs0) 119 uc0) 120 (nI rd)) 121 ma0) 122 mc0) 123 ca) 124 mo) 125 nw) 126 isn) 128 (nI on)) 130 (nI idn)) B) _ := hP
        have hD : va_D A (mW G h0 a (upd (upd (upd (upd (upd (upd (upd (upd (upd (upd (upd (upd (upd (upd (upd (upd (upd (upd (upd (upd (upd (upd F 49 (nI md)) 85 (nI im)) 97 (nI ct)) 98 (nI fl)) 99 (nI rmm)) 101 tds) 102 (nI op)) 111 (nI tp)) 115 (nI wn)) 116 en870) 117 (nI fu869)) 118 rs0) 119 uc0) 120 (nI rd)) 121 ma0) 122 mc0) 123 ca) 124 mo) 125 nw) 126 isn) 128 (nI on)) 130 (nI idn)) B) := hD
        exact W.vret hx hb hr (fun t9 ht9 hW9 => ⟨⟨_, (op, tp, wn, fu869, en870, nw, isn, rs0, uc0, on, idn, fl, ct, tds, ma0, mc0, ca, mo, rd, B), rfl, ⟨rfl, hz876⟩, by rw [ht9]; exact hP, hD⟩, hS.F ht9⟩) hS.2.2 dX12_beginsNow_40
      · obtain rfl : en870 = _ := h873 hr0
        subst hr0
        have hP : va_P G.1 pCl (mW G h0 a (upd (upd (upd (upd (upd (upd (upd (upd (upd (upd (upd (upd (upd (upd (upd (upd (upd (upd (upd (upd (upd (upd F 49 (nI md)) 85 (nI im)) 97 (nI ct)) 98 (nI fl)) 99 (nI rmm)) 101 tds) 102 (nI op)) 111 (nI tp)) 115 (nI wn)) 116 (-1)) 117 (nI fu869)) 118 rs0) 119 uc0) 120 (nI rd)) 121 ma0) 122 mc0) 123 ca) 124 mo) 125 nw) 126 isn) 128 (nI on)) 130 (nI idn)) B) _ := hP
        have hD : va_D A (mW G h0 a (upd (upd (upd (upd (upd (upd (upd (upd (upd (upd (upd (upd (upd (upd (upd (upd (upd (upd (upd (upd (upd (upd F 49 (nI md)) 85 (nI im)) 97 (nI ct)) 98 (nI fl)) 99 (nI rmm)) 101 tds) 102 (nI op)) 111 (nI tp)) 115 (nI wn)) 116 (-1)) 117 (nI fu869)) 118 rs0) 119 uc0) 120 (nI rd)) 121 ma0) 122 mc0) 123 ca) 124 mo) 125 nw) 126 isn) 128 (nI on)) 130 (nI idn)) B) := hD
        refine W.eq (g2 := F0 m 37 ls [.int 1]) rfl ?_
        have hR1 := hR.fuel (show fu869 ≤ fu by omega)
        refine lv_if_ne (tgt := 41) hx hb dX12_beginsNow_37 (by decide) (fun c877 => ?_) (fun c877 => absurd c877 (by decide))
        refine lv_iload_n hx hb dX12_beginsNow_41 rfl (lv_at hl 0 rfl) ?_
        refine lv_tableIn (tgt := 637) (off := 595) hx hb dX12_beginsNow_42 (by decide) (by decide) (by decide) (by decide) ?_
        by_cases hb9 : Xs 12 n9 = -1
        · refine lv_aload_n hx hb dX12_beginsNow_637 rfl (lv_at hl 1 rfl) ?_
          refine r_get (v := .ref (a 12)) hx hb hown hq hE hP 20 47 tFX12_20 (by decide) pw_1442 rfl dX12_beginsNow_638 ?_
          refine lv_iload_n hx hb dX12_beginsNow_641 rfl (lv_at hl 2 rfl) ?_
          refine r_ldi (f := (B 12)) (j := n9) hx hb hE hP 12 (ma_12 G a _) rfl (by omega) (by decide) dX12_beginsNow_642 ?_
          refine lv_topi (fun x878 e879 => ?_)
          obtain rfl : x878 = (-1) := e879.trans ((congrFun hw12 _).trans hb9)
          refine lv_iconst (v := (-1)) hx hb dX12_beginsNow_643 (by decide) ?_
          refine lv_icmp_ne (tgt := 658) hx hb dX12_beginsNow_644 (by decide) (fun c880 => absurd c880 (by decide)) (fun c880 => ?_)
          refine lv_aload_n hx hb dX12_beginsNow_647 rfl (lv_at hl 1 rfl) ?_
          refine lv_iload_n hx hb dX12_beginsNow_648 rfl (lv_at hl 2 rfl) ?_
          refine lv_iconst (v := 2) hx hb dX12_beginsNow_649 (by decide) ?_
          refine lv_iconst (v := 0) hx hb dX12_beginsNow_650 (by decide) ?_
          refine lv_iconst (v := 0) hx hb dX12_beginsNow_651 (by decide) ?_
          obtain ⟨hb1, hk9, hrf⟩ := hR1.bLv (kd := 2) hkd (Or.inl ⟨rfl, hb9, rfl⟩)
          have hv9 := ((hk9.resolve_left (fun h => absurd h.1 (by decide))).resolve_right (fun h => absurd h.1 (by decide))).2
          have hP : va_P G.1 pCl (mW G h0 a (upd (upd (upd (upd (upd (upd (upd (upd (upd (upd (upd (upd (upd (upd (upd (upd (upd (upd (upd (upd (upd (upd (upd (upd (upd (upd (upd (upd (upd (upd (upd F 49 (nI md)) 85 (nI im)) 97 (nI ct)) 98 (nI fl)) 99 (nI rmm)) 101 tds) 102 (nI op)) 111 (nI tp)) 115 (nI wn)) 116 (-1)) 117 (nI fu869)) 118 rs0) 119 uc0) 120 (nI rd)) 121 ma0) 122 mc0) 123 ca) 124 mo) 125 nw) 126 isn) 128 (nI on)) 130 (nI idn)) 102 (nI op)) 111 (nI tp)) 115 (nI wn)) 116 (-1)) 117 (nI fu869)) 118 rs0) 119 uc0) 125 nw) 126 isn) B) _ := hP
          have hD : va_D A (mW G h0 a (upd (upd (upd (upd (upd (upd (upd (upd (upd (upd (upd (upd (upd (upd (upd (upd (upd (upd (upd (upd (upd (upd (upd (upd (upd (upd (upd (upd (upd (upd (upd F 49 (nI md)) 85 (nI im)) 97 (nI ct)) 98 (nI fl)) 99 (nI rmm)) 101 tds) 102 (nI op)) 111 (nI tp)) 115 (nI wn)) 116 (-1)) 117 (nI fu869)) 118 rs0) 119 uc0) 120 (nI rd)) 121 ma0) 122 mc0) 123 ca) 124 mo) 125 nw) 126 isn) 128 (nI on)) 130 (nI idn)) 102 (nI op)) 111 (nI tp)) 115 (nI wn)) 116 (-1)) 117 (nI fu869)) 118 rs0) 119 uc0) 125 nw) 126 isn) B) := hD
          refine pc_V0 (G := G) (As := [.int (nI n9), .int 2, .int 0, .int (nI 0)]) (rest := []) hx hb hml hown hq hE hX pX0_al hP hD hS hA hl.1 (R_leaves2 l G h0 a (upd (upd (upd (upd (upd (upd (upd (upd (upd (upd (upd (upd (upd (upd (upd (upd (upd (upd (upd (upd (upd (upd F 49 (nI md)) 85 (nI im)) 97 (nI ct)) 98 (nI fl)) 99 (nI rmm)) 101 tds) 102 (nI op)) 111 (nI tp)) 115 (nI wn)) 116 (-1)) 117 (nI fu869)) 118 rs0) 119 uc0) 120 (nI rd)) 121 ma0) 122 mc0) 123 ca) 124 mo) 125 nw) 126 isn) 128 (nI on)) 130 (nI idn)) B Xs gh nd T nm wr lz dc fd md pr bk M rmm (Phi gh ps op (rkN gh n9 false)) op wn fu869 rd on idn fl ct n9 0 0 mt ps yy bf wf (nI tp) nw isn rs0 uc0 hR1.ln (by omega) hb1 hrf hv9) (gV pw_2050 pw_2051 pw_2052 pw_1523 pw_2049) hV_X12_leaves 0 9 rfl rfl rfl rfl (Nat.le_of_ble_eq_true rfl) dX12_beginsNow_652 ⟨Nat.le_of_ble_eq_true rfl, Nat.le_of_ble_eq_true rfl⟩ ⟨Nat.le_of_ble_eq_true rfl, Nat.le_of_ble_eq_true rfl⟩ (fun v883 u881 H locs hw882 hP hD hS => ?_)
          obtain ⟨op884, tp885, wn886, fu887, en888, nw889, is890, rs891, uc892, X893⟩ := u881
          obtain ⟨hw882, h894⟩ := hw882
          replace h894 : Nx Xs X893 gh nd T nm wr lz dc fd md pr bk M rmm fu869 (Phi gh ps op (rkN gh n9 false)) op884 tp885 wn886 fu887 rd on idn fl ct en888 nw889 is890 uc892 := h894
          obtain rfl : v883 = none := hw882
          have hP : va_P G.1 pCl (mW G h0 a (upd (upd (upd (upd (upd (upd (upd (upd (upd (upd (upd (upd (upd (upd (upd (upd (upd (upd (upd (upd (upd (upd F 49 (nI md)) 85 (nI im)) 97 (nI ct)) 98 (nI fl)) 99 (nI rmm)) 101 tds) 102 (nI op884)) 111 (nI tp885)) 115 (nI wn886)) 116 en888) 117 (nI fu887)) 118 rs891) 119 uc892) 120 (nI rd)) 121 ma0) 122 mc0) 123 ca) 124 mo) 125 nw889) 126 is890) 128 (nI on)) 130 (nI idn)) X893) _ := hP
          have hD : va_D A (mW G h0 a (upd (upd (upd (upd (upd (upd (upd (upd (upd (upd (upd (upd (upd (upd (upd (upd (upd (upd (upd (upd (upd (upd F 49 (nI md)) 85 (nI im)) 97 (nI ct)) 98 (nI fl)) 99 (nI rmm)) 101 tds) 102 (nI op884)) 111 (nI tp885)) 115 (nI wn886)) 116 en888) 117 (nI fu887)) 118 rs891) 119 uc892) 120 (nI rd)) 121 ma0) 122 mc0) 123 ca) 124 mo) 125 nw889) 126 is890) 128 (nI on)) 130 (nI idn)) X893) := hD
          refine W.widen (k := 0) (n := 0) (Nat.le_of_ble_eq_true rfl) (Nat.le_of_ble_eq_true rfl) ?_
          refine W.eq (g2 := F0 m 655 ls []) rfl ?_
          refine lv_goto (tgt := 712) hx hb dX12_beginsNow_655 (by decide) ?_
          have hz895 : Nx Xs X893 gh nd T nm wr lz dc fd md pr bk M rmm fu (Phi gh ps op (rkN gh n9 false)) op884 tp885 wn886 fu887 rd on idn fl ct en888 nw889 is890 uc892 := (Nx.le (fu1 := fu869) h894 (by omega))
          have hP : va_P G.1 pCl (mW G h0 a (upd (upd (upd (upd (upd (upd (upd (upd (upd (upd (upd (upd (upd (upd (upd (upd (upd (upd (upd (upd (upd (upd F 49 (nI md)) 85 (nI im)) 97 (nI ct)) 98 (nI fl)) 99 (nI rmm)) 101 tds) 102 (nI op884)) 111 (nI tp885)) 115 (nI wn886)) 116 en888) 117 (nI fu887)) 118 rs891) 119 uc892) 120 (nI rd)) 121 ma0) 122 mc0) 123 ca) 124 mo) 125 nw889) 126 is890) 128 (nI on)) 130 (nI idn)) X893) _ := hP
          have hD : va_D A (mW G h0 a (upd (upd (upd (upd (upd (upd (upd (upd (upd (upd (upd (upd (upd (upd (upd (upd (upd (upd (upd (upd (upd (upd F 49 (nI md)) 85 (nI im)) 97 (nI ct)) 98 (nI fl)) 99 (nI rmm)) 101 tds) 102 (nI op884)) 111 (nI tp885)) 115 (nI wn886)) 116 en888) 117 (nI fu887)) 118 rs891) 119 uc892) 120 (nI rd)) 121 ma0) 122 mc0) 123 ca) 124 mo) 125 nw889) 126 is890) 128 (nI on)) 130 (nI idn)) X893) := hD
          exact W.vret hx hb hr (fun t9 ht9 hW9 => ⟨⟨_, (op884, tp885, wn886, fu887, en888, nw889, is890, rs891, uc892, on, idn, fl, ct, tds, ma0, mc0, ca, mo, rd, X893), rfl, ⟨rfl, hz895⟩, by rw [ht9]; exact hP, hD⟩, hS.F ht9⟩) hS.2.2 dX12_beginsNow_712
        · obtain ⟨j1, ha1, ha2, ha3⟩ := hR1.bA (uc := uc0) hkd (by omega) (s := 1) (by omega) (by omega) (by decide) (by decide) (by decide) rfl rfl (by omega) hb9
          refine lv_aload_n hx hb dX12_beginsNow_637 rfl (lv_at hl 1 rfl) ?_
          refine r_get (v := .ref (a 12)) hx hb hown hq hE hP 20 47 tFX12_20 (by decide) pw_1442 rfl dX12_beginsNow_638 ?_
          refine lv_iload_n hx hb dX12_beginsNow_641 rfl (lv_at hl 2 rfl) ?_
          refine r_ldi (f := (B 12)) (j := n9) hx hb hE hP 12 (ma_12 G a _) rfl (by omega) (by decide) dX12_beginsNow_642 ?_
          refine lv_topi (fun x896 e897 => ?_)
          obtain rfl : x896 = nI j1 := e897.trans ((congrFun hw12 _).trans ha1)
          refine lv_iconst (v := (-1)) hx hb dX12_beginsNow_643 (by decide) ?_
          refine lv_icmp_ne (tgt := 658) hx hb dX12_beginsNow_644 (by decide) (fun c898 => ?_) (fun c898 => absurd c898 (nI_m1 (by omega)))
          refine lv_aload_n hx hb dX12_beginsNow_658 rfl (lv_at hl 1 rfl) ?_
          refine lv_aload_n hx hb dX12_beginsNow_659 rfl (lv_at hl 1 rfl) ?_
          refine r_get (v := .ref (a 12)) hx hb hown hq hE hP 20 47 tFX12_20 (by decide) pw_1442 rfl dX12_beginsNow_660 ?_
          refine lv_iload_n hx hb dX12_beginsNow_663 rfl (lv_at hl 2 rfl) ?_
          refine r_ldi (f := (B 12)) (j := n9) hx hb hE hP 12 (ma_12 G a _) rfl (by omega) (by decide) dX12_beginsNow_664 ?_
          refine lv_topi (fun x899 e900 => ?_)
          obtain rfl : x899 = nI j1 := e900.trans ((congrFun hw12 _).trans ha1)
          have hP : va_P G.1 pCl (mW G h0 a (upd (upd (upd (upd (upd (upd (upd (upd (upd (upd (upd (upd (upd (upd (upd (upd (upd (upd (upd (upd (upd (upd F 49 (nI md)) 85 (nI im)) 97 (nI ct)) 98 (nI fl)) 99 (nI rmm)) 101 tds) 102 (nI op)) 111 (nI tp)) 115 (nI wn)) 116 (-1)) 117 (nI fu869)) 118 rs0) 119 uc0) 120 (nI rd)) 121 ma0) 122 mc0) 123 ca) 124 mo) 125 nw) 126 isn) 128 (nI on)) 130 (nI idn)) B) _ := hP
          have hD : va_D A (mW G h0 a (upd (upd (upd (upd (upd (upd (upd (upd (upd (upd (upd (upd (upd (upd (upd (upd (upd (upd (upd (upd (upd (upd F 49 (nI md)) 85 (nI im)) 97 (nI ct)) 98 (nI fl)) 99 (nI rmm)) 101 tds) 102 (nI op)) 111 (nI tp)) 115 (nI wn)) 116 (-1)) 117 (nI fu869)) 118 rs0) 119 uc0) 120 (nI rd)) 121 ma0) 122 mc0) 123 ca) 124 mo) 125 nw) 126 isn) 128 (nI on)) 130 (nI idn)) B) := hD
          refine pc_V0 (G := G) (As := [.int (nI j1)]) (rest := []) hx hb hml hown hq hE hX pX0_al hP hD hS hA hl.1 (R_begin l G h0 a (upd (upd (upd (upd (upd (upd (upd (upd (upd (upd (upd (upd (upd (upd (upd (upd (upd (upd (upd (upd (upd (upd F 49 (nI md)) 85 (nI im)) 97 (nI ct)) 98 (nI fl)) 99 (nI rmm)) 101 tds) 102 (nI op)) 111 (nI tp)) 115 (nI wn)) 116 (-1)) 117 (nI fu869)) 118 rs0) 119 uc0) 120 (nI rd)) 121 ma0) 122 mc0) 123 ca) 124 mo) 125 nw) 126 isn) 128 (nI on)) 130 (nI idn)) B (nI j1)) (gV pw_2016 pw_2017 pw_2018 pw_1523 pw_2002) hV_X12_begin 0 9 rfl rfl rfl rfl (Nat.le_of_ble_eq_true rfl) dX12_beginsNow_665 ⟨Nat.le_of_ble_eq_true rfl, Nat.le_of_ble_eq_true rfl⟩ ⟨Nat.le_of_ble_eq_true rfl, Nat.le_of_ble_eq_true rfl⟩ (fun v903 u901 H locs hw902 hP hD hS => ?_)
          obtain rfl : v903 = none := hw902
          have hP : va_P G.1 pCl (mW G h0 a (upd (upd (upd (upd (upd (upd (upd (upd (upd (upd (upd (upd (upd (upd (upd (upd (upd (upd (upd (upd (upd (upd F 49 (nI md)) 85 (nI im)) 97 (nI ct)) 98 (nI fl)) 99 (nI rmm)) 101 tds) 102 (nI op)) 111 (nI tp)) 115 (nI wn)) 116 (-1)) 117 (nI fu869)) 118 rs0) 119 uc0) 120 (nI rd)) 121 ma0) 122 mc0) 123 ca) 124 mo) 125 (nI j1)) 126 1) 128 (nI on)) 130 (nI idn)) B) _ := hP
          have hD : va_D A (mW G h0 a (upd (upd (upd (upd (upd (upd (upd (upd (upd (upd (upd (upd (upd (upd (upd (upd (upd (upd (upd (upd (upd (upd F 49 (nI md)) 85 (nI im)) 97 (nI ct)) 98 (nI fl)) 99 (nI rmm)) 101 tds) 102 (nI op)) 111 (nI tp)) 115 (nI wn)) 116 (-1)) 117 (nI fu869)) 118 rs0) 119 uc0) 120 (nI rd)) 121 ma0) 122 mc0) 123 ca) 124 mo) 125 (nI j1)) 126 1) 128 (nI on)) 130 (nI idn)) B) := hD
          refine W.widen (k := 0) (n := 0) (Nat.le_of_ble_eq_true rfl) (Nat.le_of_ble_eq_true rfl) ?_
          refine W.eq (g2 := F0 m 668 ls []) rfl ?_
          refine lv_goto (tgt := 712) hx hb dX12_beginsNow_668 (by decide) ?_
          have hz904 : Nx Xs B gh nd T nm wr lz dc fd md pr bk M rmm fu (Phi gh ps op (rkN gh n9 false)) op tp wn fu869 rd on idn fl ct ((-1) : Int32) (nI j1) (1 : Int32) uc0 := (Nx.le (fu1 := fu869) ha3 (by omega))
          have hP : va_P G.1 pCl (mW G h0 a (upd (upd (upd (upd (upd (upd (upd (upd (upd (upd (upd (upd (upd (upd (upd (upd (upd (upd (upd (upd (upd (upd F 49 (nI md)) 85 (nI im)) 97 (nI ct)) 98 (nI fl)) 99 (nI rmm)) 101 tds) 102 (nI op)) 111 (nI tp)) 115 (nI wn)) 116 ((-1) : Int32)) 117 (nI fu869)) 118 rs0) 119 uc0) 120 (nI rd)) 121 ma0) 122 mc0) 123 ca) 124 mo) 125 (nI j1)) 126 (1 : Int32)) 128 (nI on)) 130 (nI idn)) B) _ := hP
          have hD : va_D A (mW G h0 a (upd (upd (upd (upd (upd (upd (upd (upd (upd (upd (upd (upd (upd (upd (upd (upd (upd (upd (upd (upd (upd (upd F 49 (nI md)) 85 (nI im)) 97 (nI ct)) 98 (nI fl)) 99 (nI rmm)) 101 tds) 102 (nI op)) 111 (nI tp)) 115 (nI wn)) 116 ((-1) : Int32)) 117 (nI fu869)) 118 rs0) 119 uc0) 120 (nI rd)) 121 ma0) 122 mc0) 123 ca) 124 mo) 125 (nI j1)) 126 (1 : Int32)) 128 (nI on)) 130 (nI idn)) B) := hD
          exact W.vret hx hb hr (fun t9 ht9 hW9 => ⟨⟨_, (op, tp, wn, fu869, ((-1) : Int32), (nI j1), (1 : Int32), rs0, uc0, on, idn, fl, ct, tds, ma0, mc0, ca, mo, rd, B), rfl, ⟨rfl, hz904⟩, by rw [ht9]; exact hP, hD⟩, hS.F ht9⟩) hS.2.2 dX12_beginsNow_712
  · clear hn44 hkr hko
    refine lv_aload_n hx hb dX12_beginsNow_0 rfl (lv_at hl 0 rfl) ?_
    refine r_get (v := .ref (a 9)) hx hb hown hq hE hP 17 38 tFX12_17 (by decide) pw_1439 rfl dX12_beginsNow_1 ?_
    refine lv_iload_n hx hb dX12_beginsNow_4 rfl (lv_at hl 1 rfl) ?_
    refine r_ldi (f := (B 9)) (j := n9) hx hb hE hP 9 (ma_9 G a _) rfl (by omega) (by decide) dX12_beginsNow_5 ?_
    refine lv_topi (fun x905 e906 => ?_)
    obtain rfl : x905 = 38 := e906.trans ((congrFun hw9 _).trans hkd)
    refine lv_istore_n (lv' := [(2, .int 38), (0, .ref h0), (1, .int (nI n9))]) hx hb dX12_beginsNow_6 rfl hl (by decide) rfl (fun ls hl => ?_)
    refine lv_iload_n hx hb dX12_beginsNow_7 rfl (lv_at hl 0 rfl) ?_
    refine lv_bipush (v := 30) hx hb dX12_beginsNow_8 (by decide) ?_
    refine lv_icmp_lt (tgt := 41) hx hb dX12_beginsNow_10 (by decide) (fun c907 => absurd c907 (by decide)) (fun c907 => ?_)
    refine lv_iload_n hx hb dX12_beginsNow_13 rfl (lv_at hl 0 rfl) ?_
    refine lv_bipush (v := 31) hx hb dX12_beginsNow_14 (by decide) ?_
    refine lv_icmp_eq (tgt := 41) hx hb dX12_beginsNow_16 (by decide) (fun c908 => absurd c908 (by decide)) (fun c908 => ?_)
    refine lv_iload_n hx hb dX12_beginsNow_19 rfl (lv_at hl 0 rfl) ?_
    refine lv_bipush (v := 43) hx hb dX12_beginsNow_20 (by decide) ?_
    refine lv_icmp_eq (tgt := 41) hx hb dX12_beginsNow_22 (by decide) (fun c909 => absurd c909 (by decide)) (fun c909 => ?_)
    refine lv_aload_n hx hb dX12_beginsNow_25 rfl (lv_at hl 1 rfl) ?_
    refine lv_iload_n hx hb dX12_beginsNow_26 rfl (lv_at hl 2 rfl) ?_
    have hP : va_P G.1 pCl (mW G h0 a (upd (upd (upd (upd (upd (upd (upd (upd (upd (upd (upd (upd (upd (upd (upd (upd (upd (upd (upd (upd (upd (upd F 49 (nI md)) 85 (nI im)) 97 (nI ct)) 98 (nI fl)) 99 (nI rmm)) 101 tds) 102 (nI op)) 111 (nI tp)) 115 (nI wn)) 116 (-1)) 117 (nI fu)) 118 rs0) 119 uc0) 120 (nI rd)) 121 ma0) 122 mc0) 123 ca) 124 mo) 125 nw) 126 isn) 128 (nI on)) 130 (nI idn)) B) _ := hP
    have hD : va_D A (mW G h0 a (upd (upd (upd (upd (upd (upd (upd (upd (upd (upd (upd (upd (upd (upd (upd (upd (upd (upd (upd (upd (upd (upd F 49 (nI md)) 85 (nI im)) 97 (nI ct)) 98 (nI fl)) 99 (nI rmm)) 101 tds) 102 (nI op)) 111 (nI tp)) 115 (nI wn)) 116 (-1)) 117 (nI fu)) 118 rs0) 119 uc0) 120 (nI rd)) 121 ma0) 122 mc0) 123 ca) 124 mo) 125 nw) 126 isn) 128 (nI on)) 130 (nI idn)) B) := hD
    refine pc_V0 (G := G) (As := [.int (nI n9)]) (rest := []) hx hb hml hown hq hE hX pX0_al hP hD hS hA hl.1 (R_isFirst l G h0 a (upd (upd (upd (upd (upd (upd (upd (upd (upd (upd (upd (upd (upd (upd (upd (upd (upd (upd (upd (upd (upd (upd F 49 (nI md)) 85 (nI im)) 97 (nI ct)) 98 (nI fl)) 99 (nI rmm)) 101 tds) 102 (nI op)) 111 (nI tp)) 115 (nI wn)) 116 (-1)) 117 (nI fu)) 118 rs0) 119 uc0) 120 (nI rd)) 121 ma0) 122 mc0) 123 ca) 124 mo) 125 nw) 126 isn) 128 (nI on)) 130 (nI idn)) B n9 nd (by omega) (by omega) (hR.upP hR.rt.2.2)) (gV pw_2066 pw_2067 pw_2068 pw_1523 pw_2020) hV_X12_isFirst 0 9 rfl rfl rfl rfl (Nat.le_of_ble_eq_true rfl) dX12_beginsNow_27 ⟨Nat.le_of_ble_eq_true rfl, Nat.le_of_ble_eq_true rfl⟩ ⟨Nat.le_of_ble_eq_true rfl, Nat.le_of_ble_eq_true rfl⟩ (fun v912 u910 H locs hw911 hP hD hS => ?_)
    obtain ⟨r913, rfl⟩ : ∃ z, z = u910 := ⟨_, rfl⟩
    obtain ⟨hw911, h914⟩ := hw911
    replace h914 : r913 ≤ 1 := h914
    obtain rfl : v912 = some (.int (nI r913)) := hw911
    have hP : va_P G.1 pCl (mW G h0 a (upd (upd (upd (upd (upd (upd (upd (upd (upd (upd (upd (upd (upd (upd (upd (upd (upd (upd (upd (upd (upd (upd F 49 (nI md)) 85 (nI im)) 97 (nI ct)) 98 (nI fl)) 99 (nI rmm)) 101 tds) 102 (nI op)) 111 (nI tp)) 115 (nI wn)) 116 (-1)) 117 (nI fu)) 118 rs0) 119 uc0) 120 (nI rd)) 121 ma0) 122 mc0) 123 ca) 124 mo) 125 nw) 126 isn) 128 (nI on)) 130 (nI idn)) B) _ := hP
    have hD : va_D A (mW G h0 a (upd (upd (upd (upd (upd (upd (upd (upd (upd (upd (upd (upd (upd (upd (upd (upd (upd (upd (upd (upd (upd (upd F 49 (nI md)) 85 (nI im)) 97 (nI ct)) 98 (nI fl)) 99 (nI rmm)) 101 tds) 102 (nI op)) 111 (nI tp)) 115 (nI wn)) 116 (-1)) 117 (nI fu)) 118 rs0) 119 uc0) 120 (nI rd)) 121 ma0) 122 mc0) 123 ca) 124 mo) 125 nw) 126 isn) 128 (nI on)) 130 (nI idn)) B) := hD
    refine W.widen (k := 0) (n := 0) (Nat.le_of_ble_eq_true rfl) (Nat.le_of_ble_eq_true rfl) ?_
    refine W.eq (g2 := F0 m 30 ls [.int (nI r913)]) rfl ?_
    refine lv_if_ne (tgt := 41) hx hb dX12_beginsNow_30 (by decide) (fun c915 => ?_) (fun c915 => ?_)
    · have n916 : ¬ (r913 = 0) := fun h9 => c915 ((nI_eq (a := r913) (b := 0) (by omega) (by omega)).mpr h9)
      refine lv_iload_n hx hb dX12_beginsNow_41 rfl (lv_at hl 0 rfl) ?_
      refine lv_tableIn (tgt := 671) (off := 629) hx hb dX12_beginsNow_42 (by decide) (by decide) (by decide) (by decide) ?_
      refine lv_aload_n hx hb dX12_beginsNow_671 rfl (lv_at hl 1 rfl) ?_
      refine lv_iload_n hx hb dX12_beginsNow_672 rfl (lv_at hl 2 rfl) ?_
      refine lv_iconst (v := 3) hx hb dX12_beginsNow_673 (by decide) ?_
      refine lv_iconst (v := 0) hx hb dX12_beginsNow_674 (by decide) ?_
      refine lv_iconst (v := 0) hx hb dX12_beginsNow_675 (by decide) ?_
      obtain ⟨hb1, hk9, hrf⟩ := hR.bLv (kd := 3) hkd (Or.inr (Or.inl ⟨rfl, rfl⟩))
      have hlp9 := ((hk9.resolve_left (fun h => absurd h.1 (by decide))).resolve_left (fun h => absurd h.1 (by decide))).2
      have hP : va_P G.1 pCl (mW G h0 a (upd (upd (upd (upd (upd (upd (upd (upd (upd (upd (upd (upd (upd (upd (upd (upd (upd (upd (upd (upd (upd (upd (upd (upd (upd (upd (upd (upd (upd (upd (upd F 49 (nI md)) 85 (nI im)) 97 (nI ct)) 98 (nI fl)) 99 (nI rmm)) 101 tds) 102 (nI op)) 111 (nI tp)) 115 (nI wn)) 116 (-1)) 117 (nI fu)) 118 rs0) 119 uc0) 120 (nI rd)) 121 ma0) 122 mc0) 123 ca) 124 mo) 125 nw) 126 isn) 128 (nI on)) 130 (nI idn)) 102 (nI op)) 111 (nI tp)) 115 (nI wn)) 116 (-1)) 117 (nI fu)) 118 rs0) 119 uc0) 125 nw) 126 isn) B) _ := hP
      have hD : va_D A (mW G h0 a (upd (upd (upd (upd (upd (upd (upd (upd (upd (upd (upd (upd (upd (upd (upd (upd (upd (upd (upd (upd (upd (upd (upd (upd (upd (upd (upd (upd (upd (upd (upd F 49 (nI md)) 85 (nI im)) 97 (nI ct)) 98 (nI fl)) 99 (nI rmm)) 101 tds) 102 (nI op)) 111 (nI tp)) 115 (nI wn)) 116 (-1)) 117 (nI fu)) 118 rs0) 119 uc0) 120 (nI rd)) 121 ma0) 122 mc0) 123 ca) 124 mo) 125 nw) 126 isn) 128 (nI on)) 130 (nI idn)) 102 (nI op)) 111 (nI tp)) 115 (nI wn)) 116 (-1)) 117 (nI fu)) 118 rs0) 119 uc0) 125 nw) 126 isn) B) := hD
      refine pc_V0 (G := G) (As := [.int (nI n9), .int 3, .int 0, .int (nI 0)]) (rest := []) hx hb hml hown hq hE hX pX0_al hP hD hS hA hl.1 (R_leaves3 l G h0 a (upd (upd (upd (upd (upd (upd (upd (upd (upd (upd (upd (upd (upd (upd (upd (upd (upd (upd (upd (upd (upd (upd F 49 (nI md)) 85 (nI im)) 97 (nI ct)) 98 (nI fl)) 99 (nI rmm)) 101 tds) 102 (nI op)) 111 (nI tp)) 115 (nI wn)) 116 (-1)) 117 (nI fu)) 118 rs0) 119 uc0) 120 (nI rd)) 121 ma0) 122 mc0) 123 ca) 124 mo) 125 nw) 126 isn) 128 (nI on)) 130 (nI idn)) B Xs gh nd T nm wr lz dc fd md pr bk M rmm (Phi gh ps op (rkN gh n9 false)) op wn fu rd on idn fl ct n9 0 0 mt ps yy bf wf (nI tp) nw isn rs0 uc0 hR.ln (by omega) hb1 hrf hlp9 ⟨38, hkd, by omega, by unfold JK; omega⟩) (gV pw_2050 pw_2051 pw_2052 pw_1523 pw_2049) hV_X12_leaves 0 9 rfl rfl rfl rfl (Nat.le_of_ble_eq_true rfl) dX12_beginsNow_676 ⟨Nat.le_of_ble_eq_true rfl, Nat.le_of_ble_eq_true rfl⟩ ⟨Nat.le_of_ble_eq_true rfl, Nat.le_of_ble_eq_true rfl⟩ (fun v919 u917 H locs hw918 hP hD hS => ?_)
      obtain ⟨op920, tp921, wn922, fu923, en924, nw925, is926, rs927, uc928, X929⟩ := u917
      obtain ⟨hw918, h930⟩ := hw918
      replace h930 : Nx Xs X929 gh nd T nm wr lz dc fd md pr bk M rmm fu (Phi gh ps op (rkN gh n9 false)) op920 tp921 wn922 fu923 rd on idn fl ct en924 nw925 is926 uc928 := h930
      obtain rfl : v919 = none := hw918
      have hP : va_P G.1 pCl (mW G h0 a (upd (upd (upd (upd (upd (upd (upd (upd (upd (upd (upd (upd (upd (upd (upd (upd (upd (upd (upd (upd (upd (upd F 49 (nI md)) 85 (nI im)) 97 (nI ct)) 98 (nI fl)) 99 (nI rmm)) 101 tds) 102 (nI op920)) 111 (nI tp921)) 115 (nI wn922)) 116 en924) 117 (nI fu923)) 118 rs927) 119 uc928) 120 (nI rd)) 121 ma0) 122 mc0) 123 ca) 124 mo) 125 nw925) 126 is926) 128 (nI on)) 130 (nI idn)) X929) _ := hP
      have hD : va_D A (mW G h0 a (upd (upd (upd (upd (upd (upd (upd (upd (upd (upd (upd (upd (upd (upd (upd (upd (upd (upd (upd (upd (upd (upd F 49 (nI md)) 85 (nI im)) 97 (nI ct)) 98 (nI fl)) 99 (nI rmm)) 101 tds) 102 (nI op920)) 111 (nI tp921)) 115 (nI wn922)) 116 en924) 117 (nI fu923)) 118 rs927) 119 uc928) 120 (nI rd)) 121 ma0) 122 mc0) 123 ca) 124 mo) 125 nw925) 126 is926) 128 (nI on)) 130 (nI idn)) X929) := hD
      refine W.widen (k := 0) (n := 0) (Nat.le_of_ble_eq_true rfl) (Nat.le_of_ble_eq_true rfl) ?_
      refine W.eq (g2 := F0 m 679 ls []) rfl ?_
      refine lv_goto (tgt := 712) hx hb dX12_beginsNow_679 (by decide) ?_
      have hz931 : Nx Xs X929 gh nd T nm wr lz dc fd md pr bk M rmm fu (Phi gh ps op (rkN gh n9 false)) op920 tp921 wn922 fu923 rd on idn fl ct en924 nw925 is926 uc928 := h930
      have hP : va_P G.1 pCl (mW G h0 a (upd (upd (upd (upd (upd (upd (upd (upd (upd (upd (upd (upd (upd (upd (upd (upd (upd (upd (upd (upd (upd (upd F 49 (nI md)) 85 (nI im)) 97 (nI ct)) 98 (nI fl)) 99 (nI rmm)) 101 tds) 102 (nI op920)) 111 (nI tp921)) 115 (nI wn922)) 116 en924) 117 (nI fu923)) 118 rs927) 119 uc928) 120 (nI rd)) 121 ma0) 122 mc0) 123 ca) 124 mo) 125 nw925) 126 is926) 128 (nI on)) 130 (nI idn)) X929) _ := hP
      have hD : va_D A (mW G h0 a (upd (upd (upd (upd (upd (upd (upd (upd (upd (upd (upd (upd (upd (upd (upd (upd (upd (upd (upd (upd (upd (upd F 49 (nI md)) 85 (nI im)) 97 (nI ct)) 98 (nI fl)) 99 (nI rmm)) 101 tds) 102 (nI op920)) 111 (nI tp921)) 115 (nI wn922)) 116 en924) 117 (nI fu923)) 118 rs927) 119 uc928) 120 (nI rd)) 121 ma0) 122 mc0) 123 ca) 124 mo) 125 nw925) 126 is926) 128 (nI on)) 130 (nI idn)) X929) := hD
      exact W.vret hx hb hr (fun t9 ht9 hW9 => ⟨⟨_, (op920, tp921, wn922, fu923, en924, nw925, is926, rs927, uc928, on, idn, fl, ct, tds, ma0, mc0, ca, mo, rd, X929), rfl, ⟨rfl, hz931⟩, by rw [ht9]; exact hP, hD⟩, hS.F ht9⟩) hS.2.2 dX12_beginsNow_712
    · have n932 : r913 = 0 := (nI_eq (a := r913) (b := 0) (by omega) (by omega)).mp c915
      refine lv_aload_n hx hb dX12_beginsNow_33 rfl (lv_at hl 1 rfl) ?_
      have hP : va_P G.1 pCl (mW G h0 a (upd (upd (upd (upd (upd (upd (upd (upd (upd (upd (upd (upd (upd (upd (upd (upd (upd (upd (upd (upd (upd (upd (upd (upd F 49 (nI md)) 85 (nI im)) 97 (nI ct)) 98 (nI fl)) 99 (nI rmm)) 101 tds) 102 (nI op)) 111 (nI tp)) 115 (nI wn)) 116 (-1)) 117 (nI fu)) 118 rs0) 119 uc0) 120 (nI rd)) 121 ma0) 122 mc0) 123 ca) 124 mo) 125 nw) 126 isn) 128 (nI on)) 130 (nI idn)) 116 (-1)) 117 (nI fu)) B) _ := hP
      have hD : va_D A (mW G h0 a (upd (upd (upd (upd (upd (upd (upd (upd (upd (upd (upd (upd (upd (upd (upd (upd (upd (upd (upd (upd (upd (upd (upd (upd F 49 (nI md)) 85 (nI im)) 97 (nI ct)) 98 (nI fl)) 99 (nI rmm)) 101 tds) 102 (nI op)) 111 (nI tp)) 115 (nI wn)) 116 (-1)) 117 (nI fu)) 118 rs0) 119 uc0) 120 (nI rd)) 121 ma0) 122 mc0) 123 ca) 124 mo) 125 nw) 126 isn) 128 (nI on)) 130 (nI idn)) 116 (-1)) 117 (nI fu)) B) := hD
      refine pc_V0 (G := G) (As := []) (rest := []) hx hb hml hown hq hE hX pX0_al hP hD hS hA hl.1 (R_pays l G h0 a (upd (upd (upd (upd (upd (upd (upd (upd (upd (upd (upd (upd (upd (upd (upd (upd (upd (upd (upd (upd (upd (upd F 49 (nI md)) 85 (nI im)) 97 (nI ct)) 98 (nI fl)) 99 (nI rmm)) 101 tds) 102 (nI op)) 111 (nI tp)) 115 (nI wn)) 116 (-1)) 117 (nI fu)) 118 rs0) 119 uc0) 120 (nI rd)) 121 ma0) 122 mc0) 123 ca) 124 mo) 125 nw) 126 isn) 128 (nI on)) 130 (nI idn)) B fu (-1) (by omega)) (gV pw_2026 pw_2027 pw_2028 pw_1523 pw_2000) hV_X12_pays 0 9 rfl rfl rfl rfl (Nat.le_of_ble_eq_true rfl) dX12_beginsNow_34 ⟨Nat.le_of_ble_eq_true rfl, Nat.le_of_ble_eq_true rfl⟩ ⟨Nat.le_of_ble_eq_true rfl, Nat.le_of_ble_eq_true rfl⟩ (fun v935 u933 H locs hw934 hP hD hS => ?_)
      obtain ⟨r936, fu937, en938⟩ := u933
      obtain ⟨hw934, h939, h940, h941, h942⟩ := hw934
      replace h939 : r936 ≤ 1 := h939
      replace h940 : fu937 + r936 = fu := h940
      replace h941 : If (r936 = 1) (en938 = (-1)) := h941
      replace h942 : If (r936 = 0) (en938 = 2) := h942
      obtain rfl : v935 = some (.int (nI r936)) := hw934
      have hP : va_P G.1 pCl (mW G h0 a (upd (upd (upd (upd (upd (upd (upd (upd (upd (upd (upd (upd (upd (upd (upd (upd (upd (upd (upd (upd (upd (upd F 49 (nI md)) 85 (nI im)) 97 (nI ct)) 98 (nI fl)) 99 (nI rmm)) 101 tds) 102 (nI op)) 111 (nI tp)) 115 (nI wn)) 116 en938) 117 (nI fu937)) 118 rs0) 119 uc0) 120 (nI rd)) 121 ma0) 122 mc0) 123 ca) 124 mo) 125 nw) 126 isn) 128 (nI on)) 130 (nI idn)) B) _ := hP
      have hD : va_D A (mW G h0 a (upd (upd (upd (upd (upd (upd (upd (upd (upd (upd (upd (upd (upd (upd (upd (upd (upd (upd (upd (upd (upd (upd F 49 (nI md)) 85 (nI im)) 97 (nI ct)) 98 (nI fl)) 99 (nI rmm)) 101 tds) 102 (nI op)) 111 (nI tp)) 115 (nI wn)) 116 en938) 117 (nI fu937)) 118 rs0) 119 uc0) 120 (nI rd)) 121 ma0) 122 mc0) 123 ca) 124 mo) 125 nw) 126 isn) 128 (nI on)) 130 (nI idn)) B) := hD
      refine W.widen (k := 0) (n := 0) (Nat.le_of_ble_eq_true rfl) (Nat.le_of_ble_eq_true rfl) ?_
      refine W.eq (g2 := F0 m 37 ls [.int (nI r936)]) rfl ?_
      rcases (show r936 = 0 ∨ r936 = 1 by omega) with hr0 | hr0
      · have hen := h942 hr0
        subst hr0
        have hP : va_P G.1 pCl (mW G h0 a (upd (upd (upd (upd (upd (upd (upd (upd (upd (upd (upd (upd (upd (upd (upd (upd (upd (upd (upd (upd (upd (upd F 49 (nI md)) 85 (nI im)) 97 (nI ct)) 98 (nI fl)) 99 (nI rmm)) 101 tds) 102 (nI op)) 111 (nI tp)) 115 (nI wn)) 116 en938) 117 (nI fu937)) 118 rs0) 119 uc0) 120 (nI rd)) 121 ma0) 122 mc0) 123 ca) 124 mo) 125 nw) 126 isn) 128 (nI on)) 130 (nI idn)) B) _ := hP
        have hD : va_D A (mW G h0 a (upd (upd (upd (upd (upd (upd (upd (upd (upd (upd (upd (upd (upd (upd (upd (upd (upd (upd (upd (upd (upd (upd F 49 (nI md)) 85 (nI im)) 97 (nI ct)) 98 (nI fl)) 99 (nI rmm)) 101 tds) 102 (nI op)) 111 (nI tp)) 115 (nI wn)) 116 en938) 117 (nI fu937)) 118 rs0) 119 uc0) 120 (nI rd)) 121 ma0) 122 mc0) 123 ca) 124 mo) 125 nw) 126 isn) 128 (nI on)) 130 (nI idn)) B) := hD
        refine W.eq (g2 := F0 m 37 ls [.int 0]) rfl ?_
        refine lv_if_ne (tgt := 41) hx hb dX12_beginsNow_37 (by decide) (fun c943 => absurd c943 (by decide)) (fun c943 => ?_)
        have hz944 : Nx Xs B gh nd T nm wr lz dc fd md pr bk M rmm fu (Phi gh ps op (rkN gh n9 false)) op tp wn fu937 rd on idn fl ct en938 nw isn uc0 := (hR.stop Sta.rfl hR.hp (by rw [hen]; decide) (by rw [hen]; decide))
        have hP : va_P G.1 pCl (mW G h0 a (upd (upd (upd (upd (upd (upd (upd (upd (upd (upd (upd (upd (upd (upd (upd (upd (upd (upd (upd (upd (upd (upd F 49 (nI md)) 85 (nI im)) 97 (nI ct)) 98 (nI fl)) 99 (nI rmm)) 101 tds) 102 (nI op)) 111 (nI tp)) 115 (nI wn)) 116 en938) 117 (nI fu937)) 118 rs0) 119 uc0) 120 (nI rd)) 121 ma0) 122 mc0) 123 ca) 124 mo) 125 nw) 126 isn) 128 (nI on)) 130 (nI idn)) B) _ := hP
        have hD : va_D A (mW G h0 a (upd (upd (upd (upd (upd (upd (upd (upd (upd (upd (upd (upd (upd (upd (upd (upd (upd (upd (upd (upd (upd (upd F 49 (nI md)) 85 (nI im)) 97 (nI ct)) 98 (nI fl)) 99 (nI rmm)) 101 tds) 102 (nI op)) 111 (nI tp)) 115 (nI wn)) 116 en938) 117 (nI fu937)) 118 rs0) 119 uc0) 120 (nI rd)) 121 ma0) 122 mc0) 123 ca) 124 mo) 125 nw) 126 isn) 128 (nI on)) 130 (nI idn)) B) := hD
        exact W.vret hx hb hr (fun t9 ht9 hW9 => ⟨⟨_, (op, tp, wn, fu937, en938, nw, isn, rs0, uc0, on, idn, fl, ct, tds, ma0, mc0, ca, mo, rd, B), rfl, ⟨rfl, hz944⟩, by rw [ht9]; exact hP, hD⟩, hS.F ht9⟩) hS.2.2 dX12_beginsNow_40
      · obtain rfl : en938 = _ := h941 hr0
        subst hr0
        have hP : va_P G.1 pCl (mW G h0 a (upd (upd (upd (upd (upd (upd (upd (upd (upd (upd (upd (upd (upd (upd (upd (upd (upd (upd (upd (upd (upd (upd F 49 (nI md)) 85 (nI im)) 97 (nI ct)) 98 (nI fl)) 99 (nI rmm)) 101 tds) 102 (nI op)) 111 (nI tp)) 115 (nI wn)) 116 (-1)) 117 (nI fu937)) 118 rs0) 119 uc0) 120 (nI rd)) 121 ma0) 122 mc0) 123 ca) 124 mo) 125 nw) 126 isn) 128 (nI on)) 130 (nI idn)) B) _ := hP
        have hD : va_D A (mW G h0 a (upd (upd (upd (upd (upd (upd (upd (upd (upd (upd (upd (upd (upd (upd (upd (upd (upd (upd (upd (upd (upd (upd F 49 (nI md)) 85 (nI im)) 97 (nI ct)) 98 (nI fl)) 99 (nI rmm)) 101 tds) 102 (nI op)) 111 (nI tp)) 115 (nI wn)) 116 (-1)) 117 (nI fu937)) 118 rs0) 119 uc0) 120 (nI rd)) 121 ma0) 122 mc0) 123 ca) 124 mo) 125 nw) 126 isn) 128 (nI on)) 130 (nI idn)) B) := hD
        refine W.eq (g2 := F0 m 37 ls [.int 1]) rfl ?_
        have hR1 := hR.fuel (show fu937 ≤ fu by omega)
        refine lv_if_ne (tgt := 41) hx hb dX12_beginsNow_37 (by decide) (fun c945 => ?_) (fun c945 => absurd c945 (by decide))
        refine lv_iload_n hx hb dX12_beginsNow_41 rfl (lv_at hl 0 rfl) ?_
        refine lv_tableIn (tgt := 671) (off := 629) hx hb dX12_beginsNow_42 (by decide) (by decide) (by decide) (by decide) ?_
        refine lv_aload_n hx hb dX12_beginsNow_671 rfl (lv_at hl 1 rfl) ?_
        refine lv_iload_n hx hb dX12_beginsNow_672 rfl (lv_at hl 2 rfl) ?_
        refine lv_iconst (v := 3) hx hb dX12_beginsNow_673 (by decide) ?_
        refine lv_iconst (v := 0) hx hb dX12_beginsNow_674 (by decide) ?_
        refine lv_iconst (v := 0) hx hb dX12_beginsNow_675 (by decide) ?_
        obtain ⟨hb1, hk9, hrf⟩ := hR1.bLv (kd := 3) hkd (Or.inr (Or.inl ⟨rfl, rfl⟩))
        have hlp9 := ((hk9.resolve_left (fun h => absurd h.1 (by decide))).resolve_left (fun h => absurd h.1 (by decide))).2
        have hP : va_P G.1 pCl (mW G h0 a (upd (upd (upd (upd (upd (upd (upd (upd (upd (upd (upd (upd (upd (upd (upd (upd (upd (upd (upd (upd (upd (upd (upd (upd (upd (upd (upd (upd (upd (upd (upd F 49 (nI md)) 85 (nI im)) 97 (nI ct)) 98 (nI fl)) 99 (nI rmm)) 101 tds) 102 (nI op)) 111 (nI tp)) 115 (nI wn)) 116 (-1)) 117 (nI fu937)) 118 rs0) 119 uc0) 120 (nI rd)) 121 ma0) 122 mc0) 123 ca) 124 mo) 125 nw) 126 isn) 128 (nI on)) 130 (nI idn)) 102 (nI op)) 111 (nI tp)) 115 (nI wn)) 116 (-1)) 117 (nI fu937)) 118 rs0) 119 uc0) 125 nw) 126 isn) B) _ := hP
        have hD : va_D A (mW G h0 a (upd (upd (upd (upd (upd (upd (upd (upd (upd (upd (upd (upd (upd (upd (upd (upd (upd (upd (upd (upd (upd (upd (upd (upd (upd (upd (upd (upd (upd (upd (upd F 49 (nI md)) 85 (nI im)) 97 (nI ct)) 98 (nI fl)) 99 (nI rmm)) 101 tds) 102 (nI op)) 111 (nI tp)) 115 (nI wn)) 116 (-1)) 117 (nI fu937)) 118 rs0) 119 uc0) 120 (nI rd)) 121 ma0) 122 mc0) 123 ca) 124 mo) 125 nw) 126 isn) 128 (nI on)) 130 (nI idn)) 102 (nI op)) 111 (nI tp)) 115 (nI wn)) 116 (-1)) 117 (nI fu937)) 118 rs0) 119 uc0) 125 nw) 126 isn) B) := hD
        refine pc_V0 (G := G) (As := [.int (nI n9), .int 3, .int 0, .int (nI 0)]) (rest := []) hx hb hml hown hq hE hX pX0_al hP hD hS hA hl.1 (R_leaves3 l G h0 a (upd (upd (upd (upd (upd (upd (upd (upd (upd (upd (upd (upd (upd (upd (upd (upd (upd (upd (upd (upd (upd (upd F 49 (nI md)) 85 (nI im)) 97 (nI ct)) 98 (nI fl)) 99 (nI rmm)) 101 tds) 102 (nI op)) 111 (nI tp)) 115 (nI wn)) 116 (-1)) 117 (nI fu937)) 118 rs0) 119 uc0) 120 (nI rd)) 121 ma0) 122 mc0) 123 ca) 124 mo) 125 nw) 126 isn) 128 (nI on)) 130 (nI idn)) B Xs gh nd T nm wr lz dc fd md pr bk M rmm (Phi gh ps op (rkN gh n9 false)) op wn fu937 rd on idn fl ct n9 0 0 mt ps yy bf wf (nI tp) nw isn rs0 uc0 hR1.ln (by omega) hb1 hrf hlp9 ⟨38, hkd, by omega, by unfold JK; omega⟩) (gV pw_2050 pw_2051 pw_2052 pw_1523 pw_2049) hV_X12_leaves 0 9 rfl rfl rfl rfl (Nat.le_of_ble_eq_true rfl) dX12_beginsNow_676 ⟨Nat.le_of_ble_eq_true rfl, Nat.le_of_ble_eq_true rfl⟩ ⟨Nat.le_of_ble_eq_true rfl, Nat.le_of_ble_eq_true rfl⟩ (fun v948 u946 H locs hw947 hP hD hS => ?_)
        obtain ⟨op949, tp950, wn951, fu952, en953, nw954, is955, rs956, uc957, X958⟩ := u946
        obtain ⟨hw947, h959⟩ := hw947
        replace h959 : Nx Xs X958 gh nd T nm wr lz dc fd md pr bk M rmm fu937 (Phi gh ps op (rkN gh n9 false)) op949 tp950 wn951 fu952 rd on idn fl ct en953 nw954 is955 uc957 := h959
        obtain rfl : v948 = none := hw947
        have hP : va_P G.1 pCl (mW G h0 a (upd (upd (upd (upd (upd (upd (upd (upd (upd (upd (upd (upd (upd (upd (upd (upd (upd (upd (upd (upd (upd (upd F 49 (nI md)) 85 (nI im)) 97 (nI ct)) 98 (nI fl)) 99 (nI rmm)) 101 tds) 102 (nI op949)) 111 (nI tp950)) 115 (nI wn951)) 116 en953) 117 (nI fu952)) 118 rs956) 119 uc957) 120 (nI rd)) 121 ma0) 122 mc0) 123 ca) 124 mo) 125 nw954) 126 is955) 128 (nI on)) 130 (nI idn)) X958) _ := hP
        have hD : va_D A (mW G h0 a (upd (upd (upd (upd (upd (upd (upd (upd (upd (upd (upd (upd (upd (upd (upd (upd (upd (upd (upd (upd (upd (upd F 49 (nI md)) 85 (nI im)) 97 (nI ct)) 98 (nI fl)) 99 (nI rmm)) 101 tds) 102 (nI op949)) 111 (nI tp950)) 115 (nI wn951)) 116 en953) 117 (nI fu952)) 118 rs956) 119 uc957) 120 (nI rd)) 121 ma0) 122 mc0) 123 ca) 124 mo) 125 nw954) 126 is955) 128 (nI on)) 130 (nI idn)) X958) := hD
        refine W.widen (k := 0) (n := 0) (Nat.le_of_ble_eq_true rfl) (Nat.le_of_ble_eq_true rfl) ?_
        refine W.eq (g2 := F0 m 679 ls []) rfl ?_
        refine lv_goto (tgt := 712) hx hb dX12_beginsNow_679 (by decide) ?_
        have hz960 : Nx Xs X958 gh nd T nm wr lz dc fd md pr bk M rmm fu (Phi gh ps op (rkN gh n9 false)) op949 tp950 wn951 fu952 rd on idn fl ct en953 nw954 is955 uc957 := (Nx.le (fu1 := fu937) h959 (by omega))
        have hP : va_P G.1 pCl (mW G h0 a (upd (upd (upd (upd (upd (upd (upd (upd (upd (upd (upd (upd (upd (upd (upd (upd (upd (upd (upd (upd (upd (upd F 49 (nI md)) 85 (nI im)) 97 (nI ct)) 98 (nI fl)) 99 (nI rmm)) 101 tds) 102 (nI op949)) 111 (nI tp950)) 115 (nI wn951)) 116 en953) 117 (nI fu952)) 118 rs956) 119 uc957) 120 (nI rd)) 121 ma0) 122 mc0) 123 ca) 124 mo) 125 nw954) 126 is955) 128 (nI on)) 130 (nI idn)) X958) _ := hP
        have hD : va_D A (mW G h0 a (upd (upd (upd (upd (upd (upd (upd (upd (upd (upd (upd (upd (upd (upd (upd (upd (upd (upd (upd (upd (upd (upd F 49 (nI md)) 85 (nI im)) 97 (nI ct)) 98 (nI fl)) 99 (nI rmm)) 101 tds) 102 (nI op949)) 111 (nI tp950)) 115 (nI wn951)) 116 en953) 117 (nI fu952)) 118 rs956) 119 uc957) 120 (nI rd)) 121 ma0) 122 mc0) 123 ca) 124 mo) 125 nw954) 126 is955) 128 (nI on)) 130 (nI idn)) X958) := hD
        exact W.vret hx hb hr (fun t9 ht9 hW9 => ⟨⟨_, (op949, tp950, wn951, fu952, en953, nw954, is955, rs956, uc957, on, idn, fl, ct, tds, ma0, mc0, ca, mo, rd, X958), rfl, ⟨rfl, hz960⟩, by rw [ht9]; exact hP, hD⟩, hS.F ht9⟩) hS.2.2 dX12_beginsNow_712
  · clear hn44 hkr hko
    refine lv_aload_n hx hb dX12_beginsNow_0 rfl (lv_at hl 0 rfl) ?_
    refine r_get (v := .ref (a 9)) hx hb hown hq hE hP 17 38 tFX12_17 (by decide) pw_1439 rfl dX12_beginsNow_1 ?_
    refine lv_iload_n hx hb dX12_beginsNow_4 rfl (lv_at hl 1 rfl) ?_
    refine r_ldi (f := (B 9)) (j := n9) hx hb hE hP 9 (ma_9 G a _) rfl (by omega) (by decide) dX12_beginsNow_5 ?_
    refine lv_topi (fun x961 e962 => ?_)
    obtain rfl : x961 = 39 := e962.trans ((congrFun hw9 _).trans hkd)
    refine lv_istore_n (lv' := [(2, .int 39), (0, .ref h0), (1, .int (nI n9))]) hx hb dX12_beginsNow_6 rfl hl (by decide) rfl (fun ls hl => ?_)
    refine lv_iload_n hx hb dX12_beginsNow_7 rfl (lv_at hl 0 rfl) ?_
    refine lv_bipush (v := 30) hx hb dX12_beginsNow_8 (by decide) ?_
    refine lv_icmp_lt (tgt := 41) hx hb dX12_beginsNow_10 (by decide) (fun c963 => absurd c963 (by decide)) (fun c963 => ?_)
    refine lv_iload_n hx hb dX12_beginsNow_13 rfl (lv_at hl 0 rfl) ?_
    refine lv_bipush (v := 31) hx hb dX12_beginsNow_14 (by decide) ?_
    refine lv_icmp_eq (tgt := 41) hx hb dX12_beginsNow_16 (by decide) (fun c964 => absurd c964 (by decide)) (fun c964 => ?_)
    refine lv_iload_n hx hb dX12_beginsNow_19 rfl (lv_at hl 0 rfl) ?_
    refine lv_bipush (v := 43) hx hb dX12_beginsNow_20 (by decide) ?_
    refine lv_icmp_eq (tgt := 41) hx hb dX12_beginsNow_22 (by decide) (fun c965 => absurd c965 (by decide)) (fun c965 => ?_)
    refine lv_aload_n hx hb dX12_beginsNow_25 rfl (lv_at hl 1 rfl) ?_
    refine lv_iload_n hx hb dX12_beginsNow_26 rfl (lv_at hl 2 rfl) ?_
    have hP : va_P G.1 pCl (mW G h0 a (upd (upd (upd (upd (upd (upd (upd (upd (upd (upd (upd (upd (upd (upd (upd (upd (upd (upd (upd (upd (upd (upd F 49 (nI md)) 85 (nI im)) 97 (nI ct)) 98 (nI fl)) 99 (nI rmm)) 101 tds) 102 (nI op)) 111 (nI tp)) 115 (nI wn)) 116 (-1)) 117 (nI fu)) 118 rs0) 119 uc0) 120 (nI rd)) 121 ma0) 122 mc0) 123 ca) 124 mo) 125 nw) 126 isn) 128 (nI on)) 130 (nI idn)) B) _ := hP
    have hD : va_D A (mW G h0 a (upd (upd (upd (upd (upd (upd (upd (upd (upd (upd (upd (upd (upd (upd (upd (upd (upd (upd (upd (upd (upd (upd F 49 (nI md)) 85 (nI im)) 97 (nI ct)) 98 (nI fl)) 99 (nI rmm)) 101 tds) 102 (nI op)) 111 (nI tp)) 115 (nI wn)) 116 (-1)) 117 (nI fu)) 118 rs0) 119 uc0) 120 (nI rd)) 121 ma0) 122 mc0) 123 ca) 124 mo) 125 nw) 126 isn) 128 (nI on)) 130 (nI idn)) B) := hD
    refine pc_V0 (G := G) (As := [.int (nI n9)]) (rest := []) hx hb hml hown hq hE hX pX0_al hP hD hS hA hl.1 (R_isFirst l G h0 a (upd (upd (upd (upd (upd (upd (upd (upd (upd (upd (upd (upd (upd (upd (upd (upd (upd (upd (upd (upd (upd (upd F 49 (nI md)) 85 (nI im)) 97 (nI ct)) 98 (nI fl)) 99 (nI rmm)) 101 tds) 102 (nI op)) 111 (nI tp)) 115 (nI wn)) 116 (-1)) 117 (nI fu)) 118 rs0) 119 uc0) 120 (nI rd)) 121 ma0) 122 mc0) 123 ca) 124 mo) 125 nw) 126 isn) 128 (nI on)) 130 (nI idn)) B n9 nd (by omega) (by omega) (hR.upP hR.rt.2.2)) (gV pw_2066 pw_2067 pw_2068 pw_1523 pw_2020) hV_X12_isFirst 0 9 rfl rfl rfl rfl (Nat.le_of_ble_eq_true rfl) dX12_beginsNow_27 ⟨Nat.le_of_ble_eq_true rfl, Nat.le_of_ble_eq_true rfl⟩ ⟨Nat.le_of_ble_eq_true rfl, Nat.le_of_ble_eq_true rfl⟩ (fun v968 u966 H locs hw967 hP hD hS => ?_)
    obtain ⟨r969, rfl⟩ : ∃ z, z = u966 := ⟨_, rfl⟩
    obtain ⟨hw967, h970⟩ := hw967
    replace h970 : r969 ≤ 1 := h970
    obtain rfl : v968 = some (.int (nI r969)) := hw967
    have hP : va_P G.1 pCl (mW G h0 a (upd (upd (upd (upd (upd (upd (upd (upd (upd (upd (upd (upd (upd (upd (upd (upd (upd (upd (upd (upd (upd (upd F 49 (nI md)) 85 (nI im)) 97 (nI ct)) 98 (nI fl)) 99 (nI rmm)) 101 tds) 102 (nI op)) 111 (nI tp)) 115 (nI wn)) 116 (-1)) 117 (nI fu)) 118 rs0) 119 uc0) 120 (nI rd)) 121 ma0) 122 mc0) 123 ca) 124 mo) 125 nw) 126 isn) 128 (nI on)) 130 (nI idn)) B) _ := hP
    have hD : va_D A (mW G h0 a (upd (upd (upd (upd (upd (upd (upd (upd (upd (upd (upd (upd (upd (upd (upd (upd (upd (upd (upd (upd (upd (upd F 49 (nI md)) 85 (nI im)) 97 (nI ct)) 98 (nI fl)) 99 (nI rmm)) 101 tds) 102 (nI op)) 111 (nI tp)) 115 (nI wn)) 116 (-1)) 117 (nI fu)) 118 rs0) 119 uc0) 120 (nI rd)) 121 ma0) 122 mc0) 123 ca) 124 mo) 125 nw) 126 isn) 128 (nI on)) 130 (nI idn)) B) := hD
    refine W.widen (k := 0) (n := 0) (Nat.le_of_ble_eq_true rfl) (Nat.le_of_ble_eq_true rfl) ?_
    refine W.eq (g2 := F0 m 30 ls [.int (nI r969)]) rfl ?_
    refine lv_if_ne (tgt := 41) hx hb dX12_beginsNow_30 (by decide) (fun c971 => ?_) (fun c971 => ?_)
    · have n972 : ¬ (r969 = 0) := fun h9 => c971 ((nI_eq (a := r969) (b := 0) (by omega) (by omega)).mpr h9)
      refine lv_iload_n hx hb dX12_beginsNow_41 rfl (lv_at hl 0 rfl) ?_
      refine lv_tableIn (tgt := 682) (off := 640) hx hb dX12_beginsNow_42 (by decide) (by decide) (by decide) (by decide) ?_
      refine lv_aload_n hx hb dX12_beginsNow_682 rfl (lv_at hl 1 rfl) ?_
      refine lv_iload_n hx hb dX12_beginsNow_683 rfl (lv_at hl 2 rfl) ?_
      refine lv_iconst (v := 4) hx hb dX12_beginsNow_684 (by decide) ?_
      refine lv_iconst (v := 0) hx hb dX12_beginsNow_685 (by decide) ?_
      refine lv_iconst (v := 0) hx hb dX12_beginsNow_686 (by decide) ?_
      obtain ⟨hb1, hk9, hrf⟩ := hR.bLv (kd := 4) hkd (Or.inr (Or.inr ⟨rfl, rfl⟩))
      have hlp9 := ((hk9.resolve_left (fun h => absurd h.1 (by decide))).resolve_left (fun h => absurd h.1 (by decide))).2
      have hP : va_P G.1 pCl (mW G h0 a (upd (upd (upd (upd (upd (upd (upd (upd (upd (upd (upd (upd (upd (upd (upd (upd (upd (upd (upd (upd (upd (upd (upd (upd (upd (upd (upd (upd (upd (upd (upd F 49 (nI md)) 85 (nI im)) 97 (nI ct)) 98 (nI fl)) 99 (nI rmm)) 101 tds) 102 (nI op)) 111 (nI tp)) 115 (nI wn)) 116 (-1)) 117 (nI fu)) 118 rs0) 119 uc0) 120 (nI rd)) 121 ma0) 122 mc0) 123 ca) 124 mo) 125 nw) 126 isn) 128 (nI on)) 130 (nI idn)) 102 (nI op)) 111 (nI tp)) 115 (nI wn)) 116 (-1)) 117 (nI fu)) 118 rs0) 119 uc0) 125 nw) 126 isn) B) _ := hP
      have hD : va_D A (mW G h0 a (upd (upd (upd (upd (upd (upd (upd (upd (upd (upd (upd (upd (upd (upd (upd (upd (upd (upd (upd (upd (upd (upd (upd (upd (upd (upd (upd (upd (upd (upd (upd F 49 (nI md)) 85 (nI im)) 97 (nI ct)) 98 (nI fl)) 99 (nI rmm)) 101 tds) 102 (nI op)) 111 (nI tp)) 115 (nI wn)) 116 (-1)) 117 (nI fu)) 118 rs0) 119 uc0) 120 (nI rd)) 121 ma0) 122 mc0) 123 ca) 124 mo) 125 nw) 126 isn) 128 (nI on)) 130 (nI idn)) 102 (nI op)) 111 (nI tp)) 115 (nI wn)) 116 (-1)) 117 (nI fu)) 118 rs0) 119 uc0) 125 nw) 126 isn) B) := hD
      refine pc_V0 (G := G) (As := [.int (nI n9), .int 4, .int 0, .int (nI 0)]) (rest := []) hx hb hml hown hq hE hX pX0_al hP hD hS hA hl.1 (R_leaves4 l G h0 a (upd (upd (upd (upd (upd (upd (upd (upd (upd (upd (upd (upd (upd (upd (upd (upd (upd (upd (upd (upd (upd (upd F 49 (nI md)) 85 (nI im)) 97 (nI ct)) 98 (nI fl)) 99 (nI rmm)) 101 tds) 102 (nI op)) 111 (nI tp)) 115 (nI wn)) 116 (-1)) 117 (nI fu)) 118 rs0) 119 uc0) 120 (nI rd)) 121 ma0) 122 mc0) 123 ca) 124 mo) 125 nw) 126 isn) 128 (nI on)) 130 (nI idn)) B Xs gh nd T nm wr lz dc fd md pr bk M rmm (Phi gh ps op (rkN gh n9 false)) op wn fu rd on idn fl ct n9 0 0 mt ps yy bf wf (nI tp) nw isn rs0 uc0 hR.ln (by omega) hb1 hrf hlp9 ⟨39, hkd, by omega, by unfold JK; omega⟩) (gV pw_2050 pw_2051 pw_2052 pw_1523 pw_2049) hV_X12_leaves 0 9 rfl rfl rfl rfl (Nat.le_of_ble_eq_true rfl) dX12_beginsNow_687 ⟨Nat.le_of_ble_eq_true rfl, Nat.le_of_ble_eq_true rfl⟩ ⟨Nat.le_of_ble_eq_true rfl, Nat.le_of_ble_eq_true rfl⟩ (fun v975 u973 H locs hw974 hP hD hS => ?_)
      obtain ⟨op976, tp977, wn978, fu979, en980, nw981, is982, rs983, uc984, X985⟩ := u973
      obtain ⟨hw974, h986⟩ := hw974
      replace h986 : Nx Xs X985 gh nd T nm wr lz dc fd md pr bk M rmm fu (Phi gh ps op (rkN gh n9 false)) op976 tp977 wn978 fu979 rd on idn fl ct en980 nw981 is982 uc984 := h986
      obtain rfl : v975 = none := hw974
      have hP : va_P G.1 pCl (mW G h0 a (upd (upd (upd (upd (upd (upd (upd (upd (upd (upd (upd (upd (upd (upd (upd (upd (upd (upd (upd (upd (upd (upd F 49 (nI md)) 85 (nI im)) 97 (nI ct)) 98 (nI fl)) 99 (nI rmm)) 101 tds) 102 (nI op976)) 111 (nI tp977)) 115 (nI wn978)) 116 en980) 117 (nI fu979)) 118 rs983) 119 uc984) 120 (nI rd)) 121 ma0) 122 mc0) 123 ca) 124 mo) 125 nw981) 126 is982) 128 (nI on)) 130 (nI idn)) X985) _ := hP
      have hD : va_D A (mW G h0 a (upd (upd (upd (upd (upd (upd (upd (upd (upd (upd (upd (upd (upd (upd (upd (upd (upd (upd (upd (upd (upd (upd F 49 (nI md)) 85 (nI im)) 97 (nI ct)) 98 (nI fl)) 99 (nI rmm)) 101 tds) 102 (nI op976)) 111 (nI tp977)) 115 (nI wn978)) 116 en980) 117 (nI fu979)) 118 rs983) 119 uc984) 120 (nI rd)) 121 ma0) 122 mc0) 123 ca) 124 mo) 125 nw981) 126 is982) 128 (nI on)) 130 (nI idn)) X985) := hD
      refine W.widen (k := 0) (n := 0) (Nat.le_of_ble_eq_true rfl) (Nat.le_of_ble_eq_true rfl) ?_
      refine W.eq (g2 := F0 m 690 ls []) rfl ?_
      refine lv_goto (tgt := 712) hx hb dX12_beginsNow_690 (by decide) ?_
      have hz987 : Nx Xs X985 gh nd T nm wr lz dc fd md pr bk M rmm fu (Phi gh ps op (rkN gh n9 false)) op976 tp977 wn978 fu979 rd on idn fl ct en980 nw981 is982 uc984 := h986
      have hP : va_P G.1 pCl (mW G h0 a (upd (upd (upd (upd (upd (upd (upd (upd (upd (upd (upd (upd (upd (upd (upd (upd (upd (upd (upd (upd (upd (upd F 49 (nI md)) 85 (nI im)) 97 (nI ct)) 98 (nI fl)) 99 (nI rmm)) 101 tds) 102 (nI op976)) 111 (nI tp977)) 115 (nI wn978)) 116 en980) 117 (nI fu979)) 118 rs983) 119 uc984) 120 (nI rd)) 121 ma0) 122 mc0) 123 ca) 124 mo) 125 nw981) 126 is982) 128 (nI on)) 130 (nI idn)) X985) _ := hP
      have hD : va_D A (mW G h0 a (upd (upd (upd (upd (upd (upd (upd (upd (upd (upd (upd (upd (upd (upd (upd (upd (upd (upd (upd (upd (upd (upd F 49 (nI md)) 85 (nI im)) 97 (nI ct)) 98 (nI fl)) 99 (nI rmm)) 101 tds) 102 (nI op976)) 111 (nI tp977)) 115 (nI wn978)) 116 en980) 117 (nI fu979)) 118 rs983) 119 uc984) 120 (nI rd)) 121 ma0) 122 mc0) 123 ca) 124 mo) 125 nw981) 126 is982) 128 (nI on)) 130 (nI idn)) X985) := hD
      exact W.vret hx hb hr (fun t9 ht9 hW9 => ⟨⟨_, (op976, tp977, wn978, fu979, en980, nw981, is982, rs983, uc984, on, idn, fl, ct, tds, ma0, mc0, ca, mo, rd, X985), rfl, ⟨rfl, hz987⟩, by rw [ht9]; exact hP, hD⟩, hS.F ht9⟩) hS.2.2 dX12_beginsNow_712
    · have n988 : r969 = 0 := (nI_eq (a := r969) (b := 0) (by omega) (by omega)).mp c971
      refine lv_aload_n hx hb dX12_beginsNow_33 rfl (lv_at hl 1 rfl) ?_
      have hP : va_P G.1 pCl (mW G h0 a (upd (upd (upd (upd (upd (upd (upd (upd (upd (upd (upd (upd (upd (upd (upd (upd (upd (upd (upd (upd (upd (upd (upd (upd F 49 (nI md)) 85 (nI im)) 97 (nI ct)) 98 (nI fl)) 99 (nI rmm)) 101 tds) 102 (nI op)) 111 (nI tp)) 115 (nI wn)) 116 (-1)) 117 (nI fu)) 118 rs0) 119 uc0) 120 (nI rd)) 121 ma0) 122 mc0) 123 ca) 124 mo) 125 nw) 126 isn) 128 (nI on)) 130 (nI idn)) 116 (-1)) 117 (nI fu)) B) _ := hP
      have hD : va_D A (mW G h0 a (upd (upd (upd (upd (upd (upd (upd (upd (upd (upd (upd (upd (upd (upd (upd (upd (upd (upd (upd (upd (upd (upd (upd (upd F 49 (nI md)) 85 (nI im)) 97 (nI ct)) 98 (nI fl)) 99 (nI rmm)) 101 tds) 102 (nI op)) 111 (nI tp)) 115 (nI wn)) 116 (-1)) 117 (nI fu)) 118 rs0) 119 uc0) 120 (nI rd)) 121 ma0) 122 mc0) 123 ca) 124 mo) 125 nw) 126 isn) 128 (nI on)) 130 (nI idn)) 116 (-1)) 117 (nI fu)) B) := hD
      refine pc_V0 (G := G) (As := []) (rest := []) hx hb hml hown hq hE hX pX0_al hP hD hS hA hl.1 (R_pays l G h0 a (upd (upd (upd (upd (upd (upd (upd (upd (upd (upd (upd (upd (upd (upd (upd (upd (upd (upd (upd (upd (upd (upd F 49 (nI md)) 85 (nI im)) 97 (nI ct)) 98 (nI fl)) 99 (nI rmm)) 101 tds) 102 (nI op)) 111 (nI tp)) 115 (nI wn)) 116 (-1)) 117 (nI fu)) 118 rs0) 119 uc0) 120 (nI rd)) 121 ma0) 122 mc0) 123 ca) 124 mo) 125 nw) 126 isn) 128 (nI on)) 130 (nI idn)) B fu (-1) (by omega)) (gV pw_2026 pw_2027 pw_2028 pw_1523 pw_2000) hV_X12_pays 0 9 rfl rfl rfl rfl (Nat.le_of_ble_eq_true rfl) dX12_beginsNow_34 ⟨Nat.le_of_ble_eq_true rfl, Nat.le_of_ble_eq_true rfl⟩ ⟨Nat.le_of_ble_eq_true rfl, Nat.le_of_ble_eq_true rfl⟩ (fun v991 u989 H locs hw990 hP hD hS => ?_)
      obtain ⟨r992, fu993, en994⟩ := u989
      obtain ⟨hw990, h995, h996, h997, h998⟩ := hw990
      replace h995 : r992 ≤ 1 := h995
      replace h996 : fu993 + r992 = fu := h996
      replace h997 : If (r992 = 1) (en994 = (-1)) := h997
      replace h998 : If (r992 = 0) (en994 = 2) := h998
      obtain rfl : v991 = some (.int (nI r992)) := hw990
      have hP : va_P G.1 pCl (mW G h0 a (upd (upd (upd (upd (upd (upd (upd (upd (upd (upd (upd (upd (upd (upd (upd (upd (upd (upd (upd (upd (upd (upd F 49 (nI md)) 85 (nI im)) 97 (nI ct)) 98 (nI fl)) 99 (nI rmm)) 101 tds) 102 (nI op)) 111 (nI tp)) 115 (nI wn)) 116 en994) 117 (nI fu993)) 118 rs0) 119 uc0) 120 (nI rd)) 121 ma0) 122 mc0) 123 ca) 124 mo) 125 nw) 126 isn) 128 (nI on)) 130 (nI idn)) B) _ := hP
      have hD : va_D A (mW G h0 a (upd (upd (upd (upd (upd (upd (upd (upd (upd (upd (upd (upd (upd (upd (upd (upd (upd (upd (upd (upd (upd (upd F 49 (nI md)) 85 (nI im)) 97 (nI ct)) 98 (nI fl)) 99 (nI rmm)) 101 tds) 102 (nI op)) 111 (nI tp)) 115 (nI wn)) 116 en994) 117 (nI fu993)) 118 rs0) 119 uc0) 120 (nI rd)) 121 ma0) 122 mc0) 123 ca) 124 mo) 125 nw) 126 isn) 128 (nI on)) 130 (nI idn)) B) := hD
      refine W.widen (k := 0) (n := 0) (Nat.le_of_ble_eq_true rfl) (Nat.le_of_ble_eq_true rfl) ?_
      refine W.eq (g2 := F0 m 37 ls [.int (nI r992)]) rfl ?_
      rcases (show r992 = 0 ∨ r992 = 1 by omega) with hr0 | hr0
      · have hen := h998 hr0
        subst hr0
        have hP : va_P G.1 pCl (mW G h0 a (upd (upd (upd (upd (upd (upd (upd (upd (upd (upd (upd (upd (upd (upd (upd (upd (upd (upd (upd (upd (upd (upd F 49 (nI md)) 85 (nI im)) 97 (nI ct)) 98 (nI fl)) 99 (nI rmm)) 101 tds) 102 (nI op)) 111 (nI tp)) 115 (nI wn)) 116 en994) 117 (nI fu993)) 118 rs0) 119 uc0) 120 (nI rd)) 121 ma0) 122 mc0) 123 ca) 124 mo) 125 nw) 126 isn) 128 (nI on)) 130 (nI idn)) B) _ := hP
        have hD : va_D A (mW G h0 a (upd (upd (upd (upd (upd (upd (upd (upd (upd (upd (upd (upd (upd (upd (upd (upd (upd (upd (upd (upd (upd (upd F 49 (nI md)) 85 (nI im)) 97 (nI ct)) 98 (nI fl)) 99 (nI rmm)) 101 tds) 102 (nI op)) 111 (nI tp)) 115 (nI wn)) 116 en994) 117 (nI fu993)) 118 rs0) 119 uc0) 120 (nI rd)) 121 ma0) 122 mc0) 123 ca) 124 mo) 125 nw) 126 isn) 128 (nI on)) 130 (nI idn)) B) := hD
        refine W.eq (g2 := F0 m 37 ls [.int 0]) rfl ?_
        refine lv_if_ne (tgt := 41) hx hb dX12_beginsNow_37 (by decide) (fun c999 => absurd c999 (by decide)) (fun c999 => ?_)
        have hz1000 : Nx Xs B gh nd T nm wr lz dc fd md pr bk M rmm fu (Phi gh ps op (rkN gh n9 false)) op tp wn fu993 rd on idn fl ct en994 nw isn uc0 := (hR.stop Sta.rfl hR.hp (by rw [hen]; decide) (by rw [hen]; decide))
        have hP : va_P G.1 pCl (mW G h0 a (upd (upd (upd (upd (upd (upd (upd (upd (upd (upd (upd (upd (upd (upd (upd (upd (upd (upd (upd (upd (upd (upd F 49 (nI md)) 85 (nI im)) 97 (nI ct)) 98 (nI fl)) 99 (nI rmm)) 101 tds) 102 (nI op)) 111 (nI tp)) 115 (nI wn)) 116 en994) 117 (nI fu993)) 118 rs0) 119 uc0) 120 (nI rd)) 121 ma0) 122 mc0) 123 ca) 124 mo) 125 nw) 126 isn) 128 (nI on)) 130 (nI idn)) B) _ := hP
        have hD : va_D A (mW G h0 a (upd (upd (upd (upd (upd (upd (upd (upd (upd (upd (upd (upd (upd (upd (upd (upd (upd (upd (upd (upd (upd (upd F 49 (nI md)) 85 (nI im)) 97 (nI ct)) 98 (nI fl)) 99 (nI rmm)) 101 tds) 102 (nI op)) 111 (nI tp)) 115 (nI wn)) 116 en994) 117 (nI fu993)) 118 rs0) 119 uc0) 120 (nI rd)) 121 ma0) 122 mc0) 123 ca) 124 mo) 125 nw) 126 isn) 128 (nI on)) 130 (nI idn)) B) := hD
        exact W.vret hx hb hr (fun t9 ht9 hW9 => ⟨⟨_, (op, tp, wn, fu993, en994, nw, isn, rs0, uc0, on, idn, fl, ct, tds, ma0, mc0, ca, mo, rd, B), rfl, ⟨rfl, hz1000⟩, by rw [ht9]; exact hP, hD⟩, hS.F ht9⟩) hS.2.2 dX12_beginsNow_40
      · obtain rfl : en994 = _ := h997 hr0
        subst hr0
        have hP : va_P G.1 pCl (mW G h0 a (upd (upd (upd (upd (upd (upd (upd (upd (upd (upd (upd (upd (upd (upd (upd (upd (upd (upd (upd (upd (upd (upd F 49 (nI md)) 85 (nI im)) 97 (nI ct)) 98 (nI fl)) 99 (nI rmm)) 101 tds) 102 (nI op)) 111 (nI tp)) 115 (nI wn)) 116 (-1)) 117 (nI fu993)) 118 rs0) 119 uc0) 120 (nI rd)) 121 ma0) 122 mc0) 123 ca) 124 mo) 125 nw) 126 isn) 128 (nI on)) 130 (nI idn)) B) _ := hP
        have hD : va_D A (mW G h0 a (upd (upd (upd (upd (upd (upd (upd (upd (upd (upd (upd (upd (upd (upd (upd (upd (upd (upd (upd (upd (upd (upd F 49 (nI md)) 85 (nI im)) 97 (nI ct)) 98 (nI fl)) 99 (nI rmm)) 101 tds) 102 (nI op)) 111 (nI tp)) 115 (nI wn)) 116 (-1)) 117 (nI fu993)) 118 rs0) 119 uc0) 120 (nI rd)) 121 ma0) 122 mc0) 123 ca) 124 mo) 125 nw) 126 isn) 128 (nI on)) 130 (nI idn)) B) := hD
        refine W.eq (g2 := F0 m 37 ls [.int 1]) rfl ?_
        have hR1 := hR.fuel (show fu993 ≤ fu by omega)
        refine lv_if_ne (tgt := 41) hx hb dX12_beginsNow_37 (by decide) (fun c1001 => ?_) (fun c1001 => absurd c1001 (by decide))
        refine lv_iload_n hx hb dX12_beginsNow_41 rfl (lv_at hl 0 rfl) ?_
        refine lv_tableIn (tgt := 682) (off := 640) hx hb dX12_beginsNow_42 (by decide) (by decide) (by decide) (by decide) ?_
        refine lv_aload_n hx hb dX12_beginsNow_682 rfl (lv_at hl 1 rfl) ?_
        refine lv_iload_n hx hb dX12_beginsNow_683 rfl (lv_at hl 2 rfl) ?_
        refine lv_iconst (v := 4) hx hb dX12_beginsNow_684 (by decide) ?_
        refine lv_iconst (v := 0) hx hb dX12_beginsNow_685 (by decide) ?_
        refine lv_iconst (v := 0) hx hb dX12_beginsNow_686 (by decide) ?_
        obtain ⟨hb1, hk9, hrf⟩ := hR1.bLv (kd := 4) hkd (Or.inr (Or.inr ⟨rfl, rfl⟩))
        have hlp9 := ((hk9.resolve_left (fun h => absurd h.1 (by decide))).resolve_left (fun h => absurd h.1 (by decide))).2
        have hP : va_P G.1 pCl (mW G h0 a (upd (upd (upd (upd (upd (upd (upd (upd (upd (upd (upd (upd (upd (upd (upd (upd (upd (upd (upd (upd (upd (upd (upd (upd (upd (upd (upd (upd (upd (upd (upd F 49 (nI md)) 85 (nI im)) 97 (nI ct)) 98 (nI fl)) 99 (nI rmm)) 101 tds) 102 (nI op)) 111 (nI tp)) 115 (nI wn)) 116 (-1)) 117 (nI fu993)) 118 rs0) 119 uc0) 120 (nI rd)) 121 ma0) 122 mc0) 123 ca) 124 mo) 125 nw) 126 isn) 128 (nI on)) 130 (nI idn)) 102 (nI op)) 111 (nI tp)) 115 (nI wn)) 116 (-1)) 117 (nI fu993)) 118 rs0) 119 uc0) 125 nw) 126 isn) B) _ := hP
        have hD : va_D A (mW G h0 a (upd (upd (upd (upd (upd (upd (upd (upd (upd (upd (upd (upd (upd (upd (upd (upd (upd (upd (upd (upd (upd (upd (upd (upd (upd (upd (upd (upd (upd (upd (upd F 49 (nI md)) 85 (nI im)) 97 (nI ct)) 98 (nI fl)) 99 (nI rmm)) 101 tds) 102 (nI op)) 111 (nI tp)) 115 (nI wn)) 116 (-1)) 117 (nI fu993)) 118 rs0) 119 uc0) 120 (nI rd)) 121 ma0) 122 mc0) 123 ca) 124 mo) 125 nw) 126 isn) 128 (nI on)) 130 (nI idn)) 102 (nI op)) 111 (nI tp)) 115 (nI wn)) 116 (-1)) 117 (nI fu993)) 118 rs0) 119 uc0) 125 nw) 126 isn) B) := hD
        refine pc_V0 (G := G) (As := [.int (nI n9), .int 4, .int 0, .int (nI 0)]) (rest := []) hx hb hml hown hq hE hX pX0_al hP hD hS hA hl.1 (R_leaves4 l G h0 a (upd (upd (upd (upd (upd (upd (upd (upd (upd (upd (upd (upd (upd (upd (upd (upd (upd (upd (upd (upd (upd (upd F 49 (nI md)) 85 (nI im)) 97 (nI ct)) 98 (nI fl)) 99 (nI rmm)) 101 tds) 102 (nI op)) 111 (nI tp)) 115 (nI wn)) 116 (-1)) 117 (nI fu993)) 118 rs0) 119 uc0) 120 (nI rd)) 121 ma0) 122 mc0) 123 ca) 124 mo) 125 nw) 126 isn) 128 (nI on)) 130 (nI idn)) B Xs gh nd T nm wr lz dc fd md pr bk M rmm (Phi gh ps op (rkN gh n9 false)) op wn fu993 rd on idn fl ct n9 0 0 mt ps yy bf wf (nI tp) nw isn rs0 uc0 hR1.ln (by omega) hb1 hrf hlp9 ⟨39, hkd, by omega, by unfold JK; omega⟩) (gV pw_2050 pw_2051 pw_2052 pw_1523 pw_2049) hV_X12_leaves 0 9 rfl rfl rfl rfl (Nat.le_of_ble_eq_true rfl) dX12_beginsNow_687 ⟨Nat.le_of_ble_eq_true rfl, Nat.le_of_ble_eq_true rfl⟩ ⟨Nat.le_of_ble_eq_true rfl, Nat.le_of_ble_eq_true rfl⟩ (fun v1004 u1002 H locs hw1003 hP hD hS => ?_)
        obtain ⟨op1005, tp1006, wn1007, fu1008, en1009, nw1010, is1011, rs1012, uc1013, X1014⟩ := u1002
        obtain ⟨hw1003, h1015⟩ := hw1003
        replace h1015 : Nx Xs X1014 gh nd T nm wr lz dc fd md pr bk M rmm fu993 (Phi gh ps op (rkN gh n9 false)) op1005 tp1006 wn1007 fu1008 rd on idn fl ct en1009 nw1010 is1011 uc1013 := h1015
        obtain rfl : v1004 = none := hw1003
        have hP : va_P G.1 pCl (mW G h0 a (upd (upd (upd (upd (upd (upd (upd (upd (upd (upd (upd (upd (upd (upd (upd (upd (upd (upd (upd (upd (upd (upd F 49 (nI md)) 85 (nI im)) 97 (nI ct)) 98 (nI fl)) 99 (nI rmm)) 101 tds) 102 (nI op1005)) 111 (nI tp1006)) 115 (nI wn1007)) 116 en1009) 117 (nI fu1008)) 118 rs1012) 119 uc1013) 120 (nI rd)) 121 ma0) 122 mc0) 123 ca) 124 mo) 125 nw1010) 126 is1011) 128 (nI on)) 130 (nI idn)) X1014) _ := hP
        have hD : va_D A (mW G h0 a (upd (upd (upd (upd (upd (upd (upd (upd (upd (upd (upd (upd (upd (upd (upd (upd (upd (upd (upd (upd (upd (upd F 49 (nI md)) 85 (nI im)) 97 (nI ct)) 98 (nI fl)) 99 (nI rmm)) 101 tds) 102 (nI op1005)) 111 (nI tp1006)) 115 (nI wn1007)) 116 en1009) 117 (nI fu1008)) 118 rs1012) 119 uc1013) 120 (nI rd)) 121 ma0) 122 mc0) 123 ca) 124 mo) 125 nw1010) 126 is1011) 128 (nI on)) 130 (nI idn)) X1014) := hD
        refine W.widen (k := 0) (n := 0) (Nat.le_of_ble_eq_true rfl) (Nat.le_of_ble_eq_true rfl) ?_
        refine W.eq (g2 := F0 m 690 ls []) rfl ?_
        refine lv_goto (tgt := 712) hx hb dX12_beginsNow_690 (by decide) ?_
        have hz1016 : Nx Xs X1014 gh nd T nm wr lz dc fd md pr bk M rmm fu (Phi gh ps op (rkN gh n9 false)) op1005 tp1006 wn1007 fu1008 rd on idn fl ct en1009 nw1010 is1011 uc1013 := (Nx.le (fu1 := fu993) h1015 (by omega))
        have hP : va_P G.1 pCl (mW G h0 a (upd (upd (upd (upd (upd (upd (upd (upd (upd (upd (upd (upd (upd (upd (upd (upd (upd (upd (upd (upd (upd (upd F 49 (nI md)) 85 (nI im)) 97 (nI ct)) 98 (nI fl)) 99 (nI rmm)) 101 tds) 102 (nI op1005)) 111 (nI tp1006)) 115 (nI wn1007)) 116 en1009) 117 (nI fu1008)) 118 rs1012) 119 uc1013) 120 (nI rd)) 121 ma0) 122 mc0) 123 ca) 124 mo) 125 nw1010) 126 is1011) 128 (nI on)) 130 (nI idn)) X1014) _ := hP
        have hD : va_D A (mW G h0 a (upd (upd (upd (upd (upd (upd (upd (upd (upd (upd (upd (upd (upd (upd (upd (upd (upd (upd (upd (upd (upd (upd F 49 (nI md)) 85 (nI im)) 97 (nI ct)) 98 (nI fl)) 99 (nI rmm)) 101 tds) 102 (nI op1005)) 111 (nI tp1006)) 115 (nI wn1007)) 116 en1009) 117 (nI fu1008)) 118 rs1012) 119 uc1013) 120 (nI rd)) 121 ma0) 122 mc0) 123 ca) 124 mo) 125 nw1010) 126 is1011) 128 (nI on)) 130 (nI idn)) X1014) := hD
        exact W.vret hx hb hr (fun t9 ht9 hW9 => ⟨⟨_, (op1005, tp1006, wn1007, fu1008, en1009, nw1010, is1011, rs1012, uc1013, on, idn, fl, ct, tds, ma0, mc0, ca, mo, rd, X1014), rfl, ⟨rfl, hz1016⟩, by rw [ht9]; exact hP, hD⟩, hS.F ht9⟩) hS.2.2 dX12_beginsNow_712
  · clear hn44 hkr hko
    refine lv_aload_n hx hb dX12_beginsNow_0 rfl (lv_at hl 0 rfl) ?_
    refine r_get (v := .ref (a 9)) hx hb hown hq hE hP 17 38 tFX12_17 (by decide) pw_1439 rfl dX12_beginsNow_1 ?_
    refine lv_iload_n hx hb dX12_beginsNow_4 rfl (lv_at hl 1 rfl) ?_
    refine r_ldi (f := (B 9)) (j := n9) hx hb hE hP 9 (ma_9 G a _) rfl (by omega) (by decide) dX12_beginsNow_5 ?_
    refine lv_topi (fun x1017 e1018 => ?_)
    obtain rfl : x1017 = 40 := e1018.trans ((congrFun hw9 _).trans hkd)
    refine lv_istore_n (lv' := [(2, .int 40), (0, .ref h0), (1, .int (nI n9))]) hx hb dX12_beginsNow_6 rfl hl (by decide) rfl (fun ls hl => ?_)
    refine lv_iload_n hx hb dX12_beginsNow_7 rfl (lv_at hl 0 rfl) ?_
    refine lv_bipush (v := 30) hx hb dX12_beginsNow_8 (by decide) ?_
    refine lv_icmp_lt (tgt := 41) hx hb dX12_beginsNow_10 (by decide) (fun c1019 => absurd c1019 (by decide)) (fun c1019 => ?_)
    refine lv_iload_n hx hb dX12_beginsNow_13 rfl (lv_at hl 0 rfl) ?_
    refine lv_bipush (v := 31) hx hb dX12_beginsNow_14 (by decide) ?_
    refine lv_icmp_eq (tgt := 41) hx hb dX12_beginsNow_16 (by decide) (fun c1020 => absurd c1020 (by decide)) (fun c1020 => ?_)
    refine lv_iload_n hx hb dX12_beginsNow_19 rfl (lv_at hl 0 rfl) ?_
    refine lv_bipush (v := 43) hx hb dX12_beginsNow_20 (by decide) ?_
    refine lv_icmp_eq (tgt := 41) hx hb dX12_beginsNow_22 (by decide) (fun c1021 => absurd c1021 (by decide)) (fun c1021 => ?_)
    refine lv_aload_n hx hb dX12_beginsNow_25 rfl (lv_at hl 1 rfl) ?_
    refine lv_iload_n hx hb dX12_beginsNow_26 rfl (lv_at hl 2 rfl) ?_
    have hP : va_P G.1 pCl (mW G h0 a (upd (upd (upd (upd (upd (upd (upd (upd (upd (upd (upd (upd (upd (upd (upd (upd (upd (upd (upd (upd (upd (upd F 49 (nI md)) 85 (nI im)) 97 (nI ct)) 98 (nI fl)) 99 (nI rmm)) 101 tds) 102 (nI op)) 111 (nI tp)) 115 (nI wn)) 116 (-1)) 117 (nI fu)) 118 rs0) 119 uc0) 120 (nI rd)) 121 ma0) 122 mc0) 123 ca) 124 mo) 125 nw) 126 isn) 128 (nI on)) 130 (nI idn)) B) _ := hP
    have hD : va_D A (mW G h0 a (upd (upd (upd (upd (upd (upd (upd (upd (upd (upd (upd (upd (upd (upd (upd (upd (upd (upd (upd (upd (upd (upd F 49 (nI md)) 85 (nI im)) 97 (nI ct)) 98 (nI fl)) 99 (nI rmm)) 101 tds) 102 (nI op)) 111 (nI tp)) 115 (nI wn)) 116 (-1)) 117 (nI fu)) 118 rs0) 119 uc0) 120 (nI rd)) 121 ma0) 122 mc0) 123 ca) 124 mo) 125 nw) 126 isn) 128 (nI on)) 130 (nI idn)) B) := hD
    refine pc_V0 (G := G) (As := [.int (nI n9)]) (rest := []) hx hb hml hown hq hE hX pX0_al hP hD hS hA hl.1 (R_isFirst l G h0 a (upd (upd (upd (upd (upd (upd (upd (upd (upd (upd (upd (upd (upd (upd (upd (upd (upd (upd (upd (upd (upd (upd F 49 (nI md)) 85 (nI im)) 97 (nI ct)) 98 (nI fl)) 99 (nI rmm)) 101 tds) 102 (nI op)) 111 (nI tp)) 115 (nI wn)) 116 (-1)) 117 (nI fu)) 118 rs0) 119 uc0) 120 (nI rd)) 121 ma0) 122 mc0) 123 ca) 124 mo) 125 nw) 126 isn) 128 (nI on)) 130 (nI idn)) B n9 nd (by omega) (by omega) (hR.upP hR.rt.2.2)) (gV pw_2066 pw_2067 pw_2068 pw_1523 pw_2020) hV_X12_isFirst 0 9 rfl rfl rfl rfl (Nat.le_of_ble_eq_true rfl) dX12_beginsNow_27 ⟨Nat.le_of_ble_eq_true rfl, Nat.le_of_ble_eq_true rfl⟩ ⟨Nat.le_of_ble_eq_true rfl, Nat.le_of_ble_eq_true rfl⟩ (fun v1024 u1022 H locs hw1023 hP hD hS => ?_)
    obtain ⟨r1025, rfl⟩ : ∃ z, z = u1022 := ⟨_, rfl⟩
    obtain ⟨hw1023, h1026⟩ := hw1023
    replace h1026 : r1025 ≤ 1 := h1026
    obtain rfl : v1024 = some (.int (nI r1025)) := hw1023
    have hP : va_P G.1 pCl (mW G h0 a (upd (upd (upd (upd (upd (upd (upd (upd (upd (upd (upd (upd (upd (upd (upd (upd (upd (upd (upd (upd (upd (upd F 49 (nI md)) 85 (nI im)) 97 (nI ct)) 98 (nI fl)) 99 (nI rmm)) 101 tds) 102 (nI op)) 111 (nI tp)) 115 (nI wn)) 116 (-1)) 117 (nI fu)) 118 rs0) 119 uc0) 120 (nI rd)) 121 ma0) 122 mc0) 123 ca) 124 mo) 125 nw) 126 isn) 128 (nI on)) 130 (nI idn)) B) _ := hP
    have hD : va_D A (mW G h0 a (upd (upd (upd (upd (upd (upd (upd (upd (upd (upd (upd (upd (upd (upd (upd (upd (upd (upd (upd (upd (upd (upd F 49 (nI md)) 85 (nI im)) 97 (nI ct)) 98 (nI fl)) 99 (nI rmm)) 101 tds) 102 (nI op)) 111 (nI tp)) 115 (nI wn)) 116 (-1)) 117 (nI fu)) 118 rs0) 119 uc0) 120 (nI rd)) 121 ma0) 122 mc0) 123 ca) 124 mo) 125 nw) 126 isn) 128 (nI on)) 130 (nI idn)) B) := hD
    refine W.widen (k := 0) (n := 0) (Nat.le_of_ble_eq_true rfl) (Nat.le_of_ble_eq_true rfl) ?_
    refine W.eq (g2 := F0 m 30 ls [.int (nI r1025)]) rfl ?_
    refine lv_if_ne (tgt := 41) hx hb dX12_beginsNow_30 (by decide) (fun c1027 => ?_) (fun c1027 => ?_)
    · have n1028 : ¬ (r1025 = 0) := fun h9 => c1027 ((nI_eq (a := r1025) (b := 0) (by omega) (by omega)).mpr h9)
      refine lv_iload_n hx hb dX12_beginsNow_41 rfl (lv_at hl 0 rfl) ?_
      refine lv_tableIn (tgt := 701) (off := 659) hx hb dX12_beginsNow_42 (by decide) (by decide) (by decide) (by decide) ?_
      refine lv_aload_n hx hb dX12_beginsNow_701 rfl (lv_at hl 1 rfl) ?_
      refine lv_iload_n hx hb dX12_beginsNow_702 rfl (lv_at hl 2 rfl) ?_
      refine lv_aload_n hx hb dX12_beginsNow_703 rfl (lv_at hl 1 rfl) ?_
      refine r_get (v := .ref (a 12)) hx hb hown hq hE hP 20 47 tFX12_20 (by decide) pw_1442 rfl dX12_beginsNow_704 ?_
      refine lv_iload_n hx hb dX12_beginsNow_707 rfl (lv_at hl 2 rfl) ?_
      refine r_ldi (f := (B 12)) (j := n9) hx hb hE hP 12 (ma_12 G a _) rfl (by omega) (by decide) dX12_beginsNow_708 ?_
      obtain ⟨jc, hj1, -⟩ := hPg.fs.kid hrm.2.2.1 hkd (by omega) (s := 1) (by omega) (by omega) (by decide) (by omega)
      obtain ⟨j1, ha1, ha2, ha3⟩ := hR.bK (uc := uc0) hkd (by omega) (by decide) (by decide) (by decide) rfl rfl (by omega)
      have hP : va_P G.1 pCl (mW G h0 a (upd (upd (upd (upd (upd (upd (upd (upd (upd (upd (upd (upd (upd (upd (upd (upd (upd (upd (upd (upd (upd (upd F 49 (nI md)) 85 (nI im)) 97 (nI ct)) 98 (nI fl)) 99 (nI rmm)) 101 tds) 102 (nI op)) 111 (nI tp)) 115 (nI wn)) 116 (-1)) 117 (nI fu)) 118 rs0) 119 uc0) 120 (nI rd)) 121 ma0) 122 mc0) 123 ca) 124 mo) 125 nw) 126 isn) 128 (nI on)) 130 (nI idn)) B) _ := hP
      have hD : va_D A (mW G h0 a (upd (upd (upd (upd (upd (upd (upd (upd (upd (upd (upd (upd (upd (upd (upd (upd (upd (upd (upd (upd (upd (upd F 49 (nI md)) 85 (nI im)) 97 (nI ct)) 98 (nI fl)) 99 (nI rmm)) 101 tds) 102 (nI op)) 111 (nI tp)) 115 (nI wn)) 116 (-1)) 117 (nI fu)) 118 rs0) 119 uc0) 120 (nI rd)) 121 ma0) 122 mc0) 123 ca) 124 mo) 125 nw) 126 isn) 128 (nI on)) 130 (nI idn)) B) := hD
      refine pc_V0 (G := G) (As := [.int (nI n9), .int ((B 12) n9)]) (rest := []) hx hb hml hown hq hE hX pX0_al hP hD hS hA hl.1 (R_goesInto l G h0 a (upd (upd (upd (upd (upd (upd (upd (upd (upd (upd (upd (upd (upd (upd (upd (upd (upd (upd (upd (upd (upd (upd F 49 (nI md)) 85 (nI im)) 97 (nI ct)) 98 (nI fl)) 99 (nI rmm)) 101 tds) 102 (nI op)) 111 (nI tp)) 115 (nI wn)) 116 (-1)) 117 (nI fu)) 118 rs0) 119 uc0) 120 (nI rd)) 121 ma0) 122 mc0) 123 ca) 124 mo) 125 nw) 126 isn) 128 (nI on)) 130 (nI idn)) B (nI n9) ((B 12) n9)) (gV pw_2078 pw_2079 pw_2080 pw_1523 pw_2064) hV_X12_goesInto 0 9 rfl rfl rfl rfl (Nat.le_of_ble_eq_true rfl) dX12_beginsNow_709 ⟨Nat.le_of_ble_eq_true rfl, Nat.le_of_ble_eq_true rfl⟩ ⟨Nat.le_of_ble_eq_true rfl, Nat.le_of_ble_eq_true rfl⟩ (fun v1031 u1029 H locs hw1030 hP hD hS => ?_)
      obtain ⟨nw1032, is1033⟩ := u1029
      obtain ⟨hw1030, h1034, h1035⟩ := hw1030
      replace h1034 : If (((B 12) n9) = -1) (nw1032 = (nI n9) ∧ is1033 = 0) := h1034
      replace h1035 : If (¬ ((B 12) n9) = -1) (nw1032 = ((B 12) n9) ∧ is1033 = 1) := h1035
      obtain rfl : v1031 = none := hw1030
      have hP : va_P G.1 pCl (mW G h0 a (upd (upd (upd (upd (upd (upd (upd (upd (upd (upd (upd (upd (upd (upd (upd (upd (upd (upd (upd (upd (upd (upd F 49 (nI md)) 85 (nI im)) 97 (nI ct)) 98 (nI fl)) 99 (nI rmm)) 101 tds) 102 (nI op)) 111 (nI tp)) 115 (nI wn)) 116 (-1)) 117 (nI fu)) 118 rs0) 119 uc0) 120 (nI rd)) 121 ma0) 122 mc0) 123 ca) 124 mo) 125 nw1032) 126 is1033) 128 (nI on)) 130 (nI idn)) B) _ := hP
      have hD : va_D A (mW G h0 a (upd (upd (upd (upd (upd (upd (upd (upd (upd (upd (upd (upd (upd (upd (upd (upd (upd (upd (upd (upd (upd (upd F 49 (nI md)) 85 (nI im)) 97 (nI ct)) 98 (nI fl)) 99 (nI rmm)) 101 tds) 102 (nI op)) 111 (nI tp)) 115 (nI wn)) 116 (-1)) 117 (nI fu)) 118 rs0) 119 uc0) 120 (nI rd)) 121 ma0) 122 mc0) 123 ca) 124 mo) 125 nw1032) 126 is1033) 128 (nI on)) 130 (nI idn)) B) := hD
      refine W.widen (k := 0) (n := 0) (Nat.le_of_ble_eq_true rfl) (Nat.le_of_ble_eq_true rfl) ?_
      refine W.eq (g2 := F0 m 712 ls []) rfl ?_
      have hz1036 : Nx Xs B gh nd T nm wr lz dc fd md pr bk M rmm fu (Phi gh ps op (rkN gh n9 false)) op tp wn fu rd on idn fl ct ((-1) : Int32) nw1032 is1033 uc0 := (by obtain ⟨y1, y2⟩ := h1035 (by rw [hw12, ha1]; exact nI_m1 (by omega)); rw [y1, y2, hw12, ha1]; exact ha3)
      have hP : va_P G.1 pCl (mW G h0 a (upd (upd (upd (upd (upd (upd (upd (upd (upd (upd (upd (upd (upd (upd (upd (upd (upd (upd (upd (upd (upd (upd F 49 (nI md)) 85 (nI im)) 97 (nI ct)) 98 (nI fl)) 99 (nI rmm)) 101 tds) 102 (nI op)) 111 (nI tp)) 115 (nI wn)) 116 ((-1) : Int32)) 117 (nI fu)) 118 rs0) 119 uc0) 120 (nI rd)) 121 ma0) 122 mc0) 123 ca) 124 mo) 125 nw1032) 126 is1033) 128 (nI on)) 130 (nI idn)) B) _ := hP
      have hD : va_D A (mW G h0 a (upd (upd (upd (upd (upd (upd (upd (upd (upd (upd (upd (upd (upd (upd (upd (upd (upd (upd (upd (upd (upd (upd F 49 (nI md)) 85 (nI im)) 97 (nI ct)) 98 (nI fl)) 99 (nI rmm)) 101 tds) 102 (nI op)) 111 (nI tp)) 115 (nI wn)) 116 ((-1) : Int32)) 117 (nI fu)) 118 rs0) 119 uc0) 120 (nI rd)) 121 ma0) 122 mc0) 123 ca) 124 mo) 125 nw1032) 126 is1033) 128 (nI on)) 130 (nI idn)) B) := hD
      exact W.vret hx hb hr (fun t9 ht9 hW9 => ⟨⟨_, (op, tp, wn, fu, ((-1) : Int32), nw1032, is1033, rs0, uc0, on, idn, fl, ct, tds, ma0, mc0, ca, mo, rd, B), rfl, ⟨rfl, hz1036⟩, by rw [ht9]; exact hP, hD⟩, hS.F ht9⟩) hS.2.2 dX12_beginsNow_712
    · have n1037 : r1025 = 0 := (nI_eq (a := r1025) (b := 0) (by omega) (by omega)).mp c1027
      refine lv_aload_n hx hb dX12_beginsNow_33 rfl (lv_at hl 1 rfl) ?_
      have hP : va_P G.1 pCl (mW G h0 a (upd (upd (upd (upd (upd (upd (upd (upd (upd (upd (upd (upd (upd (upd (upd (upd (upd (upd (upd (upd (upd (upd (upd (upd F 49 (nI md)) 85 (nI im)) 97 (nI ct)) 98 (nI fl)) 99 (nI rmm)) 101 tds) 102 (nI op)) 111 (nI tp)) 115 (nI wn)) 116 (-1)) 117 (nI fu)) 118 rs0) 119 uc0) 120 (nI rd)) 121 ma0) 122 mc0) 123 ca) 124 mo) 125 nw) 126 isn) 128 (nI on)) 130 (nI idn)) 116 (-1)) 117 (nI fu)) B) _ := hP
      have hD : va_D A (mW G h0 a (upd (upd (upd (upd (upd (upd (upd (upd (upd (upd (upd (upd (upd (upd (upd (upd (upd (upd (upd (upd (upd (upd (upd (upd F 49 (nI md)) 85 (nI im)) 97 (nI ct)) 98 (nI fl)) 99 (nI rmm)) 101 tds) 102 (nI op)) 111 (nI tp)) 115 (nI wn)) 116 (-1)) 117 (nI fu)) 118 rs0) 119 uc0) 120 (nI rd)) 121 ma0) 122 mc0) 123 ca) 124 mo) 125 nw) 126 isn) 128 (nI on)) 130 (nI idn)) 116 (-1)) 117 (nI fu)) B) := hD
      refine pc_V0 (G := G) (As := []) (rest := []) hx hb hml hown hq hE hX pX0_al hP hD hS hA hl.1 (R_pays l G h0 a (upd (upd (upd (upd (upd (upd (upd (upd (upd (upd (upd (upd (upd (upd (upd (upd (upd (upd (upd (upd (upd (upd F 49 (nI md)) 85 (nI im)) 97 (nI ct)) 98 (nI fl)) 99 (nI rmm)) 101 tds) 102 (nI op)) 111 (nI tp)) 115 (nI wn)) 116 (-1)) 117 (nI fu)) 118 rs0) 119 uc0) 120 (nI rd)) 121 ma0) 122 mc0) 123 ca) 124 mo) 125 nw) 126 isn) 128 (nI on)) 130 (nI idn)) B fu (-1) (by omega)) (gV pw_2026 pw_2027 pw_2028 pw_1523 pw_2000) hV_X12_pays 0 9 rfl rfl rfl rfl (Nat.le_of_ble_eq_true rfl) dX12_beginsNow_34 ⟨Nat.le_of_ble_eq_true rfl, Nat.le_of_ble_eq_true rfl⟩ ⟨Nat.le_of_ble_eq_true rfl, Nat.le_of_ble_eq_true rfl⟩ (fun v1040 u1038 H locs hw1039 hP hD hS => ?_)
      obtain ⟨r1041, fu1042, en1043⟩ := u1038
      obtain ⟨hw1039, h1044, h1045, h1046, h1047⟩ := hw1039
      replace h1044 : r1041 ≤ 1 := h1044
      replace h1045 : fu1042 + r1041 = fu := h1045
      replace h1046 : If (r1041 = 1) (en1043 = (-1)) := h1046
      replace h1047 : If (r1041 = 0) (en1043 = 2) := h1047
      obtain rfl : v1040 = some (.int (nI r1041)) := hw1039
      have hP : va_P G.1 pCl (mW G h0 a (upd (upd (upd (upd (upd (upd (upd (upd (upd (upd (upd (upd (upd (upd (upd (upd (upd (upd (upd (upd (upd (upd F 49 (nI md)) 85 (nI im)) 97 (nI ct)) 98 (nI fl)) 99 (nI rmm)) 101 tds) 102 (nI op)) 111 (nI tp)) 115 (nI wn)) 116 en1043) 117 (nI fu1042)) 118 rs0) 119 uc0) 120 (nI rd)) 121 ma0) 122 mc0) 123 ca) 124 mo) 125 nw) 126 isn) 128 (nI on)) 130 (nI idn)) B) _ := hP
      have hD : va_D A (mW G h0 a (upd (upd (upd (upd (upd (upd (upd (upd (upd (upd (upd (upd (upd (upd (upd (upd (upd (upd (upd (upd (upd (upd F 49 (nI md)) 85 (nI im)) 97 (nI ct)) 98 (nI fl)) 99 (nI rmm)) 101 tds) 102 (nI op)) 111 (nI tp)) 115 (nI wn)) 116 en1043) 117 (nI fu1042)) 118 rs0) 119 uc0) 120 (nI rd)) 121 ma0) 122 mc0) 123 ca) 124 mo) 125 nw) 126 isn) 128 (nI on)) 130 (nI idn)) B) := hD
      refine W.widen (k := 0) (n := 0) (Nat.le_of_ble_eq_true rfl) (Nat.le_of_ble_eq_true rfl) ?_
      refine W.eq (g2 := F0 m 37 ls [.int (nI r1041)]) rfl ?_
      rcases (show r1041 = 0 ∨ r1041 = 1 by omega) with hr0 | hr0
      · have hen := h1047 hr0
        subst hr0
        have hP : va_P G.1 pCl (mW G h0 a (upd (upd (upd (upd (upd (upd (upd (upd (upd (upd (upd (upd (upd (upd (upd (upd (upd (upd (upd (upd (upd (upd F 49 (nI md)) 85 (nI im)) 97 (nI ct)) 98 (nI fl)) 99 (nI rmm)) 101 tds) 102 (nI op)) 111 (nI tp)) 115 (nI wn)) 116 en1043) 117 (nI fu1042)) 118 rs0) 119 uc0) 120 (nI rd)) 121 ma0) 122 mc0) 123 ca) 124 mo) 125 nw) 126 isn) 128 (nI on)) 130 (nI idn)) B) _ := hP
        have hD : va_D A (mW G h0 a (upd (upd (upd (upd (upd (upd (upd (upd (upd (upd (upd (upd (upd (upd (upd (upd (upd (upd (upd (upd (upd (upd F 49 (nI md)) 85 (nI im)) 97 (nI ct)) 98 (nI fl)) 99 (nI rmm)) 101 tds) 102 (nI op)) 111 (nI tp)) 115 (nI wn)) 116 en1043) 117 (nI fu1042)) 118 rs0) 119 uc0) 120 (nI rd)) 121 ma0) 122 mc0) 123 ca) 124 mo) 125 nw) 126 isn) 128 (nI on)) 130 (nI idn)) B) := hD
        refine W.eq (g2 := F0 m 37 ls [.int 0]) rfl ?_
        refine lv_if_ne (tgt := 41) hx hb dX12_beginsNow_37 (by decide) (fun c1048 => absurd c1048 (by decide)) (fun c1048 => ?_)
        have hz1049 : Nx Xs B gh nd T nm wr lz dc fd md pr bk M rmm fu (Phi gh ps op (rkN gh n9 false)) op tp wn fu1042 rd on idn fl ct en1043 nw isn uc0 := (hR.stop Sta.rfl hR.hp (by rw [hen]; decide) (by rw [hen]; decide))
        have hP : va_P G.1 pCl (mW G h0 a (upd (upd (upd (upd (upd (upd (upd (upd (upd (upd (upd (upd (upd (upd (upd (upd (upd (upd (upd (upd (upd (upd F 49 (nI md)) 85 (nI im)) 97 (nI ct)) 98 (nI fl)) 99 (nI rmm)) 101 tds) 102 (nI op)) 111 (nI tp)) 115 (nI wn)) 116 en1043) 117 (nI fu1042)) 118 rs0) 119 uc0) 120 (nI rd)) 121 ma0) 122 mc0) 123 ca) 124 mo) 125 nw) 126 isn) 128 (nI on)) 130 (nI idn)) B) _ := hP
        have hD : va_D A (mW G h0 a (upd (upd (upd (upd (upd (upd (upd (upd (upd (upd (upd (upd (upd (upd (upd (upd (upd (upd (upd (upd (upd (upd F 49 (nI md)) 85 (nI im)) 97 (nI ct)) 98 (nI fl)) 99 (nI rmm)) 101 tds) 102 (nI op)) 111 (nI tp)) 115 (nI wn)) 116 en1043) 117 (nI fu1042)) 118 rs0) 119 uc0) 120 (nI rd)) 121 ma0) 122 mc0) 123 ca) 124 mo) 125 nw) 126 isn) 128 (nI on)) 130 (nI idn)) B) := hD
        exact W.vret hx hb hr (fun t9 ht9 hW9 => ⟨⟨_, (op, tp, wn, fu1042, en1043, nw, isn, rs0, uc0, on, idn, fl, ct, tds, ma0, mc0, ca, mo, rd, B), rfl, ⟨rfl, hz1049⟩, by rw [ht9]; exact hP, hD⟩, hS.F ht9⟩) hS.2.2 dX12_beginsNow_40
      · obtain rfl : en1043 = _ := h1046 hr0
        subst hr0
        have hP : va_P G.1 pCl (mW G h0 a (upd (upd (upd (upd (upd (upd (upd (upd (upd (upd (upd (upd (upd (upd (upd (upd (upd (upd (upd (upd (upd (upd F 49 (nI md)) 85 (nI im)) 97 (nI ct)) 98 (nI fl)) 99 (nI rmm)) 101 tds) 102 (nI op)) 111 (nI tp)) 115 (nI wn)) 116 (-1)) 117 (nI fu1042)) 118 rs0) 119 uc0) 120 (nI rd)) 121 ma0) 122 mc0) 123 ca) 124 mo) 125 nw) 126 isn) 128 (nI on)) 130 (nI idn)) B) _ := hP
        have hD : va_D A (mW G h0 a (upd (upd (upd (upd (upd (upd (upd (upd (upd (upd (upd (upd (upd (upd (upd (upd (upd (upd (upd (upd (upd (upd F 49 (nI md)) 85 (nI im)) 97 (nI ct)) 98 (nI fl)) 99 (nI rmm)) 101 tds) 102 (nI op)) 111 (nI tp)) 115 (nI wn)) 116 (-1)) 117 (nI fu1042)) 118 rs0) 119 uc0) 120 (nI rd)) 121 ma0) 122 mc0) 123 ca) 124 mo) 125 nw) 126 isn) 128 (nI on)) 130 (nI idn)) B) := hD
        refine W.eq (g2 := F0 m 37 ls [.int 1]) rfl ?_
        have hR1 := hR.fuel (show fu1042 ≤ fu by omega)
        refine lv_if_ne (tgt := 41) hx hb dX12_beginsNow_37 (by decide) (fun c1050 => ?_) (fun c1050 => absurd c1050 (by decide))
        refine lv_iload_n hx hb dX12_beginsNow_41 rfl (lv_at hl 0 rfl) ?_
        refine lv_tableIn (tgt := 701) (off := 659) hx hb dX12_beginsNow_42 (by decide) (by decide) (by decide) (by decide) ?_
        refine lv_aload_n hx hb dX12_beginsNow_701 rfl (lv_at hl 1 rfl) ?_
        refine lv_iload_n hx hb dX12_beginsNow_702 rfl (lv_at hl 2 rfl) ?_
        refine lv_aload_n hx hb dX12_beginsNow_703 rfl (lv_at hl 1 rfl) ?_
        refine r_get (v := .ref (a 12)) hx hb hown hq hE hP 20 47 tFX12_20 (by decide) pw_1442 rfl dX12_beginsNow_704 ?_
        refine lv_iload_n hx hb dX12_beginsNow_707 rfl (lv_at hl 2 rfl) ?_
        refine r_ldi (f := (B 12)) (j := n9) hx hb hE hP 12 (ma_12 G a _) rfl (by omega) (by decide) dX12_beginsNow_708 ?_
        obtain ⟨jc, hj1, -⟩ := hPg.fs.kid hrm.2.2.1 hkd (by omega) (s := 1) (by omega) (by omega) (by decide) (by omega)
        obtain ⟨j1, ha1, ha2, ha3⟩ := hR1.bK (uc := uc0) hkd (by omega) (by decide) (by decide) (by decide) rfl rfl (by omega)
        have hP : va_P G.1 pCl (mW G h0 a (upd (upd (upd (upd (upd (upd (upd (upd (upd (upd (upd (upd (upd (upd (upd (upd (upd (upd (upd (upd (upd (upd F 49 (nI md)) 85 (nI im)) 97 (nI ct)) 98 (nI fl)) 99 (nI rmm)) 101 tds) 102 (nI op)) 111 (nI tp)) 115 (nI wn)) 116 (-1)) 117 (nI fu1042)) 118 rs0) 119 uc0) 120 (nI rd)) 121 ma0) 122 mc0) 123 ca) 124 mo) 125 nw) 126 isn) 128 (nI on)) 130 (nI idn)) B) _ := hP
        have hD : va_D A (mW G h0 a (upd (upd (upd (upd (upd (upd (upd (upd (upd (upd (upd (upd (upd (upd (upd (upd (upd (upd (upd (upd (upd (upd F 49 (nI md)) 85 (nI im)) 97 (nI ct)) 98 (nI fl)) 99 (nI rmm)) 101 tds) 102 (nI op)) 111 (nI tp)) 115 (nI wn)) 116 (-1)) 117 (nI fu1042)) 118 rs0) 119 uc0) 120 (nI rd)) 121 ma0) 122 mc0) 123 ca) 124 mo) 125 nw) 126 isn) 128 (nI on)) 130 (nI idn)) B) := hD
        refine pc_V0 (G := G) (As := [.int (nI n9), .int ((B 12) n9)]) (rest := []) hx hb hml hown hq hE hX pX0_al hP hD hS hA hl.1 (R_goesInto l G h0 a (upd (upd (upd (upd (upd (upd (upd (upd (upd (upd (upd (upd (upd (upd (upd (upd (upd (upd (upd (upd (upd (upd F 49 (nI md)) 85 (nI im)) 97 (nI ct)) 98 (nI fl)) 99 (nI rmm)) 101 tds) 102 (nI op)) 111 (nI tp)) 115 (nI wn)) 116 (-1)) 117 (nI fu1042)) 118 rs0) 119 uc0) 120 (nI rd)) 121 ma0) 122 mc0) 123 ca) 124 mo) 125 nw) 126 isn) 128 (nI on)) 130 (nI idn)) B (nI n9) ((B 12) n9)) (gV pw_2078 pw_2079 pw_2080 pw_1523 pw_2064) hV_X12_goesInto 0 9 rfl rfl rfl rfl (Nat.le_of_ble_eq_true rfl) dX12_beginsNow_709 ⟨Nat.le_of_ble_eq_true rfl, Nat.le_of_ble_eq_true rfl⟩ ⟨Nat.le_of_ble_eq_true rfl, Nat.le_of_ble_eq_true rfl⟩ (fun v1053 u1051 H locs hw1052 hP hD hS => ?_)
        obtain ⟨nw1054, is1055⟩ := u1051
        obtain ⟨hw1052, h1056, h1057⟩ := hw1052
        replace h1056 : If (((B 12) n9) = -1) (nw1054 = (nI n9) ∧ is1055 = 0) := h1056
        replace h1057 : If (¬ ((B 12) n9) = -1) (nw1054 = ((B 12) n9) ∧ is1055 = 1) := h1057
        obtain rfl : v1053 = none := hw1052
        have hP : va_P G.1 pCl (mW G h0 a (upd (upd (upd (upd (upd (upd (upd (upd (upd (upd (upd (upd (upd (upd (upd (upd (upd (upd (upd (upd (upd (upd F 49 (nI md)) 85 (nI im)) 97 (nI ct)) 98 (nI fl)) 99 (nI rmm)) 101 tds) 102 (nI op)) 111 (nI tp)) 115 (nI wn)) 116 (-1)) 117 (nI fu1042)) 118 rs0) 119 uc0) 120 (nI rd)) 121 ma0) 122 mc0) 123 ca) 124 mo) 125 nw1054) 126 is1055) 128 (nI on)) 130 (nI idn)) B) _ := hP
        have hD : va_D A (mW G h0 a (upd (upd (upd (upd (upd (upd (upd (upd (upd (upd (upd (upd (upd (upd (upd (upd (upd (upd (upd (upd (upd (upd F 49 (nI md)) 85 (nI im)) 97 (nI ct)) 98 (nI fl)) 99 (nI rmm)) 101 tds) 102 (nI op)) 111 (nI tp)) 115 (nI wn)) 116 (-1)) 117 (nI fu1042)) 118 rs0) 119 uc0) 120 (nI rd)) 121 ma0) 122 mc0) 123 ca) 124 mo) 125 nw1054) 126 is1055) 128 (nI on)) 130 (nI idn)) B) := hD
        refine W.widen (k := 0) (n := 0) (Nat.le_of_ble_eq_true rfl) (Nat.le_of_ble_eq_true rfl) ?_
        refine W.eq (g2 := F0 m 712 ls []) rfl ?_
        have hz1058 : Nx Xs B gh nd T nm wr lz dc fd md pr bk M rmm fu (Phi gh ps op (rkN gh n9 false)) op tp wn fu1042 rd on idn fl ct ((-1) : Int32) nw1054 is1055 uc0 := (Nx.le (fu1 := fu1042) (by obtain ⟨y1, y2⟩ := h1057 (by rw [hw12, ha1]; exact nI_m1 (by omega)); rw [y1, y2, hw12, ha1]; exact ha3) (by omega))
        have hP : va_P G.1 pCl (mW G h0 a (upd (upd (upd (upd (upd (upd (upd (upd (upd (upd (upd (upd (upd (upd (upd (upd (upd (upd (upd (upd (upd (upd F 49 (nI md)) 85 (nI im)) 97 (nI ct)) 98 (nI fl)) 99 (nI rmm)) 101 tds) 102 (nI op)) 111 (nI tp)) 115 (nI wn)) 116 ((-1) : Int32)) 117 (nI fu1042)) 118 rs0) 119 uc0) 120 (nI rd)) 121 ma0) 122 mc0) 123 ca) 124 mo) 125 nw1054) 126 is1055) 128 (nI on)) 130 (nI idn)) B) _ := hP
        have hD : va_D A (mW G h0 a (upd (upd (upd (upd (upd (upd (upd (upd (upd (upd (upd (upd (upd (upd (upd (upd (upd (upd (upd (upd (upd (upd F 49 (nI md)) 85 (nI im)) 97 (nI ct)) 98 (nI fl)) 99 (nI rmm)) 101 tds) 102 (nI op)) 111 (nI tp)) 115 (nI wn)) 116 ((-1) : Int32)) 117 (nI fu1042)) 118 rs0) 119 uc0) 120 (nI rd)) 121 ma0) 122 mc0) 123 ca) 124 mo) 125 nw1054) 126 is1055) 128 (nI on)) 130 (nI idn)) B) := hD
        exact W.vret hx hb hr (fun t9 ht9 hW9 => ⟨⟨_, (op, tp, wn, fu1042, ((-1) : Int32), nw1054, is1055, rs0, uc0, on, idn, fl, ct, tds, ma0, mc0, ca, mo, rd, B), rfl, ⟨rfl, hz1058⟩, by rw [ht9]; exact hP, hD⟩, hS.F ht9⟩) hS.2.2 dX12_beginsNow_712
  · clear hn44 hkr hko
    refine lv_aload_n hx hb dX12_beginsNow_0 rfl (lv_at hl 0 rfl) ?_
    refine r_get (v := .ref (a 9)) hx hb hown hq hE hP 17 38 tFX12_17 (by decide) pw_1439 rfl dX12_beginsNow_1 ?_
    refine lv_iload_n hx hb dX12_beginsNow_4 rfl (lv_at hl 1 rfl) ?_
    refine r_ldi (f := (B 9)) (j := n9) hx hb hE hP 9 (ma_9 G a _) rfl (by omega) (by decide) dX12_beginsNow_5 ?_
    refine lv_topi (fun x1059 e1060 => ?_)
    obtain rfl : x1059 = 41 := e1060.trans ((congrFun hw9 _).trans hkd)
    refine lv_istore_n (lv' := [(2, .int 41), (0, .ref h0), (1, .int (nI n9))]) hx hb dX12_beginsNow_6 rfl hl (by decide) rfl (fun ls hl => ?_)
    refine lv_iload_n hx hb dX12_beginsNow_7 rfl (lv_at hl 0 rfl) ?_
    refine lv_bipush (v := 30) hx hb dX12_beginsNow_8 (by decide) ?_
    refine lv_icmp_lt (tgt := 41) hx hb dX12_beginsNow_10 (by decide) (fun c1061 => absurd c1061 (by decide)) (fun c1061 => ?_)
    refine lv_iload_n hx hb dX12_beginsNow_13 rfl (lv_at hl 0 rfl) ?_
    refine lv_bipush (v := 31) hx hb dX12_beginsNow_14 (by decide) ?_
    refine lv_icmp_eq (tgt := 41) hx hb dX12_beginsNow_16 (by decide) (fun c1062 => absurd c1062 (by decide)) (fun c1062 => ?_)
    refine lv_iload_n hx hb dX12_beginsNow_19 rfl (lv_at hl 0 rfl) ?_
    refine lv_bipush (v := 43) hx hb dX12_beginsNow_20 (by decide) ?_
    refine lv_icmp_eq (tgt := 41) hx hb dX12_beginsNow_22 (by decide) (fun c1063 => absurd c1063 (by decide)) (fun c1063 => ?_)
    refine lv_aload_n hx hb dX12_beginsNow_25 rfl (lv_at hl 1 rfl) ?_
    refine lv_iload_n hx hb dX12_beginsNow_26 rfl (lv_at hl 2 rfl) ?_
    have hP : va_P G.1 pCl (mW G h0 a (upd (upd (upd (upd (upd (upd (upd (upd (upd (upd (upd (upd (upd (upd (upd (upd (upd (upd (upd (upd (upd (upd F 49 (nI md)) 85 (nI im)) 97 (nI ct)) 98 (nI fl)) 99 (nI rmm)) 101 tds) 102 (nI op)) 111 (nI tp)) 115 (nI wn)) 116 (-1)) 117 (nI fu)) 118 rs0) 119 uc0) 120 (nI rd)) 121 ma0) 122 mc0) 123 ca) 124 mo) 125 nw) 126 isn) 128 (nI on)) 130 (nI idn)) B) _ := hP
    have hD : va_D A (mW G h0 a (upd (upd (upd (upd (upd (upd (upd (upd (upd (upd (upd (upd (upd (upd (upd (upd (upd (upd (upd (upd (upd (upd F 49 (nI md)) 85 (nI im)) 97 (nI ct)) 98 (nI fl)) 99 (nI rmm)) 101 tds) 102 (nI op)) 111 (nI tp)) 115 (nI wn)) 116 (-1)) 117 (nI fu)) 118 rs0) 119 uc0) 120 (nI rd)) 121 ma0) 122 mc0) 123 ca) 124 mo) 125 nw) 126 isn) 128 (nI on)) 130 (nI idn)) B) := hD
    refine pc_V0 (G := G) (As := [.int (nI n9)]) (rest := []) hx hb hml hown hq hE hX pX0_al hP hD hS hA hl.1 (R_isFirst l G h0 a (upd (upd (upd (upd (upd (upd (upd (upd (upd (upd (upd (upd (upd (upd (upd (upd (upd (upd (upd (upd (upd (upd F 49 (nI md)) 85 (nI im)) 97 (nI ct)) 98 (nI fl)) 99 (nI rmm)) 101 tds) 102 (nI op)) 111 (nI tp)) 115 (nI wn)) 116 (-1)) 117 (nI fu)) 118 rs0) 119 uc0) 120 (nI rd)) 121 ma0) 122 mc0) 123 ca) 124 mo) 125 nw) 126 isn) 128 (nI on)) 130 (nI idn)) B n9 nd (by omega) (by omega) (hR.upP hR.rt.2.2)) (gV pw_2066 pw_2067 pw_2068 pw_1523 pw_2020) hV_X12_isFirst 0 9 rfl rfl rfl rfl (Nat.le_of_ble_eq_true rfl) dX12_beginsNow_27 ⟨Nat.le_of_ble_eq_true rfl, Nat.le_of_ble_eq_true rfl⟩ ⟨Nat.le_of_ble_eq_true rfl, Nat.le_of_ble_eq_true rfl⟩ (fun v1066 u1064 H locs hw1065 hP hD hS => ?_)
    obtain ⟨r1067, rfl⟩ : ∃ z, z = u1064 := ⟨_, rfl⟩
    obtain ⟨hw1065, h1068⟩ := hw1065
    replace h1068 : r1067 ≤ 1 := h1068
    obtain rfl : v1066 = some (.int (nI r1067)) := hw1065
    have hP : va_P G.1 pCl (mW G h0 a (upd (upd (upd (upd (upd (upd (upd (upd (upd (upd (upd (upd (upd (upd (upd (upd (upd (upd (upd (upd (upd (upd F 49 (nI md)) 85 (nI im)) 97 (nI ct)) 98 (nI fl)) 99 (nI rmm)) 101 tds) 102 (nI op)) 111 (nI tp)) 115 (nI wn)) 116 (-1)) 117 (nI fu)) 118 rs0) 119 uc0) 120 (nI rd)) 121 ma0) 122 mc0) 123 ca) 124 mo) 125 nw) 126 isn) 128 (nI on)) 130 (nI idn)) B) _ := hP
    have hD : va_D A (mW G h0 a (upd (upd (upd (upd (upd (upd (upd (upd (upd (upd (upd (upd (upd (upd (upd (upd (upd (upd (upd (upd (upd (upd F 49 (nI md)) 85 (nI im)) 97 (nI ct)) 98 (nI fl)) 99 (nI rmm)) 101 tds) 102 (nI op)) 111 (nI tp)) 115 (nI wn)) 116 (-1)) 117 (nI fu)) 118 rs0) 119 uc0) 120 (nI rd)) 121 ma0) 122 mc0) 123 ca) 124 mo) 125 nw) 126 isn) 128 (nI on)) 130 (nI idn)) B) := hD
    refine W.widen (k := 0) (n := 0) (Nat.le_of_ble_eq_true rfl) (Nat.le_of_ble_eq_true rfl) ?_
    refine W.eq (g2 := F0 m 30 ls [.int (nI r1067)]) rfl ?_
    refine lv_if_ne (tgt := 41) hx hb dX12_beginsNow_30 (by decide) (fun c1069 => ?_) (fun c1069 => ?_)
    · have n1070 : ¬ (r1067 = 0) := fun h9 => c1069 ((nI_eq (a := r1067) (b := 0) (by omega) (by omega)).mpr h9)
      refine lv_iload_n hx hb dX12_beginsNow_41 rfl (lv_at hl 0 rfl) ?_
      refine lv_tableIn (tgt := 701) (off := 659) hx hb dX12_beginsNow_42 (by decide) (by decide) (by decide) (by decide) ?_
      refine lv_aload_n hx hb dX12_beginsNow_701 rfl (lv_at hl 1 rfl) ?_
      refine lv_iload_n hx hb dX12_beginsNow_702 rfl (lv_at hl 2 rfl) ?_
      refine lv_aload_n hx hb dX12_beginsNow_703 rfl (lv_at hl 1 rfl) ?_
      refine r_get (v := .ref (a 12)) hx hb hown hq hE hP 20 47 tFX12_20 (by decide) pw_1442 rfl dX12_beginsNow_704 ?_
      refine lv_iload_n hx hb dX12_beginsNow_707 rfl (lv_at hl 2 rfl) ?_
      refine r_ldi (f := (B 12)) (j := n9) hx hb hE hP 12 (ma_12 G a _) rfl (by omega) (by decide) dX12_beginsNow_708 ?_
      obtain ⟨jc, hj1, -⟩ := hPg.fs.kid hrm.2.2.1 hkd (by omega) (s := 1) (by omega) (by omega) (by decide) (by omega)
      obtain ⟨j1, ha1, ha2, ha3⟩ := hR.bK (uc := uc0) hkd (by omega) (by decide) (by decide) (by decide) rfl rfl (by omega)
      have hP : va_P G.1 pCl (mW G h0 a (upd (upd (upd (upd (upd (upd (upd (upd (upd (upd (upd (upd (upd (upd (upd (upd (upd (upd (upd (upd (upd (upd F 49 (nI md)) 85 (nI im)) 97 (nI ct)) 98 (nI fl)) 99 (nI rmm)) 101 tds) 102 (nI op)) 111 (nI tp)) 115 (nI wn)) 116 (-1)) 117 (nI fu)) 118 rs0) 119 uc0) 120 (nI rd)) 121 ma0) 122 mc0) 123 ca) 124 mo) 125 nw) 126 isn) 128 (nI on)) 130 (nI idn)) B) _ := hP
      have hD : va_D A (mW G h0 a (upd (upd (upd (upd (upd (upd (upd (upd (upd (upd (upd (upd (upd (upd (upd (upd (upd (upd (upd (upd (upd (upd F 49 (nI md)) 85 (nI im)) 97 (nI ct)) 98 (nI fl)) 99 (nI rmm)) 101 tds) 102 (nI op)) 111 (nI tp)) 115 (nI wn)) 116 (-1)) 117 (nI fu)) 118 rs0) 119 uc0) 120 (nI rd)) 121 ma0) 122 mc0) 123 ca) 124 mo) 125 nw) 126 isn) 128 (nI on)) 130 (nI idn)) B) := hD
      refine pc_V0 (G := G) (As := [.int (nI n9), .int ((B 12) n9)]) (rest := []) hx hb hml hown hq hE hX pX0_al hP hD hS hA hl.1 (R_goesInto l G h0 a (upd (upd (upd (upd (upd (upd (upd (upd (upd (upd (upd (upd (upd (upd (upd (upd (upd (upd (upd (upd (upd (upd F 49 (nI md)) 85 (nI im)) 97 (nI ct)) 98 (nI fl)) 99 (nI rmm)) 101 tds) 102 (nI op)) 111 (nI tp)) 115 (nI wn)) 116 (-1)) 117 (nI fu)) 118 rs0) 119 uc0) 120 (nI rd)) 121 ma0) 122 mc0) 123 ca) 124 mo) 125 nw) 126 isn) 128 (nI on)) 130 (nI idn)) B (nI n9) ((B 12) n9)) (gV pw_2078 pw_2079 pw_2080 pw_1523 pw_2064) hV_X12_goesInto 0 9 rfl rfl rfl rfl (Nat.le_of_ble_eq_true rfl) dX12_beginsNow_709 ⟨Nat.le_of_ble_eq_true rfl, Nat.le_of_ble_eq_true rfl⟩ ⟨Nat.le_of_ble_eq_true rfl, Nat.le_of_ble_eq_true rfl⟩ (fun v1073 u1071 H locs hw1072 hP hD hS => ?_)
      obtain ⟨nw1074, is1075⟩ := u1071
      obtain ⟨hw1072, h1076, h1077⟩ := hw1072
      replace h1076 : If (((B 12) n9) = -1) (nw1074 = (nI n9) ∧ is1075 = 0) := h1076
      replace h1077 : If (¬ ((B 12) n9) = -1) (nw1074 = ((B 12) n9) ∧ is1075 = 1) := h1077
      obtain rfl : v1073 = none := hw1072
      have hP : va_P G.1 pCl (mW G h0 a (upd (upd (upd (upd (upd (upd (upd (upd (upd (upd (upd (upd (upd (upd (upd (upd (upd (upd (upd (upd (upd (upd F 49 (nI md)) 85 (nI im)) 97 (nI ct)) 98 (nI fl)) 99 (nI rmm)) 101 tds) 102 (nI op)) 111 (nI tp)) 115 (nI wn)) 116 (-1)) 117 (nI fu)) 118 rs0) 119 uc0) 120 (nI rd)) 121 ma0) 122 mc0) 123 ca) 124 mo) 125 nw1074) 126 is1075) 128 (nI on)) 130 (nI idn)) B) _ := hP
      have hD : va_D A (mW G h0 a (upd (upd (upd (upd (upd (upd (upd (upd (upd (upd (upd (upd (upd (upd (upd (upd (upd (upd (upd (upd (upd (upd F 49 (nI md)) 85 (nI im)) 97 (nI ct)) 98 (nI fl)) 99 (nI rmm)) 101 tds) 102 (nI op)) 111 (nI tp)) 115 (nI wn)) 116 (-1)) 117 (nI fu)) 118 rs0) 119 uc0) 120 (nI rd)) 121 ma0) 122 mc0) 123 ca) 124 mo) 125 nw1074) 126 is1075) 128 (nI on)) 130 (nI idn)) B) := hD
      refine W.widen (k := 0) (n := 0) (Nat.le_of_ble_eq_true rfl) (Nat.le_of_ble_eq_true rfl) ?_
      refine W.eq (g2 := F0 m 712 ls []) rfl ?_
      have hz1078 : Nx Xs B gh nd T nm wr lz dc fd md pr bk M rmm fu (Phi gh ps op (rkN gh n9 false)) op tp wn fu rd on idn fl ct ((-1) : Int32) nw1074 is1075 uc0 := (by obtain ⟨y1, y2⟩ := h1077 (by rw [hw12, ha1]; exact nI_m1 (by omega)); rw [y1, y2, hw12, ha1]; exact ha3)
      have hP : va_P G.1 pCl (mW G h0 a (upd (upd (upd (upd (upd (upd (upd (upd (upd (upd (upd (upd (upd (upd (upd (upd (upd (upd (upd (upd (upd (upd F 49 (nI md)) 85 (nI im)) 97 (nI ct)) 98 (nI fl)) 99 (nI rmm)) 101 tds) 102 (nI op)) 111 (nI tp)) 115 (nI wn)) 116 ((-1) : Int32)) 117 (nI fu)) 118 rs0) 119 uc0) 120 (nI rd)) 121 ma0) 122 mc0) 123 ca) 124 mo) 125 nw1074) 126 is1075) 128 (nI on)) 130 (nI idn)) B) _ := hP
      have hD : va_D A (mW G h0 a (upd (upd (upd (upd (upd (upd (upd (upd (upd (upd (upd (upd (upd (upd (upd (upd (upd (upd (upd (upd (upd (upd F 49 (nI md)) 85 (nI im)) 97 (nI ct)) 98 (nI fl)) 99 (nI rmm)) 101 tds) 102 (nI op)) 111 (nI tp)) 115 (nI wn)) 116 ((-1) : Int32)) 117 (nI fu)) 118 rs0) 119 uc0) 120 (nI rd)) 121 ma0) 122 mc0) 123 ca) 124 mo) 125 nw1074) 126 is1075) 128 (nI on)) 130 (nI idn)) B) := hD
      exact W.vret hx hb hr (fun t9 ht9 hW9 => ⟨⟨_, (op, tp, wn, fu, ((-1) : Int32), nw1074, is1075, rs0, uc0, on, idn, fl, ct, tds, ma0, mc0, ca, mo, rd, B), rfl, ⟨rfl, hz1078⟩, by rw [ht9]; exact hP, hD⟩, hS.F ht9⟩) hS.2.2 dX12_beginsNow_712
    · have n1079 : r1067 = 0 := (nI_eq (a := r1067) (b := 0) (by omega) (by omega)).mp c1069
      refine lv_aload_n hx hb dX12_beginsNow_33 rfl (lv_at hl 1 rfl) ?_
      have hP : va_P G.1 pCl (mW G h0 a (upd (upd (upd (upd (upd (upd (upd (upd (upd (upd (upd (upd (upd (upd (upd (upd (upd (upd (upd (upd (upd (upd (upd (upd F 49 (nI md)) 85 (nI im)) 97 (nI ct)) 98 (nI fl)) 99 (nI rmm)) 101 tds) 102 (nI op)) 111 (nI tp)) 115 (nI wn)) 116 (-1)) 117 (nI fu)) 118 rs0) 119 uc0) 120 (nI rd)) 121 ma0) 122 mc0) 123 ca) 124 mo) 125 nw) 126 isn) 128 (nI on)) 130 (nI idn)) 116 (-1)) 117 (nI fu)) B) _ := hP
      have hD : va_D A (mW G h0 a (upd (upd (upd (upd (upd (upd (upd (upd (upd (upd (upd (upd (upd (upd (upd (upd (upd (upd (upd (upd (upd (upd (upd (upd F 49 (nI md)) 85 (nI im)) 97 (nI ct)) 98 (nI fl)) 99 (nI rmm)) 101 tds) 102 (nI op)) 111 (nI tp)) 115 (nI wn)) 116 (-1)) 117 (nI fu)) 118 rs0) 119 uc0) 120 (nI rd)) 121 ma0) 122 mc0) 123 ca) 124 mo) 125 nw) 126 isn) 128 (nI on)) 130 (nI idn)) 116 (-1)) 117 (nI fu)) B) := hD
      refine pc_V0 (G := G) (As := []) (rest := []) hx hb hml hown hq hE hX pX0_al hP hD hS hA hl.1 (R_pays l G h0 a (upd (upd (upd (upd (upd (upd (upd (upd (upd (upd (upd (upd (upd (upd (upd (upd (upd (upd (upd (upd (upd (upd F 49 (nI md)) 85 (nI im)) 97 (nI ct)) 98 (nI fl)) 99 (nI rmm)) 101 tds) 102 (nI op)) 111 (nI tp)) 115 (nI wn)) 116 (-1)) 117 (nI fu)) 118 rs0) 119 uc0) 120 (nI rd)) 121 ma0) 122 mc0) 123 ca) 124 mo) 125 nw) 126 isn) 128 (nI on)) 130 (nI idn)) B fu (-1) (by omega)) (gV pw_2026 pw_2027 pw_2028 pw_1523 pw_2000) hV_X12_pays 0 9 rfl rfl rfl rfl (Nat.le_of_ble_eq_true rfl) dX12_beginsNow_34 ⟨Nat.le_of_ble_eq_true rfl, Nat.le_of_ble_eq_true rfl⟩ ⟨Nat.le_of_ble_eq_true rfl, Nat.le_of_ble_eq_true rfl⟩ (fun v1082 u1080 H locs hw1081 hP hD hS => ?_)
      obtain ⟨r1083, fu1084, en1085⟩ := u1080
      obtain ⟨hw1081, h1086, h1087, h1088, h1089⟩ := hw1081
      replace h1086 : r1083 ≤ 1 := h1086
      replace h1087 : fu1084 + r1083 = fu := h1087
      replace h1088 : If (r1083 = 1) (en1085 = (-1)) := h1088
      replace h1089 : If (r1083 = 0) (en1085 = 2) := h1089
      obtain rfl : v1082 = some (.int (nI r1083)) := hw1081
      have hP : va_P G.1 pCl (mW G h0 a (upd (upd (upd (upd (upd (upd (upd (upd (upd (upd (upd (upd (upd (upd (upd (upd (upd (upd (upd (upd (upd (upd F 49 (nI md)) 85 (nI im)) 97 (nI ct)) 98 (nI fl)) 99 (nI rmm)) 101 tds) 102 (nI op)) 111 (nI tp)) 115 (nI wn)) 116 en1085) 117 (nI fu1084)) 118 rs0) 119 uc0) 120 (nI rd)) 121 ma0) 122 mc0) 123 ca) 124 mo) 125 nw) 126 isn) 128 (nI on)) 130 (nI idn)) B) _ := hP
      have hD : va_D A (mW G h0 a (upd (upd (upd (upd (upd (upd (upd (upd (upd (upd (upd (upd (upd (upd (upd (upd (upd (upd (upd (upd (upd (upd F 49 (nI md)) 85 (nI im)) 97 (nI ct)) 98 (nI fl)) 99 (nI rmm)) 101 tds) 102 (nI op)) 111 (nI tp)) 115 (nI wn)) 116 en1085) 117 (nI fu1084)) 118 rs0) 119 uc0) 120 (nI rd)) 121 ma0) 122 mc0) 123 ca) 124 mo) 125 nw) 126 isn) 128 (nI on)) 130 (nI idn)) B) := hD
      refine W.widen (k := 0) (n := 0) (Nat.le_of_ble_eq_true rfl) (Nat.le_of_ble_eq_true rfl) ?_
      refine W.eq (g2 := F0 m 37 ls [.int (nI r1083)]) rfl ?_
      rcases (show r1083 = 0 ∨ r1083 = 1 by omega) with hr0 | hr0
      · have hen := h1089 hr0
        subst hr0
        have hP : va_P G.1 pCl (mW G h0 a (upd (upd (upd (upd (upd (upd (upd (upd (upd (upd (upd (upd (upd (upd (upd (upd (upd (upd (upd (upd (upd (upd F 49 (nI md)) 85 (nI im)) 97 (nI ct)) 98 (nI fl)) 99 (nI rmm)) 101 tds) 102 (nI op)) 111 (nI tp)) 115 (nI wn)) 116 en1085) 117 (nI fu1084)) 118 rs0) 119 uc0) 120 (nI rd)) 121 ma0) 122 mc0) 123 ca) 124 mo) 125 nw) 126 isn) 128 (nI on)) 130 (nI idn)) B) _ := hP
        have hD : va_D A (mW G h0 a (upd (upd (upd (upd (upd (upd (upd (upd (upd (upd (upd (upd (upd (upd (upd (upd (upd (upd (upd (upd (upd (upd F 49 (nI md)) 85 (nI im)) 97 (nI ct)) 98 (nI fl)) 99 (nI rmm)) 101 tds) 102 (nI op)) 111 (nI tp)) 115 (nI wn)) 116 en1085) 117 (nI fu1084)) 118 rs0) 119 uc0) 120 (nI rd)) 121 ma0) 122 mc0) 123 ca) 124 mo) 125 nw) 126 isn) 128 (nI on)) 130 (nI idn)) B) := hD
        refine W.eq (g2 := F0 m 37 ls [.int 0]) rfl ?_
        refine lv_if_ne (tgt := 41) hx hb dX12_beginsNow_37 (by decide) (fun c1090 => absurd c1090 (by decide)) (fun c1090 => ?_)
        have hz1091 : Nx Xs B gh nd T nm wr lz dc fd md pr bk M rmm fu (Phi gh ps op (rkN gh n9 false)) op tp wn fu1084 rd on idn fl ct en1085 nw isn uc0 := (hR.stop Sta.rfl hR.hp (by rw [hen]; decide) (by rw [hen]; decide))
        have hP : va_P G.1 pCl (mW G h0 a (upd (upd (upd (upd (upd (upd (upd (upd (upd (upd (upd (upd (upd (upd (upd (upd (upd (upd (upd (upd (upd (upd F 49 (nI md)) 85 (nI im)) 97 (nI ct)) 98 (nI fl)) 99 (nI rmm)) 101 tds) 102 (nI op)) 111 (nI tp)) 115 (nI wn)) 116 en1085) 117 (nI fu1084)) 118 rs0) 119 uc0) 120 (nI rd)) 121 ma0) 122 mc0) 123 ca) 124 mo) 125 nw) 126 isn) 128 (nI on)) 130 (nI idn)) B) _ := hP
        have hD : va_D A (mW G h0 a (upd (upd (upd (upd (upd (upd (upd (upd (upd (upd (upd (upd (upd (upd (upd (upd (upd (upd (upd (upd (upd (upd F 49 (nI md)) 85 (nI im)) 97 (nI ct)) 98 (nI fl)) 99 (nI rmm)) 101 tds) 102 (nI op)) 111 (nI tp)) 115 (nI wn)) 116 en1085) 117 (nI fu1084)) 118 rs0) 119 uc0) 120 (nI rd)) 121 ma0) 122 mc0) 123 ca) 124 mo) 125 nw) 126 isn) 128 (nI on)) 130 (nI idn)) B) := hD
        exact W.vret hx hb hr (fun t9 ht9 hW9 => ⟨⟨_, (op, tp, wn, fu1084, en1085, nw, isn, rs0, uc0, on, idn, fl, ct, tds, ma0, mc0, ca, mo, rd, B), rfl, ⟨rfl, hz1091⟩, by rw [ht9]; exact hP, hD⟩, hS.F ht9⟩) hS.2.2 dX12_beginsNow_40
      · obtain rfl : en1085 = _ := h1088 hr0
        subst hr0
        have hP : va_P G.1 pCl (mW G h0 a (upd (upd (upd (upd (upd (upd (upd (upd (upd (upd (upd (upd (upd (upd (upd (upd (upd (upd (upd (upd (upd (upd F 49 (nI md)) 85 (nI im)) 97 (nI ct)) 98 (nI fl)) 99 (nI rmm)) 101 tds) 102 (nI op)) 111 (nI tp)) 115 (nI wn)) 116 (-1)) 117 (nI fu1084)) 118 rs0) 119 uc0) 120 (nI rd)) 121 ma0) 122 mc0) 123 ca) 124 mo) 125 nw) 126 isn) 128 (nI on)) 130 (nI idn)) B) _ := hP
        have hD : va_D A (mW G h0 a (upd (upd (upd (upd (upd (upd (upd (upd (upd (upd (upd (upd (upd (upd (upd (upd (upd (upd (upd (upd (upd (upd F 49 (nI md)) 85 (nI im)) 97 (nI ct)) 98 (nI fl)) 99 (nI rmm)) 101 tds) 102 (nI op)) 111 (nI tp)) 115 (nI wn)) 116 (-1)) 117 (nI fu1084)) 118 rs0) 119 uc0) 120 (nI rd)) 121 ma0) 122 mc0) 123 ca) 124 mo) 125 nw) 126 isn) 128 (nI on)) 130 (nI idn)) B) := hD
        refine W.eq (g2 := F0 m 37 ls [.int 1]) rfl ?_
        have hR1 := hR.fuel (show fu1084 ≤ fu by omega)
        refine lv_if_ne (tgt := 41) hx hb dX12_beginsNow_37 (by decide) (fun c1092 => ?_) (fun c1092 => absurd c1092 (by decide))
        refine lv_iload_n hx hb dX12_beginsNow_41 rfl (lv_at hl 0 rfl) ?_
        refine lv_tableIn (tgt := 701) (off := 659) hx hb dX12_beginsNow_42 (by decide) (by decide) (by decide) (by decide) ?_
        refine lv_aload_n hx hb dX12_beginsNow_701 rfl (lv_at hl 1 rfl) ?_
        refine lv_iload_n hx hb dX12_beginsNow_702 rfl (lv_at hl 2 rfl) ?_
        refine lv_aload_n hx hb dX12_beginsNow_703 rfl (lv_at hl 1 rfl) ?_
        refine r_get (v := .ref (a 12)) hx hb hown hq hE hP 20 47 tFX12_20 (by decide) pw_1442 rfl dX12_beginsNow_704 ?_
        refine lv_iload_n hx hb dX12_beginsNow_707 rfl (lv_at hl 2 rfl) ?_
        refine r_ldi (f := (B 12)) (j := n9) hx hb hE hP 12 (ma_12 G a _) rfl (by omega) (by decide) dX12_beginsNow_708 ?_
        obtain ⟨jc, hj1, -⟩ := hPg.fs.kid hrm.2.2.1 hkd (by omega) (s := 1) (by omega) (by omega) (by decide) (by omega)
        obtain ⟨j1, ha1, ha2, ha3⟩ := hR1.bK (uc := uc0) hkd (by omega) (by decide) (by decide) (by decide) rfl rfl (by omega)
        have hP : va_P G.1 pCl (mW G h0 a (upd (upd (upd (upd (upd (upd (upd (upd (upd (upd (upd (upd (upd (upd (upd (upd (upd (upd (upd (upd (upd (upd F 49 (nI md)) 85 (nI im)) 97 (nI ct)) 98 (nI fl)) 99 (nI rmm)) 101 tds) 102 (nI op)) 111 (nI tp)) 115 (nI wn)) 116 (-1)) 117 (nI fu1084)) 118 rs0) 119 uc0) 120 (nI rd)) 121 ma0) 122 mc0) 123 ca) 124 mo) 125 nw) 126 isn) 128 (nI on)) 130 (nI idn)) B) _ := hP
        have hD : va_D A (mW G h0 a (upd (upd (upd (upd (upd (upd (upd (upd (upd (upd (upd (upd (upd (upd (upd (upd (upd (upd (upd (upd (upd (upd F 49 (nI md)) 85 (nI im)) 97 (nI ct)) 98 (nI fl)) 99 (nI rmm)) 101 tds) 102 (nI op)) 111 (nI tp)) 115 (nI wn)) 116 (-1)) 117 (nI fu1084)) 118 rs0) 119 uc0) 120 (nI rd)) 121 ma0) 122 mc0) 123 ca) 124 mo) 125 nw) 126 isn) 128 (nI on)) 130 (nI idn)) B) := hD
        refine pc_V0 (G := G) (As := [.int (nI n9), .int ((B 12) n9)]) (rest := []) hx hb hml hown hq hE hX pX0_al hP hD hS hA hl.1 (R_goesInto l G h0 a (upd (upd (upd (upd (upd (upd (upd (upd (upd (upd (upd (upd (upd (upd (upd (upd (upd (upd (upd (upd (upd (upd F 49 (nI md)) 85 (nI im)) 97 (nI ct)) 98 (nI fl)) 99 (nI rmm)) 101 tds) 102 (nI op)) 111 (nI tp)) 115 (nI wn)) 116 (-1)) 117 (nI fu1084)) 118 rs0) 119 uc0) 120 (nI rd)) 121 ma0) 122 mc0) 123 ca) 124 mo) 125 nw) 126 isn) 128 (nI on)) 130 (nI idn)) B (nI n9) ((B 12) n9)) (gV pw_2078 pw_2079 pw_2080 pw_1523 pw_2064) hV_X12_goesInto 0 9 rfl rfl rfl rfl (Nat.le_of_ble_eq_true rfl) dX12_beginsNow_709 ⟨Nat.le_of_ble_eq_true rfl, Nat.le_of_ble_eq_true rfl⟩ ⟨Nat.le_of_ble_eq_true rfl, Nat.le_of_ble_eq_true rfl⟩ (fun v1095 u1093 H locs hw1094 hP hD hS => ?_)
        obtain ⟨nw1096, is1097⟩ := u1093
        obtain ⟨hw1094, h1098, h1099⟩ := hw1094
        replace h1098 : If (((B 12) n9) = -1) (nw1096 = (nI n9) ∧ is1097 = 0) := h1098
        replace h1099 : If (¬ ((B 12) n9) = -1) (nw1096 = ((B 12) n9) ∧ is1097 = 1) := h1099
        obtain rfl : v1095 = none := hw1094
        have hP : va_P G.1 pCl (mW G h0 a (upd (upd (upd (upd (upd (upd (upd (upd (upd (upd (upd (upd (upd (upd (upd (upd (upd (upd (upd (upd (upd (upd F 49 (nI md)) 85 (nI im)) 97 (nI ct)) 98 (nI fl)) 99 (nI rmm)) 101 tds) 102 (nI op)) 111 (nI tp)) 115 (nI wn)) 116 (-1)) 117 (nI fu1084)) 118 rs0) 119 uc0) 120 (nI rd)) 121 ma0) 122 mc0) 123 ca) 124 mo) 125 nw1096) 126 is1097) 128 (nI on)) 130 (nI idn)) B) _ := hP
        have hD : va_D A (mW G h0 a (upd (upd (upd (upd (upd (upd (upd (upd (upd (upd (upd (upd (upd (upd (upd (upd (upd (upd (upd (upd (upd (upd F 49 (nI md)) 85 (nI im)) 97 (nI ct)) 98 (nI fl)) 99 (nI rmm)) 101 tds) 102 (nI op)) 111 (nI tp)) 115 (nI wn)) 116 (-1)) 117 (nI fu1084)) 118 rs0) 119 uc0) 120 (nI rd)) 121 ma0) 122 mc0) 123 ca) 124 mo) 125 nw1096) 126 is1097) 128 (nI on)) 130 (nI idn)) B) := hD
        refine W.widen (k := 0) (n := 0) (Nat.le_of_ble_eq_true rfl) (Nat.le_of_ble_eq_true rfl) ?_
        refine W.eq (g2 := F0 m 712 ls []) rfl ?_
        have hz1100 : Nx Xs B gh nd T nm wr lz dc fd md pr bk M rmm fu (Phi gh ps op (rkN gh n9 false)) op tp wn fu1084 rd on idn fl ct ((-1) : Int32) nw1096 is1097 uc0 := (Nx.le (fu1 := fu1084) (by obtain ⟨y1, y2⟩ := h1099 (by rw [hw12, ha1]; exact nI_m1 (by omega)); rw [y1, y2, hw12, ha1]; exact ha3) (by omega))
        have hP : va_P G.1 pCl (mW G h0 a (upd (upd (upd (upd (upd (upd (upd (upd (upd (upd (upd (upd (upd (upd (upd (upd (upd (upd (upd (upd (upd (upd F 49 (nI md)) 85 (nI im)) 97 (nI ct)) 98 (nI fl)) 99 (nI rmm)) 101 tds) 102 (nI op)) 111 (nI tp)) 115 (nI wn)) 116 ((-1) : Int32)) 117 (nI fu1084)) 118 rs0) 119 uc0) 120 (nI rd)) 121 ma0) 122 mc0) 123 ca) 124 mo) 125 nw1096) 126 is1097) 128 (nI on)) 130 (nI idn)) B) _ := hP
        have hD : va_D A (mW G h0 a (upd (upd (upd (upd (upd (upd (upd (upd (upd (upd (upd (upd (upd (upd (upd (upd (upd (upd (upd (upd (upd (upd F 49 (nI md)) 85 (nI im)) 97 (nI ct)) 98 (nI fl)) 99 (nI rmm)) 101 tds) 102 (nI op)) 111 (nI tp)) 115 (nI wn)) 116 ((-1) : Int32)) 117 (nI fu1084)) 118 rs0) 119 uc0) 120 (nI rd)) 121 ma0) 122 mc0) 123 ca) 124 mo) 125 nw1096) 126 is1097) 128 (nI on)) 130 (nI idn)) B) := hD
        exact W.vret hx hb hr (fun t9 ht9 hW9 => ⟨⟨_, (op, tp, wn, fu1084, ((-1) : Int32), nw1096, is1097, rs0, uc0, on, idn, fl, ct, tds, ma0, mc0, ca, mo, rd, B), rfl, ⟨rfl, hz1100⟩, by rw [ht9]; exact hP, hD⟩, hS.F ht9⟩) hS.2.2 dX12_beginsNow_712
  · clear hn44 hkr hko
    refine lv_aload_n hx hb dX12_beginsNow_0 rfl (lv_at hl 0 rfl) ?_
    refine r_get (v := .ref (a 9)) hx hb hown hq hE hP 17 38 tFX12_17 (by decide) pw_1439 rfl dX12_beginsNow_1 ?_
    refine lv_iload_n hx hb dX12_beginsNow_4 rfl (lv_at hl 1 rfl) ?_
    refine r_ldi (f := (B 9)) (j := n9) hx hb hE hP 9 (ma_9 G a _) rfl (by omega) (by decide) dX12_beginsNow_5 ?_
    refine lv_topi (fun x1101 e1102 => ?_)
    obtain rfl : x1101 = 42 := e1102.trans ((congrFun hw9 _).trans hkd)
    refine lv_istore_n (lv' := [(2, .int 42), (0, .ref h0), (1, .int (nI n9))]) hx hb dX12_beginsNow_6 rfl hl (by decide) rfl (fun ls hl => ?_)
    refine lv_iload_n hx hb dX12_beginsNow_7 rfl (lv_at hl 0 rfl) ?_
    refine lv_bipush (v := 30) hx hb dX12_beginsNow_8 (by decide) ?_
    refine lv_icmp_lt (tgt := 41) hx hb dX12_beginsNow_10 (by decide) (fun c1103 => absurd c1103 (by decide)) (fun c1103 => ?_)
    refine lv_iload_n hx hb dX12_beginsNow_13 rfl (lv_at hl 0 rfl) ?_
    refine lv_bipush (v := 31) hx hb dX12_beginsNow_14 (by decide) ?_
    refine lv_icmp_eq (tgt := 41) hx hb dX12_beginsNow_16 (by decide) (fun c1104 => absurd c1104 (by decide)) (fun c1104 => ?_)
    refine lv_iload_n hx hb dX12_beginsNow_19 rfl (lv_at hl 0 rfl) ?_
    refine lv_bipush (v := 43) hx hb dX12_beginsNow_20 (by decide) ?_
    refine lv_icmp_eq (tgt := 41) hx hb dX12_beginsNow_22 (by decide) (fun c1105 => absurd c1105 (by decide)) (fun c1105 => ?_)
    refine lv_aload_n hx hb dX12_beginsNow_25 rfl (lv_at hl 1 rfl) ?_
    refine lv_iload_n hx hb dX12_beginsNow_26 rfl (lv_at hl 2 rfl) ?_
    have hP : va_P G.1 pCl (mW G h0 a (upd (upd (upd (upd (upd (upd (upd (upd (upd (upd (upd (upd (upd (upd (upd (upd (upd (upd (upd (upd (upd (upd F 49 (nI md)) 85 (nI im)) 97 (nI ct)) 98 (nI fl)) 99 (nI rmm)) 101 tds) 102 (nI op)) 111 (nI tp)) 115 (nI wn)) 116 (-1)) 117 (nI fu)) 118 rs0) 119 uc0) 120 (nI rd)) 121 ma0) 122 mc0) 123 ca) 124 mo) 125 nw) 126 isn) 128 (nI on)) 130 (nI idn)) B) _ := hP
    have hD : va_D A (mW G h0 a (upd (upd (upd (upd (upd (upd (upd (upd (upd (upd (upd (upd (upd (upd (upd (upd (upd (upd (upd (upd (upd (upd F 49 (nI md)) 85 (nI im)) 97 (nI ct)) 98 (nI fl)) 99 (nI rmm)) 101 tds) 102 (nI op)) 111 (nI tp)) 115 (nI wn)) 116 (-1)) 117 (nI fu)) 118 rs0) 119 uc0) 120 (nI rd)) 121 ma0) 122 mc0) 123 ca) 124 mo) 125 nw) 126 isn) 128 (nI on)) 130 (nI idn)) B) := hD
    refine pc_V0 (G := G) (As := [.int (nI n9)]) (rest := []) hx hb hml hown hq hE hX pX0_al hP hD hS hA hl.1 (R_isFirst l G h0 a (upd (upd (upd (upd (upd (upd (upd (upd (upd (upd (upd (upd (upd (upd (upd (upd (upd (upd (upd (upd (upd (upd F 49 (nI md)) 85 (nI im)) 97 (nI ct)) 98 (nI fl)) 99 (nI rmm)) 101 tds) 102 (nI op)) 111 (nI tp)) 115 (nI wn)) 116 (-1)) 117 (nI fu)) 118 rs0) 119 uc0) 120 (nI rd)) 121 ma0) 122 mc0) 123 ca) 124 mo) 125 nw) 126 isn) 128 (nI on)) 130 (nI idn)) B n9 nd (by omega) (by omega) (hR.upP hR.rt.2.2)) (gV pw_2066 pw_2067 pw_2068 pw_1523 pw_2020) hV_X12_isFirst 0 9 rfl rfl rfl rfl (Nat.le_of_ble_eq_true rfl) dX12_beginsNow_27 ⟨Nat.le_of_ble_eq_true rfl, Nat.le_of_ble_eq_true rfl⟩ ⟨Nat.le_of_ble_eq_true rfl, Nat.le_of_ble_eq_true rfl⟩ (fun v1108 u1106 H locs hw1107 hP hD hS => ?_)
    obtain ⟨r1109, rfl⟩ : ∃ z, z = u1106 := ⟨_, rfl⟩
    obtain ⟨hw1107, h1110⟩ := hw1107
    replace h1110 : r1109 ≤ 1 := h1110
    obtain rfl : v1108 = some (.int (nI r1109)) := hw1107
    have hP : va_P G.1 pCl (mW G h0 a (upd (upd (upd (upd (upd (upd (upd (upd (upd (upd (upd (upd (upd (upd (upd (upd (upd (upd (upd (upd (upd (upd F 49 (nI md)) 85 (nI im)) 97 (nI ct)) 98 (nI fl)) 99 (nI rmm)) 101 tds) 102 (nI op)) 111 (nI tp)) 115 (nI wn)) 116 (-1)) 117 (nI fu)) 118 rs0) 119 uc0) 120 (nI rd)) 121 ma0) 122 mc0) 123 ca) 124 mo) 125 nw) 126 isn) 128 (nI on)) 130 (nI idn)) B) _ := hP
    have hD : va_D A (mW G h0 a (upd (upd (upd (upd (upd (upd (upd (upd (upd (upd (upd (upd (upd (upd (upd (upd (upd (upd (upd (upd (upd (upd F 49 (nI md)) 85 (nI im)) 97 (nI ct)) 98 (nI fl)) 99 (nI rmm)) 101 tds) 102 (nI op)) 111 (nI tp)) 115 (nI wn)) 116 (-1)) 117 (nI fu)) 118 rs0) 119 uc0) 120 (nI rd)) 121 ma0) 122 mc0) 123 ca) 124 mo) 125 nw) 126 isn) 128 (nI on)) 130 (nI idn)) B) := hD
    refine W.widen (k := 0) (n := 0) (Nat.le_of_ble_eq_true rfl) (Nat.le_of_ble_eq_true rfl) ?_
    refine W.eq (g2 := F0 m 30 ls [.int (nI r1109)]) rfl ?_
    refine lv_if_ne (tgt := 41) hx hb dX12_beginsNow_30 (by decide) (fun c1111 => ?_) (fun c1111 => ?_)
    · have n1112 : ¬ (r1109 = 0) := fun h9 => c1111 ((nI_eq (a := r1109) (b := 0) (by omega) (by omega)).mpr h9)
      refine lv_iload_n hx hb dX12_beginsNow_41 rfl (lv_at hl 0 rfl) ?_
      refine lv_tableIn (tgt := 701) (off := 659) hx hb dX12_beginsNow_42 (by decide) (by decide) (by decide) (by decide) ?_
      refine lv_aload_n hx hb dX12_beginsNow_701 rfl (lv_at hl 1 rfl) ?_
      refine lv_iload_n hx hb dX12_beginsNow_702 rfl (lv_at hl 2 rfl) ?_
      refine lv_aload_n hx hb dX12_beginsNow_703 rfl (lv_at hl 1 rfl) ?_
      refine r_get (v := .ref (a 12)) hx hb hown hq hE hP 20 47 tFX12_20 (by decide) pw_1442 rfl dX12_beginsNow_704 ?_
      refine lv_iload_n hx hb dX12_beginsNow_707 rfl (lv_at hl 2 rfl) ?_
      refine r_ldi (f := (B 12)) (j := n9) hx hb hE hP 12 (ma_12 G a _) rfl (by omega) (by decide) dX12_beginsNow_708 ?_
      obtain ⟨jc, hj1, -⟩ := hPg.fs.kid hrm.2.2.1 hkd (by omega) (s := 1) (by omega) (by omega) (by decide) (by omega)
      obtain ⟨j1, ha1, ha2, ha3⟩ := hR.bK (uc := uc0) hkd (by omega) (by decide) (by decide) (by decide) rfl rfl (by omega)
      have hP : va_P G.1 pCl (mW G h0 a (upd (upd (upd (upd (upd (upd (upd (upd (upd (upd (upd (upd (upd (upd (upd (upd (upd (upd (upd (upd (upd (upd F 49 (nI md)) 85 (nI im)) 97 (nI ct)) 98 (nI fl)) 99 (nI rmm)) 101 tds) 102 (nI op)) 111 (nI tp)) 115 (nI wn)) 116 (-1)) 117 (nI fu)) 118 rs0) 119 uc0) 120 (nI rd)) 121 ma0) 122 mc0) 123 ca) 124 mo) 125 nw) 126 isn) 128 (nI on)) 130 (nI idn)) B) _ := hP
      have hD : va_D A (mW G h0 a (upd (upd (upd (upd (upd (upd (upd (upd (upd (upd (upd (upd (upd (upd (upd (upd (upd (upd (upd (upd (upd (upd F 49 (nI md)) 85 (nI im)) 97 (nI ct)) 98 (nI fl)) 99 (nI rmm)) 101 tds) 102 (nI op)) 111 (nI tp)) 115 (nI wn)) 116 (-1)) 117 (nI fu)) 118 rs0) 119 uc0) 120 (nI rd)) 121 ma0) 122 mc0) 123 ca) 124 mo) 125 nw) 126 isn) 128 (nI on)) 130 (nI idn)) B) := hD
      refine pc_V0 (G := G) (As := [.int (nI n9), .int ((B 12) n9)]) (rest := []) hx hb hml hown hq hE hX pX0_al hP hD hS hA hl.1 (R_goesInto l G h0 a (upd (upd (upd (upd (upd (upd (upd (upd (upd (upd (upd (upd (upd (upd (upd (upd (upd (upd (upd (upd (upd (upd F 49 (nI md)) 85 (nI im)) 97 (nI ct)) 98 (nI fl)) 99 (nI rmm)) 101 tds) 102 (nI op)) 111 (nI tp)) 115 (nI wn)) 116 (-1)) 117 (nI fu)) 118 rs0) 119 uc0) 120 (nI rd)) 121 ma0) 122 mc0) 123 ca) 124 mo) 125 nw) 126 isn) 128 (nI on)) 130 (nI idn)) B (nI n9) ((B 12) n9)) (gV pw_2078 pw_2079 pw_2080 pw_1523 pw_2064) hV_X12_goesInto 0 9 rfl rfl rfl rfl (Nat.le_of_ble_eq_true rfl) dX12_beginsNow_709 ⟨Nat.le_of_ble_eq_true rfl, Nat.le_of_ble_eq_true rfl⟩ ⟨Nat.le_of_ble_eq_true rfl, Nat.le_of_ble_eq_true rfl⟩ (fun v1115 u1113 H locs hw1114 hP hD hS => ?_)
      obtain ⟨nw1116, is1117⟩ := u1113
      obtain ⟨hw1114, h1118, h1119⟩ := hw1114
      replace h1118 : If (((B 12) n9) = -1) (nw1116 = (nI n9) ∧ is1117 = 0) := h1118
      replace h1119 : If (¬ ((B 12) n9) = -1) (nw1116 = ((B 12) n9) ∧ is1117 = 1) := h1119
      obtain rfl : v1115 = none := hw1114
      have hP : va_P G.1 pCl (mW G h0 a (upd (upd (upd (upd (upd (upd (upd (upd (upd (upd (upd (upd (upd (upd (upd (upd (upd (upd (upd (upd (upd (upd F 49 (nI md)) 85 (nI im)) 97 (nI ct)) 98 (nI fl)) 99 (nI rmm)) 101 tds) 102 (nI op)) 111 (nI tp)) 115 (nI wn)) 116 (-1)) 117 (nI fu)) 118 rs0) 119 uc0) 120 (nI rd)) 121 ma0) 122 mc0) 123 ca) 124 mo) 125 nw1116) 126 is1117) 128 (nI on)) 130 (nI idn)) B) _ := hP
      have hD : va_D A (mW G h0 a (upd (upd (upd (upd (upd (upd (upd (upd (upd (upd (upd (upd (upd (upd (upd (upd (upd (upd (upd (upd (upd (upd F 49 (nI md)) 85 (nI im)) 97 (nI ct)) 98 (nI fl)) 99 (nI rmm)) 101 tds) 102 (nI op)) 111 (nI tp)) 115 (nI wn)) 116 (-1)) 117 (nI fu)) 118 rs0) 119 uc0) 120 (nI rd)) 121 ma0) 122 mc0) 123 ca) 124 mo) 125 nw1116) 126 is1117) 128 (nI on)) 130 (nI idn)) B) := hD
      refine W.widen (k := 0) (n := 0) (Nat.le_of_ble_eq_true rfl) (Nat.le_of_ble_eq_true rfl) ?_
      refine W.eq (g2 := F0 m 712 ls []) rfl ?_
      have hz1120 : Nx Xs B gh nd T nm wr lz dc fd md pr bk M rmm fu (Phi gh ps op (rkN gh n9 false)) op tp wn fu rd on idn fl ct ((-1) : Int32) nw1116 is1117 uc0 := (by obtain ⟨y1, y2⟩ := h1119 (by rw [hw12, ha1]; exact nI_m1 (by omega)); rw [y1, y2, hw12, ha1]; exact ha3)
      have hP : va_P G.1 pCl (mW G h0 a (upd (upd (upd (upd (upd (upd (upd (upd (upd (upd (upd (upd (upd (upd (upd (upd (upd (upd (upd (upd (upd (upd F 49 (nI md)) 85 (nI im)) 97 (nI ct)) 98 (nI fl)) 99 (nI rmm)) 101 tds) 102 (nI op)) 111 (nI tp)) 115 (nI wn)) 116 ((-1) : Int32)) 117 (nI fu)) 118 rs0) 119 uc0) 120 (nI rd)) 121 ma0) 122 mc0) 123 ca) 124 mo) 125 nw1116) 126 is1117) 128 (nI on)) 130 (nI idn)) B) _ := hP
      have hD : va_D A (mW G h0 a (upd (upd (upd (upd (upd (upd (upd (upd (upd (upd (upd (upd (upd (upd (upd (upd (upd (upd (upd (upd (upd (upd F 49 (nI md)) 85 (nI im)) 97 (nI ct)) 98 (nI fl)) 99 (nI rmm)) 101 tds) 102 (nI op)) 111 (nI tp)) 115 (nI wn)) 116 ((-1) : Int32)) 117 (nI fu)) 118 rs0) 119 uc0) 120 (nI rd)) 121 ma0) 122 mc0) 123 ca) 124 mo) 125 nw1116) 126 is1117) 128 (nI on)) 130 (nI idn)) B) := hD
      exact W.vret hx hb hr (fun t9 ht9 hW9 => ⟨⟨_, (op, tp, wn, fu, ((-1) : Int32), nw1116, is1117, rs0, uc0, on, idn, fl, ct, tds, ma0, mc0, ca, mo, rd, B), rfl, ⟨rfl, hz1120⟩, by rw [ht9]; exact hP, hD⟩, hS.F ht9⟩) hS.2.2 dX12_beginsNow_712
    · have n1121 : r1109 = 0 := (nI_eq (a := r1109) (b := 0) (by omega) (by omega)).mp c1111
      refine lv_aload_n hx hb dX12_beginsNow_33 rfl (lv_at hl 1 rfl) ?_
      have hP : va_P G.1 pCl (mW G h0 a (upd (upd (upd (upd (upd (upd (upd (upd (upd (upd (upd (upd (upd (upd (upd (upd (upd (upd (upd (upd (upd (upd (upd (upd F 49 (nI md)) 85 (nI im)) 97 (nI ct)) 98 (nI fl)) 99 (nI rmm)) 101 tds) 102 (nI op)) 111 (nI tp)) 115 (nI wn)) 116 (-1)) 117 (nI fu)) 118 rs0) 119 uc0) 120 (nI rd)) 121 ma0) 122 mc0) 123 ca) 124 mo) 125 nw) 126 isn) 128 (nI on)) 130 (nI idn)) 116 (-1)) 117 (nI fu)) B) _ := hP
      have hD : va_D A (mW G h0 a (upd (upd (upd (upd (upd (upd (upd (upd (upd (upd (upd (upd (upd (upd (upd (upd (upd (upd (upd (upd (upd (upd (upd (upd F 49 (nI md)) 85 (nI im)) 97 (nI ct)) 98 (nI fl)) 99 (nI rmm)) 101 tds) 102 (nI op)) 111 (nI tp)) 115 (nI wn)) 116 (-1)) 117 (nI fu)) 118 rs0) 119 uc0) 120 (nI rd)) 121 ma0) 122 mc0) 123 ca) 124 mo) 125 nw) 126 isn) 128 (nI on)) 130 (nI idn)) 116 (-1)) 117 (nI fu)) B) := hD
      refine pc_V0 (G := G) (As := []) (rest := []) hx hb hml hown hq hE hX pX0_al hP hD hS hA hl.1 (R_pays l G h0 a (upd (upd (upd (upd (upd (upd (upd (upd (upd (upd (upd (upd (upd (upd (upd (upd (upd (upd (upd (upd (upd (upd F 49 (nI md)) 85 (nI im)) 97 (nI ct)) 98 (nI fl)) 99 (nI rmm)) 101 tds) 102 (nI op)) 111 (nI tp)) 115 (nI wn)) 116 (-1)) 117 (nI fu)) 118 rs0) 119 uc0) 120 (nI rd)) 121 ma0) 122 mc0) 123 ca) 124 mo) 125 nw) 126 isn) 128 (nI on)) 130 (nI idn)) B fu (-1) (by omega)) (gV pw_2026 pw_2027 pw_2028 pw_1523 pw_2000) hV_X12_pays 0 9 rfl rfl rfl rfl (Nat.le_of_ble_eq_true rfl) dX12_beginsNow_34 ⟨Nat.le_of_ble_eq_true rfl, Nat.le_of_ble_eq_true rfl⟩ ⟨Nat.le_of_ble_eq_true rfl, Nat.le_of_ble_eq_true rfl⟩ (fun v1124 u1122 H locs hw1123 hP hD hS => ?_)
      obtain ⟨r1125, fu1126, en1127⟩ := u1122
      obtain ⟨hw1123, h1128, h1129, h1130, h1131⟩ := hw1123
      replace h1128 : r1125 ≤ 1 := h1128
      replace h1129 : fu1126 + r1125 = fu := h1129
      replace h1130 : If (r1125 = 1) (en1127 = (-1)) := h1130
      replace h1131 : If (r1125 = 0) (en1127 = 2) := h1131
      obtain rfl : v1124 = some (.int (nI r1125)) := hw1123
      have hP : va_P G.1 pCl (mW G h0 a (upd (upd (upd (upd (upd (upd (upd (upd (upd (upd (upd (upd (upd (upd (upd (upd (upd (upd (upd (upd (upd (upd F 49 (nI md)) 85 (nI im)) 97 (nI ct)) 98 (nI fl)) 99 (nI rmm)) 101 tds) 102 (nI op)) 111 (nI tp)) 115 (nI wn)) 116 en1127) 117 (nI fu1126)) 118 rs0) 119 uc0) 120 (nI rd)) 121 ma0) 122 mc0) 123 ca) 124 mo) 125 nw) 126 isn) 128 (nI on)) 130 (nI idn)) B) _ := hP
      have hD : va_D A (mW G h0 a (upd (upd (upd (upd (upd (upd (upd (upd (upd (upd (upd (upd (upd (upd (upd (upd (upd (upd (upd (upd (upd (upd F 49 (nI md)) 85 (nI im)) 97 (nI ct)) 98 (nI fl)) 99 (nI rmm)) 101 tds) 102 (nI op)) 111 (nI tp)) 115 (nI wn)) 116 en1127) 117 (nI fu1126)) 118 rs0) 119 uc0) 120 (nI rd)) 121 ma0) 122 mc0) 123 ca) 124 mo) 125 nw) 126 isn) 128 (nI on)) 130 (nI idn)) B) := hD
      refine W.widen (k := 0) (n := 0) (Nat.le_of_ble_eq_true rfl) (Nat.le_of_ble_eq_true rfl) ?_
      refine W.eq (g2 := F0 m 37 ls [.int (nI r1125)]) rfl ?_
      rcases (show r1125 = 0 ∨ r1125 = 1 by omega) with hr0 | hr0
      · have hen := h1131 hr0
        subst hr0
        have hP : va_P G.1 pCl (mW G h0 a (upd (upd (upd (upd (upd (upd (upd (upd (upd (upd (upd (upd (upd (upd (upd (upd (upd (upd (upd (upd (upd (upd F 49 (nI md)) 85 (nI im)) 97 (nI ct)) 98 (nI fl)) 99 (nI rmm)) 101 tds) 102 (nI op)) 111 (nI tp)) 115 (nI wn)) 116 en1127) 117 (nI fu1126)) 118 rs0) 119 uc0) 120 (nI rd)) 121 ma0) 122 mc0) 123 ca) 124 mo) 125 nw) 126 isn) 128 (nI on)) 130 (nI idn)) B) _ := hP
        have hD : va_D A (mW G h0 a (upd (upd (upd (upd (upd (upd (upd (upd (upd (upd (upd (upd (upd (upd (upd (upd (upd (upd (upd (upd (upd (upd F 49 (nI md)) 85 (nI im)) 97 (nI ct)) 98 (nI fl)) 99 (nI rmm)) 101 tds) 102 (nI op)) 111 (nI tp)) 115 (nI wn)) 116 en1127) 117 (nI fu1126)) 118 rs0) 119 uc0) 120 (nI rd)) 121 ma0) 122 mc0) 123 ca) 124 mo) 125 nw) 126 isn) 128 (nI on)) 130 (nI idn)) B) := hD
        refine W.eq (g2 := F0 m 37 ls [.int 0]) rfl ?_
        refine lv_if_ne (tgt := 41) hx hb dX12_beginsNow_37 (by decide) (fun c1132 => absurd c1132 (by decide)) (fun c1132 => ?_)
        have hz1133 : Nx Xs B gh nd T nm wr lz dc fd md pr bk M rmm fu (Phi gh ps op (rkN gh n9 false)) op tp wn fu1126 rd on idn fl ct en1127 nw isn uc0 := (hR.stop Sta.rfl hR.hp (by rw [hen]; decide) (by rw [hen]; decide))
        have hP : va_P G.1 pCl (mW G h0 a (upd (upd (upd (upd (upd (upd (upd (upd (upd (upd (upd (upd (upd (upd (upd (upd (upd (upd (upd (upd (upd (upd F 49 (nI md)) 85 (nI im)) 97 (nI ct)) 98 (nI fl)) 99 (nI rmm)) 101 tds) 102 (nI op)) 111 (nI tp)) 115 (nI wn)) 116 en1127) 117 (nI fu1126)) 118 rs0) 119 uc0) 120 (nI rd)) 121 ma0) 122 mc0) 123 ca) 124 mo) 125 nw) 126 isn) 128 (nI on)) 130 (nI idn)) B) _ := hP
        have hD : va_D A (mW G h0 a (upd (upd (upd (upd (upd (upd (upd (upd (upd (upd (upd (upd (upd (upd (upd (upd (upd (upd (upd (upd (upd (upd F 49 (nI md)) 85 (nI im)) 97 (nI ct)) 98 (nI fl)) 99 (nI rmm)) 101 tds) 102 (nI op)) 111 (nI tp)) 115 (nI wn)) 116 en1127) 117 (nI fu1126)) 118 rs0) 119 uc0) 120 (nI rd)) 121 ma0) 122 mc0) 123 ca) 124 mo) 125 nw) 126 isn) 128 (nI on)) 130 (nI idn)) B) := hD
        exact W.vret hx hb hr (fun t9 ht9 hW9 => ⟨⟨_, (op, tp, wn, fu1126, en1127, nw, isn, rs0, uc0, on, idn, fl, ct, tds, ma0, mc0, ca, mo, rd, B), rfl, ⟨rfl, hz1133⟩, by rw [ht9]; exact hP, hD⟩, hS.F ht9⟩) hS.2.2 dX12_beginsNow_40
      · obtain rfl : en1127 = _ := h1130 hr0
        subst hr0
        have hP : va_P G.1 pCl (mW G h0 a (upd (upd (upd (upd (upd (upd (upd (upd (upd (upd (upd (upd (upd (upd (upd (upd (upd (upd (upd (upd (upd (upd F 49 (nI md)) 85 (nI im)) 97 (nI ct)) 98 (nI fl)) 99 (nI rmm)) 101 tds) 102 (nI op)) 111 (nI tp)) 115 (nI wn)) 116 (-1)) 117 (nI fu1126)) 118 rs0) 119 uc0) 120 (nI rd)) 121 ma0) 122 mc0) 123 ca) 124 mo) 125 nw) 126 isn) 128 (nI on)) 130 (nI idn)) B) _ := hP
        have hD : va_D A (mW G h0 a (upd (upd (upd (upd (upd (upd (upd (upd (upd (upd (upd (upd (upd (upd (upd (upd (upd (upd (upd (upd (upd (upd F 49 (nI md)) 85 (nI im)) 97 (nI ct)) 98 (nI fl)) 99 (nI rmm)) 101 tds) 102 (nI op)) 111 (nI tp)) 115 (nI wn)) 116 (-1)) 117 (nI fu1126)) 118 rs0) 119 uc0) 120 (nI rd)) 121 ma0) 122 mc0) 123 ca) 124 mo) 125 nw) 126 isn) 128 (nI on)) 130 (nI idn)) B) := hD
        refine W.eq (g2 := F0 m 37 ls [.int 1]) rfl ?_
        have hR1 := hR.fuel (show fu1126 ≤ fu by omega)
        refine lv_if_ne (tgt := 41) hx hb dX12_beginsNow_37 (by decide) (fun c1134 => ?_) (fun c1134 => absurd c1134 (by decide))
        refine lv_iload_n hx hb dX12_beginsNow_41 rfl (lv_at hl 0 rfl) ?_
        refine lv_tableIn (tgt := 701) (off := 659) hx hb dX12_beginsNow_42 (by decide) (by decide) (by decide) (by decide) ?_
        refine lv_aload_n hx hb dX12_beginsNow_701 rfl (lv_at hl 1 rfl) ?_
        refine lv_iload_n hx hb dX12_beginsNow_702 rfl (lv_at hl 2 rfl) ?_
        refine lv_aload_n hx hb dX12_beginsNow_703 rfl (lv_at hl 1 rfl) ?_
        refine r_get (v := .ref (a 12)) hx hb hown hq hE hP 20 47 tFX12_20 (by decide) pw_1442 rfl dX12_beginsNow_704 ?_
        refine lv_iload_n hx hb dX12_beginsNow_707 rfl (lv_at hl 2 rfl) ?_
        refine r_ldi (f := (B 12)) (j := n9) hx hb hE hP 12 (ma_12 G a _) rfl (by omega) (by decide) dX12_beginsNow_708 ?_
        obtain ⟨jc, hj1, -⟩ := hPg.fs.kid hrm.2.2.1 hkd (by omega) (s := 1) (by omega) (by omega) (by decide) (by omega)
        obtain ⟨j1, ha1, ha2, ha3⟩ := hR1.bK (uc := uc0) hkd (by omega) (by decide) (by decide) (by decide) rfl rfl (by omega)
        have hP : va_P G.1 pCl (mW G h0 a (upd (upd (upd (upd (upd (upd (upd (upd (upd (upd (upd (upd (upd (upd (upd (upd (upd (upd (upd (upd (upd (upd F 49 (nI md)) 85 (nI im)) 97 (nI ct)) 98 (nI fl)) 99 (nI rmm)) 101 tds) 102 (nI op)) 111 (nI tp)) 115 (nI wn)) 116 (-1)) 117 (nI fu1126)) 118 rs0) 119 uc0) 120 (nI rd)) 121 ma0) 122 mc0) 123 ca) 124 mo) 125 nw) 126 isn) 128 (nI on)) 130 (nI idn)) B) _ := hP
        have hD : va_D A (mW G h0 a (upd (upd (upd (upd (upd (upd (upd (upd (upd (upd (upd (upd (upd (upd (upd (upd (upd (upd (upd (upd (upd (upd F 49 (nI md)) 85 (nI im)) 97 (nI ct)) 98 (nI fl)) 99 (nI rmm)) 101 tds) 102 (nI op)) 111 (nI tp)) 115 (nI wn)) 116 (-1)) 117 (nI fu1126)) 118 rs0) 119 uc0) 120 (nI rd)) 121 ma0) 122 mc0) 123 ca) 124 mo) 125 nw) 126 isn) 128 (nI on)) 130 (nI idn)) B) := hD
        refine pc_V0 (G := G) (As := [.int (nI n9), .int ((B 12) n9)]) (rest := []) hx hb hml hown hq hE hX pX0_al hP hD hS hA hl.1 (R_goesInto l G h0 a (upd (upd (upd (upd (upd (upd (upd (upd (upd (upd (upd (upd (upd (upd (upd (upd (upd (upd (upd (upd (upd (upd F 49 (nI md)) 85 (nI im)) 97 (nI ct)) 98 (nI fl)) 99 (nI rmm)) 101 tds) 102 (nI op)) 111 (nI tp)) 115 (nI wn)) 116 (-1)) 117 (nI fu1126)) 118 rs0) 119 uc0) 120 (nI rd)) 121 ma0) 122 mc0) 123 ca) 124 mo) 125 nw) 126 isn) 128 (nI on)) 130 (nI idn)) B (nI n9) ((B 12) n9)) (gV pw_2078 pw_2079 pw_2080 pw_1523 pw_2064) hV_X12_goesInto 0 9 rfl rfl rfl rfl (Nat.le_of_ble_eq_true rfl) dX12_beginsNow_709 ⟨Nat.le_of_ble_eq_true rfl, Nat.le_of_ble_eq_true rfl⟩ ⟨Nat.le_of_ble_eq_true rfl, Nat.le_of_ble_eq_true rfl⟩ (fun v1137 u1135 H locs hw1136 hP hD hS => ?_)
        obtain ⟨nw1138, is1139⟩ := u1135
        obtain ⟨hw1136, h1140, h1141⟩ := hw1136
        replace h1140 : If (((B 12) n9) = -1) (nw1138 = (nI n9) ∧ is1139 = 0) := h1140
        replace h1141 : If (¬ ((B 12) n9) = -1) (nw1138 = ((B 12) n9) ∧ is1139 = 1) := h1141
        obtain rfl : v1137 = none := hw1136
        have hP : va_P G.1 pCl (mW G h0 a (upd (upd (upd (upd (upd (upd (upd (upd (upd (upd (upd (upd (upd (upd (upd (upd (upd (upd (upd (upd (upd (upd F 49 (nI md)) 85 (nI im)) 97 (nI ct)) 98 (nI fl)) 99 (nI rmm)) 101 tds) 102 (nI op)) 111 (nI tp)) 115 (nI wn)) 116 (-1)) 117 (nI fu1126)) 118 rs0) 119 uc0) 120 (nI rd)) 121 ma0) 122 mc0) 123 ca) 124 mo) 125 nw1138) 126 is1139) 128 (nI on)) 130 (nI idn)) B) _ := hP
        have hD : va_D A (mW G h0 a (upd (upd (upd (upd (upd (upd (upd (upd (upd (upd (upd (upd (upd (upd (upd (upd (upd (upd (upd (upd (upd (upd F 49 (nI md)) 85 (nI im)) 97 (nI ct)) 98 (nI fl)) 99 (nI rmm)) 101 tds) 102 (nI op)) 111 (nI tp)) 115 (nI wn)) 116 (-1)) 117 (nI fu1126)) 118 rs0) 119 uc0) 120 (nI rd)) 121 ma0) 122 mc0) 123 ca) 124 mo) 125 nw1138) 126 is1139) 128 (nI on)) 130 (nI idn)) B) := hD
        refine W.widen (k := 0) (n := 0) (Nat.le_of_ble_eq_true rfl) (Nat.le_of_ble_eq_true rfl) ?_
        refine W.eq (g2 := F0 m 712 ls []) rfl ?_
        have hz1142 : Nx Xs B gh nd T nm wr lz dc fd md pr bk M rmm fu (Phi gh ps op (rkN gh n9 false)) op tp wn fu1126 rd on idn fl ct ((-1) : Int32) nw1138 is1139 uc0 := (Nx.le (fu1 := fu1126) (by obtain ⟨y1, y2⟩ := h1141 (by rw [hw12, ha1]; exact nI_m1 (by omega)); rw [y1, y2, hw12, ha1]; exact ha3) (by omega))
        have hP : va_P G.1 pCl (mW G h0 a (upd (upd (upd (upd (upd (upd (upd (upd (upd (upd (upd (upd (upd (upd (upd (upd (upd (upd (upd (upd (upd (upd F 49 (nI md)) 85 (nI im)) 97 (nI ct)) 98 (nI fl)) 99 (nI rmm)) 101 tds) 102 (nI op)) 111 (nI tp)) 115 (nI wn)) 116 ((-1) : Int32)) 117 (nI fu1126)) 118 rs0) 119 uc0) 120 (nI rd)) 121 ma0) 122 mc0) 123 ca) 124 mo) 125 nw1138) 126 is1139) 128 (nI on)) 130 (nI idn)) B) _ := hP
        have hD : va_D A (mW G h0 a (upd (upd (upd (upd (upd (upd (upd (upd (upd (upd (upd (upd (upd (upd (upd (upd (upd (upd (upd (upd (upd (upd F 49 (nI md)) 85 (nI im)) 97 (nI ct)) 98 (nI fl)) 99 (nI rmm)) 101 tds) 102 (nI op)) 111 (nI tp)) 115 (nI wn)) 116 ((-1) : Int32)) 117 (nI fu1126)) 118 rs0) 119 uc0) 120 (nI rd)) 121 ma0) 122 mc0) 123 ca) 124 mo) 125 nw1138) 126 is1139) 128 (nI on)) 130 (nI idn)) B) := hD
        exact W.vret hx hb hr (fun t9 ht9 hW9 => ⟨⟨_, (op, tp, wn, fu1126, ((-1) : Int32), nw1138, is1139, rs0, uc0, on, idn, fl, ct, tds, ma0, mc0, ca, mo, rd, B), rfl, ⟨rfl, hz1142⟩, by rw [ht9]; exact hP, hD⟩, hS.F ht9⟩) hS.2.2 dX12_beginsNow_712
  · clear hn44 hkr hko
    refine lv_aload_n hx hb dX12_beginsNow_0 rfl (lv_at hl 0 rfl) ?_
    refine r_get (v := .ref (a 9)) hx hb hown hq hE hP 17 38 tFX12_17 (by decide) pw_1439 rfl dX12_beginsNow_1 ?_
    refine lv_iload_n hx hb dX12_beginsNow_4 rfl (lv_at hl 1 rfl) ?_
    refine r_ldi (f := (B 9)) (j := n9) hx hb hE hP 9 (ma_9 G a _) rfl (by omega) (by decide) dX12_beginsNow_5 ?_
    refine lv_topi (fun x1143 e1144 => ?_)
    obtain rfl : x1143 = 43 := e1144.trans ((congrFun hw9 _).trans hkd)
    refine lv_istore_n (lv' := [(2, .int 43), (0, .ref h0), (1, .int (nI n9))]) hx hb dX12_beginsNow_6 rfl hl (by decide) rfl (fun ls hl => ?_)
    refine lv_iload_n hx hb dX12_beginsNow_7 rfl (lv_at hl 0 rfl) ?_
    refine lv_bipush (v := 30) hx hb dX12_beginsNow_8 (by decide) ?_
    refine lv_icmp_lt (tgt := 41) hx hb dX12_beginsNow_10 (by decide) (fun c1145 => absurd c1145 (by decide)) (fun c1145 => ?_)
    refine lv_iload_n hx hb dX12_beginsNow_13 rfl (lv_at hl 0 rfl) ?_
    refine lv_bipush (v := 31) hx hb dX12_beginsNow_14 (by decide) ?_
    refine lv_icmp_eq (tgt := 41) hx hb dX12_beginsNow_16 (by decide) (fun c1146 => absurd c1146 (by decide)) (fun c1146 => ?_)
    refine lv_iload_n hx hb dX12_beginsNow_19 rfl (lv_at hl 0 rfl) ?_
    refine lv_bipush (v := 43) hx hb dX12_beginsNow_20 (by decide) ?_
    refine lv_icmp_eq (tgt := 41) hx hb dX12_beginsNow_22 (by decide) (fun c1147 => ?_) (fun c1147 => absurd c1147 (by decide))
    refine lv_iload_n hx hb dX12_beginsNow_41 rfl (lv_at hl 0 rfl) ?_
    refine lv_tableIn (tgt := 693) (off := 651) hx hb dX12_beginsNow_42 (by decide) (by decide) (by decide) (by decide) ?_
    refine lv_aload_n hx hb dX12_beginsNow_693 rfl (lv_at hl 1 rfl) ?_
    refine lv_iload_n hx hb dX12_beginsNow_694 rfl (lv_at hl 2 rfl) ?_
    have hP : va_P G.1 pCl (mW G h0 a (upd (upd (upd (upd (upd (upd (upd (upd (upd (upd (upd (upd (upd (upd (upd (upd (upd (upd (upd (upd (upd (upd F 49 (nI md)) 85 (nI im)) 97 (nI ct)) 98 (nI fl)) 99 (nI rmm)) 101 tds) 102 (nI op)) 111 (nI tp)) 115 (nI wn)) 116 (-1)) 117 (nI fu)) 118 rs0) 119 uc0) 120 (nI rd)) 121 ma0) 122 mc0) 123 ca) 124 mo) 125 nw) 126 isn) 128 (nI on)) 130 (nI idn)) B) _ := hP
    have hD : va_D A (mW G h0 a (upd (upd (upd (upd (upd (upd (upd (upd (upd (upd (upd (upd (upd (upd (upd (upd (upd (upd (upd (upd (upd (upd F 49 (nI md)) 85 (nI im)) 97 (nI ct)) 98 (nI fl)) 99 (nI rmm)) 101 tds) 102 (nI op)) 111 (nI tp)) 115 (nI wn)) 116 (-1)) 117 (nI fu)) 118 rs0) 119 uc0) 120 (nI rd)) 121 ma0) 122 mc0) 123 ca) 124 mo) 125 nw) 126 isn) 128 (nI on)) 130 (nI idn)) B) := hD
    refine pc_V0 (G := G) (As := [.int (nI n9)]) (rest := []) hx hb hml hown hq hE hX pX0_al hP hD hS hA hl.1 (R_comesToEnd l G h0 a (upd (upd (upd (upd (upd (upd (upd (upd (upd (upd (upd (upd (upd (upd (upd (upd (upd (upd (upd (upd (upd (upd F 49 (nI md)) 85 (nI im)) 97 (nI ct)) 98 (nI fl)) 99 (nI rmm)) 101 tds) 102 (nI op)) 111 (nI tp)) 115 (nI wn)) 116 (-1)) 117 (nI fu)) 118 rs0) 119 uc0) 120 (nI rd)) 121 ma0) 122 mc0) 123 ca) 124 mo) 125 nw) 126 isn) 128 (nI on)) 130 (nI idn)) B (nI n9)) (gV pw_2010 pw_2011 pw_2012 pw_1523 pw_2005) hV_X12_comesToEnd 0 9 rfl rfl rfl rfl (Nat.le_of_ble_eq_true rfl) dX12_beginsNow_695 ⟨Nat.le_of_ble_eq_true rfl, Nat.le_of_ble_eq_true rfl⟩ ⟨Nat.le_of_ble_eq_true rfl, Nat.le_of_ble_eq_true rfl⟩ (fun v1150 u1148 H locs hw1149 hP hD hS => ?_)
    obtain rfl : v1150 = none := hw1149
    have hP : va_P G.1 pCl (mW G h0 a (upd (upd (upd (upd (upd (upd (upd (upd (upd (upd (upd (upd (upd (upd (upd (upd (upd (upd (upd (upd (upd (upd F 49 (nI md)) 85 (nI im)) 97 (nI ct)) 98 (nI fl)) 99 (nI rmm)) 101 tds) 102 (nI op)) 111 (nI tp)) 115 (nI wn)) 116 (-1)) 117 (nI fu)) 118 rs0) 119 uc0) 120 (nI rd)) 121 ma0) 122 mc0) 123 ca) 124 mo) 125 (nI n9)) 126 0) 128 (nI on)) 130 (nI idn)) B) _ := hP
    have hD : va_D A (mW G h0 a (upd (upd (upd (upd (upd (upd (upd (upd (upd (upd (upd (upd (upd (upd (upd (upd (upd (upd (upd (upd (upd (upd F 49 (nI md)) 85 (nI im)) 97 (nI ct)) 98 (nI fl)) 99 (nI rmm)) 101 tds) 102 (nI op)) 111 (nI tp)) 115 (nI wn)) 116 (-1)) 117 (nI fu)) 118 rs0) 119 uc0) 120 (nI rd)) 121 ma0) 122 mc0) 123 ca) 124 mo) 125 (nI n9)) 126 0) 128 (nI on)) 130 (nI idn)) B) := hD
    refine W.widen (k := 0) (n := 0) (Nat.le_of_ble_eq_true rfl) (Nat.le_of_ble_eq_true rfl) ?_
    refine W.eq (g2 := F0 m 698 ls []) rfl ?_
    refine lv_goto (tgt := 712) hx hb dX12_beginsNow_698 (by decide) ?_
    have hz1151 : Nx Xs B gh nd T nm wr lz dc fd md pr bk M rmm fu (Phi gh ps op (rkN gh n9 false)) op tp wn fu rd on idn fl ct ((-1) : Int32) (nI n9) (0 : Int32) uc0 := (hR.still hkd (by omega) (by omega) (by omega))
    have hP : va_P G.1 pCl (mW G h0 a (upd (upd (upd (upd (upd (upd (upd (upd (upd (upd (upd (upd (upd (upd (upd (upd (upd (upd (upd (upd (upd (upd F 49 (nI md)) 85 (nI im)) 97 (nI ct)) 98 (nI fl)) 99 (nI rmm)) 101 tds) 102 (nI op)) 111 (nI tp)) 115 (nI wn)) 116 ((-1) : Int32)) 117 (nI fu)) 118 rs0) 119 uc0) 120 (nI rd)) 121 ma0) 122 mc0) 123 ca) 124 mo) 125 (nI n9)) 126 (0 : Int32)) 128 (nI on)) 130 (nI idn)) B) _ := hP
    have hD : va_D A (mW G h0 a (upd (upd (upd (upd (upd (upd (upd (upd (upd (upd (upd (upd (upd (upd (upd (upd (upd (upd (upd (upd (upd (upd F 49 (nI md)) 85 (nI im)) 97 (nI ct)) 98 (nI fl)) 99 (nI rmm)) 101 tds) 102 (nI op)) 111 (nI tp)) 115 (nI wn)) 116 ((-1) : Int32)) 117 (nI fu)) 118 rs0) 119 uc0) 120 (nI rd)) 121 ma0) 122 mc0) 123 ca) 124 mo) 125 (nI n9)) 126 (0 : Int32)) 128 (nI on)) 130 (nI idn)) B) := hD
    exact W.vret hx hb hr (fun t9 ht9 hW9 => ⟨⟨_, (op, tp, wn, fu, ((-1) : Int32), (nI n9), (0 : Int32), rs0, uc0, on, idn, fl, ct, tds, ma0, mc0, ca, mo, rd, B), rfl, ⟨rfl, hz1151⟩, by rw [ht9]; exact hP, hD⟩, hS.F ht9⟩) hS.2.2 dX12_beginsNow_712

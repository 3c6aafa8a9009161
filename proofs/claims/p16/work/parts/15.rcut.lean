/-- a NAME's value is a name's number -/
def rTk (T nm : Nat) (f5 f8 : Nat → Int32) : Prop := ∀ t : Nat, t < T → f5 t = 1 → ∃ k : Nat, k < nm ∧ f8 t = nI k
theorem rTk_upd {T nm nm1 : Nat} {f5 f8 : Nat → Int32} {x y : Int32} (h : rTk T nm f5 f8) (hn : nm ≤ nm1) (hx : x = 1 → ∃ k : Nat, k < nm1 ∧ y = nI k) : rTk (T + 1) nm1 (upd f5 T x) (upd f8 T y) := fun t ht => by
  unfold upd
  by_cases e : t = T
  · rw [if_pos e, if_pos e]; exact hx
  · rw [if_neg e, if_neg e]
    intro h5
    obtain ⟨k, hk, e8⟩ := h t (by omega) h5
    exact ⟨k, by omega, e8⟩
theorem rTk_up2 {T nm nm1 : Nat} {f5 f8 : Nat → Int32} {x y : Int32} (h : rTk T nm f5 f8) (hn : nm ≤ nm1) : rTk T nm1 (upd f5 T x) (upd f8 T y) := fun t ht => by
  unfold upd
  rw [if_neg (by omega), if_neg (by omega)]
  intro h5
  obtain ⟨k, hk, e8⟩ := h t ht h5
  exact ⟨k, by omega, e8⟩
theorem dX12_cut_0 : decode cX12_cut 0 = .ok (.aload_n 0, 1) := by decide +kernel
theorem dX12_cut_1 : decode cX12_cut 1 = .ok (.iconst 0, 1) := by decide +kernel
theorem dX12_cut_2 : decode cX12_cut 2 = .ok (.putfield 277, 3) := by decide +kernel
theorem dX12_cut_5 : decode cX12_cut 5 = .ok (.aload_n 0, 1) := by decide +kernel
theorem dX12_cut_6 : decode cX12_cut 6 = .ok (.iconst 0, 1) := by decide +kernel
theorem dX12_cut_7 : decode cX12_cut 7 = .ok (.putfield 280, 3) := by decide +kernel
theorem dX12_cut_10 : decode cX12_cut 10 = .ok (.aload_n 0, 1) := by decide +kernel
theorem dX12_cut_11 : decode cX12_cut 11 = .ok (.ldc_w 292, 3) := by decide +kernel
theorem dX12_cut_14 : decode cX12_cut 14 = .ok (.invokevirtual 294, 3) := by decide +kernel
theorem dX12_cut_17 : decode cX12_cut 17 = .ok (.aload_n 0, 1) := by decide +kernel
theorem dX12_cut_18 : decode cX12_cut 18 = .ok (.ldc_w 298, 3) := by decide +kernel
theorem dX12_cut_21 : decode cX12_cut 21 = .ok (.invokevirtual 294, 3) := by decide +kernel
theorem dX12_cut_24 : decode cX12_cut 24 = .ok (.aload_n 0, 1) := by decide +kernel
theorem dX12_cut_25 : decode cX12_cut 25 = .ok (.ldc_w 300, 3) := by decide +kernel
theorem dX12_cut_28 : decode cX12_cut 28 = .ok (.invokevirtual 294, 3) := by decide +kernel
theorem dX12_cut_31 : decode cX12_cut 31 = .ok (.aload_n 0, 1) := by decide +kernel
theorem dX12_cut_32 : decode cX12_cut 32 = .ok (.ldc_w 302, 3) := by decide +kernel
theorem dX12_cut_35 : decode cX12_cut 35 = .ok (.invokevirtual 294, 3) := by decide +kernel
theorem dX12_cut_38 : decode cX12_cut 38 = .ok (.aload_n 0, 1) := by decide +kernel
theorem dX12_cut_39 : decode cX12_cut 39 = .ok (.ldc_w 304, 3) := by decide +kernel
theorem dX12_cut_42 : decode cX12_cut 42 = .ok (.invokevirtual 294, 3) := by decide +kernel
theorem dX12_cut_45 : decode cX12_cut 45 = .ok (.aload_n 0, 1) := by decide +kernel
theorem dX12_cut_46 : decode cX12_cut 46 = .ok (.ldc_w 306, 3) := by decide +kernel
theorem dX12_cut_49 : decode cX12_cut 49 = .ok (.invokevirtual 294, 3) := by decide +kernel
theorem dX12_cut_52 : decode cX12_cut 52 = .ok (.aload_n 0, 1) := by decide +kernel
theorem dX12_cut_53 : decode cX12_cut 53 = .ok (.ldc_w 308, 3) := by decide +kernel
theorem dX12_cut_56 : decode cX12_cut 56 = .ok (.invokevirtual 294, 3) := by decide +kernel
theorem dX12_cut_59 : decode cX12_cut 59 = .ok (.aload_n 0, 1) := by decide +kernel
theorem dX12_cut_60 : decode cX12_cut 60 = .ok (.ldc_w 310, 3) := by decide +kernel
theorem dX12_cut_63 : decode cX12_cut 63 = .ok (.invokevirtual 294, 3) := by decide +kernel
theorem dX12_cut_66 : decode cX12_cut 66 = .ok (.aload_n 0, 1) := by decide +kernel
theorem dX12_cut_67 : decode cX12_cut 67 = .ok (.ldc_w 312, 3) := by decide +kernel
theorem dX12_cut_70 : decode cX12_cut 70 = .ok (.invokevirtual 294, 3) := by decide +kernel
theorem dX12_cut_73 : decode cX12_cut 73 = .ok (.aload_n 0, 1) := by decide +kernel
theorem dX12_cut_74 : decode cX12_cut 74 = .ok (.iconst 0, 1) := by decide +kernel
theorem dX12_cut_75 : decode cX12_cut 75 = .ok (.putfield 314, 3) := by decide +kernel
theorem dX12_cut_78 : decode cX12_cut 78 = .ok (.iconst 0, 1) := by decide +kernel
theorem dX12_cut_79 : decode cX12_cut 79 = .ok (.istore_n 1, 1) := by decide +kernel
theorem dX12_cut_80 : decode cX12_cut 80 = .ok (.iconst 1, 1) := by decide +kernel
theorem dX12_cut_81 : decode cX12_cut 81 = .ok (.istore_n 2, 1) := by decide +kernel
theorem dX12_cut_82 : decode cX12_cut 82 = .ok (.iload_n 2, 1) := by decide +kernel
theorem dX12_cut_83 : decode cX12_cut 83 = .ok (.ifCond .eq 471, 3) := by decide +kernel
theorem dX12_cut_554 : decode cX12_cut 554 = .ok (.return_, 1) := by decide +kernel
theorem dX12_cut_86 : decode cX12_cut 86 = .ok (.aload_n 0, 1) := by decide +kernel
theorem dX12_cut_87 : decode cX12_cut 87 = .ok (.iload_n 1, 1) := by decide +kernel
theorem dX12_cut_88 : decode cX12_cut 88 = .ok (.invokevirtual 283, 3) := by decide +kernel
theorem dX12_cut_91 : decode cX12_cut 91 = .ok (.bipush 9, 2) := by decide +kernel
theorem dX12_cut_93 : decode cX12_cut 93 = .ok (.if_icmp .eq 33, 3) := by decide +kernel
theorem dX12_cut_126 : decode cX12_cut 126 = .ok (.iinc 1 1, 3) := by decide +kernel
theorem dX12_cut_129 : decode cX12_cut 129 = .ok (.goto (-43), 3) := by decide +kernel
theorem dX12_cut_96 : decode cX12_cut 96 = .ok (.aload_n 0, 1) := by decide +kernel
theorem dX12_cut_97 : decode cX12_cut 97 = .ok (.iload_n 1, 1) := by decide +kernel
theorem dX12_cut_98 : decode cX12_cut 98 = .ok (.invokevirtual 283, 3) := by decide +kernel
theorem dX12_cut_101 : decode cX12_cut 101 = .ok (.bipush 10, 2) := by decide +kernel
theorem dX12_cut_103 : decode cX12_cut 103 = .ok (.if_icmp .eq 23, 3) := by decide +kernel
theorem dX12_cut_106 : decode cX12_cut 106 = .ok (.aload_n 0, 1) := by decide +kernel
theorem dX12_cut_107 : decode cX12_cut 107 = .ok (.iload_n 1, 1) := by decide +kernel
theorem dX12_cut_108 : decode cX12_cut 108 = .ok (.invokevirtual 283, 3) := by decide +kernel
theorem dX12_cut_111 : decode cX12_cut 111 = .ok (.bipush 13, 2) := by decide +kernel
theorem dX12_cut_113 : decode cX12_cut 113 = .ok (.if_icmp .eq 13, 3) := by decide +kernel
theorem dX12_cut_116 : decode cX12_cut 116 = .ok (.aload_n 0, 1) := by decide +kernel
theorem dX12_cut_117 : decode cX12_cut 117 = .ok (.iload_n 1, 1) := by decide +kernel
theorem dX12_cut_118 : decode cX12_cut 118 = .ok (.invokevirtual 283, 3) := by decide +kernel
theorem dX12_cut_121 : decode cX12_cut 121 = .ok (.bipush 32, 2) := by decide +kernel
theorem dX12_cut_123 : decode cX12_cut 123 = .ok (.if_icmp .ne 9, 3) := by decide +kernel
theorem dX12_cut_132 : decode cX12_cut 132 = .ok (.aload_n 0, 1) := by decide +kernel
theorem dX12_cut_133 : decode cX12_cut 133 = .ok (.iload_n 1, 1) := by decide +kernel
theorem dX12_cut_134 : decode cX12_cut 134 = .ok (.invokevirtual 283, 3) := by decide +kernel
theorem dX12_cut_137 : decode cX12_cut 137 = .ok (.bipush 47, 2) := by decide +kernel
theorem dX12_cut_139 : decode cX12_cut 139 = .ok (.if_icmp .ne 39, 3) := by decide +kernel
theorem dX12_cut_472 : decode cX12_cut 472 = .ok (.aload_n 0, 1) := by decide +kernel
theorem dX12_cut_473 : decode cX12_cut 473 = .ok (.getfield 16, 3) := by decide +kernel
theorem dX12_cut_476 : decode cX12_cut 476 = .ok (.aload_n 0, 1) := by decide +kernel
theorem dX12_cut_477 : decode cX12_cut 477 = .ok (.getfield 314, 3) := by decide +kernel
theorem dX12_cut_480 : decode cX12_cut 480 = .ok (.iload 4, 2) := by decide +kernel
theorem dX12_cut_482 : decode cX12_cut 482 = .ok (.iastore, 1) := by decide +kernel
theorem dX12_cut_483 : decode cX12_cut 483 = .ok (.aload_n 0, 1) := by decide +kernel
theorem dX12_cut_484 : decode cX12_cut 484 = .ok (.getfield 19, 3) := by decide +kernel
theorem dX12_cut_487 : decode cX12_cut 487 = .ok (.aload_n 0, 1) := by decide +kernel
theorem dX12_cut_488 : decode cX12_cut 488 = .ok (.getfield 314, 3) := by decide +kernel
theorem dX12_cut_491 : decode cX12_cut 491 = .ok (.iload_n 1, 1) := by decide +kernel
theorem dX12_cut_492 : decode cX12_cut 492 = .ok (.iastore, 1) := by decide +kernel
theorem dX12_cut_493 : decode cX12_cut 493 = .ok (.aload_n 0, 1) := by decide +kernel
theorem dX12_cut_494 : decode cX12_cut 494 = .ok (.getfield 22, 3) := by decide +kernel
theorem dX12_cut_497 : decode cX12_cut 497 = .ok (.aload_n 0, 1) := by decide +kernel
theorem dX12_cut_498 : decode cX12_cut 498 = .ok (.getfield 314, 3) := by decide +kernel
theorem dX12_cut_501 : decode cX12_cut 501 = .ok (.iload_n 3, 1) := by decide +kernel
theorem dX12_cut_502 : decode cX12_cut 502 = .ok (.iastore, 1) := by decide +kernel
theorem dX12_cut_503 : decode cX12_cut 503 = .ok (.aload_n 0, 1) := by decide +kernel
theorem dX12_cut_504 : decode cX12_cut 504 = .ok (.getfield 25, 3) := by decide +kernel
theorem dX12_cut_507 : decode cX12_cut 507 = .ok (.aload_n 0, 1) := by decide +kernel
theorem dX12_cut_508 : decode cX12_cut 508 = .ok (.getfield 314, 3) := by decide +kernel
theorem dX12_cut_511 : decode cX12_cut 511 = .ok (.iload 5, 2) := by decide +kernel
theorem dX12_cut_513 : decode cX12_cut 513 = .ok (.iastore, 1) := by decide +kernel
theorem dX12_cut_514 : decode cX12_cut 514 = .ok (.iload 4, 2) := by decide +kernel
theorem dX12_cut_516 : decode cX12_cut 516 = .ok (.ifCond .eq 13, 3) := by decide +kernel
theorem dX12_cut_529 : decode cX12_cut 529 = .ok (.iconst 0, 1) := by decide +kernel
theorem dX12_cut_530 : decode cX12_cut 530 = .ok (.istore_n 2, 1) := by decide +kernel
theorem dX12_cut_531 : decode cX12_cut 531 = .ok (.aload_n 0, 1) := by decide +kernel
theorem dX12_cut_532 : decode cX12_cut 532 = .ok (.dup, 1) := by decide +kernel
theorem dX12_cut_533 : decode cX12_cut 533 = .ok (.getfield 314, 3) := by decide +kernel
theorem dX12_cut_536 : decode cX12_cut 536 = .ok (.iload_n 2, 1) := by decide +kernel
theorem dX12_cut_537 : decode cX12_cut 537 = .ok (.ifCond .eq 7, 3) := by decide +kernel
theorem dX12_cut_544 : decode cX12_cut 544 = .ok (.iconst 0, 1) := by decide +kernel
theorem dX12_cut_545 : decode cX12_cut 545 = .ok (.iadd, 1) := by decide +kernel
theorem dX12_cut_546 : decode cX12_cut 546 = .ok (.putfield 314, 3) := by decide +kernel
theorem dX12_cut_549 : decode cX12_cut 549 = .ok (.iload_n 3, 1) := by decide +kernel
theorem dX12_cut_550 : decode cX12_cut 550 = .ok (.istore_n 1, 1) := by decide +kernel
theorem dX12_cut_551 : decode cX12_cut 551 = .ok (.goto (-469), 3) := by decide +kernel
theorem dX12_cut_519 : decode cX12_cut 519 = .ok (.iload 4, 2) := by decide +kernel
theorem dX12_cut_521 : decode cX12_cut 521 = .ok (.iconst 3, 1) := by decide +kernel
theorem dX12_cut_522 : decode cX12_cut 522 = .ok (.if_icmp .eq 7, 3) := by decide +kernel
theorem dX12_cut_525 : decode cX12_cut 525 = .ok (.iconst 1, 1) := by decide +kernel
theorem dX12_cut_526 : decode cX12_cut 526 = .ok (.goto 4, 3) := by decide +kernel
theorem dX12_cut_540 : decode cX12_cut 540 = .ok (.iconst 1, 1) := by decide +kernel
theorem dX12_cut_541 : decode cX12_cut 541 = .ok (.goto 4, 3) := by decide +kernel
theorem dX12_cut_178 : decode cX12_cut 178 = .ok (.iload_n 1, 1) := by decide +kernel
theorem dX12_cut_179 : decode cX12_cut 179 = .ok (.iconst 1, 1) := by decide +kernel
theorem dX12_cut_180 : decode cX12_cut 180 = .ok (.iadd, 1) := by decide +kernel
theorem dX12_cut_181 : decode cX12_cut 181 = .ok (.istore_n 3, 1) := by decide +kernel
theorem dX12_cut_182 : decode cX12_cut 182 = .ok (.iconst 0, 1) := by decide +kernel
theorem dX12_cut_183 : decode cX12_cut 183 = .ok (.istore 4, 2) := by decide +kernel
theorem dX12_cut_185 : decode cX12_cut 185 = .ok (.iconst 0, 1) := by decide +kernel
theorem dX12_cut_186 : decode cX12_cut 186 = .ok (.istore 5, 2) := by decide +kernel
theorem dX12_cut_188 : decode cX12_cut 188 = .ok (.iload_n 1, 1) := by decide +kernel
theorem dX12_cut_189 : decode cX12_cut 189 = .ok (.aload_n 0, 1) := by decide +kernel
theorem dX12_cut_190 : decode cX12_cut 190 = .ok (.getfield 258, 3) := by decide +kernel
theorem dX12_cut_193 : decode cX12_cut 193 = .ok (.if_icmp .lt 8, 3) := by decide +kernel
theorem dX12_cut_201 : decode cX12_cut 201 = .ok (.aload_n 0, 1) := by decide +kernel
theorem dX12_cut_202 : decode cX12_cut 202 = .ok (.iload_n 1, 1) := by decide +kernel
theorem dX12_cut_203 : decode cX12_cut 203 = .ok (.invokevirtual 283, 3) := by decide +kernel
theorem dX12_cut_206 : decode cX12_cut 206 = .ok (.invokestatic 317, 3) := by decide +kernel
theorem dX12_cut_209 : decode cX12_cut 209 = .ok (.ifCond .eq 76, 3) := by decide +kernel
theorem dX12_cut_285 : decode cX12_cut 285 = .ok (.aload_n 0, 1) := by decide +kernel
theorem dX12_cut_286 : decode cX12_cut 286 = .ok (.iload_n 1, 1) := by decide +kernel
theorem dX12_cut_287 : decode cX12_cut 287 = .ok (.invokevirtual 283, 3) := by decide +kernel
theorem dX12_cut_290 : decode cX12_cut 290 = .ok (.invokestatic 321, 3) := by decide +kernel
theorem dX12_cut_293 : decode cX12_cut 293 = .ok (.ifCond .eq 140, 3) := by decide +kernel
theorem dX12_cut_433 : decode cX12_cut 433 = .ok (.aload_n 0, 1) := by decide +kernel
theorem dX12_cut_434 : decode cX12_cut 434 = .ok (.iload_n 1, 1) := by decide +kernel
theorem dX12_cut_435 : decode cX12_cut 435 = .ok (.invokevirtual 337, 3) := by decide +kernel
theorem dX12_cut_438 : decode cX12_cut 438 = .ok (.istore 4, 2) := by decide +kernel
theorem dX12_cut_440 : decode cX12_cut 440 = .ok (.iload 4, 2) := by decide +kernel
theorem dX12_cut_442 : decode cX12_cut 442 = .ok (.sipush 264, 3) := by decide +kernel
theorem dX12_cut_445 : decode cX12_cut 445 = .ok (.if_icmp .ne 9, 3) := by decide +kernel
theorem dX12_cut_454 : decode cX12_cut 454 = .ok (.iload 4, 2) := by decide +kernel
theorem dX12_cut_456 : decode cX12_cut 456 = .ok (.sipush 256, 3) := by decide +kernel
theorem dX12_cut_459 : decode cX12_cut 459 = .ok (.if_icmp .lt 9, 3) := by decide +kernel
theorem dX12_cut_468 : decode cX12_cut 468 = .ok (.iload_n 1, 1) := by decide +kernel
theorem dX12_cut_469 : decode cX12_cut 469 = .ok (.iconst 1, 1) := by decide +kernel
theorem dX12_cut_470 : decode cX12_cut 470 = .ok (.iadd, 1) := by decide +kernel
theorem dX12_cut_471 : decode cX12_cut 471 = .ok (.istore_n 3, 1) := by decide +kernel
theorem dX12_cut_462 : decode cX12_cut 462 = .ok (.iload_n 1, 1) := by decide +kernel
theorem dX12_cut_463 : decode cX12_cut 463 = .ok (.iconst 2, 1) := by decide +kernel
theorem dX12_cut_464 : decode cX12_cut 464 = .ok (.iadd, 1) := by decide +kernel
theorem dX12_cut_465 : decode cX12_cut 465 = .ok (.goto 6, 3) := by decide +kernel
theorem dX12_cut_448 : decode cX12_cut 448 = .ok (.iload_n 1, 1) := by decide +kernel
theorem dX12_cut_449 : decode cX12_cut 449 = .ok (.iconst 3, 1) := by decide +kernel
theorem dX12_cut_450 : decode cX12_cut 450 = .ok (.iadd, 1) := by decide +kernel
theorem dX12_cut_451 : decode cX12_cut 451 = .ok (.goto 20, 3) := by decide +kernel
theorem dX12_cut_296 : decode cX12_cut 296 = .ok (.lconst 0, 1) := by decide +kernel
theorem dX12_cut_297 : decode cX12_cut 297 = .ok (.lstore 6, 2) := by decide +kernel
theorem dX12_cut_299 : decode cX12_cut 299 = .ok (.aload_n 0, 1) := by decide +kernel
theorem dX12_cut_300 : decode cX12_cut 300 = .ok (.iload_n 3, 1) := by decide +kernel
theorem dX12_cut_301 : decode cX12_cut 301 = .ok (.invokevirtual 283, 3) := by decide +kernel
theorem dX12_cut_304 : decode cX12_cut 304 = .ok (.invokestatic 317, 3) := by decide +kernel
theorem dX12_cut_307 : decode cX12_cut 307 = .ok (.ifCond .ne 14, 3) := by decide +kernel
theorem dX12_cut_321 : decode cX12_cut 321 = .ok (.iinc 3 1, 3) := by decide +kernel
theorem dX12_cut_324 : decode cX12_cut 324 = .ok (.goto (-25), 3) := by decide +kernel
theorem dX12_cut_310 : decode cX12_cut 310 = .ok (.aload_n 0, 1) := by decide +kernel
theorem dX12_cut_311 : decode cX12_cut 311 = .ok (.iload_n 3, 1) := by decide +kernel
theorem dX12_cut_312 : decode cX12_cut 312 = .ok (.invokevirtual 283, 3) := by decide +kernel
theorem dX12_cut_315 : decode cX12_cut 315 = .ok (.invokestatic 321, 3) := by decide +kernel
theorem dX12_cut_318 : decode cX12_cut 318 = .ok (.ifCond .eq 9, 3) := by decide +kernel
theorem dX12_cut_327 : decode cX12_cut 327 = .ok (.iload_n 3, 1) := by decide +kernel
theorem dX12_cut_328 : decode cX12_cut 328 = .ok (.iload_n 1, 1) := by decide +kernel
theorem dX12_cut_329 : decode cX12_cut 329 = .ok (.isub, 1) := by decide +kernel
theorem dX12_cut_330 : decode cX12_cut 330 = .ok (.bipush 10, 2) := by decide +kernel
theorem dX12_cut_332 : decode cX12_cut 332 = .ok (.if_icmp .le 7, 3) := by decide +kernel
theorem dX12_cut_339 : decode cX12_cut 339 = .ok (.iconst 2, 1) := by decide +kernel
theorem dX12_cut_340 : decode cX12_cut 340 = .ok (.istore 4, 2) := by decide +kernel
theorem dX12_cut_342 : decode cX12_cut 342 = .ok (.iload_n 1, 1) := by decide +kernel
theorem dX12_cut_343 : decode cX12_cut 343 = .ok (.istore 8, 2) := by decide +kernel
theorem dX12_cut_345 : decode cX12_cut 345 = .ok (.iload 4, 2) := by decide +kernel
theorem dX12_cut_347 : decode cX12_cut 347 = .ok (.iconst 2, 1) := by decide +kernel
theorem dX12_cut_348 : decode cX12_cut 348 = .ok (.if_icmp .ne 54, 3) := by decide +kernel
theorem dX12_cut_402 : decode cX12_cut 402 = .ok (.iload 4, 2) := by decide +kernel
theorem dX12_cut_404 : decode cX12_cut 404 = .ok (.iconst 2, 1) := by decide +kernel
theorem dX12_cut_405 : decode cX12_cut 405 = .ok (.if_icmp .ne 16, 3) := by decide +kernel
theorem dX12_cut_421 : decode cX12_cut 421 = .ok (.iload 4, 2) := by decide +kernel
theorem dX12_cut_423 : decode cX12_cut 423 = .ok (.istore 4, 2) := by decide +kernel
theorem dX12_cut_425 : decode cX12_cut 425 = .ok (.lload 6, 2) := by decide +kernel
theorem dX12_cut_427 : decode cX12_cut 427 = .ok (.l2i, 1) := by decide +kernel
theorem dX12_cut_428 : decode cX12_cut 428 = .ok (.istore 5, 2) := by decide +kernel
theorem dX12_cut_430 : decode cX12_cut 430 = .ok (.goto 42, 3) := by decide +kernel
theorem dX12_cut_408 : decode cX12_cut 408 = .ok (.lload 6, 2) := by decide +kernel
theorem dX12_cut_410 : decode cX12_cut 410 = .ok (.ldc2_w 335, 3) := by decide +kernel
theorem dX12_cut_413 : decode cX12_cut 413 = .ok (.lcmp, 1) := by decide +kernel
theorem dX12_cut_414 : decode cX12_cut 414 = .ok (.ifCond .le 7, 3) := by decide +kernel
theorem dX12_cut_417 : decode cX12_cut 417 = .ok (.iconst 3, 1) := by decide +kernel
theorem dX12_cut_418 : decode cX12_cut 418 = .ok (.goto 5, 3) := by decide +kernel
theorem dX12_cut_351 : decode cX12_cut 351 = .ok (.iload 8, 2) := by decide +kernel
theorem dX12_cut_353 : decode cX12_cut 353 = .ok (.iload_n 3, 1) := by decide +kernel
theorem dX12_cut_354 : decode cX12_cut 354 = .ok (.if_icmp .ge 48, 3) := by decide +kernel
theorem dX12_cut_357 : decode cX12_cut 357 = .ok (.aload_n 0, 1) := by decide +kernel
theorem dX12_cut_358 : decode cX12_cut 358 = .ok (.iload 8, 2) := by decide +kernel
theorem dX12_cut_360 : decode cX12_cut 360 = .ok (.invokevirtual 283, 3) := by decide +kernel
theorem dX12_cut_363 : decode cX12_cut 363 = .ok (.invokestatic 321, 3) := by decide +kernel
theorem dX12_cut_366 : decode cX12_cut 366 = .ok (.ifCond .eq 7, 3) := by decide +kernel
theorem dX12_cut_373 : decode cX12_cut 373 = .ok (.iconst 3, 1) := by decide +kernel
theorem dX12_cut_374 : decode cX12_cut 374 = .ok (.istore 4, 2) := by decide +kernel
theorem dX12_cut_376 : decode cX12_cut 376 = .ok (.ldc2_w 331, 3) := by decide +kernel
theorem dX12_cut_379 : decode cX12_cut 379 = .ok (.lload 6, 2) := by decide +kernel
theorem dX12_cut_381 : decode cX12_cut 381 = .ok (.lmul, 1) := by decide +kernel
theorem dX12_cut_382 : decode cX12_cut 382 = .ok (.aload_n 0, 1) := by decide +kernel
theorem dX12_cut_383 : decode cX12_cut 383 = .ok (.iload 8, 2) := by decide +kernel
theorem dX12_cut_385 : decode cX12_cut 385 = .ok (.invokevirtual 283, 3) := by decide +kernel
theorem dX12_cut_388 : decode cX12_cut 388 = .ok (.i2l, 1) := by decide +kernel
theorem dX12_cut_389 : decode cX12_cut 389 = .ok (.ladd, 1) := by decide +kernel
theorem dX12_cut_390 : decode cX12_cut 390 = .ok (.ldc2_w 333, 3) := by decide +kernel
theorem dX12_cut_393 : decode cX12_cut 393 = .ok (.lsub, 1) := by decide +kernel
theorem dX12_cut_394 : decode cX12_cut 394 = .ok (.lstore 6, 2) := by decide +kernel
theorem dX12_cut_396 : decode cX12_cut 396 = .ok (.iinc 8 1, 3) := by decide +kernel
theorem dX12_cut_399 : decode cX12_cut 399 = .ok (.goto (-54), 3) := by decide +kernel
theorem dX12_cut_369 : decode cX12_cut 369 = .ok (.iconst 2, 1) := by decide +kernel
theorem dX12_cut_370 : decode cX12_cut 370 = .ok (.goto 4, 3) := by decide +kernel
theorem dX12_cut_335 : decode cX12_cut 335 = .ok (.iconst 3, 1) := by decide +kernel
theorem dX12_cut_336 : decode cX12_cut 336 = .ok (.goto 4, 3) := by decide +kernel
theorem dX12_cut_212 : decode cX12_cut 212 = .ok (.aload_n 0, 1) := by decide +kernel
theorem dX12_cut_213 : decode cX12_cut 213 = .ok (.iload_n 3, 1) := by decide +kernel
theorem dX12_cut_214 : decode cX12_cut 214 = .ok (.invokevirtual 283, 3) := by decide +kernel
theorem dX12_cut_217 : decode cX12_cut 217 = .ok (.invokestatic 317, 3) := by decide +kernel
theorem dX12_cut_220 : decode cX12_cut 220 = .ok (.ifCond .ne 14, 3) := by decide +kernel
theorem dX12_cut_234 : decode cX12_cut 234 = .ok (.iinc 3 1, 3) := by decide +kernel
theorem dX12_cut_237 : decode cX12_cut 237 = .ok (.goto (-25), 3) := by decide +kernel
theorem dX12_cut_223 : decode cX12_cut 223 = .ok (.aload_n 0, 1) := by decide +kernel
theorem dX12_cut_224 : decode cX12_cut 224 = .ok (.iload_n 3, 1) := by decide +kernel
theorem dX12_cut_225 : decode cX12_cut 225 = .ok (.invokevirtual 283, 3) := by decide +kernel
theorem dX12_cut_228 : decode cX12_cut 228 = .ok (.invokestatic 321, 3) := by decide +kernel
theorem dX12_cut_231 : decode cX12_cut 231 = .ok (.ifCond .eq 9, 3) := by decide +kernel
theorem dX12_cut_240 : decode cX12_cut 240 = .ok (.aload_n 0, 1) := by decide +kernel
theorem dX12_cut_241 : decode cX12_cut 241 = .ok (.iload_n 1, 1) := by decide +kernel
theorem dX12_cut_242 : decode cX12_cut 242 = .ok (.iload_n 3, 1) := by decide +kernel
theorem dX12_cut_243 : decode cX12_cut 243 = .ok (.invokevirtual 324, 3) := by decide +kernel
theorem dX12_cut_246 : decode cX12_cut 246 = .ok (.istore 4, 2) := by decide +kernel
theorem dX12_cut_248 : decode cX12_cut 248 = .ok (.iload 4, 2) := by decide +kernel
theorem dX12_cut_250 : decode cX12_cut 250 = .ok (.iconst 1, 1) := by decide +kernel
theorem dX12_cut_251 : decode cX12_cut 251 = .ok (.if_icmp .ne 17, 3) := by decide +kernel
theorem dX12_cut_268 : decode cX12_cut 268 = .ok (.iload 4, 2) := by decide +kernel
theorem dX12_cut_270 : decode cX12_cut 270 = .ok (.iconst 1, 1) := by decide +kernel
theorem dX12_cut_271 : decode cX12_cut 271 = .ok (.if_icmp .ne 201, 3) := by decide +kernel
theorem dX12_cut_274 : decode cX12_cut 274 = .ok (.aload_n 0, 1) := by decide +kernel
theorem dX12_cut_275 : decode cX12_cut 275 = .ok (.iload_n 1, 1) := by decide +kernel
theorem dX12_cut_276 : decode cX12_cut 276 = .ok (.iload_n 3, 1) := by decide +kernel
theorem dX12_cut_277 : decode cX12_cut 277 = .ok (.invokevirtual 328, 3) := by decide +kernel
theorem dX12_cut_280 : decode cX12_cut 280 = .ok (.istore 5, 2) := by decide +kernel
theorem dX12_cut_282 : decode cX12_cut 282 = .ok (.goto 190, 3) := by decide +kernel
theorem dX12_cut_254 : decode cX12_cut 254 = .ok (.iload_n 3, 1) := by decide +kernel
theorem dX12_cut_255 : decode cX12_cut 255 = .ok (.iload_n 1, 1) := by decide +kernel
theorem dX12_cut_256 : decode cX12_cut 256 = .ok (.isub, 1) := by decide +kernel
theorem dX12_cut_257 : decode cX12_cut 257 = .ok (.bipush 16, 2) := by decide +kernel
theorem dX12_cut_259 : decode cX12_cut 259 = .ok (.if_icmp .le 9, 3) := by decide +kernel
theorem dX12_cut_262 : decode cX12_cut 262 = .ok (.iconst 3, 1) := by decide +kernel
theorem dX12_cut_263 : decode cX12_cut 263 = .ok (.istore 4, 2) := by decide +kernel
theorem dX12_cut_265 : decode cX12_cut 265 = .ok (.goto 207, 3) := by decide +kernel
theorem dX12_cut_196 : decode cX12_cut 196 = .ok (.iload_n 1, 1) := by decide +kernel
theorem dX12_cut_197 : decode cX12_cut 197 = .ok (.istore_n 3, 1) := by decide +kernel
theorem dX12_cut_198 : decode cX12_cut 198 = .ok (.goto 274, 3) := by decide +kernel
theorem dX12_cut_142 : decode cX12_cut 142 = .ok (.aload_n 0, 1) := by decide +kernel
theorem dX12_cut_143 : decode cX12_cut 143 = .ok (.iload_n 1, 1) := by decide +kernel
theorem dX12_cut_144 : decode cX12_cut 144 = .ok (.iconst 1, 1) := by decide +kernel
theorem dX12_cut_145 : decode cX12_cut 145 = .ok (.iadd, 1) := by decide +kernel
theorem dX12_cut_146 : decode cX12_cut 146 = .ok (.invokevirtual 283, 3) := by decide +kernel
theorem dX12_cut_149 : decode cX12_cut 149 = .ok (.bipush 47, 2) := by decide +kernel
theorem dX12_cut_151 : decode cX12_cut 151 = .ok (.if_icmp .ne 27, 3) := by decide +kernel
theorem dX12_cut_154 : decode cX12_cut 154 = .ok (.iload_n 1, 1) := by decide +kernel
theorem dX12_cut_155 : decode cX12_cut 155 = .ok (.aload_n 0, 1) := by decide +kernel
theorem dX12_cut_156 : decode cX12_cut 156 = .ok (.getfield 258, 3) := by decide +kernel
theorem dX12_cut_159 : decode cX12_cut 159 = .ok (.if_icmp .ge (-77), 3) := by decide +kernel
theorem dX12_cut_162 : decode cX12_cut 162 = .ok (.aload_n 0, 1) := by decide +kernel
theorem dX12_cut_163 : decode cX12_cut 163 = .ok (.iload_n 1, 1) := by decide +kernel
theorem dX12_cut_164 : decode cX12_cut 164 = .ok (.invokevirtual 283, 3) := by decide +kernel
theorem dX12_cut_167 : decode cX12_cut 167 = .ok (.bipush 10, 2) := by decide +kernel
theorem dX12_cut_169 : decode cX12_cut 169 = .ok (.if_icmp .eq (-87), 3) := by decide +kernel
theorem dX12_cut_172 : decode cX12_cut 172 = .ok (.iinc 1 1, 3) := by decide +kernel
theorem dX12_cut_175 : decode cX12_cut 175 = .ok (.goto (-21), 3) := by decide +kernel
theorem hV_X12_built : yX12_built.cls = RX12 ∧ yX12_built.cls ≠ "java/lang/invoke/MethodHandle" ∧ yX12_built.cls ≠ "java/lang/invoke/VarHandle" ∧ (parseMethodDescriptor yX12_built.desc).map (fun d => d.parameters.length) = some 1 := by decide +kernel
theorem hS_X12_isLetter : yX12_isLetter.cls ≠ "java/lang/invoke/MethodHandle" ∧ yX12_isLetter.cls ≠ "java/lang/invoke/VarHandle" ∧ (parseMethodDescriptor yX12_isLetter.desc).map (fun d => d.parameters.length) = some 1 := by decide +kernel
theorem hS_X12_isDigit : yX12_isDigit.cls ≠ "java/lang/invoke/MethodHandle" ∧ yX12_isDigit.cls ≠ "java/lang/invoke/VarHandle" ∧ (parseMethodDescriptor yX12_isDigit.desc).map (fun d => d.parameters.length) = some 1 := by decide +kernel
theorem hV_X12_sign : yX12_sign.cls = RX12 ∧ yX12_sign.cls ≠ "java/lang/invoke/MethodHandle" ∧ yX12_sign.cls ≠ "java/lang/invoke/VarHandle" ∧ (parseMethodDescriptor yX12_sign.desc).map (fun d => d.parameters.length) = some 1 := by decide +kernel
theorem hV_X12_wordOf : yX12_wordOf.cls = RX12 ∧ yX12_wordOf.cls ≠ "java/lang/invoke/MethodHandle" ∧ yX12_wordOf.cls ≠ "java/lang/invoke/VarHandle" ∧ (parseMethodDescriptor yX12_wordOf.desc).map (fun d => d.parameters.length) = some 2 := by decide +kernel
theorem hV_X12_intern : yX12_intern.cls = RX12 ∧ yX12_intern.cls ≠ "java/lang/invoke/MethodHandle" ∧ yX12_intern.cls ≠ "java/lang/invoke/VarHandle" ∧ (parseMethodDescriptor yX12_intern.desc).map (fun d => d.parameters.length) = some 2 := by decide +kernel
set_option maxHeartbeats 2000000 in
set_option maxRecDepth 100000 in
/-- cut() -/
theorem R_cut (l : Launch) (G : pT) (h0 : Nat) (a : Nat → Nat) (F : Nat → Int32) (B : Nat → Nat → Int32) (sz : Nat) (f10 : Nat → Int32) (f11 : Nat → Int32) (f12 : Nat → Int32) (f5 : Nat → Int32) (f6 : Nat → Int32) (f7 : Nat → Int32) (f8 : Nat → Int32) (hsz : sz ≤ 5000) (htx : ∀ j : Nat, j < sz → tOk (B 1 j)) : PM l G pX0 yX12_cut cX12_cut 9 none ({ frames := 7, cells := 0, slots := 0, locals := 174 }) [.ref h0] (mW G h0 a (upd F 4 (nI sz)) (updA (updA (updA (updA (updA (updA (updA B 2 f5) 3 f6) 4 f7) 5 f8) 6 f10) 7 f11) 8 f12)) (fun (v : Option Value) (u : Nat × Nat × Nat × (Nat → Int32) × (Nat → Int32) × (Nat → Int32) × (Nat → Int32) × (Nat → Int32) × (Nat → Int32) × (Nat → Int32)) => v = none ∧ (u.1 ≤ sz) ∧ (u.2.2.2.2.2.2.1 u.1 = 0 ∨ u.2.2.2.2.2.2.1 u.1 = 3) ∧ (rNm u.2.1 u.2.2.1 u.2.2.2.1 u.2.2.2.2.1) ∧ (u.2.1 ≤ 9 + sz) ∧ (u.2.2.1 ≤ 40 + sz) ∧ (rTk u.1 u.2.1 u.2.2.2.2.2.2.1 u.2.2.2.2.2.2.2.2.2) ∧ (9 ≤ u.2.1)) (fun u => (mW G h0 a (upd (upd (upd (upd F 4 (nI sz)) 9 (nI u.1)) 13 (nI u.2.2.1)) 14 (nI u.2.1)) (updA (updA (updA (updA (updA (updA (updA B 2 u.2.2.2.2.2.2.1) 3 u.2.2.2.2.2.2.2.1) 4 u.2.2.2.2.2.2.2.2.1) 5 u.2.2.2.2.2.2.2.2.2) 6 u.2.2.2.1) 7 u.2.2.2.2.1) 8 u.2.2.2.2.2.1))) := by
  intro sz
  refine Met.ofW (cc := cX12_cut) (maxL := 9) (ret := none) (by decide) rfl ?_
  intro p e s m args below meth c s₁ B9 hml hv
  obtain ⟨rfl, hsz, hP, hD0, hE, hX⟩ := hv
  have hx := B9.exec
  have hb := B9.bytes
  have hr := B9.returns
  have hts := atoms_spec (ws := Cond.code yX12_cut cX12_cut 9 none :: pw) B9.pre
  have hq : ∀ w ∈ pw, w.before _ s = true := fun w h => hts w (List.mem_cons_of_mem _ h)
  have hown : s.vm.findClass RX12 = some m.cls := findClass_of_methodNamed B9.named
  have hlocks := B9.notSynchronized
  subst hsz
  have hD := hD0.self (sz := s.heap.size)
  have hA : ∀ q : Nat, s.heap.size ≤ q → va_A (mW G h0 a (upd F 4 (nI sz)) (updA (updA (updA (updA (updA (updA (updA B 2 f5) 3 f6) 4 f7) 5 f8) 6 f10) 7 f11) 8 f12)) s.heap.size q := fun q h => Or.inr h
  have hP : va_P G.1 pCl (mW G h0 a (upd F 4 (nI sz)) (updA (updA (updA (updA (updA (updA (updA B 2 f5) 3 f6) 4 f7) 5 f8) 6 f10) 7 f11) 8 f12)) s.heap := hP
  generalize va_A (mW G h0 a (upd F 4 (nI sz)) (updA (updA (updA (updA (updA (updA (updA B 2 f5) 3 f6) 4 f7) 5 f8) 6 f10) 7 f11) 8 f12)) s.heap.size = A at hD hE hA ⊢
  have hS : va_S A s.heap s.heap [] := va_S.rf
  have hl := lv_entry ([.ref h0]) (n := 9) (Nat.le_of_ble_eq_true rfl)
  rw [lg_entry_eq]
  generalize (lg_sl ([.ref h0]) ++ List.replicate (9 - (lg_sl ([.ref h0])).length) Slot.unset).toArray = ls at hl ⊢
  have hl : lv_has ls 9 [(0, .ref h0)] := hl
  refine lv_aload_n hx hb dX12_cut_0 rfl (lv_at hl 0 rfl) ?_
  refine lv_iconst (v := 0) hx hb dX12_cut_1 (by decide) ?_
  refine r_put (v := 0) (ty := .int) hx hb hown hq hE hP hD hS 14 277 tFX12_14 (by decide) pw_1529 (by decide) rfl rfl (ms_14 a _ _) dX12_cut_2 (fun H locs hP hD hS => ?_)
  refine lv_aload_n hx hb dX12_cut_5 rfl (lv_at hl 0 rfl) ?_
  refine lv_iconst (v := 0) hx hb dX12_cut_6 (by decide) ?_
  refine r_put (v := 0) (ty := .int) hx hb hown hq hE hP hD hS 13 280 tFX12_13 (by decide) pw_1530 (by decide) rfl rfl (ms_13 a _ _) dX12_cut_7 (fun H locs hP hD hS => ?_)
  refine lv_aload_n hx hb dX12_cut_10 rfl (lv_at hl 0 rfl) ?_
  refine pn_ldcSW (q := G.2.2.1 3) hx hb hown (hE.2.2.1 3 (by decide)) dX12_cut_11 ?_
  have hR0 := rNm_0 0 f10 f11
  have hP : va_P G.1 pCl (mW G h0 a (upd (upd (upd (upd (upd F 4 (nI sz)) 13 0) 14 0) 13 (nI 0)) 14 (nI 0)) (updA (updA (updA (updA (updA (updA (updA (updA (updA (updA B 2 f5) 3 f6) 4 f7) 5 f8) 6 f10) 7 f11) 8 f12) 6 f10) 7 f11) 8 f12)) _ := mW_to (F := F) (l1 := [(4, (nI sz)), (14, 0), (13, 0)]) (l2 := [(4, (nI sz)), (13, 0), (14, 0), (13, (nI 0)), (14, (nI 0))]) (V := [(nI sz), (nI 0), (nI 0), (nI sz), (nI 0), (nI 0), (nI 0), (nI 0)]) rfl rfl (show (updA (updA (updA (updA (updA (updA (updA B 2 f5) 3 f6) 4 f7) 5 f8) 6 f10) 7 f11) 8 f12) = (updA (updA (updA (updA (updA (updA (updA (updA (updA (updA B 2 f5) 3 f6) 4 f7) 5 f8) 6 f10) 7 f11) 8 f12) 6 f10) 7 f11) 8 f12) from updsA_eq2 (F := B) (l1 := [(2, f5), (3, f6), (4, f7), (5, f8), (6, f10), (7, f11), (8, f12)]) (l2 := [(2, f5), (3, f6), (4, f7), (5, f8), (6, f10), (7, f11), (8, f12), (6, f10), (7, f11), (8, f12)]) (V := [f5, f6, f7, f8, f10, f11, f12, f5, f6, f7, f8, f10, f11, f12, f10, f11, f12]) rfl rfl) hP
  have hD : va_D A (mW G h0 a (upd (upd (upd (upd (upd F 4 (nI sz)) 13 0) 14 0) 13 (nI 0)) 14 (nI 0)) (updA (updA (updA (updA (updA (updA (updA (updA (updA (updA B 2 f5) 3 f6) 4 f7) 5 f8) 6 f10) 7 f11) 8 f12) 6 f10) 7 f11) 8 f12)) := mW_D hD
  refine pc_V0 (G := G) (As := [.ref (G.2.2.1 3)]) (rest := []) hx hb hml hown hq hE hX pX0_al hP hD hS hA hl.1 (R_built l G h0 a (upd (upd (upd F 4 (nI sz)) 13 0) 14 0) (updA (updA (updA (updA (updA (updA (updA B 2 f5) 3 f6) 4 f7) 5 f8) 6 f10) 7 f11) 8 f12) 3 6 0 0 f10 f11 f12 (by decide) (by decide +kernel) (by omega) (by omega) hR0) (gV pw_1572 pw_1573 pw_1574 pw_1523 pw_1531) hV_X12_built 0 9 rfl rfl rfl rfl (Nat.le_of_ble_eq_true rfl) dX12_cut_14 ⟨Nat.le_of_ble_eq_true rfl, Nat.le_of_ble_eq_true rfl⟩ ⟨Nat.le_of_ble_eq_true rfl, Nat.le_of_ble_eq_true rfl⟩ (fun v3 u1 H locs hw2 hP hD hS => ?_)
  obtain ⟨g4, rfl⟩ : ∃ z, z = u1 := ⟨_, rfl⟩
  obtain rfl : v3 = none := hw2
  have hP : va_P G.1 pCl (mW G h0 a (upd (upd (upd F 4 (nI sz)) 13 (nI (0 + 6))) 14 (nI (0 + 1))) (updA (updA (updA (updA (updA (updA (updA B 2 f5) 3 f6) 4 f7) 5 f8) 6 (upd f10 0 (nI 0))) 7 (upd f11 0 (nI 6))) 8 g4)) _ := mW_to (F := F) (l1 := [(4, (nI sz)), (13, 0), (14, 0), (13, (nI (0 + 6))), (14, (nI (0 + 1)))]) (l2 := [(4, (nI sz)), (13, (nI (0 + 6))), (14, (nI (0 + 1)))]) (V := [(nI sz), (nI (0 + 6)), (nI (0 + 1)), (nI (0 + 6)), (nI (0 + 1)), (nI sz), (nI (0 + 6)), (nI (0 + 1))]) rfl rfl (show (updA (updA (updA (updA (updA (updA (updA (updA (updA (updA B 2 f5) 3 f6) 4 f7) 5 f8) 6 f10) 7 f11) 8 f12) 6 (upd f10 0 (nI 0))) 7 (upd f11 0 (nI 6))) 8 g4) = (updA (updA (updA (updA (updA (updA (updA B 2 f5) 3 f6) 4 f7) 5 f8) 6 (upd f10 0 (nI 0))) 7 (upd f11 0 (nI 6))) 8 g4) from updsA_eq2 (F := B) (l1 := [(2, f5), (3, f6), (4, f7), (5, f8), (6, f10), (7, f11), (8, f12), (6, (upd f10 0 (nI 0))), (7, (upd f11 0 (nI 6))), (8, g4)]) (l2 := [(2, f5), (3, f6), (4, f7), (5, f8), (6, (upd f10 0 (nI 0))), (7, (upd f11 0 (nI 6))), (8, g4)]) (V := [f5, f6, f7, f8, (upd f10 0 (nI 0)), (upd f11 0 (nI 6)), g4, (upd f10 0 (nI 0)), (upd f11 0 (nI 6)), g4, f5, f6, f7, f8, (upd f10 0 (nI 0)), (upd f11 0 (nI 6)), g4]) rfl rfl) hP
  have hD : va_D A (mW G h0 a (upd (upd (upd F 4 (nI sz)) 13 (nI (0 + 6))) 14 (nI (0 + 1))) (updA (updA (updA (updA (updA (updA (updA B 2 f5) 3 f6) 4 f7) 5 f8) 6 (upd f10 0 (nI 0))) 7 (upd f11 0 (nI 6))) 8 g4)) := mW_D hD
  refine W.widen (k := 0) (n := 0) (Nat.le_of_ble_eq_true rfl) (Nat.le_of_ble_eq_true rfl) ?_
  refine W.eq (g2 := F0 m 17 ls []) rfl ?_
  have hR5 := rNm_new (len := 6) hR0 (Nat.le_refl _)
  refine lv_aload_n hx hb dX12_cut_17 rfl (lv_at hl 0 rfl) ?_
  refine pn_ldcSW (q := G.2.2.1 4) hx hb hown (hE.2.2.1 4 (by decide)) dX12_cut_18 ?_
  have hP : va_P G.1 pCl (mW G h0 a (upd (upd (upd (upd (upd F 4 (nI sz)) 13 (nI (0 + 6))) 14 (nI (0 + 1))) 13 (nI 6)) 14 (nI 1)) (updA (updA (updA (updA (updA (updA (updA (updA (updA (updA B 2 f5) 3 f6) 4 f7) 5 f8) 6 (upd f10 0 (nI 0))) 7 (upd f11 0 (nI 6))) 8 g4) 6 (upd f10 0 (nI 0))) 7 (upd f11 0 (nI 6))) 8 g4)) _ := mW_to (F := F) (l1 := [(4, (nI sz)), (13, (nI (0 + 6))), (14, (nI (0 + 1)))]) (l2 := [(4, (nI sz)), (13, (nI (0 + 6))), (14, (nI (0 + 1))), (13, (nI 6)), (14, (nI 1))]) (V := [(nI sz), (nI 6), (nI 1), (nI sz), (nI 6), (nI 1), (nI 6), (nI 1)]) rfl rfl (show (updA (updA (updA (updA (updA (updA (updA B 2 f5) 3 f6) 4 f7) 5 f8) 6 (upd f10 0 (nI 0))) 7 (upd f11 0 (nI 6))) 8 g4) = (updA (updA (updA (updA (updA (updA (updA (updA (updA (updA B 2 f5) 3 f6) 4 f7) 5 f8) 6 (upd f10 0 (nI 0))) 7 (upd f11 0 (nI 6))) 8 g4) 6 (upd f10 0 (nI 0))) 7 (upd f11 0 (nI 6))) 8 g4) from updsA_eq2 (F := B) (l1 := [(2, f5), (3, f6), (4, f7), (5, f8), (6, (upd f10 0 (nI 0))), (7, (upd f11 0 (nI 6))), (8, g4)]) (l2 := [(2, f5), (3, f6), (4, f7), (5, f8), (6, (upd f10 0 (nI 0))), (7, (upd f11 0 (nI 6))), (8, g4), (6, (upd f10 0 (nI 0))), (7, (upd f11 0 (nI 6))), (8, g4)]) (V := [f5, f6, f7, f8, (upd f10 0 (nI 0)), (upd f11 0 (nI 6)), g4, f5, f6, f7, f8, (upd f10 0 (nI 0)), (upd f11 0 (nI 6)), g4, (upd f10 0 (nI 0)), (upd f11 0 (nI 6)), g4]) rfl rfl) hP
  have hD : va_D A (mW G h0 a (upd (upd (upd (upd (upd F 4 (nI sz)) 13 (nI (0 + 6))) 14 (nI (0 + 1))) 13 (nI 6)) 14 (nI 1)) (updA (updA (updA (updA (updA (updA (updA (updA (updA (updA B 2 f5) 3 f6) 4 f7) 5 f8) 6 (upd f10 0 (nI 0))) 7 (upd f11 0 (nI 6))) 8 g4) 6 (upd f10 0 (nI 0))) 7 (upd f11 0 (nI 6))) 8 g4)) := mW_D hD
  refine pc_V0 (G := G) (As := [.ref (G.2.2.1 4)]) (rest := []) hx hb hml hown hq hE hX pX0_al hP hD hS hA hl.1 (R_built l G h0 a (upd (upd (upd F 4 (nI sz)) 13 (nI (0 + 6))) 14 (nI (0 + 1))) (updA (updA (updA (updA (updA (updA (updA B 2 f5) 3 f6) 4 f7) 5 f8) 6 (upd f10 0 (nI 0))) 7 (upd f11 0 (nI 6))) 8 g4) 4 4 1 6 (upd f10 0 (nI 0)) (upd f11 0 (nI 6)) g4 (by decide) (by decide +kernel) (by omega) (by omega) hR5) (gV pw_1572 pw_1573 pw_1574 pw_1523 pw_1531) hV_X12_built 0 9 rfl rfl rfl rfl (Nat.le_of_ble_eq_true rfl) dX12_cut_21 ⟨Nat.le_of_ble_eq_true rfl, Nat.le_of_ble_eq_true rfl⟩ ⟨Nat.le_of_ble_eq_true rfl, Nat.le_of_ble_eq_true rfl⟩ (fun v8 u6 H locs hw7 hP hD hS => ?_)
  obtain ⟨g9, rfl⟩ : ∃ z, z = u6 := ⟨_, rfl⟩
  obtain rfl : v8 = none := hw7
  have hP : va_P G.1 pCl (mW G h0 a (upd (upd (upd F 4 (nI sz)) 13 (nI (6 + 4))) 14 (nI (1 + 1))) (updA (updA (updA (updA (updA (updA (updA B 2 f5) 3 f6) 4 f7) 5 f8) 6 (upd (upd f10 0 (nI 0)) 1 (nI 6))) 7 (upd (upd f11 0 (nI 6)) 1 (nI 4))) 8 g9)) _ := mW_to (F := F) (l1 := [(4, (nI sz)), (13, (nI (0 + 6))), (14, (nI (0 + 1))), (13, (nI (6 + 4))), (14, (nI (1 + 1)))]) (l2 := [(4, (nI sz)), (13, (nI (6 + 4))), (14, (nI (1 + 1)))]) (V := [(nI sz), (nI (6 + 4)), (nI (1 + 1)), (nI (6 + 4)), (nI (1 + 1)), (nI sz), (nI (6 + 4)), (nI (1 + 1))]) rfl rfl (show (updA (updA (updA (updA (updA (updA (updA (updA (updA (updA B 2 f5) 3 f6) 4 f7) 5 f8) 6 (upd f10 0 (nI 0))) 7 (upd f11 0 (nI 6))) 8 g4) 6 (upd (upd f10 0 (nI 0)) 1 (nI 6))) 7 (upd (upd f11 0 (nI 6)) 1 (nI 4))) 8 g9) = (updA (updA (updA (updA (updA (updA (updA B 2 f5) 3 f6) 4 f7) 5 f8) 6 (upd (upd f10 0 (nI 0)) 1 (nI 6))) 7 (upd (upd f11 0 (nI 6)) 1 (nI 4))) 8 g9) from updsA_eq2 (F := B) (l1 := [(2, f5), (3, f6), (4, f7), (5, f8), (6, (upd f10 0 (nI 0))), (7, (upd f11 0 (nI 6))), (8, g4), (6, (upd (upd f10 0 (nI 0)) 1 (nI 6))), (7, (upd (upd f11 0 (nI 6)) 1 (nI 4))), (8, g9)]) (l2 := [(2, f5), (3, f6), (4, f7), (5, f8), (6, (upd (upd f10 0 (nI 0)) 1 (nI 6))), (7, (upd (upd f11 0 (nI 6)) 1 (nI 4))), (8, g9)]) (V := [f5, f6, f7, f8, (upd (upd f10 0 (nI 0)) 1 (nI 6)), (upd (upd f11 0 (nI 6)) 1 (nI 4)), g9, (upd (upd f10 0 (nI 0)) 1 (nI 6)), (upd (upd f11 0 (nI 6)) 1 (nI 4)), g9, f5, f6, f7, f8, (upd (upd f10 0 (nI 0)) 1 (nI 6)), (upd (upd f11 0 (nI 6)) 1 (nI 4)), g9]) rfl rfl) hP
  have hD : va_D A (mW G h0 a (upd (upd (upd F 4 (nI sz)) 13 (nI (6 + 4))) 14 (nI (1 + 1))) (updA (updA (updA (updA (updA (updA (updA B 2 f5) 3 f6) 4 f7) 5 f8) 6 (upd (upd f10 0 (nI 0)) 1 (nI 6))) 7 (upd (upd f11 0 (nI 6)) 1 (nI 4))) 8 g9)) := mW_D hD
  refine W.widen (k := 0) (n := 0) (Nat.le_of_ble_eq_true rfl) (Nat.le_of_ble_eq_true rfl) ?_
  refine W.eq (g2 := F0 m 24 ls []) rfl ?_
  have hR10 := rNm_new (len := 4) hR5 (Nat.le_refl _)
  refine lv_aload_n hx hb dX12_cut_24 rfl (lv_at hl 0 rfl) ?_
  refine pn_ldcSW (q := G.2.2.1 5) hx hb hown (hE.2.2.1 5 (by decide)) dX12_cut_25 ?_
  have hP : va_P G.1 pCl (mW G h0 a (upd (upd (upd (upd (upd F 4 (nI sz)) 13 (nI (6 + 4))) 14 (nI (1 + 1))) 13 (nI 10)) 14 (nI 2)) (updA (updA (updA (updA (updA (updA (updA (updA (updA (updA B 2 f5) 3 f6) 4 f7) 5 f8) 6 (upd (upd f10 0 (nI 0)) 1 (nI 6))) 7 (upd (upd f11 0 (nI 6)) 1 (nI 4))) 8 g9) 6 (upd (upd f10 0 (nI 0)) 1 (nI 6))) 7 (upd (upd f11 0 (nI 6)) 1 (nI 4))) 8 g9)) _ := mW_to (F := F) (l1 := [(4, (nI sz)), (13, (nI (6 + 4))), (14, (nI (1 + 1)))]) (l2 := [(4, (nI sz)), (13, (nI (6 + 4))), (14, (nI (1 + 1))), (13, (nI 10)), (14, (nI 2))]) (V := [(nI sz), (nI 10), (nI 2), (nI sz), (nI 10), (nI 2), (nI 10), (nI 2)]) rfl rfl (show (updA (updA (updA (updA (updA (updA (updA B 2 f5) 3 f6) 4 f7) 5 f8) 6 (upd (upd f10 0 (nI 0)) 1 (nI 6))) 7 (upd (upd f11 0 (nI 6)) 1 (nI 4))) 8 g9) = (updA (updA (updA (updA (updA (updA (updA (updA (updA (updA B 2 f5) 3 f6) 4 f7) 5 f8) 6 (upd (upd f10 0 (nI 0)) 1 (nI 6))) 7 (upd (upd f11 0 (nI 6)) 1 (nI 4))) 8 g9) 6 (upd (upd f10 0 (nI 0)) 1 (nI 6))) 7 (upd (upd f11 0 (nI 6)) 1 (nI 4))) 8 g9) from updsA_eq2 (F := B) (l1 := [(2, f5), (3, f6), (4, f7), (5, f8), (6, (upd (upd f10 0 (nI 0)) 1 (nI 6))), (7, (upd (upd f11 0 (nI 6)) 1 (nI 4))), (8, g9)]) (l2 := [(2, f5), (3, f6), (4, f7), (5, f8), (6, (upd (upd f10 0 (nI 0)) 1 (nI 6))), (7, (upd (upd f11 0 (nI 6)) 1 (nI 4))), (8, g9), (6, (upd (upd f10 0 (nI 0)) 1 (nI 6))), (7, (upd (upd f11 0 (nI 6)) 1 (nI 4))), (8, g9)]) (V := [f5, f6, f7, f8, (upd (upd f10 0 (nI 0)) 1 (nI 6)), (upd (upd f11 0 (nI 6)) 1 (nI 4)), g9, f5, f6, f7, f8, (upd (upd f10 0 (nI 0)) 1 (nI 6)), (upd (upd f11 0 (nI 6)) 1 (nI 4)), g9, (upd (upd f10 0 (nI 0)) 1 (nI 6)), (upd (upd f11 0 (nI 6)) 1 (nI 4)), g9]) rfl rfl) hP
  have hD : va_D A (mW G h0 a (upd (upd (upd (upd (upd F 4 (nI sz)) 13 (nI (6 + 4))) 14 (nI (1 + 1))) 13 (nI 10)) 14 (nI 2)) (updA (updA (updA (updA (updA (updA (updA (updA (updA (updA B 2 f5) 3 f6) 4 f7) 5 f8) 6 (upd (upd f10 0 (nI 0)) 1 (nI 6))) 7 (upd (upd f11 0 (nI 6)) 1 (nI 4))) 8 g9) 6 (upd (upd f10 0 (nI 0)) 1 (nI 6))) 7 (upd (upd f11 0 (nI 6)) 1 (nI 4))) 8 g9)) := mW_D hD
  refine pc_V0 (G := G) (As := [.ref (G.2.2.1 5)]) (rest := []) hx hb hml hown hq hE hX pX0_al hP hD hS hA hl.1 (R_built l G h0 a (upd (upd (upd F 4 (nI sz)) 13 (nI (6 + 4))) 14 (nI (1 + 1))) (updA (updA (updA (updA (updA (updA (updA B 2 f5) 3 f6) 4 f7) 5 f8) 6 (upd (upd f10 0 (nI 0)) 1 (nI 6))) 7 (upd (upd f11 0 (nI 6)) 1 (nI 4))) 8 g9) 5 4 2 10 (upd (upd f10 0 (nI 0)) 1 (nI 6)) (upd (upd f11 0 (nI 6)) 1 (nI 4)) g9 (by decide) (by decide +kernel) (by omega) (by omega) hR10) (gV pw_1572 pw_1573 pw_1574 pw_1523 pw_1531) hV_X12_built 0 9 rfl rfl rfl rfl (Nat.le_of_ble_eq_true rfl) dX12_cut_28 ⟨Nat.le_of_ble_eq_true rfl, Nat.le_of_ble_eq_true rfl⟩ ⟨Nat.le_of_ble_eq_true rfl, Nat.le_of_ble_eq_true rfl⟩ (fun v13 u11 H locs hw12 hP hD hS => ?_)
  obtain ⟨g14, rfl⟩ : ∃ z, z = u11 := ⟨_, rfl⟩
  obtain rfl : v13 = none := hw12
  have hP : va_P G.1 pCl (mW G h0 a (upd (upd (upd F 4 (nI sz)) 13 (nI (10 + 4))) 14 (nI (2 + 1))) (updA (updA (updA (updA (updA (updA (updA B 2 f5) 3 f6) 4 f7) 5 f8) 6 (upd (upd (upd f10 0 (nI 0)) 1 (nI 6)) 2 (nI 10))) 7 (upd (upd (upd f11 0 (nI 6)) 1 (nI 4)) 2 (nI 4))) 8 g14)) _ := mW_to (F := F) (l1 := [(4, (nI sz)), (13, (nI (6 + 4))), (14, (nI (1 + 1))), (13, (nI (10 + 4))), (14, (nI (2 + 1)))]) (l2 := [(4, (nI sz)), (13, (nI (10 + 4))), (14, (nI (2 + 1)))]) (V := [(nI sz), (nI (10 + 4)), (nI (2 + 1)), (nI (10 + 4)), (nI (2 + 1)), (nI sz), (nI (10 + 4)), (nI (2 + 1))]) rfl rfl (show (updA (updA (updA (updA (updA (updA (updA (updA (updA (updA B 2 f5) 3 f6) 4 f7) 5 f8) 6 (upd (upd f10 0 (nI 0)) 1 (nI 6))) 7 (upd (upd f11 0 (nI 6)) 1 (nI 4))) 8 g9) 6 (upd (upd (upd f10 0 (nI 0)) 1 (nI 6)) 2 (nI 10))) 7 (upd (upd (upd f11 0 (nI 6)) 1 (nI 4)) 2 (nI 4))) 8 g14) = (updA (updA (updA (updA (updA (updA (updA B 2 f5) 3 f6) 4 f7) 5 f8) 6 (upd (upd (upd f10 0 (nI 0)) 1 (nI 6)) 2 (nI 10))) 7 (upd (upd (upd f11 0 (nI 6)) 1 (nI 4)) 2 (nI 4))) 8 g14) from updsA_eq2 (F := B) (l1 := [(2, f5), (3, f6), (4, f7), (5, f8), (6, (upd (upd f10 0 (nI 0)) 1 (nI 6))), (7, (upd (upd f11 0 (nI 6)) 1 (nI 4))), (8, g9), (6, (upd (upd (upd f10 0 (nI 0)) 1 (nI 6)) 2 (nI 10))), (7, (upd (upd (upd f11 0 (nI 6)) 1 (nI 4)) 2 (nI 4))), (8, g14)]) (l2 := [(2, f5), (3, f6), (4, f7), (5, f8), (6, (upd (upd (upd f10 0 (nI 0)) 1 (nI 6)) 2 (nI 10))), (7, (upd (upd (upd f11 0 (nI 6)) 1 (nI 4)) 2 (nI 4))), (8, g14)]) (V := [f5, f6, f7, f8, (upd (upd (upd f10 0 (nI 0)) 1 (nI 6)) 2 (nI 10)), (upd (upd (upd f11 0 (nI 6)) 1 (nI 4)) 2 (nI 4)), g14, (upd (upd (upd f10 0 (nI 0)) 1 (nI 6)) 2 (nI 10)), (upd (upd (upd f11 0 (nI 6)) 1 (nI 4)) 2 (nI 4)), g14, f5, f6, f7, f8, (upd (upd (upd f10 0 (nI 0)) 1 (nI 6)) 2 (nI 10)), (upd (upd (upd f11 0 (nI 6)) 1 (nI 4)) 2 (nI 4)), g14]) rfl rfl) hP
  have hD : va_D A (mW G h0 a (upd (upd (upd F 4 (nI sz)) 13 (nI (10 + 4))) 14 (nI (2 + 1))) (updA (updA (updA (updA (updA (updA (updA B 2 f5) 3 f6) 4 f7) 5 f8) 6 (upd (upd (upd f10 0 (nI 0)) 1 (nI 6)) 2 (nI 10))) 7 (upd (upd (upd f11 0 (nI 6)) 1 (nI 4)) 2 (nI 4))) 8 g14)) := mW_D hD
  refine W.widen (k := 0) (n := 0) (Nat.le_of_ble_eq_true rfl) (Nat.le_of_ble_eq_true rfl) ?_
  refine W.eq (g2 := F0 m 31 ls []) rfl ?_
  have hR15 := rNm_new (len := 4) hR10 (Nat.le_refl _)
  refine lv_aload_n hx hb dX12_cut_31 rfl (lv_at hl 0 rfl) ?_
  refine pn_ldcSW (q := G.2.2.1 6) hx hb hown (hE.2.2.1 6 (by decide)) dX12_cut_32 ?_
  have hP : va_P G.1 pCl (mW G h0 a (upd (upd (upd (upd (upd F 4 (nI sz)) 13 (nI (10 + 4))) 14 (nI (2 + 1))) 13 (nI 14)) 14 (nI 3)) (updA (updA (updA (updA (updA (updA (updA (updA (updA (updA B 2 f5) 3 f6) 4 f7) 5 f8) 6 (upd (upd (upd f10 0 (nI 0)) 1 (nI 6)) 2 (nI 10))) 7 (upd (upd (upd f11 0 (nI 6)) 1 (nI 4)) 2 (nI 4))) 8 g14) 6 (upd (upd (upd f10 0 (nI 0)) 1 (nI 6)) 2 (nI 10))) 7 (upd (upd (upd f11 0 (nI 6)) 1 (nI 4)) 2 (nI 4))) 8 g14)) _ := mW_to (F := F) (l1 := [(4, (nI sz)), (13, (nI (10 + 4))), (14, (nI (2 + 1)))]) (l2 := [(4, (nI sz)), (13, (nI (10 + 4))), (14, (nI (2 + 1))), (13, (nI 14)), (14, (nI 3))]) (V := [(nI sz), (nI 14), (nI 3), (nI sz), (nI 14), (nI 3), (nI 14), (nI 3)]) rfl rfl (show (updA (updA (updA (updA (updA (updA (updA B 2 f5) 3 f6) 4 f7) 5 f8) 6 (upd (upd (upd f10 0 (nI 0)) 1 (nI 6)) 2 (nI 10))) 7 (upd (upd (upd f11 0 (nI 6)) 1 (nI 4)) 2 (nI 4))) 8 g14) = (updA (updA (updA (updA (updA (updA (updA (updA (updA (updA B 2 f5) 3 f6) 4 f7) 5 f8) 6 (upd (upd (upd f10 0 (nI 0)) 1 (nI 6)) 2 (nI 10))) 7 (upd (upd (upd f11 0 (nI 6)) 1 (nI 4)) 2 (nI 4))) 8 g14) 6 (upd (upd (upd f10 0 (nI 0)) 1 (nI 6)) 2 (nI 10))) 7 (upd (upd (upd f11 0 (nI 6)) 1 (nI 4)) 2 (nI 4))) 8 g14) from updsA_eq2 (F := B) (l1 := [(2, f5), (3, f6), (4, f7), (5, f8), (6, (upd (upd (upd f10 0 (nI 0)) 1 (nI 6)) 2 (nI 10))), (7, (upd (upd (upd f11 0 (nI 6)) 1 (nI 4)) 2 (nI 4))), (8, g14)]) (l2 := [(2, f5), (3, f6), (4, f7), (5, f8), (6, (upd (upd (upd f10 0 (nI 0)) 1 (nI 6)) 2 (nI 10))), (7, (upd (upd (upd f11 0 (nI 6)) 1 (nI 4)) 2 (nI 4))), (8, g14), (6, (upd (upd (upd f10 0 (nI 0)) 1 (nI 6)) 2 (nI 10))), (7, (upd (upd (upd f11 0 (nI 6)) 1 (nI 4)) 2 (nI 4))), (8, g14)]) (V := [f5, f6, f7, f8, (upd (upd (upd f10 0 (nI 0)) 1 (nI 6)) 2 (nI 10)), (upd (upd (upd f11 0 (nI 6)) 1 (nI 4)) 2 (nI 4)), g14, f5, f6, f7, f8, (upd (upd (upd f10 0 (nI 0)) 1 (nI 6)) 2 (nI 10)), (upd (upd (upd f11 0 (nI 6)) 1 (nI 4)) 2 (nI 4)), g14, (upd (upd (upd f10 0 (nI 0)) 1 (nI 6)) 2 (nI 10)), (upd (upd (upd f11 0 (nI 6)) 1 (nI 4)) 2 (nI 4)), g14]) rfl rfl) hP
  have hD : va_D A (mW G h0 a (upd (upd (upd (upd (upd F 4 (nI sz)) 13 (nI (10 + 4))) 14 (nI (2 + 1))) 13 (nI 14)) 14 (nI 3)) (updA (updA (updA (updA (updA (updA (updA (updA (updA (updA B 2 f5) 3 f6) 4 f7) 5 f8) 6 (upd (upd (upd f10 0 (nI 0)) 1 (nI 6)) 2 (nI 10))) 7 (upd (upd (upd f11 0 (nI 6)) 1 (nI 4)) 2 (nI 4))) 8 g14) 6 (upd (upd (upd f10 0 (nI 0)) 1 (nI 6)) 2 (nI 10))) 7 (upd (upd (upd f11 0 (nI 6)) 1 (nI 4)) 2 (nI 4))) 8 g14)) := mW_D hD
  refine pc_V0 (G := G) (As := [.ref (G.2.2.1 6)]) (rest := []) hx hb hml hown hq hE hX pX0_al hP hD hS hA hl.1 (R_built l G h0 a (upd (upd (upd F 4 (nI sz)) 13 (nI (10 + 4))) 14 (nI (2 + 1))) (updA (updA (updA (updA (updA (updA (updA B 2 f5) 3 f6) 4 f7) 5 f8) 6 (upd (upd (upd f10 0 (nI 0)) 1 (nI 6)) 2 (nI 10))) 7 (upd (upd (upd f11 0 (nI 6)) 1 (nI 4)) 2 (nI 4))) 8 g14) 6 4 3 14 (upd (upd (upd f10 0 (nI 0)) 1 (nI 6)) 2 (nI 10)) (upd (upd (upd f11 0 (nI 6)) 1 (nI 4)) 2 (nI 4)) g14 (by decide) (by decide +kernel) (by omega) (by omega) hR15) (gV pw_1572 pw_1573 pw_1574 pw_1523 pw_1531) hV_X12_built 0 9 rfl rfl rfl rfl (Nat.le_of_ble_eq_true rfl) dX12_cut_35 ⟨Nat.le_of_ble_eq_true rfl, Nat.le_of_ble_eq_true rfl⟩ ⟨Nat.le_of_ble_eq_true rfl, Nat.le_of_ble_eq_true rfl⟩ (fun v18 u16 H locs hw17 hP hD hS => ?_)
  obtain ⟨g19, rfl⟩ : ∃ z, z = u16 := ⟨_, rfl⟩
  obtain rfl : v18 = none := hw17
  have hP : va_P G.1 pCl (mW G h0 a (upd (upd (upd F 4 (nI sz)) 13 (nI (14 + 4))) 14 (nI (3 + 1))) (updA (updA (updA (updA (updA (updA (updA B 2 f5) 3 f6) 4 f7) 5 f8) 6 (upd (upd (upd (upd f10 0 (nI 0)) 1 (nI 6)) 2 (nI 10)) 3 (nI 14))) 7 (upd (upd (upd (upd f11 0 (nI 6)) 1 (nI 4)) 2 (nI 4)) 3 (nI 4))) 8 g19)) _ := mW_to (F := F) (l1 := [(4, (nI sz)), (13, (nI (10 + 4))), (14, (nI (2 + 1))), (13, (nI (14 + 4))), (14, (nI (3 + 1)))]) (l2 := [(4, (nI sz)), (13, (nI (14 + 4))), (14, (nI (3 + 1)))]) (V := [(nI sz), (nI (14 + 4)), (nI (3 + 1)), (nI (14 + 4)), (nI (3 + 1)), (nI sz), (nI (14 + 4)), (nI (3 + 1))]) rfl rfl (show (updA (updA (updA (updA (updA (updA (updA (updA (updA (updA B 2 f5) 3 f6) 4 f7) 5 f8) 6 (upd (upd (upd f10 0 (nI 0)) 1 (nI 6)) 2 (nI 10))) 7 (upd (upd (upd f11 0 (nI 6)) 1 (nI 4)) 2 (nI 4))) 8 g14) 6 (upd (upd (upd (upd f10 0 (nI 0)) 1 (nI 6)) 2 (nI 10)) 3 (nI 14))) 7 (upd (upd (upd (upd f11 0 (nI 6)) 1 (nI 4)) 2 (nI 4)) 3 (nI 4))) 8 g19) = (updA (updA (updA (updA (updA (updA (updA B 2 f5) 3 f6) 4 f7) 5 f8) 6 (upd (upd (upd (upd f10 0 (nI 0)) 1 (nI 6)) 2 (nI 10)) 3 (nI 14))) 7 (upd (upd (upd (upd f11 0 (nI 6)) 1 (nI 4)) 2 (nI 4)) 3 (nI 4))) 8 g19) from updsA_eq2 (F := B) (l1 := [(2, f5), (3, f6), (4, f7), (5, f8), (6, (upd (upd (upd f10 0 (nI 0)) 1 (nI 6)) 2 (nI 10))), (7, (upd (upd (upd f11 0 (nI 6)) 1 (nI 4)) 2 (nI 4))), (8, g14), (6, (upd (upd (upd (upd f10 0 (nI 0)) 1 (nI 6)) 2 (nI 10)) 3 (nI 14))), (7, (upd (upd (upd (upd f11 0 (nI 6)) 1 (nI 4)) 2 (nI 4)) 3 (nI 4))), (8, g19)]) (l2 := [(2, f5), (3, f6), (4, f7), (5, f8), (6, (upd (upd (upd (upd f10 0 (nI 0)) 1 (nI 6)) 2 (nI 10)) 3 (nI 14))), (7, (upd (upd (upd (upd f11 0 (nI 6)) 1 (nI 4)) 2 (nI 4)) 3 (nI 4))), (8, g19)]) (V := [f5, f6, f7, f8, (upd (upd (upd (upd f10 0 (nI 0)) 1 (nI 6)) 2 (nI 10)) 3 (nI 14)), (upd (upd (upd (upd f11 0 (nI 6)) 1 (nI 4)) 2 (nI 4)) 3 (nI 4)), g19, (upd (upd (upd (upd f10 0 (nI 0)) 1 (nI 6)) 2 (nI 10)) 3 (nI 14)), (upd (upd (upd (upd f11 0 (nI 6)) 1 (nI 4)) 2 (nI 4)) 3 (nI 4)), g19, f5, f6, f7, f8, (upd (upd (upd (upd f10 0 (nI 0)) 1 (nI 6)) 2 (nI 10)) 3 (nI 14)), (upd (upd (upd (upd f11 0 (nI 6)) 1 (nI 4)) 2 (nI 4)) 3 (nI 4)), g19]) rfl rfl) hP
  have hD : va_D A (mW G h0 a (upd (upd (upd F 4 (nI sz)) 13 (nI (14 + 4))) 14 (nI (3 + 1))) (updA (updA (updA (updA (updA (updA (updA B 2 f5) 3 f6) 4 f7) 5 f8) 6 (upd (upd (upd (upd f10 0 (nI 0)) 1 (nI 6)) 2 (nI 10)) 3 (nI 14))) 7 (upd (upd (upd (upd f11 0 (nI 6)) 1 (nI 4)) 2 (nI 4)) 3 (nI 4))) 8 g19)) := mW_D hD
  refine W.widen (k := 0) (n := 0) (Nat.le_of_ble_eq_true rfl) (Nat.le_of_ble_eq_true rfl) ?_
  refine W.eq (g2 := F0 m 38 ls []) rfl ?_
  have hR20 := rNm_new (len := 4) hR15 (Nat.le_refl _)
  refine lv_aload_n hx hb dX12_cut_38 rfl (lv_at hl 0 rfl) ?_
  refine pn_ldcSW (q := G.2.2.1 7) hx hb hown (hE.2.2.1 7 (by decide)) dX12_cut_39 ?_
  have hP : va_P G.1 pCl (mW G h0 a (upd (upd (upd (upd (upd F 4 (nI sz)) 13 (nI (14 + 4))) 14 (nI (3 + 1))) 13 (nI 18)) 14 (nI 4)) (updA (updA (updA (updA (updA (updA (updA (updA (updA (updA B 2 f5) 3 f6) 4 f7) 5 f8) 6 (upd (upd (upd (upd f10 0 (nI 0)) 1 (nI 6)) 2 (nI 10)) 3 (nI 14))) 7 (upd (upd (upd (upd f11 0 (nI 6)) 1 (nI 4)) 2 (nI 4)) 3 (nI 4))) 8 g19) 6 (upd (upd (upd (upd f10 0 (nI 0)) 1 (nI 6)) 2 (nI 10)) 3 (nI 14))) 7 (upd (upd (upd (upd f11 0 (nI 6)) 1 (nI 4)) 2 (nI 4)) 3 (nI 4))) 8 g19)) _ := mW_to (F := F) (l1 := [(4, (nI sz)), (13, (nI (14 + 4))), (14, (nI (3 + 1)))]) (l2 := [(4, (nI sz)), (13, (nI (14 + 4))), (14, (nI (3 + 1))), (13, (nI 18)), (14, (nI 4))]) (V := [(nI sz), (nI 18), (nI 4), (nI sz), (nI 18), (nI 4), (nI 18), (nI 4)]) rfl rfl (show (updA (updA (updA (updA (updA (updA (updA B 2 f5) 3 f6) 4 f7) 5 f8) 6 (upd (upd (upd (upd f10 0 (nI 0)) 1 (nI 6)) 2 (nI 10)) 3 (nI 14))) 7 (upd (upd (upd (upd f11 0 (nI 6)) 1 (nI 4)) 2 (nI 4)) 3 (nI 4))) 8 g19) = (updA (updA (updA (updA (updA (updA (updA (updA (updA (updA B 2 f5) 3 f6) 4 f7) 5 f8) 6 (upd (upd (upd (upd f10 0 (nI 0)) 1 (nI 6)) 2 (nI 10)) 3 (nI 14))) 7 (upd (upd (upd (upd f11 0 (nI 6)) 1 (nI 4)) 2 (nI 4)) 3 (nI 4))) 8 g19) 6 (upd (upd (upd (upd f10 0 (nI 0)) 1 (nI 6)) 2 (nI 10)) 3 (nI 14))) 7 (upd (upd (upd (upd f11 0 (nI 6)) 1 (nI 4)) 2 (nI 4)) 3 (nI 4))) 8 g19) from updsA_eq2 (F := B) (l1 := [(2, f5), (3, f6), (4, f7), (5, f8), (6, (upd (upd (upd (upd f10 0 (nI 0)) 1 (nI 6)) 2 (nI 10)) 3 (nI 14))), (7, (upd (upd (upd (upd f11 0 (nI 6)) 1 (nI 4)) 2 (nI 4)) 3 (nI 4))), (8, g19)]) (l2 := [(2, f5), (3, f6), (4, f7), (5, f8), (6, (upd (upd (upd (upd f10 0 (nI 0)) 1 (nI 6)) 2 (nI 10)) 3 (nI 14))), (7, (upd (upd (upd (upd f11 0 (nI 6)) 1 (nI 4)) 2 (nI 4)) 3 (nI 4))), (8, g19), (6, (upd (upd (upd (upd f10 0 (nI 0)) 1 (nI 6)) 2 (nI 10)) 3 (nI 14))), (7, (upd (upd (upd (upd f11 0 (nI 6)) 1 (nI 4)) 2 (nI 4)) 3 (nI 4))), (8, g19)]) (V := [f5, f6, f7, f8, (upd (upd (upd (upd f10 0 (nI 0)) 1 (nI 6)) 2 (nI 10)) 3 (nI 14)), (upd (upd (upd (upd f11 0 (nI 6)) 1 (nI 4)) 2 (nI 4)) 3 (nI 4)), g19, f5, f6, f7, f8, (upd (upd (upd (upd f10 0 (nI 0)) 1 (nI 6)) 2 (nI 10)) 3 (nI 14)), (upd (upd (upd (upd f11 0 (nI 6)) 1 (nI 4)) 2 (nI 4)) 3 (nI 4)), g19, (upd (upd (upd (upd f10 0 (nI 0)) 1 (nI 6)) 2 (nI 10)) 3 (nI 14)), (upd (upd (upd (upd f11 0 (nI 6)) 1 (nI 4)) 2 (nI 4)) 3 (nI 4)), g19]) rfl rfl) hP
  have hD : va_D A (mW G h0 a (upd (upd (upd (upd (upd F 4 (nI sz)) 13 (nI (14 + 4))) 14 (nI (3 + 1))) 13 (nI 18)) 14 (nI 4)) (updA (updA (updA (updA (updA (updA (updA (updA (updA (updA B 2 f5) 3 f6) 4 f7) 5 f8) 6 (upd (upd (upd (upd f10 0 (nI 0)) 1 (nI 6)) 2 (nI 10)) 3 (nI 14))) 7 (upd (upd (upd (upd f11 0 (nI 6)) 1 (nI 4)) 2 (nI 4)) 3 (nI 4))) 8 g19) 6 (upd (upd (upd (upd f10 0 (nI 0)) 1 (nI 6)) 2 (nI 10)) 3 (nI 14))) 7 (upd (upd (upd (upd f11 0 (nI 6)) 1 (nI 4)) 2 (nI 4)) 3 (nI 4))) 8 g19)) := mW_D hD
  refine pc_V0 (G := G) (As := [.ref (G.2.2.1 7)]) (rest := []) hx hb hml hown hq hE hX pX0_al hP hD hS hA hl.1 (R_built l G h0 a (upd (upd (upd F 4 (nI sz)) 13 (nI (14 + 4))) 14 (nI (3 + 1))) (updA (updA (updA (updA (updA (updA (updA B 2 f5) 3 f6) 4 f7) 5 f8) 6 (upd (upd (upd (upd f10 0 (nI 0)) 1 (nI 6)) 2 (nI 10)) 3 (nI 14))) 7 (upd (upd (upd (upd f11 0 (nI 6)) 1 (nI 4)) 2 (nI 4)) 3 (nI 4))) 8 g19) 7 5 4 18 (upd (upd (upd (upd f10 0 (nI 0)) 1 (nI 6)) 2 (nI 10)) 3 (nI 14)) (upd (upd (upd (upd f11 0 (nI 6)) 1 (nI 4)) 2 (nI 4)) 3 (nI 4)) g19 (by decide) (by decide +kernel) (by omega) (by omega) hR20) (gV pw_1572 pw_1573 pw_1574 pw_1523 pw_1531) hV_X12_built 0 9 rfl rfl rfl rfl (Nat.le_of_ble_eq_true rfl) dX12_cut_42 ⟨Nat.le_of_ble_eq_true rfl, Nat.le_of_ble_eq_true rfl⟩ ⟨Nat.le_of_ble_eq_true rfl, Nat.le_of_ble_eq_true rfl⟩ (fun v23 u21 H locs hw22 hP hD hS => ?_)
  obtain ⟨g24, rfl⟩ : ∃ z, z = u21 := ⟨_, rfl⟩
  obtain rfl : v23 = none := hw22
  have hP : va_P G.1 pCl (mW G h0 a (upd (upd (upd F 4 (nI sz)) 13 (nI (18 + 5))) 14 (nI (4 + 1))) (updA (updA (updA (updA (updA (updA (updA B 2 f5) 3 f6) 4 f7) 5 f8) 6 (upd (upd (upd (upd (upd f10 0 (nI 0)) 1 (nI 6)) 2 (nI 10)) 3 (nI 14)) 4 (nI 18))) 7 (upd (upd (upd (upd (upd f11 0 (nI 6)) 1 (nI 4)) 2 (nI 4)) 3 (nI 4)) 4 (nI 5))) 8 g24)) _ := mW_to (F := F) (l1 := [(4, (nI sz)), (13, (nI (14 + 4))), (14, (nI (3 + 1))), (13, (nI (18 + 5))), (14, (nI (4 + 1)))]) (l2 := [(4, (nI sz)), (13, (nI (18 + 5))), (14, (nI (4 + 1)))]) (V := [(nI sz), (nI (18 + 5)), (nI (4 + 1)), (nI (18 + 5)), (nI (4 + 1)), (nI sz), (nI (18 + 5)), (nI (4 + 1))]) rfl rfl (show (updA (updA (updA (updA (updA (updA (updA (updA (updA (updA B 2 f5) 3 f6) 4 f7) 5 f8) 6 (upd (upd (upd (upd f10 0 (nI 0)) 1 (nI 6)) 2 (nI 10)) 3 (nI 14))) 7 (upd (upd (upd (upd f11 0 (nI 6)) 1 (nI 4)) 2 (nI 4)) 3 (nI 4))) 8 g19) 6 (upd (upd (upd (upd (upd f10 0 (nI 0)) 1 (nI 6)) 2 (nI 10)) 3 (nI 14)) 4 (nI 18))) 7 (upd (upd (upd (upd (upd f11 0 (nI 6)) 1 (nI 4)) 2 (nI 4)) 3 (nI 4)) 4 (nI 5))) 8 g24) = (updA (updA (updA (updA (updA (updA (updA B 2 f5) 3 f6) 4 f7) 5 f8) 6 (upd (upd (upd (upd (upd f10 0 (nI 0)) 1 (nI 6)) 2 (nI 10)) 3 (nI 14)) 4 (nI 18))) 7 (upd (upd (upd (upd (upd f11 0 (nI 6)) 1 (nI 4)) 2 (nI 4)) 3 (nI 4)) 4 (nI 5))) 8 g24) from updsA_eq2 (F := B) (l1 := [(2, f5), (3, f6), (4, f7), (5, f8), (6, (upd (upd (upd (upd f10 0 (nI 0)) 1 (nI 6)) 2 (nI 10)) 3 (nI 14))), (7, (upd (upd (upd (upd f11 0 (nI 6)) 1 (nI 4)) 2 (nI 4)) 3 (nI 4))), (8, g19), (6, (upd (upd (upd (upd (upd f10 0 (nI 0)) 1 (nI 6)) 2 (nI 10)) 3 (nI 14)) 4 (nI 18))), (7, (upd (upd (upd (upd (upd f11 0 (nI 6)) 1 (nI 4)) 2 (nI 4)) 3 (nI 4)) 4 (nI 5))), (8, g24)]) (l2 := [(2, f5), (3, f6), (4, f7), (5, f8), (6, (upd (upd (upd (upd (upd f10 0 (nI 0)) 1 (nI 6)) 2 (nI 10)) 3 (nI 14)) 4 (nI 18))), (7, (upd (upd (upd (upd (upd f11 0 (nI 6)) 1 (nI 4)) 2 (nI 4)) 3 (nI 4)) 4 (nI 5))), (8, g24)]) (V := [f5, f6, f7, f8, (upd (upd (upd (upd (upd f10 0 (nI 0)) 1 (nI 6)) 2 (nI 10)) 3 (nI 14)) 4 (nI 18)), (upd (upd (upd (upd (upd f11 0 (nI 6)) 1 (nI 4)) 2 (nI 4)) 3 (nI 4)) 4 (nI 5)), g24, (upd (upd (upd (upd (upd f10 0 (nI 0)) 1 (nI 6)) 2 (nI 10)) 3 (nI 14)) 4 (nI 18)), (upd (upd (upd (upd (upd f11 0 (nI 6)) 1 (nI 4)) 2 (nI 4)) 3 (nI 4)) 4 (nI 5)), g24, f5, f6, f7, f8, (upd (upd (upd (upd (upd f10 0 (nI 0)) 1 (nI 6)) 2 (nI 10)) 3 (nI 14)) 4 (nI 18)), (upd (upd (upd (upd (upd f11 0 (nI 6)) 1 (nI 4)) 2 (nI 4)) 3 (nI 4)) 4 (nI 5)), g24]) rfl rfl) hP
  have hD : va_D A (mW G h0 a (upd (upd (upd F 4 (nI sz)) 13 (nI (18 + 5))) 14 (nI (4 + 1))) (updA (updA (updA (updA (updA (updA (updA B 2 f5) 3 f6) 4 f7) 5 f8) 6 (upd (upd (upd (upd (upd f10 0 (nI 0)) 1 (nI 6)) 2 (nI 10)) 3 (nI 14)) 4 (nI 18))) 7 (upd (upd (upd (upd (upd f11 0 (nI 6)) 1 (nI 4)) 2 (nI 4)) 3 (nI 4)) 4 (nI 5))) 8 g24)) := mW_D hD
  refine W.widen (k := 0) (n := 0) (Nat.le_of_ble_eq_true rfl) (Nat.le_of_ble_eq_true rfl) ?_
  refine W.eq (g2 := F0 m 45 ls []) rfl ?_
  have hR25 := rNm_new (len := 5) hR20 (Nat.le_refl _)
  refine lv_aload_n hx hb dX12_cut_45 rfl (lv_at hl 0 rfl) ?_
  refine pn_ldcSW (q := G.2.2.1 8) hx hb hown (hE.2.2.1 8 (by decide)) dX12_cut_46 ?_
  have hP : va_P G.1 pCl (mW G h0 a (upd (upd (upd (upd (upd F 4 (nI sz)) 13 (nI (18 + 5))) 14 (nI (4 + 1))) 13 (nI 23)) 14 (nI 5)) (updA (updA (updA (updA (updA (updA (updA (updA (updA (updA B 2 f5) 3 f6) 4 f7) 5 f8) 6 (upd (upd (upd (upd (upd f10 0 (nI 0)) 1 (nI 6)) 2 (nI 10)) 3 (nI 14)) 4 (nI 18))) 7 (upd (upd (upd (upd (upd f11 0 (nI 6)) 1 (nI 4)) 2 (nI 4)) 3 (nI 4)) 4 (nI 5))) 8 g24) 6 (upd (upd (upd (upd (upd f10 0 (nI 0)) 1 (nI 6)) 2 (nI 10)) 3 (nI 14)) 4 (nI 18))) 7 (upd (upd (upd (upd (upd f11 0 (nI 6)) 1 (nI 4)) 2 (nI 4)) 3 (nI 4)) 4 (nI 5))) 8 g24)) _ := mW_to (F := F) (l1 := [(4, (nI sz)), (13, (nI (18 + 5))), (14, (nI (4 + 1)))]) (l2 := [(4, (nI sz)), (13, (nI (18 + 5))), (14, (nI (4 + 1))), (13, (nI 23)), (14, (nI 5))]) (V := [(nI sz), (nI 23), (nI 5), (nI sz), (nI 23), (nI 5), (nI 23), (nI 5)]) rfl rfl (show (updA (updA (updA (updA (updA (updA (updA B 2 f5) 3 f6) 4 f7) 5 f8) 6 (upd (upd (upd (upd (upd f10 0 (nI 0)) 1 (nI 6)) 2 (nI 10)) 3 (nI 14)) 4 (nI 18))) 7 (upd (upd (upd (upd (upd f11 0 (nI 6)) 1 (nI 4)) 2 (nI 4)) 3 (nI 4)) 4 (nI 5))) 8 g24) = (updA (updA (updA (updA (updA (updA (updA (updA (updA (updA B 2 f5) 3 f6) 4 f7) 5 f8) 6 (upd (upd (upd (upd (upd f10 0 (nI 0)) 1 (nI 6)) 2 (nI 10)) 3 (nI 14)) 4 (nI 18))) 7 (upd (upd (upd (upd (upd f11 0 (nI 6)) 1 (nI 4)) 2 (nI 4)) 3 (nI 4)) 4 (nI 5))) 8 g24) 6 (upd (upd (upd (upd (upd f10 0 (nI 0)) 1 (nI 6)) 2 (nI 10)) 3 (nI 14)) 4 (nI 18))) 7 (upd (upd (upd (upd (upd f11 0 (nI 6)) 1 (nI 4)) 2 (nI 4)) 3 (nI 4)) 4 (nI 5))) 8 g24) from updsA_eq2 (F := B) (l1 := [(2, f5), (3, f6), (4, f7), (5, f8), (6, (upd (upd (upd (upd (upd f10 0 (nI 0)) 1 (nI 6)) 2 (nI 10)) 3 (nI 14)) 4 (nI 18))), (7, (upd (upd (upd (upd (upd f11 0 (nI 6)) 1 (nI 4)) 2 (nI 4)) 3 (nI 4)) 4 (nI 5))), (8, g24)]) (l2 := [(2, f5), (3, f6), (4, f7), (5, f8), (6, (upd (upd (upd (upd (upd f10 0 (nI 0)) 1 (nI 6)) 2 (nI 10)) 3 (nI 14)) 4 (nI 18))), (7, (upd (upd (upd (upd (upd f11 0 (nI 6)) 1 (nI 4)) 2 (nI 4)) 3 (nI 4)) 4 (nI 5))), (8, g24), (6, (upd (upd (upd (upd (upd f10 0 (nI 0)) 1 (nI 6)) 2 (nI 10)) 3 (nI 14)) 4 (nI 18))), (7, (upd (upd (upd (upd (upd f11 0 (nI 6)) 1 (nI 4)) 2 (nI 4)) 3 (nI 4)) 4 (nI 5))), (8, g24)]) (V := [f5, f6, f7, f8, (upd (upd (upd (upd (upd f10 0 (nI 0)) 1 (nI 6)) 2 (nI 10)) 3 (nI 14)) 4 (nI 18)), (upd (upd (upd (upd (upd f11 0 (nI 6)) 1 (nI 4)) 2 (nI 4)) 3 (nI 4)) 4 (nI 5)), g24, f5, f6, f7, f8, (upd (upd (upd (upd (upd f10 0 (nI 0)) 1 (nI 6)) 2 (nI 10)) 3 (nI 14)) 4 (nI 18)), (upd (upd (upd (upd (upd f11 0 (nI 6)) 1 (nI 4)) 2 (nI 4)) 3 (nI 4)) 4 (nI 5)), g24, (upd (upd (upd (upd (upd f10 0 (nI 0)) 1 (nI 6)) 2 (nI 10)) 3 (nI 14)) 4 (nI 18)), (upd (upd (upd (upd (upd f11 0 (nI 6)) 1 (nI 4)) 2 (nI 4)) 3 (nI 4)) 4 (nI 5)), g24]) rfl rfl) hP
  have hD : va_D A (mW G h0 a (upd (upd (upd (upd (upd F 4 (nI sz)) 13 (nI (18 + 5))) 14 (nI (4 + 1))) 13 (nI 23)) 14 (nI 5)) (updA (updA (updA (updA (updA (updA (updA (updA (updA (updA B 2 f5) 3 f6) 4 f7) 5 f8) 6 (upd (upd (upd (upd (upd f10 0 (nI 0)) 1 (nI 6)) 2 (nI 10)) 3 (nI 14)) 4 (nI 18))) 7 (upd (upd (upd (upd (upd f11 0 (nI 6)) 1 (nI 4)) 2 (nI 4)) 3 (nI 4)) 4 (nI 5))) 8 g24) 6 (upd (upd (upd (upd (upd f10 0 (nI 0)) 1 (nI 6)) 2 (nI 10)) 3 (nI 14)) 4 (nI 18))) 7 (upd (upd (upd (upd (upd f11 0 (nI 6)) 1 (nI 4)) 2 (nI 4)) 3 (nI 4)) 4 (nI 5))) 8 g24)) := mW_D hD
  refine pc_V0 (G := G) (As := [.ref (G.2.2.1 8)]) (rest := []) hx hb hml hown hq hE hX pX0_al hP hD hS hA hl.1 (R_built l G h0 a (upd (upd (upd F 4 (nI sz)) 13 (nI (18 + 5))) 14 (nI (4 + 1))) (updA (updA (updA (updA (updA (updA (updA B 2 f5) 3 f6) 4 f7) 5 f8) 6 (upd (upd (upd (upd (upd f10 0 (nI 0)) 1 (nI 6)) 2 (nI 10)) 3 (nI 14)) 4 (nI 18))) 7 (upd (upd (upd (upd (upd f11 0 (nI 6)) 1 (nI 4)) 2 (nI 4)) 3 (nI 4)) 4 (nI 5))) 8 g24) 8 5 5 23 (upd (upd (upd (upd (upd f10 0 (nI 0)) 1 (nI 6)) 2 (nI 10)) 3 (nI 14)) 4 (nI 18)) (upd (upd (upd (upd (upd f11 0 (nI 6)) 1 (nI 4)) 2 (nI 4)) 3 (nI 4)) 4 (nI 5)) g24 (by decide) (by decide +kernel) (by omega) (by omega) hR25) (gV pw_1572 pw_1573 pw_1574 pw_1523 pw_1531) hV_X12_built 0 9 rfl rfl rfl rfl (Nat.le_of_ble_eq_true rfl) dX12_cut_49 ⟨Nat.le_of_ble_eq_true rfl, Nat.le_of_ble_eq_true rfl⟩ ⟨Nat.le_of_ble_eq_true rfl, Nat.le_of_ble_eq_true rfl⟩ (fun v28 u26 H locs hw27 hP hD hS => ?_)
  obtain ⟨g29, rfl⟩ : ∃ z, z = u26 := ⟨_, rfl⟩
  obtain rfl : v28 = none := hw27
  have hP : va_P G.1 pCl (mW G h0 a (upd (upd (upd F 4 (nI sz)) 13 (nI (23 + 5))) 14 (nI (5 + 1))) (updA (updA (updA (updA (updA (updA (updA B 2 f5) 3 f6) 4 f7) 5 f8) 6 (upd (upd (upd (upd (upd (upd f10 0 (nI 0)) 1 (nI 6)) 2 (nI 10)) 3 (nI 14)) 4 (nI 18)) 5 (nI 23))) 7 (upd (upd (upd (upd (upd (upd f11 0 (nI 6)) 1 (nI 4)) 2 (nI 4)) 3 (nI 4)) 4 (nI 5)) 5 (nI 5))) 8 g29)) _ := mW_to (F := F) (l1 := [(4, (nI sz)), (13, (nI (18 + 5))), (14, (nI (4 + 1))), (13, (nI (23 + 5))), (14, (nI (5 + 1)))]) (l2 := [(4, (nI sz)), (13, (nI (23 + 5))), (14, (nI (5 + 1)))]) (V := [(nI sz), (nI (23 + 5)), (nI (5 + 1)), (nI (23 + 5)), (nI (5 + 1)), (nI sz), (nI (23 + 5)), (nI (5 + 1))]) rfl rfl (show (updA (updA (updA (updA (updA (updA (updA (updA (updA (updA B 2 f5) 3 f6) 4 f7) 5 f8) 6 (upd (upd (upd (upd (upd f10 0 (nI 0)) 1 (nI 6)) 2 (nI 10)) 3 (nI 14)) 4 (nI 18))) 7 (upd (upd (upd (upd (upd f11 0 (nI 6)) 1 (nI 4)) 2 (nI 4)) 3 (nI 4)) 4 (nI 5))) 8 g24) 6 (upd (upd (upd (upd (upd (upd f10 0 (nI 0)) 1 (nI 6)) 2 (nI 10)) 3 (nI 14)) 4 (nI 18)) 5 (nI 23))) 7 (upd (upd (upd (upd (upd (upd f11 0 (nI 6)) 1 (nI 4)) 2 (nI 4)) 3 (nI 4)) 4 (nI 5)) 5 (nI 5))) 8 g29) = (updA (updA (updA (updA (updA (updA (updA B 2 f5) 3 f6) 4 f7) 5 f8) 6 (upd (upd (upd (upd (upd (upd f10 0 (nI 0)) 1 (nI 6)) 2 (nI 10)) 3 (nI 14)) 4 (nI 18)) 5 (nI 23))) 7 (upd (upd (upd (upd (upd (upd f11 0 (nI 6)) 1 (nI 4)) 2 (nI 4)) 3 (nI 4)) 4 (nI 5)) 5 (nI 5))) 8 g29) from updsA_eq2 (F := B) (l1 := [(2, f5), (3, f6), (4, f7), (5, f8), (6, (upd (upd (upd (upd (upd f10 0 (nI 0)) 1 (nI 6)) 2 (nI 10)) 3 (nI 14)) 4 (nI 18))), (7, (upd (upd (upd (upd (upd f11 0 (nI 6)) 1 (nI 4)) 2 (nI 4)) 3 (nI 4)) 4 (nI 5))), (8, g24), (6, (upd (upd (upd (upd (upd (upd f10 0 (nI 0)) 1 (nI 6)) 2 (nI 10)) 3 (nI 14)) 4 (nI 18)) 5 (nI 23))), (7, (upd (upd (upd (upd (upd (upd f11 0 (nI 6)) 1 (nI 4)) 2 (nI 4)) 3 (nI 4)) 4 (nI 5)) 5 (nI 5))), (8, g29)]) (l2 := [(2, f5), (3, f6), (4, f7), (5, f8), (6, (upd (upd (upd (upd (upd (upd f10 0 (nI 0)) 1 (nI 6)) 2 (nI 10)) 3 (nI 14)) 4 (nI 18)) 5 (nI 23))), (7, (upd (upd (upd (upd (upd (upd f11 0 (nI 6)) 1 (nI 4)) 2 (nI 4)) 3 (nI 4)) 4 (nI 5)) 5 (nI 5))), (8, g29)]) (V := [f5, f6, f7, f8, (upd (upd (upd (upd (upd (upd f10 0 (nI 0)) 1 (nI 6)) 2 (nI 10)) 3 (nI 14)) 4 (nI 18)) 5 (nI 23)), (upd (upd (upd (upd (upd (upd f11 0 (nI 6)) 1 (nI 4)) 2 (nI 4)) 3 (nI 4)) 4 (nI 5)) 5 (nI 5)), g29, (upd (upd (upd (upd (upd (upd f10 0 (nI 0)) 1 (nI 6)) 2 (nI 10)) 3 (nI 14)) 4 (nI 18)) 5 (nI 23)), (upd (upd (upd (upd (upd (upd f11 0 (nI 6)) 1 (nI 4)) 2 (nI 4)) 3 (nI 4)) 4 (nI 5)) 5 (nI 5)), g29, f5, f6, f7, f8, (upd (upd (upd (upd (upd (upd f10 0 (nI 0)) 1 (nI 6)) 2 (nI 10)) 3 (nI 14)) 4 (nI 18)) 5 (nI 23)), (upd (upd (upd (upd (upd (upd f11 0 (nI 6)) 1 (nI 4)) 2 (nI 4)) 3 (nI 4)) 4 (nI 5)) 5 (nI 5)), g29]) rfl rfl) hP
  have hD : va_D A (mW G h0 a (upd (upd (upd F 4 (nI sz)) 13 (nI (23 + 5))) 14 (nI (5 + 1))) (updA (updA (updA (updA (updA (updA (updA B 2 f5) 3 f6) 4 f7) 5 f8) 6 (upd (upd (upd (upd (upd (upd f10 0 (nI 0)) 1 (nI 6)) 2 (nI 10)) 3 (nI 14)) 4 (nI 18)) 5 (nI 23))) 7 (upd (upd (upd (upd (upd (upd f11 0 (nI 6)) 1 (nI 4)) 2 (nI 4)) 3 (nI 4)) 4 (nI 5)) 5 (nI 5))) 8 g29)) := mW_D hD
  refine W.widen (k := 0) (n := 0) (Nat.le_of_ble_eq_true rfl) (Nat.le_of_ble_eq_true rfl) ?_
  refine W.eq (g2 := F0 m 52 ls []) rfl ?_
  have hR30 := rNm_new (len := 5) hR25 (Nat.le_refl _)
  refine lv_aload_n hx hb dX12_cut_52 rfl (lv_at hl 0 rfl) ?_
  refine pn_ldcSW (q := G.2.2.1 9) hx hb hown (hE.2.2.1 9 (by decide)) dX12_cut_53 ?_
  have hP : va_P G.1 pCl (mW G h0 a (upd (upd (upd (upd (upd F 4 (nI sz)) 13 (nI (23 + 5))) 14 (nI (5 + 1))) 13 (nI 28)) 14 (nI 6)) (updA (updA (updA (updA (updA (updA (updA (updA (updA (updA B 2 f5) 3 f6) 4 f7) 5 f8) 6 (upd (upd (upd (upd (upd (upd f10 0 (nI 0)) 1 (nI 6)) 2 (nI 10)) 3 (nI 14)) 4 (nI 18)) 5 (nI 23))) 7 (upd (upd (upd (upd (upd (upd f11 0 (nI 6)) 1 (nI 4)) 2 (nI 4)) 3 (nI 4)) 4 (nI 5)) 5 (nI 5))) 8 g29) 6 (upd (upd (upd (upd (upd (upd f10 0 (nI 0)) 1 (nI 6)) 2 (nI 10)) 3 (nI 14)) 4 (nI 18)) 5 (nI 23))) 7 (upd (upd (upd (upd (upd (upd f11 0 (nI 6)) 1 (nI 4)) 2 (nI 4)) 3 (nI 4)) 4 (nI 5)) 5 (nI 5))) 8 g29)) _ := mW_to (F := F) (l1 := [(4, (nI sz)), (13, (nI (23 + 5))), (14, (nI (5 + 1)))]) (l2 := [(4, (nI sz)), (13, (nI (23 + 5))), (14, (nI (5 + 1))), (13, (nI 28)), (14, (nI 6))]) (V := [(nI sz), (nI 28), (nI 6), (nI sz), (nI 28), (nI 6), (nI 28), (nI 6)]) rfl rfl (show (updA (updA (updA (updA (updA (updA (updA B 2 f5) 3 f6) 4 f7) 5 f8) 6 (upd (upd (upd (upd (upd (upd f10 0 (nI 0)) 1 (nI 6)) 2 (nI 10)) 3 (nI 14)) 4 (nI 18)) 5 (nI 23))) 7 (upd (upd (upd (upd (upd (upd f11 0 (nI 6)) 1 (nI 4)) 2 (nI 4)) 3 (nI 4)) 4 (nI 5)) 5 (nI 5))) 8 g29) = (updA (updA (updA (updA (updA (updA (updA (updA (updA (updA B 2 f5) 3 f6) 4 f7) 5 f8) 6 (upd (upd (upd (upd (upd (upd f10 0 (nI 0)) 1 (nI 6)) 2 (nI 10)) 3 (nI 14)) 4 (nI 18)) 5 (nI 23))) 7 (upd (upd (upd (upd (upd (upd f11 0 (nI 6)) 1 (nI 4)) 2 (nI 4)) 3 (nI 4)) 4 (nI 5)) 5 (nI 5))) 8 g29) 6 (upd (upd (upd (upd (upd (upd f10 0 (nI 0)) 1 (nI 6)) 2 (nI 10)) 3 (nI 14)) 4 (nI 18)) 5 (nI 23))) 7 (upd (upd (upd (upd (upd (upd f11 0 (nI 6)) 1 (nI 4)) 2 (nI 4)) 3 (nI 4)) 4 (nI 5)) 5 (nI 5))) 8 g29) from updsA_eq2 (F := B) (l1 := [(2, f5), (3, f6), (4, f7), (5, f8), (6, (upd (upd (upd (upd (upd (upd f10 0 (nI 0)) 1 (nI 6)) 2 (nI 10)) 3 (nI 14)) 4 (nI 18)) 5 (nI 23))), (7, (upd (upd (upd (upd (upd (upd f11 0 (nI 6)) 1 (nI 4)) 2 (nI 4)) 3 (nI 4)) 4 (nI 5)) 5 (nI 5))), (8, g29)]) (l2 := [(2, f5), (3, f6), (4, f7), (5, f8), (6, (upd (upd (upd (upd (upd (upd f10 0 (nI 0)) 1 (nI 6)) 2 (nI 10)) 3 (nI 14)) 4 (nI 18)) 5 (nI 23))), (7, (upd (upd (upd (upd (upd (upd f11 0 (nI 6)) 1 (nI 4)) 2 (nI 4)) 3 (nI 4)) 4 (nI 5)) 5 (nI 5))), (8, g29), (6, (upd (upd (upd (upd (upd (upd f10 0 (nI 0)) 1 (nI 6)) 2 (nI 10)) 3 (nI 14)) 4 (nI 18)) 5 (nI 23))), (7, (upd (upd (upd (upd (upd (upd f11 0 (nI 6)) 1 (nI 4)) 2 (nI 4)) 3 (nI 4)) 4 (nI 5)) 5 (nI 5))), (8, g29)]) (V := [f5, f6, f7, f8, (upd (upd (upd (upd (upd (upd f10 0 (nI 0)) 1 (nI 6)) 2 (nI 10)) 3 (nI 14)) 4 (nI 18)) 5 (nI 23)), (upd (upd (upd (upd (upd (upd f11 0 (nI 6)) 1 (nI 4)) 2 (nI 4)) 3 (nI 4)) 4 (nI 5)) 5 (nI 5)), g29, f5, f6, f7, f8, (upd (upd (upd (upd (upd (upd f10 0 (nI 0)) 1 (nI 6)) 2 (nI 10)) 3 (nI 14)) 4 (nI 18)) 5 (nI 23)), (upd (upd (upd (upd (upd (upd f11 0 (nI 6)) 1 (nI 4)) 2 (nI 4)) 3 (nI 4)) 4 (nI 5)) 5 (nI 5)), g29, (upd (upd (upd (upd (upd (upd f10 0 (nI 0)) 1 (nI 6)) 2 (nI 10)) 3 (nI 14)) 4 (nI 18)) 5 (nI 23)), (upd (upd (upd (upd (upd (upd f11 0 (nI 6)) 1 (nI 4)) 2 (nI 4)) 3 (nI 4)) 4 (nI 5)) 5 (nI 5)), g29]) rfl rfl) hP
  have hD : va_D A (mW G h0 a (upd (upd (upd (upd (upd F 4 (nI sz)) 13 (nI (23 + 5))) 14 (nI (5 + 1))) 13 (nI 28)) 14 (nI 6)) (updA (updA (updA (updA (updA (updA (updA (updA (updA (updA B 2 f5) 3 f6) 4 f7) 5 f8) 6 (upd (upd (upd (upd (upd (upd f10 0 (nI 0)) 1 (nI 6)) 2 (nI 10)) 3 (nI 14)) 4 (nI 18)) 5 (nI 23))) 7 (upd (upd (upd (upd (upd (upd f11 0 (nI 6)) 1 (nI 4)) 2 (nI 4)) 3 (nI 4)) 4 (nI 5)) 5 (nI 5))) 8 g29) 6 (upd (upd (upd (upd (upd (upd f10 0 (nI 0)) 1 (nI 6)) 2 (nI 10)) 3 (nI 14)) 4 (nI 18)) 5 (nI 23))) 7 (upd (upd (upd (upd (upd (upd f11 0 (nI 6)) 1 (nI 4)) 2 (nI 4)) 3 (nI 4)) 4 (nI 5)) 5 (nI 5))) 8 g29)) := mW_D hD
  refine pc_V0 (G := G) (As := [.ref (G.2.2.1 9)]) (rest := []) hx hb hml hown hq hE hX pX0_al hP hD hS hA hl.1 (R_built l G h0 a (upd (upd (upd F 4 (nI sz)) 13 (nI (23 + 5))) 14 (nI (5 + 1))) (updA (updA (updA (updA (updA (updA (updA B 2 f5) 3 f6) 4 f7) 5 f8) 6 (upd (upd (upd (upd (upd (upd f10 0 (nI 0)) 1 (nI 6)) 2 (nI 10)) 3 (nI 14)) 4 (nI 18)) 5 (nI 23))) 7 (upd (upd (upd (upd (upd (upd f11 0 (nI 6)) 1 (nI 4)) 2 (nI 4)) 3 (nI 4)) 4 (nI 5)) 5 (nI 5))) 8 g29) 9 4 6 28 (upd (upd (upd (upd (upd (upd f10 0 (nI 0)) 1 (nI 6)) 2 (nI 10)) 3 (nI 14)) 4 (nI 18)) 5 (nI 23)) (upd (upd (upd (upd (upd (upd f11 0 (nI 6)) 1 (nI 4)) 2 (nI 4)) 3 (nI 4)) 4 (nI 5)) 5 (nI 5)) g29 (by decide) (by decide +kernel) (by omega) (by omega) hR30) (gV pw_1572 pw_1573 pw_1574 pw_1523 pw_1531) hV_X12_built 0 9 rfl rfl rfl rfl (Nat.le_of_ble_eq_true rfl) dX12_cut_56 ⟨Nat.le_of_ble_eq_true rfl, Nat.le_of_ble_eq_true rfl⟩ ⟨Nat.le_of_ble_eq_true rfl, Nat.le_of_ble_eq_true rfl⟩ (fun v33 u31 H locs hw32 hP hD hS => ?_)
  obtain ⟨g34, rfl⟩ : ∃ z, z = u31 := ⟨_, rfl⟩
  obtain rfl : v33 = none := hw32
  have hP : va_P G.1 pCl (mW G h0 a (upd (upd (upd F 4 (nI sz)) 13 (nI (28 + 4))) 14 (nI (6 + 1))) (updA (updA (updA (updA (updA (updA (updA B 2 f5) 3 f6) 4 f7) 5 f8) 6 (upd (upd (upd (upd (upd (upd (upd f10 0 (nI 0)) 1 (nI 6)) 2 (nI 10)) 3 (nI 14)) 4 (nI 18)) 5 (nI 23)) 6 (nI 28))) 7 (upd (upd (upd (upd (upd (upd (upd f11 0 (nI 6)) 1 (nI 4)) 2 (nI 4)) 3 (nI 4)) 4 (nI 5)) 5 (nI 5)) 6 (nI 4))) 8 g34)) _ := mW_to (F := F) (l1 := [(4, (nI sz)), (13, (nI (23 + 5))), (14, (nI (5 + 1))), (13, (nI (28 + 4))), (14, (nI (6 + 1)))]) (l2 := [(4, (nI sz)), (13, (nI (28 + 4))), (14, (nI (6 + 1)))]) (V := [(nI sz), (nI (28 + 4)), (nI (6 + 1)), (nI (28 + 4)), (nI (6 + 1)), (nI sz), (nI (28 + 4)), (nI (6 + 1))]) rfl rfl (show (updA (updA (updA (updA (updA (updA (updA (updA (updA (updA B 2 f5) 3 f6) 4 f7) 5 f8) 6 (upd (upd (upd (upd (upd (upd f10 0 (nI 0)) 1 (nI 6)) 2 (nI 10)) 3 (nI 14)) 4 (nI 18)) 5 (nI 23))) 7 (upd (upd (upd (upd (upd (upd f11 0 (nI 6)) 1 (nI 4)) 2 (nI 4)) 3 (nI 4)) 4 (nI 5)) 5 (nI 5))) 8 g29) 6 (upd (upd (upd (upd (upd (upd (upd f10 0 (nI 0)) 1 (nI 6)) 2 (nI 10)) 3 (nI 14)) 4 (nI 18)) 5 (nI 23)) 6 (nI 28))) 7 (upd (upd (upd (upd (upd (upd (upd f11 0 (nI 6)) 1 (nI 4)) 2 (nI 4)) 3 (nI 4)) 4 (nI 5)) 5 (nI 5)) 6 (nI 4))) 8 g34) = (updA (updA (updA (updA (updA (updA (updA B 2 f5) 3 f6) 4 f7) 5 f8) 6 (upd (upd (upd (upd (upd (upd (upd f10 0 (nI 0)) 1 (nI 6)) 2 (nI 10)) 3 (nI 14)) 4 (nI 18)) 5 (nI 23)) 6 (nI 28))) 7 (upd (upd (upd (upd (upd (upd (upd f11 0 (nI 6)) 1 (nI 4)) 2 (nI 4)) 3 (nI 4)) 4 (nI 5)) 5 (nI 5)) 6 (nI 4))) 8 g34) from updsA_eq2 (F := B) (l1 := [(2, f5), (3, f6), (4, f7), (5, f8), (6, (upd (upd (upd (upd (upd (upd f10 0 (nI 0)) 1 (nI 6)) 2 (nI 10)) 3 (nI 14)) 4 (nI 18)) 5 (nI 23))), (7, (upd (upd (upd (upd (upd (upd f11 0 (nI 6)) 1 (nI 4)) 2 (nI 4)) 3 (nI 4)) 4 (nI 5)) 5 (nI 5))), (8, g29), (6, (upd (upd (upd (upd (upd (upd (upd f10 0 (nI 0)) 1 (nI 6)) 2 (nI 10)) 3 (nI 14)) 4 (nI 18)) 5 (nI 23)) 6 (nI 28))), (7, (upd (upd (upd (upd (upd (upd (upd f11 0 (nI 6)) 1 (nI 4)) 2 (nI 4)) 3 (nI 4)) 4 (nI 5)) 5 (nI 5)) 6 (nI 4))), (8, g34)]) (l2 := [(2, f5), (3, f6), (4, f7), (5, f8), (6, (upd (upd (upd (upd (upd (upd (upd f10 0 (nI 0)) 1 (nI 6)) 2 (nI 10)) 3 (nI 14)) 4 (nI 18)) 5 (nI 23)) 6 (nI 28))), (7, (upd (upd (upd (upd (upd (upd (upd f11 0 (nI 6)) 1 (nI 4)) 2 (nI 4)) 3 (nI 4)) 4 (nI 5)) 5 (nI 5)) 6 (nI 4))), (8, g34)]) (V := [f5, f6, f7, f8, (upd (upd (upd (upd (upd (upd (upd f10 0 (nI 0)) 1 (nI 6)) 2 (nI 10)) 3 (nI 14)) 4 (nI 18)) 5 (nI 23)) 6 (nI 28)), (upd (upd (upd (upd (upd (upd (upd f11 0 (nI 6)) 1 (nI 4)) 2 (nI 4)) 3 (nI 4)) 4 (nI 5)) 5 (nI 5)) 6 (nI 4)), g34, (upd (upd (upd (upd (upd (upd (upd f10 0 (nI 0)) 1 (nI 6)) 2 (nI 10)) 3 (nI 14)) 4 (nI 18)) 5 (nI 23)) 6 (nI 28)), (upd (upd (upd (upd (upd (upd (upd f11 0 (nI 6)) 1 (nI 4)) 2 (nI 4)) 3 (nI 4)) 4 (nI 5)) 5 (nI 5)) 6 (nI 4)), g34, f5, f6, f7, f8, (upd (upd (upd (upd (upd (upd (upd f10 0 (nI 0)) 1 (nI 6)) 2 (nI 10)) 3 (nI 14)) 4 (nI 18)) 5 (nI 23)) 6 (nI 28)), (upd (upd (upd (upd (upd (upd (upd f11 0 (nI 6)) 1 (nI 4)) 2 (nI 4)) 3 (nI 4)) 4 (nI 5)) 5 (nI 5)) 6 (nI 4)), g34]) rfl rfl) hP
  have hD : va_D A (mW G h0 a (upd (upd (upd F 4 (nI sz)) 13 (nI (28 + 4))) 14 (nI (6 + 1))) (updA (updA (updA (updA (updA (updA (updA B 2 f5) 3 f6) 4 f7) 5 f8) 6 (upd (upd (upd (upd (upd (upd (upd f10 0 (nI 0)) 1 (nI 6)) 2 (nI 10)) 3 (nI 14)) 4 (nI 18)) 5 (nI 23)) 6 (nI 28))) 7 (upd (upd (upd (upd (upd (upd (upd f11 0 (nI 6)) 1 (nI 4)) 2 (nI 4)) 3 (nI 4)) 4 (nI 5)) 5 (nI 5)) 6 (nI 4))) 8 g34)) := mW_D hD
  refine W.widen (k := 0) (n := 0) (Nat.le_of_ble_eq_true rfl) (Nat.le_of_ble_eq_true rfl) ?_
  refine W.eq (g2 := F0 m 59 ls []) rfl ?_
  have hR35 := rNm_new (len := 4) hR30 (Nat.le_refl _)
  refine lv_aload_n hx hb dX12_cut_59 rfl (lv_at hl 0 rfl) ?_
  refine pn_ldcSW (q := G.2.2.1 10) hx hb hown (hE.2.2.1 10 (by decide)) dX12_cut_60 ?_
  have hP : va_P G.1 pCl (mW G h0 a (upd (upd (upd (upd (upd F 4 (nI sz)) 13 (nI (28 + 4))) 14 (nI (6 + 1))) 13 (nI 32)) 14 (nI 7)) (updA (updA (updA (updA (updA (updA (updA (updA (updA (updA B 2 f5) 3 f6) 4 f7) 5 f8) 6 (upd (upd (upd (upd (upd (upd (upd f10 0 (nI 0)) 1 (nI 6)) 2 (nI 10)) 3 (nI 14)) 4 (nI 18)) 5 (nI 23)) 6 (nI 28))) 7 (upd (upd (upd (upd (upd (upd (upd f11 0 (nI 6)) 1 (nI 4)) 2 (nI 4)) 3 (nI 4)) 4 (nI 5)) 5 (nI 5)) 6 (nI 4))) 8 g34) 6 (upd (upd (upd (upd (upd (upd (upd f10 0 (nI 0)) 1 (nI 6)) 2 (nI 10)) 3 (nI 14)) 4 (nI 18)) 5 (nI 23)) 6 (nI 28))) 7 (upd (upd (upd (upd (upd (upd (upd f11 0 (nI 6)) 1 (nI 4)) 2 (nI 4)) 3 (nI 4)) 4 (nI 5)) 5 (nI 5)) 6 (nI 4))) 8 g34)) _ := mW_to (F := F) (l1 := [(4, (nI sz)), (13, (nI (28 + 4))), (14, (nI (6 + 1)))]) (l2 := [(4, (nI sz)), (13, (nI (28 + 4))), (14, (nI (6 + 1))), (13, (nI 32)), (14, (nI 7))]) (V := [(nI sz), (nI 32), (nI 7), (nI sz), (nI 32), (nI 7), (nI 32), (nI 7)]) rfl rfl (show (updA (updA (updA (updA (updA (updA (updA B 2 f5) 3 f6) 4 f7) 5 f8) 6 (upd (upd (upd (upd (upd (upd (upd f10 0 (nI 0)) 1 (nI 6)) 2 (nI 10)) 3 (nI 14)) 4 (nI 18)) 5 (nI 23)) 6 (nI 28))) 7 (upd (upd (upd (upd (upd (upd (upd f11 0 (nI 6)) 1 (nI 4)) 2 (nI 4)) 3 (nI 4)) 4 (nI 5)) 5 (nI 5)) 6 (nI 4))) 8 g34) = (updA (updA (updA (updA (updA (updA (updA (updA (updA (updA B 2 f5) 3 f6) 4 f7) 5 f8) 6 (upd (upd (upd (upd (upd (upd (upd f10 0 (nI 0)) 1 (nI 6)) 2 (nI 10)) 3 (nI 14)) 4 (nI 18)) 5 (nI 23)) 6 (nI 28))) 7 (upd (upd (upd (upd (upd (upd (upd f11 0 (nI 6)) 1 (nI 4)) 2 (nI 4)) 3 (nI 4)) 4 (nI 5)) 5 (nI 5)) 6 (nI 4))) 8 g34) 6 (upd (upd (upd (upd (upd (upd (upd f10 0 (nI 0)) 1 (nI 6)) 2 (nI 10)) 3 (nI 14)) 4 (nI 18)) 5 (nI 23)) 6 (nI 28))) 7 (upd (upd (upd (upd (upd (upd (upd f11 0 (nI 6)) 1 (nI 4)) 2 (nI 4)) 3 (nI 4)) 4 (nI 5)) 5 (nI 5)) 6 (nI 4))) 8 g34) from updsA_eq2 (F := B) (l1 := [(2, f5), (3, f6), (4, f7), (5, f8), (6, (upd (upd (upd (upd (upd (upd (upd f10 0 (nI 0)) 1 (nI 6)) 2 (nI 10)) 3 (nI 14)) 4 (nI 18)) 5 (nI 23)) 6 (nI 28))), (7, (upd (upd (upd (upd (upd (upd (upd f11 0 (nI 6)) 1 (nI 4)) 2 (nI 4)) 3 (nI 4)) 4 (nI 5)) 5 (nI 5)) 6 (nI 4))), (8, g34)]) (l2 := [(2, f5), (3, f6), (4, f7), (5, f8), (6, (upd (upd (upd (upd (upd (upd (upd f10 0 (nI 0)) 1 (nI 6)) 2 (nI 10)) 3 (nI 14)) 4 (nI 18)) 5 (nI 23)) 6 (nI 28))), (7, (upd (upd (upd (upd (upd (upd (upd f11 0 (nI 6)) 1 (nI 4)) 2 (nI 4)) 3 (nI 4)) 4 (nI 5)) 5 (nI 5)) 6 (nI 4))), (8, g34), (6, (upd (upd (upd (upd (upd (upd (upd f10 0 (nI 0)) 1 (nI 6)) 2 (nI 10)) 3 (nI 14)) 4 (nI 18)) 5 (nI 23)) 6 (nI 28))), (7, (upd (upd (upd (upd (upd (upd (upd f11 0 (nI 6)) 1 (nI 4)) 2 (nI 4)) 3 (nI 4)) 4 (nI 5)) 5 (nI 5)) 6 (nI 4))), (8, g34)]) (V := [f5, f6, f7, f8, (upd (upd (upd (upd (upd (upd (upd f10 0 (nI 0)) 1 (nI 6)) 2 (nI 10)) 3 (nI 14)) 4 (nI 18)) 5 (nI 23)) 6 (nI 28)), (upd (upd (upd (upd (upd (upd (upd f11 0 (nI 6)) 1 (nI 4)) 2 (nI 4)) 3 (nI 4)) 4 (nI 5)) 5 (nI 5)) 6 (nI 4)), g34, f5, f6, f7, f8, (upd (upd (upd (upd (upd (upd (upd f10 0 (nI 0)) 1 (nI 6)) 2 (nI 10)) 3 (nI 14)) 4 (nI 18)) 5 (nI 23)) 6 (nI 28)), (upd (upd (upd (upd (upd (upd (upd f11 0 (nI 6)) 1 (nI 4)) 2 (nI 4)) 3 (nI 4)) 4 (nI 5)) 5 (nI 5)) 6 (nI 4)), g34, (upd (upd (upd (upd (upd (upd (upd f10 0 (nI 0)) 1 (nI 6)) 2 (nI 10)) 3 (nI 14)) 4 (nI 18)) 5 (nI 23)) 6 (nI 28)), (upd (upd (upd (upd (upd (upd (upd f11 0 (nI 6)) 1 (nI 4)) 2 (nI 4)) 3 (nI 4)) 4 (nI 5)) 5 (nI 5)) 6 (nI 4)), g34]) rfl rfl) hP
  have hD : va_D A (mW G h0 a (upd (upd (upd (upd (upd F 4 (nI sz)) 13 (nI (28 + 4))) 14 (nI (6 + 1))) 13 (nI 32)) 14 (nI 7)) (updA (updA (updA (updA (updA (updA (updA (updA (updA (updA B 2 f5) 3 f6) 4 f7) 5 f8) 6 (upd (upd (upd (upd (upd (upd (upd f10 0 (nI 0)) 1 (nI 6)) 2 (nI 10)) 3 (nI 14)) 4 (nI 18)) 5 (nI 23)) 6 (nI 28))) 7 (upd (upd (upd (upd (upd (upd (upd f11 0 (nI 6)) 1 (nI 4)) 2 (nI 4)) 3 (nI 4)) 4 (nI 5)) 5 (nI 5)) 6 (nI 4))) 8 g34) 6 (upd (upd (upd (upd (upd (upd (upd f10 0 (nI 0)) 1 (nI 6)) 2 (nI 10)) 3 (nI 14)) 4 (nI 18)) 5 (nI 23)) 6 (nI 28))) 7 (upd (upd (upd (upd (upd (upd (upd f11 0 (nI 6)) 1 (nI 4)) 2 (nI 4)) 3 (nI 4)) 4 (nI 5)) 5 (nI 5)) 6 (nI 4))) 8 g34)) := mW_D hD
  refine pc_V0 (G := G) (As := [.ref (G.2.2.1 10)]) (rest := []) hx hb hml hown hq hE hX pX0_al hP hD hS hA hl.1 (R_built l G h0 a (upd (upd (upd F 4 (nI sz)) 13 (nI (28 + 4))) 14 (nI (6 + 1))) (updA (updA (updA (updA (updA (updA (updA B 2 f5) 3 f6) 4 f7) 5 f8) 6 (upd (upd (upd (upd (upd (upd (upd f10 0 (nI 0)) 1 (nI 6)) 2 (nI 10)) 3 (nI 14)) 4 (nI 18)) 5 (nI 23)) 6 (nI 28))) 7 (upd (upd (upd (upd (upd (upd (upd f11 0 (nI 6)) 1 (nI 4)) 2 (nI 4)) 3 (nI 4)) 4 (nI 5)) 5 (nI 5)) 6 (nI 4))) 8 g34) 10 4 7 32 (upd (upd (upd (upd (upd (upd (upd f10 0 (nI 0)) 1 (nI 6)) 2 (nI 10)) 3 (nI 14)) 4 (nI 18)) 5 (nI 23)) 6 (nI 28)) (upd (upd (upd (upd (upd (upd (upd f11 0 (nI 6)) 1 (nI 4)) 2 (nI 4)) 3 (nI 4)) 4 (nI 5)) 5 (nI 5)) 6 (nI 4)) g34 (by decide) (by decide +kernel) (by omega) (by omega) hR35) (gV pw_1572 pw_1573 pw_1574 pw_1523 pw_1531) hV_X12_built 0 9 rfl rfl rfl rfl (Nat.le_of_ble_eq_true rfl) dX12_cut_63 ⟨Nat.le_of_ble_eq_true rfl, Nat.le_of_ble_eq_true rfl⟩ ⟨Nat.le_of_ble_eq_true rfl, Nat.le_of_ble_eq_true rfl⟩ (fun v38 u36 H locs hw37 hP hD hS => ?_)
  obtain ⟨g39, rfl⟩ : ∃ z, z = u36 := ⟨_, rfl⟩
  obtain rfl : v38 = none := hw37
  have hP : va_P G.1 pCl (mW G h0 a (upd (upd (upd F 4 (nI sz)) 13 (nI (32 + 4))) 14 (nI (7 + 1))) (updA (updA (updA (updA (updA (updA (updA B 2 f5) 3 f6) 4 f7) 5 f8) 6 (upd (upd (upd (upd (upd (upd (upd (upd f10 0 (nI 0)) 1 (nI 6)) 2 (nI 10)) 3 (nI 14)) 4 (nI 18)) 5 (nI 23)) 6 (nI 28)) 7 (nI 32))) 7 (upd (upd (upd (upd (upd (upd (upd (upd f11 0 (nI 6)) 1 (nI 4)) 2 (nI 4)) 3 (nI 4)) 4 (nI 5)) 5 (nI 5)) 6 (nI 4)) 7 (nI 4))) 8 g39)) _ := mW_to (F := F) (l1 := [(4, (nI sz)), (13, (nI (28 + 4))), (14, (nI (6 + 1))), (13, (nI (32 + 4))), (14, (nI (7 + 1)))]) (l2 := [(4, (nI sz)), (13, (nI (32 + 4))), (14, (nI (7 + 1)))]) (V := [(nI sz), (nI (32 + 4)), (nI (7 + 1)), (nI (32 + 4)), (nI (7 + 1)), (nI sz), (nI (32 + 4)), (nI (7 + 1))]) rfl rfl (show (updA (updA (updA (updA (updA (updA (updA (updA (updA (updA B 2 f5) 3 f6) 4 f7) 5 f8) 6 (upd (upd (upd (upd (upd (upd (upd f10 0 (nI 0)) 1 (nI 6)) 2 (nI 10)) 3 (nI 14)) 4 (nI 18)) 5 (nI 23)) 6 (nI 28))) 7 (upd (upd (upd (upd (upd (upd (upd f11 0 (nI 6)) 1 (nI 4)) 2 (nI 4)) 3 (nI 4)) 4 (nI 5)) 5 (nI 5)) 6 (nI 4))) 8 g34) 6 (upd (upd (upd (upd (upd (upd (upd (upd f10 0 (nI 0)) 1 (nI 6)) 2 (nI 10)) 3 (nI 14)) 4 (nI 18)) 5 (nI 23)) 6 (nI 28)) 7 (nI 32))) 7 (upd (upd (upd (upd (upd (upd (upd (upd f11 0 (nI 6)) 1 (nI 4)) 2 (nI 4)) 3 (nI 4)) 4 (nI 5)) 5 (nI 5)) 6 (nI 4)) 7 (nI 4))) 8 g39) = (updA (updA (updA (updA (updA (updA (updA B 2 f5) 3 f6) 4 f7) 5 f8) 6 (upd (upd (upd (upd (upd (upd (upd (upd f10 0 (nI 0)) 1 (nI 6)) 2 (nI 10)) 3 (nI 14)) 4 (nI 18)) 5 (nI 23)) 6 (nI 28)) 7 (nI 32))) 7 (upd (upd (upd (upd (upd (upd (upd (upd f11 0 (nI 6)) 1 (nI 4)) 2 (nI 4)) 3 (nI 4)) 4 (nI 5)) 5 (nI 5)) 6 (nI 4)) 7 (nI 4))) 8 g39) from updsA_eq2 (F := B) (l1 := [(2, f5), (3, f6), (4, f7), (5, f8), (6, (upd (upd (upd (upd (upd (upd (upd f10 0 (nI 0)) 1 (nI 6)) 2 (nI 10)) 3 (nI 14)) 4 (nI 18)) 5 (nI 23)) 6 (nI 28))), (7, (upd (upd (upd (upd (upd (upd (upd f11 0 (nI 6)) 1 (nI 4)) 2 (nI 4)) 3 (nI 4)) 4 (nI 5)) 5 (nI 5)) 6 (nI 4))), (8, g34), (6, (upd (upd (upd (upd (upd (upd (upd (upd f10 0 (nI 0)) 1 (nI 6)) 2 (nI 10)) 3 (nI 14)) 4 (nI 18)) 5 (nI 23)) 6 (nI 28)) 7 (nI 32))), (7, (upd (upd (upd (upd (upd (upd (upd (upd f11 0 (nI 6)) 1 (nI 4)) 2 (nI 4)) 3 (nI 4)) 4 (nI 5)) 5 (nI 5)) 6 (nI 4)) 7 (nI 4))), (8, g39)]) (l2 := [(2, f5), (3, f6), (4, f7), (5, f8), (6, (upd (upd (upd (upd (upd (upd (upd (upd f10 0 (nI 0)) 1 (nI 6)) 2 (nI 10)) 3 (nI 14)) 4 (nI 18)) 5 (nI 23)) 6 (nI 28)) 7 (nI 32))), (7, (upd (upd (upd (upd (upd (upd (upd (upd f11 0 (nI 6)) 1 (nI 4)) 2 (nI 4)) 3 (nI 4)) 4 (nI 5)) 5 (nI 5)) 6 (nI 4)) 7 (nI 4))), (8, g39)]) (V := [f5, f6, f7, f8, (upd (upd (upd (upd (upd (upd (upd (upd f10 0 (nI 0)) 1 (nI 6)) 2 (nI 10)) 3 (nI 14)) 4 (nI 18)) 5 (nI 23)) 6 (nI 28)) 7 (nI 32)), (upd (upd (upd (upd (upd (upd (upd (upd f11 0 (nI 6)) 1 (nI 4)) 2 (nI 4)) 3 (nI 4)) 4 (nI 5)) 5 (nI 5)) 6 (nI 4)) 7 (nI 4)), g39, (upd (upd (upd (upd (upd (upd (upd (upd f10 0 (nI 0)) 1 (nI 6)) 2 (nI 10)) 3 (nI 14)) 4 (nI 18)) 5 (nI 23)) 6 (nI 28)) 7 (nI 32)), (upd (upd (upd (upd (upd (upd (upd (upd f11 0 (nI 6)) 1 (nI 4)) 2 (nI 4)) 3 (nI 4)) 4 (nI 5)) 5 (nI 5)) 6 (nI 4)) 7 (nI 4)), g39, f5, f6, f7, f8, (upd (upd (upd (upd (upd (upd (upd (upd f10 0 (nI 0)) 1 (nI 6)) 2 (nI 10)) 3 (nI 14)) 4 (nI 18)) 5 (nI 23)) 6 (nI 28)) 7 (nI 32)), (upd (upd (upd (upd (upd (upd (upd (upd f11 0 (nI 6)) 1 (nI 4)) 2 (nI 4)) 3 (nI 4)) 4 (nI 5)) 5 (nI 5)) 6 (nI 4)) 7 (nI 4)), g39]) rfl rfl) hP
  have hD : va_D A (mW G h0 a (upd (upd (upd F 4 (nI sz)) 13 (nI (32 + 4))) 14 (nI (7 + 1))) (updA (updA (updA (updA (updA (updA (updA B 2 f5) 3 f6) 4 f7) 5 f8) 6 (upd (upd (upd (upd (upd (upd (upd (upd f10 0 (nI 0)) 1 (nI 6)) 2 (nI 10)) 3 (nI 14)) 4 (nI 18)) 5 (nI 23)) 6 (nI 28)) 7 (nI 32))) 7 (upd (upd (upd (upd (upd (upd (upd (upd f11 0 (nI 6)) 1 (nI 4)) 2 (nI 4)) 3 (nI 4)) 4 (nI 5)) 5 (nI 5)) 6 (nI 4)) 7 (nI 4))) 8 g39)) := mW_D hD
  refine W.widen (k := 0) (n := 0) (Nat.le_of_ble_eq_true rfl) (Nat.le_of_ble_eq_true rfl) ?_
  refine W.eq (g2 := F0 m 66 ls []) rfl ?_
  have hR40 := rNm_new (len := 4) hR35 (Nat.le_refl _)
  refine lv_aload_n hx hb dX12_cut_66 rfl (lv_at hl 0 rfl) ?_
  refine pn_ldcSW (q := G.2.2.1 11) hx hb hown (hE.2.2.1 11 (by decide)) dX12_cut_67 ?_
  have hP : va_P G.1 pCl (mW G h0 a (upd (upd (upd (upd (upd F 4 (nI sz)) 13 (nI (32 + 4))) 14 (nI (7 + 1))) 13 (nI 36)) 14 (nI 8)) (updA (updA (updA (updA (updA (updA (updA (updA (updA (updA B 2 f5) 3 f6) 4 f7) 5 f8) 6 (upd (upd (upd (upd (upd (upd (upd (upd f10 0 (nI 0)) 1 (nI 6)) 2 (nI 10)) 3 (nI 14)) 4 (nI 18)) 5 (nI 23)) 6 (nI 28)) 7 (nI 32))) 7 (upd (upd (upd (upd (upd (upd (upd (upd f11 0 (nI 6)) 1 (nI 4)) 2 (nI 4)) 3 (nI 4)) 4 (nI 5)) 5 (nI 5)) 6 (nI 4)) 7 (nI 4))) 8 g39) 6 (upd (upd (upd (upd (upd (upd (upd (upd f10 0 (nI 0)) 1 (nI 6)) 2 (nI 10)) 3 (nI 14)) 4 (nI 18)) 5 (nI 23)) 6 (nI 28)) 7 (nI 32))) 7 (upd (upd (upd (upd (upd (upd (upd (upd f11 0 (nI 6)) 1 (nI 4)) 2 (nI 4)) 3 (nI 4)) 4 (nI 5)) 5 (nI 5)) 6 (nI 4)) 7 (nI 4))) 8 g39)) _ := mW_to (F := F) (l1 := [(4, (nI sz)), (13, (nI (32 + 4))), (14, (nI (7 + 1)))]) (l2 := [(4, (nI sz)), (13, (nI (32 + 4))), (14, (nI (7 + 1))), (13, (nI 36)), (14, (nI 8))]) (V := [(nI sz), (nI 36), (nI 8), (nI sz), (nI 36), (nI 8), (nI 36), (nI 8)]) rfl rfl (show (updA (updA (updA (updA (updA (updA (updA B 2 f5) 3 f6) 4 f7) 5 f8) 6 (upd (upd (upd (upd (upd (upd (upd (upd f10 0 (nI 0)) 1 (nI 6)) 2 (nI 10)) 3 (nI 14)) 4 (nI 18)) 5 (nI 23)) 6 (nI 28)) 7 (nI 32))) 7 (upd (upd (upd (upd (upd (upd (upd (upd f11 0 (nI 6)) 1 (nI 4)) 2 (nI 4)) 3 (nI 4)) 4 (nI 5)) 5 (nI 5)) 6 (nI 4)) 7 (nI 4))) 8 g39) = (updA (updA (updA (updA (updA (updA (updA (updA (updA (updA B 2 f5) 3 f6) 4 f7) 5 f8) 6 (upd (upd (upd (upd (upd (upd (upd (upd f10 0 (nI 0)) 1 (nI 6)) 2 (nI 10)) 3 (nI 14)) 4 (nI 18)) 5 (nI 23)) 6 (nI 28)) 7 (nI 32))) 7 (upd (upd (upd (upd (upd (upd (upd (upd f11 0 (nI 6)) 1 (nI 4)) 2 (nI 4)) 3 (nI 4)) 4 (nI 5)) 5 (nI 5)) 6 (nI 4)) 7 (nI 4))) 8 g39) 6 (upd (upd (upd (upd (upd (upd (upd (upd f10 0 (nI 0)) 1 (nI 6)) 2 (nI 10)) 3 (nI 14)) 4 (nI 18)) 5 (nI 23)) 6 (nI 28)) 7 (nI 32))) 7 (upd (upd (upd (upd (upd (upd (upd (upd f11 0 (nI 6)) 1 (nI 4)) 2 (nI 4)) 3 (nI 4)) 4 (nI 5)) 5 (nI 5)) 6 (nI 4)) 7 (nI 4))) 8 g39) from updsA_eq2 (F := B) (l1 := [(2, f5), (3, f6), (4, f7), (5, f8), (6, (upd (upd (upd (upd (upd (upd (upd (upd f10 0 (nI 0)) 1 (nI 6)) 2 (nI 10)) 3 (nI 14)) 4 (nI 18)) 5 (nI 23)) 6 (nI 28)) 7 (nI 32))), (7, (upd (upd (upd (upd (upd (upd (upd (upd f11 0 (nI 6)) 1 (nI 4)) 2 (nI 4)) 3 (nI 4)) 4 (nI 5)) 5 (nI 5)) 6 (nI 4)) 7 (nI 4))), (8, g39)]) (l2 := [(2, f5), (3, f6), (4, f7), (5, f8), (6, (upd (upd (upd (upd (upd (upd (upd (upd f10 0 (nI 0)) 1 (nI 6)) 2 (nI 10)) 3 (nI 14)) 4 (nI 18)) 5 (nI 23)) 6 (nI 28)) 7 (nI 32))), (7, (upd (upd (upd (upd (upd (upd (upd (upd f11 0 (nI 6)) 1 (nI 4)) 2 (nI 4)) 3 (nI 4)) 4 (nI 5)) 5 (nI 5)) 6 (nI 4)) 7 (nI 4))), (8, g39), (6, (upd (upd (upd (upd (upd (upd (upd (upd f10 0 (nI 0)) 1 (nI 6)) 2 (nI 10)) 3 (nI 14)) 4 (nI 18)) 5 (nI 23)) 6 (nI 28)) 7 (nI 32))), (7, (upd (upd (upd (upd (upd (upd (upd (upd f11 0 (nI 6)) 1 (nI 4)) 2 (nI 4)) 3 (nI 4)) 4 (nI 5)) 5 (nI 5)) 6 (nI 4)) 7 (nI 4))), (8, g39)]) (V := [f5, f6, f7, f8, (upd (upd (upd (upd (upd (upd (upd (upd f10 0 (nI 0)) 1 (nI 6)) 2 (nI 10)) 3 (nI 14)) 4 (nI 18)) 5 (nI 23)) 6 (nI 28)) 7 (nI 32)), (upd (upd (upd (upd (upd (upd (upd (upd f11 0 (nI 6)) 1 (nI 4)) 2 (nI 4)) 3 (nI 4)) 4 (nI 5)) 5 (nI 5)) 6 (nI 4)) 7 (nI 4)), g39, f5, f6, f7, f8, (upd (upd (upd (upd (upd (upd (upd (upd f10 0 (nI 0)) 1 (nI 6)) 2 (nI 10)) 3 (nI 14)) 4 (nI 18)) 5 (nI 23)) 6 (nI 28)) 7 (nI 32)), (upd (upd (upd (upd (upd (upd (upd (upd f11 0 (nI 6)) 1 (nI 4)) 2 (nI 4)) 3 (nI 4)) 4 (nI 5)) 5 (nI 5)) 6 (nI 4)) 7 (nI 4)), g39, (upd (upd (upd (upd (upd (upd (upd (upd f10 0 (nI 0)) 1 (nI 6)) 2 (nI 10)) 3 (nI 14)) 4 (nI 18)) 5 (nI 23)) 6 (nI 28)) 7 (nI 32)), (upd (upd (upd (upd (upd (upd (upd (upd f11 0 (nI 6)) 1 (nI 4)) 2 (nI 4)) 3 (nI 4)) 4 (nI 5)) 5 (nI 5)) 6 (nI 4)) 7 (nI 4)), g39]) rfl rfl) hP
  have hD : va_D A (mW G h0 a (upd (upd (upd (upd (upd F 4 (nI sz)) 13 (nI (32 + 4))) 14 (nI (7 + 1))) 13 (nI 36)) 14 (nI 8)) (updA (updA (updA (updA (updA (updA (updA (updA (updA (updA B 2 f5) 3 f6) 4 f7) 5 f8) 6 (upd (upd (upd (upd (upd (upd (upd (upd f10 0 (nI 0)) 1 (nI 6)) 2 (nI 10)) 3 (nI 14)) 4 (nI 18)) 5 (nI 23)) 6 (nI 28)) 7 (nI 32))) 7 (upd (upd (upd (upd (upd (upd (upd (upd f11 0 (nI 6)) 1 (nI 4)) 2 (nI 4)) 3 (nI 4)) 4 (nI 5)) 5 (nI 5)) 6 (nI 4)) 7 (nI 4))) 8 g39) 6 (upd (upd (upd (upd (upd (upd (upd (upd f10 0 (nI 0)) 1 (nI 6)) 2 (nI 10)) 3 (nI 14)) 4 (nI 18)) 5 (nI 23)) 6 (nI 28)) 7 (nI 32))) 7 (upd (upd (upd (upd (upd (upd (upd (upd f11 0 (nI 6)) 1 (nI 4)) 2 (nI 4)) 3 (nI 4)) 4 (nI 5)) 5 (nI 5)) 6 (nI 4)) 7 (nI 4))) 8 g39)) := mW_D hD
  refine pc_V0 (G := G) (As := [.ref (G.2.2.1 11)]) (rest := []) hx hb hml hown hq hE hX pX0_al hP hD hS hA hl.1 (R_built l G h0 a (upd (upd (upd F 4 (nI sz)) 13 (nI (32 + 4))) 14 (nI (7 + 1))) (updA (updA (updA (updA (updA (updA (updA B 2 f5) 3 f6) 4 f7) 5 f8) 6 (upd (upd (upd (upd (upd (upd (upd (upd f10 0 (nI 0)) 1 (nI 6)) 2 (nI 10)) 3 (nI 14)) 4 (nI 18)) 5 (nI 23)) 6 (nI 28)) 7 (nI 32))) 7 (upd (upd (upd (upd (upd (upd (upd (upd f11 0 (nI 6)) 1 (nI 4)) 2 (nI 4)) 3 (nI 4)) 4 (nI 5)) 5 (nI 5)) 6 (nI 4)) 7 (nI 4))) 8 g39) 11 4 8 36 (upd (upd (upd (upd (upd (upd (upd (upd f10 0 (nI 0)) 1 (nI 6)) 2 (nI 10)) 3 (nI 14)) 4 (nI 18)) 5 (nI 23)) 6 (nI 28)) 7 (nI 32)) (upd (upd (upd (upd (upd (upd (upd (upd f11 0 (nI 6)) 1 (nI 4)) 2 (nI 4)) 3 (nI 4)) 4 (nI 5)) 5 (nI 5)) 6 (nI 4)) 7 (nI 4)) g39 (by decide) (by decide +kernel) (by omega) (by omega) hR40) (gV pw_1572 pw_1573 pw_1574 pw_1523 pw_1531) hV_X12_built 0 9 rfl rfl rfl rfl (Nat.le_of_ble_eq_true rfl) dX12_cut_70 ⟨Nat.le_of_ble_eq_true rfl, Nat.le_of_ble_eq_true rfl⟩ ⟨Nat.le_of_ble_eq_true rfl, Nat.le_of_ble_eq_true rfl⟩ (fun v43 u41 H locs hw42 hP hD hS => ?_)
  obtain ⟨g44, rfl⟩ : ∃ z, z = u41 := ⟨_, rfl⟩
  obtain rfl : v43 = none := hw42
  have hP : va_P G.1 pCl (mW G h0 a (upd (upd (upd F 4 (nI sz)) 13 (nI (36 + 4))) 14 (nI (8 + 1))) (updA (updA (updA (updA (updA (updA (updA B 2 f5) 3 f6) 4 f7) 5 f8) 6 (upd (upd (upd (upd (upd (upd (upd (upd (upd f10 0 (nI 0)) 1 (nI 6)) 2 (nI 10)) 3 (nI 14)) 4 (nI 18)) 5 (nI 23)) 6 (nI 28)) 7 (nI 32)) 8 (nI 36))) 7 (upd (upd (upd (upd (upd (upd (upd (upd (upd f11 0 (nI 6)) 1 (nI 4)) 2 (nI 4)) 3 (nI 4)) 4 (nI 5)) 5 (nI 5)) 6 (nI 4)) 7 (nI 4)) 8 (nI 4))) 8 g44)) _ := mW_to (F := F) (l1 := [(4, (nI sz)), (13, (nI (32 + 4))), (14, (nI (7 + 1))), (13, (nI (36 + 4))), (14, (nI (8 + 1)))]) (l2 := [(4, (nI sz)), (13, (nI (36 + 4))), (14, (nI (8 + 1)))]) (V := [(nI sz), (nI (36 + 4)), (nI (8 + 1)), (nI (36 + 4)), (nI (8 + 1)), (nI sz), (nI (36 + 4)), (nI (8 + 1))]) rfl rfl (show (updA (updA (updA (updA (updA (updA (updA (updA (updA (updA B 2 f5) 3 f6) 4 f7) 5 f8) 6 (upd (upd (upd (upd (upd (upd (upd (upd f10 0 (nI 0)) 1 (nI 6)) 2 (nI 10)) 3 (nI 14)) 4 (nI 18)) 5 (nI 23)) 6 (nI 28)) 7 (nI 32))) 7 (upd (upd (upd (upd (upd (upd (upd (upd f11 0 (nI 6)) 1 (nI 4)) 2 (nI 4)) 3 (nI 4)) 4 (nI 5)) 5 (nI 5)) 6 (nI 4)) 7 (nI 4))) 8 g39) 6 (upd (upd (upd (upd (upd (upd (upd (upd (upd f10 0 (nI 0)) 1 (nI 6)) 2 (nI 10)) 3 (nI 14)) 4 (nI 18)) 5 (nI 23)) 6 (nI 28)) 7 (nI 32)) 8 (nI 36))) 7 (upd (upd (upd (upd (upd (upd (upd (upd (upd f11 0 (nI 6)) 1 (nI 4)) 2 (nI 4)) 3 (nI 4)) 4 (nI 5)) 5 (nI 5)) 6 (nI 4)) 7 (nI 4)) 8 (nI 4))) 8 g44) = (updA (updA (updA (updA (updA (updA (updA B 2 f5) 3 f6) 4 f7) 5 f8) 6 (upd (upd (upd (upd (upd (upd (upd (upd (upd f10 0 (nI 0)) 1 (nI 6)) 2 (nI 10)) 3 (nI 14)) 4 (nI 18)) 5 (nI 23)) 6 (nI 28)) 7 (nI 32)) 8 (nI 36))) 7 (upd (upd (upd (upd (upd (upd (upd (upd (upd f11 0 (nI 6)) 1 (nI 4)) 2 (nI 4)) 3 (nI 4)) 4 (nI 5)) 5 (nI 5)) 6 (nI 4)) 7 (nI 4)) 8 (nI 4))) 8 g44) from updsA_eq2 (F := B) (l1 := [(2, f5), (3, f6), (4, f7), (5, f8), (6, (upd (upd (upd (upd (upd (upd (upd (upd f10 0 (nI 0)) 1 (nI 6)) 2 (nI 10)) 3 (nI 14)) 4 (nI 18)) 5 (nI 23)) 6 (nI 28)) 7 (nI 32))), (7, (upd (upd (upd (upd (upd (upd (upd (upd f11 0 (nI 6)) 1 (nI 4)) 2 (nI 4)) 3 (nI 4)) 4 (nI 5)) 5 (nI 5)) 6 (nI 4)) 7 (nI 4))), (8, g39), (6, (upd (upd (upd (upd (upd (upd (upd (upd (upd f10 0 (nI 0)) 1 (nI 6)) 2 (nI 10)) 3 (nI 14)) 4 (nI 18)) 5 (nI 23)) 6 (nI 28)) 7 (nI 32)) 8 (nI 36))), (7, (upd (upd (upd (upd (upd (upd (upd (upd (upd f11 0 (nI 6)) 1 (nI 4)) 2 (nI 4)) 3 (nI 4)) 4 (nI 5)) 5 (nI 5)) 6 (nI 4)) 7 (nI 4)) 8 (nI 4))), (8, g44)]) (l2 := [(2, f5), (3, f6), (4, f7), (5, f8), (6, (upd (upd (upd (upd (upd (upd (upd (upd (upd f10 0 (nI 0)) 1 (nI 6)) 2 (nI 10)) 3 (nI 14)) 4 (nI 18)) 5 (nI 23)) 6 (nI 28)) 7 (nI 32)) 8 (nI 36))), (7, (upd (upd (upd (upd (upd (upd (upd (upd (upd f11 0 (nI 6)) 1 (nI 4)) 2 (nI 4)) 3 (nI 4)) 4 (nI 5)) 5 (nI 5)) 6 (nI 4)) 7 (nI 4)) 8 (nI 4))), (8, g44)]) (V := [f5, f6, f7, f8, (upd (upd (upd (upd (upd (upd (upd (upd (upd f10 0 (nI 0)) 1 (nI 6)) 2 (nI 10)) 3 (nI 14)) 4 (nI 18)) 5 (nI 23)) 6 (nI 28)) 7 (nI 32)) 8 (nI 36)), (upd (upd (upd (upd (upd (upd (upd (upd (upd f11 0 (nI 6)) 1 (nI 4)) 2 (nI 4)) 3 (nI 4)) 4 (nI 5)) 5 (nI 5)) 6 (nI 4)) 7 (nI 4)) 8 (nI 4)), g44, (upd (upd (upd (upd (upd (upd (upd (upd (upd f10 0 (nI 0)) 1 (nI 6)) 2 (nI 10)) 3 (nI 14)) 4 (nI 18)) 5 (nI 23)) 6 (nI 28)) 7 (nI 32)) 8 (nI 36)), (upd (upd (upd (upd (upd (upd (upd (upd (upd f11 0 (nI 6)) 1 (nI 4)) 2 (nI 4)) 3 (nI 4)) 4 (nI 5)) 5 (nI 5)) 6 (nI 4)) 7 (nI 4)) 8 (nI 4)), g44, f5, f6, f7, f8, (upd (upd (upd (upd (upd (upd (upd (upd (upd f10 0 (nI 0)) 1 (nI 6)) 2 (nI 10)) 3 (nI 14)) 4 (nI 18)) 5 (nI 23)) 6 (nI 28)) 7 (nI 32)) 8 (nI 36)), (upd (upd (upd (upd (upd (upd (upd (upd (upd f11 0 (nI 6)) 1 (nI 4)) 2 (nI 4)) 3 (nI 4)) 4 (nI 5)) 5 (nI 5)) 6 (nI 4)) 7 (nI 4)) 8 (nI 4)), g44]) rfl rfl) hP
  have hD : va_D A (mW G h0 a (upd (upd (upd F 4 (nI sz)) 13 (nI (36 + 4))) 14 (nI (8 + 1))) (updA (updA (updA (updA (updA (updA (updA B 2 f5) 3 f6) 4 f7) 5 f8) 6 (upd (upd (upd (upd (upd (upd (upd (upd (upd f10 0 (nI 0)) 1 (nI 6)) 2 (nI 10)) 3 (nI 14)) 4 (nI 18)) 5 (nI 23)) 6 (nI 28)) 7 (nI 32)) 8 (nI 36))) 7 (upd (upd (upd (upd (upd (upd (upd (upd (upd f11 0 (nI 6)) 1 (nI 4)) 2 (nI 4)) 3 (nI 4)) 4 (nI 5)) 5 (nI 5)) 6 (nI 4)) 7 (nI 4)) 8 (nI 4))) 8 g44)) := mW_D hD
  refine W.widen (k := 0) (n := 0) (Nat.le_of_ble_eq_true rfl) (Nat.le_of_ble_eq_true rfl) ?_
  refine W.eq (g2 := F0 m 73 ls []) rfl ?_
  have hR45 := rNm_new (len := 4) hR40 (Nat.le_refl _)
  refine lv_aload_n hx hb dX12_cut_73 rfl (lv_at hl 0 rfl) ?_
  refine lv_iconst (v := 0) hx hb dX12_cut_74 (by decide) ?_
  refine r_put (v := 0) (ty := .int) hx hb hown hq hE hP hD hS 9 314 tFX12_9 (by decide) pw_1568 (by decide) rfl rfl (ms_9 a _ _) dX12_cut_75 (fun H locs hP hD hS => ?_)
  refine lv_iconst (v := 0) hx hb dX12_cut_78 (by decide) ?_
  refine lv_istore_n (lv' := [(1, .int 0), (0, .ref h0)]) hx hb dX12_cut_79 rfl hl (by decide) rfl (fun ls hl => ?_)
  refine lv_iconst (v := 1) hx hb dX12_cut_80 (by decide) ?_
  refine lv_istore_n (lv' := [(2, .int 1), (1, .int 0), (0, .ref h0)]) hx hb dX12_cut_81 rfl hl (by decide) rfl (fun ls hl => ?_)
  have loop_o : ∀ (n_o : Nat) (kz : Nat) (i : Nat) (T : Nat) (nm : Nat) (us : Nat) (mo : Int32) (g10 : Nat → Int32) (g11 : Nat → Int32) (g12 : Nat → Int32) (g5 : Nat → Int32) (g6 : Nat → Int32) (g7 : Nat → Int32) (g8 : Nat → Int32) (H : Heap) (locs : List Loc) (ls : Array Slot), kz ≤ (sz + 1) → (sz + 1) + 1 ≤ kz + n_o → ((mo = 1 ∧ kz = i) ∨ (mo = 0 ∧ kz = i + 1)) → (i ≤ sz) → (T ≤ i) → (nm ≤ 9 + i) → (us ≤ 40 + i) → (mo = 0 → g5 T = 0 ∨ g5 T = 3) → (rNm nm us g10 g11) → (rTk T nm g5 g8) → (9 ≤ nm) → va_P G.1 pCl (mW G h0 a (upd (upd (upd (upd F 4 (nI sz)) 9 (nI T)) 13 (nI us)) 14 (nI nm)) (updA (updA (updA (updA (updA (updA (updA B 2 g5) 3 g6) 4 g7) 5 g8) 6 g10) 7 g11) 8 g12)) H → va_D A (mW G h0 a (upd (upd (upd (upd F 4 (nI sz)) 9 (nI T)) 13 (nI us)) 14 (nI nm)) (updA (updA (updA (updA (updA (updA (updA B 2 g5) 3 g6) 4 g7) 5 g8) 6 g10) 7 g11) 8 g12)) → va_S A s.heap H locs → lv_has ls 9 [(1, .int (nI i)), (2, .int mo), (0, .ref h0)] → W p l e (headSpec (Cond.code yX12_cut cX12_cut 9 none :: pw) ({ frames := 7, cells := 0, slots := 0, locals := 174 } : Room)).room s m ([.ref h0] : List Value).toArray below meth c H locs 0 0 (MQ below (pQ G A (fun (v : Option Value) (u : Nat × Nat × Nat × (Nat → Int32) × (Nat → Int32) × (Nat → Int32) × (Nat → Int32) × (Nat → Int32) × (Nat → Int32) × (Nat → Int32)) => v = none ∧ (u.1 ≤ sz) ∧ (u.2.2.2.2.2.2.1 u.1 = 0 ∨ u.2.2.2.2.2.2.1 u.1 = 3) ∧ (rNm u.2.1 u.2.2.1 u.2.2.2.1 u.2.2.2.2.1) ∧ (u.2.1 ≤ 9 + sz) ∧ (u.2.2.1 ≤ 40 + sz) ∧ (rTk u.1 u.2.1 u.2.2.2.2.2.2.1 u.2.2.2.2.2.2.2.2.2) ∧ (9 ≤ u.2.1)) (fun u => (mW G h0 a (upd (upd (upd (upd F 4 (nI sz)) 9 (nI u.1)) 13 (nI u.2.2.1)) 14 (nI u.2.1)) (updA (updA (updA (updA (updA (updA (updA B 2 u.2.2.2.2.2.2.1) 3 u.2.2.2.2.2.2.2.1) 4 u.2.2.2.2.2.2.2.2.1) 5 u.2.2.2.2.2.2.2.2.2) 6 u.2.2.2.1) 7 u.2.2.2.2.1) 8 u.2.2.2.2.2.1)))) ([.ref h0] : List Value).toArray s ({ frames := 7, cells := 0, slots := 0, locals := 174 } : Room).cells ({ frames := 7, cells := 0, slots := 0, locals := 174 } : Room).slots A) (F0 m 82 ls []) := by
    intro n_o
    induction n_o with
    | zero => intro kz i T nm us mo g10 g11 g12 g5 g6 g7 g8 H locs ls hk_o hn_o; omega
    | succ n_o ih_o =>
      intro kz i T nm us mo g10 g11 g12 g5 g6 g7 g8 H locs ls hk_o hn_o hmo hi hTi hnm hus hend hR hTk hn9 hP hD hS hl
      refine lv_iload_n hx hb dX12_cut_82 rfl (lv_at hl 1 rfl) ?_
      refine lv_if_eq (tgt := 554) hx hb dX12_cut_83 (by decide) (fun c46 => ?_) (fun c46 => ?_)
      · have hmo0 : mo = 0 := c46
        have hz47 : T ≤ sz := (by omega)
        have hz48 : g5 T = 0 ∨ g5 T = 3 := (hend hmo0)
        have hz49 : rNm nm us g10 g11 := hR
        have hz50 : nm ≤ 9 + sz := (by omega)
        have hz51 : us ≤ 40 + sz := (by omega)
        have hz52 : rTk T nm g5 g8 := hTk
        have hz53 : 9 ≤ nm := hn9
        have hP : va_P G.1 pCl (mW G h0 a (upd (upd (upd (upd F 4 (nI sz)) 9 (nI T)) 13 (nI us)) 14 (nI nm)) (updA (updA (updA (updA (updA (updA (updA B 2 g5) 3 g6) 4 g7) 5 g8) 6 g10) 7 g11) 8 g12)) _ := hP
        have hD : va_D A (mW G h0 a (upd (upd (upd (upd F 4 (nI sz)) 9 (nI T)) 13 (nI us)) 14 (nI nm)) (updA (updA (updA (updA (updA (updA (updA B 2 g5) 3 g6) 4 g7) 5 g8) 6 g10) 7 g11) 8 g12)) := mW_D hD
        exact W.vret hx hb hr (fun t9 ht9 hW9 => ⟨⟨_, (T, nm, us, g10, g11, g12, g5, g6, g7, g8), rfl, ⟨rfl, hz47, hz48, hz49, hz50, hz51, hz52, hz53⟩, by rw [ht9]; exact hP, hD⟩, hS.F ht9⟩) hS.2.2 dX12_cut_554
      · obtain ⟨rfl, hkz⟩ : mo = 1 ∧ kz = i := hmo.resolve_right (fun h9 => c46 h9.1)
        have loop_b : ∀ (n_b : Nat) (i1 : Nat) (H : Heap) (locs : List Loc) (ls : Array Slot), i1 ≤ sz → sz + 1 ≤ i1 + n_b → (i ≤ i1) → va_P G.1 pCl (mW G h0 a (upd (upd (upd (upd F 4 (nI sz)) 9 (nI T)) 13 (nI us)) 14 (nI nm)) (updA (updA (updA (updA (updA (updA (updA B 2 g5) 3 g6) 4 g7) 5 g8) 6 g10) 7 g11) 8 g12)) H → va_D A (mW G h0 a (upd (upd (upd (upd F 4 (nI sz)) 9 (nI T)) 13 (nI us)) 14 (nI nm)) (updA (updA (updA (updA (updA (updA (updA B 2 g5) 3 g6) 4 g7) 5 g8) 6 g10) 7 g11) 8 g12)) → va_S A s.heap H locs → lv_has ls 9 [(1, .int (nI i1)), (2, .int 1), (0, .ref h0)] → W p l e (headSpec (Cond.code yX12_cut cX12_cut 9 none :: pw) ({ frames := 7, cells := 0, slots := 0, locals := 174 } : Room)).room s m ([.ref h0] : List Value).toArray below meth c H locs 0 0 (MQ below (pQ G A (fun (v : Option Value) (u : Nat × Nat × Nat × (Nat → Int32) × (Nat → Int32) × (Nat → Int32) × (Nat → Int32) × (Nat → Int32) × (Nat → Int32) × (Nat → Int32)) => v = none ∧ (u.1 ≤ sz) ∧ (u.2.2.2.2.2.2.1 u.1 = 0 ∨ u.2.2.2.2.2.2.1 u.1 = 3) ∧ (rNm u.2.1 u.2.2.1 u.2.2.2.1 u.2.2.2.2.1) ∧ (u.2.1 ≤ 9 + sz) ∧ (u.2.2.1 ≤ 40 + sz) ∧ (rTk u.1 u.2.1 u.2.2.2.2.2.2.1 u.2.2.2.2.2.2.2.2.2) ∧ (9 ≤ u.2.1)) (fun u => (mW G h0 a (upd (upd (upd (upd F 4 (nI sz)) 9 (nI u.1)) 13 (nI u.2.2.1)) 14 (nI u.2.1)) (updA (updA (updA (updA (updA (updA (updA B 2 u.2.2.2.2.2.2.1) 3 u.2.2.2.2.2.2.2.1) 4 u.2.2.2.2.2.2.2.2.1) 5 u.2.2.2.2.2.2.2.2.2) 6 u.2.2.2.1) 7 u.2.2.2.2.1) 8 u.2.2.2.2.2.1)))) ([.ref h0] : List Value).toArray s ({ frames := 7, cells := 0, slots := 0, locals := 174 } : Room).cells ({ frames := 7, cells := 0, slots := 0, locals := 174 } : Room).slots A) (F0 m 86 ls []) := by
          intro n_b
          induction n_b with
          | zero => intro i1 H locs ls hk_b hn_b; omega
          | succ n_b ih_b =>
            intro i1 H locs ls hk_b hn_b hi1 hP hD hS hl
            refine lv_aload_n hx hb dX12_cut_86 rfl (lv_at hl 2 rfl) ?_
            refine lv_iload_n hx hb dX12_cut_87 rfl (lv_at hl 0 rfl) ?_
            have hP : va_P G.1 pCl (mW G h0 a (upd (upd (upd (upd (upd F 4 (nI sz)) 9 (nI T)) 13 (nI us)) 14 (nI nm)) 4 (nI sz)) (updA (updA (updA (updA (updA (updA (updA B 2 g5) 3 g6) 4 g7) 5 g8) 6 g10) 7 g11) 8 g12)) _ := mW_to (F := F) (l1 := [(4, (nI sz)), (9, (nI T)), (13, (nI us)), (14, (nI nm))]) (l2 := [(4, (nI sz)), (9, (nI T)), (13, (nI us)), (14, (nI nm)), (4, (nI sz))]) (V := [(nI sz), (nI T), (nI us), (nI nm), (nI sz), (nI T), (nI us), (nI nm), (nI sz)]) rfl rfl rfl hP
            have hD : va_D A (mW G h0 a (upd (upd (upd (upd (upd F 4 (nI sz)) 9 (nI T)) 13 (nI us)) 14 (nI nm)) 4 (nI sz)) (updA (updA (updA (updA (updA (updA (updA B 2 g5) 3 g6) 4 g7) 5 g8) 6 g10) 7 g11) 8 g12)) := mW_D hD
            refine pc_V0 (G := G) (As := [.int (nI i1)]) (rest := []) hx hb hml hown hq hE hX pX0_al hP hD hS hA hl.1 (R_ch l G h0 a (upd (upd (upd (upd F 4 (nI sz)) 9 (nI T)) 13 (nI us)) 14 (nI nm)) (updA (updA (updA (updA (updA (updA (updA B 2 g5) 3 g6) 4 g7) 5 g8) 6 g10) 7 g11) 8 g12) i1 sz (by omega) (by omega)) (gV pw_1561 pw_1562 pw_1563 pw_1523 pw_1518) hV_X12_ch 0 9 rfl rfl rfl rfl (Nat.le_of_ble_eq_true rfl) dX12_cut_88 ⟨Nat.le_of_ble_eq_true rfl, Nat.le_of_ble_eq_true rfl⟩ ⟨Nat.le_of_ble_eq_true rfl, Nat.le_of_ble_eq_true rfl⟩ (fun v56 u54 H locs hw55 hP hD hS => ?_)
            obtain ⟨r57, rfl⟩ : ∃ z, z = u54 := ⟨_, rfl⟩
            obtain ⟨hw55, h58⟩ := hw55
            have h58 : r57 = (-1) ∨ i1 < sz ∧ r57 = (B 1) i1 := h58
            obtain rfl : v56 = some (.int r57) := hw55
            have hP : va_P G.1 pCl (mW G h0 a (upd (upd (upd (upd F 4 (nI sz)) 9 (nI T)) 13 (nI us)) 14 (nI nm)) (updA (updA (updA (updA (updA (updA (updA B 2 g5) 3 g6) 4 g7) 5 g8) 6 g10) 7 g11) 8 g12)) _ := mW_to (F := F) (l1 := [(4, (nI sz)), (9, (nI T)), (13, (nI us)), (14, (nI nm)), (4, (nI sz))]) (l2 := [(4, (nI sz)), (9, (nI T)), (13, (nI us)), (14, (nI nm))]) (V := [(nI sz), (nI T), (nI us), (nI nm), (nI sz), (nI sz), (nI T), (nI us), (nI nm)]) rfl rfl rfl hP
            have hD : va_D A (mW G h0 a (upd (upd (upd (upd F 4 (nI sz)) 9 (nI T)) 13 (nI us)) 14 (nI nm)) (updA (updA (updA (updA (updA (updA (updA B 2 g5) 3 g6) 4 g7) 5 g8) 6 g10) 7 g11) 8 g12)) := mW_D hD
            refine W.widen (k := 0) (n := 0) (Nat.le_of_ble_eq_true rfl) (Nat.le_of_ble_eq_true rfl) ?_
            refine W.eq (g2 := F0 m 91 ls [.int r57]) rfl ?_
            refine lv_bipush (v := 9) hx hb dX12_cut_91 (by decide) ?_
            refine lv_icmp_eq (tgt := 126) hx hb dX12_cut_93 (by decide) (fun c59 => ?_) (fun c59 => ?_)
            · have hlt1 : i1 < sz := chin h58 (by rw [c59]; decide)
              refine lv_iinc (v := (nI (i1 + 1))) (lv' := [(1, .int (nI (i1 + 1))), (2, .int 1), (0, .ref h0)]) hx hb dX12_cut_126 hl (k := 0) rfl (nI_1 i1) (by decide) rfl (fun ls hl => ?_)
              refine lv_goto (tgt := 86) hx hb dX12_cut_129 (by decide) ?_
              have hP : va_P G.1 pCl (mW G h0 a (upd (upd (upd (upd F 4 (nI sz)) 9 (nI T)) 13 (nI us)) 14 (nI nm)) (updA (updA (updA (updA (updA (updA (updA B 2 g5) 3 g6) 4 g7) 5 g8) 6 g10) 7 g11) 8 g12)) _ := hP
              have hD : va_D A (mW G h0 a (upd (upd (upd (upd F 4 (nI sz)) 9 (nI T)) 13 (nI us)) 14 (nI nm)) (updA (updA (updA (updA (updA (updA (updA B 2 g5) 3 g6) 4 g7) 5 g8) 6 g10) 7 g11) 8 g12)) := mW_D hD
              exact ih_b (i1 + 1) _ _ _ (by omega) (by omega) (by omega) hP hD hS (lv_sub hl [0, 1, 2] rfl)
            · refine lv_aload_n hx hb dX12_cut_96 rfl (lv_at hl 2 rfl) ?_
              refine lv_iload_n hx hb dX12_cut_97 rfl (lv_at hl 0 rfl) ?_
              have hP : va_P G.1 pCl (mW G h0 a (upd (upd (upd (upd (upd F 4 (nI sz)) 9 (nI T)) 13 (nI us)) 14 (nI nm)) 4 (nI sz)) (updA (updA (updA (updA (updA (updA (updA B 2 g5) 3 g6) 4 g7) 5 g8) 6 g10) 7 g11) 8 g12)) _ := mW_to (F := F) (l1 := [(4, (nI sz)), (9, (nI T)), (13, (nI us)), (14, (nI nm))]) (l2 := [(4, (nI sz)), (9, (nI T)), (13, (nI us)), (14, (nI nm)), (4, (nI sz))]) (V := [(nI sz), (nI T), (nI us), (nI nm), (nI sz), (nI T), (nI us), (nI nm), (nI sz)]) rfl rfl rfl hP
              have hD : va_D A (mW G h0 a (upd (upd (upd (upd (upd F 4 (nI sz)) 9 (nI T)) 13 (nI us)) 14 (nI nm)) 4 (nI sz)) (updA (updA (updA (updA (updA (updA (updA B 2 g5) 3 g6) 4 g7) 5 g8) 6 g10) 7 g11) 8 g12)) := mW_D hD
              refine pc_V0 (G := G) (As := [.int (nI i1)]) (rest := []) hx hb hml hown hq hE hX pX0_al hP hD hS hA hl.1 (R_ch l G h0 a (upd (upd (upd (upd F 4 (nI sz)) 9 (nI T)) 13 (nI us)) 14 (nI nm)) (updA (updA (updA (updA (updA (updA (updA B 2 g5) 3 g6) 4 g7) 5 g8) 6 g10) 7 g11) 8 g12) i1 sz (by omega) (by omega)) (gV pw_1561 pw_1562 pw_1563 pw_1523 pw_1518) hV_X12_ch 0 9 rfl rfl rfl rfl (Nat.le_of_ble_eq_true rfl) dX12_cut_98 ⟨Nat.le_of_ble_eq_true rfl, Nat.le_of_ble_eq_true rfl⟩ ⟨Nat.le_of_ble_eq_true rfl, Nat.le_of_ble_eq_true rfl⟩ (fun v62 u60 H locs hw61 hP hD hS => ?_)
              obtain ⟨r63, rfl⟩ : ∃ z, z = u60 := ⟨_, rfl⟩
              obtain ⟨hw61, h64⟩ := hw61
              have h64 : r63 = (-1) ∨ i1 < sz ∧ r63 = (B 1) i1 := h64
              obtain rfl : v62 = some (.int r63) := hw61
              have hP : va_P G.1 pCl (mW G h0 a (upd (upd (upd (upd F 4 (nI sz)) 9 (nI T)) 13 (nI us)) 14 (nI nm)) (updA (updA (updA (updA (updA (updA (updA B 2 g5) 3 g6) 4 g7) 5 g8) 6 g10) 7 g11) 8 g12)) _ := mW_to (F := F) (l1 := [(4, (nI sz)), (9, (nI T)), (13, (nI us)), (14, (nI nm)), (4, (nI sz))]) (l2 := [(4, (nI sz)), (9, (nI T)), (13, (nI us)), (14, (nI nm))]) (V := [(nI sz), (nI T), (nI us), (nI nm), (nI sz), (nI sz), (nI T), (nI us), (nI nm)]) rfl rfl rfl hP
              have hD : va_D A (mW G h0 a (upd (upd (upd (upd F 4 (nI sz)) 9 (nI T)) 13 (nI us)) 14 (nI nm)) (updA (updA (updA (updA (updA (updA (updA B 2 g5) 3 g6) 4 g7) 5 g8) 6 g10) 7 g11) 8 g12)) := mW_D hD
              refine W.widen (k := 0) (n := 0) (Nat.le_of_ble_eq_true rfl) (Nat.le_of_ble_eq_true rfl) ?_
              refine W.eq (g2 := F0 m 101 ls [.int r63]) rfl ?_
              refine lv_bipush (v := 10) hx hb dX12_cut_101 (by decide) ?_
              refine lv_icmp_eq (tgt := 126) hx hb dX12_cut_103 (by decide) (fun c65 => ?_) (fun c65 => ?_)
              · have hlt1 : i1 < sz := chin h64 (by rw [c65]; decide)
                refine lv_iinc (v := (nI (i1 + 1))) (lv' := [(1, .int (nI (i1 + 1))), (2, .int 1), (0, .ref h0)]) hx hb dX12_cut_126 hl (k := 0) rfl (nI_1 i1) (by decide) rfl (fun ls hl => ?_)
                refine lv_goto (tgt := 86) hx hb dX12_cut_129 (by decide) ?_
                have hP : va_P G.1 pCl (mW G h0 a (upd (upd (upd (upd F 4 (nI sz)) 9 (nI T)) 13 (nI us)) 14 (nI nm)) (updA (updA (updA (updA (updA (updA (updA B 2 g5) 3 g6) 4 g7) 5 g8) 6 g10) 7 g11) 8 g12)) _ := hP
                have hD : va_D A (mW G h0 a (upd (upd (upd (upd F 4 (nI sz)) 9 (nI T)) 13 (nI us)) 14 (nI nm)) (updA (updA (updA (updA (updA (updA (updA B 2 g5) 3 g6) 4 g7) 5 g8) 6 g10) 7 g11) 8 g12)) := mW_D hD
                exact ih_b (i1 + 1) _ _ _ (by omega) (by omega) (by omega) hP hD hS (lv_sub hl [0, 1, 2] rfl)
              · refine lv_aload_n hx hb dX12_cut_106 rfl (lv_at hl 2 rfl) ?_
                refine lv_iload_n hx hb dX12_cut_107 rfl (lv_at hl 0 rfl) ?_
                have hP : va_P G.1 pCl (mW G h0 a (upd (upd (upd (upd (upd F 4 (nI sz)) 9 (nI T)) 13 (nI us)) 14 (nI nm)) 4 (nI sz)) (updA (updA (updA (updA (updA (updA (updA B 2 g5) 3 g6) 4 g7) 5 g8) 6 g10) 7 g11) 8 g12)) _ := mW_to (F := F) (l1 := [(4, (nI sz)), (9, (nI T)), (13, (nI us)), (14, (nI nm))]) (l2 := [(4, (nI sz)), (9, (nI T)), (13, (nI us)), (14, (nI nm)), (4, (nI sz))]) (V := [(nI sz), (nI T), (nI us), (nI nm), (nI sz), (nI T), (nI us), (nI nm), (nI sz)]) rfl rfl rfl hP
                have hD : va_D A (mW G h0 a (upd (upd (upd (upd (upd F 4 (nI sz)) 9 (nI T)) 13 (nI us)) 14 (nI nm)) 4 (nI sz)) (updA (updA (updA (updA (updA (updA (updA B 2 g5) 3 g6) 4 g7) 5 g8) 6 g10) 7 g11) 8 g12)) := mW_D hD
                refine pc_V0 (G := G) (As := [.int (nI i1)]) (rest := []) hx hb hml hown hq hE hX pX0_al hP hD hS hA hl.1 (R_ch l G h0 a (upd (upd (upd (upd F 4 (nI sz)) 9 (nI T)) 13 (nI us)) 14 (nI nm)) (updA (updA (updA (updA (updA (updA (updA B 2 g5) 3 g6) 4 g7) 5 g8) 6 g10) 7 g11) 8 g12) i1 sz (by omega) (by omega)) (gV pw_1561 pw_1562 pw_1563 pw_1523 pw_1518) hV_X12_ch 0 9 rfl rfl rfl rfl (Nat.le_of_ble_eq_true rfl) dX12_cut_108 ⟨Nat.le_of_ble_eq_true rfl, Nat.le_of_ble_eq_true rfl⟩ ⟨Nat.le_of_ble_eq_true rfl, Nat.le_of_ble_eq_true rfl⟩ (fun v68 u66 H locs hw67 hP hD hS => ?_)
                obtain ⟨r69, rfl⟩ : ∃ z, z = u66 := ⟨_, rfl⟩
                obtain ⟨hw67, h70⟩ := hw67
                have h70 : r69 = (-1) ∨ i1 < sz ∧ r69 = (B 1) i1 := h70
                obtain rfl : v68 = some (.int r69) := hw67
                have hP : va_P G.1 pCl (mW G h0 a (upd (upd (upd (upd F 4 (nI sz)) 9 (nI T)) 13 (nI us)) 14 (nI nm)) (updA (updA (updA (updA (updA (updA (updA B 2 g5) 3 g6) 4 g7) 5 g8) 6 g10) 7 g11) 8 g12)) _ := mW_to (F := F) (l1 := [(4, (nI sz)), (9, (nI T)), (13, (nI us)), (14, (nI nm)), (4, (nI sz))]) (l2 := [(4, (nI sz)), (9, (nI T)), (13, (nI us)), (14, (nI nm))]) (V := [(nI sz), (nI T), (nI us), (nI nm), (nI sz), (nI sz), (nI T), (nI us), (nI nm)]) rfl rfl rfl hP
                have hD : va_D A (mW G h0 a (upd (upd (upd (upd F 4 (nI sz)) 9 (nI T)) 13 (nI us)) 14 (nI nm)) (updA (updA (updA (updA (updA (updA (updA B 2 g5) 3 g6) 4 g7) 5 g8) 6 g10) 7 g11) 8 g12)) := mW_D hD
                refine W.widen (k := 0) (n := 0) (Nat.le_of_ble_eq_true rfl) (Nat.le_of_ble_eq_true rfl) ?_
                refine W.eq (g2 := F0 m 111 ls [.int r69]) rfl ?_
                refine lv_bipush (v := 13) hx hb dX12_cut_111 (by decide) ?_
                refine lv_icmp_eq (tgt := 126) hx hb dX12_cut_113 (by decide) (fun c71 => ?_) (fun c71 => ?_)
                · have hlt1 : i1 < sz := chin h70 (by rw [c71]; decide)
                  refine lv_iinc (v := (nI (i1 + 1))) (lv' := [(1, .int (nI (i1 + 1))), (2, .int 1), (0, .ref h0)]) hx hb dX12_cut_126 hl (k := 0) rfl (nI_1 i1) (by decide) rfl (fun ls hl => ?_)
                  refine lv_goto (tgt := 86) hx hb dX12_cut_129 (by decide) ?_
                  have hP : va_P G.1 pCl (mW G h0 a (upd (upd (upd (upd F 4 (nI sz)) 9 (nI T)) 13 (nI us)) 14 (nI nm)) (updA (updA (updA (updA (updA (updA (updA B 2 g5) 3 g6) 4 g7) 5 g8) 6 g10) 7 g11) 8 g12)) _ := hP
                  have hD : va_D A (mW G h0 a (upd (upd (upd (upd F 4 (nI sz)) 9 (nI T)) 13 (nI us)) 14 (nI nm)) (updA (updA (updA (updA (updA (updA (updA B 2 g5) 3 g6) 4 g7) 5 g8) 6 g10) 7 g11) 8 g12)) := mW_D hD
                  exact ih_b (i1 + 1) _ _ _ (by omega) (by omega) (by omega) hP hD hS (lv_sub hl [0, 1, 2] rfl)
                · refine lv_aload_n hx hb dX12_cut_116 rfl (lv_at hl 2 rfl) ?_
                  refine lv_iload_n hx hb dX12_cut_117 rfl (lv_at hl 0 rfl) ?_
                  have hP : va_P G.1 pCl (mW G h0 a (upd (upd (upd (upd (upd F 4 (nI sz)) 9 (nI T)) 13 (nI us)) 14 (nI nm)) 4 (nI sz)) (updA (updA (updA (updA (updA (updA (updA B 2 g5) 3 g6) 4 g7) 5 g8) 6 g10) 7 g11) 8 g12)) _ := mW_to (F := F) (l1 := [(4, (nI sz)), (9, (nI T)), (13, (nI us)), (14, (nI nm))]) (l2 := [(4, (nI sz)), (9, (nI T)), (13, (nI us)), (14, (nI nm)), (4, (nI sz))]) (V := [(nI sz), (nI T), (nI us), (nI nm), (nI sz), (nI T), (nI us), (nI nm), (nI sz)]) rfl rfl rfl hP
                  have hD : va_D A (mW G h0 a (upd (upd (upd (upd (upd F 4 (nI sz)) 9 (nI T)) 13 (nI us)) 14 (nI nm)) 4 (nI sz)) (updA (updA (updA (updA (updA (updA (updA B 2 g5) 3 g6) 4 g7) 5 g8) 6 g10) 7 g11) 8 g12)) := mW_D hD
                  refine pc_V0 (G := G) (As := [.int (nI i1)]) (rest := []) hx hb hml hown hq hE hX pX0_al hP hD hS hA hl.1 (R_ch l G h0 a (upd (upd (upd (upd F 4 (nI sz)) 9 (nI T)) 13 (nI us)) 14 (nI nm)) (updA (updA (updA (updA (updA (updA (updA B 2 g5) 3 g6) 4 g7) 5 g8) 6 g10) 7 g11) 8 g12) i1 sz (by omega) (by omega)) (gV pw_1561 pw_1562 pw_1563 pw_1523 pw_1518) hV_X12_ch 0 9 rfl rfl rfl rfl (Nat.le_of_ble_eq_true rfl) dX12_cut_118 ⟨Nat.le_of_ble_eq_true rfl, Nat.le_of_ble_eq_true rfl⟩ ⟨Nat.le_of_ble_eq_true rfl, Nat.le_of_ble_eq_true rfl⟩ (fun v74 u72 H locs hw73 hP hD hS => ?_)
                  obtain ⟨r75, rfl⟩ : ∃ z, z = u72 := ⟨_, rfl⟩
                  obtain ⟨hw73, h76⟩ := hw73
                  have h76 : r75 = (-1) ∨ i1 < sz ∧ r75 = (B 1) i1 := h76
                  obtain rfl : v74 = some (.int r75) := hw73
                  have hP : va_P G.1 pCl (mW G h0 a (upd (upd (upd (upd F 4 (nI sz)) 9 (nI T)) 13 (nI us)) 14 (nI nm)) (updA (updA (updA (updA (updA (updA (updA B 2 g5) 3 g6) 4 g7) 5 g8) 6 g10) 7 g11) 8 g12)) _ := mW_to (F := F) (l1 := [(4, (nI sz)), (9, (nI T)), (13, (nI us)), (14, (nI nm)), (4, (nI sz))]) (l2 := [(4, (nI sz)), (9, (nI T)), (13, (nI us)), (14, (nI nm))]) (V := [(nI sz), (nI T), (nI us), (nI nm), (nI sz), (nI sz), (nI T), (nI us), (nI nm)]) rfl rfl rfl hP
                  have hD : va_D A (mW G h0 a (upd (upd (upd (upd F 4 (nI sz)) 9 (nI T)) 13 (nI us)) 14 (nI nm)) (updA (updA (updA (updA (updA (updA (updA B 2 g5) 3 g6) 4 g7) 5 g8) 6 g10) 7 g11) 8 g12)) := mW_D hD
                  refine W.widen (k := 0) (n := 0) (Nat.le_of_ble_eq_true rfl) (Nat.le_of_ble_eq_true rfl) ?_
                  refine W.eq (g2 := F0 m 121 ls [.int r75]) rfl ?_
                  refine lv_bipush (v := 32) hx hb dX12_cut_121 (by decide) ?_
                  refine lv_icmp_ne (tgt := 132) hx hb dX12_cut_123 (by decide) (fun c77 => ?_) (fun c77 => ?_)
                  · refine lv_aload_n hx hb dX12_cut_132 rfl (lv_at hl 2 rfl) ?_
                    refine lv_iload_n hx hb dX12_cut_133 rfl (lv_at hl 0 rfl) ?_
                    have hP : va_P G.1 pCl (mW G h0 a (upd (upd (upd (upd (upd F 4 (nI sz)) 9 (nI T)) 13 (nI us)) 14 (nI nm)) 4 (nI sz)) (updA (updA (updA (updA (updA (updA (updA B 2 g5) 3 g6) 4 g7) 5 g8) 6 g10) 7 g11) 8 g12)) _ := mW_to (F := F) (l1 := [(4, (nI sz)), (9, (nI T)), (13, (nI us)), (14, (nI nm))]) (l2 := [(4, (nI sz)), (9, (nI T)), (13, (nI us)), (14, (nI nm)), (4, (nI sz))]) (V := [(nI sz), (nI T), (nI us), (nI nm), (nI sz), (nI T), (nI us), (nI nm), (nI sz)]) rfl rfl rfl hP
                    have hD : va_D A (mW G h0 a (upd (upd (upd (upd (upd F 4 (nI sz)) 9 (nI T)) 13 (nI us)) 14 (nI nm)) 4 (nI sz)) (updA (updA (updA (updA (updA (updA (updA B 2 g5) 3 g6) 4 g7) 5 g8) 6 g10) 7 g11) 8 g12)) := mW_D hD
                    refine pc_V0 (G := G) (As := [.int (nI i1)]) (rest := []) hx hb hml hown hq hE hX pX0_al hP hD hS hA hl.1 (R_ch l G h0 a (upd (upd (upd (upd F 4 (nI sz)) 9 (nI T)) 13 (nI us)) 14 (nI nm)) (updA (updA (updA (updA (updA (updA (updA B 2 g5) 3 g6) 4 g7) 5 g8) 6 g10) 7 g11) 8 g12) i1 sz (by omega) (by omega)) (gV pw_1561 pw_1562 pw_1563 pw_1523 pw_1518) hV_X12_ch 0 9 rfl rfl rfl rfl (Nat.le_of_ble_eq_true rfl) dX12_cut_134 ⟨Nat.le_of_ble_eq_true rfl, Nat.le_of_ble_eq_true rfl⟩ ⟨Nat.le_of_ble_eq_true rfl, Nat.le_of_ble_eq_true rfl⟩ (fun v80 u78 H locs hw79 hP hD hS => ?_)
                    obtain ⟨r81, rfl⟩ : ∃ z, z = u78 := ⟨_, rfl⟩
                    obtain ⟨hw79, h82⟩ := hw79
                    have h82 : r81 = (-1) ∨ i1 < sz ∧ r81 = (B 1) i1 := h82
                    obtain rfl : v80 = some (.int r81) := hw79
                    have hP : va_P G.1 pCl (mW G h0 a (upd (upd (upd (upd F 4 (nI sz)) 9 (nI T)) 13 (nI us)) 14 (nI nm)) (updA (updA (updA (updA (updA (updA (updA B 2 g5) 3 g6) 4 g7) 5 g8) 6 g10) 7 g11) 8 g12)) _ := mW_to (F := F) (l1 := [(4, (nI sz)), (9, (nI T)), (13, (nI us)), (14, (nI nm)), (4, (nI sz))]) (l2 := [(4, (nI sz)), (9, (nI T)), (13, (nI us)), (14, (nI nm))]) (V := [(nI sz), (nI T), (nI us), (nI nm), (nI sz), (nI sz), (nI T), (nI us), (nI nm)]) rfl rfl rfl hP
                    have hD : va_D A (mW G h0 a (upd (upd (upd (upd F 4 (nI sz)) 9 (nI T)) 13 (nI us)) 14 (nI nm)) (updA (updA (updA (updA (updA (updA (updA B 2 g5) 3 g6) 4 g7) 5 g8) 6 g10) 7 g11) 8 g12)) := mW_D hD
                    refine W.widen (k := 0) (n := 0) (Nat.le_of_ble_eq_true rfl) (Nat.le_of_ble_eq_true rfl) ?_
                    refine W.eq (g2 := F0 m 137 ls [.int r81]) rfl ?_
                    refine lv_bipush (v := 47) hx hb dX12_cut_137 (by decide) ?_
                    refine lv_icmp_ne (tgt := 178) hx hb dX12_cut_139 (by decide) (fun c83 => ?_) (fun c83 => ?_)
                    · have cut_j : ∀ (kd : Int32) (vl : Int32) (t2 : Nat) (nm2 : Nat) (us2 : Nat) (h10 : Nat → Int32) (h11 : Nat → Int32) (h12 : Nat → Int32) (H : Heap) (locs : List Loc) (ls : Array Slot), (i1 ≤ t2) → (t2 ≤ sz) → (kd = 0 ∨ i1 < t2) → (nm ≤ nm2) → (nm2 ≤ 9 + t2) → (us2 ≤ 40 + t2) → (rNm nm2 us2 h10 h11) → (kd = 1 → ∃ k : Nat, k < nm2 ∧ vl = nI k) → va_P G.1 pCl (mW G h0 a (upd (upd (upd (upd F 4 (nI sz)) 9 (nI T)) 13 (nI us2)) 14 (nI nm2)) (updA (updA (updA (updA (updA (updA (updA B 2 g5) 3 g6) 4 g7) 5 g8) 6 h10) 7 h11) 8 h12)) H → va_D A (mW G h0 a (upd (upd (upd (upd F 4 (nI sz)) 9 (nI T)) 13 (nI us2)) 14 (nI nm2)) (updA (updA (updA (updA (updA (updA (updA B 2 g5) 3 g6) 4 g7) 5 g8) 6 h10) 7 h11) 8 h12)) → va_S A s.heap H locs → lv_has ls 9 [(1, .int (nI i1)), (2, .int 1), (3, .int (nI t2)), (4, .int kd), (5, .int vl), (0, .ref h0)] → W p l e (headSpec (Cond.code yX12_cut cX12_cut 9 none :: pw) ({ frames := 7, cells := 0, slots := 0, locals := 174 } : Room)).room s m ([.ref h0] : List Value).toArray below meth c H locs 0 0 (MQ below (pQ G A (fun (v : Option Value) (u : Nat × Nat × Nat × (Nat → Int32) × (Nat → Int32) × (Nat → Int32) × (Nat → Int32) × (Nat → Int32) × (Nat → Int32) × (Nat → Int32)) => v = none ∧ (u.1 ≤ sz) ∧ (u.2.2.2.2.2.2.1 u.1 = 0 ∨ u.2.2.2.2.2.2.1 u.1 = 3) ∧ (rNm u.2.1 u.2.2.1 u.2.2.2.1 u.2.2.2.2.1) ∧ (u.2.1 ≤ 9 + sz) ∧ (u.2.2.1 ≤ 40 + sz) ∧ (rTk u.1 u.2.1 u.2.2.2.2.2.2.1 u.2.2.2.2.2.2.2.2.2) ∧ (9 ≤ u.2.1)) (fun u => (mW G h0 a (upd (upd (upd (upd F 4 (nI sz)) 9 (nI u.1)) 13 (nI u.2.2.1)) 14 (nI u.2.1)) (updA (updA (updA (updA (updA (updA (updA B 2 u.2.2.2.2.2.2.1) 3 u.2.2.2.2.2.2.2.1) 4 u.2.2.2.2.2.2.2.2.1) 5 u.2.2.2.2.2.2.2.2.2) 6 u.2.2.2.1) 7 u.2.2.2.2.1) 8 u.2.2.2.2.2.1)))) ([.ref h0] : List Value).toArray s ({ frames := 7, cells := 0, slots := 0, locals := 174 } : Room).cells ({ frames := 7, cells := 0, slots := 0, locals := 174 } : Room).slots A) (F0 m 472 ls []) := by
                        intro kd vl t2 nm2 us2 h10 h11 h12 H locs ls ht2 ht3 hp2 hn2 hn3 hu2 hR2 hv2 hP hD hS hl
                        refine lv_aload_n hx hb dX12_cut_472 rfl (lv_at hl 5 rfl) ?_
                        refine r_get (v := .ref (a 2)) hx hb hown hq hE hP 5 16 tFX12_5 (by decide) pw_1432 rfl dX12_cut_473 ?_
                        refine lv_aload_n hx hb dX12_cut_476 rfl (lv_at hl 5 rfl) ?_
                        refine r_get (v := .int (nI T)) hx hb hown hq hE hP 9 314 tFX12_9 (by decide) pw_1568 rfl dX12_cut_477 ?_
                        refine lv_iload hx hb dX12_cut_480 (lv_at hl 3 rfl) ?_
                        refine r_sti (f := g5) (j := T) hx hb hE hP hD hS 2 (ma_2 G a _) rfl (mas_2 G a _) (by omega) (by decide) dX12_cut_482 (fun H locs hP hD hS => ?_)
                        refine lv_aload_n hx hb dX12_cut_483 rfl (lv_at hl 5 rfl) ?_
                        refine r_get (v := .ref (a 3)) hx hb hown hq hE hP 6 19 tFX12_6 (by decide) pw_1433 rfl dX12_cut_484 ?_
                        refine lv_aload_n hx hb dX12_cut_487 rfl (lv_at hl 5 rfl) ?_
                        refine r_get (v := .int (nI T)) hx hb hown hq hE hP 9 314 tFX12_9 (by decide) pw_1568 rfl dX12_cut_488 ?_
                        refine lv_iload_n hx hb dX12_cut_491 rfl (lv_at hl 0 rfl) ?_
                        refine r_sti (f := g6) (j := T) hx hb hE hP hD hS 3 (ma_3 G a _) rfl (mas_3 G a _) (by omega) (by decide) dX12_cut_492 (fun H locs hP hD hS => ?_)
                        refine lv_aload_n hx hb dX12_cut_493 rfl (lv_at hl 5 rfl) ?_
                        refine r_get (v := .ref (a 4)) hx hb hown hq hE hP 7 22 tFX12_7 (by decide) pw_1434 rfl dX12_cut_494 ?_
                        refine lv_aload_n hx hb dX12_cut_497 rfl (lv_at hl 5 rfl) ?_
                        refine r_get (v := .int (nI T)) hx hb hown hq hE hP 9 314 tFX12_9 (by decide) pw_1568 rfl dX12_cut_498 ?_
                        refine lv_iload_n hx hb dX12_cut_501 rfl (lv_at hl 2 rfl) ?_
                        refine r_sti (f := g7) (j := T) hx hb hE hP hD hS 4 (ma_4 G a _) rfl (mas_4 G a _) (by omega) (by decide) dX12_cut_502 (fun H locs hP hD hS => ?_)
                        refine lv_aload_n hx hb dX12_cut_503 rfl (lv_at hl 5 rfl) ?_
                        refine r_get (v := .ref (a 5)) hx hb hown hq hE hP 8 25 tFX12_8 (by decide) pw_1435 rfl dX12_cut_504 ?_
                        refine lv_aload_n hx hb dX12_cut_507 rfl (lv_at hl 5 rfl) ?_
                        refine r_get (v := .int (nI T)) hx hb hown hq hE hP 9 314 tFX12_9 (by decide) pw_1568 rfl dX12_cut_508 ?_
                        refine lv_iload hx hb dX12_cut_511 (lv_at hl 4 rfl) ?_
                        refine r_sti (f := g8) (j := T) hx hb hE hP hD hS 5 (ma_5 G a _) rfl (mas_5 G a _) (by omega) (by decide) dX12_cut_513 (fun H locs hP hD hS => ?_)
                        refine lv_iload hx hb dX12_cut_514 (lv_at hl 3 rfl) ?_
                        refine lv_if_eq (tgt := 529) hx hb dX12_cut_516 (by decide) (fun c84 => ?_) (fun c84 => ?_)
                        · refine lv_iconst (v := 0) hx hb dX12_cut_529 (by decide) ?_
                          refine lv_istore_n (lv' := [(2, .int 0), (1, .int (nI i1)), (3, .int (nI t2)), (4, .int kd), (5, .int vl), (0, .ref h0)]) hx hb dX12_cut_530 rfl hl (by decide) rfl (fun ls hl => ?_)
                          refine lv_aload_n hx hb dX12_cut_531 rfl (lv_at hl 5 rfl) ?_
                          refine lv_dup hx hb dX12_cut_532 rfl ?_
                          refine r_get (v := .int (nI T)) hx hb hown hq hE hP 9 314 tFX12_9 (by decide) pw_1568 rfl dX12_cut_533 ?_
                          refine lv_iload_n hx hb dX12_cut_536 rfl (lv_at hl 0 rfl) ?_
                          refine lv_if_eq (tgt := 544) hx hb dX12_cut_537 (by decide) (fun c85 => ?_) (fun c85 => absurd c85 (by decide))
                          refine lv_iconst (v := 0) hx hb dX12_cut_544 (by decide) ?_
                          refine lv_iadd hx hb dX12_cut_545 ?_
                          refine lv_topi (fun x86 e87 => ?_)
                          obtain rfl : x86 = nI (T + 0) := e87.trans (nI_add (T) (0))
                          refine r_put (v := (nI (T + 0))) (ty := .int) hx hb hown hq hE hP hD hS 9 314 tFX12_9 (by decide) pw_1568 (by decide) rfl rfl (ms_9 a _ _) dX12_cut_546 (fun H locs hP hD hS => ?_)
                          refine lv_iload_n hx hb dX12_cut_549 rfl (lv_at hl 2 rfl) ?_
                          refine lv_istore_n (lv' := [(1, .int (nI t2)), (2, .int 0), (3, .int (nI t2)), (4, .int kd), (5, .int vl), (0, .ref h0)]) hx hb dX12_cut_550 rfl hl (by decide) rfl (fun ls hl => ?_)
                          refine lv_goto (tgt := 82) hx hb dX12_cut_551 (by decide) ?_
                          have hP : va_P G.1 pCl (mW G h0 a (upd (upd (upd (upd F 4 (nI sz)) 9 (nI T)) 13 (nI us2)) 14 (nI nm2)) (updA (updA (updA (updA (updA (updA (updA B 2 (upd g5 T kd)) 3 (upd g6 T (nI i1))) 4 (upd g7 T (nI t2))) 5 (upd g8 T vl)) 6 h10) 7 h11) 8 h12)) _ := mW_to (F := F) (l1 := [(4, (nI sz)), (9, (nI T)), (13, (nI us2)), (14, (nI nm2)), (9, (nI (T + 0)))]) (l2 := [(4, (nI sz)), (9, (nI T)), (13, (nI us2)), (14, (nI nm2))]) (V := [(nI sz), (nI T), (nI us2), (nI nm2), (nI T), (nI sz), (nI T), (nI us2), (nI nm2)]) rfl rfl (show (updA (updA (updA (updA (updA (updA (updA (updA (updA (updA (updA B 2 g5) 3 g6) 4 g7) 5 g8) 6 h10) 7 h11) 8 h12) 2 (upd g5 T kd)) 3 (upd g6 T (nI i1))) 4 (upd g7 T (nI t2))) 5 (upd g8 T vl)) = (updA (updA (updA (updA (updA (updA (updA B 2 (upd g5 T kd)) 3 (upd g6 T (nI i1))) 4 (upd g7 T (nI t2))) 5 (upd g8 T vl)) 6 h10) 7 h11) 8 h12) from updsA_eq2 (F := B) (l1 := [(2, g5), (3, g6), (4, g7), (5, g8), (6, h10), (7, h11), (8, h12), (2, (upd g5 T kd)), (3, (upd g6 T (nI i1))), (4, (upd g7 T (nI t2))), (5, (upd g8 T vl))]) (l2 := [(2, (upd g5 T kd)), (3, (upd g6 T (nI i1))), (4, (upd g7 T (nI t2))), (5, (upd g8 T vl)), (6, h10), (7, h11), (8, h12)]) (V := [(upd g5 T kd), (upd g6 T (nI i1)), (upd g7 T (nI t2)), (upd g8 T vl), h10, h11, h12, (upd g5 T kd), (upd g6 T (nI i1)), (upd g7 T (nI t2)), (upd g8 T vl), (upd g5 T kd), (upd g6 T (nI i1)), (upd g7 T (nI t2)), (upd g8 T vl), h10, h11, h12]) rfl rfl) hP
                          have hD : va_D A (mW G h0 a (upd (upd (upd (upd F 4 (nI sz)) 9 (nI T)) 13 (nI us2)) 14 (nI nm2)) (updA (updA (updA (updA (updA (updA (updA B 2 (upd g5 T kd)) 3 (upd g6 T (nI i1))) 4 (upd g7 T (nI t2))) 5 (upd g8 T vl)) 6 h10) 7 h11) 8 h12)) := mW_D hD
                          exact ih_o (t2 + 1) t2 T nm2 us2 0 h10 h11 h12 (upd g5 T kd) (upd g6 T (nI i1)) (upd g7 T (nI t2)) (upd g8 T vl) _ _ _ (by omega) (by omega) (Or.inr ⟨rfl, rfl⟩) (by omega) (by omega) (by omega) (by omega) (fun _ => Or.inl (by unfold upd; rw [if_pos rfl]; exact c84)) hR2 (rTk_up2 hTk hn2) (by omega) hP hD hS (lv_sub hl [0, 1, 5] rfl)
                        · refine lv_iload hx hb dX12_cut_519 (lv_at hl 3 rfl) ?_
                          refine lv_iconst (v := 3) hx hb dX12_cut_521 (by decide) ?_
                          refine lv_icmp_eq (tgt := 529) hx hb dX12_cut_522 (by decide) (fun c88 => ?_) (fun c88 => ?_)
                          · refine lv_iconst (v := 0) hx hb dX12_cut_529 (by decide) ?_
                            refine lv_istore_n (lv' := [(2, .int 0), (1, .int (nI i1)), (3, .int (nI t2)), (4, .int kd), (5, .int vl), (0, .ref h0)]) hx hb dX12_cut_530 rfl hl (by decide) rfl (fun ls hl => ?_)
                            refine lv_aload_n hx hb dX12_cut_531 rfl (lv_at hl 5 rfl) ?_
                            refine lv_dup hx hb dX12_cut_532 rfl ?_
                            refine r_get (v := .int (nI T)) hx hb hown hq hE hP 9 314 tFX12_9 (by decide) pw_1568 rfl dX12_cut_533 ?_
                            refine lv_iload_n hx hb dX12_cut_536 rfl (lv_at hl 0 rfl) ?_
                            refine lv_if_eq (tgt := 544) hx hb dX12_cut_537 (by decide) (fun c89 => ?_) (fun c89 => absurd c89 (by decide))
                            refine lv_iconst (v := 0) hx hb dX12_cut_544 (by decide) ?_
                            refine lv_iadd hx hb dX12_cut_545 ?_
                            refine lv_topi (fun x90 e91 => ?_)
                            obtain rfl : x90 = nI (T + 0) := e91.trans (nI_add (T) (0))
                            refine r_put (v := (nI (T + 0))) (ty := .int) hx hb hown hq hE hP hD hS 9 314 tFX12_9 (by decide) pw_1568 (by decide) rfl rfl (ms_9 a _ _) dX12_cut_546 (fun H locs hP hD hS => ?_)
                            refine lv_iload_n hx hb dX12_cut_549 rfl (lv_at hl 2 rfl) ?_
                            refine lv_istore_n (lv' := [(1, .int (nI t2)), (2, .int 0), (3, .int (nI t2)), (4, .int kd), (5, .int vl), (0, .ref h0)]) hx hb dX12_cut_550 rfl hl (by decide) rfl (fun ls hl => ?_)
                            refine lv_goto (tgt := 82) hx hb dX12_cut_551 (by decide) ?_
                            have hP : va_P G.1 pCl (mW G h0 a (upd (upd (upd (upd F 4 (nI sz)) 9 (nI T)) 13 (nI us2)) 14 (nI nm2)) (updA (updA (updA (updA (updA (updA (updA B 2 (upd g5 T kd)) 3 (upd g6 T (nI i1))) 4 (upd g7 T (nI t2))) 5 (upd g8 T vl)) 6 h10) 7 h11) 8 h12)) _ := mW_to (F := F) (l1 := [(4, (nI sz)), (9, (nI T)), (13, (nI us2)), (14, (nI nm2)), (9, (nI (T + 0)))]) (l2 := [(4, (nI sz)), (9, (nI T)), (13, (nI us2)), (14, (nI nm2))]) (V := [(nI sz), (nI T), (nI us2), (nI nm2), (nI T), (nI sz), (nI T), (nI us2), (nI nm2)]) rfl rfl (show (updA (updA (updA (updA (updA (updA (updA (updA (updA (updA (updA B 2 g5) 3 g6) 4 g7) 5 g8) 6 h10) 7 h11) 8 h12) 2 (upd g5 T kd)) 3 (upd g6 T (nI i1))) 4 (upd g7 T (nI t2))) 5 (upd g8 T vl)) = (updA (updA (updA (updA (updA (updA (updA B 2 (upd g5 T kd)) 3 (upd g6 T (nI i1))) 4 (upd g7 T (nI t2))) 5 (upd g8 T vl)) 6 h10) 7 h11) 8 h12) from updsA_eq2 (F := B) (l1 := [(2, g5), (3, g6), (4, g7), (5, g8), (6, h10), (7, h11), (8, h12), (2, (upd g5 T kd)), (3, (upd g6 T (nI i1))), (4, (upd g7 T (nI t2))), (5, (upd g8 T vl))]) (l2 := [(2, (upd g5 T kd)), (3, (upd g6 T (nI i1))), (4, (upd g7 T (nI t2))), (5, (upd g8 T vl)), (6, h10), (7, h11), (8, h12)]) (V := [(upd g5 T kd), (upd g6 T (nI i1)), (upd g7 T (nI t2)), (upd g8 T vl), h10, h11, h12, (upd g5 T kd), (upd g6 T (nI i1)), (upd g7 T (nI t2)), (upd g8 T vl), (upd g5 T kd), (upd g6 T (nI i1)), (upd g7 T (nI t2)), (upd g8 T vl), h10, h11, h12]) rfl rfl) hP
                            have hD : va_D A (mW G h0 a (upd (upd (upd (upd F 4 (nI sz)) 9 (nI T)) 13 (nI us2)) 14 (nI nm2)) (updA (updA (updA (updA (updA (updA (updA B 2 (upd g5 T kd)) 3 (upd g6 T (nI i1))) 4 (upd g7 T (nI t2))) 5 (upd g8 T vl)) 6 h10) 7 h11) 8 h12)) := mW_D hD
                            exact ih_o (t2 + 1) t2 T nm2 us2 0 h10 h11 h12 (upd g5 T kd) (upd g6 T (nI i1)) (upd g7 T (nI t2)) (upd g8 T vl) _ _ _ (by omega) (by omega) (Or.inr ⟨rfl, rfl⟩) (by omega) (by omega) (by omega) (by omega) (fun _ => Or.inr (by unfold upd; rw [if_pos rfl]; exact c88)) hR2 (rTk_up2 hTk hn2) (by omega) hP hD hS (lv_sub hl [0, 1, 5] rfl)
                          · refine lv_iconst (v := 1) hx hb dX12_cut_525 (by decide) ?_
                            refine lv_goto (tgt := 530) hx hb dX12_cut_526 (by decide) ?_
                            refine lv_istore_n (lv' := [(2, .int 1), (1, .int (nI i1)), (3, .int (nI t2)), (4, .int kd), (5, .int vl), (0, .ref h0)]) hx hb dX12_cut_530 rfl hl (by decide) rfl (fun ls hl => ?_)
                            refine lv_aload_n hx hb dX12_cut_531 rfl (lv_at hl 5 rfl) ?_
                            refine lv_dup hx hb dX12_cut_532 rfl ?_
                            refine r_get (v := .int (nI T)) hx hb hown hq hE hP 9 314 tFX12_9 (by decide) pw_1568 rfl dX12_cut_533 ?_
                            refine lv_iload_n hx hb dX12_cut_536 rfl (lv_at hl 0 rfl) ?_
                            refine lv_if_eq (tgt := 544) hx hb dX12_cut_537 (by decide) (fun c92 => absurd c92 (by decide)) (fun c92 => ?_)
                            refine lv_iconst (v := 1) hx hb dX12_cut_540 (by decide) ?_
                            refine lv_goto (tgt := 545) hx hb dX12_cut_541 (by decide) ?_
                            refine lv_iadd hx hb dX12_cut_545 ?_
                            refine lv_topi (fun x93 e94 => ?_)
                            obtain rfl : x93 = nI (T + 1) := e94.trans (nI_add (T) (1))
                            refine r_put (v := (nI (T + 1))) (ty := .int) hx hb hown hq hE hP hD hS 9 314 tFX12_9 (by decide) pw_1568 (by decide) rfl rfl (ms_9 a _ _) dX12_cut_546 (fun H locs hP hD hS => ?_)
                            refine lv_iload_n hx hb dX12_cut_549 rfl (lv_at hl 2 rfl) ?_
                            refine lv_istore_n (lv' := [(1, .int (nI t2)), (2, .int 1), (3, .int (nI t2)), (4, .int kd), (5, .int vl), (0, .ref h0)]) hx hb dX12_cut_550 rfl hl (by decide) rfl (fun ls hl => ?_)
                            refine lv_goto (tgt := 82) hx hb dX12_cut_551 (by decide) ?_
                            have hp3 : i1 < t2 := hp2.resolve_left c84
                            have hP : va_P G.1 pCl (mW G h0 a (upd (upd (upd (upd F 4 (nI sz)) 9 (nI (T + 1))) 13 (nI us2)) 14 (nI nm2)) (updA (updA (updA (updA (updA (updA (updA B 2 (upd g5 T kd)) 3 (upd g6 T (nI i1))) 4 (upd g7 T (nI t2))) 5 (upd g8 T vl)) 6 h10) 7 h11) 8 h12)) _ := mW_to (F := F) (l1 := [(4, (nI sz)), (9, (nI T)), (13, (nI us2)), (14, (nI nm2)), (9, (nI (T + 1)))]) (l2 := [(4, (nI sz)), (9, (nI (T + 1))), (13, (nI us2)), (14, (nI nm2))]) (V := [(nI sz), (nI (T + 1)), (nI us2), (nI nm2), (nI (T + 1)), (nI sz), (nI (T + 1)), (nI us2), (nI nm2)]) rfl rfl (show (updA (updA (updA (updA (updA (updA (updA (updA (updA (updA (updA B 2 g5) 3 g6) 4 g7) 5 g8) 6 h10) 7 h11) 8 h12) 2 (upd g5 T kd)) 3 (upd g6 T (nI i1))) 4 (upd g7 T (nI t2))) 5 (upd g8 T vl)) = (updA (updA (updA (updA (updA (updA (updA B 2 (upd g5 T kd)) 3 (upd g6 T (nI i1))) 4 (upd g7 T (nI t2))) 5 (upd g8 T vl)) 6 h10) 7 h11) 8 h12) from updsA_eq2 (F := B) (l1 := [(2, g5), (3, g6), (4, g7), (5, g8), (6, h10), (7, h11), (8, h12), (2, (upd g5 T kd)), (3, (upd g6 T (nI i1))), (4, (upd g7 T (nI t2))), (5, (upd g8 T vl))]) (l2 := [(2, (upd g5 T kd)), (3, (upd g6 T (nI i1))), (4, (upd g7 T (nI t2))), (5, (upd g8 T vl)), (6, h10), (7, h11), (8, h12)]) (V := [(upd g5 T kd), (upd g6 T (nI i1)), (upd g7 T (nI t2)), (upd g8 T vl), h10, h11, h12, (upd g5 T kd), (upd g6 T (nI i1)), (upd g7 T (nI t2)), (upd g8 T vl), (upd g5 T kd), (upd g6 T (nI i1)), (upd g7 T (nI t2)), (upd g8 T vl), h10, h11, h12]) rfl rfl) hP
                            have hD : va_D A (mW G h0 a (upd (upd (upd (upd F 4 (nI sz)) 9 (nI (T + 1))) 13 (nI us2)) 14 (nI nm2)) (updA (updA (updA (updA (updA (updA (updA B 2 (upd g5 T kd)) 3 (upd g6 T (nI i1))) 4 (upd g7 T (nI t2))) 5 (upd g8 T vl)) 6 h10) 7 h11) 8 h12)) := mW_D hD
                            exact ih_o t2 t2 (T + 1) nm2 us2 1 h10 h11 h12 (upd g5 T kd) (upd g6 T (nI i1)) (upd g7 T (nI t2)) (upd g8 T vl) _ _ _ (by omega) (by omega) (Or.inl ⟨rfl, rfl⟩) (by omega) (by omega) (by omega) (by omega) (fun h9 => absurd h9 (by decide)) hR2 (rTk_upd hTk hn2 hv2) (by omega) hP hD hS (lv_sub hl [0, 1, 5] rfl)
                      refine lv_iload_n hx hb dX12_cut_178 rfl (lv_at hl 0 rfl) ?_
                      refine lv_iconst (v := 1) hx hb dX12_cut_179 (by decide) ?_
                      refine lv_iadd hx hb dX12_cut_180 ?_
                      refine lv_topi (fun x95 e96 => ?_)
                      obtain rfl : x95 = nI (i1 + 1) := e96.trans (nI_add (i1) (1))
                      refine lv_istore_n (lv' := [(3, .int (nI (i1 + 1))), (1, .int (nI i1)), (2, .int 1), (0, .ref h0)]) hx hb dX12_cut_181 rfl hl (by decide) rfl (fun ls hl => ?_)
                      refine lv_iconst (v := 0) hx hb dX12_cut_182 (by decide) ?_
                      refine lv_istore (lv' := [(4, .int 0), (3, .int (nI (i1 + 1))), (1, .int (nI i1)), (2, .int 1), (0, .ref h0)]) hx hb dX12_cut_183 hl (by decide) rfl (fun ls hl => ?_)
                      refine lv_iconst (v := 0) hx hb dX12_cut_185 (by decide) ?_
                      refine lv_istore (lv' := [(5, .int 0), (4, .int 0), (3, .int (nI (i1 + 1))), (1, .int (nI i1)), (2, .int 1), (0, .ref h0)]) hx hb dX12_cut_186 hl (by decide) rfl (fun ls hl => ?_)
                      refine lv_iload_n hx hb dX12_cut_188 rfl (lv_at hl 3 rfl) ?_
                      refine lv_aload_n hx hb dX12_cut_189 rfl (lv_at hl 5 rfl) ?_
                      refine r_get (v := .int (nI sz)) hx hb hown hq hE hP 4 258 tFX12_4 (by decide) pw_1519 rfl dX12_cut_190 ?_
                      refine lv_icmp_lt (tgt := 201) hx hb dX12_cut_193 (by decide) (fun c97 => ?_) (fun c97 => ?_)
                      · have n98 : i1 < sz := (nI_ltI (a := i1) (b := sz) (by omega) (by omega)).mp c97
                        refine lv_aload_n hx hb dX12_cut_201 rfl (lv_at hl 5 rfl) ?_
                        refine lv_iload_n hx hb dX12_cut_202 rfl (lv_at hl 3 rfl) ?_
                        have hP : va_P G.1 pCl (mW G h0 a (upd (upd (upd (upd (upd F 4 (nI sz)) 9 (nI T)) 13 (nI us)) 14 (nI nm)) 4 (nI sz)) (updA (updA (updA (updA (updA (updA (updA B 2 g5) 3 g6) 4 g7) 5 g8) 6 g10) 7 g11) 8 g12)) _ := mW_to (F := F) (l1 := [(4, (nI sz)), (9, (nI T)), (13, (nI us)), (14, (nI nm))]) (l2 := [(4, (nI sz)), (9, (nI T)), (13, (nI us)), (14, (nI nm)), (4, (nI sz))]) (V := [(nI sz), (nI T), (nI us), (nI nm), (nI sz), (nI T), (nI us), (nI nm), (nI sz)]) rfl rfl rfl hP
                        have hD : va_D A (mW G h0 a (upd (upd (upd (upd (upd F 4 (nI sz)) 9 (nI T)) 13 (nI us)) 14 (nI nm)) 4 (nI sz)) (updA (updA (updA (updA (updA (updA (updA B 2 g5) 3 g6) 4 g7) 5 g8) 6 g10) 7 g11) 8 g12)) := mW_D hD
                        refine pc_V0 (G := G) (As := [.int (nI i1)]) (rest := []) hx hb hml hown hq hE hX pX0_al hP hD hS hA hl.1 (R_ch l G h0 a (upd (upd (upd (upd F 4 (nI sz)) 9 (nI T)) 13 (nI us)) 14 (nI nm)) (updA (updA (updA (updA (updA (updA (updA B 2 g5) 3 g6) 4 g7) 5 g8) 6 g10) 7 g11) 8 g12) i1 sz (by omega) (by omega)) (gV pw_1561 pw_1562 pw_1563 pw_1523 pw_1518) hV_X12_ch 0 9 rfl rfl rfl rfl (Nat.le_of_ble_eq_true rfl) dX12_cut_203 ⟨Nat.le_of_ble_eq_true rfl, Nat.le_of_ble_eq_true rfl⟩ ⟨Nat.le_of_ble_eq_true rfl, Nat.le_of_ble_eq_true rfl⟩ (fun v101 u99 H locs hw100 hP hD hS => ?_)
                        obtain ⟨r102, rfl⟩ : ∃ z, z = u99 := ⟨_, rfl⟩
                        obtain ⟨hw100, h103⟩ := hw100
                        have h103 : r102 = (-1) ∨ i1 < sz ∧ r102 = (B 1) i1 := h103
                        obtain rfl : v101 = some (.int r102) := hw100
                        have hP : va_P G.1 pCl (mW G h0 a (upd (upd (upd (upd F 4 (nI sz)) 9 (nI T)) 13 (nI us)) 14 (nI nm)) (updA (updA (updA (updA (updA (updA (updA B 2 g5) 3 g6) 4 g7) 5 g8) 6 g10) 7 g11) 8 g12)) _ := mW_to (F := F) (l1 := [(4, (nI sz)), (9, (nI T)), (13, (nI us)), (14, (nI nm)), (4, (nI sz))]) (l2 := [(4, (nI sz)), (9, (nI T)), (13, (nI us)), (14, (nI nm))]) (V := [(nI sz), (nI T), (nI us), (nI nm), (nI sz), (nI sz), (nI T), (nI us), (nI nm)]) rfl rfl rfl hP
                        have hD : va_D A (mW G h0 a (upd (upd (upd (upd F 4 (nI sz)) 9 (nI T)) 13 (nI us)) 14 (nI nm)) (updA (updA (updA (updA (updA (updA (updA B 2 g5) 3 g6) 4 g7) 5 g8) 6 g10) 7 g11) 8 g12)) := mW_D hD
                        refine W.widen (k := 0) (n := 0) (Nat.le_of_ble_eq_true rfl) (Nat.le_of_ble_eq_true rfl) ?_
                        refine W.eq (g2 := F0 m 206 ls [.int r102]) rfl ?_
                        refine pc_SN (G := G) (As := [.int r102]) (rest := []) hx hb hml hown hq hE hX pX0_al hP hS hA hl.1 (s_isLetter l G r102) (gS pw_1575 pw_1576 pw_1523 pw_1520) hS_X12_isLetter rfl (Nat.le_of_ble_eq_true rfl) dX12_cut_206 ⟨Nat.le_of_ble_eq_true rfl, Nat.le_of_ble_eq_true rfl⟩ ⟨Nat.le_of_ble_eq_true rfl, Nat.le_of_ble_eq_true rfl⟩ (fun v106 u104 H locs hw105 hP hS => ?_)
                        obtain ⟨x107, rfl, hr108, hr109⟩ := hw105
                        refine W.widen (k := 0) (n := 0) (Nat.le_of_ble_eq_true rfl) (Nat.le_of_ble_eq_true rfl) ?_
                        refine W.eq (g2 := F0 m 209 ls [.int x107]) rfl ?_
                        refine lv_if_eq (tgt := 285) hx hb dX12_cut_209 (by decide) (fun c110 => ?_) (fun c110 => ?_)
                        · refine lv_aload_n hx hb dX12_cut_285 rfl (lv_at hl 5 rfl) ?_
                          refine lv_iload_n hx hb dX12_cut_286 rfl (lv_at hl 3 rfl) ?_
                          have hP : va_P G.1 pCl (mW G h0 a (upd (upd (upd (upd (upd F 4 (nI sz)) 9 (nI T)) 13 (nI us)) 14 (nI nm)) 4 (nI sz)) (updA (updA (updA (updA (updA (updA (updA B 2 g5) 3 g6) 4 g7) 5 g8) 6 g10) 7 g11) 8 g12)) _ := hP
                          have hD : va_D A (mW G h0 a (upd (upd (upd (upd (upd F 4 (nI sz)) 9 (nI T)) 13 (nI us)) 14 (nI nm)) 4 (nI sz)) (updA (updA (updA (updA (updA (updA (updA B 2 g5) 3 g6) 4 g7) 5 g8) 6 g10) 7 g11) 8 g12)) := mW_D hD
                          refine pc_V0 (G := G) (As := [.int (nI i1)]) (rest := []) hx hb hml hown hq hE hX pX0_al hP hD hS hA hl.1 (R_ch l G h0 a (upd (upd (upd (upd F 4 (nI sz)) 9 (nI T)) 13 (nI us)) 14 (nI nm)) (updA (updA (updA (updA (updA (updA (updA B 2 g5) 3 g6) 4 g7) 5 g8) 6 g10) 7 g11) 8 g12) i1 sz (by omega) (by omega)) (gV pw_1561 pw_1562 pw_1563 pw_1523 pw_1518) hV_X12_ch 0 9 rfl rfl rfl rfl (Nat.le_of_ble_eq_true rfl) dX12_cut_287 ⟨Nat.le_of_ble_eq_true rfl, Nat.le_of_ble_eq_true rfl⟩ ⟨Nat.le_of_ble_eq_true rfl, Nat.le_of_ble_eq_true rfl⟩ (fun v113 u111 H locs hw112 hP hD hS => ?_)
                          obtain ⟨r114, rfl⟩ : ∃ z, z = u111 := ⟨_, rfl⟩
                          obtain ⟨hw112, h115⟩ := hw112
                          have h115 : r114 = (-1) ∨ i1 < sz ∧ r114 = (B 1) i1 := h115
                          obtain rfl : v113 = some (.int r114) := hw112
                          have hP : va_P G.1 pCl (mW G h0 a (upd (upd (upd (upd F 4 (nI sz)) 9 (nI T)) 13 (nI us)) 14 (nI nm)) (updA (updA (updA (updA (updA (updA (updA B 2 g5) 3 g6) 4 g7) 5 g8) 6 g10) 7 g11) 8 g12)) _ := mW_to (F := F) (l1 := [(4, (nI sz)), (9, (nI T)), (13, (nI us)), (14, (nI nm)), (4, (nI sz))]) (l2 := [(4, (nI sz)), (9, (nI T)), (13, (nI us)), (14, (nI nm))]) (V := [(nI sz), (nI T), (nI us), (nI nm), (nI sz), (nI sz), (nI T), (nI us), (nI nm)]) rfl rfl rfl hP
                          have hD : va_D A (mW G h0 a (upd (upd (upd (upd F 4 (nI sz)) 9 (nI T)) 13 (nI us)) 14 (nI nm)) (updA (updA (updA (updA (updA (updA (updA B 2 g5) 3 g6) 4 g7) 5 g8) 6 g10) 7 g11) 8 g12)) := mW_D hD
                          refine W.widen (k := 0) (n := 0) (Nat.le_of_ble_eq_true rfl) (Nat.le_of_ble_eq_true rfl) ?_
                          refine W.eq (g2 := F0 m 290 ls [.int r114]) rfl ?_
                          refine pc_SN (G := G) (As := [.int r114]) (rest := []) hx hb hml hown hq hE hX pX0_al hP hS hA hl.1 (s_isDigit l G r114) (gS pw_1577 pw_1578 pw_1523 pw_1524) hS_X12_isDigit rfl (Nat.le_of_ble_eq_true rfl) dX12_cut_290 ⟨Nat.le_of_ble_eq_true rfl, Nat.le_of_ble_eq_true rfl⟩ ⟨Nat.le_of_ble_eq_true rfl, Nat.le_of_ble_eq_true rfl⟩ (fun v118 u116 H locs hw117 hP hS => ?_)
                          obtain ⟨x119, rfl, hr120, hr121⟩ := hw117
                          refine W.widen (k := 0) (n := 0) (Nat.le_of_ble_eq_true rfl) (Nat.le_of_ble_eq_true rfl) ?_
                          refine W.eq (g2 := F0 m 293 ls [.int x119]) rfl ?_
                          refine lv_if_eq (tgt := 433) hx hb dX12_cut_293 (by decide) (fun c122 => ?_) (fun c122 => ?_)
                          · refine lv_aload_n hx hb dX12_cut_433 rfl (lv_at hl 5 rfl) ?_
                            refine lv_iload_n hx hb dX12_cut_434 rfl (lv_at hl 3 rfl) ?_
                            have hP : va_P G.1 pCl (mW G h0 a (upd (upd (upd (upd (upd F 4 (nI sz)) 9 (nI T)) 13 (nI us)) 14 (nI nm)) 4 (nI sz)) (updA (updA (updA (updA (updA (updA (updA B 2 g5) 3 g6) 4 g7) 5 g8) 6 g10) 7 g11) 8 g12)) _ := hP
                            have hD : va_D A (mW G h0 a (upd (upd (upd (upd (upd F 4 (nI sz)) 9 (nI T)) 13 (nI us)) 14 (nI nm)) 4 (nI sz)) (updA (updA (updA (updA (updA (updA (updA B 2 g5) 3 g6) 4 g7) 5 g8) 6 g10) 7 g11) 8 g12)) := mW_D hD
                            refine pc_V0 (G := G) (As := [.int (nI i1)]) (rest := []) hx hb hml hown hq hE hX pX0_al hP hD hS hA hl.1 (R_sign l G h0 a (upd (upd (upd (upd F 4 (nI sz)) 9 (nI T)) 13 (nI us)) 14 (nI nm)) (updA (updA (updA (updA (updA (updA (updA B 2 g5) 3 g6) 4 g7) 5 g8) 6 g10) 7 g11) 8 g12) i1 sz (by omega) (by omega) htx) (gV pw_1585 pw_1586 pw_1587 pw_1523 pw_1567) hV_X12_sign 0 9 rfl rfl rfl rfl (Nat.le_of_ble_eq_true rfl) dX12_cut_435 ⟨Nat.le_of_ble_eq_true rfl, Nat.le_of_ble_eq_true rfl⟩ ⟨Nat.le_of_ble_eq_true rfl, Nat.le_of_ble_eq_true rfl⟩ (fun v125 u123 H locs hw124 hP hD hS => ?_)
                            obtain ⟨r126, rfl⟩ : ∃ z, z = u123 := ⟨_, rfl⟩
                            obtain ⟨hw124, h127, h128⟩ := hw124
                            have h127 : r126 = 264 → i1 + 3 ≤ sz := h127
                            have h128 : ¬ r126 < 256 → i1 + 2 ≤ sz := h128
                            obtain rfl : v125 = some (.int r126) := hw124
                            have hP : va_P G.1 pCl (mW G h0 a (upd (upd (upd (upd F 4 (nI sz)) 9 (nI T)) 13 (nI us)) 14 (nI nm)) (updA (updA (updA (updA (updA (updA (updA B 2 g5) 3 g6) 4 g7) 5 g8) 6 g10) 7 g11) 8 g12)) _ := mW_to (F := F) (l1 := [(4, (nI sz)), (9, (nI T)), (13, (nI us)), (14, (nI nm)), (4, (nI sz))]) (l2 := [(4, (nI sz)), (9, (nI T)), (13, (nI us)), (14, (nI nm))]) (V := [(nI sz), (nI T), (nI us), (nI nm), (nI sz), (nI sz), (nI T), (nI us), (nI nm)]) rfl rfl rfl hP
                            have hD : va_D A (mW G h0 a (upd (upd (upd (upd F 4 (nI sz)) 9 (nI T)) 13 (nI us)) 14 (nI nm)) (updA (updA (updA (updA (updA (updA (updA B 2 g5) 3 g6) 4 g7) 5 g8) 6 g10) 7 g11) 8 g12)) := mW_D hD
                            refine W.widen (k := 0) (n := 0) (Nat.le_of_ble_eq_true rfl) (Nat.le_of_ble_eq_true rfl) ?_
                            refine W.eq (g2 := F0 m 438 ls [.int r126]) rfl ?_
                            refine lv_istore (lv' := [(4, .int r126), (5, .int 0), (3, .int (nI (i1 + 1))), (1, .int (nI i1)), (2, .int 1), (0, .ref h0)]) hx hb dX12_cut_438 hl (by decide) rfl (fun ls hl => ?_)
                            refine lv_iload hx hb dX12_cut_440 (lv_at hl 0 rfl) ?_
                            refine lv_sipush (v := 264) hx hb dX12_cut_442 (by decide) ?_
                            refine lv_icmp_ne (tgt := 454) hx hb dX12_cut_445 (by decide) (fun c129 => ?_) (fun c129 => ?_)
                            · refine lv_iload hx hb dX12_cut_454 (lv_at hl 0 rfl) ?_
                              refine lv_sipush (v := 256) hx hb dX12_cut_456 (by decide) ?_
                              refine lv_icmp_lt (tgt := 468) hx hb dX12_cut_459 (by decide) (fun c130 => ?_) (fun c130 => ?_)
                              · refine lv_iload_n hx hb dX12_cut_468 rfl (lv_at hl 3 rfl) ?_
                                refine lv_iconst (v := 1) hx hb dX12_cut_469 (by decide) ?_
                                refine lv_iadd hx hb dX12_cut_470 ?_
                                refine lv_topi (fun x131 e132 => ?_)
                                obtain rfl : x131 = nI (i1 + 1) := e132.trans (nI_add (i1) (1))
                                refine lv_istore_n (lv' := [(3, .int (nI (i1 + 1))), (4, .int r126), (5, .int 0), (1, .int (nI i1)), (2, .int 1), (0, .ref h0)]) hx hb dX12_cut_471 rfl hl (by decide) rfl (fun ls hl => ?_)
                                have hP : va_P G.1 pCl (mW G h0 a (upd (upd (upd (upd F 4 (nI sz)) 9 (nI T)) 13 (nI us)) 14 (nI nm)) (updA (updA (updA (updA (updA (updA (updA B 2 g5) 3 g6) 4 g7) 5 g8) 6 g10) 7 g11) 8 g12)) _ := hP
                                have hD : va_D A (mW G h0 a (upd (upd (upd (upd F 4 (nI sz)) 9 (nI T)) 13 (nI us)) 14 (nI nm)) (updA (updA (updA (updA (updA (updA (updA B 2 g5) 3 g6) 4 g7) 5 g8) 6 g10) 7 g11) 8 g12)) := mW_D hD
                                exact cut_j r126 0 (i1 + 1) nm us g10 g11 g12 _ _ _ (by omega) (by omega) (Or.inr (by omega)) (by omega) (by omega) (by omega) hR (fun _ => ⟨0, by omega, rfl⟩) hP hD hS (lv_sub hl [3, 4, 0, 1, 2, 5] rfl)
                              · have hs2 : i1 + 2 ≤ sz := h128 c130
                                refine lv_iload_n hx hb dX12_cut_462 rfl (lv_at hl 3 rfl) ?_
                                refine lv_iconst (v := 2) hx hb dX12_cut_463 (by decide) ?_
                                refine lv_iadd hx hb dX12_cut_464 ?_
                                refine lv_topi (fun x133 e134 => ?_)
                                obtain rfl : x133 = nI (i1 + 2) := e134.trans (nI_add (i1) (2))
                                refine lv_goto (tgt := 471) hx hb dX12_cut_465 (by decide) ?_
                                refine lv_istore_n (lv' := [(3, .int (nI (i1 + 2))), (4, .int r126), (5, .int 0), (1, .int (nI i1)), (2, .int 1), (0, .ref h0)]) hx hb dX12_cut_471 rfl hl (by decide) rfl (fun ls hl => ?_)
                                have hP : va_P G.1 pCl (mW G h0 a (upd (upd (upd (upd F 4 (nI sz)) 9 (nI T)) 13 (nI us)) 14 (nI nm)) (updA (updA (updA (updA (updA (updA (updA B 2 g5) 3 g6) 4 g7) 5 g8) 6 g10) 7 g11) 8 g12)) _ := hP
                                have hD : va_D A (mW G h0 a (upd (upd (upd (upd F 4 (nI sz)) 9 (nI T)) 13 (nI us)) 14 (nI nm)) (updA (updA (updA (updA (updA (updA (updA B 2 g5) 3 g6) 4 g7) 5 g8) 6 g10) 7 g11) 8 g12)) := mW_D hD
                                exact cut_j r126 0 (i1 + 2) nm us g10 g11 g12 _ _ _ (by omega) (by omega) (Or.inr (by omega)) (by omega) (by omega) (by omega) hR (fun _ => ⟨0, by omega, rfl⟩) hP hD hS (lv_sub hl [3, 4, 0, 1, 2, 5] rfl)
                            · have hs3 : i1 + 3 ≤ sz := h127 c129
                              refine lv_iload_n hx hb dX12_cut_448 rfl (lv_at hl 3 rfl) ?_
                              refine lv_iconst (v := 3) hx hb dX12_cut_449 (by decide) ?_
                              refine lv_iadd hx hb dX12_cut_450 ?_
                              refine lv_topi (fun x135 e136 => ?_)
                              obtain rfl : x135 = nI (i1 + 3) := e136.trans (nI_add (i1) (3))
                              refine lv_goto (tgt := 471) hx hb dX12_cut_451 (by decide) ?_
                              refine lv_istore_n (lv' := [(3, .int (nI (i1 + 3))), (4, .int r126), (5, .int 0), (1, .int (nI i1)), (2, .int 1), (0, .ref h0)]) hx hb dX12_cut_471 rfl hl (by decide) rfl (fun ls hl => ?_)
                              have hP : va_P G.1 pCl (mW G h0 a (upd (upd (upd (upd F 4 (nI sz)) 9 (nI T)) 13 (nI us)) 14 (nI nm)) (updA (updA (updA (updA (updA (updA (updA B 2 g5) 3 g6) 4 g7) 5 g8) 6 g10) 7 g11) 8 g12)) _ := hP
                              have hD : va_D A (mW G h0 a (upd (upd (upd (upd F 4 (nI sz)) 9 (nI T)) 13 (nI us)) 14 (nI nm)) (updA (updA (updA (updA (updA (updA (updA B 2 g5) 3 g6) 4 g7) 5 g8) 6 g10) 7 g11) 8 g12)) := mW_D hD
                              exact cut_j r126 0 (i1 + 3) nm us g10 g11 g12 _ _ _ (by omega) (by omega) (Or.inr (by omega)) (by omega) (by omega) (by omega) hR (fun _ => ⟨0, by omega, rfl⟩) hP hD hS (lv_sub hl [3, 4, 0, 1, 2, 5] rfl)
                          · have hc48 : ¬ r114 < 48 := (hr120).resolve_left c122
                            have hlet : i1 < sz ∧ ¬ B 1 i1 = 32 := ⟨chin h115 (noM1 hc48), by rw [← ((h115).resolve_left (noM1 hc48)).2]; exact no32 hc48⟩
                            refine lv_lconst (v := 0) hx hb dX12_cut_296 (by decide) ?_
                            refine lv_lstore (lv' := [(6, .long 0), (5, .int 0), (4, .int 0), (3, .int (nI (i1 + 1))), (1, .int (nI i1)), (2, .int 1), (0, .ref h0)]) hx hb dX12_cut_297 hl (by decide) rfl (fun ls hl => ?_)
                            have loop_d : ∀ (n_d : Nat) (tt : Nat) (H : Heap) (locs : List Loc) (ls : Array Slot), tt ≤ sz → sz + 1 ≤ tt + n_d → (i1 + 1 ≤ tt) → (∀ j : Nat, i1 ≤ j → j < tt → ¬ B 1 j = 32) → va_P G.1 pCl (mW G h0 a (upd (upd (upd (upd F 4 (nI sz)) 9 (nI T)) 13 (nI us)) 14 (nI nm)) (updA (updA (updA (updA (updA (updA (updA B 2 g5) 3 g6) 4 g7) 5 g8) 6 g10) 7 g11) 8 g12)) H → va_D A (mW G h0 a (upd (upd (upd (upd F 4 (nI sz)) 9 (nI T)) 13 (nI us)) 14 (nI nm)) (updA (updA (updA (updA (updA (updA (updA B 2 g5) 3 g6) 4 g7) 5 g8) 6 g10) 7 g11) 8 g12)) → va_S A s.heap H locs → lv_has ls 9 [(6, .long 0), (3, .int (nI tt)), (4, .int 0), (5, .int 0), (1, .int (nI i1)), (2, .int 1), (0, .ref h0)] → W p l e (headSpec (Cond.code yX12_cut cX12_cut 9 none :: pw) ({ frames := 7, cells := 0, slots := 0, locals := 174 } : Room)).room s m ([.ref h0] : List Value).toArray below meth c H locs 0 0 (MQ below (pQ G A (fun (v : Option Value) (u : Nat × Nat × Nat × (Nat → Int32) × (Nat → Int32) × (Nat → Int32) × (Nat → Int32) × (Nat → Int32) × (Nat → Int32) × (Nat → Int32)) => v = none ∧ (u.1 ≤ sz) ∧ (u.2.2.2.2.2.2.1 u.1 = 0 ∨ u.2.2.2.2.2.2.1 u.1 = 3) ∧ (rNm u.2.1 u.2.2.1 u.2.2.2.1 u.2.2.2.2.1) ∧ (u.2.1 ≤ 9 + sz) ∧ (u.2.2.1 ≤ 40 + sz) ∧ (rTk u.1 u.2.1 u.2.2.2.2.2.2.1 u.2.2.2.2.2.2.2.2.2) ∧ (9 ≤ u.2.1)) (fun u => (mW G h0 a (upd (upd (upd (upd F 4 (nI sz)) 9 (nI u.1)) 13 (nI u.2.2.1)) 14 (nI u.2.1)) (updA (updA (updA (updA (updA (updA (updA B 2 u.2.2.2.2.2.2.1) 3 u.2.2.2.2.2.2.2.1) 4 u.2.2.2.2.2.2.2.2.1) 5 u.2.2.2.2.2.2.2.2.2) 6 u.2.2.2.1) 7 u.2.2.2.2.1) 8 u.2.2.2.2.2.1)))) ([.ref h0] : List Value).toArray s ({ frames := 7, cells := 0, slots := 0, locals := 174 } : Room).cells ({ frames := 7, cells := 0, slots := 0, locals := 174 } : Room).slots A) (F0 m 299 ls []) := by
                              intro n_d
                              induction n_d with
                              | zero => intro tt H locs ls hk_d hn_d; omega
                              | succ n_d ih_d =>
                                intro tt H locs ls hk_d hn_d ht1 htt hP hD hS hl
                                refine lv_aload_n hx hb dX12_cut_299 rfl (lv_at hl 6 rfl) ?_
                                refine lv_iload_n hx hb dX12_cut_300 rfl (lv_at hl 1 rfl) ?_
                                have hP : va_P G.1 pCl (mW G h0 a (upd (upd (upd (upd (upd F 4 (nI sz)) 9 (nI T)) 13 (nI us)) 14 (nI nm)) 4 (nI sz)) (updA (updA (updA (updA (updA (updA (updA B 2 g5) 3 g6) 4 g7) 5 g8) 6 g10) 7 g11) 8 g12)) _ := mW_to (F := F) (l1 := [(4, (nI sz)), (9, (nI T)), (13, (nI us)), (14, (nI nm))]) (l2 := [(4, (nI sz)), (9, (nI T)), (13, (nI us)), (14, (nI nm)), (4, (nI sz))]) (V := [(nI sz), (nI T), (nI us), (nI nm), (nI sz), (nI T), (nI us), (nI nm), (nI sz)]) rfl rfl rfl hP
                                have hD : va_D A (mW G h0 a (upd (upd (upd (upd (upd F 4 (nI sz)) 9 (nI T)) 13 (nI us)) 14 (nI nm)) 4 (nI sz)) (updA (updA (updA (updA (updA (updA (updA B 2 g5) 3 g6) 4 g7) 5 g8) 6 g10) 7 g11) 8 g12)) := mW_D hD
                                refine pc_V0 (G := G) (As := [.int (nI tt)]) (rest := []) hx hb hml hown hq hE hX pX0_al hP hD hS hA hl.1 (R_ch l G h0 a (upd (upd (upd (upd F 4 (nI sz)) 9 (nI T)) 13 (nI us)) 14 (nI nm)) (updA (updA (updA (updA (updA (updA (updA B 2 g5) 3 g6) 4 g7) 5 g8) 6 g10) 7 g11) 8 g12) tt sz (by omega) (by omega)) (gV pw_1561 pw_1562 pw_1563 pw_1523 pw_1518) hV_X12_ch 0 9 rfl rfl rfl rfl (Nat.le_of_ble_eq_true rfl) dX12_cut_301 ⟨Nat.le_of_ble_eq_true rfl, Nat.le_of_ble_eq_true rfl⟩ ⟨Nat.le_of_ble_eq_true rfl, Nat.le_of_ble_eq_true rfl⟩ (fun v139 u137 H locs hw138 hP hD hS => ?_)
                                obtain ⟨r140, rfl⟩ : ∃ z, z = u137 := ⟨_, rfl⟩
                                obtain ⟨hw138, h141⟩ := hw138
                                have h141 : r140 = (-1) ∨ tt < sz ∧ r140 = (B 1) tt := h141
                                obtain rfl : v139 = some (.int r140) := hw138
                                have hP : va_P G.1 pCl (mW G h0 a (upd (upd (upd (upd F 4 (nI sz)) 9 (nI T)) 13 (nI us)) 14 (nI nm)) (updA (updA (updA (updA (updA (updA (updA B 2 g5) 3 g6) 4 g7) 5 g8) 6 g10) 7 g11) 8 g12)) _ := mW_to (F := F) (l1 := [(4, (nI sz)), (9, (nI T)), (13, (nI us)), (14, (nI nm)), (4, (nI sz))]) (l2 := [(4, (nI sz)), (9, (nI T)), (13, (nI us)), (14, (nI nm))]) (V := [(nI sz), (nI T), (nI us), (nI nm), (nI sz), (nI sz), (nI T), (nI us), (nI nm)]) rfl rfl rfl hP
                                have hD : va_D A (mW G h0 a (upd (upd (upd (upd F 4 (nI sz)) 9 (nI T)) 13 (nI us)) 14 (nI nm)) (updA (updA (updA (updA (updA (updA (updA B 2 g5) 3 g6) 4 g7) 5 g8) 6 g10) 7 g11) 8 g12)) := mW_D hD
                                refine W.widen (k := 0) (n := 0) (Nat.le_of_ble_eq_true rfl) (Nat.le_of_ble_eq_true rfl) ?_
                                refine W.eq (g2 := F0 m 304 ls [.int r140]) rfl ?_
                                refine pc_SN (G := G) (As := [.int r140]) (rest := []) hx hb hml hown hq hE hX pX0_al hP hS hA hl.1 (s_isLetter l G r140) (gS pw_1575 pw_1576 pw_1523 pw_1520) hS_X12_isLetter rfl (Nat.le_of_ble_eq_true rfl) dX12_cut_304 ⟨Nat.le_of_ble_eq_true rfl, Nat.le_of_ble_eq_true rfl⟩ ⟨Nat.le_of_ble_eq_true rfl, Nat.le_of_ble_eq_true rfl⟩ (fun v144 u142 H locs hw143 hP hS => ?_)
                                obtain ⟨x145, rfl, hr146, hr147⟩ := hw143
                                refine W.widen (k := 0) (n := 0) (Nat.le_of_ble_eq_true rfl) (Nat.le_of_ble_eq_true rfl) ?_
                                refine W.eq (g2 := F0 m 307 ls [.int x145]) rfl ?_
                                refine lv_if_ne (tgt := 321) hx hb dX12_cut_307 (by decide) (fun c148 => ?_) (fun c148 => ?_)
                                · have hc48 : ¬ r140 < 48 := (hr146).resolve_left c148
                                  have hlet2 : tt < sz ∧ ¬ B 1 tt = 32 := ⟨chin h141 (noM1 hc48), by rw [← ((h141).resolve_left (noM1 hc48)).2]; exact no32 hc48⟩
                                  refine lv_iinc (v := (nI (tt + 1))) (lv' := [(3, .int (nI (tt + 1))), (6, .long 0), (4, .int 0), (5, .int 0), (1, .int (nI i1)), (2, .int 1), (0, .ref h0)]) hx hb dX12_cut_321 hl (k := 1) rfl (nI_1 tt) (by decide) rfl (fun ls hl => ?_)
                                  refine lv_goto (tgt := 299) hx hb dX12_cut_324 (by decide) ?_
                                  have hP : va_P G.1 pCl (mW G h0 a (upd (upd (upd (upd F 4 (nI sz)) 9 (nI T)) 13 (nI us)) 14 (nI nm)) (updA (updA (updA (updA (updA (updA (updA B 2 g5) 3 g6) 4 g7) 5 g8) 6 g10) 7 g11) 8 g12)) _ := hP
                                  have hD : va_D A (mW G h0 a (upd (upd (upd (upd F 4 (nI sz)) 9 (nI T)) 13 (nI us)) 14 (nI nm)) (updA (updA (updA (updA (updA (updA (updA B 2 g5) 3 g6) 4 g7) 5 g8) 6 g10) 7 g11) 8 g12)) := mW_D hD
                                  exact ih_d (tt + 1) _ _ _ (by have := hlet2.1; omega) (by omega) (by omega) (fun j h8 h9 => (Classical.em (j = tt)).elim (fun e9 => by rw [e9]; exact hlet2.2) (fun e9 => htt j h8 (by omega))) hP hD hS (lv_sub hl [1, 0, 2, 3, 4, 5, 6] rfl)
                                · refine lv_aload_n hx hb dX12_cut_310 rfl (lv_at hl 6 rfl) ?_
                                  refine lv_iload_n hx hb dX12_cut_311 rfl (lv_at hl 1 rfl) ?_
                                  have hP : va_P G.1 pCl (mW G h0 a (upd (upd (upd (upd (upd F 4 (nI sz)) 9 (nI T)) 13 (nI us)) 14 (nI nm)) 4 (nI sz)) (updA (updA (updA (updA (updA (updA (updA B 2 g5) 3 g6) 4 g7) 5 g8) 6 g10) 7 g11) 8 g12)) _ := hP
                                  have hD : va_D A (mW G h0 a (upd (upd (upd (upd (upd F 4 (nI sz)) 9 (nI T)) 13 (nI us)) 14 (nI nm)) 4 (nI sz)) (updA (updA (updA (updA (updA (updA (updA B 2 g5) 3 g6) 4 g7) 5 g8) 6 g10) 7 g11) 8 g12)) := mW_D hD
                                  refine pc_V0 (G := G) (As := [.int (nI tt)]) (rest := []) hx hb hml hown hq hE hX pX0_al hP hD hS hA hl.1 (R_ch l G h0 a (upd (upd (upd (upd F 4 (nI sz)) 9 (nI T)) 13 (nI us)) 14 (nI nm)) (updA (updA (updA (updA (updA (updA (updA B 2 g5) 3 g6) 4 g7) 5 g8) 6 g10) 7 g11) 8 g12) tt sz (by omega) (by omega)) (gV pw_1561 pw_1562 pw_1563 pw_1523 pw_1518) hV_X12_ch 0 9 rfl rfl rfl rfl (Nat.le_of_ble_eq_true rfl) dX12_cut_312 ⟨Nat.le_of_ble_eq_true rfl, Nat.le_of_ble_eq_true rfl⟩ ⟨Nat.le_of_ble_eq_true rfl, Nat.le_of_ble_eq_true rfl⟩ (fun v151 u149 H locs hw150 hP hD hS => ?_)
                                  obtain ⟨r152, rfl⟩ : ∃ z, z = u149 := ⟨_, rfl⟩
                                  obtain ⟨hw150, h153⟩ := hw150
                                  have h153 : r152 = (-1) ∨ tt < sz ∧ r152 = (B 1) tt := h153
                                  obtain rfl : v151 = some (.int r152) := hw150
                                  have hP : va_P G.1 pCl (mW G h0 a (upd (upd (upd (upd F 4 (nI sz)) 9 (nI T)) 13 (nI us)) 14 (nI nm)) (updA (updA (updA (updA (updA (updA (updA B 2 g5) 3 g6) 4 g7) 5 g8) 6 g10) 7 g11) 8 g12)) _ := mW_to (F := F) (l1 := [(4, (nI sz)), (9, (nI T)), (13, (nI us)), (14, (nI nm)), (4, (nI sz))]) (l2 := [(4, (nI sz)), (9, (nI T)), (13, (nI us)), (14, (nI nm))]) (V := [(nI sz), (nI T), (nI us), (nI nm), (nI sz), (nI sz), (nI T), (nI us), (nI nm)]) rfl rfl rfl hP
                                  have hD : va_D A (mW G h0 a (upd (upd (upd (upd F 4 (nI sz)) 9 (nI T)) 13 (nI us)) 14 (nI nm)) (updA (updA (updA (updA (updA (updA (updA B 2 g5) 3 g6) 4 g7) 5 g8) 6 g10) 7 g11) 8 g12)) := mW_D hD
                                  refine W.widen (k := 0) (n := 0) (Nat.le_of_ble_eq_true rfl) (Nat.le_of_ble_eq_true rfl) ?_
                                  refine W.eq (g2 := F0 m 315 ls [.int r152]) rfl ?_
                                  refine pc_SN (G := G) (As := [.int r152]) (rest := []) hx hb hml hown hq hE hX pX0_al hP hS hA hl.1 (s_isDigit l G r152) (gS pw_1577 pw_1578 pw_1523 pw_1524) hS_X12_isDigit rfl (Nat.le_of_ble_eq_true rfl) dX12_cut_315 ⟨Nat.le_of_ble_eq_true rfl, Nat.le_of_ble_eq_true rfl⟩ ⟨Nat.le_of_ble_eq_true rfl, Nat.le_of_ble_eq_true rfl⟩ (fun v156 u154 H locs hw155 hP hS => ?_)
                                  obtain ⟨x157, rfl, hr158, hr159⟩ := hw155
                                  refine W.widen (k := 0) (n := 0) (Nat.le_of_ble_eq_true rfl) (Nat.le_of_ble_eq_true rfl) ?_
                                  refine W.eq (g2 := F0 m 318 ls [.int x157]) rfl ?_
                                  refine lv_if_eq (tgt := 327) hx hb dX12_cut_318 (by decide) (fun c160 => ?_) (fun c160 => ?_)
                                  · refine lv_iload_n hx hb dX12_cut_327 rfl (lv_at hl 1 rfl) ?_
                                    refine lv_iload_n hx hb dX12_cut_328 rfl (lv_at hl 4 rfl) ?_
                                    refine lv_isub hx hb dX12_cut_329 ?_
                                    refine lv_topi (fun x161 e162 => ?_)
                                    obtain rfl : x161 = nI (tt - i1) := e162.trans (nI_subN (a := i1) (b := tt) (by omega))
                                    refine lv_bipush (v := 10) hx hb dX12_cut_330 (by decide) ?_
                                    refine lv_icmp_le (tgt := 339) hx hb dX12_cut_332 (by decide) (fun c163 => ?_) (fun c163 => ?_)
                                    · have n164 : (tt - i1) ≤ 10 := (nI_leI (a := (tt - i1)) (b := 10) (by omega) (by omega)).mp c163
                                      refine lv_iconst (v := 2) hx hb dX12_cut_339 (by decide) ?_
                                      refine lv_istore (lv' := [(4, .int 2), (6, .long 0), (3, .int (nI tt)), (5, .int 0), (1, .int (nI i1)), (2, .int 1), (0, .ref h0)]) hx hb dX12_cut_340 hl (by decide) rfl (fun ls hl => ?_)
                                      refine lv_iload_n hx hb dX12_cut_342 rfl (lv_at hl 4 rfl) ?_
                                      refine lv_istore (lv' := [(8, .int (nI i1)), (4, .int 2), (6, .long 0), (3, .int (nI tt)), (5, .int 0), (1, .int (nI i1)), (2, .int 1), (0, .ref h0)]) hx hb dX12_cut_343 hl (by decide) rfl (fun ls hl => ?_)
                                      have loop_v : ∀ (n_v : Nat) (k8 : Nat) (vl : Int64) (kd : Int32) (H : Heap) (locs : List Loc) (ls : Array Slot), k8 ≤ tt → tt + 1 ≤ k8 + n_v → (i1 ≤ k8) → (kd = 2 ∨ kd = 3) → va_P G.1 pCl (mW G h0 a (upd (upd (upd (upd F 4 (nI sz)) 9 (nI T)) 13 (nI us)) 14 (nI nm)) (updA (updA (updA (updA (updA (updA (updA B 2 g5) 3 g6) 4 g7) 5 g8) 6 g10) 7 g11) 8 g12)) H → va_D A (mW G h0 a (upd (upd (upd (upd F 4 (nI sz)) 9 (nI T)) 13 (nI us)) 14 (nI nm)) (updA (updA (updA (updA (updA (updA (updA B 2 g5) 3 g6) 4 g7) 5 g8) 6 g10) 7 g11) 8 g12)) → va_S A s.heap H locs → lv_has ls 9 [(8, .int (nI k8)), (4, .int kd), (6, .long vl), (3, .int (nI tt)), (5, .int 0), (1, .int (nI i1)), (2, .int 1), (0, .ref h0)] → W p l e (headSpec (Cond.code yX12_cut cX12_cut 9 none :: pw) ({ frames := 7, cells := 0, slots := 0, locals := 174 } : Room)).room s m ([.ref h0] : List Value).toArray below meth c H locs 0 0 (MQ below (pQ G A (fun (v : Option Value) (u : Nat × Nat × Nat × (Nat → Int32) × (Nat → Int32) × (Nat → Int32) × (Nat → Int32) × (Nat → Int32) × (Nat → Int32) × (Nat → Int32)) => v = none ∧ (u.1 ≤ sz) ∧ (u.2.2.2.2.2.2.1 u.1 = 0 ∨ u.2.2.2.2.2.2.1 u.1 = 3) ∧ (rNm u.2.1 u.2.2.1 u.2.2.2.1 u.2.2.2.2.1) ∧ (u.2.1 ≤ 9 + sz) ∧ (u.2.2.1 ≤ 40 + sz) ∧ (rTk u.1 u.2.1 u.2.2.2.2.2.2.1 u.2.2.2.2.2.2.2.2.2) ∧ (9 ≤ u.2.1)) (fun u => (mW G h0 a (upd (upd (upd (upd F 4 (nI sz)) 9 (nI u.1)) 13 (nI u.2.2.1)) 14 (nI u.2.1)) (updA (updA (updA (updA (updA (updA (updA B 2 u.2.2.2.2.2.2.1) 3 u.2.2.2.2.2.2.2.1) 4 u.2.2.2.2.2.2.2.2.1) 5 u.2.2.2.2.2.2.2.2.2) 6 u.2.2.2.1) 7 u.2.2.2.2.1) 8 u.2.2.2.2.2.1)))) ([.ref h0] : List Value).toArray s ({ frames := 7, cells := 0, slots := 0, locals := 174 } : Room).cells ({ frames := 7, cells := 0, slots := 0, locals := 174 } : Room).slots A) (F0 m 345 ls []) := by
                                        intro n_v
                                        induction n_v with
                                        | zero => intro k8 vl kd H locs ls hk_v hn_v; omega
                                        | succ n_v ih_v =>
                                          intro k8 vl kd H locs ls hk_v hn_v hk0 hkd hP hD hS hl
                                          refine lv_iload hx hb dX12_cut_345 (lv_at hl 1 rfl) ?_
                                          refine lv_iconst (v := 2) hx hb dX12_cut_347 (by decide) ?_
                                          refine lv_icmp_ne (tgt := 402) hx hb dX12_cut_348 (by decide) (fun c165 => ?_) (fun c165 => ?_)
                                          · refine lv_iload hx hb dX12_cut_402 (lv_at hl 1 rfl) ?_
                                            refine lv_iconst (v := 2) hx hb dX12_cut_404 (by decide) ?_
                                            refine lv_icmp_ne (tgt := 421) hx hb dX12_cut_405 (by decide) (fun c166 => ?_) (fun c166 => ?_)
                                            · refine lv_iload hx hb dX12_cut_421 (lv_at hl 1 rfl) ?_
                                              refine lv_istore (lv' := [(4, .int kd), (8, .int (nI k8)), (6, .long vl), (3, .int (nI tt)), (5, .int 0), (1, .int (nI i1)), (2, .int 1), (0, .ref h0)]) hx hb dX12_cut_423 hl (by decide) rfl (fun ls hl => ?_)
                                              refine lv_lload hx hb dX12_cut_425 (lv_at hl 2 rfl) ?_
                                              refine lv_l2i hx hb dX12_cut_427 rfl ?_
                                              refine lv_topi (fun x167 e168 => ?_)
                                              refine lv_istore (lv' := [(5, .int x167), (4, .int kd), (8, .int (nI k8)), (6, .long vl), (3, .int (nI tt)), (1, .int (nI i1)), (2, .int 1), (0, .ref h0)]) hx hb dX12_cut_428 hl (by decide) rfl (fun ls hl => ?_)
                                              refine lv_goto (tgt := 472) hx hb dX12_cut_430 (by decide) ?_
                                              have hP : va_P G.1 pCl (mW G h0 a (upd (upd (upd (upd F 4 (nI sz)) 9 (nI T)) 13 (nI us)) 14 (nI nm)) (updA (updA (updA (updA (updA (updA (updA B 2 g5) 3 g6) 4 g7) 5 g8) 6 g10) 7 g11) 8 g12)) _ := hP
                                              have hD : va_D A (mW G h0 a (upd (upd (upd (upd F 4 (nI sz)) 9 (nI T)) 13 (nI us)) 14 (nI nm)) (updA (updA (updA (updA (updA (updA (updA B 2 g5) 3 g6) 4 g7) 5 g8) 6 g10) 7 g11) 8 g12)) := mW_D hD
                                              exact cut_j kd x167 tt nm us g10 g11 g12 _ _ _ (by omega) (by omega) (Or.inr (by omega)) (by omega) (by omega) (by omega) hR (fun e9 => by rcases hkd with h8 | h8 <;> rw [h8] at e9 <;> exact absurd e9 (by decide)) hP hD hS (lv_sub hl [5, 6, 4, 1, 0, 7] rfl)
                                            · refine lv_lload hx hb dX12_cut_408 (lv_at hl 2 rfl) ?_
                                              refine lv_ldc2 (v := 2147483647) hx hb hown (hq _ pw_1571) dX12_cut_410 ?_
                                              refine W.lcmp hx hb dX12_cut_413 ?_
                                              refine lv_topi (fun x169 e170 => ?_)
                                              refine lv_if_le (tgt := 421) hx hb dX12_cut_414 (by decide) (fun c171 => ?_) (fun c171 => ?_)
                                              · refine lv_iload hx hb dX12_cut_421 (lv_at hl 1 rfl) ?_
                                                refine lv_istore (lv' := [(4, .int kd), (8, .int (nI k8)), (6, .long vl), (3, .int (nI tt)), (5, .int 0), (1, .int (nI i1)), (2, .int 1), (0, .ref h0)]) hx hb dX12_cut_423 hl (by decide) rfl (fun ls hl => ?_)
                                                refine lv_lload hx hb dX12_cut_425 (lv_at hl 2 rfl) ?_
                                                refine lv_l2i hx hb dX12_cut_427 rfl ?_
                                                refine lv_topi (fun x172 e173 => ?_)
                                                refine lv_istore (lv' := [(5, .int x172), (4, .int kd), (8, .int (nI k8)), (6, .long vl), (3, .int (nI tt)), (1, .int (nI i1)), (2, .int 1), (0, .ref h0)]) hx hb dX12_cut_428 hl (by decide) rfl (fun ls hl => ?_)
                                                refine lv_goto (tgt := 472) hx hb dX12_cut_430 (by decide) ?_
                                                have hP : va_P G.1 pCl (mW G h0 a (upd (upd (upd (upd F 4 (nI sz)) 9 (nI T)) 13 (nI us)) 14 (nI nm)) (updA (updA (updA (updA (updA (updA (updA B 2 g5) 3 g6) 4 g7) 5 g8) 6 g10) 7 g11) 8 g12)) _ := hP
                                                have hD : va_D A (mW G h0 a (upd (upd (upd (upd F 4 (nI sz)) 9 (nI T)) 13 (nI us)) 14 (nI nm)) (updA (updA (updA (updA (updA (updA (updA B 2 g5) 3 g6) 4 g7) 5 g8) 6 g10) 7 g11) 8 g12)) := mW_D hD
                                                exact cut_j kd x172 tt nm us g10 g11 g12 _ _ _ (by omega) (by omega) (Or.inr (by omega)) (by omega) (by omega) (by omega) hR (fun e9 => by rcases hkd with h8 | h8 <;> rw [h8] at e9 <;> exact absurd e9 (by decide)) hP hD hS (lv_sub hl [5, 6, 4, 1, 0, 7] rfl)
                                              · refine lv_iconst (v := 3) hx hb dX12_cut_417 (by decide) ?_
                                                refine lv_goto (tgt := 423) hx hb dX12_cut_418 (by decide) ?_
                                                refine lv_istore (lv' := [(4, .int 3), (8, .int (nI k8)), (6, .long vl), (3, .int (nI tt)), (5, .int 0), (1, .int (nI i1)), (2, .int 1), (0, .ref h0)]) hx hb dX12_cut_423 hl (by decide) rfl (fun ls hl => ?_)
                                                refine lv_lload hx hb dX12_cut_425 (lv_at hl 2 rfl) ?_
                                                refine lv_l2i hx hb dX12_cut_427 rfl ?_
                                                refine lv_topi (fun x174 e175 => ?_)
                                                refine lv_istore (lv' := [(5, .int x174), (4, .int 3), (8, .int (nI k8)), (6, .long vl), (3, .int (nI tt)), (1, .int (nI i1)), (2, .int 1), (0, .ref h0)]) hx hb dX12_cut_428 hl (by decide) rfl (fun ls hl => ?_)
                                                refine lv_goto (tgt := 472) hx hb dX12_cut_430 (by decide) ?_
                                                have hP : va_P G.1 pCl (mW G h0 a (upd (upd (upd (upd F 4 (nI sz)) 9 (nI T)) 13 (nI us)) 14 (nI nm)) (updA (updA (updA (updA (updA (updA (updA B 2 g5) 3 g6) 4 g7) 5 g8) 6 g10) 7 g11) 8 g12)) _ := hP
                                                have hD : va_D A (mW G h0 a (upd (upd (upd (upd F 4 (nI sz)) 9 (nI T)) 13 (nI us)) 14 (nI nm)) (updA (updA (updA (updA (updA (updA (updA B 2 g5) 3 g6) 4 g7) 5 g8) 6 g10) 7 g11) 8 g12)) := mW_D hD
                                                exact cut_j 3 x174 tt nm us g10 g11 g12 _ _ _ (by omega) (by omega) (Or.inr (by omega)) (by omega) (by omega) (by omega) hR (fun e9 => absurd e9 (by decide)) hP hD hS (lv_sub hl [5, 6, 4, 1, 0, 7] rfl)
                                          · refine lv_iload hx hb dX12_cut_351 (lv_at hl 0 rfl) ?_
                                            refine lv_iload_n hx hb dX12_cut_353 rfl (lv_at hl 3 rfl) ?_
                                            refine lv_icmp_ge (tgt := 402) hx hb dX12_cut_354 (by decide) (fun c176 => ?_) (fun c176 => ?_)
                                            · have n177 : tt ≤ k8 := (nI_leI (a := tt) (b := k8) (by omega) (by omega)).mp c176
                                              refine lv_iload hx hb dX12_cut_402 (lv_at hl 1 rfl) ?_
                                              refine lv_iconst (v := 2) hx hb dX12_cut_404 (by decide) ?_
                                              refine lv_icmp_ne (tgt := 421) hx hb dX12_cut_405 (by decide) (fun c178 => ?_) (fun c178 => ?_)
                                              · refine lv_iload hx hb dX12_cut_421 (lv_at hl 1 rfl) ?_
                                                refine lv_istore (lv' := [(4, .int kd), (8, .int (nI k8)), (6, .long vl), (3, .int (nI tt)), (5, .int 0), (1, .int (nI i1)), (2, .int 1), (0, .ref h0)]) hx hb dX12_cut_423 hl (by decide) rfl (fun ls hl => ?_)
                                                refine lv_lload hx hb dX12_cut_425 (lv_at hl 2 rfl) ?_
                                                refine lv_l2i hx hb dX12_cut_427 rfl ?_
                                                refine lv_topi (fun x179 e180 => ?_)
                                                refine lv_istore (lv' := [(5, .int x179), (4, .int kd), (8, .int (nI k8)), (6, .long vl), (3, .int (nI tt)), (1, .int (nI i1)), (2, .int 1), (0, .ref h0)]) hx hb dX12_cut_428 hl (by decide) rfl (fun ls hl => ?_)
                                                refine lv_goto (tgt := 472) hx hb dX12_cut_430 (by decide) ?_
                                                have hP : va_P G.1 pCl (mW G h0 a (upd (upd (upd (upd F 4 (nI sz)) 9 (nI T)) 13 (nI us)) 14 (nI nm)) (updA (updA (updA (updA (updA (updA (updA B 2 g5) 3 g6) 4 g7) 5 g8) 6 g10) 7 g11) 8 g12)) _ := hP
                                                have hD : va_D A (mW G h0 a (upd (upd (upd (upd F 4 (nI sz)) 9 (nI T)) 13 (nI us)) 14 (nI nm)) (updA (updA (updA (updA (updA (updA (updA B 2 g5) 3 g6) 4 g7) 5 g8) 6 g10) 7 g11) 8 g12)) := mW_D hD
                                                exact cut_j kd x179 tt nm us g10 g11 g12 _ _ _ (by omega) (by omega) (Or.inr (by omega)) (by omega) (by omega) (by omega) hR (fun e9 => by rcases hkd with h8 | h8 <;> rw [h8] at e9 <;> exact absurd e9 (by decide)) hP hD hS (lv_sub hl [5, 6, 4, 1, 0, 7] rfl)
                                              · refine lv_lload hx hb dX12_cut_408 (lv_at hl 2 rfl) ?_
                                                refine lv_ldc2 (v := 2147483647) hx hb hown (hq _ pw_1571) dX12_cut_410 ?_
                                                refine W.lcmp hx hb dX12_cut_413 ?_
                                                refine lv_topi (fun x181 e182 => ?_)
                                                refine lv_if_le (tgt := 421) hx hb dX12_cut_414 (by decide) (fun c183 => ?_) (fun c183 => ?_)
                                                · refine lv_iload hx hb dX12_cut_421 (lv_at hl 1 rfl) ?_
                                                  refine lv_istore (lv' := [(4, .int kd), (8, .int (nI k8)), (6, .long vl), (3, .int (nI tt)), (5, .int 0), (1, .int (nI i1)), (2, .int 1), (0, .ref h0)]) hx hb dX12_cut_423 hl (by decide) rfl (fun ls hl => ?_)
                                                  refine lv_lload hx hb dX12_cut_425 (lv_at hl 2 rfl) ?_
                                                  refine lv_l2i hx hb dX12_cut_427 rfl ?_
                                                  refine lv_topi (fun x184 e185 => ?_)
                                                  refine lv_istore (lv' := [(5, .int x184), (4, .int kd), (8, .int (nI k8)), (6, .long vl), (3, .int (nI tt)), (1, .int (nI i1)), (2, .int 1), (0, .ref h0)]) hx hb dX12_cut_428 hl (by decide) rfl (fun ls hl => ?_)
                                                  refine lv_goto (tgt := 472) hx hb dX12_cut_430 (by decide) ?_
                                                  have hP : va_P G.1 pCl (mW G h0 a (upd (upd (upd (upd F 4 (nI sz)) 9 (nI T)) 13 (nI us)) 14 (nI nm)) (updA (updA (updA (updA (updA (updA (updA B 2 g5) 3 g6) 4 g7) 5 g8) 6 g10) 7 g11) 8 g12)) _ := hP
                                                  have hD : va_D A (mW G h0 a (upd (upd (upd (upd F 4 (nI sz)) 9 (nI T)) 13 (nI us)) 14 (nI nm)) (updA (updA (updA (updA (updA (updA (updA B 2 g5) 3 g6) 4 g7) 5 g8) 6 g10) 7 g11) 8 g12)) := mW_D hD
                                                  exact cut_j kd x184 tt nm us g10 g11 g12 _ _ _ (by omega) (by omega) (Or.inr (by omega)) (by omega) (by omega) (by omega) hR (fun e9 => by rcases hkd with h8 | h8 <;> rw [h8] at e9 <;> exact absurd e9 (by decide)) hP hD hS (lv_sub hl [5, 6, 4, 1, 0, 7] rfl)
                                                · refine lv_iconst (v := 3) hx hb dX12_cut_417 (by decide) ?_
                                                  refine lv_goto (tgt := 423) hx hb dX12_cut_418 (by decide) ?_
                                                  refine lv_istore (lv' := [(4, .int 3), (8, .int (nI k8)), (6, .long vl), (3, .int (nI tt)), (5, .int 0), (1, .int (nI i1)), (2, .int 1), (0, .ref h0)]) hx hb dX12_cut_423 hl (by decide) rfl (fun ls hl => ?_)
                                                  refine lv_lload hx hb dX12_cut_425 (lv_at hl 2 rfl) ?_
                                                  refine lv_l2i hx hb dX12_cut_427 rfl ?_
                                                  refine lv_topi (fun x186 e187 => ?_)
                                                  refine lv_istore (lv' := [(5, .int x186), (4, .int 3), (8, .int (nI k8)), (6, .long vl), (3, .int (nI tt)), (1, .int (nI i1)), (2, .int 1), (0, .ref h0)]) hx hb dX12_cut_428 hl (by decide) rfl (fun ls hl => ?_)
                                                  refine lv_goto (tgt := 472) hx hb dX12_cut_430 (by decide) ?_
                                                  have hP : va_P G.1 pCl (mW G h0 a (upd (upd (upd (upd F 4 (nI sz)) 9 (nI T)) 13 (nI us)) 14 (nI nm)) (updA (updA (updA (updA (updA (updA (updA B 2 g5) 3 g6) 4 g7) 5 g8) 6 g10) 7 g11) 8 g12)) _ := hP
                                                  have hD : va_D A (mW G h0 a (upd (upd (upd (upd F 4 (nI sz)) 9 (nI T)) 13 (nI us)) 14 (nI nm)) (updA (updA (updA (updA (updA (updA (updA B 2 g5) 3 g6) 4 g7) 5 g8) 6 g10) 7 g11) 8 g12)) := mW_D hD
                                                  exact cut_j 3 x186 tt nm us g10 g11 g12 _ _ _ (by omega) (by omega) (Or.inr (by omega)) (by omega) (by omega) (by omega) hR (fun e9 => absurd e9 (by decide)) hP hD hS (lv_sub hl [5, 6, 4, 1, 0, 7] rfl)
                                            · have n188 : ¬ (tt ≤ k8) := fun h9 => c176 ((nI_leI (a := tt) (b := k8) (by omega) (by omega)).mpr h9)
                                              refine lv_aload_n hx hb dX12_cut_357 rfl (lv_at hl 7 rfl) ?_
                                              refine lv_iload hx hb dX12_cut_358 (lv_at hl 0 rfl) ?_
                                              have hP : va_P G.1 pCl (mW G h0 a (upd (upd (upd (upd (upd F 4 (nI sz)) 9 (nI T)) 13 (nI us)) 14 (nI nm)) 4 (nI sz)) (updA (updA (updA (updA (updA (updA (updA B 2 g5) 3 g6) 4 g7) 5 g8) 6 g10) 7 g11) 8 g12)) _ := mW_to (F := F) (l1 := [(4, (nI sz)), (9, (nI T)), (13, (nI us)), (14, (nI nm))]) (l2 := [(4, (nI sz)), (9, (nI T)), (13, (nI us)), (14, (nI nm)), (4, (nI sz))]) (V := [(nI sz), (nI T), (nI us), (nI nm), (nI sz), (nI T), (nI us), (nI nm), (nI sz)]) rfl rfl rfl hP
                                              have hD : va_D A (mW G h0 a (upd (upd (upd (upd (upd F 4 (nI sz)) 9 (nI T)) 13 (nI us)) 14 (nI nm)) 4 (nI sz)) (updA (updA (updA (updA (updA (updA (updA B 2 g5) 3 g6) 4 g7) 5 g8) 6 g10) 7 g11) 8 g12)) := mW_D hD
                                              refine pc_V0 (G := G) (As := [.int (nI k8)]) (rest := []) hx hb hml hown hq hE hX pX0_al hP hD hS hA hl.1 (R_ch l G h0 a (upd (upd (upd (upd F 4 (nI sz)) 9 (nI T)) 13 (nI us)) 14 (nI nm)) (updA (updA (updA (updA (updA (updA (updA B 2 g5) 3 g6) 4 g7) 5 g8) 6 g10) 7 g11) 8 g12) k8 sz (by omega) (by omega)) (gV pw_1561 pw_1562 pw_1563 pw_1523 pw_1518) hV_X12_ch 0 9 rfl rfl rfl rfl (Nat.le_of_ble_eq_true rfl) dX12_cut_360 ⟨Nat.le_of_ble_eq_true rfl, Nat.le_of_ble_eq_true rfl⟩ ⟨Nat.le_of_ble_eq_true rfl, Nat.le_of_ble_eq_true rfl⟩ (fun v191 u189 H locs hw190 hP hD hS => ?_)
                                              obtain ⟨r192, rfl⟩ : ∃ z, z = u189 := ⟨_, rfl⟩
                                              obtain ⟨hw190, h193⟩ := hw190
                                              have h193 : r192 = (-1) ∨ k8 < sz ∧ r192 = (B 1) k8 := h193
                                              obtain rfl : v191 = some (.int r192) := hw190
                                              have hP : va_P G.1 pCl (mW G h0 a (upd (upd (upd (upd F 4 (nI sz)) 9 (nI T)) 13 (nI us)) 14 (nI nm)) (updA (updA (updA (updA (updA (updA (updA B 2 g5) 3 g6) 4 g7) 5 g8) 6 g10) 7 g11) 8 g12)) _ := mW_to (F := F) (l1 := [(4, (nI sz)), (9, (nI T)), (13, (nI us)), (14, (nI nm)), (4, (nI sz))]) (l2 := [(4, (nI sz)), (9, (nI T)), (13, (nI us)), (14, (nI nm))]) (V := [(nI sz), (nI T), (nI us), (nI nm), (nI sz), (nI sz), (nI T), (nI us), (nI nm)]) rfl rfl rfl hP
                                              have hD : va_D A (mW G h0 a (upd (upd (upd (upd F 4 (nI sz)) 9 (nI T)) 13 (nI us)) 14 (nI nm)) (updA (updA (updA (updA (updA (updA (updA B 2 g5) 3 g6) 4 g7) 5 g8) 6 g10) 7 g11) 8 g12)) := mW_D hD
                                              refine W.widen (k := 0) (n := 0) (Nat.le_of_ble_eq_true rfl) (Nat.le_of_ble_eq_true rfl) ?_
                                              refine W.eq (g2 := F0 m 363 ls [.int r192]) rfl ?_
                                              refine pc_SN (G := G) (As := [.int r192]) (rest := []) hx hb hml hown hq hE hX pX0_al hP hS hA hl.1 (s_isDigit l G r192) (gS pw_1577 pw_1578 pw_1523 pw_1524) hS_X12_isDigit rfl (Nat.le_of_ble_eq_true rfl) dX12_cut_363 ⟨Nat.le_of_ble_eq_true rfl, Nat.le_of_ble_eq_true rfl⟩ ⟨Nat.le_of_ble_eq_true rfl, Nat.le_of_ble_eq_true rfl⟩ (fun v196 u194 H locs hw195 hP hS => ?_)
                                              obtain ⟨x197, rfl, hr198, hr199⟩ := hw195
                                              refine W.widen (k := 0) (n := 0) (Nat.le_of_ble_eq_true rfl) (Nat.le_of_ble_eq_true rfl) ?_
                                              refine W.eq (g2 := F0 m 366 ls [.int x197]) rfl ?_
                                              refine lv_if_eq (tgt := 373) hx hb dX12_cut_366 (by decide) (fun c200 => ?_) (fun c200 => ?_)
                                              · refine lv_iconst (v := 3) hx hb dX12_cut_373 (by decide) ?_
                                                refine lv_istore (lv' := [(4, .int 3), (8, .int (nI k8)), (6, .long vl), (3, .int (nI tt)), (5, .int 0), (1, .int (nI i1)), (2, .int 1), (0, .ref h0)]) hx hb dX12_cut_374 hl (by decide) rfl (fun ls hl => ?_)
                                                refine lv_ldc2 (v := 10) hx hb hown (hq _ pw_1569) dX12_cut_376 ?_
                                                refine lv_lload hx hb dX12_cut_379 (lv_at hl 2 rfl) ?_
                                                refine lv_lmul hx hb dX12_cut_381 ?_
                                                refine lv_topl (fun x201 e202 => ?_)
                                                refine lv_aload_n hx hb dX12_cut_382 rfl (lv_at hl 7 rfl) ?_
                                                refine lv_iload hx hb dX12_cut_383 (lv_at hl 1 rfl) ?_
                                                have hP : va_P G.1 pCl (mW G h0 a (upd (upd (upd (upd (upd F 4 (nI sz)) 9 (nI T)) 13 (nI us)) 14 (nI nm)) 4 (nI sz)) (updA (updA (updA (updA (updA (updA (updA B 2 g5) 3 g6) 4 g7) 5 g8) 6 g10) 7 g11) 8 g12)) _ := hP
                                                have hD : va_D A (mW G h0 a (upd (upd (upd (upd (upd F 4 (nI sz)) 9 (nI T)) 13 (nI us)) 14 (nI nm)) 4 (nI sz)) (updA (updA (updA (updA (updA (updA (updA B 2 g5) 3 g6) 4 g7) 5 g8) 6 g10) 7 g11) 8 g12)) := mW_D hD
                                                refine pc_V0 (G := G) (As := [.int (nI k8)]) (rest := [.long x201]) hx hb hml hown hq hE hX pX0_al hP hD hS hA hl.1 (R_ch l G h0 a (upd (upd (upd (upd F 4 (nI sz)) 9 (nI T)) 13 (nI us)) 14 (nI nm)) (updA (updA (updA (updA (updA (updA (updA B 2 g5) 3 g6) 4 g7) 5 g8) 6 g10) 7 g11) 8 g12) k8 sz (by omega) (by omega)) (gV pw_1561 pw_1562 pw_1563 pw_1523 pw_1518) hV_X12_ch 0 9 rfl rfl rfl rfl (Nat.le_of_ble_eq_true rfl) dX12_cut_385 ⟨Nat.le_of_ble_eq_true rfl, Nat.le_of_ble_eq_true rfl⟩ ⟨Nat.le_of_ble_eq_true rfl, Nat.le_of_ble_eq_true rfl⟩ (fun v205 u203 H locs hw204 hP hD hS => ?_)
                                                obtain ⟨r206, rfl⟩ : ∃ z, z = u203 := ⟨_, rfl⟩
                                                obtain ⟨hw204, h207⟩ := hw204
                                                have h207 : r206 = (-1) ∨ k8 < sz ∧ r206 = (B 1) k8 := h207
                                                obtain rfl : v205 = some (.int r206) := hw204
                                                have hP : va_P G.1 pCl (mW G h0 a (upd (upd (upd (upd F 4 (nI sz)) 9 (nI T)) 13 (nI us)) 14 (nI nm)) (updA (updA (updA (updA (updA (updA (updA B 2 g5) 3 g6) 4 g7) 5 g8) 6 g10) 7 g11) 8 g12)) _ := mW_to (F := F) (l1 := [(4, (nI sz)), (9, (nI T)), (13, (nI us)), (14, (nI nm)), (4, (nI sz))]) (l2 := [(4, (nI sz)), (9, (nI T)), (13, (nI us)), (14, (nI nm))]) (V := [(nI sz), (nI T), (nI us), (nI nm), (nI sz), (nI sz), (nI T), (nI us), (nI nm)]) rfl rfl rfl hP
                                                have hD : va_D A (mW G h0 a (upd (upd (upd (upd F 4 (nI sz)) 9 (nI T)) 13 (nI us)) 14 (nI nm)) (updA (updA (updA (updA (updA (updA (updA B 2 g5) 3 g6) 4 g7) 5 g8) 6 g10) 7 g11) 8 g12)) := mW_D hD
                                                refine W.widen (k := 0) (n := 0) (Nat.le_of_ble_eq_true rfl) (Nat.le_of_ble_eq_true rfl) ?_
                                                refine W.eq (g2 := F0 m 388 ls [.int r206, .long x201]) rfl ?_
                                                refine lv_i2l hx hb dX12_cut_388 rfl ?_
                                                refine lv_topl (fun x208 e209 => ?_)
                                                refine lv_ladd hx hb dX12_cut_389 ?_
                                                refine lv_topl (fun x210 e211 => ?_)
                                                refine lv_ldc2 (v := 48) hx hb hown (hq _ pw_1570) dX12_cut_390 ?_
                                                refine lv_lsub hx hb dX12_cut_393 ?_
                                                refine lv_topl (fun x212 e213 => ?_)
                                                refine lv_lstore (lv' := [(6, .long x212), (4, .int 3), (8, .int (nI k8)), (3, .int (nI tt)), (5, .int 0), (1, .int (nI i1)), (2, .int 1), (0, .ref h0)]) hx hb dX12_cut_394 hl (by decide) rfl (fun ls hl => ?_)
                                                refine lv_iinc (v := (nI (k8 + 1))) (lv' := [(8, .int (nI (k8 + 1))), (6, .long x212), (4, .int 3), (3, .int (nI tt)), (5, .int 0), (1, .int (nI i1)), (2, .int 1), (0, .ref h0)]) hx hb dX12_cut_396 hl (k := 2) rfl (nI_1 k8) (by decide) rfl (fun ls hl => ?_)
                                                refine lv_goto (tgt := 345) hx hb dX12_cut_399 (by decide) ?_
                                                have hP : va_P G.1 pCl (mW G h0 a (upd (upd (upd (upd F 4 (nI sz)) 9 (nI T)) 13 (nI us)) 14 (nI nm)) (updA (updA (updA (updA (updA (updA (updA B 2 g5) 3 g6) 4 g7) 5 g8) 6 g10) 7 g11) 8 g12)) _ := hP
                                                have hD : va_D A (mW G h0 a (upd (upd (upd (upd F 4 (nI sz)) 9 (nI T)) 13 (nI us)) 14 (nI nm)) (updA (updA (updA (updA (updA (updA (updA B 2 g5) 3 g6) 4 g7) 5 g8) 6 g10) 7 g11) 8 g12)) := mW_D hD
                                                exact ih_v (k8 + 1) x212 3 _ _ _ (by omega) (by omega) (by omega) (by decide) hP hD hS (lv_sub hl [0, 2, 1, 3, 4, 5, 6, 7] rfl)
                                              · refine lv_iconst (v := 2) hx hb dX12_cut_369 (by decide) ?_
                                                refine lv_goto (tgt := 374) hx hb dX12_cut_370 (by decide) ?_
                                                refine lv_istore (lv' := [(4, .int 2), (8, .int (nI k8)), (6, .long vl), (3, .int (nI tt)), (5, .int 0), (1, .int (nI i1)), (2, .int 1), (0, .ref h0)]) hx hb dX12_cut_374 hl (by decide) rfl (fun ls hl => ?_)
                                                refine lv_ldc2 (v := 10) hx hb hown (hq _ pw_1569) dX12_cut_376 ?_
                                                refine lv_lload hx hb dX12_cut_379 (lv_at hl 2 rfl) ?_
                                                refine lv_lmul hx hb dX12_cut_381 ?_
                                                refine lv_topl (fun x214 e215 => ?_)
                                                refine lv_aload_n hx hb dX12_cut_382 rfl (lv_at hl 7 rfl) ?_
                                                refine lv_iload hx hb dX12_cut_383 (lv_at hl 1 rfl) ?_
                                                have hP : va_P G.1 pCl (mW G h0 a (upd (upd (upd (upd (upd F 4 (nI sz)) 9 (nI T)) 13 (nI us)) 14 (nI nm)) 4 (nI sz)) (updA (updA (updA (updA (updA (updA (updA B 2 g5) 3 g6) 4 g7) 5 g8) 6 g10) 7 g11) 8 g12)) _ := hP
                                                have hD : va_D A (mW G h0 a (upd (upd (upd (upd (upd F 4 (nI sz)) 9 (nI T)) 13 (nI us)) 14 (nI nm)) 4 (nI sz)) (updA (updA (updA (updA (updA (updA (updA B 2 g5) 3 g6) 4 g7) 5 g8) 6 g10) 7 g11) 8 g12)) := mW_D hD
                                                refine pc_V0 (G := G) (As := [.int (nI k8)]) (rest := [.long x214]) hx hb hml hown hq hE hX pX0_al hP hD hS hA hl.1 (R_ch l G h0 a (upd (upd (upd (upd F 4 (nI sz)) 9 (nI T)) 13 (nI us)) 14 (nI nm)) (updA (updA (updA (updA (updA (updA (updA B 2 g5) 3 g6) 4 g7) 5 g8) 6 g10) 7 g11) 8 g12) k8 sz (by omega) (by omega)) (gV pw_1561 pw_1562 pw_1563 pw_1523 pw_1518) hV_X12_ch 0 9 rfl rfl rfl rfl (Nat.le_of_ble_eq_true rfl) dX12_cut_385 ⟨Nat.le_of_ble_eq_true rfl, Nat.le_of_ble_eq_true rfl⟩ ⟨Nat.le_of_ble_eq_true rfl, Nat.le_of_ble_eq_true rfl⟩ (fun v218 u216 H locs hw217 hP hD hS => ?_)
                                                obtain ⟨r219, rfl⟩ : ∃ z, z = u216 := ⟨_, rfl⟩
                                                obtain ⟨hw217, h220⟩ := hw217
                                                have h220 : r219 = (-1) ∨ k8 < sz ∧ r219 = (B 1) k8 := h220
                                                obtain rfl : v218 = some (.int r219) := hw217
                                                have hP : va_P G.1 pCl (mW G h0 a (upd (upd (upd (upd F 4 (nI sz)) 9 (nI T)) 13 (nI us)) 14 (nI nm)) (updA (updA (updA (updA (updA (updA (updA B 2 g5) 3 g6) 4 g7) 5 g8) 6 g10) 7 g11) 8 g12)) _ := mW_to (F := F) (l1 := [(4, (nI sz)), (9, (nI T)), (13, (nI us)), (14, (nI nm)), (4, (nI sz))]) (l2 := [(4, (nI sz)), (9, (nI T)), (13, (nI us)), (14, (nI nm))]) (V := [(nI sz), (nI T), (nI us), (nI nm), (nI sz), (nI sz), (nI T), (nI us), (nI nm)]) rfl rfl rfl hP
                                                have hD : va_D A (mW G h0 a (upd (upd (upd (upd F 4 (nI sz)) 9 (nI T)) 13 (nI us)) 14 (nI nm)) (updA (updA (updA (updA (updA (updA (updA B 2 g5) 3 g6) 4 g7) 5 g8) 6 g10) 7 g11) 8 g12)) := mW_D hD
                                                refine W.widen (k := 0) (n := 0) (Nat.le_of_ble_eq_true rfl) (Nat.le_of_ble_eq_true rfl) ?_
                                                refine W.eq (g2 := F0 m 388 ls [.int r219, .long x214]) rfl ?_
                                                refine lv_i2l hx hb dX12_cut_388 rfl ?_
                                                refine lv_topl (fun x221 e222 => ?_)
                                                refine lv_ladd hx hb dX12_cut_389 ?_
                                                refine lv_topl (fun x223 e224 => ?_)
                                                refine lv_ldc2 (v := 48) hx hb hown (hq _ pw_1570) dX12_cut_390 ?_
                                                refine lv_lsub hx hb dX12_cut_393 ?_
                                                refine lv_topl (fun x225 e226 => ?_)
                                                refine lv_lstore (lv' := [(6, .long x225), (4, .int 2), (8, .int (nI k8)), (3, .int (nI tt)), (5, .int 0), (1, .int (nI i1)), (2, .int 1), (0, .ref h0)]) hx hb dX12_cut_394 hl (by decide) rfl (fun ls hl => ?_)
                                                refine lv_iinc (v := (nI (k8 + 1))) (lv' := [(8, .int (nI (k8 + 1))), (6, .long x225), (4, .int 2), (3, .int (nI tt)), (5, .int 0), (1, .int (nI i1)), (2, .int 1), (0, .ref h0)]) hx hb dX12_cut_396 hl (k := 2) rfl (nI_1 k8) (by decide) rfl (fun ls hl => ?_)
                                                refine lv_goto (tgt := 345) hx hb dX12_cut_399 (by decide) ?_
                                                have hP : va_P G.1 pCl (mW G h0 a (upd (upd (upd (upd F 4 (nI sz)) 9 (nI T)) 13 (nI us)) 14 (nI nm)) (updA (updA (updA (updA (updA (updA (updA B 2 g5) 3 g6) 4 g7) 5 g8) 6 g10) 7 g11) 8 g12)) _ := hP
                                                have hD : va_D A (mW G h0 a (upd (upd (upd (upd F 4 (nI sz)) 9 (nI T)) 13 (nI us)) 14 (nI nm)) (updA (updA (updA (updA (updA (updA (updA B 2 g5) 3 g6) 4 g7) 5 g8) 6 g10) 7 g11) 8 g12)) := mW_D hD
                                                exact ih_v (k8 + 1) x225 2 _ _ _ (by omega) (by omega) (by omega) (by decide) hP hD hS (lv_sub hl [0, 2, 1, 3, 4, 5, 6, 7] rfl)
                                      have hP : va_P G.1 pCl (mW G h0 a (upd (upd (upd (upd F 4 (nI sz)) 9 (nI T)) 13 (nI us)) 14 (nI nm)) (updA (updA (updA (updA (updA (updA (updA B 2 g5) 3 g6) 4 g7) 5 g8) 6 g10) 7 g11) 8 g12)) _ := hP
                                      have hD : va_D A (mW G h0 a (upd (upd (upd (upd F 4 (nI sz)) 9 (nI T)) 13 (nI us)) 14 (nI nm)) (updA (updA (updA (updA (updA (updA (updA B 2 g5) 3 g6) 4 g7) 5 g8) 6 g10) 7 g11) 8 g12)) := mW_D hD
                                      exact loop_v (tt + 1) i1 0 2 _ _ _ (by omega) (by omega) (by omega) (by decide) hP hD hS (lv_sub hl [0, 1, 2, 3, 4, 5, 6, 7] rfl)
                                    · have n227 : ¬ ((tt - i1) ≤ 10) := fun h9 => c163 ((nI_leI (a := (tt - i1)) (b := 10) (by omega) (by omega)).mpr h9)
                                      refine lv_iconst (v := 3) hx hb dX12_cut_335 (by decide) ?_
                                      refine lv_goto (tgt := 340) hx hb dX12_cut_336 (by decide) ?_
                                      refine lv_istore (lv' := [(4, .int 3), (6, .long 0), (3, .int (nI tt)), (5, .int 0), (1, .int (nI i1)), (2, .int 1), (0, .ref h0)]) hx hb dX12_cut_340 hl (by decide) rfl (fun ls hl => ?_)
                                      refine lv_iload_n hx hb dX12_cut_342 rfl (lv_at hl 4 rfl) ?_
                                      refine lv_istore (lv' := [(8, .int (nI i1)), (4, .int 3), (6, .long 0), (3, .int (nI tt)), (5, .int 0), (1, .int (nI i1)), (2, .int 1), (0, .ref h0)]) hx hb dX12_cut_343 hl (by decide) rfl (fun ls hl => ?_)
                                      have loop_v : ∀ (n_v : Nat) (k8 : Nat) (vl : Int64) (kd : Int32) (H : Heap) (locs : List Loc) (ls : Array Slot), k8 ≤ tt → tt + 1 ≤ k8 + n_v → (i1 ≤ k8) → (kd = 2 ∨ kd = 3) → va_P G.1 pCl (mW G h0 a (upd (upd (upd (upd F 4 (nI sz)) 9 (nI T)) 13 (nI us)) 14 (nI nm)) (updA (updA (updA (updA (updA (updA (updA B 2 g5) 3 g6) 4 g7) 5 g8) 6 g10) 7 g11) 8 g12)) H → va_D A (mW G h0 a (upd (upd (upd (upd F 4 (nI sz)) 9 (nI T)) 13 (nI us)) 14 (nI nm)) (updA (updA (updA (updA (updA (updA (updA B 2 g5) 3 g6) 4 g7) 5 g8) 6 g10) 7 g11) 8 g12)) → va_S A s.heap H locs → lv_has ls 9 [(8, .int (nI k8)), (4, .int kd), (6, .long vl), (3, .int (nI tt)), (5, .int 0), (1, .int (nI i1)), (2, .int 1), (0, .ref h0)] → W p l e (headSpec (Cond.code yX12_cut cX12_cut 9 none :: pw) ({ frames := 7, cells := 0, slots := 0, locals := 174 } : Room)).room s m ([.ref h0] : List Value).toArray below meth c H locs 0 0 (MQ below (pQ G A (fun (v : Option Value) (u : Nat × Nat × Nat × (Nat → Int32) × (Nat → Int32) × (Nat → Int32) × (Nat → Int32) × (Nat → Int32) × (Nat → Int32) × (Nat → Int32)) => v = none ∧ (u.1 ≤ sz) ∧ (u.2.2.2.2.2.2.1 u.1 = 0 ∨ u.2.2.2.2.2.2.1 u.1 = 3) ∧ (rNm u.2.1 u.2.2.1 u.2.2.2.1 u.2.2.2.2.1) ∧ (u.2.1 ≤ 9 + sz) ∧ (u.2.2.1 ≤ 40 + sz) ∧ (rTk u.1 u.2.1 u.2.2.2.2.2.2.1 u.2.2.2.2.2.2.2.2.2) ∧ (9 ≤ u.2.1)) (fun u => (mW G h0 a (upd (upd (upd (upd F 4 (nI sz)) 9 (nI u.1)) 13 (nI u.2.2.1)) 14 (nI u.2.1)) (updA (updA (updA (updA (updA (updA (updA B 2 u.2.2.2.2.2.2.1) 3 u.2.2.2.2.2.2.2.1) 4 u.2.2.2.2.2.2.2.2.1) 5 u.2.2.2.2.2.2.2.2.2) 6 u.2.2.2.1) 7 u.2.2.2.2.1) 8 u.2.2.2.2.2.1)))) ([.ref h0] : List Value).toArray s ({ frames := 7, cells := 0, slots := 0, locals := 174 } : Room).cells ({ frames := 7, cells := 0, slots := 0, locals := 174 } : Room).slots A) (F0 m 345 ls []) := by
                                        intro n_v
                                        induction n_v with
                                        | zero => intro k8 vl kd H locs ls hk_v hn_v; omega
                                        | succ n_v ih_v =>
                                          intro k8 vl kd H locs ls hk_v hn_v hk0 hkd hP hD hS hl
                                          refine lv_iload hx hb dX12_cut_345 (lv_at hl 1 rfl) ?_
                                          refine lv_iconst (v := 2) hx hb dX12_cut_347 (by decide) ?_
                                          refine lv_icmp_ne (tgt := 402) hx hb dX12_cut_348 (by decide) (fun c228 => ?_) (fun c228 => ?_)
                                          · refine lv_iload hx hb dX12_cut_402 (lv_at hl 1 rfl) ?_
                                            refine lv_iconst (v := 2) hx hb dX12_cut_404 (by decide) ?_
                                            refine lv_icmp_ne (tgt := 421) hx hb dX12_cut_405 (by decide) (fun c229 => ?_) (fun c229 => ?_)
                                            · refine lv_iload hx hb dX12_cut_421 (lv_at hl 1 rfl) ?_
                                              refine lv_istore (lv' := [(4, .int kd), (8, .int (nI k8)), (6, .long vl), (3, .int (nI tt)), (5, .int 0), (1, .int (nI i1)), (2, .int 1), (0, .ref h0)]) hx hb dX12_cut_423 hl (by decide) rfl (fun ls hl => ?_)
                                              refine lv_lload hx hb dX12_cut_425 (lv_at hl 2 rfl) ?_
                                              refine lv_l2i hx hb dX12_cut_427 rfl ?_
                                              refine lv_topi (fun x230 e231 => ?_)
                                              refine lv_istore (lv' := [(5, .int x230), (4, .int kd), (8, .int (nI k8)), (6, .long vl), (3, .int (nI tt)), (1, .int (nI i1)), (2, .int 1), (0, .ref h0)]) hx hb dX12_cut_428 hl (by decide) rfl (fun ls hl => ?_)
                                              refine lv_goto (tgt := 472) hx hb dX12_cut_430 (by decide) ?_
                                              have hP : va_P G.1 pCl (mW G h0 a (upd (upd (upd (upd F 4 (nI sz)) 9 (nI T)) 13 (nI us)) 14 (nI nm)) (updA (updA (updA (updA (updA (updA (updA B 2 g5) 3 g6) 4 g7) 5 g8) 6 g10) 7 g11) 8 g12)) _ := hP
                                              have hD : va_D A (mW G h0 a (upd (upd (upd (upd F 4 (nI sz)) 9 (nI T)) 13 (nI us)) 14 (nI nm)) (updA (updA (updA (updA (updA (updA (updA B 2 g5) 3 g6) 4 g7) 5 g8) 6 g10) 7 g11) 8 g12)) := mW_D hD
                                              exact cut_j kd x230 tt nm us g10 g11 g12 _ _ _ (by omega) (by omega) (Or.inr (by omega)) (by omega) (by omega) (by omega) hR (fun e9 => by rcases hkd with h8 | h8 <;> rw [h8] at e9 <;> exact absurd e9 (by decide)) hP hD hS (lv_sub hl [5, 6, 4, 1, 0, 7] rfl)
                                            · refine lv_lload hx hb dX12_cut_408 (lv_at hl 2 rfl) ?_
                                              refine lv_ldc2 (v := 2147483647) hx hb hown (hq _ pw_1571) dX12_cut_410 ?_
                                              refine W.lcmp hx hb dX12_cut_413 ?_
                                              refine lv_topi (fun x232 e233 => ?_)
                                              refine lv_if_le (tgt := 421) hx hb dX12_cut_414 (by decide) (fun c234 => ?_) (fun c234 => ?_)
                                              · refine lv_iload hx hb dX12_cut_421 (lv_at hl 1 rfl) ?_
                                                refine lv_istore (lv' := [(4, .int kd), (8, .int (nI k8)), (6, .long vl), (3, .int (nI tt)), (5, .int 0), (1, .int (nI i1)), (2, .int 1), (0, .ref h0)]) hx hb dX12_cut_423 hl (by decide) rfl (fun ls hl => ?_)
                                                refine lv_lload hx hb dX12_cut_425 (lv_at hl 2 rfl) ?_
                                                refine lv_l2i hx hb dX12_cut_427 rfl ?_
                                                refine lv_topi (fun x235 e236 => ?_)
                                                refine lv_istore (lv' := [(5, .int x235), (4, .int kd), (8, .int (nI k8)), (6, .long vl), (3, .int (nI tt)), (1, .int (nI i1)), (2, .int 1), (0, .ref h0)]) hx hb dX12_cut_428 hl (by decide) rfl (fun ls hl => ?_)
                                                refine lv_goto (tgt := 472) hx hb dX12_cut_430 (by decide) ?_
                                                have hP : va_P G.1 pCl (mW G h0 a (upd (upd (upd (upd F 4 (nI sz)) 9 (nI T)) 13 (nI us)) 14 (nI nm)) (updA (updA (updA (updA (updA (updA (updA B 2 g5) 3 g6) 4 g7) 5 g8) 6 g10) 7 g11) 8 g12)) _ := hP
                                                have hD : va_D A (mW G h0 a (upd (upd (upd (upd F 4 (nI sz)) 9 (nI T)) 13 (nI us)) 14 (nI nm)) (updA (updA (updA (updA (updA (updA (updA B 2 g5) 3 g6) 4 g7) 5 g8) 6 g10) 7 g11) 8 g12)) := mW_D hD
                                                exact cut_j kd x235 tt nm us g10 g11 g12 _ _ _ (by omega) (by omega) (Or.inr (by omega)) (by omega) (by omega) (by omega) hR (fun e9 => by rcases hkd with h8 | h8 <;> rw [h8] at e9 <;> exact absurd e9 (by decide)) hP hD hS (lv_sub hl [5, 6, 4, 1, 0, 7] rfl)
                                              · refine lv_iconst (v := 3) hx hb dX12_cut_417 (by decide) ?_
                                                refine lv_goto (tgt := 423) hx hb dX12_cut_418 (by decide) ?_
                                                refine lv_istore (lv' := [(4, .int 3), (8, .int (nI k8)), (6, .long vl), (3, .int (nI tt)), (5, .int 0), (1, .int (nI i1)), (2, .int 1), (0, .ref h0)]) hx hb dX12_cut_423 hl (by decide) rfl (fun ls hl => ?_)
                                                refine lv_lload hx hb dX12_cut_425 (lv_at hl 2 rfl) ?_
                                                refine lv_l2i hx hb dX12_cut_427 rfl ?_
                                                refine lv_topi (fun x237 e238 => ?_)
                                                refine lv_istore (lv' := [(5, .int x237), (4, .int 3), (8, .int (nI k8)), (6, .long vl), (3, .int (nI tt)), (1, .int (nI i1)), (2, .int 1), (0, .ref h0)]) hx hb dX12_cut_428 hl (by decide) rfl (fun ls hl => ?_)
                                                refine lv_goto (tgt := 472) hx hb dX12_cut_430 (by decide) ?_
                                                have hP : va_P G.1 pCl (mW G h0 a (upd (upd (upd (upd F 4 (nI sz)) 9 (nI T)) 13 (nI us)) 14 (nI nm)) (updA (updA (updA (updA (updA (updA (updA B 2 g5) 3 g6) 4 g7) 5 g8) 6 g10) 7 g11) 8 g12)) _ := hP
                                                have hD : va_D A (mW G h0 a (upd (upd (upd (upd F 4 (nI sz)) 9 (nI T)) 13 (nI us)) 14 (nI nm)) (updA (updA (updA (updA (updA (updA (updA B 2 g5) 3 g6) 4 g7) 5 g8) 6 g10) 7 g11) 8 g12)) := mW_D hD
                                                exact cut_j 3 x237 tt nm us g10 g11 g12 _ _ _ (by omega) (by omega) (Or.inr (by omega)) (by omega) (by omega) (by omega) hR (fun e9 => absurd e9 (by decide)) hP hD hS (lv_sub hl [5, 6, 4, 1, 0, 7] rfl)
                                          · refine lv_iload hx hb dX12_cut_351 (lv_at hl 0 rfl) ?_
                                            refine lv_iload_n hx hb dX12_cut_353 rfl (lv_at hl 3 rfl) ?_
                                            refine lv_icmp_ge (tgt := 402) hx hb dX12_cut_354 (by decide) (fun c239 => ?_) (fun c239 => ?_)
                                            · have n240 : tt ≤ k8 := (nI_leI (a := tt) (b := k8) (by omega) (by omega)).mp c239
                                              refine lv_iload hx hb dX12_cut_402 (lv_at hl 1 rfl) ?_
                                              refine lv_iconst (v := 2) hx hb dX12_cut_404 (by decide) ?_
                                              refine lv_icmp_ne (tgt := 421) hx hb dX12_cut_405 (by decide) (fun c241 => ?_) (fun c241 => ?_)
                                              · refine lv_iload hx hb dX12_cut_421 (lv_at hl 1 rfl) ?_
                                                refine lv_istore (lv' := [(4, .int kd), (8, .int (nI k8)), (6, .long vl), (3, .int (nI tt)), (5, .int 0), (1, .int (nI i1)), (2, .int 1), (0, .ref h0)]) hx hb dX12_cut_423 hl (by decide) rfl (fun ls hl => ?_)
                                                refine lv_lload hx hb dX12_cut_425 (lv_at hl 2 rfl) ?_
                                                refine lv_l2i hx hb dX12_cut_427 rfl ?_
                                                refine lv_topi (fun x242 e243 => ?_)
                                                refine lv_istore (lv' := [(5, .int x242), (4, .int kd), (8, .int (nI k8)), (6, .long vl), (3, .int (nI tt)), (1, .int (nI i1)), (2, .int 1), (0, .ref h0)]) hx hb dX12_cut_428 hl (by decide) rfl (fun ls hl => ?_)
                                                refine lv_goto (tgt := 472) hx hb dX12_cut_430 (by decide) ?_
                                                have hP : va_P G.1 pCl (mW G h0 a (upd (upd (upd (upd F 4 (nI sz)) 9 (nI T)) 13 (nI us)) 14 (nI nm)) (updA (updA (updA (updA (updA (updA (updA B 2 g5) 3 g6) 4 g7) 5 g8) 6 g10) 7 g11) 8 g12)) _ := hP
                                                have hD : va_D A (mW G h0 a (upd (upd (upd (upd F 4 (nI sz)) 9 (nI T)) 13 (nI us)) 14 (nI nm)) (updA (updA (updA (updA (updA (updA (updA B 2 g5) 3 g6) 4 g7) 5 g8) 6 g10) 7 g11) 8 g12)) := mW_D hD
                                                exact cut_j kd x242 tt nm us g10 g11 g12 _ _ _ (by omega) (by omega) (Or.inr (by omega)) (by omega) (by omega) (by omega) hR (fun e9 => by rcases hkd with h8 | h8 <;> rw [h8] at e9 <;> exact absurd e9 (by decide)) hP hD hS (lv_sub hl [5, 6, 4, 1, 0, 7] rfl)
                                              · refine lv_lload hx hb dX12_cut_408 (lv_at hl 2 rfl) ?_
                                                refine lv_ldc2 (v := 2147483647) hx hb hown (hq _ pw_1571) dX12_cut_410 ?_
                                                refine W.lcmp hx hb dX12_cut_413 ?_
                                                refine lv_topi (fun x244 e245 => ?_)
                                                refine lv_if_le (tgt := 421) hx hb dX12_cut_414 (by decide) (fun c246 => ?_) (fun c246 => ?_)
                                                · refine lv_iload hx hb dX12_cut_421 (lv_at hl 1 rfl) ?_
                                                  refine lv_istore (lv' := [(4, .int kd), (8, .int (nI k8)), (6, .long vl), (3, .int (nI tt)), (5, .int 0), (1, .int (nI i1)), (2, .int 1), (0, .ref h0)]) hx hb dX12_cut_423 hl (by decide) rfl (fun ls hl => ?_)
                                                  refine lv_lload hx hb dX12_cut_425 (lv_at hl 2 rfl) ?_
                                                  refine lv_l2i hx hb dX12_cut_427 rfl ?_
                                                  refine lv_topi (fun x247 e248 => ?_)
                                                  refine lv_istore (lv' := [(5, .int x247), (4, .int kd), (8, .int (nI k8)), (6, .long vl), (3, .int (nI tt)), (1, .int (nI i1)), (2, .int 1), (0, .ref h0)]) hx hb dX12_cut_428 hl (by decide) rfl (fun ls hl => ?_)
                                                  refine lv_goto (tgt := 472) hx hb dX12_cut_430 (by decide) ?_
                                                  have hP : va_P G.1 pCl (mW G h0 a (upd (upd (upd (upd F 4 (nI sz)) 9 (nI T)) 13 (nI us)) 14 (nI nm)) (updA (updA (updA (updA (updA (updA (updA B 2 g5) 3 g6) 4 g7) 5 g8) 6 g10) 7 g11) 8 g12)) _ := hP
                                                  have hD : va_D A (mW G h0 a (upd (upd (upd (upd F 4 (nI sz)) 9 (nI T)) 13 (nI us)) 14 (nI nm)) (updA (updA (updA (updA (updA (updA (updA B 2 g5) 3 g6) 4 g7) 5 g8) 6 g10) 7 g11) 8 g12)) := mW_D hD
                                                  exact cut_j kd x247 tt nm us g10 g11 g12 _ _ _ (by omega) (by omega) (Or.inr (by omega)) (by omega) (by omega) (by omega) hR (fun e9 => by rcases hkd with h8 | h8 <;> rw [h8] at e9 <;> exact absurd e9 (by decide)) hP hD hS (lv_sub hl [5, 6, 4, 1, 0, 7] rfl)
                                                · refine lv_iconst (v := 3) hx hb dX12_cut_417 (by decide) ?_
                                                  refine lv_goto (tgt := 423) hx hb dX12_cut_418 (by decide) ?_
                                                  refine lv_istore (lv' := [(4, .int 3), (8, .int (nI k8)), (6, .long vl), (3, .int (nI tt)), (5, .int 0), (1, .int (nI i1)), (2, .int 1), (0, .ref h0)]) hx hb dX12_cut_423 hl (by decide) rfl (fun ls hl => ?_)
                                                  refine lv_lload hx hb dX12_cut_425 (lv_at hl 2 rfl) ?_
                                                  refine lv_l2i hx hb dX12_cut_427 rfl ?_
                                                  refine lv_topi (fun x249 e250 => ?_)
                                                  refine lv_istore (lv' := [(5, .int x249), (4, .int 3), (8, .int (nI k8)), (6, .long vl), (3, .int (nI tt)), (1, .int (nI i1)), (2, .int 1), (0, .ref h0)]) hx hb dX12_cut_428 hl (by decide) rfl (fun ls hl => ?_)
                                                  refine lv_goto (tgt := 472) hx hb dX12_cut_430 (by decide) ?_
                                                  have hP : va_P G.1 pCl (mW G h0 a (upd (upd (upd (upd F 4 (nI sz)) 9 (nI T)) 13 (nI us)) 14 (nI nm)) (updA (updA (updA (updA (updA (updA (updA B 2 g5) 3 g6) 4 g7) 5 g8) 6 g10) 7 g11) 8 g12)) _ := hP
                                                  have hD : va_D A (mW G h0 a (upd (upd (upd (upd F 4 (nI sz)) 9 (nI T)) 13 (nI us)) 14 (nI nm)) (updA (updA (updA (updA (updA (updA (updA B 2 g5) 3 g6) 4 g7) 5 g8) 6 g10) 7 g11) 8 g12)) := mW_D hD
                                                  exact cut_j 3 x249 tt nm us g10 g11 g12 _ _ _ (by omega) (by omega) (Or.inr (by omega)) (by omega) (by omega) (by omega) hR (fun e9 => absurd e9 (by decide)) hP hD hS (lv_sub hl [5, 6, 4, 1, 0, 7] rfl)
                                            · have n251 : ¬ (tt ≤ k8) := fun h9 => c239 ((nI_leI (a := tt) (b := k8) (by omega) (by omega)).mpr h9)
                                              refine lv_aload_n hx hb dX12_cut_357 rfl (lv_at hl 7 rfl) ?_
                                              refine lv_iload hx hb dX12_cut_358 (lv_at hl 0 rfl) ?_
                                              have hP : va_P G.1 pCl (mW G h0 a (upd (upd (upd (upd (upd F 4 (nI sz)) 9 (nI T)) 13 (nI us)) 14 (nI nm)) 4 (nI sz)) (updA (updA (updA (updA (updA (updA (updA B 2 g5) 3 g6) 4 g7) 5 g8) 6 g10) 7 g11) 8 g12)) _ := mW_to (F := F) (l1 := [(4, (nI sz)), (9, (nI T)), (13, (nI us)), (14, (nI nm))]) (l2 := [(4, (nI sz)), (9, (nI T)), (13, (nI us)), (14, (nI nm)), (4, (nI sz))]) (V := [(nI sz), (nI T), (nI us), (nI nm), (nI sz), (nI T), (nI us), (nI nm), (nI sz)]) rfl rfl rfl hP
                                              have hD : va_D A (mW G h0 a (upd (upd (upd (upd (upd F 4 (nI sz)) 9 (nI T)) 13 (nI us)) 14 (nI nm)) 4 (nI sz)) (updA (updA (updA (updA (updA (updA (updA B 2 g5) 3 g6) 4 g7) 5 g8) 6 g10) 7 g11) 8 g12)) := mW_D hD
                                              refine pc_V0 (G := G) (As := [.int (nI k8)]) (rest := []) hx hb hml hown hq hE hX pX0_al hP hD hS hA hl.1 (R_ch l G h0 a (upd (upd (upd (upd F 4 (nI sz)) 9 (nI T)) 13 (nI us)) 14 (nI nm)) (updA (updA (updA (updA (updA (updA (updA B 2 g5) 3 g6) 4 g7) 5 g8) 6 g10) 7 g11) 8 g12) k8 sz (by omega) (by omega)) (gV pw_1561 pw_1562 pw_1563 pw_1523 pw_1518) hV_X12_ch 0 9 rfl rfl rfl rfl (Nat.le_of_ble_eq_true rfl) dX12_cut_360 ⟨Nat.le_of_ble_eq_true rfl, Nat.le_of_ble_eq_true rfl⟩ ⟨Nat.le_of_ble_eq_true rfl, Nat.le_of_ble_eq_true rfl⟩ (fun v254 u252 H locs hw253 hP hD hS => ?_)
                                              obtain ⟨r255, rfl⟩ : ∃ z, z = u252 := ⟨_, rfl⟩
                                              obtain ⟨hw253, h256⟩ := hw253
                                              have h256 : r255 = (-1) ∨ k8 < sz ∧ r255 = (B 1) k8 := h256
                                              obtain rfl : v254 = some (.int r255) := hw253
                                              have hP : va_P G.1 pCl (mW G h0 a (upd (upd (upd (upd F 4 (nI sz)) 9 (nI T)) 13 (nI us)) 14 (nI nm)) (updA (updA (updA (updA (updA (updA (updA B 2 g5) 3 g6) 4 g7) 5 g8) 6 g10) 7 g11) 8 g12)) _ := mW_to (F := F) (l1 := [(4, (nI sz)), (9, (nI T)), (13, (nI us)), (14, (nI nm)), (4, (nI sz))]) (l2 := [(4, (nI sz)), (9, (nI T)), (13, (nI us)), (14, (nI nm))]) (V := [(nI sz), (nI T), (nI us), (nI nm), (nI sz), (nI sz), (nI T), (nI us), (nI nm)]) rfl rfl rfl hP
                                              have hD : va_D A (mW G h0 a (upd (upd (upd (upd F 4 (nI sz)) 9 (nI T)) 13 (nI us)) 14 (nI nm)) (updA (updA (updA (updA (updA (updA (updA B 2 g5) 3 g6) 4 g7) 5 g8) 6 g10) 7 g11) 8 g12)) := mW_D hD
                                              refine W.widen (k := 0) (n := 0) (Nat.le_of_ble_eq_true rfl) (Nat.le_of_ble_eq_true rfl) ?_
                                              refine W.eq (g2 := F0 m 363 ls [.int r255]) rfl ?_
                                              refine pc_SN (G := G) (As := [.int r255]) (rest := []) hx hb hml hown hq hE hX pX0_al hP hS hA hl.1 (s_isDigit l G r255) (gS pw_1577 pw_1578 pw_1523 pw_1524) hS_X12_isDigit rfl (Nat.le_of_ble_eq_true rfl) dX12_cut_363 ⟨Nat.le_of_ble_eq_true rfl, Nat.le_of_ble_eq_true rfl⟩ ⟨Nat.le_of_ble_eq_true rfl, Nat.le_of_ble_eq_true rfl⟩ (fun v259 u257 H locs hw258 hP hS => ?_)
                                              obtain ⟨x260, rfl, hr261, hr262⟩ := hw258
                                              refine W.widen (k := 0) (n := 0) (Nat.le_of_ble_eq_true rfl) (Nat.le_of_ble_eq_true rfl) ?_
                                              refine W.eq (g2 := F0 m 366 ls [.int x260]) rfl ?_
                                              refine lv_if_eq (tgt := 373) hx hb dX12_cut_366 (by decide) (fun c263 => ?_) (fun c263 => ?_)
                                              · refine lv_iconst (v := 3) hx hb dX12_cut_373 (by decide) ?_
                                                refine lv_istore (lv' := [(4, .int 3), (8, .int (nI k8)), (6, .long vl), (3, .int (nI tt)), (5, .int 0), (1, .int (nI i1)), (2, .int 1), (0, .ref h0)]) hx hb dX12_cut_374 hl (by decide) rfl (fun ls hl => ?_)
                                                refine lv_ldc2 (v := 10) hx hb hown (hq _ pw_1569) dX12_cut_376 ?_
                                                refine lv_lload hx hb dX12_cut_379 (lv_at hl 2 rfl) ?_
                                                refine lv_lmul hx hb dX12_cut_381 ?_
                                                refine lv_topl (fun x264 e265 => ?_)
                                                refine lv_aload_n hx hb dX12_cut_382 rfl (lv_at hl 7 rfl) ?_
                                                refine lv_iload hx hb dX12_cut_383 (lv_at hl 1 rfl) ?_
                                                have hP : va_P G.1 pCl (mW G h0 a (upd (upd (upd (upd (upd F 4 (nI sz)) 9 (nI T)) 13 (nI us)) 14 (nI nm)) 4 (nI sz)) (updA (updA (updA (updA (updA (updA (updA B 2 g5) 3 g6) 4 g7) 5 g8) 6 g10) 7 g11) 8 g12)) _ := hP
                                                have hD : va_D A (mW G h0 a (upd (upd (upd (upd (upd F 4 (nI sz)) 9 (nI T)) 13 (nI us)) 14 (nI nm)) 4 (nI sz)) (updA (updA (updA (updA (updA (updA (updA B 2 g5) 3 g6) 4 g7) 5 g8) 6 g10) 7 g11) 8 g12)) := mW_D hD
                                                refine pc_V0 (G := G) (As := [.int (nI k8)]) (rest := [.long x264]) hx hb hml hown hq hE hX pX0_al hP hD hS hA hl.1 (R_ch l G h0 a (upd (upd (upd (upd F 4 (nI sz)) 9 (nI T)) 13 (nI us)) 14 (nI nm)) (updA (updA (updA (updA (updA (updA (updA B 2 g5) 3 g6) 4 g7) 5 g8) 6 g10) 7 g11) 8 g12) k8 sz (by omega) (by omega)) (gV pw_1561 pw_1562 pw_1563 pw_1523 pw_1518) hV_X12_ch 0 9 rfl rfl rfl rfl (Nat.le_of_ble_eq_true rfl) dX12_cut_385 ⟨Nat.le_of_ble_eq_true rfl, Nat.le_of_ble_eq_true rfl⟩ ⟨Nat.le_of_ble_eq_true rfl, Nat.le_of_ble_eq_true rfl⟩ (fun v268 u266 H locs hw267 hP hD hS => ?_)
                                                obtain ⟨r269, rfl⟩ : ∃ z, z = u266 := ⟨_, rfl⟩
                                                obtain ⟨hw267, h270⟩ := hw267
                                                have h270 : r269 = (-1) ∨ k8 < sz ∧ r269 = (B 1) k8 := h270
                                                obtain rfl : v268 = some (.int r269) := hw267
                                                have hP : va_P G.1 pCl (mW G h0 a (upd (upd (upd (upd F 4 (nI sz)) 9 (nI T)) 13 (nI us)) 14 (nI nm)) (updA (updA (updA (updA (updA (updA (updA B 2 g5) 3 g6) 4 g7) 5 g8) 6 g10) 7 g11) 8 g12)) _ := mW_to (F := F) (l1 := [(4, (nI sz)), (9, (nI T)), (13, (nI us)), (14, (nI nm)), (4, (nI sz))]) (l2 := [(4, (nI sz)), (9, (nI T)), (13, (nI us)), (14, (nI nm))]) (V := [(nI sz), (nI T), (nI us), (nI nm), (nI sz), (nI sz), (nI T), (nI us), (nI nm)]) rfl rfl rfl hP
                                                have hD : va_D A (mW G h0 a (upd (upd (upd (upd F 4 (nI sz)) 9 (nI T)) 13 (nI us)) 14 (nI nm)) (updA (updA (updA (updA (updA (updA (updA B 2 g5) 3 g6) 4 g7) 5 g8) 6 g10) 7 g11) 8 g12)) := mW_D hD
                                                refine W.widen (k := 0) (n := 0) (Nat.le_of_ble_eq_true rfl) (Nat.le_of_ble_eq_true rfl) ?_
                                                refine W.eq (g2 := F0 m 388 ls [.int r269, .long x264]) rfl ?_
                                                refine lv_i2l hx hb dX12_cut_388 rfl ?_
                                                refine lv_topl (fun x271 e272 => ?_)
                                                refine lv_ladd hx hb dX12_cut_389 ?_
                                                refine lv_topl (fun x273 e274 => ?_)
                                                refine lv_ldc2 (v := 48) hx hb hown (hq _ pw_1570) dX12_cut_390 ?_
                                                refine lv_lsub hx hb dX12_cut_393 ?_
                                                refine lv_topl (fun x275 e276 => ?_)
                                                refine lv_lstore (lv' := [(6, .long x275), (4, .int 3), (8, .int (nI k8)), (3, .int (nI tt)), (5, .int 0), (1, .int (nI i1)), (2, .int 1), (0, .ref h0)]) hx hb dX12_cut_394 hl (by decide) rfl (fun ls hl => ?_)
                                                refine lv_iinc (v := (nI (k8 + 1))) (lv' := [(8, .int (nI (k8 + 1))), (6, .long x275), (4, .int 3), (3, .int (nI tt)), (5, .int 0), (1, .int (nI i1)), (2, .int 1), (0, .ref h0)]) hx hb dX12_cut_396 hl (k := 2) rfl (nI_1 k8) (by decide) rfl (fun ls hl => ?_)
                                                refine lv_goto (tgt := 345) hx hb dX12_cut_399 (by decide) ?_
                                                have hP : va_P G.1 pCl (mW G h0 a (upd (upd (upd (upd F 4 (nI sz)) 9 (nI T)) 13 (nI us)) 14 (nI nm)) (updA (updA (updA (updA (updA (updA (updA B 2 g5) 3 g6) 4 g7) 5 g8) 6 g10) 7 g11) 8 g12)) _ := hP
                                                have hD : va_D A (mW G h0 a (upd (upd (upd (upd F 4 (nI sz)) 9 (nI T)) 13 (nI us)) 14 (nI nm)) (updA (updA (updA (updA (updA (updA (updA B 2 g5) 3 g6) 4 g7) 5 g8) 6 g10) 7 g11) 8 g12)) := mW_D hD
                                                exact ih_v (k8 + 1) x275 3 _ _ _ (by omega) (by omega) (by omega) (by decide) hP hD hS (lv_sub hl [0, 2, 1, 3, 4, 5, 6, 7] rfl)
                                              · refine lv_iconst (v := 2) hx hb dX12_cut_369 (by decide) ?_
                                                refine lv_goto (tgt := 374) hx hb dX12_cut_370 (by decide) ?_
                                                refine lv_istore (lv' := [(4, .int 2), (8, .int (nI k8)), (6, .long vl), (3, .int (nI tt)), (5, .int 0), (1, .int (nI i1)), (2, .int 1), (0, .ref h0)]) hx hb dX12_cut_374 hl (by decide) rfl (fun ls hl => ?_)
                                                refine lv_ldc2 (v := 10) hx hb hown (hq _ pw_1569) dX12_cut_376 ?_
                                                refine lv_lload hx hb dX12_cut_379 (lv_at hl 2 rfl) ?_
                                                refine lv_lmul hx hb dX12_cut_381 ?_
                                                refine lv_topl (fun x277 e278 => ?_)
                                                refine lv_aload_n hx hb dX12_cut_382 rfl (lv_at hl 7 rfl) ?_
                                                refine lv_iload hx hb dX12_cut_383 (lv_at hl 1 rfl) ?_
                                                have hP : va_P G.1 pCl (mW G h0 a (upd (upd (upd (upd (upd F 4 (nI sz)) 9 (nI T)) 13 (nI us)) 14 (nI nm)) 4 (nI sz)) (updA (updA (updA (updA (updA (updA (updA B 2 g5) 3 g6) 4 g7) 5 g8) 6 g10) 7 g11) 8 g12)) _ := hP
                                                have hD : va_D A (mW G h0 a (upd (upd (upd (upd (upd F 4 (nI sz)) 9 (nI T)) 13 (nI us)) 14 (nI nm)) 4 (nI sz)) (updA (updA (updA (updA (updA (updA (updA B 2 g5) 3 g6) 4 g7) 5 g8) 6 g10) 7 g11) 8 g12)) := mW_D hD
                                                refine pc_V0 (G := G) (As := [.int (nI k8)]) (rest := [.long x277]) hx hb hml hown hq hE hX pX0_al hP hD hS hA hl.1 (R_ch l G h0 a (upd (upd (upd (upd F 4 (nI sz)) 9 (nI T)) 13 (nI us)) 14 (nI nm)) (updA (updA (updA (updA (updA (updA (updA B 2 g5) 3 g6) 4 g7) 5 g8) 6 g10) 7 g11) 8 g12) k8 sz (by omega) (by omega)) (gV pw_1561 pw_1562 pw_1563 pw_1523 pw_1518) hV_X12_ch 0 9 rfl rfl rfl rfl (Nat.le_of_ble_eq_true rfl) dX12_cut_385 ⟨Nat.le_of_ble_eq_true rfl, Nat.le_of_ble_eq_true rfl⟩ ⟨Nat.le_of_ble_eq_true rfl, Nat.le_of_ble_eq_true rfl⟩ (fun v281 u279 H locs hw280 hP hD hS => ?_)
                                                obtain ⟨r282, rfl⟩ : ∃ z, z = u279 := ⟨_, rfl⟩
                                                obtain ⟨hw280, h283⟩ := hw280
                                                have h283 : r282 = (-1) ∨ k8 < sz ∧ r282 = (B 1) k8 := h283
                                                obtain rfl : v281 = some (.int r282) := hw280
                                                have hP : va_P G.1 pCl (mW G h0 a (upd (upd (upd (upd F 4 (nI sz)) 9 (nI T)) 13 (nI us)) 14 (nI nm)) (updA (updA (updA (updA (updA (updA (updA B 2 g5) 3 g6) 4 g7) 5 g8) 6 g10) 7 g11) 8 g12)) _ := mW_to (F := F) (l1 := [(4, (nI sz)), (9, (nI T)), (13, (nI us)), (14, (nI nm)), (4, (nI sz))]) (l2 := [(4, (nI sz)), (9, (nI T)), (13, (nI us)), (14, (nI nm))]) (V := [(nI sz), (nI T), (nI us), (nI nm), (nI sz), (nI sz), (nI T), (nI us), (nI nm)]) rfl rfl rfl hP
                                                have hD : va_D A (mW G h0 a (upd (upd (upd (upd F 4 (nI sz)) 9 (nI T)) 13 (nI us)) 14 (nI nm)) (updA (updA (updA (updA (updA (updA (updA B 2 g5) 3 g6) 4 g7) 5 g8) 6 g10) 7 g11) 8 g12)) := mW_D hD
                                                refine W.widen (k := 0) (n := 0) (Nat.le_of_ble_eq_true rfl) (Nat.le_of_ble_eq_true rfl) ?_
                                                refine W.eq (g2 := F0 m 388 ls [.int r282, .long x277]) rfl ?_
                                                refine lv_i2l hx hb dX12_cut_388 rfl ?_
                                                refine lv_topl (fun x284 e285 => ?_)
                                                refine lv_ladd hx hb dX12_cut_389 ?_
                                                refine lv_topl (fun x286 e287 => ?_)
                                                refine lv_ldc2 (v := 48) hx hb hown (hq _ pw_1570) dX12_cut_390 ?_
                                                refine lv_lsub hx hb dX12_cut_393 ?_
                                                refine lv_topl (fun x288 e289 => ?_)
                                                refine lv_lstore (lv' := [(6, .long x288), (4, .int 2), (8, .int (nI k8)), (3, .int (nI tt)), (5, .int 0), (1, .int (nI i1)), (2, .int 1), (0, .ref h0)]) hx hb dX12_cut_394 hl (by decide) rfl (fun ls hl => ?_)
                                                refine lv_iinc (v := (nI (k8 + 1))) (lv' := [(8, .int (nI (k8 + 1))), (6, .long x288), (4, .int 2), (3, .int (nI tt)), (5, .int 0), (1, .int (nI i1)), (2, .int 1), (0, .ref h0)]) hx hb dX12_cut_396 hl (k := 2) rfl (nI_1 k8) (by decide) rfl (fun ls hl => ?_)
                                                refine lv_goto (tgt := 345) hx hb dX12_cut_399 (by decide) ?_
                                                have hP : va_P G.1 pCl (mW G h0 a (upd (upd (upd (upd F 4 (nI sz)) 9 (nI T)) 13 (nI us)) 14 (nI nm)) (updA (updA (updA (updA (updA (updA (updA B 2 g5) 3 g6) 4 g7) 5 g8) 6 g10) 7 g11) 8 g12)) _ := hP
                                                have hD : va_D A (mW G h0 a (upd (upd (upd (upd F 4 (nI sz)) 9 (nI T)) 13 (nI us)) 14 (nI nm)) (updA (updA (updA (updA (updA (updA (updA B 2 g5) 3 g6) 4 g7) 5 g8) 6 g10) 7 g11) 8 g12)) := mW_D hD
                                                exact ih_v (k8 + 1) x288 2 _ _ _ (by omega) (by omega) (by omega) (by decide) hP hD hS (lv_sub hl [0, 2, 1, 3, 4, 5, 6, 7] rfl)
                                      have hP : va_P G.1 pCl (mW G h0 a (upd (upd (upd (upd F 4 (nI sz)) 9 (nI T)) 13 (nI us)) 14 (nI nm)) (updA (updA (updA (updA (updA (updA (updA B 2 g5) 3 g6) 4 g7) 5 g8) 6 g10) 7 g11) 8 g12)) _ := hP
                                      have hD : va_D A (mW G h0 a (upd (upd (upd (upd F 4 (nI sz)) 9 (nI T)) 13 (nI us)) 14 (nI nm)) (updA (updA (updA (updA (updA (updA (updA B 2 g5) 3 g6) 4 g7) 5 g8) 6 g10) 7 g11) 8 g12)) := mW_D hD
                                      exact loop_v (tt + 1) i1 0 3 _ _ _ (by omega) (by omega) (by omega) (by decide) hP hD hS (lv_sub hl [0, 1, 2, 3, 4, 5, 6, 7] rfl)
                                  · have hc48 : ¬ r152 < 48 := (hr158).resolve_left c160
                                    have hlet2 : tt < sz ∧ ¬ B 1 tt = 32 := ⟨chin h153 (noM1 hc48), by rw [← ((h153).resolve_left (noM1 hc48)).2]; exact no32 hc48⟩
                                    refine lv_iinc (v := (nI (tt + 1))) (lv' := [(3, .int (nI (tt + 1))), (6, .long 0), (4, .int 0), (5, .int 0), (1, .int (nI i1)), (2, .int 1), (0, .ref h0)]) hx hb dX12_cut_321 hl (k := 1) rfl (nI_1 tt) (by decide) rfl (fun ls hl => ?_)
                                    refine lv_goto (tgt := 299) hx hb dX12_cut_324 (by decide) ?_
                                    have hP : va_P G.1 pCl (mW G h0 a (upd (upd (upd (upd F 4 (nI sz)) 9 (nI T)) 13 (nI us)) 14 (nI nm)) (updA (updA (updA (updA (updA (updA (updA B 2 g5) 3 g6) 4 g7) 5 g8) 6 g10) 7 g11) 8 g12)) _ := hP
                                    have hD : va_D A (mW G h0 a (upd (upd (upd (upd F 4 (nI sz)) 9 (nI T)) 13 (nI us)) 14 (nI nm)) (updA (updA (updA (updA (updA (updA (updA B 2 g5) 3 g6) 4 g7) 5 g8) 6 g10) 7 g11) 8 g12)) := mW_D hD
                                    exact ih_d (tt + 1) _ _ _ (by have := hlet2.1; omega) (by omega) (by omega) (fun j h8 h9 => (Classical.em (j = tt)).elim (fun e9 => by rw [e9]; exact hlet2.2) (fun e9 => htt j h8 (by omega))) hP hD hS (lv_sub hl [1, 0, 2, 3, 4, 5, 6] rfl)
                            have hP : va_P G.1 pCl (mW G h0 a (upd (upd (upd (upd F 4 (nI sz)) 9 (nI T)) 13 (nI us)) 14 (nI nm)) (updA (updA (updA (updA (updA (updA (updA B 2 g5) 3 g6) 4 g7) 5 g8) 6 g10) 7 g11) 8 g12)) _ := hP
                            have hD : va_D A (mW G h0 a (upd (upd (upd (upd F 4 (nI sz)) 9 (nI T)) 13 (nI us)) 14 (nI nm)) (updA (updA (updA (updA (updA (updA (updA B 2 g5) 3 g6) 4 g7) 5 g8) 6 g10) 7 g11) 8 g12)) := mW_D hD
                            exact loop_d (sz + 1) (i1 + 1) _ _ _ (by omega) (by omega) (by omega) (fun j h8 h9 => by rw [show j = i1 by omega]; exact hlet.2) hP hD hS (lv_sub hl [0, 3, 2, 1, 4, 5, 6] rfl)
                        · have hc48 : ¬ r102 < 48 := (hr108).resolve_left c110
                          have hlet : i1 < sz ∧ ¬ B 1 i1 = 32 := ⟨chin h103 (noM1 hc48), by rw [← ((h103).resolve_left (noM1 hc48)).2]; exact no32 hc48⟩
                          have loop_w : ∀ (n_w : Nat) (tt : Nat) (H : Heap) (locs : List Loc) (ls : Array Slot), tt ≤ sz → sz + 1 ≤ tt + n_w → (i1 + 1 ≤ tt) → (∀ j : Nat, i1 ≤ j → j < tt → ¬ B 1 j = 32) → va_P G.1 pCl (mW G h0 a (upd (upd (upd (upd F 4 (nI sz)) 9 (nI T)) 13 (nI us)) 14 (nI nm)) (updA (updA (updA (updA (updA (updA (updA B 2 g5) 3 g6) 4 g7) 5 g8) 6 g10) 7 g11) 8 g12)) H → va_D A (mW G h0 a (upd (upd (upd (upd F 4 (nI sz)) 9 (nI T)) 13 (nI us)) 14 (nI nm)) (updA (updA (updA (updA (updA (updA (updA B 2 g5) 3 g6) 4 g7) 5 g8) 6 g10) 7 g11) 8 g12)) → va_S A s.heap H locs → lv_has ls 9 [(3, .int (nI tt)), (4, .int 0), (5, .int 0), (1, .int (nI i1)), (2, .int 1), (0, .ref h0)] → W p l e (headSpec (Cond.code yX12_cut cX12_cut 9 none :: pw) ({ frames := 7, cells := 0, slots := 0, locals := 174 } : Room)).room s m ([.ref h0] : List Value).toArray below meth c H locs 0 0 (MQ below (pQ G A (fun (v : Option Value) (u : Nat × Nat × Nat × (Nat → Int32) × (Nat → Int32) × (Nat → Int32) × (Nat → Int32) × (Nat → Int32) × (Nat → Int32) × (Nat → Int32)) => v = none ∧ (u.1 ≤ sz) ∧ (u.2.2.2.2.2.2.1 u.1 = 0 ∨ u.2.2.2.2.2.2.1 u.1 = 3) ∧ (rNm u.2.1 u.2.2.1 u.2.2.2.1 u.2.2.2.2.1) ∧ (u.2.1 ≤ 9 + sz) ∧ (u.2.2.1 ≤ 40 + sz) ∧ (rTk u.1 u.2.1 u.2.2.2.2.2.2.1 u.2.2.2.2.2.2.2.2.2) ∧ (9 ≤ u.2.1)) (fun u => (mW G h0 a (upd (upd (upd (upd F 4 (nI sz)) 9 (nI u.1)) 13 (nI u.2.2.1)) 14 (nI u.2.1)) (updA (updA (updA (updA (updA (updA (updA B 2 u.2.2.2.2.2.2.1) 3 u.2.2.2.2.2.2.2.1) 4 u.2.2.2.2.2.2.2.2.1) 5 u.2.2.2.2.2.2.2.2.2) 6 u.2.2.2.1) 7 u.2.2.2.2.1) 8 u.2.2.2.2.2.1)))) ([.ref h0] : List Value).toArray s ({ frames := 7, cells := 0, slots := 0, locals := 174 } : Room).cells ({ frames := 7, cells := 0, slots := 0, locals := 174 } : Room).slots A) (F0 m 212 ls []) := by
                            intro n_w
                            induction n_w with
                            | zero => intro tt H locs ls hk_w hn_w; omega
                            | succ n_w ih_w =>
                              intro tt H locs ls hk_w hn_w ht1 htt hP hD hS hl
                              refine lv_aload_n hx hb dX12_cut_212 rfl (lv_at hl 5 rfl) ?_
                              refine lv_iload_n hx hb dX12_cut_213 rfl (lv_at hl 0 rfl) ?_
                              have hP : va_P G.1 pCl (mW G h0 a (upd (upd (upd (upd (upd F 4 (nI sz)) 9 (nI T)) 13 (nI us)) 14 (nI nm)) 4 (nI sz)) (updA (updA (updA (updA (updA (updA (updA B 2 g5) 3 g6) 4 g7) 5 g8) 6 g10) 7 g11) 8 g12)) _ := mW_to (F := F) (l1 := [(4, (nI sz)), (9, (nI T)), (13, (nI us)), (14, (nI nm))]) (l2 := [(4, (nI sz)), (9, (nI T)), (13, (nI us)), (14, (nI nm)), (4, (nI sz))]) (V := [(nI sz), (nI T), (nI us), (nI nm), (nI sz), (nI T), (nI us), (nI nm), (nI sz)]) rfl rfl rfl hP
                              have hD : va_D A (mW G h0 a (upd (upd (upd (upd (upd F 4 (nI sz)) 9 (nI T)) 13 (nI us)) 14 (nI nm)) 4 (nI sz)) (updA (updA (updA (updA (updA (updA (updA B 2 g5) 3 g6) 4 g7) 5 g8) 6 g10) 7 g11) 8 g12)) := mW_D hD
                              refine pc_V0 (G := G) (As := [.int (nI tt)]) (rest := []) hx hb hml hown hq hE hX pX0_al hP hD hS hA hl.1 (R_ch l G h0 a (upd (upd (upd (upd F 4 (nI sz)) 9 (nI T)) 13 (nI us)) 14 (nI nm)) (updA (updA (updA (updA (updA (updA (updA B 2 g5) 3 g6) 4 g7) 5 g8) 6 g10) 7 g11) 8 g12) tt sz (by omega) (by omega)) (gV pw_1561 pw_1562 pw_1563 pw_1523 pw_1518) hV_X12_ch 0 9 rfl rfl rfl rfl (Nat.le_of_ble_eq_true rfl) dX12_cut_214 ⟨Nat.le_of_ble_eq_true rfl, Nat.le_of_ble_eq_true rfl⟩ ⟨Nat.le_of_ble_eq_true rfl, Nat.le_of_ble_eq_true rfl⟩ (fun v292 u290 H locs hw291 hP hD hS => ?_)
                              obtain ⟨r293, rfl⟩ : ∃ z, z = u290 := ⟨_, rfl⟩
                              obtain ⟨hw291, h294⟩ := hw291
                              have h294 : r293 = (-1) ∨ tt < sz ∧ r293 = (B 1) tt := h294
                              obtain rfl : v292 = some (.int r293) := hw291
                              have hP : va_P G.1 pCl (mW G h0 a (upd (upd (upd (upd F 4 (nI sz)) 9 (nI T)) 13 (nI us)) 14 (nI nm)) (updA (updA (updA (updA (updA (updA (updA B 2 g5) 3 g6) 4 g7) 5 g8) 6 g10) 7 g11) 8 g12)) _ := mW_to (F := F) (l1 := [(4, (nI sz)), (9, (nI T)), (13, (nI us)), (14, (nI nm)), (4, (nI sz))]) (l2 := [(4, (nI sz)), (9, (nI T)), (13, (nI us)), (14, (nI nm))]) (V := [(nI sz), (nI T), (nI us), (nI nm), (nI sz), (nI sz), (nI T), (nI us), (nI nm)]) rfl rfl rfl hP
                              have hD : va_D A (mW G h0 a (upd (upd (upd (upd F 4 (nI sz)) 9 (nI T)) 13 (nI us)) 14 (nI nm)) (updA (updA (updA (updA (updA (updA (updA B 2 g5) 3 g6) 4 g7) 5 g8) 6 g10) 7 g11) 8 g12)) := mW_D hD
                              refine W.widen (k := 0) (n := 0) (Nat.le_of_ble_eq_true rfl) (Nat.le_of_ble_eq_true rfl) ?_
                              refine W.eq (g2 := F0 m 217 ls [.int r293]) rfl ?_
                              refine pc_SN (G := G) (As := [.int r293]) (rest := []) hx hb hml hown hq hE hX pX0_al hP hS hA hl.1 (s_isLetter l G r293) (gS pw_1575 pw_1576 pw_1523 pw_1520) hS_X12_isLetter rfl (Nat.le_of_ble_eq_true rfl) dX12_cut_217 ⟨Nat.le_of_ble_eq_true rfl, Nat.le_of_ble_eq_true rfl⟩ ⟨Nat.le_of_ble_eq_true rfl, Nat.le_of_ble_eq_true rfl⟩ (fun v297 u295 H locs hw296 hP hS => ?_)
                              obtain ⟨x298, rfl, hr299, hr300⟩ := hw296
                              refine W.widen (k := 0) (n := 0) (Nat.le_of_ble_eq_true rfl) (Nat.le_of_ble_eq_true rfl) ?_
                              refine W.eq (g2 := F0 m 220 ls [.int x298]) rfl ?_
                              refine lv_if_ne (tgt := 234) hx hb dX12_cut_220 (by decide) (fun c301 => ?_) (fun c301 => ?_)
                              · have hc48 : ¬ r293 < 48 := (hr299).resolve_left c301
                                have hlet2 : tt < sz ∧ ¬ B 1 tt = 32 := ⟨chin h294 (noM1 hc48), by rw [← ((h294).resolve_left (noM1 hc48)).2]; exact no32 hc48⟩
                                refine lv_iinc (v := (nI (tt + 1))) (lv' := [(3, .int (nI (tt + 1))), (4, .int 0), (5, .int 0), (1, .int (nI i1)), (2, .int 1), (0, .ref h0)]) hx hb dX12_cut_234 hl (k := 0) rfl (nI_1 tt) (by decide) rfl (fun ls hl => ?_)
                                refine lv_goto (tgt := 212) hx hb dX12_cut_237 (by decide) ?_
                                have hP : va_P G.1 pCl (mW G h0 a (upd (upd (upd (upd F 4 (nI sz)) 9 (nI T)) 13 (nI us)) 14 (nI nm)) (updA (updA (updA (updA (updA (updA (updA B 2 g5) 3 g6) 4 g7) 5 g8) 6 g10) 7 g11) 8 g12)) _ := hP
                                have hD : va_D A (mW G h0 a (upd (upd (upd (upd F 4 (nI sz)) 9 (nI T)) 13 (nI us)) 14 (nI nm)) (updA (updA (updA (updA (updA (updA (updA B 2 g5) 3 g6) 4 g7) 5 g8) 6 g10) 7 g11) 8 g12)) := mW_D hD
                                exact ih_w (tt + 1) _ _ _ (by have := hlet2.1; omega) (by omega) (by omega) (fun j h8 h9 => (Classical.em (j = tt)).elim (fun e9 => by rw [e9]; exact hlet2.2) (fun e9 => htt j h8 (by omega))) hP hD hS (lv_sub hl [0, 1, 2, 3, 4, 5] rfl)
                              · refine lv_aload_n hx hb dX12_cut_223 rfl (lv_at hl 5 rfl) ?_
                                refine lv_iload_n hx hb dX12_cut_224 rfl (lv_at hl 0 rfl) ?_
                                have hP : va_P G.1 pCl (mW G h0 a (upd (upd (upd (upd (upd F 4 (nI sz)) 9 (nI T)) 13 (nI us)) 14 (nI nm)) 4 (nI sz)) (updA (updA (updA (updA (updA (updA (updA B 2 g5) 3 g6) 4 g7) 5 g8) 6 g10) 7 g11) 8 g12)) _ := hP
                                have hD : va_D A (mW G h0 a (upd (upd (upd (upd (upd F 4 (nI sz)) 9 (nI T)) 13 (nI us)) 14 (nI nm)) 4 (nI sz)) (updA (updA (updA (updA (updA (updA (updA B 2 g5) 3 g6) 4 g7) 5 g8) 6 g10) 7 g11) 8 g12)) := mW_D hD
                                refine pc_V0 (G := G) (As := [.int (nI tt)]) (rest := []) hx hb hml hown hq hE hX pX0_al hP hD hS hA hl.1 (R_ch l G h0 a (upd (upd (upd (upd F 4 (nI sz)) 9 (nI T)) 13 (nI us)) 14 (nI nm)) (updA (updA (updA (updA (updA (updA (updA B 2 g5) 3 g6) 4 g7) 5 g8) 6 g10) 7 g11) 8 g12) tt sz (by omega) (by omega)) (gV pw_1561 pw_1562 pw_1563 pw_1523 pw_1518) hV_X12_ch 0 9 rfl rfl rfl rfl (Nat.le_of_ble_eq_true rfl) dX12_cut_225 ⟨Nat.le_of_ble_eq_true rfl, Nat.le_of_ble_eq_true rfl⟩ ⟨Nat.le_of_ble_eq_true rfl, Nat.le_of_ble_eq_true rfl⟩ (fun v304 u302 H locs hw303 hP hD hS => ?_)
                                obtain ⟨r305, rfl⟩ : ∃ z, z = u302 := ⟨_, rfl⟩
                                obtain ⟨hw303, h306⟩ := hw303
                                have h306 : r305 = (-1) ∨ tt < sz ∧ r305 = (B 1) tt := h306
                                obtain rfl : v304 = some (.int r305) := hw303
                                have hP : va_P G.1 pCl (mW G h0 a (upd (upd (upd (upd F 4 (nI sz)) 9 (nI T)) 13 (nI us)) 14 (nI nm)) (updA (updA (updA (updA (updA (updA (updA B 2 g5) 3 g6) 4 g7) 5 g8) 6 g10) 7 g11) 8 g12)) _ := mW_to (F := F) (l1 := [(4, (nI sz)), (9, (nI T)), (13, (nI us)), (14, (nI nm)), (4, (nI sz))]) (l2 := [(4, (nI sz)), (9, (nI T)), (13, (nI us)), (14, (nI nm))]) (V := [(nI sz), (nI T), (nI us), (nI nm), (nI sz), (nI sz), (nI T), (nI us), (nI nm)]) rfl rfl rfl hP
                                have hD : va_D A (mW G h0 a (upd (upd (upd (upd F 4 (nI sz)) 9 (nI T)) 13 (nI us)) 14 (nI nm)) (updA (updA (updA (updA (updA (updA (updA B 2 g5) 3 g6) 4 g7) 5 g8) 6 g10) 7 g11) 8 g12)) := mW_D hD
                                refine W.widen (k := 0) (n := 0) (Nat.le_of_ble_eq_true rfl) (Nat.le_of_ble_eq_true rfl) ?_
                                refine W.eq (g2 := F0 m 228 ls [.int r305]) rfl ?_
                                refine pc_SN (G := G) (As := [.int r305]) (rest := []) hx hb hml hown hq hE hX pX0_al hP hS hA hl.1 (s_isDigit l G r305) (gS pw_1577 pw_1578 pw_1523 pw_1524) hS_X12_isDigit rfl (Nat.le_of_ble_eq_true rfl) dX12_cut_228 ⟨Nat.le_of_ble_eq_true rfl, Nat.le_of_ble_eq_true rfl⟩ ⟨Nat.le_of_ble_eq_true rfl, Nat.le_of_ble_eq_true rfl⟩ (fun v309 u307 H locs hw308 hP hS => ?_)
                                obtain ⟨x310, rfl, hr311, hr312⟩ := hw308
                                refine W.widen (k := 0) (n := 0) (Nat.le_of_ble_eq_true rfl) (Nat.le_of_ble_eq_true rfl) ?_
                                refine W.eq (g2 := F0 m 231 ls [.int x310]) rfl ?_
                                refine lv_if_eq (tgt := 240) hx hb dX12_cut_231 (by decide) (fun c313 => ?_) (fun c313 => ?_)
                                · refine lv_aload_n hx hb dX12_cut_240 rfl (lv_at hl 5 rfl) ?_
                                  refine lv_iload_n hx hb dX12_cut_241 rfl (lv_at hl 3 rfl) ?_
                                  refine lv_iload_n hx hb dX12_cut_242 rfl (lv_at hl 0 rfl) ?_
                                  have hP : va_P G.1 pCl (mW G h0 a (upd (upd (upd (upd F 4 (nI sz)) 9 (nI T)) 13 (nI us)) 14 (nI nm)) (updA (updA (updA (updA (updA (updA (updA B 2 g5) 3 g6) 4 g7) 5 g8) 6 g10) 7 g11) 8 g12)) _ := hP
                                  have hD : va_D A (mW G h0 a (upd (upd (upd (upd F 4 (nI sz)) 9 (nI T)) 13 (nI us)) 14 (nI nm)) (updA (updA (updA (updA (updA (updA (updA B 2 g5) 3 g6) 4 g7) 5 g8) 6 g10) 7 g11) 8 g12)) := mW_D hD
                                  refine pc_V0 (G := G) (As := [.int (nI i1), .int (nI tt)]) (rest := []) hx hb hml hown hq hE hX pX0_al hP hD hS hA hl.1 (R_wordOf l G h0 a (upd (upd (upd (upd F 4 (nI sz)) 9 (nI T)) 13 (nI us)) 14 (nI nm)) (updA (updA (updA (updA (updA (updA (updA B 2 g5) 3 g6) 4 g7) 5 g8) 6 g10) 7 g11) 8 g12) i1 tt (by omega) (by omega) htt) (gV pw_1579 pw_1580 pw_1581 pw_1523 pw_1527) hV_X12_wordOf 0 9 rfl rfl rfl rfl (Nat.le_of_ble_eq_true rfl) dX12_cut_243 ⟨Nat.le_of_ble_eq_true rfl, Nat.le_of_ble_eq_true rfl⟩ ⟨Nat.le_of_ble_eq_true rfl, Nat.le_of_ble_eq_true rfl⟩ (fun v316 u314 H locs hw315 hP hD hS => ?_)
                                  obtain ⟨r317, rfl⟩ : ∃ z, z = u314 := ⟨_, rfl⟩
                                  obtain rfl : v316 = some (.int r317) := hw315
                                  have hP : va_P G.1 pCl (mW G h0 a (upd (upd (upd (upd F 4 (nI sz)) 9 (nI T)) 13 (nI us)) 14 (nI nm)) (updA (updA (updA (updA (updA (updA (updA B 2 g5) 3 g6) 4 g7) 5 g8) 6 g10) 7 g11) 8 g12)) _ := hP
                                  have hD : va_D A (mW G h0 a (upd (upd (upd (upd F 4 (nI sz)) 9 (nI T)) 13 (nI us)) 14 (nI nm)) (updA (updA (updA (updA (updA (updA (updA B 2 g5) 3 g6) 4 g7) 5 g8) 6 g10) 7 g11) 8 g12)) := mW_D hD
                                  refine W.widen (k := 0) (n := 0) (Nat.le_of_ble_eq_true rfl) (Nat.le_of_ble_eq_true rfl) ?_
                                  refine W.eq (g2 := F0 m 246 ls [.int r317]) rfl ?_
                                  refine lv_istore (lv' := [(4, .int r317), (3, .int (nI tt)), (5, .int 0), (1, .int (nI i1)), (2, .int 1), (0, .ref h0)]) hx hb dX12_cut_246 hl (by decide) rfl (fun ls hl => ?_)
                                  refine lv_iload hx hb dX12_cut_248 (lv_at hl 0 rfl) ?_
                                  refine lv_iconst (v := 1) hx hb dX12_cut_250 (by decide) ?_
                                  refine lv_icmp_ne (tgt := 268) hx hb dX12_cut_251 (by decide) (fun c318 => ?_) (fun c318 => ?_)
                                  · refine lv_iload hx hb dX12_cut_268 (lv_at hl 0 rfl) ?_
                                    refine lv_iconst (v := 1) hx hb dX12_cut_270 (by decide) ?_
                                    refine lv_icmp_ne (tgt := 472) hx hb dX12_cut_271 (by decide) (fun c319 => ?_) (fun c319 => ?_)
                                    · have hP : va_P G.1 pCl (mW G h0 a (upd (upd (upd (upd F 4 (nI sz)) 9 (nI T)) 13 (nI us)) 14 (nI nm)) (updA (updA (updA (updA (updA (updA (updA B 2 g5) 3 g6) 4 g7) 5 g8) 6 g10) 7 g11) 8 g12)) _ := hP
                                      have hD : va_D A (mW G h0 a (upd (upd (upd (upd F 4 (nI sz)) 9 (nI T)) 13 (nI us)) 14 (nI nm)) (updA (updA (updA (updA (updA (updA (updA B 2 g5) 3 g6) 4 g7) 5 g8) 6 g10) 7 g11) 8 g12)) := mW_D hD
                                      exact cut_j r317 0 tt nm us g10 g11 g12 _ _ _ (by omega) (by omega) (Or.inr (by omega)) (by omega) (by omega) (by omega) hR (fun e9 => absurd e9 c319) hP hD hS (lv_sub hl [3, 4, 1, 0, 2, 5] rfl)
                                    · refine lv_aload_n hx hb dX12_cut_274 rfl (lv_at hl 5 rfl) ?_
                                      refine lv_iload_n hx hb dX12_cut_275 rfl (lv_at hl 3 rfl) ?_
                                      refine lv_iload_n hx hb dX12_cut_276 rfl (lv_at hl 1 rfl) ?_
                                      have hP : va_P G.1 pCl (mW G h0 a (upd (upd (upd (upd (upd (upd F 4 (nI sz)) 9 (nI T)) 13 (nI us)) 14 (nI nm)) 13 (nI us)) 14 (nI nm)) (updA (updA (updA (updA (updA (updA (updA (updA (updA (updA B 2 g5) 3 g6) 4 g7) 5 g8) 6 g10) 7 g11) 8 g12) 6 g10) 7 g11) 8 g12)) _ := mW_to (F := F) (l1 := [(4, (nI sz)), (9, (nI T)), (13, (nI us)), (14, (nI nm))]) (l2 := [(4, (nI sz)), (9, (nI T)), (13, (nI us)), (14, (nI nm)), (13, (nI us)), (14, (nI nm))]) (V := [(nI sz), (nI T), (nI us), (nI nm), (nI sz), (nI T), (nI us), (nI nm), (nI us), (nI nm)]) rfl rfl (show (updA (updA (updA (updA (updA (updA (updA B 2 g5) 3 g6) 4 g7) 5 g8) 6 g10) 7 g11) 8 g12) = (updA (updA (updA (updA (updA (updA (updA (updA (updA (updA B 2 g5) 3 g6) 4 g7) 5 g8) 6 g10) 7 g11) 8 g12) 6 g10) 7 g11) 8 g12) from updsA_eq2 (F := B) (l1 := [(2, g5), (3, g6), (4, g7), (5, g8), (6, g10), (7, g11), (8, g12)]) (l2 := [(2, g5), (3, g6), (4, g7), (5, g8), (6, g10), (7, g11), (8, g12), (6, g10), (7, g11), (8, g12)]) (V := [g5, g6, g7, g8, g10, g11, g12, g5, g6, g7, g8, g10, g11, g12, g10, g11, g12]) rfl rfl) hP
                                      have hD : va_D A (mW G h0 a (upd (upd (upd (upd (upd (upd F 4 (nI sz)) 9 (nI T)) 13 (nI us)) 14 (nI nm)) 13 (nI us)) 14 (nI nm)) (updA (updA (updA (updA (updA (updA (updA (updA (updA (updA B 2 g5) 3 g6) 4 g7) 5 g8) 6 g10) 7 g11) 8 g12) 6 g10) 7 g11) 8 g12)) := mW_D hD
                                      refine pc_V0 (G := G) (As := [.int (nI i1), .int (nI tt)]) (rest := []) hx hb hml hown hq hE hX pX0_al hP hD hS hA hl.1 (R_intern l G h0 a (upd (upd (upd (upd F 4 (nI sz)) 9 (nI T)) 13 (nI us)) 14 (nI nm)) (updA (updA (updA (updA (updA (updA (updA B 2 g5) 3 g6) 4 g7) 5 g8) 6 g10) 7 g11) 8 g12) i1 tt nm us g10 g11 g12 (by omega) (by omega) (by omega) (by omega) hR) (gV pw_1582 pw_1583 pw_1584 pw_1523 pw_1528) hV_X12_intern 0 9 rfl rfl rfl rfl (Nat.le_of_ble_eq_true rfl) dX12_cut_277 ⟨Nat.le_of_ble_eq_true rfl, Nat.le_of_ble_eq_true rfl⟩ ⟨Nat.le_of_ble_eq_true rfl, Nat.le_of_ble_eq_true rfl⟩ (fun v322 u320 H locs hw321 hP hD hS => ?_)
                                      obtain ⟨nm323, us324, g325, g326, g327, r328⟩ := u320
                                      obtain ⟨hw321, h329, h330, h331, h332, h333⟩ := hw321
                                      have h329 : nm323 ≤ nm + 1 := h329
                                      have h330 : us324 ≤ us + (tt - i1) := h330
                                      have h331 : rNm nm323 us324 g325 g326 := h331
                                      have h332 : ∃ k : Nat, k < nm323 ∧ r328 = nI k := h332
                                      have h333 : nm ≤ nm323 := h333
                                      obtain rfl : v322 = some (.int r328) := hw321
                                      have hP : va_P G.1 pCl (mW G h0 a (upd (upd (upd (upd F 4 (nI sz)) 9 (nI T)) 13 (nI us324)) 14 (nI nm323)) (updA (updA (updA (updA (updA (updA (updA B 2 g5) 3 g6) 4 g7) 5 g8) 6 g325) 7 g326) 8 g327)) _ := mW_to (F := F) (l1 := [(4, (nI sz)), (9, (nI T)), (13, (nI us)), (14, (nI nm)), (13, (nI us324)), (14, (nI nm323))]) (l2 := [(4, (nI sz)), (9, (nI T)), (13, (nI us324)), (14, (nI nm323))]) (V := [(nI sz), (nI T), (nI us324), (nI nm323), (nI us324), (nI nm323), (nI sz), (nI T), (nI us324), (nI nm323)]) rfl rfl (show (updA (updA (updA (updA (updA (updA (updA (updA (updA (updA B 2 g5) 3 g6) 4 g7) 5 g8) 6 g10) 7 g11) 8 g12) 6 g325) 7 g326) 8 g327) = (updA (updA (updA (updA (updA (updA (updA B 2 g5) 3 g6) 4 g7) 5 g8) 6 g325) 7 g326) 8 g327) from updsA_eq2 (F := B) (l1 := [(2, g5), (3, g6), (4, g7), (5, g8), (6, g10), (7, g11), (8, g12), (6, g325), (7, g326), (8, g327)]) (l2 := [(2, g5), (3, g6), (4, g7), (5, g8), (6, g325), (7, g326), (8, g327)]) (V := [g5, g6, g7, g8, g325, g326, g327, g325, g326, g327, g5, g6, g7, g8, g325, g326, g327]) rfl rfl) hP
                                      have hD : va_D A (mW G h0 a (upd (upd (upd (upd F 4 (nI sz)) 9 (nI T)) 13 (nI us324)) 14 (nI nm323)) (updA (updA (updA (updA (updA (updA (updA B 2 g5) 3 g6) 4 g7) 5 g8) 6 g325) 7 g326) 8 g327)) := mW_D hD
                                      refine W.widen (k := 0) (n := 0) (Nat.le_of_ble_eq_true rfl) (Nat.le_of_ble_eq_true rfl) ?_
                                      refine W.eq (g2 := F0 m 280 ls [.int r328]) rfl ?_
                                      refine lv_istore (lv' := [(5, .int r328), (4, .int r317), (3, .int (nI tt)), (1, .int (nI i1)), (2, .int 1), (0, .ref h0)]) hx hb dX12_cut_280 hl (by decide) rfl (fun ls hl => ?_)
                                      refine lv_goto (tgt := 472) hx hb dX12_cut_282 (by decide) ?_
                                      have hP : va_P G.1 pCl (mW G h0 a (upd (upd (upd (upd F 4 (nI sz)) 9 (nI T)) 13 (nI us324)) 14 (nI nm323)) (updA (updA (updA (updA (updA (updA (updA B 2 g5) 3 g6) 4 g7) 5 g8) 6 g325) 7 g326) 8 g327)) _ := hP
                                      have hD : va_D A (mW G h0 a (upd (upd (upd (upd F 4 (nI sz)) 9 (nI T)) 13 (nI us324)) 14 (nI nm323)) (updA (updA (updA (updA (updA (updA (updA B 2 g5) 3 g6) 4 g7) 5 g8) 6 g325) 7 g326) 8 g327)) := mW_D hD
                                      exact cut_j r317 r328 tt nm323 us324 g325 g326 g327 _ _ _ (by omega) (by omega) (Or.inr (by omega)) (by omega) (by omega) (by omega) h331 (fun _ => h332) hP hD hS (lv_sub hl [3, 4, 2, 1, 0, 5] rfl)
                                  · refine lv_iload_n hx hb dX12_cut_254 rfl (lv_at hl 1 rfl) ?_
                                    refine lv_iload_n hx hb dX12_cut_255 rfl (lv_at hl 3 rfl) ?_
                                    refine lv_isub hx hb dX12_cut_256 ?_
                                    refine lv_topi (fun x334 e335 => ?_)
                                    obtain rfl : x334 = nI (tt - i1) := e335.trans (nI_subN (a := i1) (b := tt) (by omega))
                                    refine lv_bipush (v := 16) hx hb dX12_cut_257 (by decide) ?_
                                    refine lv_icmp_le (tgt := 268) hx hb dX12_cut_259 (by decide) (fun c336 => ?_) (fun c336 => ?_)
                                    · have n337 : (tt - i1) ≤ 16 := (nI_leI (a := (tt - i1)) (b := 16) (by omega) (by omega)).mp c336
                                      refine lv_iload hx hb dX12_cut_268 (lv_at hl 0 rfl) ?_
                                      refine lv_iconst (v := 1) hx hb dX12_cut_270 (by decide) ?_
                                      refine lv_icmp_ne (tgt := 472) hx hb dX12_cut_271 (by decide) (fun c338 => ?_) (fun c338 => ?_)
                                      · have hP : va_P G.1 pCl (mW G h0 a (upd (upd (upd (upd F 4 (nI sz)) 9 (nI T)) 13 (nI us)) 14 (nI nm)) (updA (updA (updA (updA (updA (updA (updA B 2 g5) 3 g6) 4 g7) 5 g8) 6 g10) 7 g11) 8 g12)) _ := hP
                                        have hD : va_D A (mW G h0 a (upd (upd (upd (upd F 4 (nI sz)) 9 (nI T)) 13 (nI us)) 14 (nI nm)) (updA (updA (updA (updA (updA (updA (updA B 2 g5) 3 g6) 4 g7) 5 g8) 6 g10) 7 g11) 8 g12)) := mW_D hD
                                        exact cut_j r317 0 tt nm us g10 g11 g12 _ _ _ (by omega) (by omega) (Or.inr (by omega)) (by omega) (by omega) (by omega) hR (fun e9 => absurd e9 c338) hP hD hS (lv_sub hl [3, 4, 1, 0, 2, 5] rfl)
                                      · refine lv_aload_n hx hb dX12_cut_274 rfl (lv_at hl 5 rfl) ?_
                                        refine lv_iload_n hx hb dX12_cut_275 rfl (lv_at hl 3 rfl) ?_
                                        refine lv_iload_n hx hb dX12_cut_276 rfl (lv_at hl 1 rfl) ?_
                                        have hP : va_P G.1 pCl (mW G h0 a (upd (upd (upd (upd (upd (upd F 4 (nI sz)) 9 (nI T)) 13 (nI us)) 14 (nI nm)) 13 (nI us)) 14 (nI nm)) (updA (updA (updA (updA (updA (updA (updA (updA (updA (updA B 2 g5) 3 g6) 4 g7) 5 g8) 6 g10) 7 g11) 8 g12) 6 g10) 7 g11) 8 g12)) _ := mW_to (F := F) (l1 := [(4, (nI sz)), (9, (nI T)), (13, (nI us)), (14, (nI nm))]) (l2 := [(4, (nI sz)), (9, (nI T)), (13, (nI us)), (14, (nI nm)), (13, (nI us)), (14, (nI nm))]) (V := [(nI sz), (nI T), (nI us), (nI nm), (nI sz), (nI T), (nI us), (nI nm), (nI us), (nI nm)]) rfl rfl (show (updA (updA (updA (updA (updA (updA (updA B 2 g5) 3 g6) 4 g7) 5 g8) 6 g10) 7 g11) 8 g12) = (updA (updA (updA (updA (updA (updA (updA (updA (updA (updA B 2 g5) 3 g6) 4 g7) 5 g8) 6 g10) 7 g11) 8 g12) 6 g10) 7 g11) 8 g12) from updsA_eq2 (F := B) (l1 := [(2, g5), (3, g6), (4, g7), (5, g8), (6, g10), (7, g11), (8, g12)]) (l2 := [(2, g5), (3, g6), (4, g7), (5, g8), (6, g10), (7, g11), (8, g12), (6, g10), (7, g11), (8, g12)]) (V := [g5, g6, g7, g8, g10, g11, g12, g5, g6, g7, g8, g10, g11, g12, g10, g11, g12]) rfl rfl) hP
                                        have hD : va_D A (mW G h0 a (upd (upd (upd (upd (upd (upd F 4 (nI sz)) 9 (nI T)) 13 (nI us)) 14 (nI nm)) 13 (nI us)) 14 (nI nm)) (updA (updA (updA (updA (updA (updA (updA (updA (updA (updA B 2 g5) 3 g6) 4 g7) 5 g8) 6 g10) 7 g11) 8 g12) 6 g10) 7 g11) 8 g12)) := mW_D hD
                                        refine pc_V0 (G := G) (As := [.int (nI i1), .int (nI tt)]) (rest := []) hx hb hml hown hq hE hX pX0_al hP hD hS hA hl.1 (R_intern l G h0 a (upd (upd (upd (upd F 4 (nI sz)) 9 (nI T)) 13 (nI us)) 14 (nI nm)) (updA (updA (updA (updA (updA (updA (updA B 2 g5) 3 g6) 4 g7) 5 g8) 6 g10) 7 g11) 8 g12) i1 tt nm us g10 g11 g12 (by omega) (by omega) (by omega) (by omega) hR) (gV pw_1582 pw_1583 pw_1584 pw_1523 pw_1528) hV_X12_intern 0 9 rfl rfl rfl rfl (Nat.le_of_ble_eq_true rfl) dX12_cut_277 ⟨Nat.le_of_ble_eq_true rfl, Nat.le_of_ble_eq_true rfl⟩ ⟨Nat.le_of_ble_eq_true rfl, Nat.le_of_ble_eq_true rfl⟩ (fun v341 u339 H locs hw340 hP hD hS => ?_)
                                        obtain ⟨nm342, us343, g344, g345, g346, r347⟩ := u339
                                        obtain ⟨hw340, h348, h349, h350, h351, h352⟩ := hw340
                                        have h348 : nm342 ≤ nm + 1 := h348
                                        have h349 : us343 ≤ us + (tt - i1) := h349
                                        have h350 : rNm nm342 us343 g344 g345 := h350
                                        have h351 : ∃ k : Nat, k < nm342 ∧ r347 = nI k := h351
                                        have h352 : nm ≤ nm342 := h352
                                        obtain rfl : v341 = some (.int r347) := hw340
                                        have hP : va_P G.1 pCl (mW G h0 a (upd (upd (upd (upd F 4 (nI sz)) 9 (nI T)) 13 (nI us343)) 14 (nI nm342)) (updA (updA (updA (updA (updA (updA (updA B 2 g5) 3 g6) 4 g7) 5 g8) 6 g344) 7 g345) 8 g346)) _ := mW_to (F := F) (l1 := [(4, (nI sz)), (9, (nI T)), (13, (nI us)), (14, (nI nm)), (13, (nI us343)), (14, (nI nm342))]) (l2 := [(4, (nI sz)), (9, (nI T)), (13, (nI us343)), (14, (nI nm342))]) (V := [(nI sz), (nI T), (nI us343), (nI nm342), (nI us343), (nI nm342), (nI sz), (nI T), (nI us343), (nI nm342)]) rfl rfl (show (updA (updA (updA (updA (updA (updA (updA (updA (updA (updA B 2 g5) 3 g6) 4 g7) 5 g8) 6 g10) 7 g11) 8 g12) 6 g344) 7 g345) 8 g346) = (updA (updA (updA (updA (updA (updA (updA B 2 g5) 3 g6) 4 g7) 5 g8) 6 g344) 7 g345) 8 g346) from updsA_eq2 (F := B) (l1 := [(2, g5), (3, g6), (4, g7), (5, g8), (6, g10), (7, g11), (8, g12), (6, g344), (7, g345), (8, g346)]) (l2 := [(2, g5), (3, g6), (4, g7), (5, g8), (6, g344), (7, g345), (8, g346)]) (V := [g5, g6, g7, g8, g344, g345, g346, g344, g345, g346, g5, g6, g7, g8, g344, g345, g346]) rfl rfl) hP
                                        have hD : va_D A (mW G h0 a (upd (upd (upd (upd F 4 (nI sz)) 9 (nI T)) 13 (nI us343)) 14 (nI nm342)) (updA (updA (updA (updA (updA (updA (updA B 2 g5) 3 g6) 4 g7) 5 g8) 6 g344) 7 g345) 8 g346)) := mW_D hD
                                        refine W.widen (k := 0) (n := 0) (Nat.le_of_ble_eq_true rfl) (Nat.le_of_ble_eq_true rfl) ?_
                                        refine W.eq (g2 := F0 m 280 ls [.int r347]) rfl ?_
                                        refine lv_istore (lv' := [(5, .int r347), (4, .int r317), (3, .int (nI tt)), (1, .int (nI i1)), (2, .int 1), (0, .ref h0)]) hx hb dX12_cut_280 hl (by decide) rfl (fun ls hl => ?_)
                                        refine lv_goto (tgt := 472) hx hb dX12_cut_282 (by decide) ?_
                                        have hP : va_P G.1 pCl (mW G h0 a (upd (upd (upd (upd F 4 (nI sz)) 9 (nI T)) 13 (nI us343)) 14 (nI nm342)) (updA (updA (updA (updA (updA (updA (updA B 2 g5) 3 g6) 4 g7) 5 g8) 6 g344) 7 g345) 8 g346)) _ := hP
                                        have hD : va_D A (mW G h0 a (upd (upd (upd (upd F 4 (nI sz)) 9 (nI T)) 13 (nI us343)) 14 (nI nm342)) (updA (updA (updA (updA (updA (updA (updA B 2 g5) 3 g6) 4 g7) 5 g8) 6 g344) 7 g345) 8 g346)) := mW_D hD
                                        exact cut_j r317 r347 tt nm342 us343 g344 g345 g346 _ _ _ (by omega) (by omega) (Or.inr (by omega)) (by omega) (by omega) (by omega) h350 (fun _ => h351) hP hD hS (lv_sub hl [3, 4, 2, 1, 0, 5] rfl)
                                    · have n353 : ¬ ((tt - i1) ≤ 16) := fun h9 => c336 ((nI_leI (a := (tt - i1)) (b := 16) (by omega) (by omega)).mpr h9)
                                      refine lv_iconst (v := 3) hx hb dX12_cut_262 (by decide) ?_
                                      refine lv_istore (lv' := [(4, .int 3), (3, .int (nI tt)), (5, .int 0), (1, .int (nI i1)), (2, .int 1), (0, .ref h0)]) hx hb dX12_cut_263 hl (by decide) rfl (fun ls hl => ?_)
                                      refine lv_goto (tgt := 472) hx hb dX12_cut_265 (by decide) ?_
                                      have hP : va_P G.1 pCl (mW G h0 a (upd (upd (upd (upd F 4 (nI sz)) 9 (nI T)) 13 (nI us)) 14 (nI nm)) (updA (updA (updA (updA (updA (updA (updA B 2 g5) 3 g6) 4 g7) 5 g8) 6 g10) 7 g11) 8 g12)) _ := hP
                                      have hD : va_D A (mW G h0 a (upd (upd (upd (upd F 4 (nI sz)) 9 (nI T)) 13 (nI us)) 14 (nI nm)) (updA (updA (updA (updA (updA (updA (updA B 2 g5) 3 g6) 4 g7) 5 g8) 6 g10) 7 g11) 8 g12)) := mW_D hD
                                      exact cut_j 3 0 tt nm us g10 g11 g12 _ _ _ (by omega) (by omega) (Or.inr (by omega)) (by omega) (by omega) (by omega) hR (fun e9 => absurd e9 (by decide)) hP hD hS (lv_sub hl [3, 4, 1, 0, 2, 5] rfl)
                                · have hc48 : ¬ r305 < 48 := (hr311).resolve_left c313
                                  have hlet2 : tt < sz ∧ ¬ B 1 tt = 32 := ⟨chin h306 (noM1 hc48), by rw [← ((h306).resolve_left (noM1 hc48)).2]; exact no32 hc48⟩
                                  refine lv_iinc (v := (nI (tt + 1))) (lv' := [(3, .int (nI (tt + 1))), (4, .int 0), (5, .int 0), (1, .int (nI i1)), (2, .int 1), (0, .ref h0)]) hx hb dX12_cut_234 hl (k := 0) rfl (nI_1 tt) (by decide) rfl (fun ls hl => ?_)
                                  refine lv_goto (tgt := 212) hx hb dX12_cut_237 (by decide) ?_
                                  have hP : va_P G.1 pCl (mW G h0 a (upd (upd (upd (upd F 4 (nI sz)) 9 (nI T)) 13 (nI us)) 14 (nI nm)) (updA (updA (updA (updA (updA (updA (updA B 2 g5) 3 g6) 4 g7) 5 g8) 6 g10) 7 g11) 8 g12)) _ := hP
                                  have hD : va_D A (mW G h0 a (upd (upd (upd (upd F 4 (nI sz)) 9 (nI T)) 13 (nI us)) 14 (nI nm)) (updA (updA (updA (updA (updA (updA (updA B 2 g5) 3 g6) 4 g7) 5 g8) 6 g10) 7 g11) 8 g12)) := mW_D hD
                                  exact ih_w (tt + 1) _ _ _ (by have := hlet2.1; omega) (by omega) (by omega) (fun j h8 h9 => (Classical.em (j = tt)).elim (fun e9 => by rw [e9]; exact hlet2.2) (fun e9 => htt j h8 (by omega))) hP hD hS (lv_sub hl [0, 1, 2, 3, 4, 5] rfl)
                          have hP : va_P G.1 pCl (mW G h0 a (upd (upd (upd (upd F 4 (nI sz)) 9 (nI T)) 13 (nI us)) 14 (nI nm)) (updA (updA (updA (updA (updA (updA (updA B 2 g5) 3 g6) 4 g7) 5 g8) 6 g10) 7 g11) 8 g12)) _ := hP
                          have hD : va_D A (mW G h0 a (upd (upd (upd (upd F 4 (nI sz)) 9 (nI T)) 13 (nI us)) 14 (nI nm)) (updA (updA (updA (updA (updA (updA (updA B 2 g5) 3 g6) 4 g7) 5 g8) 6 g10) 7 g11) 8 g12)) := mW_D hD
                          exact loop_w (sz + 1) (i1 + 1) _ _ _ (by omega) (by omega) (by omega) (fun j h8 h9 => by rw [show j = i1 by omega]; exact hlet.2) hP hD hS (lv_sub hl [2, 1, 0, 3, 4, 5] rfl)
                      · have n354 : ¬ (i1 < sz) := fun h9 => c97 ((nI_ltI (a := i1) (b := sz) (by omega) (by omega)).mpr h9)
                        refine lv_iload_n hx hb dX12_cut_196 rfl (lv_at hl 3 rfl) ?_
                        refine lv_istore_n (lv' := [(3, .int (nI i1)), (5, .int 0), (4, .int 0), (1, .int (nI i1)), (2, .int 1), (0, .ref h0)]) hx hb dX12_cut_197 rfl hl (by decide) rfl (fun ls hl => ?_)
                        refine lv_goto (tgt := 472) hx hb dX12_cut_198 (by decide) ?_
                        have hP : va_P G.1 pCl (mW G h0 a (upd (upd (upd (upd F 4 (nI sz)) 9 (nI T)) 13 (nI us)) 14 (nI nm)) (updA (updA (updA (updA (updA (updA (updA B 2 g5) 3 g6) 4 g7) 5 g8) 6 g10) 7 g11) 8 g12)) _ := hP
                        have hD : va_D A (mW G h0 a (upd (upd (upd (upd F 4 (nI sz)) 9 (nI T)) 13 (nI us)) 14 (nI nm)) (updA (updA (updA (updA (updA (updA (updA B 2 g5) 3 g6) 4 g7) 5 g8) 6 g10) 7 g11) 8 g12)) := mW_D hD
                        exact cut_j 0 0 i1 nm us g10 g11 g12 _ _ _ (by omega) (by omega) (Or.inl rfl) (by omega) (by omega) (by omega) hR (fun e9 => absurd e9 (by decide)) hP hD hS (lv_sub hl [3, 4, 0, 2, 1, 5] rfl)
                    · have h47 : i1 < sz ∧ B 1 i1 = 47 := ⟨chin h82 (by rw [c83]; decide), by rw [← ((h82).resolve_left (by rw [c83]; decide)).2]; exact c83⟩
                      refine lv_aload_n hx hb dX12_cut_142 rfl (lv_at hl 2 rfl) ?_
                      refine lv_iload_n hx hb dX12_cut_143 rfl (lv_at hl 0 rfl) ?_
                      refine lv_iconst (v := 1) hx hb dX12_cut_144 (by decide) ?_
                      refine lv_iadd hx hb dX12_cut_145 ?_
                      refine lv_topi (fun x355 e356 => ?_)
                      obtain rfl : x355 = nI (i1 + 1) := e356.trans (nI_add (i1) (1))
                      have hP : va_P G.1 pCl (mW G h0 a (upd (upd (upd (upd (upd F 4 (nI sz)) 9 (nI T)) 13 (nI us)) 14 (nI nm)) 4 (nI sz)) (updA (updA (updA (updA (updA (updA (updA B 2 g5) 3 g6) 4 g7) 5 g8) 6 g10) 7 g11) 8 g12)) _ := mW_to (F := F) (l1 := [(4, (nI sz)), (9, (nI T)), (13, (nI us)), (14, (nI nm))]) (l2 := [(4, (nI sz)), (9, (nI T)), (13, (nI us)), (14, (nI nm)), (4, (nI sz))]) (V := [(nI sz), (nI T), (nI us), (nI nm), (nI sz), (nI T), (nI us), (nI nm), (nI sz)]) rfl rfl rfl hP
                      have hD : va_D A (mW G h0 a (upd (upd (upd (upd (upd F 4 (nI sz)) 9 (nI T)) 13 (nI us)) 14 (nI nm)) 4 (nI sz)) (updA (updA (updA (updA (updA (updA (updA B 2 g5) 3 g6) 4 g7) 5 g8) 6 g10) 7 g11) 8 g12)) := mW_D hD
                      refine pc_V0 (G := G) (As := [.int (nI (i1 + 1))]) (rest := []) hx hb hml hown hq hE hX pX0_al hP hD hS hA hl.1 (R_ch l G h0 a (upd (upd (upd (upd F 4 (nI sz)) 9 (nI T)) 13 (nI us)) 14 (nI nm)) (updA (updA (updA (updA (updA (updA (updA B 2 g5) 3 g6) 4 g7) 5 g8) 6 g10) 7 g11) 8 g12) (i1 + 1) sz (by omega) (by omega)) (gV pw_1561 pw_1562 pw_1563 pw_1523 pw_1518) hV_X12_ch 0 9 rfl rfl rfl rfl (Nat.le_of_ble_eq_true rfl) dX12_cut_146 ⟨Nat.le_of_ble_eq_true rfl, Nat.le_of_ble_eq_true rfl⟩ ⟨Nat.le_of_ble_eq_true rfl, Nat.le_of_ble_eq_true rfl⟩ (fun v359 u357 H locs hw358 hP hD hS => ?_)
                      obtain ⟨r360, rfl⟩ : ∃ z, z = u357 := ⟨_, rfl⟩
                      obtain ⟨hw358, h361⟩ := hw358
                      have h361 : r360 = (-1) ∨ (i1 + 1) < sz ∧ r360 = (B 1) (i1 + 1) := h361
                      obtain rfl : v359 = some (.int r360) := hw358
                      have hP : va_P G.1 pCl (mW G h0 a (upd (upd (upd (upd F 4 (nI sz)) 9 (nI T)) 13 (nI us)) 14 (nI nm)) (updA (updA (updA (updA (updA (updA (updA B 2 g5) 3 g6) 4 g7) 5 g8) 6 g10) 7 g11) 8 g12)) _ := mW_to (F := F) (l1 := [(4, (nI sz)), (9, (nI T)), (13, (nI us)), (14, (nI nm)), (4, (nI sz))]) (l2 := [(4, (nI sz)), (9, (nI T)), (13, (nI us)), (14, (nI nm))]) (V := [(nI sz), (nI T), (nI us), (nI nm), (nI sz), (nI sz), (nI T), (nI us), (nI nm)]) rfl rfl rfl hP
                      have hD : va_D A (mW G h0 a (upd (upd (upd (upd F 4 (nI sz)) 9 (nI T)) 13 (nI us)) 14 (nI nm)) (updA (updA (updA (updA (updA (updA (updA B 2 g5) 3 g6) 4 g7) 5 g8) 6 g10) 7 g11) 8 g12)) := mW_D hD
                      refine W.widen (k := 0) (n := 0) (Nat.le_of_ble_eq_true rfl) (Nat.le_of_ble_eq_true rfl) ?_
                      refine W.eq (g2 := F0 m 149 ls [.int r360]) rfl ?_
                      refine lv_bipush (v := 47) hx hb dX12_cut_149 (by decide) ?_
                      refine lv_icmp_ne (tgt := 178) hx hb dX12_cut_151 (by decide) (fun c362 => ?_) (fun c362 => ?_)
                      · have cut_j : ∀ (kd : Int32) (vl : Int32) (t2 : Nat) (nm2 : Nat) (us2 : Nat) (h10 : Nat → Int32) (h11 : Nat → Int32) (h12 : Nat → Int32) (H : Heap) (locs : List Loc) (ls : Array Slot), (i1 ≤ t2) → (t2 ≤ sz) → (kd = 0 ∨ i1 < t2) → (nm ≤ nm2) → (nm2 ≤ 9 + t2) → (us2 ≤ 40 + t2) → (rNm nm2 us2 h10 h11) → (kd = 1 → ∃ k : Nat, k < nm2 ∧ vl = nI k) → va_P G.1 pCl (mW G h0 a (upd (upd (upd (upd F 4 (nI sz)) 9 (nI T)) 13 (nI us2)) 14 (nI nm2)) (updA (updA (updA (updA (updA (updA (updA B 2 g5) 3 g6) 4 g7) 5 g8) 6 h10) 7 h11) 8 h12)) H → va_D A (mW G h0 a (upd (upd (upd (upd F 4 (nI sz)) 9 (nI T)) 13 (nI us2)) 14 (nI nm2)) (updA (updA (updA (updA (updA (updA (updA B 2 g5) 3 g6) 4 g7) 5 g8) 6 h10) 7 h11) 8 h12)) → va_S A s.heap H locs → lv_has ls 9 [(1, .int (nI i1)), (2, .int 1), (3, .int (nI t2)), (4, .int kd), (5, .int vl), (0, .ref h0)] → W p l e (headSpec (Cond.code yX12_cut cX12_cut 9 none :: pw) ({ frames := 7, cells := 0, slots := 0, locals := 174 } : Room)).room s m ([.ref h0] : List Value).toArray below meth c H locs 0 0 (MQ below (pQ G A (fun (v : Option Value) (u : Nat × Nat × Nat × (Nat → Int32) × (Nat → Int32) × (Nat → Int32) × (Nat → Int32) × (Nat → Int32) × (Nat → Int32) × (Nat → Int32)) => v = none ∧ (u.1 ≤ sz) ∧ (u.2.2.2.2.2.2.1 u.1 = 0 ∨ u.2.2.2.2.2.2.1 u.1 = 3) ∧ (rNm u.2.1 u.2.2.1 u.2.2.2.1 u.2.2.2.2.1) ∧ (u.2.1 ≤ 9 + sz) ∧ (u.2.2.1 ≤ 40 + sz) ∧ (rTk u.1 u.2.1 u.2.2.2.2.2.2.1 u.2.2.2.2.2.2.2.2.2) ∧ (9 ≤ u.2.1)) (fun u => (mW G h0 a (upd (upd (upd (upd F 4 (nI sz)) 9 (nI u.1)) 13 (nI u.2.2.1)) 14 (nI u.2.1)) (updA (updA (updA (updA (updA (updA (updA B 2 u.2.2.2.2.2.2.1) 3 u.2.2.2.2.2.2.2.1) 4 u.2.2.2.2.2.2.2.2.1) 5 u.2.2.2.2.2.2.2.2.2) 6 u.2.2.2.1) 7 u.2.2.2.2.1) 8 u.2.2.2.2.2.1)))) ([.ref h0] : List Value).toArray s ({ frames := 7, cells := 0, slots := 0, locals := 174 } : Room).cells ({ frames := 7, cells := 0, slots := 0, locals := 174 } : Room).slots A) (F0 m 472 ls []) := by
                          intro kd vl t2 nm2 us2 h10 h11 h12 H locs ls ht2 ht3 hp2 hn2 hn3 hu2 hR2 hv2 hP hD hS hl
                          refine lv_aload_n hx hb dX12_cut_472 rfl (lv_at hl 5 rfl) ?_
                          refine r_get (v := .ref (a 2)) hx hb hown hq hE hP 5 16 tFX12_5 (by decide) pw_1432 rfl dX12_cut_473 ?_
                          refine lv_aload_n hx hb dX12_cut_476 rfl (lv_at hl 5 rfl) ?_
                          refine r_get (v := .int (nI T)) hx hb hown hq hE hP 9 314 tFX12_9 (by decide) pw_1568 rfl dX12_cut_477 ?_
                          refine lv_iload hx hb dX12_cut_480 (lv_at hl 3 rfl) ?_
                          refine r_sti (f := g5) (j := T) hx hb hE hP hD hS 2 (ma_2 G a _) rfl (mas_2 G a _) (by omega) (by decide) dX12_cut_482 (fun H locs hP hD hS => ?_)
                          refine lv_aload_n hx hb dX12_cut_483 rfl (lv_at hl 5 rfl) ?_
                          refine r_get (v := .ref (a 3)) hx hb hown hq hE hP 6 19 tFX12_6 (by decide) pw_1433 rfl dX12_cut_484 ?_
                          refine lv_aload_n hx hb dX12_cut_487 rfl (lv_at hl 5 rfl) ?_
                          refine r_get (v := .int (nI T)) hx hb hown hq hE hP 9 314 tFX12_9 (by decide) pw_1568 rfl dX12_cut_488 ?_
                          refine lv_iload_n hx hb dX12_cut_491 rfl (lv_at hl 0 rfl) ?_
                          refine r_sti (f := g6) (j := T) hx hb hE hP hD hS 3 (ma_3 G a _) rfl (mas_3 G a _) (by omega) (by decide) dX12_cut_492 (fun H locs hP hD hS => ?_)
                          refine lv_aload_n hx hb dX12_cut_493 rfl (lv_at hl 5 rfl) ?_
                          refine r_get (v := .ref (a 4)) hx hb hown hq hE hP 7 22 tFX12_7 (by decide) pw_1434 rfl dX12_cut_494 ?_
                          refine lv_aload_n hx hb dX12_cut_497 rfl (lv_at hl 5 rfl) ?_
                          refine r_get (v := .int (nI T)) hx hb hown hq hE hP 9 314 tFX12_9 (by decide) pw_1568 rfl dX12_cut_498 ?_
                          refine lv_iload_n hx hb dX12_cut_501 rfl (lv_at hl 2 rfl) ?_
                          refine r_sti (f := g7) (j := T) hx hb hE hP hD hS 4 (ma_4 G a _) rfl (mas_4 G a _) (by omega) (by decide) dX12_cut_502 (fun H locs hP hD hS => ?_)
                          refine lv_aload_n hx hb dX12_cut_503 rfl (lv_at hl 5 rfl) ?_
                          refine r_get (v := .ref (a 5)) hx hb hown hq hE hP 8 25 tFX12_8 (by decide) pw_1435 rfl dX12_cut_504 ?_
                          refine lv_aload_n hx hb dX12_cut_507 rfl (lv_at hl 5 rfl) ?_
                          refine r_get (v := .int (nI T)) hx hb hown hq hE hP 9 314 tFX12_9 (by decide) pw_1568 rfl dX12_cut_508 ?_
                          refine lv_iload hx hb dX12_cut_511 (lv_at hl 4 rfl) ?_
                          refine r_sti (f := g8) (j := T) hx hb hE hP hD hS 5 (ma_5 G a _) rfl (mas_5 G a _) (by omega) (by decide) dX12_cut_513 (fun H locs hP hD hS => ?_)
                          refine lv_iload hx hb dX12_cut_514 (lv_at hl 3 rfl) ?_
                          refine lv_if_eq (tgt := 529) hx hb dX12_cut_516 (by decide) (fun c363 => ?_) (fun c363 => ?_)
                          · refine lv_iconst (v := 0) hx hb dX12_cut_529 (by decide) ?_
                            refine lv_istore_n (lv' := [(2, .int 0), (1, .int (nI i1)), (3, .int (nI t2)), (4, .int kd), (5, .int vl), (0, .ref h0)]) hx hb dX12_cut_530 rfl hl (by decide) rfl (fun ls hl => ?_)
                            refine lv_aload_n hx hb dX12_cut_531 rfl (lv_at hl 5 rfl) ?_
                            refine lv_dup hx hb dX12_cut_532 rfl ?_
                            refine r_get (v := .int (nI T)) hx hb hown hq hE hP 9 314 tFX12_9 (by decide) pw_1568 rfl dX12_cut_533 ?_
                            refine lv_iload_n hx hb dX12_cut_536 rfl (lv_at hl 0 rfl) ?_
                            refine lv_if_eq (tgt := 544) hx hb dX12_cut_537 (by decide) (fun c364 => ?_) (fun c364 => absurd c364 (by decide))
                            refine lv_iconst (v := 0) hx hb dX12_cut_544 (by decide) ?_
                            refine lv_iadd hx hb dX12_cut_545 ?_
                            refine lv_topi (fun x365 e366 => ?_)
                            obtain rfl : x365 = nI (T + 0) := e366.trans (nI_add (T) (0))
                            refine r_put (v := (nI (T + 0))) (ty := .int) hx hb hown hq hE hP hD hS 9 314 tFX12_9 (by decide) pw_1568 (by decide) rfl rfl (ms_9 a _ _) dX12_cut_546 (fun H locs hP hD hS => ?_)
                            refine lv_iload_n hx hb dX12_cut_549 rfl (lv_at hl 2 rfl) ?_
                            refine lv_istore_n (lv' := [(1, .int (nI t2)), (2, .int 0), (3, .int (nI t2)), (4, .int kd), (5, .int vl), (0, .ref h0)]) hx hb dX12_cut_550 rfl hl (by decide) rfl (fun ls hl => ?_)
                            refine lv_goto (tgt := 82) hx hb dX12_cut_551 (by decide) ?_
                            have hP : va_P G.1 pCl (mW G h0 a (upd (upd (upd (upd F 4 (nI sz)) 9 (nI T)) 13 (nI us2)) 14 (nI nm2)) (updA (updA (updA (updA (updA (updA (updA B 2 (upd g5 T kd)) 3 (upd g6 T (nI i1))) 4 (upd g7 T (nI t2))) 5 (upd g8 T vl)) 6 h10) 7 h11) 8 h12)) _ := mW_to (F := F) (l1 := [(4, (nI sz)), (9, (nI T)), (13, (nI us2)), (14, (nI nm2)), (9, (nI (T + 0)))]) (l2 := [(4, (nI sz)), (9, (nI T)), (13, (nI us2)), (14, (nI nm2))]) (V := [(nI sz), (nI T), (nI us2), (nI nm2), (nI T), (nI sz), (nI T), (nI us2), (nI nm2)]) rfl rfl (show (updA (updA (updA (updA (updA (updA (updA (updA (updA (updA (updA B 2 g5) 3 g6) 4 g7) 5 g8) 6 h10) 7 h11) 8 h12) 2 (upd g5 T kd)) 3 (upd g6 T (nI i1))) 4 (upd g7 T (nI t2))) 5 (upd g8 T vl)) = (updA (updA (updA (updA (updA (updA (updA B 2 (upd g5 T kd)) 3 (upd g6 T (nI i1))) 4 (upd g7 T (nI t2))) 5 (upd g8 T vl)) 6 h10) 7 h11) 8 h12) from updsA_eq2 (F := B) (l1 := [(2, g5), (3, g6), (4, g7), (5, g8), (6, h10), (7, h11), (8, h12), (2, (upd g5 T kd)), (3, (upd g6 T (nI i1))), (4, (upd g7 T (nI t2))), (5, (upd g8 T vl))]) (l2 := [(2, (upd g5 T kd)), (3, (upd g6 T (nI i1))), (4, (upd g7 T (nI t2))), (5, (upd g8 T vl)), (6, h10), (7, h11), (8, h12)]) (V := [(upd g5 T kd), (upd g6 T (nI i1)), (upd g7 T (nI t2)), (upd g8 T vl), h10, h11, h12, (upd g5 T kd), (upd g6 T (nI i1)), (upd g7 T (nI t2)), (upd g8 T vl), (upd g5 T kd), (upd g6 T (nI i1)), (upd g7 T (nI t2)), (upd g8 T vl), h10, h11, h12]) rfl rfl) hP
                            have hD : va_D A (mW G h0 a (upd (upd (upd (upd F 4 (nI sz)) 9 (nI T)) 13 (nI us2)) 14 (nI nm2)) (updA (updA (updA (updA (updA (updA (updA B 2 (upd g5 T kd)) 3 (upd g6 T (nI i1))) 4 (upd g7 T (nI t2))) 5 (upd g8 T vl)) 6 h10) 7 h11) 8 h12)) := mW_D hD
                            exact ih_o (t2 + 1) t2 T nm2 us2 0 h10 h11 h12 (upd g5 T kd) (upd g6 T (nI i1)) (upd g7 T (nI t2)) (upd g8 T vl) _ _ _ (by omega) (by omega) (Or.inr ⟨rfl, rfl⟩) (by omega) (by omega) (by omega) (by omega) (fun _ => Or.inl (by unfold upd; rw [if_pos rfl]; exact c363)) hR2 (rTk_up2 hTk hn2) (by omega) hP hD hS (lv_sub hl [0, 1, 5] rfl)
                          · refine lv_iload hx hb dX12_cut_519 (lv_at hl 3 rfl) ?_
                            refine lv_iconst (v := 3) hx hb dX12_cut_521 (by decide) ?_
                            refine lv_icmp_eq (tgt := 529) hx hb dX12_cut_522 (by decide) (fun c367 => ?_) (fun c367 => ?_)
                            · refine lv_iconst (v := 0) hx hb dX12_cut_529 (by decide) ?_
                              refine lv_istore_n (lv' := [(2, .int 0), (1, .int (nI i1)), (3, .int (nI t2)), (4, .int kd), (5, .int vl), (0, .ref h0)]) hx hb dX12_cut_530 rfl hl (by decide) rfl (fun ls hl => ?_)
                              refine lv_aload_n hx hb dX12_cut_531 rfl (lv_at hl 5 rfl) ?_
                              refine lv_dup hx hb dX12_cut_532 rfl ?_
                              refine r_get (v := .int (nI T)) hx hb hown hq hE hP 9 314 tFX12_9 (by decide) pw_1568 rfl dX12_cut_533 ?_
                              refine lv_iload_n hx hb dX12_cut_536 rfl (lv_at hl 0 rfl) ?_
                              refine lv_if_eq (tgt := 544) hx hb dX12_cut_537 (by decide) (fun c368 => ?_) (fun c368 => absurd c368 (by decide))
                              refine lv_iconst (v := 0) hx hb dX12_cut_544 (by decide) ?_
                              refine lv_iadd hx hb dX12_cut_545 ?_
                              refine lv_topi (fun x369 e370 => ?_)
                              obtain rfl : x369 = nI (T + 0) := e370.trans (nI_add (T) (0))
                              refine r_put (v := (nI (T + 0))) (ty := .int) hx hb hown hq hE hP hD hS 9 314 tFX12_9 (by decide) pw_1568 (by decide) rfl rfl (ms_9 a _ _) dX12_cut_546 (fun H locs hP hD hS => ?_)
                              refine lv_iload_n hx hb dX12_cut_549 rfl (lv_at hl 2 rfl) ?_
                              refine lv_istore_n (lv' := [(1, .int (nI t2)), (2, .int 0), (3, .int (nI t2)), (4, .int kd), (5, .int vl), (0, .ref h0)]) hx hb dX12_cut_550 rfl hl (by decide) rfl (fun ls hl => ?_)
                              refine lv_goto (tgt := 82) hx hb dX12_cut_551 (by decide) ?_
                              have hP : va_P G.1 pCl (mW G h0 a (upd (upd (upd (upd F 4 (nI sz)) 9 (nI T)) 13 (nI us2)) 14 (nI nm2)) (updA (updA (updA (updA (updA (updA (updA B 2 (upd g5 T kd)) 3 (upd g6 T (nI i1))) 4 (upd g7 T (nI t2))) 5 (upd g8 T vl)) 6 h10) 7 h11) 8 h12)) _ := mW_to (F := F) (l1 := [(4, (nI sz)), (9, (nI T)), (13, (nI us2)), (14, (nI nm2)), (9, (nI (T + 0)))]) (l2 := [(4, (nI sz)), (9, (nI T)), (13, (nI us2)), (14, (nI nm2))]) (V := [(nI sz), (nI T), (nI us2), (nI nm2), (nI T), (nI sz), (nI T), (nI us2), (nI nm2)]) rfl rfl (show (updA (updA (updA (updA (updA (updA (updA (updA (updA (updA (updA B 2 g5) 3 g6) 4 g7) 5 g8) 6 h10) 7 h11) 8 h12) 2 (upd g5 T kd)) 3 (upd g6 T (nI i1))) 4 (upd g7 T (nI t2))) 5 (upd g8 T vl)) = (updA (updA (updA (updA (updA (updA (updA B 2 (upd g5 T kd)) 3 (upd g6 T (nI i1))) 4 (upd g7 T (nI t2))) 5 (upd g8 T vl)) 6 h10) 7 h11) 8 h12) from updsA_eq2 (F := B) (l1 := [(2, g5), (3, g6), (4, g7), (5, g8), (6, h10), (7, h11), (8, h12), (2, (upd g5 T kd)), (3, (upd g6 T (nI i1))), (4, (upd g7 T (nI t2))), (5, (upd g8 T vl))]) (l2 := [(2, (upd g5 T kd)), (3, (upd g6 T (nI i1))), (4, (upd g7 T (nI t2))), (5, (upd g8 T vl)), (6, h10), (7, h11), (8, h12)]) (V := [(upd g5 T kd), (upd g6 T (nI i1)), (upd g7 T (nI t2)), (upd g8 T vl), h10, h11, h12, (upd g5 T kd), (upd g6 T (nI i1)), (upd g7 T (nI t2)), (upd g8 T vl), (upd g5 T kd), (upd g6 T (nI i1)), (upd g7 T (nI t2)), (upd g8 T vl), h10, h11, h12]) rfl rfl) hP
                              have hD : va_D A (mW G h0 a (upd (upd (upd (upd F 4 (nI sz)) 9 (nI T)) 13 (nI us2)) 14 (nI nm2)) (updA (updA (updA (updA (updA (updA (updA B 2 (upd g5 T kd)) 3 (upd g6 T (nI i1))) 4 (upd g7 T (nI t2))) 5 (upd g8 T vl)) 6 h10) 7 h11) 8 h12)) := mW_D hD
                              exact ih_o (t2 + 1) t2 T nm2 us2 0 h10 h11 h12 (upd g5 T kd) (upd g6 T (nI i1)) (upd g7 T (nI t2)) (upd g8 T vl) _ _ _ (by omega) (by omega) (Or.inr ⟨rfl, rfl⟩) (by omega) (by omega) (by omega) (by omega) (fun _ => Or.inr (by unfold upd; rw [if_pos rfl]; exact c367)) hR2 (rTk_up2 hTk hn2) (by omega) hP hD hS (lv_sub hl [0, 1, 5] rfl)
                            · refine lv_iconst (v := 1) hx hb dX12_cut_525 (by decide) ?_
                              refine lv_goto (tgt := 530) hx hb dX12_cut_526 (by decide) ?_
                              refine lv_istore_n (lv' := [(2, .int 1), (1, .int (nI i1)), (3, .int (nI t2)), (4, .int kd), (5, .int vl), (0, .ref h0)]) hx hb dX12_cut_530 rfl hl (by decide) rfl (fun ls hl => ?_)
                              refine lv_aload_n hx hb dX12_cut_531 rfl (lv_at hl 5 rfl) ?_
                              refine lv_dup hx hb dX12_cut_532 rfl ?_
                              refine r_get (v := .int (nI T)) hx hb hown hq hE hP 9 314 tFX12_9 (by decide) pw_1568 rfl dX12_cut_533 ?_
                              refine lv_iload_n hx hb dX12_cut_536 rfl (lv_at hl 0 rfl) ?_
                              refine lv_if_eq (tgt := 544) hx hb dX12_cut_537 (by decide) (fun c371 => absurd c371 (by decide)) (fun c371 => ?_)
                              refine lv_iconst (v := 1) hx hb dX12_cut_540 (by decide) ?_
                              refine lv_goto (tgt := 545) hx hb dX12_cut_541 (by decide) ?_
                              refine lv_iadd hx hb dX12_cut_545 ?_
                              refine lv_topi (fun x372 e373 => ?_)
                              obtain rfl : x372 = nI (T + 1) := e373.trans (nI_add (T) (1))
                              refine r_put (v := (nI (T + 1))) (ty := .int) hx hb hown hq hE hP hD hS 9 314 tFX12_9 (by decide) pw_1568 (by decide) rfl rfl (ms_9 a _ _) dX12_cut_546 (fun H locs hP hD hS => ?_)
                              refine lv_iload_n hx hb dX12_cut_549 rfl (lv_at hl 2 rfl) ?_
                              refine lv_istore_n (lv' := [(1, .int (nI t2)), (2, .int 1), (3, .int (nI t2)), (4, .int kd), (5, .int vl), (0, .ref h0)]) hx hb dX12_cut_550 rfl hl (by decide) rfl (fun ls hl => ?_)
                              refine lv_goto (tgt := 82) hx hb dX12_cut_551 (by decide) ?_
                              have hp3 : i1 < t2 := hp2.resolve_left c363
                              have hP : va_P G.1 pCl (mW G h0 a (upd (upd (upd (upd F 4 (nI sz)) 9 (nI (T + 1))) 13 (nI us2)) 14 (nI nm2)) (updA (updA (updA (updA (updA (updA (updA B 2 (upd g5 T kd)) 3 (upd g6 T (nI i1))) 4 (upd g7 T (nI t2))) 5 (upd g8 T vl)) 6 h10) 7 h11) 8 h12)) _ := mW_to (F := F) (l1 := [(4, (nI sz)), (9, (nI T)), (13, (nI us2)), (14, (nI nm2)), (9, (nI (T + 1)))]) (l2 := [(4, (nI sz)), (9, (nI (T + 1))), (13, (nI us2)), (14, (nI nm2))]) (V := [(nI sz), (nI (T + 1)), (nI us2), (nI nm2), (nI (T + 1)), (nI sz), (nI (T + 1)), (nI us2), (nI nm2)]) rfl rfl (show (updA (updA (updA (updA (updA (updA (updA (updA (updA (updA (updA B 2 g5) 3 g6) 4 g7) 5 g8) 6 h10) 7 h11) 8 h12) 2 (upd g5 T kd)) 3 (upd g6 T (nI i1))) 4 (upd g7 T (nI t2))) 5 (upd g8 T vl)) = (updA (updA (updA (updA (updA (updA (updA B 2 (upd g5 T kd)) 3 (upd g6 T (nI i1))) 4 (upd g7 T (nI t2))) 5 (upd g8 T vl)) 6 h10) 7 h11) 8 h12) from updsA_eq2 (F := B) (l1 := [(2, g5), (3, g6), (4, g7), (5, g8), (6, h10), (7, h11), (8, h12), (2, (upd g5 T kd)), (3, (upd g6 T (nI i1))), (4, (upd g7 T (nI t2))), (5, (upd g8 T vl))]) (l2 := [(2, (upd g5 T kd)), (3, (upd g6 T (nI i1))), (4, (upd g7 T (nI t2))), (5, (upd g8 T vl)), (6, h10), (7, h11), (8, h12)]) (V := [(upd g5 T kd), (upd g6 T (nI i1)), (upd g7 T (nI t2)), (upd g8 T vl), h10, h11, h12, (upd g5 T kd), (upd g6 T (nI i1)), (upd g7 T (nI t2)), (upd g8 T vl), (upd g5 T kd), (upd g6 T (nI i1)), (upd g7 T (nI t2)), (upd g8 T vl), h10, h11, h12]) rfl rfl) hP
                              have hD : va_D A (mW G h0 a (upd (upd (upd (upd F 4 (nI sz)) 9 (nI (T + 1))) 13 (nI us2)) 14 (nI nm2)) (updA (updA (updA (updA (updA (updA (updA B 2 (upd g5 T kd)) 3 (upd g6 T (nI i1))) 4 (upd g7 T (nI t2))) 5 (upd g8 T vl)) 6 h10) 7 h11) 8 h12)) := mW_D hD
                              exact ih_o t2 t2 (T + 1) nm2 us2 1 h10 h11 h12 (upd g5 T kd) (upd g6 T (nI i1)) (upd g7 T (nI t2)) (upd g8 T vl) _ _ _ (by omega) (by omega) (Or.inl ⟨rfl, rfl⟩) (by omega) (by omega) (by omega) (by omega) (fun h9 => absurd h9 (by decide)) hR2 (rTk_upd hTk hn2 hv2) (by omega) hP hD hS (lv_sub hl [0, 1, 5] rfl)
                        refine lv_iload_n hx hb dX12_cut_178 rfl (lv_at hl 0 rfl) ?_
                        refine lv_iconst (v := 1) hx hb dX12_cut_179 (by decide) ?_
                        refine lv_iadd hx hb dX12_cut_180 ?_
                        refine lv_topi (fun x374 e375 => ?_)
                        obtain rfl : x374 = nI (i1 + 1) := e375.trans (nI_add (i1) (1))
                        refine lv_istore_n (lv' := [(3, .int (nI (i1 + 1))), (1, .int (nI i1)), (2, .int 1), (0, .ref h0)]) hx hb dX12_cut_181 rfl hl (by decide) rfl (fun ls hl => ?_)
                        refine lv_iconst (v := 0) hx hb dX12_cut_182 (by decide) ?_
                        refine lv_istore (lv' := [(4, .int 0), (3, .int (nI (i1 + 1))), (1, .int (nI i1)), (2, .int 1), (0, .ref h0)]) hx hb dX12_cut_183 hl (by decide) rfl (fun ls hl => ?_)
                        refine lv_iconst (v := 0) hx hb dX12_cut_185 (by decide) ?_
                        refine lv_istore (lv' := [(5, .int 0), (4, .int 0), (3, .int (nI (i1 + 1))), (1, .int (nI i1)), (2, .int 1), (0, .ref h0)]) hx hb dX12_cut_186 hl (by decide) rfl (fun ls hl => ?_)
                        refine lv_iload_n hx hb dX12_cut_188 rfl (lv_at hl 3 rfl) ?_
                        refine lv_aload_n hx hb dX12_cut_189 rfl (lv_at hl 5 rfl) ?_
                        refine r_get (v := .int (nI sz)) hx hb hown hq hE hP 4 258 tFX12_4 (by decide) pw_1519 rfl dX12_cut_190 ?_
                        refine lv_icmp_lt (tgt := 201) hx hb dX12_cut_193 (by decide) (fun c376 => ?_) (fun c376 => ?_)
                        · have n377 : i1 < sz := (nI_ltI (a := i1) (b := sz) (by omega) (by omega)).mp c376
                          refine lv_aload_n hx hb dX12_cut_201 rfl (lv_at hl 5 rfl) ?_
                          refine lv_iload_n hx hb dX12_cut_202 rfl (lv_at hl 3 rfl) ?_
                          have hP : va_P G.1 pCl (mW G h0 a (upd (upd (upd (upd (upd F 4 (nI sz)) 9 (nI T)) 13 (nI us)) 14 (nI nm)) 4 (nI sz)) (updA (updA (updA (updA (updA (updA (updA B 2 g5) 3 g6) 4 g7) 5 g8) 6 g10) 7 g11) 8 g12)) _ := mW_to (F := F) (l1 := [(4, (nI sz)), (9, (nI T)), (13, (nI us)), (14, (nI nm))]) (l2 := [(4, (nI sz)), (9, (nI T)), (13, (nI us)), (14, (nI nm)), (4, (nI sz))]) (V := [(nI sz), (nI T), (nI us), (nI nm), (nI sz), (nI T), (nI us), (nI nm), (nI sz)]) rfl rfl rfl hP
                          have hD : va_D A (mW G h0 a (upd (upd (upd (upd (upd F 4 (nI sz)) 9 (nI T)) 13 (nI us)) 14 (nI nm)) 4 (nI sz)) (updA (updA (updA (updA (updA (updA (updA B 2 g5) 3 g6) 4 g7) 5 g8) 6 g10) 7 g11) 8 g12)) := mW_D hD
                          refine pc_V0 (G := G) (As := [.int (nI i1)]) (rest := []) hx hb hml hown hq hE hX pX0_al hP hD hS hA hl.1 (R_ch l G h0 a (upd (upd (upd (upd F 4 (nI sz)) 9 (nI T)) 13 (nI us)) 14 (nI nm)) (updA (updA (updA (updA (updA (updA (updA B 2 g5) 3 g6) 4 g7) 5 g8) 6 g10) 7 g11) 8 g12) i1 sz (by omega) (by omega)) (gV pw_1561 pw_1562 pw_1563 pw_1523 pw_1518) hV_X12_ch 0 9 rfl rfl rfl rfl (Nat.le_of_ble_eq_true rfl) dX12_cut_203 ⟨Nat.le_of_ble_eq_true rfl, Nat.le_of_ble_eq_true rfl⟩ ⟨Nat.le_of_ble_eq_true rfl, Nat.le_of_ble_eq_true rfl⟩ (fun v380 u378 H locs hw379 hP hD hS => ?_)
                          obtain ⟨r381, rfl⟩ : ∃ z, z = u378 := ⟨_, rfl⟩
                          obtain ⟨hw379, h382⟩ := hw379
                          have h382 : r381 = (-1) ∨ i1 < sz ∧ r381 = (B 1) i1 := h382
                          obtain rfl : v380 = some (.int r381) := hw379
                          have hP : va_P G.1 pCl (mW G h0 a (upd (upd (upd (upd F 4 (nI sz)) 9 (nI T)) 13 (nI us)) 14 (nI nm)) (updA (updA (updA (updA (updA (updA (updA B 2 g5) 3 g6) 4 g7) 5 g8) 6 g10) 7 g11) 8 g12)) _ := mW_to (F := F) (l1 := [(4, (nI sz)), (9, (nI T)), (13, (nI us)), (14, (nI nm)), (4, (nI sz))]) (l2 := [(4, (nI sz)), (9, (nI T)), (13, (nI us)), (14, (nI nm))]) (V := [(nI sz), (nI T), (nI us), (nI nm), (nI sz), (nI sz), (nI T), (nI us), (nI nm)]) rfl rfl rfl hP
                          have hD : va_D A (mW G h0 a (upd (upd (upd (upd F 4 (nI sz)) 9 (nI T)) 13 (nI us)) 14 (nI nm)) (updA (updA (updA (updA (updA (updA (updA B 2 g5) 3 g6) 4 g7) 5 g8) 6 g10) 7 g11) 8 g12)) := mW_D hD
                          refine W.widen (k := 0) (n := 0) (Nat.le_of_ble_eq_true rfl) (Nat.le_of_ble_eq_true rfl) ?_
                          refine W.eq (g2 := F0 m 206 ls [.int r381]) rfl ?_
                          refine pc_SN (G := G) (As := [.int r381]) (rest := []) hx hb hml hown hq hE hX pX0_al hP hS hA hl.1 (s_isLetter l G r381) (gS pw_1575 pw_1576 pw_1523 pw_1520) hS_X12_isLetter rfl (Nat.le_of_ble_eq_true rfl) dX12_cut_206 ⟨Nat.le_of_ble_eq_true rfl, Nat.le_of_ble_eq_true rfl⟩ ⟨Nat.le_of_ble_eq_true rfl, Nat.le_of_ble_eq_true rfl⟩ (fun v385 u383 H locs hw384 hP hS => ?_)
                          obtain ⟨x386, rfl, hr387, hr388⟩ := hw384
                          refine W.widen (k := 0) (n := 0) (Nat.le_of_ble_eq_true rfl) (Nat.le_of_ble_eq_true rfl) ?_
                          refine W.eq (g2 := F0 m 209 ls [.int x386]) rfl ?_
                          refine lv_if_eq (tgt := 285) hx hb dX12_cut_209 (by decide) (fun c389 => ?_) (fun c389 => ?_)
                          · refine lv_aload_n hx hb dX12_cut_285 rfl (lv_at hl 5 rfl) ?_
                            refine lv_iload_n hx hb dX12_cut_286 rfl (lv_at hl 3 rfl) ?_
                            have hP : va_P G.1 pCl (mW G h0 a (upd (upd (upd (upd (upd F 4 (nI sz)) 9 (nI T)) 13 (nI us)) 14 (nI nm)) 4 (nI sz)) (updA (updA (updA (updA (updA (updA (updA B 2 g5) 3 g6) 4 g7) 5 g8) 6 g10) 7 g11) 8 g12)) _ := hP
                            have hD : va_D A (mW G h0 a (upd (upd (upd (upd (upd F 4 (nI sz)) 9 (nI T)) 13 (nI us)) 14 (nI nm)) 4 (nI sz)) (updA (updA (updA (updA (updA (updA (updA B 2 g5) 3 g6) 4 g7) 5 g8) 6 g10) 7 g11) 8 g12)) := mW_D hD
                            refine pc_V0 (G := G) (As := [.int (nI i1)]) (rest := []) hx hb hml hown hq hE hX pX0_al hP hD hS hA hl.1 (R_ch l G h0 a (upd (upd (upd (upd F 4 (nI sz)) 9 (nI T)) 13 (nI us)) 14 (nI nm)) (updA (updA (updA (updA (updA (updA (updA B 2 g5) 3 g6) 4 g7) 5 g8) 6 g10) 7 g11) 8 g12) i1 sz (by omega) (by omega)) (gV pw_1561 pw_1562 pw_1563 pw_1523 pw_1518) hV_X12_ch 0 9 rfl rfl rfl rfl (Nat.le_of_ble_eq_true rfl) dX12_cut_287 ⟨Nat.le_of_ble_eq_true rfl, Nat.le_of_ble_eq_true rfl⟩ ⟨Nat.le_of_ble_eq_true rfl, Nat.le_of_ble_eq_true rfl⟩ (fun v392 u390 H locs hw391 hP hD hS => ?_)
                            obtain ⟨r393, rfl⟩ : ∃ z, z = u390 := ⟨_, rfl⟩
                            obtain ⟨hw391, h394⟩ := hw391
                            have h394 : r393 = (-1) ∨ i1 < sz ∧ r393 = (B 1) i1 := h394
                            obtain rfl : v392 = some (.int r393) := hw391
                            have hP : va_P G.1 pCl (mW G h0 a (upd (upd (upd (upd F 4 (nI sz)) 9 (nI T)) 13 (nI us)) 14 (nI nm)) (updA (updA (updA (updA (updA (updA (updA B 2 g5) 3 g6) 4 g7) 5 g8) 6 g10) 7 g11) 8 g12)) _ := mW_to (F := F) (l1 := [(4, (nI sz)), (9, (nI T)), (13, (nI us)), (14, (nI nm)), (4, (nI sz))]) (l2 := [(4, (nI sz)), (9, (nI T)), (13, (nI us)), (14, (nI nm))]) (V := [(nI sz), (nI T), (nI us), (nI nm), (nI sz), (nI sz), (nI T), (nI us), (nI nm)]) rfl rfl rfl hP
                            have hD : va_D A (mW G h0 a (upd (upd (upd (upd F 4 (nI sz)) 9 (nI T)) 13 (nI us)) 14 (nI nm)) (updA (updA (updA (updA (updA (updA (updA B 2 g5) 3 g6) 4 g7) 5 g8) 6 g10) 7 g11) 8 g12)) := mW_D hD
                            refine W.widen (k := 0) (n := 0) (Nat.le_of_ble_eq_true rfl) (Nat.le_of_ble_eq_true rfl) ?_
                            refine W.eq (g2 := F0 m 290 ls [.int r393]) rfl ?_
                            refine pc_SN (G := G) (As := [.int r393]) (rest := []) hx hb hml hown hq hE hX pX0_al hP hS hA hl.1 (s_isDigit l G r393) (gS pw_1577 pw_1578 pw_1523 pw_1524) hS_X12_isDigit rfl (Nat.le_of_ble_eq_true rfl) dX12_cut_290 ⟨Nat.le_of_ble_eq_true rfl, Nat.le_of_ble_eq_true rfl⟩ ⟨Nat.le_of_ble_eq_true rfl, Nat.le_of_ble_eq_true rfl⟩ (fun v397 u395 H locs hw396 hP hS => ?_)
                            obtain ⟨x398, rfl, hr399, hr400⟩ := hw396
                            refine W.widen (k := 0) (n := 0) (Nat.le_of_ble_eq_true rfl) (Nat.le_of_ble_eq_true rfl) ?_
                            refine W.eq (g2 := F0 m 293 ls [.int x398]) rfl ?_
                            refine lv_if_eq (tgt := 433) hx hb dX12_cut_293 (by decide) (fun c401 => ?_) (fun c401 => ?_)
                            · refine lv_aload_n hx hb dX12_cut_433 rfl (lv_at hl 5 rfl) ?_
                              refine lv_iload_n hx hb dX12_cut_434 rfl (lv_at hl 3 rfl) ?_
                              have hP : va_P G.1 pCl (mW G h0 a (upd (upd (upd (upd (upd F 4 (nI sz)) 9 (nI T)) 13 (nI us)) 14 (nI nm)) 4 (nI sz)) (updA (updA (updA (updA (updA (updA (updA B 2 g5) 3 g6) 4 g7) 5 g8) 6 g10) 7 g11) 8 g12)) _ := hP
                              have hD : va_D A (mW G h0 a (upd (upd (upd (upd (upd F 4 (nI sz)) 9 (nI T)) 13 (nI us)) 14 (nI nm)) 4 (nI sz)) (updA (updA (updA (updA (updA (updA (updA B 2 g5) 3 g6) 4 g7) 5 g8) 6 g10) 7 g11) 8 g12)) := mW_D hD
                              refine pc_V0 (G := G) (As := [.int (nI i1)]) (rest := []) hx hb hml hown hq hE hX pX0_al hP hD hS hA hl.1 (R_sign l G h0 a (upd (upd (upd (upd F 4 (nI sz)) 9 (nI T)) 13 (nI us)) 14 (nI nm)) (updA (updA (updA (updA (updA (updA (updA B 2 g5) 3 g6) 4 g7) 5 g8) 6 g10) 7 g11) 8 g12) i1 sz (by omega) (by omega) htx) (gV pw_1585 pw_1586 pw_1587 pw_1523 pw_1567) hV_X12_sign 0 9 rfl rfl rfl rfl (Nat.le_of_ble_eq_true rfl) dX12_cut_435 ⟨Nat.le_of_ble_eq_true rfl, Nat.le_of_ble_eq_true rfl⟩ ⟨Nat.le_of_ble_eq_true rfl, Nat.le_of_ble_eq_true rfl⟩ (fun v404 u402 H locs hw403 hP hD hS => ?_)
                              obtain ⟨r405, rfl⟩ : ∃ z, z = u402 := ⟨_, rfl⟩
                              obtain ⟨hw403, h406, h407⟩ := hw403
                              have h406 : r405 = 264 → i1 + 3 ≤ sz := h406
                              have h407 : ¬ r405 < 256 → i1 + 2 ≤ sz := h407
                              obtain rfl : v404 = some (.int r405) := hw403
                              have hP : va_P G.1 pCl (mW G h0 a (upd (upd (upd (upd F 4 (nI sz)) 9 (nI T)) 13 (nI us)) 14 (nI nm)) (updA (updA (updA (updA (updA (updA (updA B 2 g5) 3 g6) 4 g7) 5 g8) 6 g10) 7 g11) 8 g12)) _ := mW_to (F := F) (l1 := [(4, (nI sz)), (9, (nI T)), (13, (nI us)), (14, (nI nm)), (4, (nI sz))]) (l2 := [(4, (nI sz)), (9, (nI T)), (13, (nI us)), (14, (nI nm))]) (V := [(nI sz), (nI T), (nI us), (nI nm), (nI sz), (nI sz), (nI T), (nI us), (nI nm)]) rfl rfl rfl hP
                              have hD : va_D A (mW G h0 a (upd (upd (upd (upd F 4 (nI sz)) 9 (nI T)) 13 (nI us)) 14 (nI nm)) (updA (updA (updA (updA (updA (updA (updA B 2 g5) 3 g6) 4 g7) 5 g8) 6 g10) 7 g11) 8 g12)) := mW_D hD
                              refine W.widen (k := 0) (n := 0) (Nat.le_of_ble_eq_true rfl) (Nat.le_of_ble_eq_true rfl) ?_
                              refine W.eq (g2 := F0 m 438 ls [.int r405]) rfl ?_
                              refine lv_istore (lv' := [(4, .int r405), (5, .int 0), (3, .int (nI (i1 + 1))), (1, .int (nI i1)), (2, .int 1), (0, .ref h0)]) hx hb dX12_cut_438 hl (by decide) rfl (fun ls hl => ?_)
                              refine lv_iload hx hb dX12_cut_440 (lv_at hl 0 rfl) ?_
                              refine lv_sipush (v := 264) hx hb dX12_cut_442 (by decide) ?_
                              refine lv_icmp_ne (tgt := 454) hx hb dX12_cut_445 (by decide) (fun c408 => ?_) (fun c408 => ?_)
                              · refine lv_iload hx hb dX12_cut_454 (lv_at hl 0 rfl) ?_
                                refine lv_sipush (v := 256) hx hb dX12_cut_456 (by decide) ?_
                                refine lv_icmp_lt (tgt := 468) hx hb dX12_cut_459 (by decide) (fun c409 => ?_) (fun c409 => ?_)
                                · refine lv_iload_n hx hb dX12_cut_468 rfl (lv_at hl 3 rfl) ?_
                                  refine lv_iconst (v := 1) hx hb dX12_cut_469 (by decide) ?_
                                  refine lv_iadd hx hb dX12_cut_470 ?_
                                  refine lv_topi (fun x410 e411 => ?_)
                                  obtain rfl : x410 = nI (i1 + 1) := e411.trans (nI_add (i1) (1))
                                  refine lv_istore_n (lv' := [(3, .int (nI (i1 + 1))), (4, .int r405), (5, .int 0), (1, .int (nI i1)), (2, .int 1), (0, .ref h0)]) hx hb dX12_cut_471 rfl hl (by decide) rfl (fun ls hl => ?_)
                                  have hP : va_P G.1 pCl (mW G h0 a (upd (upd (upd (upd F 4 (nI sz)) 9 (nI T)) 13 (nI us)) 14 (nI nm)) (updA (updA (updA (updA (updA (updA (updA B 2 g5) 3 g6) 4 g7) 5 g8) 6 g10) 7 g11) 8 g12)) _ := hP
                                  have hD : va_D A (mW G h0 a (upd (upd (upd (upd F 4 (nI sz)) 9 (nI T)) 13 (nI us)) 14 (nI nm)) (updA (updA (updA (updA (updA (updA (updA B 2 g5) 3 g6) 4 g7) 5 g8) 6 g10) 7 g11) 8 g12)) := mW_D hD
                                  exact cut_j r405 0 (i1 + 1) nm us g10 g11 g12 _ _ _ (by omega) (by omega) (Or.inr (by omega)) (by omega) (by omega) (by omega) hR (fun _ => ⟨0, by omega, rfl⟩) hP hD hS (lv_sub hl [3, 4, 0, 1, 2, 5] rfl)
                                · have hs2 : i1 + 2 ≤ sz := h407 c409
                                  refine lv_iload_n hx hb dX12_cut_462 rfl (lv_at hl 3 rfl) ?_
                                  refine lv_iconst (v := 2) hx hb dX12_cut_463 (by decide) ?_
                                  refine lv_iadd hx hb dX12_cut_464 ?_
                                  refine lv_topi (fun x412 e413 => ?_)
                                  obtain rfl : x412 = nI (i1 + 2) := e413.trans (nI_add (i1) (2))
                                  refine lv_goto (tgt := 471) hx hb dX12_cut_465 (by decide) ?_
                                  refine lv_istore_n (lv' := [(3, .int (nI (i1 + 2))), (4, .int r405), (5, .int 0), (1, .int (nI i1)), (2, .int 1), (0, .ref h0)]) hx hb dX12_cut_471 rfl hl (by decide) rfl (fun ls hl => ?_)
                                  have hP : va_P G.1 pCl (mW G h0 a (upd (upd (upd (upd F 4 (nI sz)) 9 (nI T)) 13 (nI us)) 14 (nI nm)) (updA (updA (updA (updA (updA (updA (updA B 2 g5) 3 g6) 4 g7) 5 g8) 6 g10) 7 g11) 8 g12)) _ := hP
                                  have hD : va_D A (mW G h0 a (upd (upd (upd (upd F 4 (nI sz)) 9 (nI T)) 13 (nI us)) 14 (nI nm)) (updA (updA (updA (updA (updA (updA (updA B 2 g5) 3 g6) 4 g7) 5 g8) 6 g10) 7 g11) 8 g12)) := mW_D hD
                                  exact cut_j r405 0 (i1 + 2) nm us g10 g11 g12 _ _ _ (by omega) (by omega) (Or.inr (by omega)) (by omega) (by omega) (by omega) hR (fun _ => ⟨0, by omega, rfl⟩) hP hD hS (lv_sub hl [3, 4, 0, 1, 2, 5] rfl)
                              · have hs3 : i1 + 3 ≤ sz := h406 c408
                                refine lv_iload_n hx hb dX12_cut_448 rfl (lv_at hl 3 rfl) ?_
                                refine lv_iconst (v := 3) hx hb dX12_cut_449 (by decide) ?_
                                refine lv_iadd hx hb dX12_cut_450 ?_
                                refine lv_topi (fun x414 e415 => ?_)
                                obtain rfl : x414 = nI (i1 + 3) := e415.trans (nI_add (i1) (3))
                                refine lv_goto (tgt := 471) hx hb dX12_cut_451 (by decide) ?_
                                refine lv_istore_n (lv' := [(3, .int (nI (i1 + 3))), (4, .int r405), (5, .int 0), (1, .int (nI i1)), (2, .int 1), (0, .ref h0)]) hx hb dX12_cut_471 rfl hl (by decide) rfl (fun ls hl => ?_)
                                have hP : va_P G.1 pCl (mW G h0 a (upd (upd (upd (upd F 4 (nI sz)) 9 (nI T)) 13 (nI us)) 14 (nI nm)) (updA (updA (updA (updA (updA (updA (updA B 2 g5) 3 g6) 4 g7) 5 g8) 6 g10) 7 g11) 8 g12)) _ := hP
                                have hD : va_D A (mW G h0 a (upd (upd (upd (upd F 4 (nI sz)) 9 (nI T)) 13 (nI us)) 14 (nI nm)) (updA (updA (updA (updA (updA (updA (updA B 2 g5) 3 g6) 4 g7) 5 g8) 6 g10) 7 g11) 8 g12)) := mW_D hD
                                exact cut_j r405 0 (i1 + 3) nm us g10 g11 g12 _ _ _ (by omega) (by omega) (Or.inr (by omega)) (by omega) (by omega) (by omega) hR (fun _ => ⟨0, by omega, rfl⟩) hP hD hS (lv_sub hl [3, 4, 0, 1, 2, 5] rfl)
                            · have hc48 : ¬ r393 < 48 := (hr399).resolve_left c401
                              have hlet : i1 < sz ∧ ¬ B 1 i1 = 32 := ⟨chin h394 (noM1 hc48), by rw [← ((h394).resolve_left (noM1 hc48)).2]; exact no32 hc48⟩
                              refine lv_lconst (v := 0) hx hb dX12_cut_296 (by decide) ?_
                              refine lv_lstore (lv' := [(6, .long 0), (5, .int 0), (4, .int 0), (3, .int (nI (i1 + 1))), (1, .int (nI i1)), (2, .int 1), (0, .ref h0)]) hx hb dX12_cut_297 hl (by decide) rfl (fun ls hl => ?_)
                              have loop_d : ∀ (n_d : Nat) (tt : Nat) (H : Heap) (locs : List Loc) (ls : Array Slot), tt ≤ sz → sz + 1 ≤ tt + n_d → (i1 + 1 ≤ tt) → (∀ j : Nat, i1 ≤ j → j < tt → ¬ B 1 j = 32) → va_P G.1 pCl (mW G h0 a (upd (upd (upd (upd F 4 (nI sz)) 9 (nI T)) 13 (nI us)) 14 (nI nm)) (updA (updA (updA (updA (updA (updA (updA B 2 g5) 3 g6) 4 g7) 5 g8) 6 g10) 7 g11) 8 g12)) H → va_D A (mW G h0 a (upd (upd (upd (upd F 4 (nI sz)) 9 (nI T)) 13 (nI us)) 14 (nI nm)) (updA (updA (updA (updA (updA (updA (updA B 2 g5) 3 g6) 4 g7) 5 g8) 6 g10) 7 g11) 8 g12)) → va_S A s.heap H locs → lv_has ls 9 [(6, .long 0), (3, .int (nI tt)), (4, .int 0), (5, .int 0), (1, .int (nI i1)), (2, .int 1), (0, .ref h0)] → W p l e (headSpec (Cond.code yX12_cut cX12_cut 9 none :: pw) ({ frames := 7, cells := 0, slots := 0, locals := 174 } : Room)).room s m ([.ref h0] : List Value).toArray below meth c H locs 0 0 (MQ below (pQ G A (fun (v : Option Value) (u : Nat × Nat × Nat × (Nat → Int32) × (Nat → Int32) × (Nat → Int32) × (Nat → Int32) × (Nat → Int32) × (Nat → Int32) × (Nat → Int32)) => v = none ∧ (u.1 ≤ sz) ∧ (u.2.2.2.2.2.2.1 u.1 = 0 ∨ u.2.2.2.2.2.2.1 u.1 = 3) ∧ (rNm u.2.1 u.2.2.1 u.2.2.2.1 u.2.2.2.2.1) ∧ (u.2.1 ≤ 9 + sz) ∧ (u.2.2.1 ≤ 40 + sz) ∧ (rTk u.1 u.2.1 u.2.2.2.2.2.2.1 u.2.2.2.2.2.2.2.2.2) ∧ (9 ≤ u.2.1)) (fun u => (mW G h0 a (upd (upd (upd (upd F 4 (nI sz)) 9 (nI u.1)) 13 (nI u.2.2.1)) 14 (nI u.2.1)) (updA (updA (updA (updA (updA (updA (updA B 2 u.2.2.2.2.2.2.1) 3 u.2.2.2.2.2.2.2.1) 4 u.2.2.2.2.2.2.2.2.1) 5 u.2.2.2.2.2.2.2.2.2) 6 u.2.2.2.1) 7 u.2.2.2.2.1) 8 u.2.2.2.2.2.1)))) ([.ref h0] : List Value).toArray s ({ frames := 7, cells := 0, slots := 0, locals := 174 } : Room).cells ({ frames := 7, cells := 0, slots := 0, locals := 174 } : Room).slots A) (F0 m 299 ls []) := by
                                intro n_d
                                induction n_d with
                                | zero => intro tt H locs ls hk_d hn_d; omega
                                | succ n_d ih_d =>
                                  intro tt H locs ls hk_d hn_d ht1 htt hP hD hS hl
                                  refine lv_aload_n hx hb dX12_cut_299 rfl (lv_at hl 6 rfl) ?_
                                  refine lv_iload_n hx hb dX12_cut_300 rfl (lv_at hl 1 rfl) ?_
                                  have hP : va_P G.1 pCl (mW G h0 a (upd (upd (upd (upd (upd F 4 (nI sz)) 9 (nI T)) 13 (nI us)) 14 (nI nm)) 4 (nI sz)) (updA (updA (updA (updA (updA (updA (updA B 2 g5) 3 g6) 4 g7) 5 g8) 6 g10) 7 g11) 8 g12)) _ := mW_to (F := F) (l1 := [(4, (nI sz)), (9, (nI T)), (13, (nI us)), (14, (nI nm))]) (l2 := [(4, (nI sz)), (9, (nI T)), (13, (nI us)), (14, (nI nm)), (4, (nI sz))]) (V := [(nI sz), (nI T), (nI us), (nI nm), (nI sz), (nI T), (nI us), (nI nm), (nI sz)]) rfl rfl rfl hP
                                  have hD : va_D A (mW G h0 a (upd (upd (upd (upd (upd F 4 (nI sz)) 9 (nI T)) 13 (nI us)) 14 (nI nm)) 4 (nI sz)) (updA (updA (updA (updA (updA (updA (updA B 2 g5) 3 g6) 4 g7) 5 g8) 6 g10) 7 g11) 8 g12)) := mW_D hD
                                  refine pc_V0 (G := G) (As := [.int (nI tt)]) (rest := []) hx hb hml hown hq hE hX pX0_al hP hD hS hA hl.1 (R_ch l G h0 a (upd (upd (upd (upd F 4 (nI sz)) 9 (nI T)) 13 (nI us)) 14 (nI nm)) (updA (updA (updA (updA (updA (updA (updA B 2 g5) 3 g6) 4 g7) 5 g8) 6 g10) 7 g11) 8 g12) tt sz (by omega) (by omega)) (gV pw_1561 pw_1562 pw_1563 pw_1523 pw_1518) hV_X12_ch 0 9 rfl rfl rfl rfl (Nat.le_of_ble_eq_true rfl) dX12_cut_301 ⟨Nat.le_of_ble_eq_true rfl, Nat.le_of_ble_eq_true rfl⟩ ⟨Nat.le_of_ble_eq_true rfl, Nat.le_of_ble_eq_true rfl⟩ (fun v418 u416 H locs hw417 hP hD hS => ?_)
                                  obtain ⟨r419, rfl⟩ : ∃ z, z = u416 := ⟨_, rfl⟩
                                  obtain ⟨hw417, h420⟩ := hw417
                                  have h420 : r419 = (-1) ∨ tt < sz ∧ r419 = (B 1) tt := h420
                                  obtain rfl : v418 = some (.int r419) := hw417
                                  have hP : va_P G.1 pCl (mW G h0 a (upd (upd (upd (upd F 4 (nI sz)) 9 (nI T)) 13 (nI us)) 14 (nI nm)) (updA (updA (updA (updA (updA (updA (updA B 2 g5) 3 g6) 4 g7) 5 g8) 6 g10) 7 g11) 8 g12)) _ := mW_to (F := F) (l1 := [(4, (nI sz)), (9, (nI T)), (13, (nI us)), (14, (nI nm)), (4, (nI sz))]) (l2 := [(4, (nI sz)), (9, (nI T)), (13, (nI us)), (14, (nI nm))]) (V := [(nI sz), (nI T), (nI us), (nI nm), (nI sz), (nI sz), (nI T), (nI us), (nI nm)]) rfl rfl rfl hP
                                  have hD : va_D A (mW G h0 a (upd (upd (upd (upd F 4 (nI sz)) 9 (nI T)) 13 (nI us)) 14 (nI nm)) (updA (updA (updA (updA (updA (updA (updA B 2 g5) 3 g6) 4 g7) 5 g8) 6 g10) 7 g11) 8 g12)) := mW_D hD
                                  refine W.widen (k := 0) (n := 0) (Nat.le_of_ble_eq_true rfl) (Nat.le_of_ble_eq_true rfl) ?_
                                  refine W.eq (g2 := F0 m 304 ls [.int r419]) rfl ?_
                                  refine pc_SN (G := G) (As := [.int r419]) (rest := []) hx hb hml hown hq hE hX pX0_al hP hS hA hl.1 (s_isLetter l G r419) (gS pw_1575 pw_1576 pw_1523 pw_1520) hS_X12_isLetter rfl (Nat.le_of_ble_eq_true rfl) dX12_cut_304 ⟨Nat.le_of_ble_eq_true rfl, Nat.le_of_ble_eq_true rfl⟩ ⟨Nat.le_of_ble_eq_true rfl, Nat.le_of_ble_eq_true rfl⟩ (fun v423 u421 H locs hw422 hP hS => ?_)
                                  obtain ⟨x424, rfl, hr425, hr426⟩ := hw422
                                  refine W.widen (k := 0) (n := 0) (Nat.le_of_ble_eq_true rfl) (Nat.le_of_ble_eq_true rfl) ?_
                                  refine W.eq (g2 := F0 m 307 ls [.int x424]) rfl ?_
                                  refine lv_if_ne (tgt := 321) hx hb dX12_cut_307 (by decide) (fun c427 => ?_) (fun c427 => ?_)
                                  · have hc48 : ¬ r419 < 48 := (hr425).resolve_left c427
                                    have hlet2 : tt < sz ∧ ¬ B 1 tt = 32 := ⟨chin h420 (noM1 hc48), by rw [← ((h420).resolve_left (noM1 hc48)).2]; exact no32 hc48⟩
                                    refine lv_iinc (v := (nI (tt + 1))) (lv' := [(3, .int (nI (tt + 1))), (6, .long 0), (4, .int 0), (5, .int 0), (1, .int (nI i1)), (2, .int 1), (0, .ref h0)]) hx hb dX12_cut_321 hl (k := 1) rfl (nI_1 tt) (by decide) rfl (fun ls hl => ?_)
                                    refine lv_goto (tgt := 299) hx hb dX12_cut_324 (by decide) ?_
                                    have hP : va_P G.1 pCl (mW G h0 a (upd (upd (upd (upd F 4 (nI sz)) 9 (nI T)) 13 (nI us)) 14 (nI nm)) (updA (updA (updA (updA (updA (updA (updA B 2 g5) 3 g6) 4 g7) 5 g8) 6 g10) 7 g11) 8 g12)) _ := hP
                                    have hD : va_D A (mW G h0 a (upd (upd (upd (upd F 4 (nI sz)) 9 (nI T)) 13 (nI us)) 14 (nI nm)) (updA (updA (updA (updA (updA (updA (updA B 2 g5) 3 g6) 4 g7) 5 g8) 6 g10) 7 g11) 8 g12)) := mW_D hD
                                    exact ih_d (tt + 1) _ _ _ (by have := hlet2.1; omega) (by omega) (by omega) (fun j h8 h9 => (Classical.em (j = tt)).elim (fun e9 => by rw [e9]; exact hlet2.2) (fun e9 => htt j h8 (by omega))) hP hD hS (lv_sub hl [1, 0, 2, 3, 4, 5, 6] rfl)
                                  · refine lv_aload_n hx hb dX12_cut_310 rfl (lv_at hl 6 rfl) ?_
                                    refine lv_iload_n hx hb dX12_cut_311 rfl (lv_at hl 1 rfl) ?_
                                    have hP : va_P G.1 pCl (mW G h0 a (upd (upd (upd (upd (upd F 4 (nI sz)) 9 (nI T)) 13 (nI us)) 14 (nI nm)) 4 (nI sz)) (updA (updA (updA (updA (updA (updA (updA B 2 g5) 3 g6) 4 g7) 5 g8) 6 g10) 7 g11) 8 g12)) _ := hP
                                    have hD : va_D A (mW G h0 a (upd (upd (upd (upd (upd F 4 (nI sz)) 9 (nI T)) 13 (nI us)) 14 (nI nm)) 4 (nI sz)) (updA (updA (updA (updA (updA (updA (updA B 2 g5) 3 g6) 4 g7) 5 g8) 6 g10) 7 g11) 8 g12)) := mW_D hD
                                    refine pc_V0 (G := G) (As := [.int (nI tt)]) (rest := []) hx hb hml hown hq hE hX pX0_al hP hD hS hA hl.1 (R_ch l G h0 a (upd (upd (upd (upd F 4 (nI sz)) 9 (nI T)) 13 (nI us)) 14 (nI nm)) (updA (updA (updA (updA (updA (updA (updA B 2 g5) 3 g6) 4 g7) 5 g8) 6 g10) 7 g11) 8 g12) tt sz (by omega) (by omega)) (gV pw_1561 pw_1562 pw_1563 pw_1523 pw_1518) hV_X12_ch 0 9 rfl rfl rfl rfl (Nat.le_of_ble_eq_true rfl) dX12_cut_312 ⟨Nat.le_of_ble_eq_true rfl, Nat.le_of_ble_eq_true rfl⟩ ⟨Nat.le_of_ble_eq_true rfl, Nat.le_of_ble_eq_true rfl⟩ (fun v430 u428 H locs hw429 hP hD hS => ?_)
                                    obtain ⟨r431, rfl⟩ : ∃ z, z = u428 := ⟨_, rfl⟩
                                    obtain ⟨hw429, h432⟩ := hw429
                                    have h432 : r431 = (-1) ∨ tt < sz ∧ r431 = (B 1) tt := h432
                                    obtain rfl : v430 = some (.int r431) := hw429
                                    have hP : va_P G.1 pCl (mW G h0 a (upd (upd (upd (upd F 4 (nI sz)) 9 (nI T)) 13 (nI us)) 14 (nI nm)) (updA (updA (updA (updA (updA (updA (updA B 2 g5) 3 g6) 4 g7) 5 g8) 6 g10) 7 g11) 8 g12)) _ := mW_to (F := F) (l1 := [(4, (nI sz)), (9, (nI T)), (13, (nI us)), (14, (nI nm)), (4, (nI sz))]) (l2 := [(4, (nI sz)), (9, (nI T)), (13, (nI us)), (14, (nI nm))]) (V := [(nI sz), (nI T), (nI us), (nI nm), (nI sz), (nI sz), (nI T), (nI us), (nI nm)]) rfl rfl rfl hP
                                    have hD : va_D A (mW G h0 a (upd (upd (upd (upd F 4 (nI sz)) 9 (nI T)) 13 (nI us)) 14 (nI nm)) (updA (updA (updA (updA (updA (updA (updA B 2 g5) 3 g6) 4 g7) 5 g8) 6 g10) 7 g11) 8 g12)) := mW_D hD
                                    refine W.widen (k := 0) (n := 0) (Nat.le_of_ble_eq_true rfl) (Nat.le_of_ble_eq_true rfl) ?_
                                    refine W.eq (g2 := F0 m 315 ls [.int r431]) rfl ?_
                                    refine pc_SN (G := G) (As := [.int r431]) (rest := []) hx hb hml hown hq hE hX pX0_al hP hS hA hl.1 (s_isDigit l G r431) (gS pw_1577 pw_1578 pw_1523 pw_1524) hS_X12_isDigit rfl (Nat.le_of_ble_eq_true rfl) dX12_cut_315 ⟨Nat.le_of_ble_eq_true rfl, Nat.le_of_ble_eq_true rfl⟩ ⟨Nat.le_of_ble_eq_true rfl, Nat.le_of_ble_eq_true rfl⟩ (fun v435 u433 H locs hw434 hP hS => ?_)
                                    obtain ⟨x436, rfl, hr437, hr438⟩ := hw434
                                    refine W.widen (k := 0) (n := 0) (Nat.le_of_ble_eq_true rfl) (Nat.le_of_ble_eq_true rfl) ?_
                                    refine W.eq (g2 := F0 m 318 ls [.int x436]) rfl ?_
                                    refine lv_if_eq (tgt := 327) hx hb dX12_cut_318 (by decide) (fun c439 => ?_) (fun c439 => ?_)
                                    · refine lv_iload_n hx hb dX12_cut_327 rfl (lv_at hl 1 rfl) ?_
                                      refine lv_iload_n hx hb dX12_cut_328 rfl (lv_at hl 4 rfl) ?_
                                      refine lv_isub hx hb dX12_cut_329 ?_
                                      refine lv_topi (fun x440 e441 => ?_)
                                      obtain rfl : x440 = nI (tt - i1) := e441.trans (nI_subN (a := i1) (b := tt) (by omega))
                                      refine lv_bipush (v := 10) hx hb dX12_cut_330 (by decide) ?_
                                      refine lv_icmp_le (tgt := 339) hx hb dX12_cut_332 (by decide) (fun c442 => ?_) (fun c442 => ?_)
                                      · have n443 : (tt - i1) ≤ 10 := (nI_leI (a := (tt - i1)) (b := 10) (by omega) (by omega)).mp c442
                                        refine lv_iconst (v := 2) hx hb dX12_cut_339 (by decide) ?_
                                        refine lv_istore (lv' := [(4, .int 2), (6, .long 0), (3, .int (nI tt)), (5, .int 0), (1, .int (nI i1)), (2, .int 1), (0, .ref h0)]) hx hb dX12_cut_340 hl (by decide) rfl (fun ls hl => ?_)
                                        refine lv_iload_n hx hb dX12_cut_342 rfl (lv_at hl 4 rfl) ?_
                                        refine lv_istore (lv' := [(8, .int (nI i1)), (4, .int 2), (6, .long 0), (3, .int (nI tt)), (5, .int 0), (1, .int (nI i1)), (2, .int 1), (0, .ref h0)]) hx hb dX12_cut_343 hl (by decide) rfl (fun ls hl => ?_)
                                        have loop_v : ∀ (n_v : Nat) (k8 : Nat) (vl : Int64) (kd : Int32) (H : Heap) (locs : List Loc) (ls : Array Slot), k8 ≤ tt → tt + 1 ≤ k8 + n_v → (i1 ≤ k8) → (kd = 2 ∨ kd = 3) → va_P G.1 pCl (mW G h0 a (upd (upd (upd (upd F 4 (nI sz)) 9 (nI T)) 13 (nI us)) 14 (nI nm)) (updA (updA (updA (updA (updA (updA (updA B 2 g5) 3 g6) 4 g7) 5 g8) 6 g10) 7 g11) 8 g12)) H → va_D A (mW G h0 a (upd (upd (upd (upd F 4 (nI sz)) 9 (nI T)) 13 (nI us)) 14 (nI nm)) (updA (updA (updA (updA (updA (updA (updA B 2 g5) 3 g6) 4 g7) 5 g8) 6 g10) 7 g11) 8 g12)) → va_S A s.heap H locs → lv_has ls 9 [(8, .int (nI k8)), (4, .int kd), (6, .long vl), (3, .int (nI tt)), (5, .int 0), (1, .int (nI i1)), (2, .int 1), (0, .ref h0)] → W p l e (headSpec (Cond.code yX12_cut cX12_cut 9 none :: pw) ({ frames := 7, cells := 0, slots := 0, locals := 174 } : Room)).room s m ([.ref h0] : List Value).toArray below meth c H locs 0 0 (MQ below (pQ G A (fun (v : Option Value) (u : Nat × Nat × Nat × (Nat → Int32) × (Nat → Int32) × (Nat → Int32) × (Nat → Int32) × (Nat → Int32) × (Nat → Int32) × (Nat → Int32)) => v = none ∧ (u.1 ≤ sz) ∧ (u.2.2.2.2.2.2.1 u.1 = 0 ∨ u.2.2.2.2.2.2.1 u.1 = 3) ∧ (rNm u.2.1 u.2.2.1 u.2.2.2.1 u.2.2.2.2.1) ∧ (u.2.1 ≤ 9 + sz) ∧ (u.2.2.1 ≤ 40 + sz) ∧ (rTk u.1 u.2.1 u.2.2.2.2.2.2.1 u.2.2.2.2.2.2.2.2.2) ∧ (9 ≤ u.2.1)) (fun u => (mW G h0 a (upd (upd (upd (upd F 4 (nI sz)) 9 (nI u.1)) 13 (nI u.2.2.1)) 14 (nI u.2.1)) (updA (updA (updA (updA (updA (updA (updA B 2 u.2.2.2.2.2.2.1) 3 u.2.2.2.2.2.2.2.1) 4 u.2.2.2.2.2.2.2.2.1) 5 u.2.2.2.2.2.2.2.2.2) 6 u.2.2.2.1) 7 u.2.2.2.2.1) 8 u.2.2.2.2.2.1)))) ([.ref h0] : List Value).toArray s ({ frames := 7, cells := 0, slots := 0, locals := 174 } : Room).cells ({ frames := 7, cells := 0, slots := 0, locals := 174 } : Room).slots A) (F0 m 345 ls []) := by
                                          intro n_v
                                          induction n_v with
                                          | zero => intro k8 vl kd H locs ls hk_v hn_v; omega
                                          | succ n_v ih_v =>
                                            intro k8 vl kd H locs ls hk_v hn_v hk0 hkd hP hD hS hl
                                            refine lv_iload hx hb dX12_cut_345 (lv_at hl 1 rfl) ?_
                                            refine lv_iconst (v := 2) hx hb dX12_cut_347 (by decide) ?_
                                            refine lv_icmp_ne (tgt := 402) hx hb dX12_cut_348 (by decide) (fun c444 => ?_) (fun c444 => ?_)
                                            · refine lv_iload hx hb dX12_cut_402 (lv_at hl 1 rfl) ?_
                                              refine lv_iconst (v := 2) hx hb dX12_cut_404 (by decide) ?_
                                              refine lv_icmp_ne (tgt := 421) hx hb dX12_cut_405 (by decide) (fun c445 => ?_) (fun c445 => ?_)
                                              · refine lv_iload hx hb dX12_cut_421 (lv_at hl 1 rfl) ?_
                                                refine lv_istore (lv' := [(4, .int kd), (8, .int (nI k8)), (6, .long vl), (3, .int (nI tt)), (5, .int 0), (1, .int (nI i1)), (2, .int 1), (0, .ref h0)]) hx hb dX12_cut_423 hl (by decide) rfl (fun ls hl => ?_)
                                                refine lv_lload hx hb dX12_cut_425 (lv_at hl 2 rfl) ?_
                                                refine lv_l2i hx hb dX12_cut_427 rfl ?_
                                                refine lv_topi (fun x446 e447 => ?_)
                                                refine lv_istore (lv' := [(5, .int x446), (4, .int kd), (8, .int (nI k8)), (6, .long vl), (3, .int (nI tt)), (1, .int (nI i1)), (2, .int 1), (0, .ref h0)]) hx hb dX12_cut_428 hl (by decide) rfl (fun ls hl => ?_)
                                                refine lv_goto (tgt := 472) hx hb dX12_cut_430 (by decide) ?_
                                                have hP : va_P G.1 pCl (mW G h0 a (upd (upd (upd (upd F 4 (nI sz)) 9 (nI T)) 13 (nI us)) 14 (nI nm)) (updA (updA (updA (updA (updA (updA (updA B 2 g5) 3 g6) 4 g7) 5 g8) 6 g10) 7 g11) 8 g12)) _ := hP
                                                have hD : va_D A (mW G h0 a (upd (upd (upd (upd F 4 (nI sz)) 9 (nI T)) 13 (nI us)) 14 (nI nm)) (updA (updA (updA (updA (updA (updA (updA B 2 g5) 3 g6) 4 g7) 5 g8) 6 g10) 7 g11) 8 g12)) := mW_D hD
                                                exact cut_j kd x446 tt nm us g10 g11 g12 _ _ _ (by omega) (by omega) (Or.inr (by omega)) (by omega) (by omega) (by omega) hR (fun e9 => by rcases hkd with h8 | h8 <;> rw [h8] at e9 <;> exact absurd e9 (by decide)) hP hD hS (lv_sub hl [5, 6, 4, 1, 0, 7] rfl)
                                              · refine lv_lload hx hb dX12_cut_408 (lv_at hl 2 rfl) ?_
                                                refine lv_ldc2 (v := 2147483647) hx hb hown (hq _ pw_1571) dX12_cut_410 ?_
                                                refine W.lcmp hx hb dX12_cut_413 ?_
                                                refine lv_topi (fun x448 e449 => ?_)
                                                refine lv_if_le (tgt := 421) hx hb dX12_cut_414 (by decide) (fun c450 => ?_) (fun c450 => ?_)
                                                · refine lv_iload hx hb dX12_cut_421 (lv_at hl 1 rfl) ?_
                                                  refine lv_istore (lv' := [(4, .int kd), (8, .int (nI k8)), (6, .long vl), (3, .int (nI tt)), (5, .int 0), (1, .int (nI i1)), (2, .int 1), (0, .ref h0)]) hx hb dX12_cut_423 hl (by decide) rfl (fun ls hl => ?_)
                                                  refine lv_lload hx hb dX12_cut_425 (lv_at hl 2 rfl) ?_
                                                  refine lv_l2i hx hb dX12_cut_427 rfl ?_
                                                  refine lv_topi (fun x451 e452 => ?_)
                                                  refine lv_istore (lv' := [(5, .int x451), (4, .int kd), (8, .int (nI k8)), (6, .long vl), (3, .int (nI tt)), (1, .int (nI i1)), (2, .int 1), (0, .ref h0)]) hx hb dX12_cut_428 hl (by decide) rfl (fun ls hl => ?_)
                                                  refine lv_goto (tgt := 472) hx hb dX12_cut_430 (by decide) ?_
                                                  have hP : va_P G.1 pCl (mW G h0 a (upd (upd (upd (upd F 4 (nI sz)) 9 (nI T)) 13 (nI us)) 14 (nI nm)) (updA (updA (updA (updA (updA (updA (updA B 2 g5) 3 g6) 4 g7) 5 g8) 6 g10) 7 g11) 8 g12)) _ := hP
                                                  have hD : va_D A (mW G h0 a (upd (upd (upd (upd F 4 (nI sz)) 9 (nI T)) 13 (nI us)) 14 (nI nm)) (updA (updA (updA (updA (updA (updA (updA B 2 g5) 3 g6) 4 g7) 5 g8) 6 g10) 7 g11) 8 g12)) := mW_D hD
                                                  exact cut_j kd x451 tt nm us g10 g11 g12 _ _ _ (by omega) (by omega) (Or.inr (by omega)) (by omega) (by omega) (by omega) hR (fun e9 => by rcases hkd with h8 | h8 <;> rw [h8] at e9 <;> exact absurd e9 (by decide)) hP hD hS (lv_sub hl [5, 6, 4, 1, 0, 7] rfl)
                                                · refine lv_iconst (v := 3) hx hb dX12_cut_417 (by decide) ?_
                                                  refine lv_goto (tgt := 423) hx hb dX12_cut_418 (by decide) ?_
                                                  refine lv_istore (lv' := [(4, .int 3), (8, .int (nI k8)), (6, .long vl), (3, .int (nI tt)), (5, .int 0), (1, .int (nI i1)), (2, .int 1), (0, .ref h0)]) hx hb dX12_cut_423 hl (by decide) rfl (fun ls hl => ?_)
                                                  refine lv_lload hx hb dX12_cut_425 (lv_at hl 2 rfl) ?_
                                                  refine lv_l2i hx hb dX12_cut_427 rfl ?_
                                                  refine lv_topi (fun x453 e454 => ?_)
                                                  refine lv_istore (lv' := [(5, .int x453), (4, .int 3), (8, .int (nI k8)), (6, .long vl), (3, .int (nI tt)), (1, .int (nI i1)), (2, .int 1), (0, .ref h0)]) hx hb dX12_cut_428 hl (by decide) rfl (fun ls hl => ?_)
                                                  refine lv_goto (tgt := 472) hx hb dX12_cut_430 (by decide) ?_
                                                  have hP : va_P G.1 pCl (mW G h0 a (upd (upd (upd (upd F 4 (nI sz)) 9 (nI T)) 13 (nI us)) 14 (nI nm)) (updA (updA (updA (updA (updA (updA (updA B 2 g5) 3 g6) 4 g7) 5 g8) 6 g10) 7 g11) 8 g12)) _ := hP
                                                  have hD : va_D A (mW G h0 a (upd (upd (upd (upd F 4 (nI sz)) 9 (nI T)) 13 (nI us)) 14 (nI nm)) (updA (updA (updA (updA (updA (updA (updA B 2 g5) 3 g6) 4 g7) 5 g8) 6 g10) 7 g11) 8 g12)) := mW_D hD
                                                  exact cut_j 3 x453 tt nm us g10 g11 g12 _ _ _ (by omega) (by omega) (Or.inr (by omega)) (by omega) (by omega) (by omega) hR (fun e9 => absurd e9 (by decide)) hP hD hS (lv_sub hl [5, 6, 4, 1, 0, 7] rfl)
                                            · refine lv_iload hx hb dX12_cut_351 (lv_at hl 0 rfl) ?_
                                              refine lv_iload_n hx hb dX12_cut_353 rfl (lv_at hl 3 rfl) ?_
                                              refine lv_icmp_ge (tgt := 402) hx hb dX12_cut_354 (by decide) (fun c455 => ?_) (fun c455 => ?_)
                                              · have n456 : tt ≤ k8 := (nI_leI (a := tt) (b := k8) (by omega) (by omega)).mp c455
                                                refine lv_iload hx hb dX12_cut_402 (lv_at hl 1 rfl) ?_
                                                refine lv_iconst (v := 2) hx hb dX12_cut_404 (by decide) ?_
                                                refine lv_icmp_ne (tgt := 421) hx hb dX12_cut_405 (by decide) (fun c457 => ?_) (fun c457 => ?_)
                                                · refine lv_iload hx hb dX12_cut_421 (lv_at hl 1 rfl) ?_
                                                  refine lv_istore (lv' := [(4, .int kd), (8, .int (nI k8)), (6, .long vl), (3, .int (nI tt)), (5, .int 0), (1, .int (nI i1)), (2, .int 1), (0, .ref h0)]) hx hb dX12_cut_423 hl (by decide) rfl (fun ls hl => ?_)
                                                  refine lv_lload hx hb dX12_cut_425 (lv_at hl 2 rfl) ?_
                                                  refine lv_l2i hx hb dX12_cut_427 rfl ?_
                                                  refine lv_topi (fun x458 e459 => ?_)
                                                  refine lv_istore (lv' := [(5, .int x458), (4, .int kd), (8, .int (nI k8)), (6, .long vl), (3, .int (nI tt)), (1, .int (nI i1)), (2, .int 1), (0, .ref h0)]) hx hb dX12_cut_428 hl (by decide) rfl (fun ls hl => ?_)
                                                  refine lv_goto (tgt := 472) hx hb dX12_cut_430 (by decide) ?_
                                                  have hP : va_P G.1 pCl (mW G h0 a (upd (upd (upd (upd F 4 (nI sz)) 9 (nI T)) 13 (nI us)) 14 (nI nm)) (updA (updA (updA (updA (updA (updA (updA B 2 g5) 3 g6) 4 g7) 5 g8) 6 g10) 7 g11) 8 g12)) _ := hP
                                                  have hD : va_D A (mW G h0 a (upd (upd (upd (upd F 4 (nI sz)) 9 (nI T)) 13 (nI us)) 14 (nI nm)) (updA (updA (updA (updA (updA (updA (updA B 2 g5) 3 g6) 4 g7) 5 g8) 6 g10) 7 g11) 8 g12)) := mW_D hD
                                                  exact cut_j kd x458 tt nm us g10 g11 g12 _ _ _ (by omega) (by omega) (Or.inr (by omega)) (by omega) (by omega) (by omega) hR (fun e9 => by rcases hkd with h8 | h8 <;> rw [h8] at e9 <;> exact absurd e9 (by decide)) hP hD hS (lv_sub hl [5, 6, 4, 1, 0, 7] rfl)
                                                · refine lv_lload hx hb dX12_cut_408 (lv_at hl 2 rfl) ?_
                                                  refine lv_ldc2 (v := 2147483647) hx hb hown (hq _ pw_1571) dX12_cut_410 ?_
                                                  refine W.lcmp hx hb dX12_cut_413 ?_
                                                  refine lv_topi (fun x460 e461 => ?_)
                                                  refine lv_if_le (tgt := 421) hx hb dX12_cut_414 (by decide) (fun c462 => ?_) (fun c462 => ?_)
                                                  · refine lv_iload hx hb dX12_cut_421 (lv_at hl 1 rfl) ?_
                                                    refine lv_istore (lv' := [(4, .int kd), (8, .int (nI k8)), (6, .long vl), (3, .int (nI tt)), (5, .int 0), (1, .int (nI i1)), (2, .int 1), (0, .ref h0)]) hx hb dX12_cut_423 hl (by decide) rfl (fun ls hl => ?_)
                                                    refine lv_lload hx hb dX12_cut_425 (lv_at hl 2 rfl) ?_
                                                    refine lv_l2i hx hb dX12_cut_427 rfl ?_
                                                    refine lv_topi (fun x463 e464 => ?_)
                                                    refine lv_istore (lv' := [(5, .int x463), (4, .int kd), (8, .int (nI k8)), (6, .long vl), (3, .int (nI tt)), (1, .int (nI i1)), (2, .int 1), (0, .ref h0)]) hx hb dX12_cut_428 hl (by decide) rfl (fun ls hl => ?_)
                                                    refine lv_goto (tgt := 472) hx hb dX12_cut_430 (by decide) ?_
                                                    have hP : va_P G.1 pCl (mW G h0 a (upd (upd (upd (upd F 4 (nI sz)) 9 (nI T)) 13 (nI us)) 14 (nI nm)) (updA (updA (updA (updA (updA (updA (updA B 2 g5) 3 g6) 4 g7) 5 g8) 6 g10) 7 g11) 8 g12)) _ := hP
                                                    have hD : va_D A (mW G h0 a (upd (upd (upd (upd F 4 (nI sz)) 9 (nI T)) 13 (nI us)) 14 (nI nm)) (updA (updA (updA (updA (updA (updA (updA B 2 g5) 3 g6) 4 g7) 5 g8) 6 g10) 7 g11) 8 g12)) := mW_D hD
                                                    exact cut_j kd x463 tt nm us g10 g11 g12 _ _ _ (by omega) (by omega) (Or.inr (by omega)) (by omega) (by omega) (by omega) hR (fun e9 => by rcases hkd with h8 | h8 <;> rw [h8] at e9 <;> exact absurd e9 (by decide)) hP hD hS (lv_sub hl [5, 6, 4, 1, 0, 7] rfl)
                                                  · refine lv_iconst (v := 3) hx hb dX12_cut_417 (by decide) ?_
                                                    refine lv_goto (tgt := 423) hx hb dX12_cut_418 (by decide) ?_
                                                    refine lv_istore (lv' := [(4, .int 3), (8, .int (nI k8)), (6, .long vl), (3, .int (nI tt)), (5, .int 0), (1, .int (nI i1)), (2, .int 1), (0, .ref h0)]) hx hb dX12_cut_423 hl (by decide) rfl (fun ls hl => ?_)
                                                    refine lv_lload hx hb dX12_cut_425 (lv_at hl 2 rfl) ?_
                                                    refine lv_l2i hx hb dX12_cut_427 rfl ?_
                                                    refine lv_topi (fun x465 e466 => ?_)
                                                    refine lv_istore (lv' := [(5, .int x465), (4, .int 3), (8, .int (nI k8)), (6, .long vl), (3, .int (nI tt)), (1, .int (nI i1)), (2, .int 1), (0, .ref h0)]) hx hb dX12_cut_428 hl (by decide) rfl (fun ls hl => ?_)
                                                    refine lv_goto (tgt := 472) hx hb dX12_cut_430 (by decide) ?_
                                                    have hP : va_P G.1 pCl (mW G h0 a (upd (upd (upd (upd F 4 (nI sz)) 9 (nI T)) 13 (nI us)) 14 (nI nm)) (updA (updA (updA (updA (updA (updA (updA B 2 g5) 3 g6) 4 g7) 5 g8) 6 g10) 7 g11) 8 g12)) _ := hP
                                                    have hD : va_D A (mW G h0 a (upd (upd (upd (upd F 4 (nI sz)) 9 (nI T)) 13 (nI us)) 14 (nI nm)) (updA (updA (updA (updA (updA (updA (updA B 2 g5) 3 g6) 4 g7) 5 g8) 6 g10) 7 g11) 8 g12)) := mW_D hD
                                                    exact cut_j 3 x465 tt nm us g10 g11 g12 _ _ _ (by omega) (by omega) (Or.inr (by omega)) (by omega) (by omega) (by omega) hR (fun e9 => absurd e9 (by decide)) hP hD hS (lv_sub hl [5, 6, 4, 1, 0, 7] rfl)
                                              · have n467 : ¬ (tt ≤ k8) := fun h9 => c455 ((nI_leI (a := tt) (b := k8) (by omega) (by omega)).mpr h9)
                                                refine lv_aload_n hx hb dX12_cut_357 rfl (lv_at hl 7 rfl) ?_
                                                refine lv_iload hx hb dX12_cut_358 (lv_at hl 0 rfl) ?_
                                                have hP : va_P G.1 pCl (mW G h0 a (upd (upd (upd (upd (upd F 4 (nI sz)) 9 (nI T)) 13 (nI us)) 14 (nI nm)) 4 (nI sz)) (updA (updA (updA (updA (updA (updA (updA B 2 g5) 3 g6) 4 g7) 5 g8) 6 g10) 7 g11) 8 g12)) _ := mW_to (F := F) (l1 := [(4, (nI sz)), (9, (nI T)), (13, (nI us)), (14, (nI nm))]) (l2 := [(4, (nI sz)), (9, (nI T)), (13, (nI us)), (14, (nI nm)), (4, (nI sz))]) (V := [(nI sz), (nI T), (nI us), (nI nm), (nI sz), (nI T), (nI us), (nI nm), (nI sz)]) rfl rfl rfl hP
                                                have hD : va_D A (mW G h0 a (upd (upd (upd (upd (upd F 4 (nI sz)) 9 (nI T)) 13 (nI us)) 14 (nI nm)) 4 (nI sz)) (updA (updA (updA (updA (updA (updA (updA B 2 g5) 3 g6) 4 g7) 5 g8) 6 g10) 7 g11) 8 g12)) := mW_D hD
                                                refine pc_V0 (G := G) (As := [.int (nI k8)]) (rest := []) hx hb hml hown hq hE hX pX0_al hP hD hS hA hl.1 (R_ch l G h0 a (upd (upd (upd (upd F 4 (nI sz)) 9 (nI T)) 13 (nI us)) 14 (nI nm)) (updA (updA (updA (updA (updA (updA (updA B 2 g5) 3 g6) 4 g7) 5 g8) 6 g10) 7 g11) 8 g12) k8 sz (by omega) (by omega)) (gV pw_1561 pw_1562 pw_1563 pw_1523 pw_1518) hV_X12_ch 0 9 rfl rfl rfl rfl (Nat.le_of_ble_eq_true rfl) dX12_cut_360 ⟨Nat.le_of_ble_eq_true rfl, Nat.le_of_ble_eq_true rfl⟩ ⟨Nat.le_of_ble_eq_true rfl, Nat.le_of_ble_eq_true rfl⟩ (fun v470 u468 H locs hw469 hP hD hS => ?_)
                                                obtain ⟨r471, rfl⟩ : ∃ z, z = u468 := ⟨_, rfl⟩
                                                obtain ⟨hw469, h472⟩ := hw469
                                                have h472 : r471 = (-1) ∨ k8 < sz ∧ r471 = (B 1) k8 := h472
                                                obtain rfl : v470 = some (.int r471) := hw469
                                                have hP : va_P G.1 pCl (mW G h0 a (upd (upd (upd (upd F 4 (nI sz)) 9 (nI T)) 13 (nI us)) 14 (nI nm)) (updA (updA (updA (updA (updA (updA (updA B 2 g5) 3 g6) 4 g7) 5 g8) 6 g10) 7 g11) 8 g12)) _ := mW_to (F := F) (l1 := [(4, (nI sz)), (9, (nI T)), (13, (nI us)), (14, (nI nm)), (4, (nI sz))]) (l2 := [(4, (nI sz)), (9, (nI T)), (13, (nI us)), (14, (nI nm))]) (V := [(nI sz), (nI T), (nI us), (nI nm), (nI sz), (nI sz), (nI T), (nI us), (nI nm)]) rfl rfl rfl hP
                                                have hD : va_D A (mW G h0 a (upd (upd (upd (upd F 4 (nI sz)) 9 (nI T)) 13 (nI us)) 14 (nI nm)) (updA (updA (updA (updA (updA (updA (updA B 2 g5) 3 g6) 4 g7) 5 g8) 6 g10) 7 g11) 8 g12)) := mW_D hD
                                                refine W.widen (k := 0) (n := 0) (Nat.le_of_ble_eq_true rfl) (Nat.le_of_ble_eq_true rfl) ?_
                                                refine W.eq (g2 := F0 m 363 ls [.int r471]) rfl ?_
                                                refine pc_SN (G := G) (As := [.int r471]) (rest := []) hx hb hml hown hq hE hX pX0_al hP hS hA hl.1 (s_isDigit l G r471) (gS pw_1577 pw_1578 pw_1523 pw_1524) hS_X12_isDigit rfl (Nat.le_of_ble_eq_true rfl) dX12_cut_363 ⟨Nat.le_of_ble_eq_true rfl, Nat.le_of_ble_eq_true rfl⟩ ⟨Nat.le_of_ble_eq_true rfl, Nat.le_of_ble_eq_true rfl⟩ (fun v475 u473 H locs hw474 hP hS => ?_)
                                                obtain ⟨x476, rfl, hr477, hr478⟩ := hw474
                                                refine W.widen (k := 0) (n := 0) (Nat.le_of_ble_eq_true rfl) (Nat.le_of_ble_eq_true rfl) ?_
                                                refine W.eq (g2 := F0 m 366 ls [.int x476]) rfl ?_
                                                refine lv_if_eq (tgt := 373) hx hb dX12_cut_366 (by decide) (fun c479 => ?_) (fun c479 => ?_)
                                                · refine lv_iconst (v := 3) hx hb dX12_cut_373 (by decide) ?_
                                                  refine lv_istore (lv' := [(4, .int 3), (8, .int (nI k8)), (6, .long vl), (3, .int (nI tt)), (5, .int 0), (1, .int (nI i1)), (2, .int 1), (0, .ref h0)]) hx hb dX12_cut_374 hl (by decide) rfl (fun ls hl => ?_)
                                                  refine lv_ldc2 (v := 10) hx hb hown (hq _ pw_1569) dX12_cut_376 ?_
                                                  refine lv_lload hx hb dX12_cut_379 (lv_at hl 2 rfl) ?_
                                                  refine lv_lmul hx hb dX12_cut_381 ?_
                                                  refine lv_topl (fun x480 e481 => ?_)
                                                  refine lv_aload_n hx hb dX12_cut_382 rfl (lv_at hl 7 rfl) ?_
                                                  refine lv_iload hx hb dX12_cut_383 (lv_at hl 1 rfl) ?_
                                                  have hP : va_P G.1 pCl (mW G h0 a (upd (upd (upd (upd (upd F 4 (nI sz)) 9 (nI T)) 13 (nI us)) 14 (nI nm)) 4 (nI sz)) (updA (updA (updA (updA (updA (updA (updA B 2 g5) 3 g6) 4 g7) 5 g8) 6 g10) 7 g11) 8 g12)) _ := hP
                                                  have hD : va_D A (mW G h0 a (upd (upd (upd (upd (upd F 4 (nI sz)) 9 (nI T)) 13 (nI us)) 14 (nI nm)) 4 (nI sz)) (updA (updA (updA (updA (updA (updA (updA B 2 g5) 3 g6) 4 g7) 5 g8) 6 g10) 7 g11) 8 g12)) := mW_D hD
                                                  refine pc_V0 (G := G) (As := [.int (nI k8)]) (rest := [.long x480]) hx hb hml hown hq hE hX pX0_al hP hD hS hA hl.1 (R_ch l G h0 a (upd (upd (upd (upd F 4 (nI sz)) 9 (nI T)) 13 (nI us)) 14 (nI nm)) (updA (updA (updA (updA (updA (updA (updA B 2 g5) 3 g6) 4 g7) 5 g8) 6 g10) 7 g11) 8 g12) k8 sz (by omega) (by omega)) (gV pw_1561 pw_1562 pw_1563 pw_1523 pw_1518) hV_X12_ch 0 9 rfl rfl rfl rfl (Nat.le_of_ble_eq_true rfl) dX12_cut_385 ⟨Nat.le_of_ble_eq_true rfl, Nat.le_of_ble_eq_true rfl⟩ ⟨Nat.le_of_ble_eq_true rfl, Nat.le_of_ble_eq_true rfl⟩ (fun v484 u482 H locs hw483 hP hD hS => ?_)
                                                  obtain ⟨r485, rfl⟩ : ∃ z, z = u482 := ⟨_, rfl⟩
                                                  obtain ⟨hw483, h486⟩ := hw483
                                                  have h486 : r485 = (-1) ∨ k8 < sz ∧ r485 = (B 1) k8 := h486
                                                  obtain rfl : v484 = some (.int r485) := hw483
                                                  have hP : va_P G.1 pCl (mW G h0 a (upd (upd (upd (upd F 4 (nI sz)) 9 (nI T)) 13 (nI us)) 14 (nI nm)) (updA (updA (updA (updA (updA (updA (updA B 2 g5) 3 g6) 4 g7) 5 g8) 6 g10) 7 g11) 8 g12)) _ := mW_to (F := F) (l1 := [(4, (nI sz)), (9, (nI T)), (13, (nI us)), (14, (nI nm)), (4, (nI sz))]) (l2 := [(4, (nI sz)), (9, (nI T)), (13, (nI us)), (14, (nI nm))]) (V := [(nI sz), (nI T), (nI us), (nI nm), (nI sz), (nI sz), (nI T), (nI us), (nI nm)]) rfl rfl rfl hP
                                                  have hD : va_D A (mW G h0 a (upd (upd (upd (upd F 4 (nI sz)) 9 (nI T)) 13 (nI us)) 14 (nI nm)) (updA (updA (updA (updA (updA (updA (updA B 2 g5) 3 g6) 4 g7) 5 g8) 6 g10) 7 g11) 8 g12)) := mW_D hD
                                                  refine W.widen (k := 0) (n := 0) (Nat.le_of_ble_eq_true rfl) (Nat.le_of_ble_eq_true rfl) ?_
                                                  refine W.eq (g2 := F0 m 388 ls [.int r485, .long x480]) rfl ?_
                                                  refine lv_i2l hx hb dX12_cut_388 rfl ?_
                                                  refine lv_topl (fun x487 e488 => ?_)
                                                  refine lv_ladd hx hb dX12_cut_389 ?_
                                                  refine lv_topl (fun x489 e490 => ?_)
                                                  refine lv_ldc2 (v := 48) hx hb hown (hq _ pw_1570) dX12_cut_390 ?_
                                                  refine lv_lsub hx hb dX12_cut_393 ?_
                                                  refine lv_topl (fun x491 e492 => ?_)
                                                  refine lv_lstore (lv' := [(6, .long x491), (4, .int 3), (8, .int (nI k8)), (3, .int (nI tt)), (5, .int 0), (1, .int (nI i1)), (2, .int 1), (0, .ref h0)]) hx hb dX12_cut_394 hl (by decide) rfl (fun ls hl => ?_)
                                                  refine lv_iinc (v := (nI (k8 + 1))) (lv' := [(8, .int (nI (k8 + 1))), (6, .long x491), (4, .int 3), (3, .int (nI tt)), (5, .int 0), (1, .int (nI i1)), (2, .int 1), (0, .ref h0)]) hx hb dX12_cut_396 hl (k := 2) rfl (nI_1 k8) (by decide) rfl (fun ls hl => ?_)
                                                  refine lv_goto (tgt := 345) hx hb dX12_cut_399 (by decide) ?_
                                                  have hP : va_P G.1 pCl (mW G h0 a (upd (upd (upd (upd F 4 (nI sz)) 9 (nI T)) 13 (nI us)) 14 (nI nm)) (updA (updA (updA (updA (updA (updA (updA B 2 g5) 3 g6) 4 g7) 5 g8) 6 g10) 7 g11) 8 g12)) _ := hP
                                                  have hD : va_D A (mW G h0 a (upd (upd (upd (upd F 4 (nI sz)) 9 (nI T)) 13 (nI us)) 14 (nI nm)) (updA (updA (updA (updA (updA (updA (updA B 2 g5) 3 g6) 4 g7) 5 g8) 6 g10) 7 g11) 8 g12)) := mW_D hD
                                                  exact ih_v (k8 + 1) x491 3 _ _ _ (by omega) (by omega) (by omega) (by decide) hP hD hS (lv_sub hl [0, 2, 1, 3, 4, 5, 6, 7] rfl)
                                                · refine lv_iconst (v := 2) hx hb dX12_cut_369 (by decide) ?_
                                                  refine lv_goto (tgt := 374) hx hb dX12_cut_370 (by decide) ?_
                                                  refine lv_istore (lv' := [(4, .int 2), (8, .int (nI k8)), (6, .long vl), (3, .int (nI tt)), (5, .int 0), (1, .int (nI i1)), (2, .int 1), (0, .ref h0)]) hx hb dX12_cut_374 hl (by decide) rfl (fun ls hl => ?_)
                                                  refine lv_ldc2 (v := 10) hx hb hown (hq _ pw_1569) dX12_cut_376 ?_
                                                  refine lv_lload hx hb dX12_cut_379 (lv_at hl 2 rfl) ?_
                                                  refine lv_lmul hx hb dX12_cut_381 ?_
                                                  refine lv_topl (fun x493 e494 => ?_)
                                                  refine lv_aload_n hx hb dX12_cut_382 rfl (lv_at hl 7 rfl) ?_
                                                  refine lv_iload hx hb dX12_cut_383 (lv_at hl 1 rfl) ?_
                                                  have hP : va_P G.1 pCl (mW G h0 a (upd (upd (upd (upd (upd F 4 (nI sz)) 9 (nI T)) 13 (nI us)) 14 (nI nm)) 4 (nI sz)) (updA (updA (updA (updA (updA (updA (updA B 2 g5) 3 g6) 4 g7) 5 g8) 6 g10) 7 g11) 8 g12)) _ := hP
                                                  have hD : va_D A (mW G h0 a (upd (upd (upd (upd (upd F 4 (nI sz)) 9 (nI T)) 13 (nI us)) 14 (nI nm)) 4 (nI sz)) (updA (updA (updA (updA (updA (updA (updA B 2 g5) 3 g6) 4 g7) 5 g8) 6 g10) 7 g11) 8 g12)) := mW_D hD
                                                  refine pc_V0 (G := G) (As := [.int (nI k8)]) (rest := [.long x493]) hx hb hml hown hq hE hX pX0_al hP hD hS hA hl.1 (R_ch l G h0 a (upd (upd (upd (upd F 4 (nI sz)) 9 (nI T)) 13 (nI us)) 14 (nI nm)) (updA (updA (updA (updA (updA (updA (updA B 2 g5) 3 g6) 4 g7) 5 g8) 6 g10) 7 g11) 8 g12) k8 sz (by omega) (by omega)) (gV pw_1561 pw_1562 pw_1563 pw_1523 pw_1518) hV_X12_ch 0 9 rfl rfl rfl rfl (Nat.le_of_ble_eq_true rfl) dX12_cut_385 ⟨Nat.le_of_ble_eq_true rfl, Nat.le_of_ble_eq_true rfl⟩ ⟨Nat.le_of_ble_eq_true rfl, Nat.le_of_ble_eq_true rfl⟩ (fun v497 u495 H locs hw496 hP hD hS => ?_)
                                                  obtain ⟨r498, rfl⟩ : ∃ z, z = u495 := ⟨_, rfl⟩
                                                  obtain ⟨hw496, h499⟩ := hw496
                                                  have h499 : r498 = (-1) ∨ k8 < sz ∧ r498 = (B 1) k8 := h499
                                                  obtain rfl : v497 = some (.int r498) := hw496
                                                  have hP : va_P G.1 pCl (mW G h0 a (upd (upd (upd (upd F 4 (nI sz)) 9 (nI T)) 13 (nI us)) 14 (nI nm)) (updA (updA (updA (updA (updA (updA (updA B 2 g5) 3 g6) 4 g7) 5 g8) 6 g10) 7 g11) 8 g12)) _ := mW_to (F := F) (l1 := [(4, (nI sz)), (9, (nI T)), (13, (nI us)), (14, (nI nm)), (4, (nI sz))]) (l2 := [(4, (nI sz)), (9, (nI T)), (13, (nI us)), (14, (nI nm))]) (V := [(nI sz), (nI T), (nI us), (nI nm), (nI sz), (nI sz), (nI T), (nI us), (nI nm)]) rfl rfl rfl hP
                                                  have hD : va_D A (mW G h0 a (upd (upd (upd (upd F 4 (nI sz)) 9 (nI T)) 13 (nI us)) 14 (nI nm)) (updA (updA (updA (updA (updA (updA (updA B 2 g5) 3 g6) 4 g7) 5 g8) 6 g10) 7 g11) 8 g12)) := mW_D hD
                                                  refine W.widen (k := 0) (n := 0) (Nat.le_of_ble_eq_true rfl) (Nat.le_of_ble_eq_true rfl) ?_
                                                  refine W.eq (g2 := F0 m 388 ls [.int r498, .long x493]) rfl ?_
                                                  refine lv_i2l hx hb dX12_cut_388 rfl ?_
                                                  refine lv_topl (fun x500 e501 => ?_)
                                                  refine lv_ladd hx hb dX12_cut_389 ?_
                                                  refine lv_topl (fun x502 e503 => ?_)
                                                  refine lv_ldc2 (v := 48) hx hb hown (hq _ pw_1570) dX12_cut_390 ?_
                                                  refine lv_lsub hx hb dX12_cut_393 ?_
                                                  refine lv_topl (fun x504 e505 => ?_)
                                                  refine lv_lstore (lv' := [(6, .long x504), (4, .int 2), (8, .int (nI k8)), (3, .int (nI tt)), (5, .int 0), (1, .int (nI i1)), (2, .int 1), (0, .ref h0)]) hx hb dX12_cut_394 hl (by decide) rfl (fun ls hl => ?_)
                                                  refine lv_iinc (v := (nI (k8 + 1))) (lv' := [(8, .int (nI (k8 + 1))), (6, .long x504), (4, .int 2), (3, .int (nI tt)), (5, .int 0), (1, .int (nI i1)), (2, .int 1), (0, .ref h0)]) hx hb dX12_cut_396 hl (k := 2) rfl (nI_1 k8) (by decide) rfl (fun ls hl => ?_)
                                                  refine lv_goto (tgt := 345) hx hb dX12_cut_399 (by decide) ?_
                                                  have hP : va_P G.1 pCl (mW G h0 a (upd (upd (upd (upd F 4 (nI sz)) 9 (nI T)) 13 (nI us)) 14 (nI nm)) (updA (updA (updA (updA (updA (updA (updA B 2 g5) 3 g6) 4 g7) 5 g8) 6 g10) 7 g11) 8 g12)) _ := hP
                                                  have hD : va_D A (mW G h0 a (upd (upd (upd (upd F 4 (nI sz)) 9 (nI T)) 13 (nI us)) 14 (nI nm)) (updA (updA (updA (updA (updA (updA (updA B 2 g5) 3 g6) 4 g7) 5 g8) 6 g10) 7 g11) 8 g12)) := mW_D hD
                                                  exact ih_v (k8 + 1) x504 2 _ _ _ (by omega) (by omega) (by omega) (by decide) hP hD hS (lv_sub hl [0, 2, 1, 3, 4, 5, 6, 7] rfl)
                                        have hP : va_P G.1 pCl (mW G h0 a (upd (upd (upd (upd F 4 (nI sz)) 9 (nI T)) 13 (nI us)) 14 (nI nm)) (updA (updA (updA (updA (updA (updA (updA B 2 g5) 3 g6) 4 g7) 5 g8) 6 g10) 7 g11) 8 g12)) _ := hP
                                        have hD : va_D A (mW G h0 a (upd (upd (upd (upd F 4 (nI sz)) 9 (nI T)) 13 (nI us)) 14 (nI nm)) (updA (updA (updA (updA (updA (updA (updA B 2 g5) 3 g6) 4 g7) 5 g8) 6 g10) 7 g11) 8 g12)) := mW_D hD
                                        exact loop_v (tt + 1) i1 0 2 _ _ _ (by omega) (by omega) (by omega) (by decide) hP hD hS (lv_sub hl [0, 1, 2, 3, 4, 5, 6, 7] rfl)
                                      · have n506 : ¬ ((tt - i1) ≤ 10) := fun h9 => c442 ((nI_leI (a := (tt - i1)) (b := 10) (by omega) (by omega)).mpr h9)
                                        refine lv_iconst (v := 3) hx hb dX12_cut_335 (by decide) ?_
                                        refine lv_goto (tgt := 340) hx hb dX12_cut_336 (by decide) ?_
                                        refine lv_istore (lv' := [(4, .int 3), (6, .long 0), (3, .int (nI tt)), (5, .int 0), (1, .int (nI i1)), (2, .int 1), (0, .ref h0)]) hx hb dX12_cut_340 hl (by decide) rfl (fun ls hl => ?_)
                                        refine lv_iload_n hx hb dX12_cut_342 rfl (lv_at hl 4 rfl) ?_
                                        refine lv_istore (lv' := [(8, .int (nI i1)), (4, .int 3), (6, .long 0), (3, .int (nI tt)), (5, .int 0), (1, .int (nI i1)), (2, .int 1), (0, .ref h0)]) hx hb dX12_cut_343 hl (by decide) rfl (fun ls hl => ?_)
                                        have loop_v : ∀ (n_v : Nat) (k8 : Nat) (vl : Int64) (kd : Int32) (H : Heap) (locs : List Loc) (ls : Array Slot), k8 ≤ tt → tt + 1 ≤ k8 + n_v → (i1 ≤ k8) → (kd = 2 ∨ kd = 3) → va_P G.1 pCl (mW G h0 a (upd (upd (upd (upd F 4 (nI sz)) 9 (nI T)) 13 (nI us)) 14 (nI nm)) (updA (updA (updA (updA (updA (updA (updA B 2 g5) 3 g6) 4 g7) 5 g8) 6 g10) 7 g11) 8 g12)) H → va_D A (mW G h0 a (upd (upd (upd (upd F 4 (nI sz)) 9 (nI T)) 13 (nI us)) 14 (nI nm)) (updA (updA (updA (updA (updA (updA (updA B 2 g5) 3 g6) 4 g7) 5 g8) 6 g10) 7 g11) 8 g12)) → va_S A s.heap H locs → lv_has ls 9 [(8, .int (nI k8)), (4, .int kd), (6, .long vl), (3, .int (nI tt)), (5, .int 0), (1, .int (nI i1)), (2, .int 1), (0, .ref h0)] → W p l e (headSpec (Cond.code yX12_cut cX12_cut 9 none :: pw) ({ frames := 7, cells := 0, slots := 0, locals := 174 } : Room)).room s m ([.ref h0] : List Value).toArray below meth c H locs 0 0 (MQ below (pQ G A (fun (v : Option Value) (u : Nat × Nat × Nat × (Nat → Int32) × (Nat → Int32) × (Nat → Int32) × (Nat → Int32) × (Nat → Int32) × (Nat → Int32) × (Nat → Int32)) => v = none ∧ (u.1 ≤ sz) ∧ (u.2.2.2.2.2.2.1 u.1 = 0 ∨ u.2.2.2.2.2.2.1 u.1 = 3) ∧ (rNm u.2.1 u.2.2.1 u.2.2.2.1 u.2.2.2.2.1) ∧ (u.2.1 ≤ 9 + sz) ∧ (u.2.2.1 ≤ 40 + sz) ∧ (rTk u.1 u.2.1 u.2.2.2.2.2.2.1 u.2.2.2.2.2.2.2.2.2) ∧ (9 ≤ u.2.1)) (fun u => (mW G h0 a (upd (upd (upd (upd F 4 (nI sz)) 9 (nI u.1)) 13 (nI u.2.2.1)) 14 (nI u.2.1)) (updA (updA (updA (updA (updA (updA (updA B 2 u.2.2.2.2.2.2.1) 3 u.2.2.2.2.2.2.2.1) 4 u.2.2.2.2.2.2.2.2.1) 5 u.2.2.2.2.2.2.2.2.2) 6 u.2.2.2.1) 7 u.2.2.2.2.1) 8 u.2.2.2.2.2.1)))) ([.ref h0] : List Value).toArray s ({ frames := 7, cells := 0, slots := 0, locals := 174 } : Room).cells ({ frames := 7, cells := 0, slots := 0, locals := 174 } : Room).slots A) (F0 m 345 ls []) := by
                                          intro n_v
                                          induction n_v with
                                          | zero => intro k8 vl kd H locs ls hk_v hn_v; omega
                                          | succ n_v ih_v =>
                                            intro k8 vl kd H locs ls hk_v hn_v hk0 hkd hP hD hS hl
                                            refine lv_iload hx hb dX12_cut_345 (lv_at hl 1 rfl) ?_
                                            refine lv_iconst (v := 2) hx hb dX12_cut_347 (by decide) ?_
                                            refine lv_icmp_ne (tgt := 402) hx hb dX12_cut_348 (by decide) (fun c507 => ?_) (fun c507 => ?_)
                                            · refine lv_iload hx hb dX12_cut_402 (lv_at hl 1 rfl) ?_
                                              refine lv_iconst (v := 2) hx hb dX12_cut_404 (by decide) ?_
                                              refine lv_icmp_ne (tgt := 421) hx hb dX12_cut_405 (by decide) (fun c508 => ?_) (fun c508 => ?_)
                                              · refine lv_iload hx hb dX12_cut_421 (lv_at hl 1 rfl) ?_
                                                refine lv_istore (lv' := [(4, .int kd), (8, .int (nI k8)), (6, .long vl), (3, .int (nI tt)), (5, .int 0), (1, .int (nI i1)), (2, .int 1), (0, .ref h0)]) hx hb dX12_cut_423 hl (by decide) rfl (fun ls hl => ?_)
                                                refine lv_lload hx hb dX12_cut_425 (lv_at hl 2 rfl) ?_
                                                refine lv_l2i hx hb dX12_cut_427 rfl ?_
                                                refine lv_topi (fun x509 e510 => ?_)
                                                refine lv_istore (lv' := [(5, .int x509), (4, .int kd), (8, .int (nI k8)), (6, .long vl), (3, .int (nI tt)), (1, .int (nI i1)), (2, .int 1), (0, .ref h0)]) hx hb dX12_cut_428 hl (by decide) rfl (fun ls hl => ?_)
                                                refine lv_goto (tgt := 472) hx hb dX12_cut_430 (by decide) ?_
                                                have hP : va_P G.1 pCl (mW G h0 a (upd (upd (upd (upd F 4 (nI sz)) 9 (nI T)) 13 (nI us)) 14 (nI nm)) (updA (updA (updA (updA (updA (updA (updA B 2 g5) 3 g6) 4 g7) 5 g8) 6 g10) 7 g11) 8 g12)) _ := hP
                                                have hD : va_D A (mW G h0 a (upd (upd (upd (upd F 4 (nI sz)) 9 (nI T)) 13 (nI us)) 14 (nI nm)) (updA (updA (updA (updA (updA (updA (updA B 2 g5) 3 g6) 4 g7) 5 g8) 6 g10) 7 g11) 8 g12)) := mW_D hD
                                                exact cut_j kd x509 tt nm us g10 g11 g12 _ _ _ (by omega) (by omega) (Or.inr (by omega)) (by omega) (by omega) (by omega) hR (fun e9 => by rcases hkd with h8 | h8 <;> rw [h8] at e9 <;> exact absurd e9 (by decide)) hP hD hS (lv_sub hl [5, 6, 4, 1, 0, 7] rfl)
                                              · refine lv_lload hx hb dX12_cut_408 (lv_at hl 2 rfl) ?_
                                                refine lv_ldc2 (v := 2147483647) hx hb hown (hq _ pw_1571) dX12_cut_410 ?_
                                                refine W.lcmp hx hb dX12_cut_413 ?_
                                                refine lv_topi (fun x511 e512 => ?_)
                                                refine lv_if_le (tgt := 421) hx hb dX12_cut_414 (by decide) (fun c513 => ?_) (fun c513 => ?_)
                                                · refine lv_iload hx hb dX12_cut_421 (lv_at hl 1 rfl) ?_
                                                  refine lv_istore (lv' := [(4, .int kd), (8, .int (nI k8)), (6, .long vl), (3, .int (nI tt)), (5, .int 0), (1, .int (nI i1)), (2, .int 1), (0, .ref h0)]) hx hb dX12_cut_423 hl (by decide) rfl (fun ls hl => ?_)
                                                  refine lv_lload hx hb dX12_cut_425 (lv_at hl 2 rfl) ?_
                                                  refine lv_l2i hx hb dX12_cut_427 rfl ?_
                                                  refine lv_topi (fun x514 e515 => ?_)
                                                  refine lv_istore (lv' := [(5, .int x514), (4, .int kd), (8, .int (nI k8)), (6, .long vl), (3, .int (nI tt)), (1, .int (nI i1)), (2, .int 1), (0, .ref h0)]) hx hb dX12_cut_428 hl (by decide) rfl (fun ls hl => ?_)
                                                  refine lv_goto (tgt := 472) hx hb dX12_cut_430 (by decide) ?_
                                                  have hP : va_P G.1 pCl (mW G h0 a (upd (upd (upd (upd F 4 (nI sz)) 9 (nI T)) 13 (nI us)) 14 (nI nm)) (updA (updA (updA (updA (updA (updA (updA B 2 g5) 3 g6) 4 g7) 5 g8) 6 g10) 7 g11) 8 g12)) _ := hP
                                                  have hD : va_D A (mW G h0 a (upd (upd (upd (upd F 4 (nI sz)) 9 (nI T)) 13 (nI us)) 14 (nI nm)) (updA (updA (updA (updA (updA (updA (updA B 2 g5) 3 g6) 4 g7) 5 g8) 6 g10) 7 g11) 8 g12)) := mW_D hD
                                                  exact cut_j kd x514 tt nm us g10 g11 g12 _ _ _ (by omega) (by omega) (Or.inr (by omega)) (by omega) (by omega) (by omega) hR (fun e9 => by rcases hkd with h8 | h8 <;> rw [h8] at e9 <;> exact absurd e9 (by decide)) hP hD hS (lv_sub hl [5, 6, 4, 1, 0, 7] rfl)
                                                · refine lv_iconst (v := 3) hx hb dX12_cut_417 (by decide) ?_
                                                  refine lv_goto (tgt := 423) hx hb dX12_cut_418 (by decide) ?_
                                                  refine lv_istore (lv' := [(4, .int 3), (8, .int (nI k8)), (6, .long vl), (3, .int (nI tt)), (5, .int 0), (1, .int (nI i1)), (2, .int 1), (0, .ref h0)]) hx hb dX12_cut_423 hl (by decide) rfl (fun ls hl => ?_)
                                                  refine lv_lload hx hb dX12_cut_425 (lv_at hl 2 rfl) ?_
                                                  refine lv_l2i hx hb dX12_cut_427 rfl ?_
                                                  refine lv_topi (fun x516 e517 => ?_)
                                                  refine lv_istore (lv' := [(5, .int x516), (4, .int 3), (8, .int (nI k8)), (6, .long vl), (3, .int (nI tt)), (1, .int (nI i1)), (2, .int 1), (0, .ref h0)]) hx hb dX12_cut_428 hl (by decide) rfl (fun ls hl => ?_)
                                                  refine lv_goto (tgt := 472) hx hb dX12_cut_430 (by decide) ?_
                                                  have hP : va_P G.1 pCl (mW G h0 a (upd (upd (upd (upd F 4 (nI sz)) 9 (nI T)) 13 (nI us)) 14 (nI nm)) (updA (updA (updA (updA (updA (updA (updA B 2 g5) 3 g6) 4 g7) 5 g8) 6 g10) 7 g11) 8 g12)) _ := hP
                                                  have hD : va_D A (mW G h0 a (upd (upd (upd (upd F 4 (nI sz)) 9 (nI T)) 13 (nI us)) 14 (nI nm)) (updA (updA (updA (updA (updA (updA (updA B 2 g5) 3 g6) 4 g7) 5 g8) 6 g10) 7 g11) 8 g12)) := mW_D hD
                                                  exact cut_j 3 x516 tt nm us g10 g11 g12 _ _ _ (by omega) (by omega) (Or.inr (by omega)) (by omega) (by omega) (by omega) hR (fun e9 => absurd e9 (by decide)) hP hD hS (lv_sub hl [5, 6, 4, 1, 0, 7] rfl)
                                            · refine lv_iload hx hb dX12_cut_351 (lv_at hl 0 rfl) ?_
                                              refine lv_iload_n hx hb dX12_cut_353 rfl (lv_at hl 3 rfl) ?_
                                              refine lv_icmp_ge (tgt := 402) hx hb dX12_cut_354 (by decide) (fun c518 => ?_) (fun c518 => ?_)
                                              · have n519 : tt ≤ k8 := (nI_leI (a := tt) (b := k8) (by omega) (by omega)).mp c518
                                                refine lv_iload hx hb dX12_cut_402 (lv_at hl 1 rfl) ?_
                                                refine lv_iconst (v := 2) hx hb dX12_cut_404 (by decide) ?_
                                                refine lv_icmp_ne (tgt := 421) hx hb dX12_cut_405 (by decide) (fun c520 => ?_) (fun c520 => ?_)
                                                · refine lv_iload hx hb dX12_cut_421 (lv_at hl 1 rfl) ?_
                                                  refine lv_istore (lv' := [(4, .int kd), (8, .int (nI k8)), (6, .long vl), (3, .int (nI tt)), (5, .int 0), (1, .int (nI i1)), (2, .int 1), (0, .ref h0)]) hx hb dX12_cut_423 hl (by decide) rfl (fun ls hl => ?_)
                                                  refine lv_lload hx hb dX12_cut_425 (lv_at hl 2 rfl) ?_
                                                  refine lv_l2i hx hb dX12_cut_427 rfl ?_
                                                  refine lv_topi (fun x521 e522 => ?_)
                                                  refine lv_istore (lv' := [(5, .int x521), (4, .int kd), (8, .int (nI k8)), (6, .long vl), (3, .int (nI tt)), (1, .int (nI i1)), (2, .int 1), (0, .ref h0)]) hx hb dX12_cut_428 hl (by decide) rfl (fun ls hl => ?_)
                                                  refine lv_goto (tgt := 472) hx hb dX12_cut_430 (by decide) ?_
                                                  have hP : va_P G.1 pCl (mW G h0 a (upd (upd (upd (upd F 4 (nI sz)) 9 (nI T)) 13 (nI us)) 14 (nI nm)) (updA (updA (updA (updA (updA (updA (updA B 2 g5) 3 g6) 4 g7) 5 g8) 6 g10) 7 g11) 8 g12)) _ := hP
                                                  have hD : va_D A (mW G h0 a (upd (upd (upd (upd F 4 (nI sz)) 9 (nI T)) 13 (nI us)) 14 (nI nm)) (updA (updA (updA (updA (updA (updA (updA B 2 g5) 3 g6) 4 g7) 5 g8) 6 g10) 7 g11) 8 g12)) := mW_D hD
                                                  exact cut_j kd x521 tt nm us g10 g11 g12 _ _ _ (by omega) (by omega) (Or.inr (by omega)) (by omega) (by omega) (by omega) hR (fun e9 => by rcases hkd with h8 | h8 <;> rw [h8] at e9 <;> exact absurd e9 (by decide)) hP hD hS (lv_sub hl [5, 6, 4, 1, 0, 7] rfl)
                                                · refine lv_lload hx hb dX12_cut_408 (lv_at hl 2 rfl) ?_
                                                  refine lv_ldc2 (v := 2147483647) hx hb hown (hq _ pw_1571) dX12_cut_410 ?_
                                                  refine W.lcmp hx hb dX12_cut_413 ?_
                                                  refine lv_topi (fun x523 e524 => ?_)
                                                  refine lv_if_le (tgt := 421) hx hb dX12_cut_414 (by decide) (fun c525 => ?_) (fun c525 => ?_)
                                                  · refine lv_iload hx hb dX12_cut_421 (lv_at hl 1 rfl) ?_
                                                    refine lv_istore (lv' := [(4, .int kd), (8, .int (nI k8)), (6, .long vl), (3, .int (nI tt)), (5, .int 0), (1, .int (nI i1)), (2, .int 1), (0, .ref h0)]) hx hb dX12_cut_423 hl (by decide) rfl (fun ls hl => ?_)
                                                    refine lv_lload hx hb dX12_cut_425 (lv_at hl 2 rfl) ?_
                                                    refine lv_l2i hx hb dX12_cut_427 rfl ?_
                                                    refine lv_topi (fun x526 e527 => ?_)
                                                    refine lv_istore (lv' := [(5, .int x526), (4, .int kd), (8, .int (nI k8)), (6, .long vl), (3, .int (nI tt)), (1, .int (nI i1)), (2, .int 1), (0, .ref h0)]) hx hb dX12_cut_428 hl (by decide) rfl (fun ls hl => ?_)
                                                    refine lv_goto (tgt := 472) hx hb dX12_cut_430 (by decide) ?_
                                                    have hP : va_P G.1 pCl (mW G h0 a (upd (upd (upd (upd F 4 (nI sz)) 9 (nI T)) 13 (nI us)) 14 (nI nm)) (updA (updA (updA (updA (updA (updA (updA B 2 g5) 3 g6) 4 g7) 5 g8) 6 g10) 7 g11) 8 g12)) _ := hP
                                                    have hD : va_D A (mW G h0 a (upd (upd (upd (upd F 4 (nI sz)) 9 (nI T)) 13 (nI us)) 14 (nI nm)) (updA (updA (updA (updA (updA (updA (updA B 2 g5) 3 g6) 4 g7) 5 g8) 6 g10) 7 g11) 8 g12)) := mW_D hD
                                                    exact cut_j kd x526 tt nm us g10 g11 g12 _ _ _ (by omega) (by omega) (Or.inr (by omega)) (by omega) (by omega) (by omega) hR (fun e9 => by rcases hkd with h8 | h8 <;> rw [h8] at e9 <;> exact absurd e9 (by decide)) hP hD hS (lv_sub hl [5, 6, 4, 1, 0, 7] rfl)
                                                  · refine lv_iconst (v := 3) hx hb dX12_cut_417 (by decide) ?_
                                                    refine lv_goto (tgt := 423) hx hb dX12_cut_418 (by decide) ?_
                                                    refine lv_istore (lv' := [(4, .int 3), (8, .int (nI k8)), (6, .long vl), (3, .int (nI tt)), (5, .int 0), (1, .int (nI i1)), (2, .int 1), (0, .ref h0)]) hx hb dX12_cut_423 hl (by decide) rfl (fun ls hl => ?_)
                                                    refine lv_lload hx hb dX12_cut_425 (lv_at hl 2 rfl) ?_
                                                    refine lv_l2i hx hb dX12_cut_427 rfl ?_
                                                    refine lv_topi (fun x528 e529 => ?_)
                                                    refine lv_istore (lv' := [(5, .int x528), (4, .int 3), (8, .int (nI k8)), (6, .long vl), (3, .int (nI tt)), (1, .int (nI i1)), (2, .int 1), (0, .ref h0)]) hx hb dX12_cut_428 hl (by decide) rfl (fun ls hl => ?_)
                                                    refine lv_goto (tgt := 472) hx hb dX12_cut_430 (by decide) ?_
                                                    have hP : va_P G.1 pCl (mW G h0 a (upd (upd (upd (upd F 4 (nI sz)) 9 (nI T)) 13 (nI us)) 14 (nI nm)) (updA (updA (updA (updA (updA (updA (updA B 2 g5) 3 g6) 4 g7) 5 g8) 6 g10) 7 g11) 8 g12)) _ := hP
                                                    have hD : va_D A (mW G h0 a (upd (upd (upd (upd F 4 (nI sz)) 9 (nI T)) 13 (nI us)) 14 (nI nm)) (updA (updA (updA (updA (updA (updA (updA B 2 g5) 3 g6) 4 g7) 5 g8) 6 g10) 7 g11) 8 g12)) := mW_D hD
                                                    exact cut_j 3 x528 tt nm us g10 g11 g12 _ _ _ (by omega) (by omega) (Or.inr (by omega)) (by omega) (by omega) (by omega) hR (fun e9 => absurd e9 (by decide)) hP hD hS (lv_sub hl [5, 6, 4, 1, 0, 7] rfl)
                                              · have n530 : ¬ (tt ≤ k8) := fun h9 => c518 ((nI_leI (a := tt) (b := k8) (by omega) (by omega)).mpr h9)
                                                refine lv_aload_n hx hb dX12_cut_357 rfl (lv_at hl 7 rfl) ?_
                                                refine lv_iload hx hb dX12_cut_358 (lv_at hl 0 rfl) ?_
                                                have hP : va_P G.1 pCl (mW G h0 a (upd (upd (upd (upd (upd F 4 (nI sz)) 9 (nI T)) 13 (nI us)) 14 (nI nm)) 4 (nI sz)) (updA (updA (updA (updA (updA (updA (updA B 2 g5) 3 g6) 4 g7) 5 g8) 6 g10) 7 g11) 8 g12)) _ := mW_to (F := F) (l1 := [(4, (nI sz)), (9, (nI T)), (13, (nI us)), (14, (nI nm))]) (l2 := [(4, (nI sz)), (9, (nI T)), (13, (nI us)), (14, (nI nm)), (4, (nI sz))]) (V := [(nI sz), (nI T), (nI us), (nI nm), (nI sz), (nI T), (nI us), (nI nm), (nI sz)]) rfl rfl rfl hP
                                                have hD : va_D A (mW G h0 a (upd (upd (upd (upd (upd F 4 (nI sz)) 9 (nI T)) 13 (nI us)) 14 (nI nm)) 4 (nI sz)) (updA (updA (updA (updA (updA (updA (updA B 2 g5) 3 g6) 4 g7) 5 g8) 6 g10) 7 g11) 8 g12)) := mW_D hD
                                                refine pc_V0 (G := G) (As := [.int (nI k8)]) (rest := []) hx hb hml hown hq hE hX pX0_al hP hD hS hA hl.1 (R_ch l G h0 a (upd (upd (upd (upd F 4 (nI sz)) 9 (nI T)) 13 (nI us)) 14 (nI nm)) (updA (updA (updA (updA (updA (updA (updA B 2 g5) 3 g6) 4 g7) 5 g8) 6 g10) 7 g11) 8 g12) k8 sz (by omega) (by omega)) (gV pw_1561 pw_1562 pw_1563 pw_1523 pw_1518) hV_X12_ch 0 9 rfl rfl rfl rfl (Nat.le_of_ble_eq_true rfl) dX12_cut_360 ⟨Nat.le_of_ble_eq_true rfl, Nat.le_of_ble_eq_true rfl⟩ ⟨Nat.le_of_ble_eq_true rfl, Nat.le_of_ble_eq_true rfl⟩ (fun v533 u531 H locs hw532 hP hD hS => ?_)
                                                obtain ⟨r534, rfl⟩ : ∃ z, z = u531 := ⟨_, rfl⟩
                                                obtain ⟨hw532, h535⟩ := hw532
                                                have h535 : r534 = (-1) ∨ k8 < sz ∧ r534 = (B 1) k8 := h535
                                                obtain rfl : v533 = some (.int r534) := hw532
                                                have hP : va_P G.1 pCl (mW G h0 a (upd (upd (upd (upd F 4 (nI sz)) 9 (nI T)) 13 (nI us)) 14 (nI nm)) (updA (updA (updA (updA (updA (updA (updA B 2 g5) 3 g6) 4 g7) 5 g8) 6 g10) 7 g11) 8 g12)) _ := mW_to (F := F) (l1 := [(4, (nI sz)), (9, (nI T)), (13, (nI us)), (14, (nI nm)), (4, (nI sz))]) (l2 := [(4, (nI sz)), (9, (nI T)), (13, (nI us)), (14, (nI nm))]) (V := [(nI sz), (nI T), (nI us), (nI nm), (nI sz), (nI sz), (nI T), (nI us), (nI nm)]) rfl rfl rfl hP
                                                have hD : va_D A (mW G h0 a (upd (upd (upd (upd F 4 (nI sz)) 9 (nI T)) 13 (nI us)) 14 (nI nm)) (updA (updA (updA (updA (updA (updA (updA B 2 g5) 3 g6) 4 g7) 5 g8) 6 g10) 7 g11) 8 g12)) := mW_D hD
                                                refine W.widen (k := 0) (n := 0) (Nat.le_of_ble_eq_true rfl) (Nat.le_of_ble_eq_true rfl) ?_
                                                refine W.eq (g2 := F0 m 363 ls [.int r534]) rfl ?_
                                                refine pc_SN (G := G) (As := [.int r534]) (rest := []) hx hb hml hown hq hE hX pX0_al hP hS hA hl.1 (s_isDigit l G r534) (gS pw_1577 pw_1578 pw_1523 pw_1524) hS_X12_isDigit rfl (Nat.le_of_ble_eq_true rfl) dX12_cut_363 ⟨Nat.le_of_ble_eq_true rfl, Nat.le_of_ble_eq_true rfl⟩ ⟨Nat.le_of_ble_eq_true rfl, Nat.le_of_ble_eq_true rfl⟩ (fun v538 u536 H locs hw537 hP hS => ?_)
                                                obtain ⟨x539, rfl, hr540, hr541⟩ := hw537
                                                refine W.widen (k := 0) (n := 0) (Nat.le_of_ble_eq_true rfl) (Nat.le_of_ble_eq_true rfl) ?_
                                                refine W.eq (g2 := F0 m 366 ls [.int x539]) rfl ?_
                                                refine lv_if_eq (tgt := 373) hx hb dX12_cut_366 (by decide) (fun c542 => ?_) (fun c542 => ?_)
                                                · refine lv_iconst (v := 3) hx hb dX12_cut_373 (by decide) ?_
                                                  refine lv_istore (lv' := [(4, .int 3), (8, .int (nI k8)), (6, .long vl), (3, .int (nI tt)), (5, .int 0), (1, .int (nI i1)), (2, .int 1), (0, .ref h0)]) hx hb dX12_cut_374 hl (by decide) rfl (fun ls hl => ?_)
                                                  refine lv_ldc2 (v := 10) hx hb hown (hq _ pw_1569) dX12_cut_376 ?_
                                                  refine lv_lload hx hb dX12_cut_379 (lv_at hl 2 rfl) ?_
                                                  refine lv_lmul hx hb dX12_cut_381 ?_
                                                  refine lv_topl (fun x543 e544 => ?_)
                                                  refine lv_aload_n hx hb dX12_cut_382 rfl (lv_at hl 7 rfl) ?_
                                                  refine lv_iload hx hb dX12_cut_383 (lv_at hl 1 rfl) ?_
                                                  have hP : va_P G.1 pCl (mW G h0 a (upd (upd (upd (upd (upd F 4 (nI sz)) 9 (nI T)) 13 (nI us)) 14 (nI nm)) 4 (nI sz)) (updA (updA (updA (updA (updA (updA (updA B 2 g5) 3 g6) 4 g7) 5 g8) 6 g10) 7 g11) 8 g12)) _ := hP
                                                  have hD : va_D A (mW G h0 a (upd (upd (upd (upd (upd F 4 (nI sz)) 9 (nI T)) 13 (nI us)) 14 (nI nm)) 4 (nI sz)) (updA (updA (updA (updA (updA (updA (updA B 2 g5) 3 g6) 4 g7) 5 g8) 6 g10) 7 g11) 8 g12)) := mW_D hD
                                                  refine pc_V0 (G := G) (As := [.int (nI k8)]) (rest := [.long x543]) hx hb hml hown hq hE hX pX0_al hP hD hS hA hl.1 (R_ch l G h0 a (upd (upd (upd (upd F 4 (nI sz)) 9 (nI T)) 13 (nI us)) 14 (nI nm)) (updA (updA (updA (updA (updA (updA (updA B 2 g5) 3 g6) 4 g7) 5 g8) 6 g10) 7 g11) 8 g12) k8 sz (by omega) (by omega)) (gV pw_1561 pw_1562 pw_1563 pw_1523 pw_1518) hV_X12_ch 0 9 rfl rfl rfl rfl (Nat.le_of_ble_eq_true rfl) dX12_cut_385 ⟨Nat.le_of_ble_eq_true rfl, Nat.le_of_ble_eq_true rfl⟩ ⟨Nat.le_of_ble_eq_true rfl, Nat.le_of_ble_eq_true rfl⟩ (fun v547 u545 H locs hw546 hP hD hS => ?_)
                                                  obtain ⟨r548, rfl⟩ : ∃ z, z = u545 := ⟨_, rfl⟩
                                                  obtain ⟨hw546, h549⟩ := hw546
                                                  have h549 : r548 = (-1) ∨ k8 < sz ∧ r548 = (B 1) k8 := h549
                                                  obtain rfl : v547 = some (.int r548) := hw546
                                                  have hP : va_P G.1 pCl (mW G h0 a (upd (upd (upd (upd F 4 (nI sz)) 9 (nI T)) 13 (nI us)) 14 (nI nm)) (updA (updA (updA (updA (updA (updA (updA B 2 g5) 3 g6) 4 g7) 5 g8) 6 g10) 7 g11) 8 g12)) _ := mW_to (F := F) (l1 := [(4, (nI sz)), (9, (nI T)), (13, (nI us)), (14, (nI nm)), (4, (nI sz))]) (l2 := [(4, (nI sz)), (9, (nI T)), (13, (nI us)), (14, (nI nm))]) (V := [(nI sz), (nI T), (nI us), (nI nm), (nI sz), (nI sz), (nI T), (nI us), (nI nm)]) rfl rfl rfl hP
                                                  have hD : va_D A (mW G h0 a (upd (upd (upd (upd F 4 (nI sz)) 9 (nI T)) 13 (nI us)) 14 (nI nm)) (updA (updA (updA (updA (updA (updA (updA B 2 g5) 3 g6) 4 g7) 5 g8) 6 g10) 7 g11) 8 g12)) := mW_D hD
                                                  refine W.widen (k := 0) (n := 0) (Nat.le_of_ble_eq_true rfl) (Nat.le_of_ble_eq_true rfl) ?_
                                                  refine W.eq (g2 := F0 m 388 ls [.int r548, .long x543]) rfl ?_
                                                  refine lv_i2l hx hb dX12_cut_388 rfl ?_
                                                  refine lv_topl (fun x550 e551 => ?_)
                                                  refine lv_ladd hx hb dX12_cut_389 ?_
                                                  refine lv_topl (fun x552 e553 => ?_)
                                                  refine lv_ldc2 (v := 48) hx hb hown (hq _ pw_1570) dX12_cut_390 ?_
                                                  refine lv_lsub hx hb dX12_cut_393 ?_
                                                  refine lv_topl (fun x554 e555 => ?_)
                                                  refine lv_lstore (lv' := [(6, .long x554), (4, .int 3), (8, .int (nI k8)), (3, .int (nI tt)), (5, .int 0), (1, .int (nI i1)), (2, .int 1), (0, .ref h0)]) hx hb dX12_cut_394 hl (by decide) rfl (fun ls hl => ?_)
                                                  refine lv_iinc (v := (nI (k8 + 1))) (lv' := [(8, .int (nI (k8 + 1))), (6, .long x554), (4, .int 3), (3, .int (nI tt)), (5, .int 0), (1, .int (nI i1)), (2, .int 1), (0, .ref h0)]) hx hb dX12_cut_396 hl (k := 2) rfl (nI_1 k8) (by decide) rfl (fun ls hl => ?_)
                                                  refine lv_goto (tgt := 345) hx hb dX12_cut_399 (by decide) ?_
                                                  have hP : va_P G.1 pCl (mW G h0 a (upd (upd (upd (upd F 4 (nI sz)) 9 (nI T)) 13 (nI us)) 14 (nI nm)) (updA (updA (updA (updA (updA (updA (updA B 2 g5) 3 g6) 4 g7) 5 g8) 6 g10) 7 g11) 8 g12)) _ := hP
                                                  have hD : va_D A (mW G h0 a (upd (upd (upd (upd F 4 (nI sz)) 9 (nI T)) 13 (nI us)) 14 (nI nm)) (updA (updA (updA (updA (updA (updA (updA B 2 g5) 3 g6) 4 g7) 5 g8) 6 g10) 7 g11) 8 g12)) := mW_D hD
                                                  exact ih_v (k8 + 1) x554 3 _ _ _ (by omega) (by omega) (by omega) (by decide) hP hD hS (lv_sub hl [0, 2, 1, 3, 4, 5, 6, 7] rfl)
                                                · refine lv_iconst (v := 2) hx hb dX12_cut_369 (by decide) ?_
                                                  refine lv_goto (tgt := 374) hx hb dX12_cut_370 (by decide) ?_
                                                  refine lv_istore (lv' := [(4, .int 2), (8, .int (nI k8)), (6, .long vl), (3, .int (nI tt)), (5, .int 0), (1, .int (nI i1)), (2, .int 1), (0, .ref h0)]) hx hb dX12_cut_374 hl (by decide) rfl (fun ls hl => ?_)
                                                  refine lv_ldc2 (v := 10) hx hb hown (hq _ pw_1569) dX12_cut_376 ?_
                                                  refine lv_lload hx hb dX12_cut_379 (lv_at hl 2 rfl) ?_
                                                  refine lv_lmul hx hb dX12_cut_381 ?_
                                                  refine lv_topl (fun x556 e557 => ?_)
                                                  refine lv_aload_n hx hb dX12_cut_382 rfl (lv_at hl 7 rfl) ?_
                                                  refine lv_iload hx hb dX12_cut_383 (lv_at hl 1 rfl) ?_
                                                  have hP : va_P G.1 pCl (mW G h0 a (upd (upd (upd (upd (upd F 4 (nI sz)) 9 (nI T)) 13 (nI us)) 14 (nI nm)) 4 (nI sz)) (updA (updA (updA (updA (updA (updA (updA B 2 g5) 3 g6) 4 g7) 5 g8) 6 g10) 7 g11) 8 g12)) _ := hP
                                                  have hD : va_D A (mW G h0 a (upd (upd (upd (upd (upd F 4 (nI sz)) 9 (nI T)) 13 (nI us)) 14 (nI nm)) 4 (nI sz)) (updA (updA (updA (updA (updA (updA (updA B 2 g5) 3 g6) 4 g7) 5 g8) 6 g10) 7 g11) 8 g12)) := mW_D hD
                                                  refine pc_V0 (G := G) (As := [.int (nI k8)]) (rest := [.long x556]) hx hb hml hown hq hE hX pX0_al hP hD hS hA hl.1 (R_ch l G h0 a (upd (upd (upd (upd F 4 (nI sz)) 9 (nI T)) 13 (nI us)) 14 (nI nm)) (updA (updA (updA (updA (updA (updA (updA B 2 g5) 3 g6) 4 g7) 5 g8) 6 g10) 7 g11) 8 g12) k8 sz (by omega) (by omega)) (gV pw_1561 pw_1562 pw_1563 pw_1523 pw_1518) hV_X12_ch 0 9 rfl rfl rfl rfl (Nat.le_of_ble_eq_true rfl) dX12_cut_385 ⟨Nat.le_of_ble_eq_true rfl, Nat.le_of_ble_eq_true rfl⟩ ⟨Nat.le_of_ble_eq_true rfl, Nat.le_of_ble_eq_true rfl⟩ (fun v560 u558 H locs hw559 hP hD hS => ?_)
                                                  obtain ⟨r561, rfl⟩ : ∃ z, z = u558 := ⟨_, rfl⟩
                                                  obtain ⟨hw559, h562⟩ := hw559
                                                  have h562 : r561 = (-1) ∨ k8 < sz ∧ r561 = (B 1) k8 := h562
                                                  obtain rfl : v560 = some (.int r561) := hw559
                                                  have hP : va_P G.1 pCl (mW G h0 a (upd (upd (upd (upd F 4 (nI sz)) 9 (nI T)) 13 (nI us)) 14 (nI nm)) (updA (updA (updA (updA (updA (updA (updA B 2 g5) 3 g6) 4 g7) 5 g8) 6 g10) 7 g11) 8 g12)) _ := mW_to (F := F) (l1 := [(4, (nI sz)), (9, (nI T)), (13, (nI us)), (14, (nI nm)), (4, (nI sz))]) (l2 := [(4, (nI sz)), (9, (nI T)), (13, (nI us)), (14, (nI nm))]) (V := [(nI sz), (nI T), (nI us), (nI nm), (nI sz), (nI sz), (nI T), (nI us), (nI nm)]) rfl rfl rfl hP
                                                  have hD : va_D A (mW G h0 a (upd (upd (upd (upd F 4 (nI sz)) 9 (nI T)) 13 (nI us)) 14 (nI nm)) (updA (updA (updA (updA (updA (updA (updA B 2 g5) 3 g6) 4 g7) 5 g8) 6 g10) 7 g11) 8 g12)) := mW_D hD
                                                  refine W.widen (k := 0) (n := 0) (Nat.le_of_ble_eq_true rfl) (Nat.le_of_ble_eq_true rfl) ?_
                                                  refine W.eq (g2 := F0 m 388 ls [.int r561, .long x556]) rfl ?_
                                                  refine lv_i2l hx hb dX12_cut_388 rfl ?_
                                                  refine lv_topl (fun x563 e564 => ?_)
                                                  refine lv_ladd hx hb dX12_cut_389 ?_
                                                  refine lv_topl (fun x565 e566 => ?_)
                                                  refine lv_ldc2 (v := 48) hx hb hown (hq _ pw_1570) dX12_cut_390 ?_
                                                  refine lv_lsub hx hb dX12_cut_393 ?_
                                                  refine lv_topl (fun x567 e568 => ?_)
                                                  refine lv_lstore (lv' := [(6, .long x567), (4, .int 2), (8, .int (nI k8)), (3, .int (nI tt)), (5, .int 0), (1, .int (nI i1)), (2, .int 1), (0, .ref h0)]) hx hb dX12_cut_394 hl (by decide) rfl (fun ls hl => ?_)
                                                  refine lv_iinc (v := (nI (k8 + 1))) (lv' := [(8, .int (nI (k8 + 1))), (6, .long x567), (4, .int 2), (3, .int (nI tt)), (5, .int 0), (1, .int (nI i1)), (2, .int 1), (0, .ref h0)]) hx hb dX12_cut_396 hl (k := 2) rfl (nI_1 k8) (by decide) rfl (fun ls hl => ?_)
                                                  refine lv_goto (tgt := 345) hx hb dX12_cut_399 (by decide) ?_
                                                  have hP : va_P G.1 pCl (mW G h0 a (upd (upd (upd (upd F 4 (nI sz)) 9 (nI T)) 13 (nI us)) 14 (nI nm)) (updA (updA (updA (updA (updA (updA (updA B 2 g5) 3 g6) 4 g7) 5 g8) 6 g10) 7 g11) 8 g12)) _ := hP
                                                  have hD : va_D A (mW G h0 a (upd (upd (upd (upd F 4 (nI sz)) 9 (nI T)) 13 (nI us)) 14 (nI nm)) (updA (updA (updA (updA (updA (updA (updA B 2 g5) 3 g6) 4 g7) 5 g8) 6 g10) 7 g11) 8 g12)) := mW_D hD
                                                  exact ih_v (k8 + 1) x567 2 _ _ _ (by omega) (by omega) (by omega) (by decide) hP hD hS (lv_sub hl [0, 2, 1, 3, 4, 5, 6, 7] rfl)
                                        have hP : va_P G.1 pCl (mW G h0 a (upd (upd (upd (upd F 4 (nI sz)) 9 (nI T)) 13 (nI us)) 14 (nI nm)) (updA (updA (updA (updA (updA (updA (updA B 2 g5) 3 g6) 4 g7) 5 g8) 6 g10) 7 g11) 8 g12)) _ := hP
                                        have hD : va_D A (mW G h0 a (upd (upd (upd (upd F 4 (nI sz)) 9 (nI T)) 13 (nI us)) 14 (nI nm)) (updA (updA (updA (updA (updA (updA (updA B 2 g5) 3 g6) 4 g7) 5 g8) 6 g10) 7 g11) 8 g12)) := mW_D hD
                                        exact loop_v (tt + 1) i1 0 3 _ _ _ (by omega) (by omega) (by omega) (by decide) hP hD hS (lv_sub hl [0, 1, 2, 3, 4, 5, 6, 7] rfl)
                                    · have hc48 : ¬ r431 < 48 := (hr437).resolve_left c439
                                      have hlet2 : tt < sz ∧ ¬ B 1 tt = 32 := ⟨chin h432 (noM1 hc48), by rw [← ((h432).resolve_left (noM1 hc48)).2]; exact no32 hc48⟩
                                      refine lv_iinc (v := (nI (tt + 1))) (lv' := [(3, .int (nI (tt + 1))), (6, .long 0), (4, .int 0), (5, .int 0), (1, .int (nI i1)), (2, .int 1), (0, .ref h0)]) hx hb dX12_cut_321 hl (k := 1) rfl (nI_1 tt) (by decide) rfl (fun ls hl => ?_)
                                      refine lv_goto (tgt := 299) hx hb dX12_cut_324 (by decide) ?_
                                      have hP : va_P G.1 pCl (mW G h0 a (upd (upd (upd (upd F 4 (nI sz)) 9 (nI T)) 13 (nI us)) 14 (nI nm)) (updA (updA (updA (updA (updA (updA (updA B 2 g5) 3 g6) 4 g7) 5 g8) 6 g10) 7 g11) 8 g12)) _ := hP
                                      have hD : va_D A (mW G h0 a (upd (upd (upd (upd F 4 (nI sz)) 9 (nI T)) 13 (nI us)) 14 (nI nm)) (updA (updA (updA (updA (updA (updA (updA B 2 g5) 3 g6) 4 g7) 5 g8) 6 g10) 7 g11) 8 g12)) := mW_D hD
                                      exact ih_d (tt + 1) _ _ _ (by have := hlet2.1; omega) (by omega) (by omega) (fun j h8 h9 => (Classical.em (j = tt)).elim (fun e9 => by rw [e9]; exact hlet2.2) (fun e9 => htt j h8 (by omega))) hP hD hS (lv_sub hl [1, 0, 2, 3, 4, 5, 6] rfl)
                              have hP : va_P G.1 pCl (mW G h0 a (upd (upd (upd (upd F 4 (nI sz)) 9 (nI T)) 13 (nI us)) 14 (nI nm)) (updA (updA (updA (updA (updA (updA (updA B 2 g5) 3 g6) 4 g7) 5 g8) 6 g10) 7 g11) 8 g12)) _ := hP
                              have hD : va_D A (mW G h0 a (upd (upd (upd (upd F 4 (nI sz)) 9 (nI T)) 13 (nI us)) 14 (nI nm)) (updA (updA (updA (updA (updA (updA (updA B 2 g5) 3 g6) 4 g7) 5 g8) 6 g10) 7 g11) 8 g12)) := mW_D hD
                              exact loop_d (sz + 1) (i1 + 1) _ _ _ (by omega) (by omega) (by omega) (fun j h8 h9 => by rw [show j = i1 by omega]; exact hlet.2) hP hD hS (lv_sub hl [0, 3, 2, 1, 4, 5, 6] rfl)
                          · have hc48 : ¬ r381 < 48 := (hr387).resolve_left c389
                            have hlet : i1 < sz ∧ ¬ B 1 i1 = 32 := ⟨chin h382 (noM1 hc48), by rw [← ((h382).resolve_left (noM1 hc48)).2]; exact no32 hc48⟩
                            have loop_w : ∀ (n_w : Nat) (tt : Nat) (H : Heap) (locs : List Loc) (ls : Array Slot), tt ≤ sz → sz + 1 ≤ tt + n_w → (i1 + 1 ≤ tt) → (∀ j : Nat, i1 ≤ j → j < tt → ¬ B 1 j = 32) → va_P G.1 pCl (mW G h0 a (upd (upd (upd (upd F 4 (nI sz)) 9 (nI T)) 13 (nI us)) 14 (nI nm)) (updA (updA (updA (updA (updA (updA (updA B 2 g5) 3 g6) 4 g7) 5 g8) 6 g10) 7 g11) 8 g12)) H → va_D A (mW G h0 a (upd (upd (upd (upd F 4 (nI sz)) 9 (nI T)) 13 (nI us)) 14 (nI nm)) (updA (updA (updA (updA (updA (updA (updA B 2 g5) 3 g6) 4 g7) 5 g8) 6 g10) 7 g11) 8 g12)) → va_S A s.heap H locs → lv_has ls 9 [(3, .int (nI tt)), (4, .int 0), (5, .int 0), (1, .int (nI i1)), (2, .int 1), (0, .ref h0)] → W p l e (headSpec (Cond.code yX12_cut cX12_cut 9 none :: pw) ({ frames := 7, cells := 0, slots := 0, locals := 174 } : Room)).room s m ([.ref h0] : List Value).toArray below meth c H locs 0 0 (MQ below (pQ G A (fun (v : Option Value) (u : Nat × Nat × Nat × (Nat → Int32) × (Nat → Int32) × (Nat → Int32) × (Nat → Int32) × (Nat → Int32) × (Nat → Int32) × (Nat → Int32)) => v = none ∧ (u.1 ≤ sz) ∧ (u.2.2.2.2.2.2.1 u.1 = 0 ∨ u.2.2.2.2.2.2.1 u.1 = 3) ∧ (rNm u.2.1 u.2.2.1 u.2.2.2.1 u.2.2.2.2.1) ∧ (u.2.1 ≤ 9 + sz) ∧ (u.2.2.1 ≤ 40 + sz) ∧ (rTk u.1 u.2.1 u.2.2.2.2.2.2.1 u.2.2.2.2.2.2.2.2.2) ∧ (9 ≤ u.2.1)) (fun u => (mW G h0 a (upd (upd (upd (upd F 4 (nI sz)) 9 (nI u.1)) 13 (nI u.2.2.1)) 14 (nI u.2.1)) (updA (updA (updA (updA (updA (updA (updA B 2 u.2.2.2.2.2.2.1) 3 u.2.2.2.2.2.2.2.1) 4 u.2.2.2.2.2.2.2.2.1) 5 u.2.2.2.2.2.2.2.2.2) 6 u.2.2.2.1) 7 u.2.2.2.2.1) 8 u.2.2.2.2.2.1)))) ([.ref h0] : List Value).toArray s ({ frames := 7, cells := 0, slots := 0, locals := 174 } : Room).cells ({ frames := 7, cells := 0, slots := 0, locals := 174 } : Room).slots A) (F0 m 212 ls []) := by
                              intro n_w
                              induction n_w with
                              | zero => intro tt H locs ls hk_w hn_w; omega
                              | succ n_w ih_w =>
                                intro tt H locs ls hk_w hn_w ht1 htt hP hD hS hl
                                refine lv_aload_n hx hb dX12_cut_212 rfl (lv_at hl 5 rfl) ?_
                                refine lv_iload_n hx hb dX12_cut_213 rfl (lv_at hl 0 rfl) ?_
                                have hP : va_P G.1 pCl (mW G h0 a (upd (upd (upd (upd (upd F 4 (nI sz)) 9 (nI T)) 13 (nI us)) 14 (nI nm)) 4 (nI sz)) (updA (updA (updA (updA (updA (updA (updA B 2 g5) 3 g6) 4 g7) 5 g8) 6 g10) 7 g11) 8 g12)) _ := mW_to (F := F) (l1 := [(4, (nI sz)), (9, (nI T)), (13, (nI us)), (14, (nI nm))]) (l2 := [(4, (nI sz)), (9, (nI T)), (13, (nI us)), (14, (nI nm)), (4, (nI sz))]) (V := [(nI sz), (nI T), (nI us), (nI nm), (nI sz), (nI T), (nI us), (nI nm), (nI sz)]) rfl rfl rfl hP
                                have hD : va_D A (mW G h0 a (upd (upd (upd (upd (upd F 4 (nI sz)) 9 (nI T)) 13 (nI us)) 14 (nI nm)) 4 (nI sz)) (updA (updA (updA (updA (updA (updA (updA B 2 g5) 3 g6) 4 g7) 5 g8) 6 g10) 7 g11) 8 g12)) := mW_D hD
                                refine pc_V0 (G := G) (As := [.int (nI tt)]) (rest := []) hx hb hml hown hq hE hX pX0_al hP hD hS hA hl.1 (R_ch l G h0 a (upd (upd (upd (upd F 4 (nI sz)) 9 (nI T)) 13 (nI us)) 14 (nI nm)) (updA (updA (updA (updA (updA (updA (updA B 2 g5) 3 g6) 4 g7) 5 g8) 6 g10) 7 g11) 8 g12) tt sz (by omega) (by omega)) (gV pw_1561 pw_1562 pw_1563 pw_1523 pw_1518) hV_X12_ch 0 9 rfl rfl rfl rfl (Nat.le_of_ble_eq_true rfl) dX12_cut_214 ⟨Nat.le_of_ble_eq_true rfl, Nat.le_of_ble_eq_true rfl⟩ ⟨Nat.le_of_ble_eq_true rfl, Nat.le_of_ble_eq_true rfl⟩ (fun v571 u569 H locs hw570 hP hD hS => ?_)
                                obtain ⟨r572, rfl⟩ : ∃ z, z = u569 := ⟨_, rfl⟩
                                obtain ⟨hw570, h573⟩ := hw570
                                have h573 : r572 = (-1) ∨ tt < sz ∧ r572 = (B 1) tt := h573
                                obtain rfl : v571 = some (.int r572) := hw570
                                have hP : va_P G.1 pCl (mW G h0 a (upd (upd (upd (upd F 4 (nI sz)) 9 (nI T)) 13 (nI us)) 14 (nI nm)) (updA (updA (updA (updA (updA (updA (updA B 2 g5) 3 g6) 4 g7) 5 g8) 6 g10) 7 g11) 8 g12)) _ := mW_to (F := F) (l1 := [(4, (nI sz)), (9, (nI T)), (13, (nI us)), (14, (nI nm)), (4, (nI sz))]) (l2 := [(4, (nI sz)), (9, (nI T)), (13, (nI us)), (14, (nI nm))]) (V := [(nI sz), (nI T), (nI us), (nI nm), (nI sz), (nI sz), (nI T), (nI us), (nI nm)]) rfl rfl rfl hP
                                have hD : va_D A (mW G h0 a (upd (upd (upd (upd F 4 (nI sz)) 9 (nI T)) 13 (nI us)) 14 (nI nm)) (updA (updA (updA (updA (updA (updA (updA B 2 g5) 3 g6) 4 g7) 5 g8) 6 g10) 7 g11) 8 g12)) := mW_D hD
                                refine W.widen (k := 0) (n := 0) (Nat.le_of_ble_eq_true rfl) (Nat.le_of_ble_eq_true rfl) ?_
                                refine W.eq (g2 := F0 m 217 ls [.int r572]) rfl ?_
                                refine pc_SN (G := G) (As := [.int r572]) (rest := []) hx hb hml hown hq hE hX pX0_al hP hS hA hl.1 (s_isLetter l G r572) (gS pw_1575 pw_1576 pw_1523 pw_1520) hS_X12_isLetter rfl (Nat.le_of_ble_eq_true rfl) dX12_cut_217 ⟨Nat.le_of_ble_eq_true rfl, Nat.le_of_ble_eq_true rfl⟩ ⟨Nat.le_of_ble_eq_true rfl, Nat.le_of_ble_eq_true rfl⟩ (fun v576 u574 H locs hw575 hP hS => ?_)
                                obtain ⟨x577, rfl, hr578, hr579⟩ := hw575
                                refine W.widen (k := 0) (n := 0) (Nat.le_of_ble_eq_true rfl) (Nat.le_of_ble_eq_true rfl) ?_
                                refine W.eq (g2 := F0 m 220 ls [.int x577]) rfl ?_
                                refine lv_if_ne (tgt := 234) hx hb dX12_cut_220 (by decide) (fun c580 => ?_) (fun c580 => ?_)
                                · have hc48 : ¬ r572 < 48 := (hr578).resolve_left c580
                                  have hlet2 : tt < sz ∧ ¬ B 1 tt = 32 := ⟨chin h573 (noM1 hc48), by rw [← ((h573).resolve_left (noM1 hc48)).2]; exact no32 hc48⟩
                                  refine lv_iinc (v := (nI (tt + 1))) (lv' := [(3, .int (nI (tt + 1))), (4, .int 0), (5, .int 0), (1, .int (nI i1)), (2, .int 1), (0, .ref h0)]) hx hb dX12_cut_234 hl (k := 0) rfl (nI_1 tt) (by decide) rfl (fun ls hl => ?_)
                                  refine lv_goto (tgt := 212) hx hb dX12_cut_237 (by decide) ?_
                                  have hP : va_P G.1 pCl (mW G h0 a (upd (upd (upd (upd F 4 (nI sz)) 9 (nI T)) 13 (nI us)) 14 (nI nm)) (updA (updA (updA (updA (updA (updA (updA B 2 g5) 3 g6) 4 g7) 5 g8) 6 g10) 7 g11) 8 g12)) _ := hP
                                  have hD : va_D A (mW G h0 a (upd (upd (upd (upd F 4 (nI sz)) 9 (nI T)) 13 (nI us)) 14 (nI nm)) (updA (updA (updA (updA (updA (updA (updA B 2 g5) 3 g6) 4 g7) 5 g8) 6 g10) 7 g11) 8 g12)) := mW_D hD
                                  exact ih_w (tt + 1) _ _ _ (by have := hlet2.1; omega) (by omega) (by omega) (fun j h8 h9 => (Classical.em (j = tt)).elim (fun e9 => by rw [e9]; exact hlet2.2) (fun e9 => htt j h8 (by omega))) hP hD hS (lv_sub hl [0, 1, 2, 3, 4, 5] rfl)
                                · refine lv_aload_n hx hb dX12_cut_223 rfl (lv_at hl 5 rfl) ?_
                                  refine lv_iload_n hx hb dX12_cut_224 rfl (lv_at hl 0 rfl) ?_
                                  have hP : va_P G.1 pCl (mW G h0 a (upd (upd (upd (upd (upd F 4 (nI sz)) 9 (nI T)) 13 (nI us)) 14 (nI nm)) 4 (nI sz)) (updA (updA (updA (updA (updA (updA (updA B 2 g5) 3 g6) 4 g7) 5 g8) 6 g10) 7 g11) 8 g12)) _ := hP
                                  have hD : va_D A (mW G h0 a (upd (upd (upd (upd (upd F 4 (nI sz)) 9 (nI T)) 13 (nI us)) 14 (nI nm)) 4 (nI sz)) (updA (updA (updA (updA (updA (updA (updA B 2 g5) 3 g6) 4 g7) 5 g8) 6 g10) 7 g11) 8 g12)) := mW_D hD
                                  refine pc_V0 (G := G) (As := [.int (nI tt)]) (rest := []) hx hb hml hown hq hE hX pX0_al hP hD hS hA hl.1 (R_ch l G h0 a (upd (upd (upd (upd F 4 (nI sz)) 9 (nI T)) 13 (nI us)) 14 (nI nm)) (updA (updA (updA (updA (updA (updA (updA B 2 g5) 3 g6) 4 g7) 5 g8) 6 g10) 7 g11) 8 g12) tt sz (by omega) (by omega)) (gV pw_1561 pw_1562 pw_1563 pw_1523 pw_1518) hV_X12_ch 0 9 rfl rfl rfl rfl (Nat.le_of_ble_eq_true rfl) dX12_cut_225 ⟨Nat.le_of_ble_eq_true rfl, Nat.le_of_ble_eq_true rfl⟩ ⟨Nat.le_of_ble_eq_true rfl, Nat.le_of_ble_eq_true rfl⟩ (fun v583 u581 H locs hw582 hP hD hS => ?_)
                                  obtain ⟨r584, rfl⟩ : ∃ z, z = u581 := ⟨_, rfl⟩
                                  obtain ⟨hw582, h585⟩ := hw582
                                  have h585 : r584 = (-1) ∨ tt < sz ∧ r584 = (B 1) tt := h585
                                  obtain rfl : v583 = some (.int r584) := hw582
                                  have hP : va_P G.1 pCl (mW G h0 a (upd (upd (upd (upd F 4 (nI sz)) 9 (nI T)) 13 (nI us)) 14 (nI nm)) (updA (updA (updA (updA (updA (updA (updA B 2 g5) 3 g6) 4 g7) 5 g8) 6 g10) 7 g11) 8 g12)) _ := mW_to (F := F) (l1 := [(4, (nI sz)), (9, (nI T)), (13, (nI us)), (14, (nI nm)), (4, (nI sz))]) (l2 := [(4, (nI sz)), (9, (nI T)), (13, (nI us)), (14, (nI nm))]) (V := [(nI sz), (nI T), (nI us), (nI nm), (nI sz), (nI sz), (nI T), (nI us), (nI nm)]) rfl rfl rfl hP
                                  have hD : va_D A (mW G h0 a (upd (upd (upd (upd F 4 (nI sz)) 9 (nI T)) 13 (nI us)) 14 (nI nm)) (updA (updA (updA (updA (updA (updA (updA B 2 g5) 3 g6) 4 g7) 5 g8) 6 g10) 7 g11) 8 g12)) := mW_D hD
                                  refine W.widen (k := 0) (n := 0) (Nat.le_of_ble_eq_true rfl) (Nat.le_of_ble_eq_true rfl) ?_
                                  refine W.eq (g2 := F0 m 228 ls [.int r584]) rfl ?_
                                  refine pc_SN (G := G) (As := [.int r584]) (rest := []) hx hb hml hown hq hE hX pX0_al hP hS hA hl.1 (s_isDigit l G r584) (gS pw_1577 pw_1578 pw_1523 pw_1524) hS_X12_isDigit rfl (Nat.le_of_ble_eq_true rfl) dX12_cut_228 ⟨Nat.le_of_ble_eq_true rfl, Nat.le_of_ble_eq_true rfl⟩ ⟨Nat.le_of_ble_eq_true rfl, Nat.le_of_ble_eq_true rfl⟩ (fun v588 u586 H locs hw587 hP hS => ?_)
                                  obtain ⟨x589, rfl, hr590, hr591⟩ := hw587
                                  refine W.widen (k := 0) (n := 0) (Nat.le_of_ble_eq_true rfl) (Nat.le_of_ble_eq_true rfl) ?_
                                  refine W.eq (g2 := F0 m 231 ls [.int x589]) rfl ?_
                                  refine lv_if_eq (tgt := 240) hx hb dX12_cut_231 (by decide) (fun c592 => ?_) (fun c592 => ?_)
                                  · refine lv_aload_n hx hb dX12_cut_240 rfl (lv_at hl 5 rfl) ?_
                                    refine lv_iload_n hx hb dX12_cut_241 rfl (lv_at hl 3 rfl) ?_
                                    refine lv_iload_n hx hb dX12_cut_242 rfl (lv_at hl 0 rfl) ?_
                                    have hP : va_P G.1 pCl (mW G h0 a (upd (upd (upd (upd F 4 (nI sz)) 9 (nI T)) 13 (nI us)) 14 (nI nm)) (updA (updA (updA (updA (updA (updA (updA B 2 g5) 3 g6) 4 g7) 5 g8) 6 g10) 7 g11) 8 g12)) _ := hP
                                    have hD : va_D A (mW G h0 a (upd (upd (upd (upd F 4 (nI sz)) 9 (nI T)) 13 (nI us)) 14 (nI nm)) (updA (updA (updA (updA (updA (updA (updA B 2 g5) 3 g6) 4 g7) 5 g8) 6 g10) 7 g11) 8 g12)) := mW_D hD
                                    refine pc_V0 (G := G) (As := [.int (nI i1), .int (nI tt)]) (rest := []) hx hb hml hown hq hE hX pX0_al hP hD hS hA hl.1 (R_wordOf l G h0 a (upd (upd (upd (upd F 4 (nI sz)) 9 (nI T)) 13 (nI us)) 14 (nI nm)) (updA (updA (updA (updA (updA (updA (updA B 2 g5) 3 g6) 4 g7) 5 g8) 6 g10) 7 g11) 8 g12) i1 tt (by omega) (by omega) htt) (gV pw_1579 pw_1580 pw_1581 pw_1523 pw_1527) hV_X12_wordOf 0 9 rfl rfl rfl rfl (Nat.le_of_ble_eq_true rfl) dX12_cut_243 ⟨Nat.le_of_ble_eq_true rfl, Nat.le_of_ble_eq_true rfl⟩ ⟨Nat.le_of_ble_eq_true rfl, Nat.le_of_ble_eq_true rfl⟩ (fun v595 u593 H locs hw594 hP hD hS => ?_)
                                    obtain ⟨r596, rfl⟩ : ∃ z, z = u593 := ⟨_, rfl⟩
                                    obtain rfl : v595 = some (.int r596) := hw594
                                    have hP : va_P G.1 pCl (mW G h0 a (upd (upd (upd (upd F 4 (nI sz)) 9 (nI T)) 13 (nI us)) 14 (nI nm)) (updA (updA (updA (updA (updA (updA (updA B 2 g5) 3 g6) 4 g7) 5 g8) 6 g10) 7 g11) 8 g12)) _ := hP
                                    have hD : va_D A (mW G h0 a (upd (upd (upd (upd F 4 (nI sz)) 9 (nI T)) 13 (nI us)) 14 (nI nm)) (updA (updA (updA (updA (updA (updA (updA B 2 g5) 3 g6) 4 g7) 5 g8) 6 g10) 7 g11) 8 g12)) := mW_D hD
                                    refine W.widen (k := 0) (n := 0) (Nat.le_of_ble_eq_true rfl) (Nat.le_of_ble_eq_true rfl) ?_
                                    refine W.eq (g2 := F0 m 246 ls [.int r596]) rfl ?_
                                    refine lv_istore (lv' := [(4, .int r596), (3, .int (nI tt)), (5, .int 0), (1, .int (nI i1)), (2, .int 1), (0, .ref h0)]) hx hb dX12_cut_246 hl (by decide) rfl (fun ls hl => ?_)
                                    refine lv_iload hx hb dX12_cut_248 (lv_at hl 0 rfl) ?_
                                    refine lv_iconst (v := 1) hx hb dX12_cut_250 (by decide) ?_
                                    refine lv_icmp_ne (tgt := 268) hx hb dX12_cut_251 (by decide) (fun c597 => ?_) (fun c597 => ?_)
                                    · refine lv_iload hx hb dX12_cut_268 (lv_at hl 0 rfl) ?_
                                      refine lv_iconst (v := 1) hx hb dX12_cut_270 (by decide) ?_
                                      refine lv_icmp_ne (tgt := 472) hx hb dX12_cut_271 (by decide) (fun c598 => ?_) (fun c598 => ?_)
                                      · have hP : va_P G.1 pCl (mW G h0 a (upd (upd (upd (upd F 4 (nI sz)) 9 (nI T)) 13 (nI us)) 14 (nI nm)) (updA (updA (updA (updA (updA (updA (updA B 2 g5) 3 g6) 4 g7) 5 g8) 6 g10) 7 g11) 8 g12)) _ := hP
                                        have hD : va_D A (mW G h0 a (upd (upd (upd (upd F 4 (nI sz)) 9 (nI T)) 13 (nI us)) 14 (nI nm)) (updA (updA (updA (updA (updA (updA (updA B 2 g5) 3 g6) 4 g7) 5 g8) 6 g10) 7 g11) 8 g12)) := mW_D hD
                                        exact cut_j r596 0 tt nm us g10 g11 g12 _ _ _ (by omega) (by omega) (Or.inr (by omega)) (by omega) (by omega) (by omega) hR (fun e9 => absurd e9 c598) hP hD hS (lv_sub hl [3, 4, 1, 0, 2, 5] rfl)
                                      · refine lv_aload_n hx hb dX12_cut_274 rfl (lv_at hl 5 rfl) ?_
                                        refine lv_iload_n hx hb dX12_cut_275 rfl (lv_at hl 3 rfl) ?_
                                        refine lv_iload_n hx hb dX12_cut_276 rfl (lv_at hl 1 rfl) ?_
                                        have hP : va_P G.1 pCl (mW G h0 a (upd (upd (upd (upd (upd (upd F 4 (nI sz)) 9 (nI T)) 13 (nI us)) 14 (nI nm)) 13 (nI us)) 14 (nI nm)) (updA (updA (updA (updA (updA (updA (updA (updA (updA (updA B 2 g5) 3 g6) 4 g7) 5 g8) 6 g10) 7 g11) 8 g12) 6 g10) 7 g11) 8 g12)) _ := mW_to (F := F) (l1 := [(4, (nI sz)), (9, (nI T)), (13, (nI us)), (14, (nI nm))]) (l2 := [(4, (nI sz)), (9, (nI T)), (13, (nI us)), (14, (nI nm)), (13, (nI us)), (14, (nI nm))]) (V := [(nI sz), (nI T), (nI us), (nI nm), (nI sz), (nI T), (nI us), (nI nm), (nI us), (nI nm)]) rfl rfl (show (updA (updA (updA (updA (updA (updA (updA B 2 g5) 3 g6) 4 g7) 5 g8) 6 g10) 7 g11) 8 g12) = (updA (updA (updA (updA (updA (updA (updA (updA (updA (updA B 2 g5) 3 g6) 4 g7) 5 g8) 6 g10) 7 g11) 8 g12) 6 g10) 7 g11) 8 g12) from updsA_eq2 (F := B) (l1 := [(2, g5), (3, g6), (4, g7), (5, g8), (6, g10), (7, g11), (8, g12)]) (l2 := [(2, g5), (3, g6), (4, g7), (5, g8), (6, g10), (7, g11), (8, g12), (6, g10), (7, g11), (8, g12)]) (V := [g5, g6, g7, g8, g10, g11, g12, g5, g6, g7, g8, g10, g11, g12, g10, g11, g12]) rfl rfl) hP
                                        have hD : va_D A (mW G h0 a (upd (upd (upd (upd (upd (upd F 4 (nI sz)) 9 (nI T)) 13 (nI us)) 14 (nI nm)) 13 (nI us)) 14 (nI nm)) (updA (updA (updA (updA (updA (updA (updA (updA (updA (updA B 2 g5) 3 g6) 4 g7) 5 g8) 6 g10) 7 g11) 8 g12) 6 g10) 7 g11) 8 g12)) := mW_D hD
                                        refine pc_V0 (G := G) (As := [.int (nI i1), .int (nI tt)]) (rest := []) hx hb hml hown hq hE hX pX0_al hP hD hS hA hl.1 (R_intern l G h0 a (upd (upd (upd (upd F 4 (nI sz)) 9 (nI T)) 13 (nI us)) 14 (nI nm)) (updA (updA (updA (updA (updA (updA (updA B 2 g5) 3 g6) 4 g7) 5 g8) 6 g10) 7 g11) 8 g12) i1 tt nm us g10 g11 g12 (by omega) (by omega) (by omega) (by omega) hR) (gV pw_1582 pw_1583 pw_1584 pw_1523 pw_1528) hV_X12_intern 0 9 rfl rfl rfl rfl (Nat.le_of_ble_eq_true rfl) dX12_cut_277 ⟨Nat.le_of_ble_eq_true rfl, Nat.le_of_ble_eq_true rfl⟩ ⟨Nat.le_of_ble_eq_true rfl, Nat.le_of_ble_eq_true rfl⟩ (fun v601 u599 H locs hw600 hP hD hS => ?_)
                                        obtain ⟨nm602, us603, g604, g605, g606, r607⟩ := u599
                                        obtain ⟨hw600, h608, h609, h610, h611, h612⟩ := hw600
                                        have h608 : nm602 ≤ nm + 1 := h608
                                        have h609 : us603 ≤ us + (tt - i1) := h609
                                        have h610 : rNm nm602 us603 g604 g605 := h610
                                        have h611 : ∃ k : Nat, k < nm602 ∧ r607 = nI k := h611
                                        have h612 : nm ≤ nm602 := h612
                                        obtain rfl : v601 = some (.int r607) := hw600
                                        have hP : va_P G.1 pCl (mW G h0 a (upd (upd (upd (upd F 4 (nI sz)) 9 (nI T)) 13 (nI us603)) 14 (nI nm602)) (updA (updA (updA (updA (updA (updA (updA B 2 g5) 3 g6) 4 g7) 5 g8) 6 g604) 7 g605) 8 g606)) _ := mW_to (F := F) (l1 := [(4, (nI sz)), (9, (nI T)), (13, (nI us)), (14, (nI nm)), (13, (nI us603)), (14, (nI nm602))]) (l2 := [(4, (nI sz)), (9, (nI T)), (13, (nI us603)), (14, (nI nm602))]) (V := [(nI sz), (nI T), (nI us603), (nI nm602), (nI us603), (nI nm602), (nI sz), (nI T), (nI us603), (nI nm602)]) rfl rfl (show (updA (updA (updA (updA (updA (updA (updA (updA (updA (updA B 2 g5) 3 g6) 4 g7) 5 g8) 6 g10) 7 g11) 8 g12) 6 g604) 7 g605) 8 g606) = (updA (updA (updA (updA (updA (updA (updA B 2 g5) 3 g6) 4 g7) 5 g8) 6 g604) 7 g605) 8 g606) from updsA_eq2 (F := B) (l1 := [(2, g5), (3, g6), (4, g7), (5, g8), (6, g10), (7, g11), (8, g12), (6, g604), (7, g605), (8, g606)]) (l2 := [(2, g5), (3, g6), (4, g7), (5, g8), (6, g604), (7, g605), (8, g606)]) (V := [g5, g6, g7, g8, g604, g605, g606, g604, g605, g606, g5, g6, g7, g8, g604, g605, g606]) rfl rfl) hP
                                        have hD : va_D A (mW G h0 a (upd (upd (upd (upd F 4 (nI sz)) 9 (nI T)) 13 (nI us603)) 14 (nI nm602)) (updA (updA (updA (updA (updA (updA (updA B 2 g5) 3 g6) 4 g7) 5 g8) 6 g604) 7 g605) 8 g606)) := mW_D hD
                                        refine W.widen (k := 0) (n := 0) (Nat.le_of_ble_eq_true rfl) (Nat.le_of_ble_eq_true rfl) ?_
                                        refine W.eq (g2 := F0 m 280 ls [.int r607]) rfl ?_
                                        refine lv_istore (lv' := [(5, .int r607), (4, .int r596), (3, .int (nI tt)), (1, .int (nI i1)), (2, .int 1), (0, .ref h0)]) hx hb dX12_cut_280 hl (by decide) rfl (fun ls hl => ?_)
                                        refine lv_goto (tgt := 472) hx hb dX12_cut_282 (by decide) ?_
                                        have hP : va_P G.1 pCl (mW G h0 a (upd (upd (upd (upd F 4 (nI sz)) 9 (nI T)) 13 (nI us603)) 14 (nI nm602)) (updA (updA (updA (updA (updA (updA (updA B 2 g5) 3 g6) 4 g7) 5 g8) 6 g604) 7 g605) 8 g606)) _ := hP
                                        have hD : va_D A (mW G h0 a (upd (upd (upd (upd F 4 (nI sz)) 9 (nI T)) 13 (nI us603)) 14 (nI nm602)) (updA (updA (updA (updA (updA (updA (updA B 2 g5) 3 g6) 4 g7) 5 g8) 6 g604) 7 g605) 8 g606)) := mW_D hD
                                        exact cut_j r596 r607 tt nm602 us603 g604 g605 g606 _ _ _ (by omega) (by omega) (Or.inr (by omega)) (by omega) (by omega) (by omega) h610 (fun _ => h611) hP hD hS (lv_sub hl [3, 4, 2, 1, 0, 5] rfl)
                                    · refine lv_iload_n hx hb dX12_cut_254 rfl (lv_at hl 1 rfl) ?_
                                      refine lv_iload_n hx hb dX12_cut_255 rfl (lv_at hl 3 rfl) ?_
                                      refine lv_isub hx hb dX12_cut_256 ?_
                                      refine lv_topi (fun x613 e614 => ?_)
                                      obtain rfl : x613 = nI (tt - i1) := e614.trans (nI_subN (a := i1) (b := tt) (by omega))
                                      refine lv_bipush (v := 16) hx hb dX12_cut_257 (by decide) ?_
                                      refine lv_icmp_le (tgt := 268) hx hb dX12_cut_259 (by decide) (fun c615 => ?_) (fun c615 => ?_)
                                      · have n616 : (tt - i1) ≤ 16 := (nI_leI (a := (tt - i1)) (b := 16) (by omega) (by omega)).mp c615
                                        refine lv_iload hx hb dX12_cut_268 (lv_at hl 0 rfl) ?_
                                        refine lv_iconst (v := 1) hx hb dX12_cut_270 (by decide) ?_
                                        refine lv_icmp_ne (tgt := 472) hx hb dX12_cut_271 (by decide) (fun c617 => ?_) (fun c617 => ?_)
                                        · have hP : va_P G.1 pCl (mW G h0 a (upd (upd (upd (upd F 4 (nI sz)) 9 (nI T)) 13 (nI us)) 14 (nI nm)) (updA (updA (updA (updA (updA (updA (updA B 2 g5) 3 g6) 4 g7) 5 g8) 6 g10) 7 g11) 8 g12)) _ := hP
                                          have hD : va_D A (mW G h0 a (upd (upd (upd (upd F 4 (nI sz)) 9 (nI T)) 13 (nI us)) 14 (nI nm)) (updA (updA (updA (updA (updA (updA (updA B 2 g5) 3 g6) 4 g7) 5 g8) 6 g10) 7 g11) 8 g12)) := mW_D hD
                                          exact cut_j r596 0 tt nm us g10 g11 g12 _ _ _ (by omega) (by omega) (Or.inr (by omega)) (by omega) (by omega) (by omega) hR (fun e9 => absurd e9 c617) hP hD hS (lv_sub hl [3, 4, 1, 0, 2, 5] rfl)
                                        · refine lv_aload_n hx hb dX12_cut_274 rfl (lv_at hl 5 rfl) ?_
                                          refine lv_iload_n hx hb dX12_cut_275 rfl (lv_at hl 3 rfl) ?_
                                          refine lv_iload_n hx hb dX12_cut_276 rfl (lv_at hl 1 rfl) ?_
                                          have hP : va_P G.1 pCl (mW G h0 a (upd (upd (upd (upd (upd (upd F 4 (nI sz)) 9 (nI T)) 13 (nI us)) 14 (nI nm)) 13 (nI us)) 14 (nI nm)) (updA (updA (updA (updA (updA (updA (updA (updA (updA (updA B 2 g5) 3 g6) 4 g7) 5 g8) 6 g10) 7 g11) 8 g12) 6 g10) 7 g11) 8 g12)) _ := mW_to (F := F) (l1 := [(4, (nI sz)), (9, (nI T)), (13, (nI us)), (14, (nI nm))]) (l2 := [(4, (nI sz)), (9, (nI T)), (13, (nI us)), (14, (nI nm)), (13, (nI us)), (14, (nI nm))]) (V := [(nI sz), (nI T), (nI us), (nI nm), (nI sz), (nI T), (nI us), (nI nm), (nI us), (nI nm)]) rfl rfl (show (updA (updA (updA (updA (updA (updA (updA B 2 g5) 3 g6) 4 g7) 5 g8) 6 g10) 7 g11) 8 g12) = (updA (updA (updA (updA (updA (updA (updA (updA (updA (updA B 2 g5) 3 g6) 4 g7) 5 g8) 6 g10) 7 g11) 8 g12) 6 g10) 7 g11) 8 g12) from updsA_eq2 (F := B) (l1 := [(2, g5), (3, g6), (4, g7), (5, g8), (6, g10), (7, g11), (8, g12)]) (l2 := [(2, g5), (3, g6), (4, g7), (5, g8), (6, g10), (7, g11), (8, g12), (6, g10), (7, g11), (8, g12)]) (V := [g5, g6, g7, g8, g10, g11, g12, g5, g6, g7, g8, g10, g11, g12, g10, g11, g12]) rfl rfl) hP
                                          have hD : va_D A (mW G h0 a (upd (upd (upd (upd (upd (upd F 4 (nI sz)) 9 (nI T)) 13 (nI us)) 14 (nI nm)) 13 (nI us)) 14 (nI nm)) (updA (updA (updA (updA (updA (updA (updA (updA (updA (updA B 2 g5) 3 g6) 4 g7) 5 g8) 6 g10) 7 g11) 8 g12) 6 g10) 7 g11) 8 g12)) := mW_D hD
                                          refine pc_V0 (G := G) (As := [.int (nI i1), .int (nI tt)]) (rest := []) hx hb hml hown hq hE hX pX0_al hP hD hS hA hl.1 (R_intern l G h0 a (upd (upd (upd (upd F 4 (nI sz)) 9 (nI T)) 13 (nI us)) 14 (nI nm)) (updA (updA (updA (updA (updA (updA (updA B 2 g5) 3 g6) 4 g7) 5 g8) 6 g10) 7 g11) 8 g12) i1 tt nm us g10 g11 g12 (by omega) (by omega) (by omega) (by omega) hR) (gV pw_1582 pw_1583 pw_1584 pw_1523 pw_1528) hV_X12_intern 0 9 rfl rfl rfl rfl (Nat.le_of_ble_eq_true rfl) dX12_cut_277 ⟨Nat.le_of_ble_eq_true rfl, Nat.le_of_ble_eq_true rfl⟩ ⟨Nat.le_of_ble_eq_true rfl, Nat.le_of_ble_eq_true rfl⟩ (fun v620 u618 H locs hw619 hP hD hS => ?_)
                                          obtain ⟨nm621, us622, g623, g624, g625, r626⟩ := u618
                                          obtain ⟨hw619, h627, h628, h629, h630, h631⟩ := hw619
                                          have h627 : nm621 ≤ nm + 1 := h627
                                          have h628 : us622 ≤ us + (tt - i1) := h628
                                          have h629 : rNm nm621 us622 g623 g624 := h629
                                          have h630 : ∃ k : Nat, k < nm621 ∧ r626 = nI k := h630
                                          have h631 : nm ≤ nm621 := h631
                                          obtain rfl : v620 = some (.int r626) := hw619
                                          have hP : va_P G.1 pCl (mW G h0 a (upd (upd (upd (upd F 4 (nI sz)) 9 (nI T)) 13 (nI us622)) 14 (nI nm621)) (updA (updA (updA (updA (updA (updA (updA B 2 g5) 3 g6) 4 g7) 5 g8) 6 g623) 7 g624) 8 g625)) _ := mW_to (F := F) (l1 := [(4, (nI sz)), (9, (nI T)), (13, (nI us)), (14, (nI nm)), (13, (nI us622)), (14, (nI nm621))]) (l2 := [(4, (nI sz)), (9, (nI T)), (13, (nI us622)), (14, (nI nm621))]) (V := [(nI sz), (nI T), (nI us622), (nI nm621), (nI us622), (nI nm621), (nI sz), (nI T), (nI us622), (nI nm621)]) rfl rfl (show (updA (updA (updA (updA (updA (updA (updA (updA (updA (updA B 2 g5) 3 g6) 4 g7) 5 g8) 6 g10) 7 g11) 8 g12) 6 g623) 7 g624) 8 g625) = (updA (updA (updA (updA (updA (updA (updA B 2 g5) 3 g6) 4 g7) 5 g8) 6 g623) 7 g624) 8 g625) from updsA_eq2 (F := B) (l1 := [(2, g5), (3, g6), (4, g7), (5, g8), (6, g10), (7, g11), (8, g12), (6, g623), (7, g624), (8, g625)]) (l2 := [(2, g5), (3, g6), (4, g7), (5, g8), (6, g623), (7, g624), (8, g625)]) (V := [g5, g6, g7, g8, g623, g624, g625, g623, g624, g625, g5, g6, g7, g8, g623, g624, g625]) rfl rfl) hP
                                          have hD : va_D A (mW G h0 a (upd (upd (upd (upd F 4 (nI sz)) 9 (nI T)) 13 (nI us622)) 14 (nI nm621)) (updA (updA (updA (updA (updA (updA (updA B 2 g5) 3 g6) 4 g7) 5 g8) 6 g623) 7 g624) 8 g625)) := mW_D hD
                                          refine W.widen (k := 0) (n := 0) (Nat.le_of_ble_eq_true rfl) (Nat.le_of_ble_eq_true rfl) ?_
                                          refine W.eq (g2 := F0 m 280 ls [.int r626]) rfl ?_
                                          refine lv_istore (lv' := [(5, .int r626), (4, .int r596), (3, .int (nI tt)), (1, .int (nI i1)), (2, .int 1), (0, .ref h0)]) hx hb dX12_cut_280 hl (by decide) rfl (fun ls hl => ?_)
                                          refine lv_goto (tgt := 472) hx hb dX12_cut_282 (by decide) ?_
                                          have hP : va_P G.1 pCl (mW G h0 a (upd (upd (upd (upd F 4 (nI sz)) 9 (nI T)) 13 (nI us622)) 14 (nI nm621)) (updA (updA (updA (updA (updA (updA (updA B 2 g5) 3 g6) 4 g7) 5 g8) 6 g623) 7 g624) 8 g625)) _ := hP
                                          have hD : va_D A (mW G h0 a (upd (upd (upd (upd F 4 (nI sz)) 9 (nI T)) 13 (nI us622)) 14 (nI nm621)) (updA (updA (updA (updA (updA (updA (updA B 2 g5) 3 g6) 4 g7) 5 g8) 6 g623) 7 g624) 8 g625)) := mW_D hD
                                          exact cut_j r596 r626 tt nm621 us622 g623 g624 g625 _ _ _ (by omega) (by omega) (Or.inr (by omega)) (by omega) (by omega) (by omega) h629 (fun _ => h630) hP hD hS (lv_sub hl [3, 4, 2, 1, 0, 5] rfl)
                                      · have n632 : ¬ ((tt - i1) ≤ 16) := fun h9 => c615 ((nI_leI (a := (tt - i1)) (b := 16) (by omega) (by omega)).mpr h9)
                                        refine lv_iconst (v := 3) hx hb dX12_cut_262 (by decide) ?_
                                        refine lv_istore (lv' := [(4, .int 3), (3, .int (nI tt)), (5, .int 0), (1, .int (nI i1)), (2, .int 1), (0, .ref h0)]) hx hb dX12_cut_263 hl (by decide) rfl (fun ls hl => ?_)
                                        refine lv_goto (tgt := 472) hx hb dX12_cut_265 (by decide) ?_
                                        have hP : va_P G.1 pCl (mW G h0 a (upd (upd (upd (upd F 4 (nI sz)) 9 (nI T)) 13 (nI us)) 14 (nI nm)) (updA (updA (updA (updA (updA (updA (updA B 2 g5) 3 g6) 4 g7) 5 g8) 6 g10) 7 g11) 8 g12)) _ := hP
                                        have hD : va_D A (mW G h0 a (upd (upd (upd (upd F 4 (nI sz)) 9 (nI T)) 13 (nI us)) 14 (nI nm)) (updA (updA (updA (updA (updA (updA (updA B 2 g5) 3 g6) 4 g7) 5 g8) 6 g10) 7 g11) 8 g12)) := mW_D hD
                                        exact cut_j 3 0 tt nm us g10 g11 g12 _ _ _ (by omega) (by omega) (Or.inr (by omega)) (by omega) (by omega) (by omega) hR (fun e9 => absurd e9 (by decide)) hP hD hS (lv_sub hl [3, 4, 1, 0, 2, 5] rfl)
                                  · have hc48 : ¬ r584 < 48 := (hr590).resolve_left c592
                                    have hlet2 : tt < sz ∧ ¬ B 1 tt = 32 := ⟨chin h585 (noM1 hc48), by rw [← ((h585).resolve_left (noM1 hc48)).2]; exact no32 hc48⟩
                                    refine lv_iinc (v := (nI (tt + 1))) (lv' := [(3, .int (nI (tt + 1))), (4, .int 0), (5, .int 0), (1, .int (nI i1)), (2, .int 1), (0, .ref h0)]) hx hb dX12_cut_234 hl (k := 0) rfl (nI_1 tt) (by decide) rfl (fun ls hl => ?_)
                                    refine lv_goto (tgt := 212) hx hb dX12_cut_237 (by decide) ?_
                                    have hP : va_P G.1 pCl (mW G h0 a (upd (upd (upd (upd F 4 (nI sz)) 9 (nI T)) 13 (nI us)) 14 (nI nm)) (updA (updA (updA (updA (updA (updA (updA B 2 g5) 3 g6) 4 g7) 5 g8) 6 g10) 7 g11) 8 g12)) _ := hP
                                    have hD : va_D A (mW G h0 a (upd (upd (upd (upd F 4 (nI sz)) 9 (nI T)) 13 (nI us)) 14 (nI nm)) (updA (updA (updA (updA (updA (updA (updA B 2 g5) 3 g6) 4 g7) 5 g8) 6 g10) 7 g11) 8 g12)) := mW_D hD
                                    exact ih_w (tt + 1) _ _ _ (by have := hlet2.1; omega) (by omega) (by omega) (fun j h8 h9 => (Classical.em (j = tt)).elim (fun e9 => by rw [e9]; exact hlet2.2) (fun e9 => htt j h8 (by omega))) hP hD hS (lv_sub hl [0, 1, 2, 3, 4, 5] rfl)
                            have hP : va_P G.1 pCl (mW G h0 a (upd (upd (upd (upd F 4 (nI sz)) 9 (nI T)) 13 (nI us)) 14 (nI nm)) (updA (updA (updA (updA (updA (updA (updA B 2 g5) 3 g6) 4 g7) 5 g8) 6 g10) 7 g11) 8 g12)) _ := hP
                            have hD : va_D A (mW G h0 a (upd (upd (upd (upd F 4 (nI sz)) 9 (nI T)) 13 (nI us)) 14 (nI nm)) (updA (updA (updA (updA (updA (updA (updA B 2 g5) 3 g6) 4 g7) 5 g8) 6 g10) 7 g11) 8 g12)) := mW_D hD
                            exact loop_w (sz + 1) (i1 + 1) _ _ _ (by omega) (by omega) (by omega) (fun j h8 h9 => by rw [show j = i1 by omega]; exact hlet.2) hP hD hS (lv_sub hl [2, 1, 0, 3, 4, 5] rfl)
                        · have n633 : ¬ (i1 < sz) := fun h9 => c376 ((nI_ltI (a := i1) (b := sz) (by omega) (by omega)).mpr h9)
                          refine lv_iload_n hx hb dX12_cut_196 rfl (lv_at hl 3 rfl) ?_
                          refine lv_istore_n (lv' := [(3, .int (nI i1)), (5, .int 0), (4, .int 0), (1, .int (nI i1)), (2, .int 1), (0, .ref h0)]) hx hb dX12_cut_197 rfl hl (by decide) rfl (fun ls hl => ?_)
                          refine lv_goto (tgt := 472) hx hb dX12_cut_198 (by decide) ?_
                          have hP : va_P G.1 pCl (mW G h0 a (upd (upd (upd (upd F 4 (nI sz)) 9 (nI T)) 13 (nI us)) 14 (nI nm)) (updA (updA (updA (updA (updA (updA (updA B 2 g5) 3 g6) 4 g7) 5 g8) 6 g10) 7 g11) 8 g12)) _ := hP
                          have hD : va_D A (mW G h0 a (upd (upd (upd (upd F 4 (nI sz)) 9 (nI T)) 13 (nI us)) 14 (nI nm)) (updA (updA (updA (updA (updA (updA (updA B 2 g5) 3 g6) 4 g7) 5 g8) 6 g10) 7 g11) 8 g12)) := mW_D hD
                          exact cut_j 0 0 i1 nm us g10 g11 g12 _ _ _ (by omega) (by omega) (Or.inl rfl) (by omega) (by omega) (by omega) hR (fun e9 => absurd e9 (by decide)) hP hD hS (lv_sub hl [3, 4, 0, 2, 1, 5] rfl)
                      · have loop_n : ∀ (n_n : Nat) (i2 : Nat) (H : Heap) (locs : List Loc) (ls : Array Slot), i2 ≤ sz → sz + 1 ≤ i2 + n_n → (i1 ≤ i2) → va_P G.1 pCl (mW G h0 a (upd (upd (upd (upd F 4 (nI sz)) 9 (nI T)) 13 (nI us)) 14 (nI nm)) (updA (updA (updA (updA (updA (updA (updA B 2 g5) 3 g6) 4 g7) 5 g8) 6 g10) 7 g11) 8 g12)) H → va_D A (mW G h0 a (upd (upd (upd (upd F 4 (nI sz)) 9 (nI T)) 13 (nI us)) 14 (nI nm)) (updA (updA (updA (updA (updA (updA (updA B 2 g5) 3 g6) 4 g7) 5 g8) 6 g10) 7 g11) 8 g12)) → va_S A s.heap H locs → lv_has ls 9 [(1, .int (nI i2)), (2, .int 1), (0, .ref h0)] → W p l e (headSpec (Cond.code yX12_cut cX12_cut 9 none :: pw) ({ frames := 7, cells := 0, slots := 0, locals := 174 } : Room)).room s m ([.ref h0] : List Value).toArray below meth c H locs 0 0 (MQ below (pQ G A (fun (v : Option Value) (u : Nat × Nat × Nat × (Nat → Int32) × (Nat → Int32) × (Nat → Int32) × (Nat → Int32) × (Nat → Int32) × (Nat → Int32) × (Nat → Int32)) => v = none ∧ (u.1 ≤ sz) ∧ (u.2.2.2.2.2.2.1 u.1 = 0 ∨ u.2.2.2.2.2.2.1 u.1 = 3) ∧ (rNm u.2.1 u.2.2.1 u.2.2.2.1 u.2.2.2.2.1) ∧ (u.2.1 ≤ 9 + sz) ∧ (u.2.2.1 ≤ 40 + sz) ∧ (rTk u.1 u.2.1 u.2.2.2.2.2.2.1 u.2.2.2.2.2.2.2.2.2) ∧ (9 ≤ u.2.1)) (fun u => (mW G h0 a (upd (upd (upd (upd F 4 (nI sz)) 9 (nI u.1)) 13 (nI u.2.2.1)) 14 (nI u.2.1)) (updA (updA (updA (updA (updA (updA (updA B 2 u.2.2.2.2.2.2.1) 3 u.2.2.2.2.2.2.2.1) 4 u.2.2.2.2.2.2.2.2.1) 5 u.2.2.2.2.2.2.2.2.2) 6 u.2.2.2.1) 7 u.2.2.2.2.1) 8 u.2.2.2.2.2.1)))) ([.ref h0] : List Value).toArray s ({ frames := 7, cells := 0, slots := 0, locals := 174 } : Room).cells ({ frames := 7, cells := 0, slots := 0, locals := 174 } : Room).slots A) (F0 m 154 ls []) := by
                          intro n_n
                          induction n_n with
                          | zero => intro i2 H locs ls hk_n hn_n; omega
                          | succ n_n ih_n =>
                            intro i2 H locs ls hk_n hn_n hi2 hP hD hS hl
                            refine lv_iload_n hx hb dX12_cut_154 rfl (lv_at hl 0 rfl) ?_
                            refine lv_aload_n hx hb dX12_cut_155 rfl (lv_at hl 2 rfl) ?_
                            refine r_get (v := .int (nI sz)) hx hb hown hq hE hP 4 258 tFX12_4 (by decide) pw_1519 rfl dX12_cut_156 ?_
                            refine lv_icmp_ge (tgt := 82) hx hb dX12_cut_159 (by decide) (fun c634 => ?_) (fun c634 => ?_)
                            · have n635 : sz ≤ i2 := (nI_leI (a := sz) (b := i2) (by omega) (by omega)).mp c634
                              have hgt : i1 < i2 := by have := h47.1; omega
                              have hP : va_P G.1 pCl (mW G h0 a (upd (upd (upd (upd F 4 (nI sz)) 9 (nI T)) 13 (nI us)) 14 (nI nm)) (updA (updA (updA (updA (updA (updA (updA B 2 g5) 3 g6) 4 g7) 5 g8) 6 g10) 7 g11) 8 g12)) _ := hP
                              have hD : va_D A (mW G h0 a (upd (upd (upd (upd F 4 (nI sz)) 9 (nI T)) 13 (nI us)) 14 (nI nm)) (updA (updA (updA (updA (updA (updA (updA B 2 g5) 3 g6) 4 g7) 5 g8) 6 g10) 7 g11) 8 g12)) := mW_D hD
                              exact ih_o i2 i2 T nm us 1 g10 g11 g12 g5 g6 g7 g8 _ _ _ (by omega) (by omega) (Or.inl ⟨rfl, rfl⟩) (by omega) (by omega) (by omega) (by omega) (fun h9 => absurd h9 (by decide)) hR hTk (by omega) hP hD hS (lv_sub hl [0, 1, 2] rfl)
                            · have n636 : ¬ (sz ≤ i2) := fun h9 => c634 ((nI_leI (a := sz) (b := i2) (by omega) (by omega)).mpr h9)
                              refine lv_aload_n hx hb dX12_cut_162 rfl (lv_at hl 2 rfl) ?_
                              refine lv_iload_n hx hb dX12_cut_163 rfl (lv_at hl 0 rfl) ?_
                              have hP : va_P G.1 pCl (mW G h0 a (upd (upd (upd (upd (upd F 4 (nI sz)) 9 (nI T)) 13 (nI us)) 14 (nI nm)) 4 (nI sz)) (updA (updA (updA (updA (updA (updA (updA B 2 g5) 3 g6) 4 g7) 5 g8) 6 g10) 7 g11) 8 g12)) _ := mW_to (F := F) (l1 := [(4, (nI sz)), (9, (nI T)), (13, (nI us)), (14, (nI nm))]) (l2 := [(4, (nI sz)), (9, (nI T)), (13, (nI us)), (14, (nI nm)), (4, (nI sz))]) (V := [(nI sz), (nI T), (nI us), (nI nm), (nI sz), (nI T), (nI us), (nI nm), (nI sz)]) rfl rfl rfl hP
                              have hD : va_D A (mW G h0 a (upd (upd (upd (upd (upd F 4 (nI sz)) 9 (nI T)) 13 (nI us)) 14 (nI nm)) 4 (nI sz)) (updA (updA (updA (updA (updA (updA (updA B 2 g5) 3 g6) 4 g7) 5 g8) 6 g10) 7 g11) 8 g12)) := mW_D hD
                              refine pc_V0 (G := G) (As := [.int (nI i2)]) (rest := []) hx hb hml hown hq hE hX pX0_al hP hD hS hA hl.1 (R_ch l G h0 a (upd (upd (upd (upd F 4 (nI sz)) 9 (nI T)) 13 (nI us)) 14 (nI nm)) (updA (updA (updA (updA (updA (updA (updA B 2 g5) 3 g6) 4 g7) 5 g8) 6 g10) 7 g11) 8 g12) i2 sz (by omega) (by omega)) (gV pw_1561 pw_1562 pw_1563 pw_1523 pw_1518) hV_X12_ch 0 9 rfl rfl rfl rfl (Nat.le_of_ble_eq_true rfl) dX12_cut_164 ⟨Nat.le_of_ble_eq_true rfl, Nat.le_of_ble_eq_true rfl⟩ ⟨Nat.le_of_ble_eq_true rfl, Nat.le_of_ble_eq_true rfl⟩ (fun v639 u637 H locs hw638 hP hD hS => ?_)
                              obtain ⟨r640, rfl⟩ : ∃ z, z = u637 := ⟨_, rfl⟩
                              obtain ⟨hw638, h641⟩ := hw638
                              have h641 : r640 = (-1) ∨ i2 < sz ∧ r640 = (B 1) i2 := h641
                              obtain rfl : v639 = some (.int r640) := hw638
                              have hP : va_P G.1 pCl (mW G h0 a (upd (upd (upd (upd F 4 (nI sz)) 9 (nI T)) 13 (nI us)) 14 (nI nm)) (updA (updA (updA (updA (updA (updA (updA B 2 g5) 3 g6) 4 g7) 5 g8) 6 g10) 7 g11) 8 g12)) _ := mW_to (F := F) (l1 := [(4, (nI sz)), (9, (nI T)), (13, (nI us)), (14, (nI nm)), (4, (nI sz))]) (l2 := [(4, (nI sz)), (9, (nI T)), (13, (nI us)), (14, (nI nm))]) (V := [(nI sz), (nI T), (nI us), (nI nm), (nI sz), (nI sz), (nI T), (nI us), (nI nm)]) rfl rfl rfl hP
                              have hD : va_D A (mW G h0 a (upd (upd (upd (upd F 4 (nI sz)) 9 (nI T)) 13 (nI us)) 14 (nI nm)) (updA (updA (updA (updA (updA (updA (updA B 2 g5) 3 g6) 4 g7) 5 g8) 6 g10) 7 g11) 8 g12)) := mW_D hD
                              refine W.widen (k := 0) (n := 0) (Nat.le_of_ble_eq_true rfl) (Nat.le_of_ble_eq_true rfl) ?_
                              refine W.eq (g2 := F0 m 167 ls [.int r640]) rfl ?_
                              refine lv_bipush (v := 10) hx hb dX12_cut_167 (by decide) ?_
                              refine lv_icmp_eq (tgt := 82) hx hb dX12_cut_169 (by decide) (fun c642 => ?_) (fun c642 => ?_)
                              · have hgt : i1 < i2 := Nat.lt_of_le_of_ne hi2 (fun e9 => by have h8 := ((h641).resolve_left (by rw [c642]; decide)).2; rw [c642, ← e9, h47.2] at h8; exact absurd h8 (by decide))
                                have hP : va_P G.1 pCl (mW G h0 a (upd (upd (upd (upd F 4 (nI sz)) 9 (nI T)) 13 (nI us)) 14 (nI nm)) (updA (updA (updA (updA (updA (updA (updA B 2 g5) 3 g6) 4 g7) 5 g8) 6 g10) 7 g11) 8 g12)) _ := hP
                                have hD : va_D A (mW G h0 a (upd (upd (upd (upd F 4 (nI sz)) 9 (nI T)) 13 (nI us)) 14 (nI nm)) (updA (updA (updA (updA (updA (updA (updA B 2 g5) 3 g6) 4 g7) 5 g8) 6 g10) 7 g11) 8 g12)) := mW_D hD
                                exact ih_o i2 i2 T nm us 1 g10 g11 g12 g5 g6 g7 g8 _ _ _ (by omega) (by omega) (Or.inl ⟨rfl, rfl⟩) (by omega) (by omega) (by omega) (by omega) (fun h9 => absurd h9 (by decide)) hR hTk (by omega) hP hD hS (lv_sub hl [0, 1, 2] rfl)
                              · refine lv_iinc (v := (nI (i2 + 1))) (lv' := [(1, .int (nI (i2 + 1))), (2, .int 1), (0, .ref h0)]) hx hb dX12_cut_172 hl (k := 0) rfl (nI_1 i2) (by decide) rfl (fun ls hl => ?_)
                                refine lv_goto (tgt := 154) hx hb dX12_cut_175 (by decide) ?_
                                have hP : va_P G.1 pCl (mW G h0 a (upd (upd (upd (upd F 4 (nI sz)) 9 (nI T)) 13 (nI us)) 14 (nI nm)) (updA (updA (updA (updA (updA (updA (updA B 2 g5) 3 g6) 4 g7) 5 g8) 6 g10) 7 g11) 8 g12)) _ := hP
                                have hD : va_D A (mW G h0 a (upd (upd (upd (upd F 4 (nI sz)) 9 (nI T)) 13 (nI us)) 14 (nI nm)) (updA (updA (updA (updA (updA (updA (updA B 2 g5) 3 g6) 4 g7) 5 g8) 6 g10) 7 g11) 8 g12)) := mW_D hD
                                exact ih_n (i2 + 1) _ _ _ (by omega) (by omega) (by omega) hP hD hS (lv_sub hl [0, 1, 2] rfl)
                        have hP : va_P G.1 pCl (mW G h0 a (upd (upd (upd (upd F 4 (nI sz)) 9 (nI T)) 13 (nI us)) 14 (nI nm)) (updA (updA (updA (updA (updA (updA (updA B 2 g5) 3 g6) 4 g7) 5 g8) 6 g10) 7 g11) 8 g12)) _ := hP
                        have hD : va_D A (mW G h0 a (upd (upd (upd (upd F 4 (nI sz)) 9 (nI T)) 13 (nI us)) 14 (nI nm)) (updA (updA (updA (updA (updA (updA (updA B 2 g5) 3 g6) 4 g7) 5 g8) 6 g10) 7 g11) 8 g12)) := mW_D hD
                        exact loop_n (sz + 1) i1 _ _ _ (by omega) (by omega) (by omega) hP hD hS (lv_sub hl [0, 1, 2] rfl)
                  · have hlt1 : i1 < sz := chin h76 (by rw [c77]; decide)
                    refine lv_iinc (v := (nI (i1 + 1))) (lv' := [(1, .int (nI (i1 + 1))), (2, .int 1), (0, .ref h0)]) hx hb dX12_cut_126 hl (k := 0) rfl (nI_1 i1) (by decide) rfl (fun ls hl => ?_)
                    refine lv_goto (tgt := 86) hx hb dX12_cut_129 (by decide) ?_
                    have hP : va_P G.1 pCl (mW G h0 a (upd (upd (upd (upd F 4 (nI sz)) 9 (nI T)) 13 (nI us)) 14 (nI nm)) (updA (updA (updA (updA (updA (updA (updA B 2 g5) 3 g6) 4 g7) 5 g8) 6 g10) 7 g11) 8 g12)) _ := hP
                    have hD : va_D A (mW G h0 a (upd (upd (upd (upd F 4 (nI sz)) 9 (nI T)) 13 (nI us)) 14 (nI nm)) (updA (updA (updA (updA (updA (updA (updA B 2 g5) 3 g6) 4 g7) 5 g8) 6 g10) 7 g11) 8 g12)) := mW_D hD
                    exact ih_b (i1 + 1) _ _ _ (by omega) (by omega) (by omega) hP hD hS (lv_sub hl [0, 1, 2] rfl)
        have hP : va_P G.1 pCl (mW G h0 a (upd (upd (upd (upd F 4 (nI sz)) 9 (nI T)) 13 (nI us)) 14 (nI nm)) (updA (updA (updA (updA (updA (updA (updA B 2 g5) 3 g6) 4 g7) 5 g8) 6 g10) 7 g11) 8 g12)) _ := hP
        have hD : va_D A (mW G h0 a (upd (upd (upd (upd F 4 (nI sz)) 9 (nI T)) 13 (nI us)) 14 (nI nm)) (updA (updA (updA (updA (updA (updA (updA B 2 g5) 3 g6) 4 g7) 5 g8) 6 g10) 7 g11) 8 g12)) := mW_D hD
        exact loop_b (sz + 1) i _ _ _ (by omega) (by omega) (by omega) hP hD hS (lv_sub hl [0, 1, 2] rfl)
  have hP : va_P G.1 pCl (mW G h0 a (upd (upd (upd (upd F 4 (nI sz)) 9 (nI 0)) 13 (nI 40)) 14 (nI 9)) (updA (updA (updA (updA (updA (updA (updA B 2 f5) 3 f6) 4 f7) 5 f8) 6 (upd (upd (upd (upd (upd (upd (upd (upd (upd f10 0 (nI 0)) 1 (nI 6)) 2 (nI 10)) 3 (nI 14)) 4 (nI 18)) 5 (nI 23)) 6 (nI 28)) 7 (nI 32)) 8 (nI 36))) 7 (upd (upd (upd (upd (upd (upd (upd (upd (upd f11 0 (nI 6)) 1 (nI 4)) 2 (nI 4)) 3 (nI 4)) 4 (nI 5)) 5 (nI 5)) 6 (nI 4)) 7 (nI 4)) 8 (nI 4))) 8 g44)) _ := mW_to (F := F) (l1 := [(4, (nI sz)), (13, (nI (36 + 4))), (14, (nI (8 + 1))), (9, 0)]) (l2 := [(4, (nI sz)), (9, (nI 0)), (13, (nI 40)), (14, (nI 9))]) (V := [(nI sz), (nI 40), (nI 9), (nI 0), (nI sz), (nI 0), (nI 40), (nI 9)]) rfl rfl rfl hP
  have hD : va_D A (mW G h0 a (upd (upd (upd (upd F 4 (nI sz)) 9 (nI 0)) 13 (nI 40)) 14 (nI 9)) (updA (updA (updA (updA (updA (updA (updA B 2 f5) 3 f6) 4 f7) 5 f8) 6 (upd (upd (upd (upd (upd (upd (upd (upd (upd f10 0 (nI 0)) 1 (nI 6)) 2 (nI 10)) 3 (nI 14)) 4 (nI 18)) 5 (nI 23)) 6 (nI 28)) 7 (nI 32)) 8 (nI 36))) 7 (upd (upd (upd (upd (upd (upd (upd (upd (upd f11 0 (nI 6)) 1 (nI 4)) 2 (nI 4)) 3 (nI 4)) 4 (nI 5)) 5 (nI 5)) 6 (nI 4)) 7 (nI 4)) 8 (nI 4))) 8 g44)) := mW_D hD
  exact loop_o ((sz + 1) + 1) 0 0 0 9 40 1 (upd (upd (upd (upd (upd (upd (upd (upd (upd f10 0 (nI 0)) 1 (nI 6)) 2 (nI 10)) 3 (nI 14)) 4 (nI 18)) 5 (nI 23)) 6 (nI 28)) 7 (nI 32)) 8 (nI 36)) (upd (upd (upd (upd (upd (upd (upd (upd (upd f11 0 (nI 6)) 1 (nI 4)) 2 (nI 4)) 3 (nI 4)) 4 (nI 5)) 5 (nI 5)) 6 (nI 4)) 7 (nI 4)) 8 (nI 4)) g44 f5 f6 f7 f8 _ _ _ (by omega) (by omega) (Or.inl ⟨rfl, rfl⟩) (by omega) (by omega) (by omega) (by omega) (fun h9 => absurd h9 (by decide)) hR45 (fun t ht => absurd ht (Nat.not_lt_zero _)) (by omega) hP hD hS (lv_sub hl [1, 0, 2] rfl)

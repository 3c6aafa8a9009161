/-- a NAME's value is a name's number -/
def rTk (T nm : Nat) (f5 f8 : Nat → Int32) : Prop := ∀ t : Nat, t < T → f5 t = 1 → ∃ k : Nat, k < nm ∧ f8 t = nI k
theorem rTk_upd {T nm nm1 : Nat} {f5 f8 : Nat → Int32} {x y : Int32} (h : rTk T nm f5 f8) (hn : nm ≤ nm1) (hx : x = 1 → ∃ k : Nat, k < nm1 ∧ y = nI k) : rTk (T + 1) nm1 (upd f5 T x) (upd f8 T y) := fun t ht => by
  unfold upd
  by_cases e : t = T
  · rw [if_pos e, if_pos e]; exact hx
  · rw [if_neg e, if_neg e]
    intro h5
    obtain ⟨k, hk, e8⟩ := h t (by omega) h5
    exact ⟨k, by omega, e8⟩
theorem rTk_up2 {T nm nm1 : Nat} {f5 f8 : Nat → Int32} {x y : Int32} (h : rTk T nm f5 f8) (hn : nm ≤ nm1) : rTk T nm1 (upd f5 T x) (upd f8 T y) := fun t ht => by
  unfold upd
  rw [if_neg (by omega), if_neg (by omega)]
  intro h5
  obtain ⟨k, hk, e8⟩ := h t ht h5
  exact ⟨k, by omega, e8⟩
theorem dX12_cut_0 : decode cX12_cut 0 = .ok (.aload_n 0, 1) := by decide +kernel
theorem dX12_cut_1 : decode cX12_cut 1 = .ok (.iconst 0, 1) := by decide +kernel
theorem dX12_cut_2 : decode cX12_cut 2 = .ok (.putfield 277, 3) := by decide +kernel
theorem dX12_cut_5 : decode cX12_cut 5 = .ok (.aload_n 0, 1) := by decide +kernel
theorem dX12_cut_6 : decode cX12_cut 6 = .ok (.iconst 0, 1) := by decide +kernel
theorem dX12_cut_7 : decode cX12_cut 7 = .ok (.putfield 280, 3) := by decide +kernel
theorem dX12_cut_10 : decode cX12_cut 10 = .ok (.aload_n 0, 1) := by decide +kernel
theorem dX12_cut_11 : decode cX12_cut 11 = .ok (.ldc_w 292, 3) := by decide +kernel
theorem dX12_cut_14 : decode cX12_cut 14 = .ok (.invokevirtual 294, 3) := by decide +kernel
theorem dX12_cut_17 : decode cX12_cut 17 = .ok (.aload_n 0, 1) := by decide +kernel
theorem dX12_cut_18 : decode cX12_cut 18 = .ok (.ldc_w 298, 3) := by decide +kernel
theorem dX12_cut_21 : decode cX12_cut 21 = .ok (.invokevirtual 294, 3) := by decide +kernel
theorem dX12_cut_24 : decode cX12_cut 24 = .ok (.aload_n 0, 1) := by decide +kernel
theorem dX12_cut_25 : decode cX12_cut 25 = .ok (.ldc_w 300, 3) := by decide +kernel
theorem dX12_cut_28 : decode cX12_cut 28 = .ok (.invokevirtual 294, 3) := by decide +kernel
theorem dX12_cut_31 : decode cX12_cut 31 = .ok (.aload_n 0, 1) := by decide +kernel
theorem dX12_cut_32 : decode cX12_cut 32 = .ok (.ldc_w 302, 3) := by decide +kernel
theorem dX12_cut_35 : decode cX12_cut 35 = .ok (.invokevirtual 294, 3) := by decide +kernel
theorem dX12_cut_38 : decode cX12_cut 38 = .ok (.aload_n 0, 1) := by decide +kernel
theorem dX12_cut_39 : decode cX12_cut 39 = .ok (.ldc_w 304, 3) := by decide +kernel
theorem dX12_cut_42 : decode cX12_cut 42 = .ok (.invokevirtual 294, 3) := by decide +kernel
theorem dX12_cut_45 : decode cX12_cut 45 = .ok (.aload_n 0, 1) := by decide +kernel
theorem dX12_cut_46 : decode cX12_cut 46 = .ok (.ldc_w 306, 3) := by decide +kernel
theorem dX12_cut_49 : decode cX12_cut 49 = .ok (.invokevirtual 294, 3) := by decide +kernel
theorem dX12_cut_52 : decode cX12_cut 52 = .ok (.aload_n 0, 1) := by decide +kernel
theorem dX12_cut_53 : decode cX12_cut 53 = .ok (.ldc_w 308, 3) := by decide +kernel
theorem dX12_cut_56 : decode cX12_cut 56 = .ok (.invokevirtual 294, 3) := by decide +kernel
theorem dX12_cut_59 : decode cX12_cut 59 = .ok (.aload_n 0, 1) := by decide +kernel
theorem dX12_cut_60 : decode cX12_cut 60 = .ok (.ldc_w 310, 3) := by decide +kernel
theorem dX12_cut_63 : decode cX12_cut 63 = .ok (.invokevirtual 294, 3) := by decide +kernel
theorem dX12_cut_66 : decode cX12_cut 66 = .ok (.aload_n 0, 1) := by decide +kernel
theorem dX12_cut_67 : decode cX12_cut 67 = .ok (.ldc_w 312, 3) := by decide +kernel
theorem dX12_cut_70 : decode cX12_cut 70 = .ok (.invokevirtual 294, 3) := by decide +kernel
theorem dX12_cut_73 : decode cX12_cut 73 = .ok (.aload_n 0, 1) := by decide +kernel
theorem dX12_cut_74 : decode cX12_cut 74 = .ok (.iconst 0, 1) := by decide +kernel
theorem dX12_cut_75 : decode cX12_cut 75 = .ok (.putfield 314, 3) := by decide +kernel
theorem dX12_cut_78 : decode cX12_cut 78 = .ok (.iconst 0, 1) := by decide +kernel
theorem dX12_cut_79 : decode cX12_cut 79 = .ok (.istore_n 1, 1) := by decide +kernel
theorem dX12_cut_80 : decode cX12_cut 80 = .ok (.iconst 1, 1) := by decide +kernel
theorem dX12_cut_81 : decode cX12_cut 81 = .ok (.istore_n 2, 1) := by decide +kernel
theorem dX12_cut_82 : decode cX12_cut 82 = .ok (.iload_n 2, 1) := by decide +kernel
theorem dX12_cut_83 : decode cX12_cut 83 = .ok (.ifCond .eq 471, 3) := by decide +kernel
theorem dX12_cut_554 : decode cX12_cut 554 = .ok (.return_, 1) := by decide +kernel
theorem dX12_cut_86 : decode cX12_cut 86 = .ok (.aload_n 0, 1) := by decide +kernel
theorem dX12_cut_87 : decode cX12_cut 87 = .ok (.iload_n 1, 1) := by decide +kernel
theorem dX12_cut_88 : decode cX12_cut 88 = .ok (.invokevirtual 283, 3) := by decide +kernel
theorem dX12_cut_91 : decode cX12_cut 91 = .ok (.bipush 9, 2) := by decide +kernel
theorem dX12_cut_93 : decode cX12_cut 93 = .ok (.if_icmp .eq 33, 3) := by decide +kernel
theorem dX12_cut_126 : decode cX12_cut 126 = .ok (.iinc 1 1, 3) := by decide +kernel
theorem dX12_cut_129 : decode cX12_cut 129 = .ok (.goto (-43), 3) := by decide +kernel
theorem dX12_cut_96 : decode cX12_cut 96 = .ok (.aload_n 0, 1) := by decide +kernel
theorem dX12_cut_97 : decode cX12_cut 97 = .ok (.iload_n 1, 1) := by decide +kernel
theorem dX12_cut_98 : decode cX12_cut 98 = .ok (.invokevirtual 283, 3) := by decide +kernel
theorem dX12_cut_101 : decode cX12_cut 101 = .ok (.bipush 10, 2) := by decide +kernel
theorem dX12_cut_103 : decode cX12_cut 103 = .ok (.if_icmp .eq 23, 3) := by decide +kernel
theorem dX12_cut_106 : decode cX12_cut 106 = .ok (.aload_n 0, 1) := by decide +kernel
theorem dX12_cut_107 : decode cX12_cut 107 = .ok (.iload_n 1, 1) := by decide +kernel
theorem dX12_cut_108 : decode cX12_cut 108 = .ok (.invokevirtual 283, 3) := by decide +kernel
theorem dX12_cut_111 : decode cX12_cut 111 = .ok (.bipush 13, 2) := by decide +kernel
theorem dX12_cut_113 : decode cX12_cut 113 = .ok (.if_icmp .eq 13, 3) := by decide +kernel
theorem dX12_cut_116 : decode cX12_cut 116 = .ok (.aload_n 0, 1) := by decide +kernel
theorem dX12_cut_117 : decode cX12_cut 117 = .ok (.iload_n 1, 1) := by decide +kernel
theorem dX12_cut_118 : decode cX12_cut 118 = .ok (.invokevirtual 283, 3) := by decide +kernel
theorem dX12_cut_121 : decode cX12_cut 121 = .ok (.bipush 32, 2) := by decide +kernel
theorem dX12_cut_123 : decode cX12_cut 123 = .ok (.if_icmp .ne 9, 3) := by decide +kernel
theorem dX12_cut_132 : decode cX12_cut 132 = .ok (.aload_n 0, 1) := by decide +kernel
theorem dX12_cut_133 : decode cX12_cut 133 = .ok (.iload_n 1, 1) := by decide +kernel
theorem dX12_cut_134 : decode cX12_cut 134 = .ok (.invokevirtual 283, 3) := by decide +kernel
theorem dX12_cut_137 : decode cX12_cut 137 = .ok (.bipush 47, 2) := by decide +kernel
theorem dX12_cut_139 : decode cX12_cut 139 = .ok (.if_icmp .ne 39, 3) := by decide +kernel
theorem dX12_cut_472 : decode cX12_cut 472 = .ok (.aload_n 0, 1) := by decide +kernel
theorem dX12_cut_473 : decode cX12_cut 473 = .ok (.getfield 16, 3) := by decide +kernel
theorem dX12_cut_476 : decode cX12_cut 476 = .ok (.aload_n 0, 1) := by decide +kernel
theorem dX12_cut_477 : decode cX12_cut 477 = .ok (.getfield 314, 3) := by decide +kernel
theorem dX12_cut_480 : decode cX12_cut 480 = .ok (.iload 4, 2) := by decide +kernel
theorem dX12_cut_482 : decode cX12_cut 482 = .ok (.iastore, 1) := by decide +kernel
theorem dX12_cut_483 : decode cX12_cut 483 = .ok (.aload_n 0, 1) := by decide +kernel
theorem dX12_cut_484 : decode cX12_cut 484 = .ok (.getfield 19, 3) := by decide +kernel
theorem dX12_cut_487 : decode cX12_cut 487 = .ok (.aload_n 0, 1) := by decide +kernel
theorem dX12_cut_488 : decode cX12_cut 488 = .ok (.getfield 314, 3) := by decide +kernel
theorem dX12_cut_491 : decode cX12_cut 491 = .ok (.iload_n 1, 1) := by decide +kernel
theorem dX12_cut_492 : decode cX12_cut 492 = .ok (.iastore, 1) := by decide +kernel
theorem dX12_cut_493 : decode cX12_cut 493 = .ok (.aload_n 0, 1) := by decide +kernel
theorem dX12_cut_494 : decode cX12_cut 494 = .ok (.getfield 22, 3) := by decide +kernel
theorem dX12_cut_497 : decode cX12_cut 497 = .ok (.aload_n 0, 1) := by decide +kernel
theorem dX12_cut_498 : decode cX12_cut 498 = .ok (.getfield 314, 3) := by decide +kernel
theorem dX12_cut_501 : decode cX12_cut 501 = .ok (.iload_n 3, 1) := by decide +kernel
theorem dX12_cut_502 : decode cX12_cut 502 = .ok (.iastore, 1) := by decide +kernel
theorem dX12_cut_503 : decode cX12_cut 503 = .ok (.aload_n 0, 1) := by decide +kernel
theorem dX12_cut_504 : decode cX12_cut 504 = .ok (.getfield 25, 3) := by decide +kernel
theorem dX12_cut_507 : decode cX12_cut 507 = .ok (.aload_n 0, 1) := by decide +kernel
theorem dX12_cut_508 : decode cX12_cut 508 = .ok (.getfield 314, 3) := by decide +kernel
theorem dX12_cut_511 : decode cX12_cut 511 = .ok (.iload 5, 2) := by decide +kernel
theorem dX12_cut_513 : decode cX12_cut 513 = .ok (.iastore, 1) := by decide +kernel
theorem dX12_cut_514 : decode cX12_cut 514 = .ok (.iload 4, 2) := by decide +kernel
theorem dX12_cut_516 : decode cX12_cut 516 = .ok (.ifCond .eq 13, 3) := by decide +kernel
theorem dX12_cut_529 : decode cX12_cut 529 = .ok (.iconst 0, 1) := by decide +kernel
theorem dX12_cut_530 : decode cX12_cut 530 = .ok (.istore_n 2, 1) := by decide +kernel
theorem dX12_cut_531 : decode cX12_cut 531 = .ok (.aload_n 0, 1) := by decide +kernel
theorem dX12_cut_532 : decode cX12_cut 532 = .ok (.dup, 1) := by decide +kernel
theorem dX12_cut_533 : decode cX12_cut 533 = .ok (.getfield 314, 3) := by decide +kernel
theorem dX12_cut_536 : decode cX12_cut 536 = .ok (.iload_n 2, 1) := by decide +kernel
theorem dX12_cut_537 : decode cX12_cut 537 = .ok (.ifCond .eq 7, 3) := by decide +kernel
theorem dX12_cut_544 : decode cX12_cut 544 = .ok (.iconst 0, 1) := by decide +kernel
theorem dX12_cut_545 : decode cX12_cut 545 = .ok (.iadd, 1) := by decide +kernel
theorem dX12_cut_546 : decode cX12_cut 546 = .ok (.putfield 314, 3) := by decide +kernel
theorem dX12_cut_549 : decode cX12_cut 549 = .ok (.iload_n 3, 1) := by decide +kernel
theorem dX12_cut_550 : decode cX12_cut 550 = .ok (.istore_n 1, 1) := by decide +kernel
theorem dX12_cut_551 : decode cX12_cut 551 = .ok (.goto (-469), 3) := by decide +kernel
theorem dX12_cut_519 : decode cX12_cut 519 = .ok (.iload 4, 2) := by decide +kernel
theorem dX12_cut_521 : decode cX12_cut 521 = .ok (.iconst 3, 1) := by decide +kernel
theorem dX12_cut_522 : decode cX12_cut 522 = .ok (.if_icmp .eq 7, 3) := by decide +kernel
theorem dX12_cut_525 : decode cX12_cut 525 = .ok (.iconst 1, 1) := by decide +kernel
theorem dX12_cut_526 : decode cX12_cut 526 = .ok (.goto 4, 3) := by decide +kernel
theorem dX12_cut_540 : decode cX12_cut 540 = .ok (.iconst 1, 1) := by decide +kernel
theorem dX12_cut_541 : decode cX12_cut 541 = .ok (.goto 4, 3) := by decide +kernel
theorem dX12_cut_178 : decode cX12_cut 178 = .ok (.iload_n 1, 1) := by decide +kernel
theorem dX12_cut_179 : decode cX12_cut 179 = .ok (.iconst 1, 1) := by decide +kernel
theorem dX12_cut_180 : decode cX12_cut 180 = .ok (.iadd, 1) := by decide +kernel
theorem dX12_cut_181 : decode cX12_cut 181 = .ok (.istore_n 3, 1) := by decide +kernel
theorem dX12_cut_182 : decode cX12_cut 182 = .ok (.iconst 0, 1) := by decide +kernel
theorem dX12_cut_183 : decode cX12_cut 183 = .ok (.istore 4, 2) := by decide +kernel
theorem dX12_cut_185 : decode cX12_cut 185 = .ok (.iconst 0, 1) := by decide +kernel
theorem dX12_cut_186 : decode cX12_cut 186 = .ok (.istore 5, 2) := by decide +kernel
theorem dX12_cut_188 : decode cX12_cut 188 = .ok (.iload_n 1, 1) := by decide +kernel
theorem dX12_cut_189 : decode cX12_cut 189 = .ok (.aload_n 0, 1) := by decide +kernel
theorem dX12_cut_190 : decode cX12_cut 190 = .ok (.getfield 258, 3) := by decide +kernel
theorem dX12_cut_193 : decode cX12_cut 193 = .ok (.if_icmp .lt 8, 3) := by decide +kernel
theorem dX12_cut_201 : decode cX12_cut 201 = .ok (.aload_n 0, 1) := by decide +kernel
theorem dX12_cut_202 : decode cX12_cut 202 = .ok (.iload_n 1, 1) := by decide +kernel
theorem dX12_cut_203 : decode cX12_cut 203 = .ok (.invokevirtual 283, 3) := by decide +kernel
theorem dX12_cut_206 : decode cX12_cut 206 = .ok (.invokestatic 317, 3) := by decide +kernel
theorem dX12_cut_209 : decode cX12_cut 209 = .ok (.ifCond .eq 76, 3) := by decide +kernel
theorem dX12_cut_285 : decode cX12_cut 285 = .ok (.aload_n 0, 1) := by decide +kernel
theorem dX12_cut_286 : decode cX12_cut 286 = .ok (.iload_n 1, 1) := by decide +kernel
theorem dX12_cut_287 : decode cX12_cut 287 = .ok (.invokevirtual 283, 3) := by decide +kernel
theorem dX12_cut_290 : decode cX12_cut 290 = .ok (.invokestatic 321, 3) := by decide +kernel
theorem dX12_cut_293 : decode cX12_cut 293 = .ok (.ifCond .eq 140, 3) := by decide +kernel
theorem dX12_cut_433 : decode cX12_cut 433 = .ok (.aload_n 0, 1) := by decide +kernel
theorem dX12_cut_434 : decode cX12_cut 434 = .ok (.iload_n 1, 1) := by decide +kernel
theorem dX12_cut_435 : decode cX12_cut 435 = .ok (.invokevirtual 337, 3) := by decide +kernel
theorem dX12_cut_438 : decode cX12_cut 438 = .ok (.istore 4, 2) := by decide +kernel
theorem dX12_cut_440 : decode cX12_cut 440 = .ok (.iload 4, 2) := by decide +kernel
theorem dX12_cut_442 : decode cX12_cut 442 = .ok (.sipush 264, 3) := by decide +kernel
theorem dX12_cut_445 : decode cX12_cut 445 = .ok (.if_icmp .ne 9, 3) := by decide +kernel
theorem dX12_cut_454 : decode cX12_cut 454 = .ok (.iload 4, 2) := by decide +kernel
theorem dX12_cut_456 : decode cX12_cut 456 = .ok (.sipush 256, 3) := by decide +kernel
theorem dX12_cut_459 : decode cX12_cut 459 = .ok (.if_icmp .lt 9, 3) := by decide +kernel
theorem dX12_cut_468 : decode cX12_cut 468 = .ok (.iload_n 1, 1) := by decide +kernel
theorem dX12_cut_469 : decode cX12_cut 469 = .ok (.iconst 1, 1) := by decide +kernel
theorem dX12_cut_470 : decode cX12_cut 470 = .ok (.iadd, 1) := by decide +kernel
theorem dX12_cut_471 : decode cX12_cut 471 = .ok (.istore_n 3, 1) := by decide +kernel
theorem dX12_cut_462 : decode cX12_cut 462 = .ok (.iload_n 1, 1) := by decide +kernel
theorem dX12_cut_463 : decode cX12_cut 463 = .ok (.iconst 2, 1) := by decide +kernel
theorem dX12_cut_464 : decode cX12_cut 464 = .ok (.iadd, 1) := by decide +kernel
theorem dX12_cut_465 : decode cX12_cut 465 = .ok (.goto 6, 3) := by decide +kernel
theorem dX12_cut_448 : decode cX12_cut 448 = .ok (.iload_n 1, 1) := by decide +kernel
theorem dX12_cut_449 : decode cX12_cut 449 = .ok (.iconst 3, 1) := by decide +kernel
theorem dX12_cut_450 : decode cX12_cut 450 = .ok (.iadd, 1) := by decide +kernel
theorem dX12_cut_451 : decode cX12_cut 451 = .ok (.goto 20, 3) := by decide +kernel
theorem dX12_cut_296 : decode cX12_cut 296 = .ok (.lconst 0, 1) := by decide +kernel
theorem dX12_cut_297 : decode cX12_cut 297 = .ok (.lstore 6, 2) := by decide +kernel
theorem dX12_cut_299 : decode cX12_cut 299 = .ok (.aload_n 0, 1) := by decide +kernel
theorem dX12_cut_300 : decode cX12_cut 300 = .ok (.iload_n 3, 1) := by decide +kernel
theorem dX12_cut_301 : decode cX12_cut 301 = .ok (.invokevirtual 283, 3) := by decide +kernel
theorem dX12_cut_304 : decode cX12_cut 304 = .ok (.invokestatic 317, 3) := by decide +kernel
theorem dX12_cut_307 : decode cX12_cut 307 = .ok (.ifCond .ne 14, 3) := by decide +kernel
theorem dX12_cut_321 : decode cX12_cut 321 = .ok (.iinc 3 1, 3) := by decide +kernel
theorem dX12_cut_324 : decode cX12_cut 324 = .ok (.goto (-25), 3) := by decide +kernel
theorem dX12_cut_310 : decode cX12_cut 310 = .ok (.aload_n 0, 1) := by decide +kernel
theorem dX12_cut_311 : decode cX12_cut 311 = .ok (.iload_n 3, 1) := by decide +kernel
theorem dX12_cut_312 : decode cX12_cut 312 = .ok (.invokevirtual 283, 3) := by decide +kernel
theorem dX12_cut_315 : decode cX12_cut 315 = .ok (.invokestatic 321, 3) := by decide +kernel
theorem dX12_cut_318 : decode cX12_cut 318 = .ok (.ifCond .eq 9, 3) := by decide +kernel
theorem dX12_cut_327 : decode cX12_cut 327 = .ok (.iload_n 3, 1) := by decide +kernel
theorem dX12_cut_328 : decode cX12_cut 328 = .ok (.iload_n 1, 1) := by decide +kernel
theorem dX12_cut_329 : decode cX12_cut 329 = .ok (.isub, 1) := by decide +kernel
theorem dX12_cut_330 : decode cX12_cut 330 = .ok (.bipush 10, 2) := by decide +kernel
theorem dX12_cut_332 : decode cX12_cut 332 = .ok (.if_icmp .le 7, 3) := by decide +kernel
theorem dX12_cut_339 : decode cX12_cut 339 = .ok (.iconst 2, 1) := by decide +kernel
theorem dX12_cut_340 : decode cX12_cut 340 = .ok (.istore 4, 2) := by decide +kernel
theorem dX12_cut_342 : decode cX12_cut 342 = .ok (.iload_n 1, 1) := by decide +kernel
theorem dX12_cut_343 : decode cX12_cut 343 = .ok (.istore 8, 2) := by decide +kernel
theorem dX12_cut_345 : decode cX12_cut 345 = .ok (.iload 4, 2) := by decide +kernel
theorem dX12_cut_347 : decode cX12_cut 347 = .ok (.iconst 2, 1) := by decide +kernel
theorem dX12_cut_348 : decode cX12_cut 348 = .ok (.if_icmp .ne 54, 3) := by decide +kernel
theorem dX12_cut_402 : decode cX12_cut 402 = .ok (.iload 4, 2) := by decide +kernel
theorem dX12_cut_404 : decode cX12_cut 404 = .ok (.iconst 2, 1) := by decide +kernel
theorem dX12_cut_405 : decode cX12_cut 405 = .ok (.if_icmp .ne 16, 3) := by decide +kernel
theorem dX12_cut_421 : decode cX12_cut 421 = .ok (.iload 4, 2) := by decide +kernel
theorem dX12_cut_423 : decode cX12_cut 423 = .ok (.istore 4, 2) := by decide +kernel
theorem dX12_cut_425 : decode cX12_cut 425 = .ok (.lload 6, 2) := by decide +kernel
theorem dX12_cut_427 : decode cX12_cut 427 = .ok (.l2i, 1) := by decide +kernel
theorem dX12_cut_428 : decode cX12_cut 428 = .ok (.istore 5, 2) := by decide +kernel
theorem dX12_cut_430 : decode cX12_cut 430 = .ok (.goto 42, 3) := by decide +kernel
theorem dX12_cut_408 : decode cX12_cut 408 = .ok (.lload 6, 2) := by decide +kernel
theorem dX12_cut_410 : decode cX12_cut 410 = .ok (.ldc2_w 335, 3) := by decide +kernel
theorem dX12_cut_413 : decode cX12_cut 413 = .ok (.lcmp, 1) := by decide +kernel
theorem dX12_cut_414 : decode cX12_cut 414 = .ok (.ifCond .le 7, 3) := by decide +kernel
theorem dX12_cut_417 : decode cX12_cut 417 = .ok (.iconst 3, 1) := by decide +kernel
theorem dX12_cut_418 : decode cX12_cut 418 = .ok (.goto 5, 3) := by decide +kernel
theorem dX12_cut_351 : decode cX12_cut 351 = .ok (.iload 8, 2) := by decide +kernel
theorem dX12_cut_353 : decode cX12_cut 353 = .ok (.iload_n 3, 1) := by decide +kernel
theorem dX12_cut_354 : decode cX12_cut 354 = .ok (.if_icmp .ge 48, 3) := by decide +kernel
theorem dX12_cut_357 : decode cX12_cut 357 = .ok (.aload_n 0, 1) := by decide +kernel
theorem dX12_cut_358 : decode cX12_cut 358 = .ok (.iload 8, 2) := by decide +kernel
theorem dX12_cut_360 : decode cX12_cut 360 = .ok (.invokevirtual 283, 3) := by decide +kernel
theorem dX12_cut_363 : decode cX12_cut 363 = .ok (.invokestatic 321, 3) := by decide +kernel
theorem dX12_cut_366 : decode cX12_cut 366 = .ok (.ifCond .eq 7, 3) := by decide +kernel
theorem dX12_cut_373 : decode cX12_cut 373 = .ok (.iconst 3, 1) := by decide +kernel
theorem dX12_cut_374 : decode cX12_cut 374 = .ok (.istore 4, 2) := by decide +kernel
theorem dX12_cut_376 : decode cX12_cut 376 = .ok (.ldc2_w 331, 3) := by decide +kernel
theorem dX12_cut_379 : decode cX12_cut 379 = .ok (.lload 6, 2) := by decide +kernel
theorem dX12_cut_381 : decode cX12_cut 381 = .ok (.lmul, 1) := by decide +kernel
theorem dX12_cut_382 : decode cX12_cut 382 = .ok (.aload_n 0, 1) := by decide +kernel
theorem dX12_cut_383 : decode cX12_cut 383 = .ok (.iload 8, 2) := by decide +kernel
theorem dX12_cut_385 : decode cX12_cut 385 = .ok (.invokevirtual 283, 3) := by decide +kernel
theorem dX12_cut_388 : decode cX12_cut 388 = .ok (.i2l, 1) := by decide +kernel
theorem dX12_cut_389 : decode cX12_cut 389 = .ok (.ladd, 1) := by decide +kernel
theorem dX12_cut_390 : decode cX12_cut 390 = .ok (.ldc2_w 333, 3) := by decide +kernel
theorem dX12_cut_393 : decode cX12_cut 393 = .ok (.lsub, 1) := by decide +kernel
theorem dX12_cut_394 : decode cX12_cut 394 = .ok (.lstore 6, 2) := by decide +kernel
theorem dX12_cut_396 : decode cX12_cut 396 = .ok (.iinc 8 1, 3) := by decide +kernel
theorem dX12_cut_399 : decode cX12_cut 399 = .ok (.goto (-54), 3) := by decide +kernel
theorem dX12_cut_369 : decode cX12_cut 369 = .ok (.iconst 2, 1) := by decide +kernel
theorem dX12_cut_370 : decode cX12_cut 370 = .ok (.goto 4, 3) := by decide +kernel
theorem dX12_cut_335 : decode cX12_cut 335 = .ok (.iconst 3, 1) := by decide +kernel
theorem dX12_cut_336 : decode cX12_cut 336 = .ok (.goto 4, 3) := by decide +kernel
theorem dX12_cut_212 : decode cX12_cut 212 = .ok (.aload_n 0, 1) := by decide +kernel
theorem dX12_cut_213 : decode cX12_cut 213 = .ok (.iload_n 3, 1) := by decide +kernel
theorem dX12_cut_214 : decode cX12_cut 214 = .ok (.invokevirtual 283, 3) := by decide +kernel
theorem dX12_cut_217 : decode cX12_cut 217 = .ok (.invokestatic 317, 3) := by decide +kernel
theorem dX12_cut_220 : decode cX12_cut 220 = .ok (.ifCond .ne 14, 3) := by decide +kernel
theorem dX12_cut_234 : decode cX12_cut 234 = .ok (.iinc 3 1, 3) := by decide +kernel
theorem dX12_cut_237 : decode cX12_cut 237 = .ok (.goto (-25), 3) := by decide +kernel
theorem dX12_cut_223 : decode cX12_cut 223 = .ok (.aload_n 0, 1) := by decide +kernel
theorem dX12_cut_224 : decode cX12_cut 224 = .ok (.iload_n 3, 1) := by decide +kernel
theorem dX12_cut_225 : decode cX12_cut 225 = .ok (.invokevirtual 283, 3) := by decide +kernel
theorem dX12_cut_228 : decode cX12_cut 228 = .ok (.invokestatic 321, 3) := by decide +kernel
theorem dX12_cut_231 : decode cX12_cut 231 = .ok (.ifCond .eq 9, 3) := by decide +kernel
theorem dX12_cut_240 : decode cX12_cut 240 = .ok (.aload_n 0, 1) := by decide +kernel
theorem dX12_cut_241 : decode cX12_cut 241 = .ok (.iload_n 1, 1) := by decide +kernel
theorem dX12_cut_242 : decode cX12_cut 242 = .ok (.iload_n 3, 1) := by decide +kernel
theorem dX12_cut_243 : decode cX12_cut 243 = .ok (.invokevirtual 324, 3) := by decide +kernel
theorem dX12_cut_246 : decode cX12_cut 246 = .ok (.istore 4, 2) := by decide +kernel
theorem dX12_cut_248 : decode cX12_cut 248 = .ok (.iload 4, 2) := by decide +kernel
theorem dX12_cut_250 : decode cX12_cut 250 = .ok (.iconst 1, 1) := by decide +kernel
theorem dX12_cut_251 : decode cX12_cut 251 = .ok (.if_icmp .ne 17, 3) := by decide +kernel
theorem dX12_cut_268 : decode cX12_cut 268 = .ok (.iload 4, 2) := by decide +kernel
theorem dX12_cut_270 : decode cX12_cut 270 = .ok (.iconst 1, 1) := by decide +kernel
theorem dX12_cut_271 : decode cX12_cut 271 = .ok (.if_icmp .ne 201, 3) := by decide +kernel
theorem dX12_cut_274 : decode cX12_cut 274 = .ok (.aload_n 0, 1) := by decide +kernel
theorem dX12_cut_275 : decode cX12_cut 275 = .ok (.iload_n 1, 1) := by decide +kernel
theorem dX12_cut_276 : decode cX12_cut 276 = .ok (.iload_n 3, 1) := by decide +kernel
theorem dX12_cut_277 : decode cX12_cut 277 = .ok (.invokevirtual 328, 3) := by decide +kernel
theorem dX12_cut_280 : decode cX12_cut 280 = .ok (.istore 5, 2) := by decide +kernel
theorem dX12_cut_282 : decode cX12_cut 282 = .ok (.goto 190, 3) := by decide +kernel
theorem dX12_cut_254 : decode cX12_cut 254 = .ok (.iload_n 3, 1) := by decide +kernel
theorem dX12_cut_255 : decode cX12_cut 255 = .ok (.iload_n 1, 1) := by decide +kernel
theorem dX12_cut_256 : decode cX12_cut 256 = .ok (.isub, 1) := by decide +kernel
theorem dX12_cut_257 : decode cX12_cut 257 = .ok (.bipush 16, 2) := by decide +kernel
theorem dX12_cut_259 : decode cX12_cut 259 = .ok (.if_icmp .le 9, 3) := by decide +kernel
theorem dX12_cut_262 : decode cX12_cut 262 = .ok (.iconst 3, 1) := by decide +kernel
theorem dX12_cut_263 : decode cX12_cut 263 = .ok (.istore 4, 2) := by decide +kernel
theorem dX12_cut_265 : decode cX12_cut 265 = .ok (.goto 207, 3) := by decide +kernel
theorem dX12_cut_196 : decode cX12_cut 196 = .ok (.iload_n 1, 1) := by decide +kernel
theorem dX12_cut_197 : decode cX12_cut 197 = .ok (.istore_n 3, 1) := by decide +kernel
theorem dX12_cut_198 : decode cX12_cut 198 = .ok (.goto 274, 3) := by decide +kernel
theorem dX12_cut_142 : decode cX12_cut 142 = .ok (.aload_n 0, 1) := by decide +kernel
theorem dX12_cut_143 : decode cX12_cut 143 = .ok (.iload_n 1, 1) := by decide +kernel
theorem dX12_cut_144 : decode cX12_cut 144 = .ok (.iconst 1, 1) := by decide +kernel
theorem dX12_cut_145 : decode cX12_cut 145 = .ok (.iadd, 1) := by decide +kernel
theorem dX12_cut_146 : decode cX12_cut 146 = .ok (.invokevirtual 283, 3) := by decide +kernel
theorem dX12_cut_149 : decode cX12_cut 149 = .ok (.bipush 47, 2) := by decide +kernel
theorem dX12_cut_151 : decode cX12_cut 151 = .ok (.if_icmp .ne 27, 3) := by decide +kernel
theorem dX12_cut_154 : decode cX12_cut 154 = .ok (.iload_n 1, 1) := by decide +kernel
theorem dX12_cut_155 : decode cX12_cut 155 = .ok (.aload_n 0, 1) := by decide +kernel
theorem dX12_cut_156 : decode cX12_cut 156 = .ok (.getfield 258, 3) := by decide +kernel
theorem dX12_cut_159 : decode cX12_cut 159 = .ok (.if_icmp .ge (-77), 3) := by decide +kernel
theorem dX12_cut_162 : decode cX12_cut 162 = .ok (.aload_n 0, 1) := by decide +kernel
theorem dX12_cut_163 : decode cX12_cut 163 = .ok (.iload_n 1, 1) := by decide +kernel
theorem dX12_cut_164 : decode cX12_cut 164 = .ok (.invokevirtual 283, 3) := by decide +kernel
theorem dX12_cut_167 : decode cX12_cut 167 = .ok (.bipush 10, 2) := by decide +kernel
theorem dX12_cut_169 : decode cX12_cut 169 = .ok (.if_icmp .eq (-87), 3) := by decide +kernel
theorem dX12_cut_172 : decode cX12_cut 172 = .ok (.iinc 1 1, 3) := by decide +kernel
theorem dX12_cut_175 : decode cX12_cut 175 = .ok (.goto (-21), 3) := by decide +kernel
theorem hV_X12_built : yX12_built.cls = RX12 ∧ yX12_built.cls ≠ "java/lang/invoke/MethodHandle" ∧ yX12_built.cls ≠ "java/lang/invoke/VarHandle" ∧ (parseMethodDescriptor yX12_built.desc).map (fun d => d.parameters.length) = some 1 := by decide +kernel
theorem hS_X12_isLetter : yX12_isLetter.cls ≠ "java/lang/invoke/MethodHandle" ∧ yX12_isLetter.cls ≠ "java/lang/invoke/VarHandle" ∧ (parseMethodDescriptor yX12_isLetter.desc).map (fun d => d.parameters.length) = some 1 := by decide +kernel
theorem hS_X12_isDigit : yX12_isDigit.cls ≠ "java/lang/invoke/MethodHandle" ∧ yX12_isDigit.cls ≠ "java/lang/invoke/VarHandle" ∧ (parseMethodDescriptor yX12_isDigit.desc).map (fun d => d.parameters.length) = some 1 := by decide +kernel
theorem hV_X12_sign : yX12_sign.cls = RX12 ∧ yX12_sign.cls ≠ "java/lang/invoke/MethodHandle" ∧ yX12_sign.cls ≠ "java/lang/invoke/VarHandle" ∧ (parseMethodDescriptor yX12_sign.desc).map (fun d => d.parameters.length) = some 1 := by decide +kernel
theorem hV_X12_wordOf : yX12_wordOf.cls = RX12 ∧ yX12_wordOf.cls ≠ "java/lang/invoke/MethodHandle" ∧ yX12_wordOf.cls ≠ "java/lang/invoke/VarHandle" ∧ (parseMethodDescriptor yX12_wordOf.desc).map (fun d => d.parameters.length) = some 2 := by decide +kernel
theorem hV_X12_intern : yX12_intern.cls = RX12 ∧ yX12_intern.cls ≠ "java/lang/invoke/MethodHandle" ∧ yX12_intern.cls ≠ "java/lang/invoke/VarHandle" ∧ (parseMethodDescriptor yX12_intern.desc).map (fun d => d.parameters.length) = some 2 := by decide +kernel
set_option maxHeartbeats 2000000 in
set_option maxRecDepth 100000 in
/-- cut() -/
theorem R_cut (l : Launch) (G : pT) (h0 : Nat) (a : Nat → Nat) (F : Nat → Int32) (B : Nat → Nat → Int32) (sz : Nat) (f10 : Nat → Int32) (f11 : Nat → Int32) (f12 : Nat → Int32) (f5 : Nat → Int32) (f6 : Nat → Int32) (f7 : Nat → Int32) (f8 : Nat → Int32) (hsz : sz ≤ 5000) (htx : ∀ j : Nat, j < sz → tOk (B 1 j)) : PM l G pX0 yX12_cut cX12_cut 9 none ({ frames := 7, cells := 0, slots := 0, locals := 174 }) [.ref h0] (mW G h0 a (upd F 4 (nI sz)) (updA (updA (updA (updA (updA (updA (updA B 2 f5) 3 f6) 4 f7) 5 f8) 6 f10) 7 f11) 8 f12)) (fun (v : Option Value) (u : Nat × Nat × Nat × (Nat → Int32) × (Nat → Int32) × (Nat → Int32) × (Nat → Int32) × (Nat → Int32) × (Nat → Int32) × (Nat → Int32)) => v = none ∧ (u.1 ≤ sz) ∧ (u.2.2.2.2.2.2.1 u.1 = 0 ∨ u.2.2.2.2.2.2.1 u.1 = 3) ∧ (rNm u.2.1 u.2.2.1 u.2.2.2.1 u.2.2.2.2.1) ∧ (u.2.1 ≤ 9 + sz) ∧ (u.2.2.1 ≤ 40 + sz) ∧ (rTk u.1 u.2.1 u.2.2.2.2.2.2.1 u.2.2.2.2.2.2.2.2.2) ∧ (9 ≤ u.2.1)) (fun u => (mW G h0 a (upd (upd (upd (upd F 4 (nI sz)) 9 (nI u.1)) 13 (nI u.2.2.1)) 14 (nI u.2.1)) (updA (updA (updA (updA (updA (updA (updA B 2 u.2.2.2.2.2.2.1) 3 u.2.2.2.2.2.2.2.1) 4 u.2.2.2.2.2.2.2.2.1) 5 u.2.2.2.2.2.2.2.2.2) 6 u.2.2.2.1) 7 u.2.2.2.2.1) 8 u.2.2.2.2.2.1))) := by
  intro sz
  refine Met.ofW (cc := cX12_cut) (maxL := 9) (ret := none) (by decide) rfl ?_
  intro p e s m args below meth c s₁ B9 hml hv
  obtain ⟨rfl, hsz, hP, hD0, hE, hX⟩ := hv
  have hx := B9.exec
  have hb := B9.bytes
  have hr := B9.returns
  have hts := atoms_spec (ws := Cond.code yX12_cut cX12_cut 9 none :: pw) B9.pre
  have hq : ∀ w ∈ pw, w.before _ s = true := fun w h => hts w (List.mem_cons_of_mem _ h)
  have hown : s.vm.findClass RX12 = some m.cls := findClass_of_methodNamed B9.named
  have hlocks := B9.notSynchronized
  subst hsz
  have hD := hD0.self (sz := s.heap.size)
  have hA : ∀ q : Nat, s.heap.size ≤ q → va_A (mW G h0 a (upd F 4 (nI sz)) (updA (updA (updA (updA (updA (updA (updA B 2 f5) 3 f6) 4 f7) 5 f8) 6 f10) 7 f11) 8 f12)) s.heap.size q := fun q h => Or.inr h
  have hP : va_P G.1 pCl (mW G h0 a (upd F 4 (nI sz)) (updA (updA (updA (updA (updA (updA (updA B 2 f5) 3 f6) 4 f7) 5 f8) 6 f10) 7 f11) 8 f12)) s.heap := hP
  generalize va_A (mW G h0 a (upd F 4 (nI sz)) (updA (updA (updA (updA (updA (updA (updA B 2 f5) 3 f6) 4 f7) 5 f8) 6 f10) 7 f11) 8 f12)) s.heap.size = A at hD hE hA ⊢
  have hS : va_S A s.heap s.heap [] := va_S.rf
  have hl := lv_entry ([.ref h0]) (n := 9) (Nat.le_of_ble_eq_true rfl)
  rw [lg_entry_eq]
  generalize (lg_sl ([.ref h0]) ++ List.replicate (9 - (lg_sl ([.ref h0])).length) Slot.unset).toArray = ls at hl ⊢
  have hl : lv_has ls 9 [(0, .ref h0)] := hl
  refine lv_aload_n hx hb dX12_cut_0 rfl (lv_at hl 0 rfl) ?_
  refine lv_iconst (v := 0) hx hb dX12_cut_1 (by decide) ?_
  refine r_put (v := 0) hx hb hown hq hE hP hD hS 14 277 tFX12_14 (by decide) pw_1529 (by decide) rfl rfl (ms_14 a _ _) dX12_cut_2 (fun H locs hP hD hS => ?_)
  refine lv_aload_n hx hb dX12_cut_5 rfl (lv_at hl 0 rfl) ?_
  refine lv_iconst (v := 0) hx hb dX12_cut_6 (by decide) ?_
  refine r_put (v := 0) hx hb hown hq hE hP hD hS 13 280 tFX12_13 (by decide) pw_1530 (by decide) rfl rfl (ms_13 a _ _) dX12_cut_7 (fun H locs hP hD hS => ?_)
  refine lv_aload_n hx hb dX12_cut_10 rfl (lv_at hl 0 rfl) ?_
  refine pn_ldcSW (q := G.2.2.1 3) hx hb hown (hE.2.2.1 3 (by decide)) dX12_cut_11 ?_
  have hR0 := rNm_0 0 f10 f11
  have hP : va_P G.1 pCl (mW G h0 a (upd (upd (upd (upd (upd F 4 (nI sz)) 13 0) 14 0) 13 (nI 0)) 14 (nI 0)) (updA (updA (updA (updA (updA (updA (updA (updA (updA (updA B 2 f5) 3 f6) 4 f7) 5 f8) 6 f10) 7 f11) 8 f12) 6 f10) 7 f11) 8 f12)) H := hP
  have hD : va_D A (mW G h0 a (upd (upd (upd (upd (upd F 4 (nI sz)) 13 0) 14 0) 13 (nI 0)) 14 (nI 0)) (updA (updA (updA (updA (updA (updA (updA (updA (updA (updA B 2 f5) 3 f6) 4 f7) 5 f8) 6 f10) 7 f11) 8 f12) 6 f10) 7 f11) 8 f12)) := hD
  refine pc_V0 (G := G) (As := [.ref (G.2.2.1 3)]) (rest := []) hx hb hml hown hq hE hX pX0_al hP hD hS hA hl.1 (R_built l G h0 a (upd (upd (upd F 4 (nI sz)) 13 0) 14 0) (updA (updA (updA (updA (updA (updA (updA B 2 f5) 3 f6) 4 f7) 5 f8) 6 f10) 7 f11) 8 f12) 3 6 0 0 f10 f11 f12 (by decide) (by decide +kernel) (by omega) (by omega) hR0) (gV pw_1572 pw_1573 pw_1574 pw_1523 pw_1531) hV_X12_built 0 9 rfl rfl rfl rfl (Nat.le_of_ble_eq_true rfl) dX12_cut_14 ⟨Nat.le_of_ble_eq_true rfl, Nat.le_of_ble_eq_true rfl⟩ ⟨Nat.le_of_ble_eq_true rfl, Nat.le_of_ble_eq_true rfl⟩ (fun v3 u1 H locs hw2 hP hD hS => ?_)
  obtain ⟨g4, rfl⟩ : ∃ z, z = u1 := ⟨_, rfl⟩
  obtain rfl : v3 = none := hw2
  have hP : va_P G.1 pCl (mW G h0 a (upd (upd (upd F 4 (nI sz)) 13 (nI (0 + 6))) 14 (nI (0 + 1))) (updA (updA (updA (updA (updA (updA (updA B 2 f5) 3 f6) 4 f7) 5 f8) 6 (upd f10 0 (nI 0))) 7 (upd f11 0 (nI 6))) 8 g4)) H := hP
  have hD : va_D A (mW G h0 a (upd (upd (upd F 4 (nI sz)) 13 (nI (0 + 6))) 14 (nI (0 + 1))) (updA (updA (updA (updA (updA (updA (updA B 2 f5) 3 f6) 4 f7) 5 f8) 6 (upd f10 0 (nI 0))) 7 (upd f11 0 (nI 6))) 8 g4)) := hD
  refine W.widen (k := 0) (n := 0) (Nat.le_of_ble_eq_true rfl) (Nat.le_of_ble_eq_true rfl) ?_
  refine W.eq (g2 := F0 m 17 ls []) rfl ?_
  have hR5 := rNm_new (len := 6) hR0 (Nat.le_refl _)
  refine lv_aload_n hx hb dX12_cut_17 rfl (lv_at hl 0 rfl) ?_
  refine pn_ldcSW (q := G.2.2.1 4) hx hb hown (hE.2.2.1 4 (by decide)) dX12_cut_18 ?_
  have hP : va_P G.1 pCl (mW G h0 a (upd (upd (upd (upd (upd F 4 (nI sz)) 13 (nI (0 + 6))) 14 (nI (0 + 1))) 13 (nI 6)) 14 (nI 1)) (updA (updA (updA (updA (updA (updA (updA (updA (updA (updA B 2 f5) 3 f6) 4 f7) 5 f8) 6 (upd f10 0 (nI 0))) 7 (upd f11 0 (nI 6))) 8 g4) 6 (upd f10 0 (nI 0))) 7 (upd f11 0 (nI 6))) 8 g4)) H := hP
  have hD : va_D A (mW G h0 a (upd (upd (upd (upd (upd F 4 (nI sz)) 13 (nI (0 + 6))) 14 (nI (0 + 1))) 13 (nI 6)) 14 (nI 1)) (updA (updA (updA (updA (updA (updA (updA (updA (updA (updA B 2 f5) 3 f6) 4 f7) 5 f8) 6 (upd f10 0 (nI 0))) 7 (upd f11 0 (nI 6))) 8 g4) 6 (upd f10 0 (nI 0))) 7 (upd f11 0 (nI 6))) 8 g4)) := hD
  refine pc_V0 (G := G) (As := [.ref (G.2.2.1 4)]) (rest := []) hx hb hml hown hq hE hX pX0_al hP hD hS hA hl.1 (R_built l G h0 a (upd (upd (upd F 4 (nI sz)) 13 (nI (0 + 6))) 14 (nI (0 + 1))) (updA (updA (updA (updA (updA (updA (updA B 2 f5) 3 f6) 4 f7) 5 f8) 6 (upd f10 0 (nI 0))) 7 (upd f11 0 (nI 6))) 8 g4) 4 4 1 6 (upd f10 0 (nI 0)) (upd f11 0 (nI 6)) g4 (by decide) (by decide +kernel) (by omega) (by omega) hR5) (gV pw_1572 pw_1573 pw_1574 pw_1523 pw_1531) hV_X12_built 0 9 rfl rfl rfl rfl (Nat.le_of_ble_eq_true rfl) dX12_cut_21 ⟨Nat.le_of_ble_eq_true rfl, Nat.le_of_ble_eq_true rfl⟩ ⟨Nat.le_of_ble_eq_true rfl, Nat.le_of_ble_eq_true rfl⟩ (fun v8 u6 H locs hw7 hP hD hS => ?_)
  obtain ⟨g9, rfl⟩ : ∃ z, z = u6 := ⟨_, rfl⟩
  obtain rfl : v8 = none := hw7
  have hP : va_P G.1 pCl (mW G h0 a (upd (upd (upd F 4 (nI sz)) 13 (nI (6 + 4))) 14 (nI (1 + 1))) (updA (updA (updA (updA (updA (updA (updA B 2 f5) 3 f6) 4 f7) 5 f8) 6 (upd (upd f10 0 (nI 0)) 1 (nI 6))) 7 (upd (upd f11 0 (nI 6)) 1 (nI 4))) 8 g9)) H := hP
  have hD : va_D A (mW G h0 a (upd (upd (upd F 4 (nI sz)) 13 (nI (6 + 4))) 14 (nI (1 + 1))) (updA (updA (updA (updA (updA (updA (updA B 2 f5) 3 f6) 4 f7) 5 f8) 6 (upd (upd f10 0 (nI 0)) 1 (nI 6))) 7 (upd (upd f11 0 (nI 6)) 1 (nI 4))) 8 g9)) := hD
  refine W.widen (k := 0) (n := 0) (Nat.le_of_ble_eq_true rfl) (Nat.le_of_ble_eq_true rfl) ?_
  refine W.eq (g2 := F0 m 24 ls []) rfl ?_
  have hR10 := rNm_new (len := 4) hR5 (Nat.le_refl _)
  refine lv_aload_n hx hb dX12_cut_24 rfl (lv_at hl 0 rfl) ?_
  refine pn_ldcSW (q := G.2.2.1 5) hx hb hown (hE.2.2.1 5 (by decide)) dX12_cut_25 ?_
  have hP : va_P G.1 pCl (mW G h0 a (upd (upd (upd (upd (upd F 4 (nI sz)) 13 (nI (6 + 4))) 14 (nI (1 + 1))) 13 (nI 10)) 14 (nI 2)) (updA (updA (updA (updA (updA (updA (updA (updA (updA (updA B 2 f5) 3 f6) 4 f7) 5 f8) 6 (upd (upd f10 0 (nI 0)) 1 (nI 6))) 7 (upd (upd f11 0 (nI 6)) 1 (nI 4))) 8 g9) 6 (upd (upd f10 0 (nI 0)) 1 (nI 6))) 7 (upd (upd f11 0 (nI 6)) 1 (nI 4))) 8 g9)) H := hP
  have hD : va_D A (mW G h0 a (upd (upd (upd (upd (upd F 4 (nI sz)) 13 (nI (6 + 4))) 14 (nI (1 + 1))) 13 (nI 10)) 14 (nI 2)) (updA (updA (updA (updA (updA (updA (updA (updA (updA (updA B 2 f5) 3 f6) 4 f7) 5 f8) 6 (upd (upd f10 0 (nI 0)) 1 (nI 6))) 7 (upd (upd f11 0 (nI 6)) 1 (nI 4))) 8 g9) 6 (upd (upd f10 0 (nI 0)) 1 (nI 6))) 7 (upd (upd f11 0 (nI 6)) 1 (nI 4))) 8 g9)) := hD
  refine pc_V0 (G := G) (As := [.ref (G.2.2.1 5)]) (rest := []) hx hb hml hown hq hE hX pX0_al hP hD hS hA hl.1 (R_built l G h0 a (upd (upd (upd F 4 (nI sz)) 13 (nI (6 + 4))) 14 (nI (1 + 1))) (updA (updA (updA (updA (updA (updA (updA B 2 f5) 3 f6) 4 f7) 5 f8) 6 (upd (upd f10 0 (nI 0)) 1 (nI 6))) 7 (upd (upd f11 0 (nI 6)) 1 (nI 4))) 8 g9) 5 4 2 10 (upd (upd f10 0 (nI 0)) 1 (nI 6)) (upd (upd f11 0 (nI 6)) 1 (nI 4)) g9 (by decide) (by decide +kernel) (by omega) (by omega) hR10) (gV pw_1572 pw_1573 pw_1574 pw_1523 pw_1531) hV_X12_built 0 9 rfl rfl rfl rfl (Nat.le_of_ble_eq_true rfl) dX12_cut_28 ⟨Nat.le_of_ble_eq_true rfl, Nat.le_of_ble_eq_true rfl⟩ ⟨Nat.le_of_ble_eq_true rfl, Nat.le_of_ble_eq_true rfl⟩ (fun v13 u11 H locs hw12 hP hD hS => ?_)
  obtain ⟨g14, rfl⟩ : ∃ z, z = u11 := ⟨_, rfl⟩
  obtain rfl : v13 = none := hw12
  have hP : va_P G.1 pCl (mW G h0 a (upd (upd (upd F 4 (nI sz)) 13 (nI (10 + 4))) 14 (nI (2 + 1))) (updA (updA (updA (updA (updA (updA (updA B 2 f5) 3 f6) 4 f7) 5 f8) 6 (upd (upd (upd f10 0 (nI 0)) 1 (nI 6)) 2 (nI 10))) 7 (upd (upd (upd f11 0 (nI 6)) 1 (nI 4)) 2 (nI 4))) 8 g14)) H := hP
  have hD : va_D A (mW G h0 a (upd (upd (upd F 4 (nI sz)) 13 (nI (10 + 4))) 14 (nI (2 + 1))) (updA (updA (updA (updA (updA (updA (updA B 2 f5) 3 f6) 4 f7) 5 f8) 6 (upd (upd (upd f10 0 (nI 0)) 1 (nI 6)) 2 (nI 10))) 7 (upd (upd (upd f11 0 (nI 6)) 1 (nI 4)) 2 (nI 4))) 8 g14)) := hD
  refine W.widen (k := 0) (n := 0) (Nat.le_of_ble_eq_true rfl) (Nat.le_of_ble_eq_true rfl) ?_
  refine W.eq (g2 := F0 m 31 ls []) rfl ?_
  have hR15 := rNm_new (len := 4) hR10 (Nat.le_refl _)
  refine lv_aload_n hx hb dX12_cut_31 rfl (lv_at hl 0 rfl) ?_
  refine pn_ldcSW (q := G.2.2.1 6) hx hb hown (hE.2.2.1 6 (by decide)) dX12_cut_32 ?_
  have hP : va_P G.1 pCl (mW G h0 a (upd (upd (upd (upd (upd F 4 (nI sz)) 13 (nI (10 + 4))) 14 (nI (2 + 1))) 13 (nI 14)) 14 (nI 3)) (updA (updA (updA (updA (updA (updA (updA (updA (updA (updA B 2 f5) 3 f6) 4 f7) 5 f8) 6 (upd (upd (upd f10 0 (nI 0)) 1 (nI 6)) 2 (nI 10))) 7 (upd (upd (upd f11 0 (nI 6)) 1 (nI 4)) 2 (nI 4))) 8 g14) 6 (upd (upd (upd f10 0 (nI 0)) 1 (nI 6)) 2 (nI 10))) 7 (upd (upd (upd f11 0 (nI 6)) 1 (nI 4)) 2 (nI 4))) 8 g14)) H := hP
  have hD : va_D A (mW G h0 a (upd (upd (upd (upd (upd F 4 (nI sz)) 13 (nI (10 + 4))) 14 (nI (2 + 1))) 13 (nI 14)) 14 (nI 3)) (updA (updA (updA (updA (updA (updA (updA (updA (updA (updA B 2 f5) 3 f6) 4 f7) 5 f8) 6 (upd (upd (upd f10 0 (nI 0)) 1 (nI 6)) 2 (nI 10))) 7 (upd (upd (upd f11 0 (nI 6)) 1 (nI 4)) 2 (nI 4))) 8 g14) 6 (upd (upd (upd f10 0 (nI 0)) 1 (nI 6)) 2 (nI 10))) 7 (upd (upd (upd f11 0 (nI 6)) 1 (nI 4)) 2 (nI 4))) 8 g14)) := hD
  refine pc_V0 (G := G) (As := [.ref (G.2.2.1 6)]) (rest := []) hx hb hml hown hq hE hX pX0_al hP hD hS hA hl.1 (R_built l G h0 a (upd (upd (upd F 4 (nI sz)) 13 (nI (10 + 4))) 14 (nI (2 + 1))) (updA (updA (updA (updA (updA (updA (updA B 2 f5) 3 f6) 4 f7) 5 f8) 6 (upd (upd (upd f10 0 (nI 0)) 1 (nI 6)) 2 (nI 10))) 7 (upd (upd (upd f11 0 (nI 6)) 1 (nI 4)) 2 (nI 4))) 8 g14) 6 4 3 14 (upd (upd (upd f10 0 (nI 0)) 1 (nI 6)) 2 (nI 10)) (upd (upd (upd f11 0 (nI 6)) 1 (nI 4)) 2 (nI 4)) g14 (by decide) (by decide +kernel) (by omega) (by omega) hR15) (gV pw_1572 pw_1573 pw_1574 pw_1523 pw_1531) hV_X12_built 0 9 rfl rfl rfl rfl (Nat.le_of_ble_eq_true rfl) dX12_cut_35 ⟨Nat.le_of_ble_eq_true rfl, Nat.le_of_ble_eq_true rfl⟩ ⟨Nat.le_of_ble_eq_true rfl, Nat.le_of_ble_eq_true rfl⟩ (fun v18 u16 H locs hw17 hP hD hS => ?_)
  obtain ⟨g19, rfl⟩ : ∃ z, z = u16 := ⟨_, rfl⟩
  obtain rfl : v18 = none := hw17
  have hP : va_P G.1 pCl (mW G h0 a (upd (upd (upd F 4 (nI sz)) 13 (nI (14 + 4))) 14 (nI (3 + 1))) (updA (updA (updA (updA (updA (updA (updA B 2 f5) 3 f6) 4 f7) 5 f8) 6 (upd (upd (upd (upd f10 0 (nI 0)) 1 (nI 6)) 2 (nI 10)) 3 (nI 14))) 7 (upd (upd (upd (upd f11 0 (nI 6)) 1 (nI 4)) 2 (nI 4)) 3 (nI 4))) 8 g19)) H := hP
  have hD : va_D A (mW G h0 a (upd (upd (upd F 4 (nI sz)) 13 (nI (14 + 4))) 14 (nI (3 + 1))) (updA (updA (updA (updA (updA (updA (updA B 2 f5) 3 f6) 4 f7) 5 f8) 6 (upd (upd (upd (upd f10 0 (nI 0)) 1 (nI 6)) 2 (nI 10)) 3 (nI 14))) 7 (upd (upd (upd (upd f11 0 (nI 6)) 1 (nI 4)) 2 (nI 4)) 3 (nI 4))) 8 g19)) := hD
  refine W.widen (k := 0) (n := 0) (Nat.le_of_ble_eq_true rfl) (Nat.le_of_ble_eq_true rfl) ?_
  refine W.eq (g2 := F0 m 38 ls []) rfl ?_
  have hR20 := rNm_new (len := 4) hR15 (Nat.le_refl _)
  refine lv_aload_n hx hb dX12_cut_38 rfl (lv_at hl 0 rfl) ?_
  refine pn_ldcSW (q := G.2.2.1 7) hx hb hown (hE.2.2.1 7 (by decide)) dX12_cut_39 ?_
  have hP : va_P G.1 pCl (mW G h0 a (upd (upd (upd (upd (upd F 4 (nI sz)) 13 (nI (14 + 4))) 14 (nI (3 + 1))) 13 (nI 18)) 14 (nI 4)) (updA (updA (updA (updA (updA (updA (updA (updA (updA (updA B 2 f5) 3 f6) 4 f7) 5 f8) 6 (upd (upd (upd (upd f10 0 (nI 0)) 1 (nI 6)) 2 (nI 10)) 3 (nI 14))) 7 (upd (upd (upd (upd f11 0 (nI 6)) 1 (nI 4)) 2 (nI 4)) 3 (nI 4))) 8 g19) 6 (upd (upd (upd (upd f10 0 (nI 0)) 1 (nI 6)) 2 (nI 10)) 3 (nI 14))) 7 (upd (upd (upd (upd f11 0 (nI 6)) 1 (nI 4)) 2 (nI 4)) 3 (nI 4))) 8 g19)) H := hP
  have hD : va_D A (mW G h0 a (upd (upd (upd (upd (upd F 4 (nI sz)) 13 (nI (14 + 4))) 14 (nI (3 + 1))) 13 (nI 18)) 14 (nI 4)) (updA (updA (updA (updA (updA (updA (updA (updA (updA (updA B 2 f5) 3 f6) 4 f7) 5 f8) 6 (upd (upd (upd (upd f10 0 (nI 0)) 1 (nI 6)) 2 (nI 10)) 3 (nI 14))) 7 (upd (upd (upd (upd f11 0 (nI 6)) 1 (nI 4)) 2 (nI 4)) 3 (nI 4))) 8 g19) 6 (upd (upd (upd (upd f10 0 (nI 0)) 1 (nI 6)) 2 (nI 10)) 3 (nI 14))) 7 (upd (upd (upd (upd f11 0 (nI 6)) 1 (nI 4)) 2 (nI 4)) 3 (nI 4))) 8 g19)) := hD
  refine pc_V0 (G := G) (As := [.ref (G.2.2.1 7)]) (rest := []) hx hb hml hown hq hE hX pX0_al hP hD hS hA hl.1 (R_built l G h0 a (upd (upd (upd F 4 (nI sz)) 13 (nI (14 + 4))) 14 (nI (3 + 1))) (updA (updA (updA (updA (updA (updA (updA B 2 f5) 3 f6) 4 f7) 5 f8) 6 (upd (upd (upd (upd f10 0 (nI 0)) 1 (nI 6)) 2 (nI 10)) 3 (nI 14))) 7 (upd (upd (upd (upd f11 0 (nI 6)) 1 (nI 4)) 2 (nI 4)) 3 (nI 4))) 8 g19) 7 5 4 18 (upd (upd (upd (upd f10 0 (nI 0)) 1 (nI 6)) 2 (nI 10)) 3 (nI 14)) (upd (upd (upd (upd f11 0 (nI 6)) 1 (nI 4)) 2 (nI 4)) 3 (nI 4)) g19 (by decide) (by decide +kernel) (by omega) (by omega) hR20) (gV pw_1572 pw_1573 pw_1574 pw_1523 pw_1531) hV_X12_built 0 9 rfl rfl rfl rfl (Nat.le_of_ble_eq_true rfl) dX12_cut_42 ⟨Nat.le_of_ble_eq_true rfl, Nat.le_of_ble_eq_true rfl⟩ ⟨Nat.le_of_ble_eq_true rfl, Nat.le_of_ble_eq_true rfl⟩ (fun v23 u21 H locs hw22 hP hD hS => ?_)
  obtain ⟨g24, rfl⟩ : ∃ z, z = u21 := ⟨_, rfl⟩
  obtain rfl : v23 = none := hw22
  have hP : va_P G.1 pCl (mW G h0 a (upd (upd (upd F 4 (nI sz)) 13 (nI (18 + 5))) 14 (nI (4 + 1))) (updA (updA (updA (updA (updA (updA (updA B 2 f5) 3 f6) 4 f7) 5 f8) 6 (upd (upd (upd (upd (upd f10 0 (nI 0)) 1 (nI 6)) 2 (nI 10)) 3 (nI 14)) 4 (nI 18))) 7 (upd (upd (upd (upd (upd f11 0 (nI 6)) 1 (nI 4)) 2 (nI 4)) 3 (nI 4)) 4 (nI 5))) 8 g24)) H := hP
  have hD : va_D A (mW G h0 a (upd (upd (upd F 4 (nI sz)) 13 (nI (18 + 5))) 14 (nI (4 + 1))) (updA (updA (updA (updA (updA (updA (updA B 2 f5) 3 f6) 4 f7) 5 f8) 6 (upd (upd (upd (upd (upd f10 0 (nI 0)) 1 (nI 6)) 2 (nI 10)) 3 (nI 14)) 4 (nI 18))) 7 (upd (upd (upd (upd (upd f11 0 (nI 6)) 1 (nI 4)) 2 (nI 4)) 3 (nI 4)) 4 (nI 5))) 8 g24)) := hD
  refine W.widen (k := 0) (n := 0) (Nat.le_of_ble_eq_true rfl) (Nat.le_of_ble_eq_true rfl) ?_
  refine W.eq (g2 := F0 m 45 ls []) rfl ?_
  have hR25 := rNm_new (len := 5) hR20 (Nat.le_refl _)
  refine lv_aload_n hx hb dX12_cut_45 rfl (lv_at hl 0 rfl) ?_
  refine pn_ldcSW (q := G.2.2.1 8) hx hb hown (hE.2.2.1 8 (by decide)) dX12_cut_46 ?_
  have hP : va_P G.1 pCl (mW G h0 a (upd (upd (upd (upd (upd F 4 (nI sz)) 13 (nI (18 + 5))) 14 (nI (4 + 1))) 13 (nI 23)) 14 (nI 5)) (updA (updA (updA (updA (updA (updA (updA (updA (updA (updA B 2 f5) 3 f6) 4 f7) 5 f8) 6 (upd (upd (upd (upd (upd f10 0 (nI 0)) 1 (nI 6)) 2 (nI 10)) 3 (nI 14)) 4 (nI 18))) 7 (upd (upd (upd (upd (upd f11 0 (nI 6)) 1 (nI 4)) 2 (nI 4)) 3 (nI 4)) 4 (nI 5))) 8 g24) 6 (upd (upd (upd (upd (upd f10 0 (nI 0)) 1 (nI 6)) 2 (nI 10)) 3 (nI 14)) 4 (nI 18))) 7 (upd (upd (upd (upd (upd f11 0 (nI 6)) 1 (nI 4)) 2 (nI 4)) 3 (nI 4)) 4 (nI 5))) 8 g24)) H := hP
  have hD : va_D A (mW G h0 a (upd (upd (upd (upd (upd F 4 (nI sz)) 13 (nI (18 + 5))) 14 (nI (4 + 1))) 13 (nI 23)) 14 (nI 5)) (updA (updA (updA (updA (updA (updA (updA (updA (updA (updA B 2 f5) 3 f6) 4 f7) 5 f8) 6 (upd (upd (upd (upd (upd f10 0 (nI 0)) 1 (nI 6)) 2 (nI 10)) 3 (nI 14)) 4 (nI 18))) 7 (upd (upd (upd (upd (upd f11 0 (nI 6)) 1 (nI 4)) 2 (nI 4)) 3 (nI 4)) 4 (nI 5))) 8 g24) 6 (upd (upd (upd (upd (upd f10 0 (nI 0)) 1 (nI 6)) 2 (nI 10)) 3 (nI 14)) 4 (nI 18))) 7 (upd (upd (upd (upd (upd f11 0 (nI 6)) 1 (nI 4)) 2 (nI 4)) 3 (nI 4)) 4 (nI 5))) 8 g24)) := hD
  refine pc_V0 (G := G) (As := [.ref (G.2.2.1 8)]) (rest := []) hx hb hml hown hq hE hX pX0_al hP hD hS hA hl.1 (R_built l G h0 a (upd (upd (upd F 4 (nI sz)) 13 (nI (18 + 5))) 14 (nI (4 + 1))) (updA (updA (updA (updA (updA (updA (updA B 2 f5) 3 f6) 4 f7) 5 f8) 6 (upd (upd (upd (upd (upd f10 0 (nI 0)) 1 (nI 6)) 2 (nI 10)) 3 (nI 14)) 4 (nI 18))) 7 (upd (upd (upd (upd (upd f11 0 (nI 6)) 1 (nI 4)) 2 (nI 4)) 3 (nI 4)) 4 (nI 5))) 8 g24) 8 5 5 23 (upd (upd (upd (upd (upd f10 0 (nI 0)) 1 (nI 6)) 2 (nI 10)) 3 (nI 14)) 4 (nI 18)) (upd (upd (upd (upd (upd f11 0 (nI 6)) 1 (nI 4)) 2 (nI 4)) 3 (nI 4)) 4 (nI 5)) g24 (by decide) (by decide +kernel) (by omega) (by omega) hR25) (gV pw_1572 pw_1573 pw_1574 pw_1523 pw_1531) hV_X12_built 0 9 rfl rfl rfl rfl (Nat.le_of_ble_eq_true rfl) dX12_cut_49 ⟨Nat.le_of_ble_eq_true rfl, Nat.le_of_ble_eq_true rfl⟩ ⟨Nat.le_of_ble_eq_true rfl, Nat.le_of_ble_eq_true rfl⟩ (fun v28 u26 H locs hw27 hP hD hS => ?_)
  obtain ⟨g29, rfl⟩ : ∃ z, z = u26 := ⟨_, rfl⟩
  obtain rfl : v28 = none := hw27
  have hP : va_P G.1 pCl (mW G h0 a (upd (upd (upd F 4 (nI sz)) 13 (nI (23 + 5))) 14 (nI (5 + 1))) (updA (updA (updA (updA (updA (updA (updA B 2 f5) 3 f6) 4 f7) 5 f8) 6 (upd (upd (upd (upd (upd (upd f10 0 (nI 0)) 1 (nI 6)) 2 (nI 10)) 3 (nI 14)) 4 (nI 18)) 5 (nI 23))) 7 (upd (upd (upd (upd (upd (upd f11 0 (nI 6)) 1 (nI 4)) 2 (nI 4)) 3 (nI 4)) 4 (nI 5)) 5 (nI 5))) 8 g29)) H := hP
  have hD : va_D A (mW G h0 a (upd (upd (upd F 4 (nI sz)) 13 (nI (23 + 5))) 14 (nI (5 + 1))) (updA (updA (updA (updA (updA (updA (updA B 2 f5) 3 f6) 4 f7) 5 f8) 6 (upd (upd (upd (upd (upd (upd f10 0 (nI 0)) 1 (nI 6)) 2 (nI 10)) 3 (nI 14)) 4 (nI 18)) 5 (nI 23))) 7 (upd (upd (upd (upd (upd (upd f11 0 (nI 6)) 1 (nI 4)) 2 (nI 4)) 3 (nI 4)) 4 (nI 5)) 5 (nI 5))) 8 g29)) := hD
  refine W.widen (k := 0) (n := 0) (Nat.le_of_ble_eq_true rfl) (Nat.le_of_ble_eq_true rfl) ?_
  refine W.eq (g2 := F0 m 52 ls []) rfl ?_
  have hR30 := rNm_new (len := 5) hR25 (Nat.le_refl _)
  refine lv_aload_n hx hb dX12_cut_52 rfl (lv_at hl 0 rfl) ?_
  refine pn_ldcSW (q := G.2.2.1 9) hx hb hown (hE.2.2.1 9 (by decide)) dX12_cut_53 ?_
  have hP : va_P G.1 pCl (mW G h0 a (upd (upd (upd (upd (upd F 4 (nI sz)) 13 (nI (23 + 5))) 14 (nI (5 + 1))) 13 (nI 28)) 14 (nI 6)) (updA (updA (updA (updA (updA (updA (updA (updA (updA (updA B 2 f5) 3 f6) 4 f7) 5 f8) 6 (upd (upd (upd (upd (upd (upd f10 0 (nI 0)) 1 (nI 6)) 2 (nI 10)) 3 (nI 14)) 4 (nI 18)) 5 (nI 23))) 7 (upd (upd (upd (upd (upd (upd f11 0 (nI 6)) 1 (nI 4)) 2 (nI 4)) 3 (nI 4)) 4 (nI 5)) 5 (nI 5))) 8 g29) 6 (upd (upd (upd (upd (upd (upd f10 0 (nI 0)) 1 (nI 6)) 2 (nI 10)) 3 (nI 14)) 4 (nI 18)) 5 (nI 23))) 7 (upd (upd (upd (upd (upd (upd f11 0 (nI 6)) 1 (nI 4)) 2 (nI 4)) 3 (nI 4)) 4 (nI 5)) 5 (nI 5))) 8 g29)) H := hP
  have hD : va_D A (mW G h0 a (upd (upd (upd (upd (upd F 4 (nI sz)) 13 (nI (23 + 5))) 14 (nI (5 + 1))) 13 (nI 28)) 14 (nI 6)) (updA (updA (updA (updA (updA (updA (updA (updA (updA (updA B 2 f5) 3 f6) 4 f7) 5 f8) 6 (upd (upd (upd (upd (upd (upd f10 0 (nI 0)) 1 (nI 6)) 2 (nI 10)) 3 (nI 14)) 4 (nI 18)) 5 (nI 23))) 7 (upd (upd (upd (upd (upd (upd f11 0 (nI 6)) 1 (nI 4)) 2 (nI 4)) 3 (nI 4)) 4 (nI 5)) 5 (nI 5))) 8 g29) 6 (upd (upd (upd (upd (upd (upd f10 0 (nI 0)) 1 (nI 6)) 2 (nI 10)) 3 (nI 14)) 4 (nI 18)) 5 (nI 23))) 7 (upd (upd (upd (upd (upd (upd f11 0 (nI 6)) 1 (nI 4)) 2 (nI 4)) 3 (nI 4)) 4 (nI 5)) 5 (nI 5))) 8 g29)) := hD
  refine pc_V0 (G := G) (As := [.ref (G.2.2.1 9)]) (rest := []) hx hb hml hown hq hE hX pX0_al hP hD hS hA hl.1 (R_built l G h0 a (upd (upd (upd F 4 (nI sz)) 13 (nI (23 + 5))) 14 (nI (5 + 1))) (updA (updA (updA (updA (updA (updA (updA B 2 f5) 3 f6) 4 f7) 5 f8) 6 (upd (upd (upd (upd (upd (upd f10 0 (nI 0)) 1 (nI 6)) 2 (nI 10)) 3 (nI 14)) 4 (nI 18)) 5 (nI 23))) 7 (upd (upd (upd (upd (upd (upd f11 0 (nI 6)) 1 (nI 4)) 2 (nI 4)) 3 (nI 4)) 4 (nI 5)) 5 (nI 5))) 8 g29) 9 4 6 28 (upd (upd (upd (upd (upd (upd f10 0 (nI 0)) 1 (nI 6)) 2 (nI 10)) 3 (nI 14)) 4 (nI 18)) 5 (nI 23)) (upd (upd (upd (upd (upd (upd f11 0 (nI 6)) 1 (nI 4)) 2 (nI 4)) 3 (nI 4)) 4 (nI 5)) 5 (nI 5)) g29 (by decide) (by decide +kernel) (by omega) (by omega) hR30) (gV pw_1572 pw_1573 pw_1574 pw_1523 pw_1531) hV_X12_built 0 9 rfl rfl rfl rfl (Nat.le_of_ble_eq_true rfl) dX12_cut_56 ⟨Nat.le_of_ble_eq_true rfl, Nat.le_of_ble_eq_true rfl⟩ ⟨Nat.le_of_ble_eq_true rfl, Nat.le_of_ble_eq_true rfl⟩ (fun v33 u31 H locs hw32 hP hD hS => ?_)
  obtain ⟨g34, rfl⟩ : ∃ z, z = u31 := ⟨_, rfl⟩
  obtain rfl : v33 = none := hw32
  have hP : va_P G.1 pCl (mW G h0 a (upd (upd (upd F 4 (nI sz)) 13 (nI (28 + 4))) 14 (nI (6 + 1))) (updA (updA (updA (updA (updA (updA (updA B 2 f5) 3 f6) 4 f7) 5 f8) 6 (upd (upd (upd (upd (upd (upd (upd f10 0 (nI 0)) 1 (nI 6)) 2 (nI 10)) 3 (nI 14)) 4 (nI 18)) 5 (nI 23)) 6 (nI 28))) 7 (upd (upd (upd (upd (upd (upd (upd f11 0 (nI 6)) 1 (nI 4)) 2 (nI 4)) 3 (nI 4)) 4 (nI 5)) 5 (nI 5)) 6 (nI 4))) 8 g34)) H := hP
  have hD : va_D A (mW G h0 a (upd (upd (upd F 4 (nI sz)) 13 (nI (28 + 4))) 14 (nI (6 + 1))) (updA (updA (updA (updA (updA (updA (updA B 2 f5) 3 f6) 4 f7) 5 f8) 6 (upd (upd (upd (upd (upd (upd (upd f10 0 (nI 0)) 1 (nI 6)) 2 (nI 10)) 3 (nI 14)) 4 (nI 18)) 5 (nI 23)) 6 (nI 28))) 7 (upd (upd (upd (upd (upd (upd (upd f11 0 (nI 6)) 1 (nI 4)) 2 (nI 4)) 3 (nI 4)) 4 (nI 5)) 5 (nI 5)) 6 (nI 4))) 8 g34)) := hD
  refine W.widen (k := 0) (n := 0) (Nat.le_of_ble_eq_true rfl) (Nat.le_of_ble_eq_true rfl) ?_
  refine W.eq (g2 := F0 m 59 ls []) rfl ?_
  have hR35 := rNm_new (len := 4) hR30 (Nat.le_refl _)
  refine lv_aload_n hx hb dX12_cut_59 rfl (lv_at hl 0 rfl) ?_
  refine pn_ldcSW (q := G.2.2.1 10) hx hb hown (hE.2.2.1 10 (by decide)) dX12_cut_60 ?_
  have hP : va_P G.1 pCl (mW G h0 a (upd (upd (upd (upd (upd F 4 (nI sz)) 13 (nI (28 + 4))) 14 (nI (6 + 1))) 13 (nI 32)) 14 (nI 7)) (updA (updA (updA (updA (updA (updA (updA (updA (updA (updA B 2 f5) 3 f6) 4 f7) 5 f8) 6 (upd (upd (upd (upd (upd (upd (upd f10 0 (nI 0)) 1 (nI 6)) 2 (nI 10)) 3 (nI 14)) 4 (nI 18)) 5 (nI 23)) 6 (nI 28))) 7 (upd (upd (upd (upd (upd (upd (upd f11 0 (nI 6)) 1 (nI 4)) 2 (nI 4)) 3 (nI 4)) 4 (nI 5)) 5 (nI 5)) 6 (nI 4))) 8 g34) 6 (upd (upd (upd (upd (upd (upd (upd f10 0 (nI 0)) 1 (nI 6)) 2 (nI 10)) 3 (nI 14)) 4 (nI 18)) 5 (nI 23)) 6 (nI 28))) 7 (upd (upd (upd (upd (upd (upd (upd f11 0 (nI 6)) 1 (nI 4)) 2 (nI 4)) 3 (nI 4)) 4 (nI 5)) 5 (nI 5)) 6 (nI 4))) 8 g34)) H := hP
  have hD : va_D A (mW G h0 a (upd (upd (upd (upd (upd F 4 (nI sz)) 13 (nI (28 + 4))) 14 (nI (6 + 1))) 13 (nI 32)) 14 (nI 7)) (updA (updA (updA (updA (updA (updA (updA (updA (updA (updA B 2 f5) 3 f6) 4 f7) 5 f8) 6 (upd (upd (upd (upd (upd (upd (upd f10 0 (nI 0)) 1 (nI 6)) 2 (nI 10)) 3 (nI 14)) 4 (nI 18)) 5 (nI 23)) 6 (nI 28))) 7 (upd (upd (upd (upd (upd (upd (upd f11 0 (nI 6)) 1 (nI 4)) 2 (nI 4)) 3 (nI 4)) 4 (nI 5)) 5 (nI 5)) 6 (nI 4))) 8 g34) 6 (upd (upd (upd (upd (upd (upd (upd f10 0 (nI 0)) 1 (nI 6)) 2 (nI 10)) 3 (nI 14)) 4 (nI 18)) 5 (nI 23)) 6 (nI 28))) 7 (upd (upd (upd (upd (upd (upd (upd f11 0 (nI 6)) 1 (nI 4)) 2 (nI 4)) 3 (nI 4)) 4 (nI 5)) 5 (nI 5)) 6 (nI 4))) 8 g34)) := hD
  refine pc_V0 (G := G) (As := [.ref (G.2.2.1 10)]) (rest := []) hx hb hml hown hq hE hX pX0_al hP hD hS hA hl.1 (R_built l G h0 a (upd (upd (upd F 4 (nI sz)) 13 (nI (28 + 4))) 14 (nI (6 + 1))) (updA (updA (updA (updA (updA (updA (updA B 2 f5) 3 f6) 4 f7) 5 f8) 6 (upd (upd (upd (upd (upd (upd (upd f10 0 (nI 0)) 1 (nI 6)) 2 (nI 10)) 3 (nI 14)) 4 (nI 18)) 5 (nI 23)) 6 (nI 28))) 7 (upd (upd (upd (upd (upd (upd (upd f11 0 (nI 6)) 1 (nI 4)) 2 (nI 4)) 3 (nI 4)) 4 (nI 5)) 5 (nI 5)) 6 (nI 4))) 8 g34) 10 4 7 32 (upd (upd (upd (upd (upd (upd (upd f10 0 (nI 0)) 1 (nI 6)) 2 (nI 10)) 3 (nI 14)) 4 (nI 18)) 5 (nI 23)) 6 (nI 28)) (upd (upd (upd (upd (upd (upd (upd f11 0 (nI 6)) 1 (nI 4)) 2 (nI 4)) 3 (nI 4)) 4 (nI 5)) 5 (nI 5)) 6 (nI 4)) g34 (by decide) (by decide +kernel) (by omega) (by omega) hR35) (gV pw_1572 pw_1573 pw_1574 pw_1523 pw_1531) hV_X12_built 0 9 rfl rfl rfl rfl (Nat.le_of_ble_eq_true rfl) dX12_cut_63 ⟨Nat.le_of_ble_eq_true rfl, Nat.le_of_ble_eq_true rfl⟩ ⟨Nat.le_of_ble_eq_true rfl, Nat.le_of_ble_eq_true rfl⟩ (fun v38 u36 H locs hw37 hP hD hS => ?_)
  obtain ⟨g39, rfl⟩ : ∃ z, z = u36 := ⟨_, rfl⟩
  obtain rfl : v38 = none := hw37
  have hP : va_P G.1 pCl (mW G h0 a (upd (upd (upd F 4 (nI sz)) 13 (nI (32 + 4))) 14 (nI (7 + 1))) (updA (updA (updA (updA (updA (updA (updA B 2 f5) 3 f6) 4 f7) 5 f8) 6 (upd (upd (upd (upd (upd (upd (upd (upd f10 0 (nI 0)) 1 (nI 6)) 2 (nI 10)) 3 (nI 14)) 4 (nI 18)) 5 (nI 23)) 6 (nI 28)) 7 (nI 32))) 7 (upd (upd (upd (upd (upd (upd (upd (upd f11 0 (nI 6)) 1 (nI 4)) 2 (nI 4)) 3 (nI 4)) 4 (nI 5)) 5 (nI 5)) 6 (nI 4)) 7 (nI 4))) 8 g39)) H := hP
  have hD : va_D A (mW G h0 a (upd (upd (upd F 4 (nI sz)) 13 (nI (32 + 4))) 14 (nI (7 + 1))) (updA (updA (updA (updA (updA (updA (updA B 2 f5) 3 f6) 4 f7) 5 f8) 6 (upd (upd (upd (upd (upd (upd (upd (upd f10 0 (nI 0)) 1 (nI 6)) 2 (nI 10)) 3 (nI 14)) 4 (nI 18)) 5 (nI 23)) 6 (nI 28)) 7 (nI 32))) 7 (upd (upd (upd (upd (upd (upd (upd (upd f11 0 (nI 6)) 1 (nI 4)) 2 (nI 4)) 3 (nI 4)) 4 (nI 5)) 5 (nI 5)) 6 (nI 4)) 7 (nI 4))) 8 g39)) := hD
  refine W.widen (k := 0) (n := 0) (Nat.le_of_ble_eq_true rfl) (Nat.le_of_ble_eq_true rfl) ?_
  refine W.eq (g2 := F0 m 66 ls []) rfl ?_
  have hR40 := rNm_new (len := 4) hR35 (Nat.le_refl _)
  refine lv_aload_n hx hb dX12_cut_66 rfl (lv_at hl 0 rfl) ?_
  refine pn_ldcSW (q := G.2.2.1 11) hx hb hown (hE.2.2.1 11 (by decide)) dX12_cut_67 ?_
  have hP : va_P G.1 pCl (mW G h0 a (upd (upd (upd (upd (upd F 4 (nI sz)) 13 (nI (32 + 4))) 14 (nI (7 + 1))) 13 (nI 36)) 14 (nI 8)) (updA (updA (updA (updA (updA (updA (updA (updA (updA (updA B 2 f5) 3 f6) 4 f7) 5 f8) 6 (upd (upd (upd (upd (upd (upd (upd (upd f10 0 (nI 0)) 1 (nI 6)) 2 (nI 10)) 3 (nI 14)) 4 (nI 18)) 5 (nI 23)) 6 (nI 28)) 7 (nI 32))) 7 (upd (upd (upd (upd (upd (upd (upd (upd f11 0 (nI 6)) 1 (nI 4)) 2 (nI 4)) 3 (nI 4)) 4 (nI 5)) 5 (nI 5)) 6 (nI 4)) 7 (nI 4))) 8 g39) 6 (upd (upd (upd (upd (upd (upd (upd (upd f10 0 (nI 0)) 1 (nI 6)) 2 (nI 10)) 3 (nI 14)) 4 (nI 18)) 5 (nI 23)) 6 (nI 28)) 7 (nI 32))) 7 (upd (upd (upd (upd (upd (upd (upd (upd f11 0 (nI 6)) 1 (nI 4)) 2 (nI 4)) 3 (nI 4)) 4 (nI 5)) 5 (nI 5)) 6 (nI 4)) 7 (nI 4))) 8 g39)) H := hP
  have hD : va_D A (mW G h0 a (upd (upd (upd (upd (upd F 4 (nI sz)) 13 (nI (32 + 4))) 14 (nI (7 + 1))) 13 (nI 36)) 14 (nI 8)) (updA (updA (updA (updA (updA (updA (updA (updA (updA (updA B 2 f5) 3 f6) 4 f7) 5 f8) 6 (upd (upd (upd (upd (upd (upd (upd (upd f10 0 (nI 0)) 1 (nI 6)) 2 (nI 10)) 3 (nI 14)) 4 (nI 18)) 5 (nI 23)) 6 (nI 28)) 7 (nI 32))) 7 (upd (upd (upd (upd (upd (upd (upd (upd f11 0 (nI 6)) 1 (nI 4)) 2 (nI 4)) 3 (nI 4)) 4 (nI 5)) 5 (nI 5)) 6 (nI 4)) 7 (nI 4))) 8 g39) 6 (upd (upd (upd (upd (upd (upd (upd (upd f10 0 (nI 0)) 1 (nI 6)) 2 (nI 10)) 3 (nI 14)) 4 (nI 18)) 5 (nI 23)) 6 (nI 28)) 7 (nI 32))) 7 (upd (upd (upd (upd (upd (upd (upd (upd f11 0 (nI 6)) 1 (nI 4)) 2 (nI 4)) 3 (nI 4)) 4 (nI 5)) 5 (nI 5)) 6 (nI 4)) 7 (nI 4))) 8 g39)) := hD
  refine pc_V0 (G := G) (As := [.ref (G.2.2.1 11)]) (rest := []) hx hb hml hown hq hE hX pX0_al hP hD hS hA hl.1 (R_built l G h0 a (upd (upd (upd F 4 (nI sz)) 13 (nI (32 + 4))) 14 (nI (7 + 1))) (updA (updA (updA (updA (updA (updA (updA B 2 f5) 3 f6) 4 f7) 5 f8) 6 (upd (upd (upd (upd (upd (upd (upd (upd f10 0 (nI 0)) 1 (nI 6)) 2 (nI 10)) 3 (nI 14)) 4 (nI 18)) 5 (nI 23)) 6 (nI 28)) 7 (nI 32))) 7 (upd (upd (upd (upd (upd (upd (upd (upd f11 0 (nI 6)) 1 (nI 4)) 2 (nI 4)) 3 (nI 4)) 4 (nI 5)) 5 (nI 5)) 6 (nI 4)) 7 (nI 4))) 8 g39) 11 4 8 36 (upd (upd (upd (upd (upd (upd (upd (upd f10 0 (nI 0)) 1 (nI 6)) 2 (nI 10)) 3 (nI 14)) 4 (nI 18)) 5 (nI 23)) 6 (nI 28)) 7 (nI 32)) (upd (upd (upd (upd (upd (upd (upd (upd f11 0 (nI 6)) 1 (nI 4)) 2 (nI 4)) 3 (nI 4)) 4 (nI 5)) 5 (nI 5)) 6 (nI 4)) 7 (nI 4)) g39 (by decide) (by decide +kernel) (by omega) (by omega) hR40) (gV pw_1572 pw_1573 pw_1574 pw_1523 pw_1531) hV_X12_built 0 9 rfl rfl rfl rfl (Nat.le_of_ble_eq_true rfl) dX12_cut_70 ⟨Nat.le_of_ble_eq_true rfl, Nat.le_of_ble_eq_true rfl⟩ ⟨Nat.le_of_ble_eq_true rfl, Nat.le_of_ble_eq_true rfl⟩ (fun v43 u41 H locs hw42 hP hD hS => ?_)
  obtain ⟨g44, rfl⟩ : ∃ z, z = u41 := ⟨_, rfl⟩
  obtain rfl : v43 = none := hw42
  have hP : va_P G.1 pCl (mW G h0 a (upd (upd (upd F 4 (nI sz)) 13 (nI (36 + 4))) 14 (nI (8 + 1))) (updA (updA (updA (updA (updA (updA (updA B 2 f5) 3 f6) 4 f7) 5 f8) 6 (upd (upd (upd (upd (upd (upd (upd (upd (upd f10 0 (nI 0)) 1 (nI 6)) 2 (nI 10)) 3 (nI 14)) 4 (nI 18)) 5 (nI 23)) 6 (nI 28)) 7 (nI 32)) 8 (nI 36))) 7 (upd (upd (upd (upd (upd (upd (upd (upd (upd f11 0 (nI 6)) 1 (nI 4)) 2 (nI 4)) 3 (nI 4)) 4 (nI 5)) 5 (nI 5)) 6 (nI 4)) 7 (nI 4)) 8 (nI 4))) 8 g44)) H := hP
  have hD : va_D A (mW G h0 a (upd (upd (upd F 4 (nI sz)) 13 (nI (36 + 4))) 14 (nI (8 + 1))) (updA (updA (updA (updA (updA (updA (updA B 2 f5) 3 f6) 4 f7) 5 f8) 6 (upd (upd (upd (upd (upd (upd (upd (upd (upd f10 0 (nI 0)) 1 (nI 6)) 2 (nI 10)) 3 (nI 14)) 4 (nI 18)) 5 (nI 23)) 6 (nI 28)) 7 (nI 32)) 8 (nI 36))) 7 (upd (upd (upd (upd (upd (upd (upd (upd (upd f11 0 (nI 6)) 1 (nI 4)) 2 (nI 4)) 3 (nI 4)) 4 (nI 5)) 5 (nI 5)) 6 (nI 4)) 7 (nI 4)) 8 (nI 4))) 8 g44)) := hD
  refine W.widen (k := 0) (n := 0) (Nat.le_of_ble_eq_true rfl) (Nat.le_of_ble_eq_true rfl) ?_
  refine W.eq (g2 := F0 m 73 ls []) rfl ?_
  have hR45 := rNm_new (len := 4) hR40 (Nat.le_refl _)
  refine lv_aload_n hx hb dX12_cut_73 rfl (lv_at hl 0 rfl) ?_
  refine lv_iconst (v := 0) hx hb dX12_cut_74 (by decide) ?_
  refine r_put (v := 0) hx hb hown hq hE hP hD hS 9 314 tFX12_9 (by decide) pw_1568 (by decide) rfl rfl (ms_9 a _ _) dX12_cut_75 (fun H locs hP hD hS => ?_)
  refine lv_iconst (v := 0) hx hb dX12_cut_78 (by decide) ?_
  refine lv_istore_n (lv' := [(1, .int 0), (0, .ref h0)]) hx hb dX12_cut_79 rfl hl (by decide) rfl (fun ls hl => ?_)
  refine lv_iconst (v := 1) hx hb dX12_cut_80 (by decide) ?_
  refine lv_istore_n (lv' := [(2, .int 1), (1, .int 0), (0, .ref h0)]) hx hb dX12_cut_81 rfl hl (by decide) rfl (fun ls hl => ?_)
  have loop_o : ∀ (n_o : Nat) (kz : Nat) (i : Nat) (T : Nat) (nm : Nat) (us : Nat) (mo : Int32) (g10 : Nat → Int32) (g11 : Nat → Int32) (g12 : Nat → Int32) (g5 : Nat → Int32) (g6 : Nat → Int32) (g7 : Nat → Int32) (g8 : Nat → Int32) (H : Heap) (locs : List Loc) (ls : Array Slot), kz ≤ (sz + 1) → (sz + 1) + 1 ≤ kz + n_o → ((mo = 1 ∧ kz = i) ∨ (mo = 0 ∧ kz = i + 1)) → (i ≤ sz) → (T ≤ i) → (nm ≤ 9 + i) → (us ≤ 40 + i) → (mo = 0 → g5 T = 0 ∨ g5 T = 3) → (rNm nm us g10 g11) → (rTk T nm g5 g8) → (9 ≤ nm) → va_P G.1 pCl (mW G h0 a (upd (upd (upd (upd F 4 (nI sz)) 9 (nI T)) 13 (nI us)) 14 (nI nm)) (updA (updA (updA (updA (updA (updA (updA B 2 g5) 3 g6) 4 g7) 5 g8) 6 g10) 7 g11) 8 g12)) H → va_D A (mW G h0 a (upd (upd (upd (upd F 4 (nI sz)) 9 (nI T)) 13 (nI us)) 14 (nI nm)) (updA (updA (updA (updA (updA (updA (updA B 2 g5) 3 g6) 4 g7) 5 g8) 6 g10) 7 g11) 8 g12)) → va_S A s.heap H locs → lv_has ls 9 [(1, .int (nI i)), (2, .int mo), (0, .ref h0)] → W p l e (headSpec (Cond.code yX12_cut cX12_cut 9 none :: pw) ({ frames := 7, cells := 0, slots := 0, locals := 174 } : Room)).room s m ([.ref h0] : List Value).toArray below meth c H locs 0 0 (MQ below (pQ G A (fun (v : Option Value) (u : Nat × Nat × Nat × (Nat → Int32) × (Nat → Int32) × (Nat → Int32) × (Nat → Int32) × (Nat → Int32) × (Nat → Int32) × (Nat → Int32)) => v = none ∧ (u.1 ≤ sz) ∧ (u.2.2.2.2.2.2.1 u.1 = 0 ∨ u.2.2.2.2.2.2.1 u.1 = 3) ∧ (rNm u.2.1 u.2.2.1 u.2.2.2.1 u.2.2.2.2.1) ∧ (u.2.1 ≤ 9 + sz) ∧ (u.2.2.1 ≤ 40 + sz) ∧ (rTk u.1 u.2.1 u.2.2.2.2.2.2.1 u.2.2.2.2.2.2.2.2.2) ∧ (9 ≤ u.2.1)) (fun u => (mW G h0 a (upd (upd (upd (upd F 4 (nI sz)) 9 (nI u.1)) 13 (nI u.2.2.1)) 14 (nI u.2.1)) (updA (updA (updA (updA (updA (updA (updA B 2 u.2.2.2.2.2.2.1) 3 u.2.2.2.2.2.2.2.1) 4 u.2.2.2.2.2.2.2.2.1) 5 u.2.2.2.2.2.2.2.2.2) 6 u.2.2.2.1) 7 u.2.2.2.2.1) 8 u.2.2.2.2.2.1)))) ([.ref h0] : List Value).toArray s ({ frames := 7, cells := 0, slots := 0, locals := 174 } : Room).cells ({ frames := 7, cells := 0, slots := 0, locals := 174 } : Room).slots A) (F0 m 82 ls []) := by
    intro n_o
    induction n_o with
    | zero => intro kz i T nm us mo g10 g11 g12 g5 g6 g7 g8 H locs ls hk_o hn_o; omega
    | succ n_o ih_o =>
      intro kz i T nm us mo g10 g11 g12 g5 g6 g7 g8 H locs ls hk_o hn_o hmo hi hTi hnm hus hend hR hTk hn9 hP hD hS hl
      refine lv_iload_n hx hb dX12_cut_82 rfl (lv_at hl 1 rfl) ?_
      refine lv_if_eq (tgt := 554) hx hb dX12_cut_83 (by decide) (fun c46 => ?_) (fun c46 => ?_)
      · have hmo0 : mo = 0 := c46
        have hP : va_P G.1 pCl (mW G h0 a (upd (upd (upd (upd F 4 (nI sz)) 9 (nI T)) 13 (nI us)) 14 (nI nm)) (updA (updA (updA (updA (updA (updA (updA B 2 g5) 3 g6) 4 g7) 5 g8) 6 g10) 7 g11) 8 g12)) H := hP
        have hD : va_D A (mW G h0 a (upd (upd (upd (upd F 4 (nI sz)) 9 (nI T)) 13 (nI us)) 14 (nI nm)) (updA (updA (updA (updA (updA (updA (updA B 2 g5) 3 g6) 4 g7) 5 g8) 6 g10) 7 g11) 8 g12)) := hD
        exact W.vret hx hb hr (fun t9 ht9 hW9 => ⟨⟨_, (T, nm, us, g10, g11, g12, g5, g6, g7, g8), rfl, ⟨rfl, (by omega), (hend hmo0), hR, (by omega), (by omega), hTk, hn9⟩, by rw [ht9]; exact hP, hD⟩, hS.F ht9⟩) hS.2.2 dX12_cut_554
      · obtain ⟨rfl, rfl⟩ : mo = 1 ∧ kz = i := hmo.resolve_right (fun h9 => c46 h9.1)
        have loop_b : ∀ (n_b : Nat) (i1 : Nat) (H : Heap) (locs : List Loc) (ls : Array Slot), i1 ≤ sz → sz + 1 ≤ i1 + n_b → (i ≤ i1) → va_P G.1 pCl (mW G h0 a (upd (upd (upd (upd F 4 (nI sz)) 9 (nI T)) 13 (nI us)) 14 (nI nm)) (updA (updA (updA (updA (updA (updA (updA B 2 g5) 3 g6) 4 g7) 5 g8) 6 g10) 7 g11) 8 g12)) H → va_D A (mW G h0 a (upd (upd (upd (upd F 4 (nI sz)) 9 (nI T)) 13 (nI us)) 14 (nI nm)) (updA (updA (updA (updA (updA (updA (updA B 2 g5) 3 g6) 4 g7) 5 g8) 6 g10) 7 g11) 8 g12)) → va_S A s.heap H locs → lv_has ls 9 [(1, .int (nI i1)), (2, .int 1), (0, .ref h0)] → W p l e (headSpec (Cond.code yX12_cut cX12_cut 9 none :: pw) ({ frames := 7, cells := 0, slots := 0, locals := 174 } : Room)).room s m ([.ref h0] : List Value).toArray below meth c H locs 0 0 (MQ below (pQ G A (fun (v : Option Value) (u : Nat × Nat × Nat × (Nat → Int32) × (Nat → Int32) × (Nat → Int32) × (Nat → Int32) × (Nat → Int32) × (Nat → Int32) × (Nat → Int32)) => v = none ∧ (u.1 ≤ sz) ∧ (u.2.2.2.2.2.2.1 u.1 = 0 ∨ u.2.2.2.2.2.2.1 u.1 = 3) ∧ (rNm u.2.1 u.2.2.1 u.2.2.2.1 u.2.2.2.2.1) ∧ (u.2.1 ≤ 9 + sz) ∧ (u.2.2.1 ≤ 40 + sz) ∧ (rTk u.1 u.2.1 u.2.2.2.2.2.2.1 u.2.2.2.2.2.2.2.2.2) ∧ (9 ≤ u.2.1)) (fun u => (mW G h0 a (upd (upd (upd (upd F 4 (nI sz)) 9 (nI u.1)) 13 (nI u.2.2.1)) 14 (nI u.2.1)) (updA (updA (updA (updA (updA (updA (updA B 2 u.2.2.2.2.2.2.1) 3 u.2.2.2.2.2.2.2.1) 4 u.2.2.2.2.2.2.2.2.1) 5 u.2.2.2.2.2.2.2.2.2) 6 u.2.2.2.1) 7 u.2.2.2.2.1) 8 u.2.2.2.2.2.1)))) ([.ref h0] : List Value).toArray s ({ frames := 7, cells := 0, slots := 0, locals := 174 } : Room).cells ({ frames := 7, cells := 0, slots := 0, locals := 174 } : Room).slots A) (F0 m 86 ls []) := by
          intro n_b
          induction n_b with
          | zero => intro i1 H locs ls hk_b hn_b; omega
          | succ n_b ih_b =>
            intro i1 H locs ls hk_b hn_b hi1 hP hD hS hl
            refine lv_aload_n hx hb dX12_cut_86 rfl (lv_at hl 2 rfl) ?_
            refine lv_iload_n hx hb dX12_cut_87 rfl (lv_at hl 0 rfl) ?_
            have hP : va_P G.1 pCl (mW G h0 a (upd (upd (upd (upd (upd F 4 (nI sz)) 9 (nI T)) 13 (nI us)) 14 (nI nm)) 4 (nI sz)) (updA (updA (updA (updA (updA (updA (updA B 2 g5) 3 g6) 4 g7) 5 g8) 6 g10) 7 g11) 8 g12)) H := hP
            have hD : va_D A (mW G h0 a (upd (upd (upd (upd (upd F 4 (nI sz)) 9 (nI T)) 13 (nI us)) 14 (nI nm)) 4 (nI sz)) (updA (updA (updA (updA (updA (updA (updA B 2 g5) 3 g6) 4 g7) 5 g8) 6 g10) 7 g11) 8 g12)) := hD
            refine pc_V0 (G := G) (As := [.int (nI i1)]) (rest := []) hx hb hml hown hq hE hX pX0_al hP hD hS hA hl.1 (R_ch l G h0 a (upd (upd (upd (upd F 4 (nI sz)) 9 (nI T)) 13 (nI us)) 14 (nI nm)) (updA (updA (updA (updA (updA (updA (updA B 2 g5) 3 g6) 4 g7) 5 g8) 6 g10) 7 g11) 8 g12) i1 sz (by omega) (by omega)) (gV pw_1561 pw_1562 pw_1563 pw_1523 pw_1518) hV_X12_ch 0 9 rfl rfl rfl rfl (Nat.le_of_ble_eq_true rfl) dX12_cut_88 ⟨Nat.le_of_ble_eq_true rfl, Nat.le_of_ble_eq_true rfl⟩ ⟨Nat.le_of_ble_eq_true rfl, Nat.le_of_ble_eq_true rfl⟩ (fun v49 u47 H locs hw48 hP hD hS => ?_)
            obtain ⟨r50, rfl⟩ : ∃ z, z = u47 := ⟨_, rfl⟩
            obtain ⟨hw48, h51⟩ := hw48
            have h51 : r50 = (-1) ∨ i1 < sz ∧ r50 = (updA (updA (updA (updA (updA (updA (updA B 2 g5) 3 g6) 4 g7) 5 g8) 6 g10) 7 g11) 8 g12) 1 i1 := h51
            obtain rfl : v49 = some (.int r50) := hw48
            have hP : va_P G.1 pCl (mW G h0 a (upd (upd (upd (upd F 4 (nI sz)) 9 (nI T)) 13 (nI us)) 14 (nI nm)) (updA (updA (updA (updA (updA (updA (updA B 2 g5) 3 g6) 4 g7) 5 g8) 6 g10) 7 g11) 8 g12)) H := hP
            have hD : va_D A (mW G h0 a (upd (upd (upd (upd F 4 (nI sz)) 9 (nI T)) 13 (nI us)) 14 (nI nm)) (updA (updA (updA (updA (updA (updA (updA B 2 g5) 3 g6) 4 g7) 5 g8) 6 g10) 7 g11) 8 g12)) := hD
            refine W.widen (k := 0) (n := 0) (Nat.le_of_ble_eq_true rfl) (Nat.le_of_ble_eq_true rfl) ?_
            refine W.eq (g2 := F0 m 91 ls [.int r50]) rfl ?_
            refine lv_bipush (v := 9) hx hb dX12_cut_91 (by decide) ?_
            refine lv_icmp_eq (tgt := 126) hx hb dX12_cut_93 (by decide) (fun c52 => ?_) (fun c52 => ?_)
            · have hlt1 : i1 < sz := chin h51 (by rw [c52]; decide)
              refine lv_iinc (v := (nI (i1 + 1))) (lv' := [(1, .int (nI (i1 + 1))), (2, .int 1), (0, .ref h0)]) hx hb dX12_cut_126 hl (k := 0) rfl (nI_1 i1) (by decide) rfl (fun ls hl => ?_)
              refine lv_goto (tgt := 86) hx hb dX12_cut_129 (by decide) ?_
              have hP : va_P G.1 pCl (mW G h0 a (upd (upd (upd (upd F 4 (nI sz)) 9 (nI T)) 13 (nI us)) 14 (nI nm)) (updA (updA (updA (updA (updA (updA (updA B 2 g5) 3 g6) 4 g7) 5 g8) 6 g10) 7 g11) 8 g12)) H := hP
              have hD : va_D A (mW G h0 a (upd (upd (upd (upd F 4 (nI sz)) 9 (nI T)) 13 (nI us)) 14 (nI nm)) (updA (updA (updA (updA (updA (updA (updA B 2 g5) 3 g6) 4 g7) 5 g8) 6 g10) 7 g11) 8 g12)) := hD
              exact ih_b (i1 + 1) _ _ _ (by omega) (by omega) (by omega) hP hD hS (lv_sub hl [0, 1, 2] rfl)
            · refine lv_aload_n hx hb dX12_cut_96 rfl (lv_at hl 2 rfl) ?_
              refine lv_iload_n hx hb dX12_cut_97 rfl (lv_at hl 0 rfl) ?_
              have hP : va_P G.1 pCl (mW G h0 a (upd (upd (upd (upd (upd F 4 (nI sz)) 9 (nI T)) 13 (nI us)) 14 (nI nm)) 4 (nI sz)) (updA (updA (updA (updA (updA (updA (updA B 2 g5) 3 g6) 4 g7) 5 g8) 6 g10) 7 g11) 8 g12)) H := hP
              have hD : va_D A (mW G h0 a (upd (upd (upd (upd (upd F 4 (nI sz)) 9 (nI T)) 13 (nI us)) 14 (nI nm)) 4 (nI sz)) (updA (updA (updA (updA (updA (updA (updA B 2 g5) 3 g6) 4 g7) 5 g8) 6 g10) 7 g11) 8 g12)) := hD
              refine pc_V0 (G := G) (As := [.int (nI i1)]) (rest := []) hx hb hml hown hq hE hX pX0_al hP hD hS hA hl.1 (R_ch l G h0 a (upd (upd (upd (upd F 4 (nI sz)) 9 (nI T)) 13 (nI us)) 14 (nI nm)) (updA (updA (updA (updA (updA (updA (updA B 2 g5) 3 g6) 4 g7) 5 g8) 6 g10) 7 g11) 8 g12) i1 sz (by omega) (by omega)) (gV pw_1561 pw_1562 pw_1563 pw_1523 pw_1518) hV_X12_ch 0 9 rfl rfl rfl rfl (Nat.le_of_ble_eq_true rfl) dX12_cut_98 ⟨Nat.le_of_ble_eq_true rfl, Nat.le_of_ble_eq_true rfl⟩ ⟨Nat.le_of_ble_eq_true rfl, Nat.le_of_ble_eq_true rfl⟩ (fun v55 u53 H locs hw54 hP hD hS => ?_)
              obtain ⟨r56, rfl⟩ : ∃ z, z = u53 := ⟨_, rfl⟩
              obtain ⟨hw54, h57⟩ := hw54
              have h57 : r56 = (-1) ∨ i1 < sz ∧ r56 = (updA (updA (updA (updA (updA (updA (updA B 2 g5) 3 g6) 4 g7) 5 g8) 6 g10) 7 g11) 8 g12) 1 i1 := h57
              obtain rfl : v55 = some (.int r56) := hw54
              have hP : va_P G.1 pCl (mW G h0 a (upd (upd (upd (upd F 4 (nI sz)) 9 (nI T)) 13 (nI us)) 14 (nI nm)) (updA (updA (updA (updA (updA (updA (updA B 2 g5) 3 g6) 4 g7) 5 g8) 6 g10) 7 g11) 8 g12)) H := hP
              have hD : va_D A (mW G h0 a (upd (upd (upd (upd F 4 (nI sz)) 9 (nI T)) 13 (nI us)) 14 (nI nm)) (updA (updA (updA (updA (updA (updA (updA B 2 g5) 3 g6) 4 g7) 5 g8) 6 g10) 7 g11) 8 g12)) := hD
              refine W.widen (k := 0) (n := 0) (Nat.le_of_ble_eq_true rfl) (Nat.le_of_ble_eq_true rfl) ?_
              refine W.eq (g2 := F0 m 101 ls [.int r56]) rfl ?_
              refine lv_bipush (v := 10) hx hb dX12_cut_101 (by decide) ?_
              refine lv_icmp_eq (tgt := 126) hx hb dX12_cut_103 (by decide) (fun c58 => ?_) (fun c58 => ?_)
              · have hlt1 : i1 < sz := chin h57 (by rw [c58]; decide)
                refine lv_iinc (v := (nI (i1 + 1))) (lv' := [(1, .int (nI (i1 + 1))), (2, .int 1), (0, .ref h0)]) hx hb dX12_cut_126 hl (k := 0) rfl (nI_1 i1) (by decide) rfl (fun ls hl => ?_)
                refine lv_goto (tgt := 86) hx hb dX12_cut_129 (by decide) ?_
                have hP : va_P G.1 pCl (mW G h0 a (upd (upd (upd (upd F 4 (nI sz)) 9 (nI T)) 13 (nI us)) 14 (nI nm)) (updA (updA (updA (updA (updA (updA (updA B 2 g5) 3 g6) 4 g7) 5 g8) 6 g10) 7 g11) 8 g12)) H := hP
                have hD : va_D A (mW G h0 a (upd (upd (upd (upd F 4 (nI sz)) 9 (nI T)) 13 (nI us)) 14 (nI nm)) (updA (updA (updA (updA (updA (updA (updA B 2 g5) 3 g6) 4 g7) 5 g8) 6 g10) 7 g11) 8 g12)) := hD
                exact ih_b (i1 + 1) _ _ _ (by omega) (by omega) (by omega) hP hD hS (lv_sub hl [0, 1, 2] rfl)
              · refine lv_aload_n hx hb dX12_cut_106 rfl (lv_at hl 2 rfl) ?_
                refine lv_iload_n hx hb dX12_cut_107 rfl (lv_at hl 0 rfl) ?_
                have hP : va_P G.1 pCl (mW G h0 a (upd (upd (upd (upd (upd F 4 (nI sz)) 9 (nI T)) 13 (nI us)) 14 (nI nm)) 4 (nI sz)) (updA (updA (updA (updA (updA (updA (updA B 2 g5) 3 g6) 4 g7) 5 g8) 6 g10) 7 g11) 8 g12)) H := hP
                have hD : va_D A (mW G h0 a (upd (upd (upd (upd (upd F 4 (nI sz)) 9 (nI T)) 13 (nI us)) 14 (nI nm)) 4 (nI sz)) (updA (updA (updA (updA (updA (updA (updA B 2 g5) 3 g6) 4 g7) 5 g8) 6 g10) 7 g11) 8 g12)) := hD
                refine pc_V0 (G := G) (As := [.int (nI i1)]) (rest := []) hx hb hml hown hq hE hX pX0_al hP hD hS hA hl.1 (R_ch l G h0 a (upd (upd (upd (upd F 4 (nI sz)) 9 (nI T)) 13 (nI us)) 14 (nI nm)) (updA (updA (updA (updA (updA (updA (updA B 2 g5) 3 g6) 4 g7) 5 g8) 6 g10) 7 g11) 8 g12) i1 sz (by omega) (by omega)) (gV pw_1561 pw_1562 pw_1563 pw_1523 pw_1518) hV_X12_ch 0 9 rfl rfl rfl rfl (Nat.le_of_ble_eq_true rfl) dX12_cut_108 ⟨Nat.le_of_ble_eq_true rfl, Nat.le_of_ble_eq_true rfl⟩ ⟨Nat.le_of_ble_eq_true rfl, Nat.le_of_ble_eq_true rfl⟩ (fun v61 u59 H locs hw60 hP hD hS => ?_)
                obtain ⟨r62, rfl⟩ : ∃ z, z = u59 := ⟨_, rfl⟩
                obtain ⟨hw60, h63⟩ := hw60
                have h63 : r62 = (-1) ∨ i1 < sz ∧ r62 = (updA (updA (updA (updA (updA (updA (updA B 2 g5) 3 g6) 4 g7) 5 g8) 6 g10) 7 g11) 8 g12) 1 i1 := h63
                obtain rfl : v61 = some (.int r62) := hw60
                have hP : va_P G.1 pCl (mW G h0 a (upd (upd (upd (upd F 4 (nI sz)) 9 (nI T)) 13 (nI us)) 14 (nI nm)) (updA (updA (updA (updA (updA (updA (updA B 2 g5) 3 g6) 4 g7) 5 g8) 6 g10) 7 g11) 8 g12)) H := hP
                have hD : va_D A (mW G h0 a (upd (upd (upd (upd F 4 (nI sz)) 9 (nI T)) 13 (nI us)) 14 (nI nm)) (updA (updA (updA (updA (updA (updA (updA B 2 g5) 3 g6) 4 g7) 5 g8) 6 g10) 7 g11) 8 g12)) := hD
                refine W.widen (k := 0) (n := 0) (Nat.le_of_ble_eq_true rfl) (Nat.le_of_ble_eq_true rfl) ?_
                refine W.eq (g2 := F0 m 111 ls [.int r62]) rfl ?_
                refine lv_bipush (v := 13) hx hb dX12_cut_111 (by decide) ?_
                refine lv_icmp_eq (tgt := 126) hx hb dX12_cut_113 (by decide) (fun c64 => ?_) (fun c64 => ?_)
                · have hlt1 : i1 < sz := chin h63 (by rw [c64]; decide)
                  refine lv_iinc (v := (nI (i1 + 1))) (lv' := [(1, .int (nI (i1 + 1))), (2, .int 1), (0, .ref h0)]) hx hb dX12_cut_126 hl (k := 0) rfl (nI_1 i1) (by decide) rfl (fun ls hl => ?_)
                  refine lv_goto (tgt := 86) hx hb dX12_cut_129 (by decide) ?_
                  have hP : va_P G.1 pCl (mW G h0 a (upd (upd (upd (upd F 4 (nI sz)) 9 (nI T)) 13 (nI us)) 14 (nI nm)) (updA (updA (updA (updA (updA (updA (updA B 2 g5) 3 g6) 4 g7) 5 g8) 6 g10) 7 g11) 8 g12)) H := hP
                  have hD : va_D A (mW G h0 a (upd (upd (upd (upd F 4 (nI sz)) 9 (nI T)) 13 (nI us)) 14 (nI nm)) (updA (updA (updA (updA (updA (updA (updA B 2 g5) 3 g6) 4 g7) 5 g8) 6 g10) 7 g11) 8 g12)) := hD
                  exact ih_b (i1 + 1) _ _ _ (by omega) (by omega) (by omega) hP hD hS (lv_sub hl [0, 1, 2] rfl)
                · refine lv_aload_n hx hb dX12_cut_116 rfl (lv_at hl 2 rfl) ?_
                  refine lv_iload_n hx hb dX12_cut_117 rfl (lv_at hl 0 rfl) ?_
                  have hP : va_P G.1 pCl (mW G h0 a (upd (upd (upd (upd (upd F 4 (nI sz)) 9 (nI T)) 13 (nI us)) 14 (nI nm)) 4 (nI sz)) (updA (updA (updA (updA (updA (updA (updA B 2 g5) 3 g6) 4 g7) 5 g8) 6 g10) 7 g11) 8 g12)) H := hP
                  have hD : va_D A (mW G h0 a (upd (upd (upd (upd (upd F 4 (nI sz)) 9 (nI T)) 13 (nI us)) 14 (nI nm)) 4 (nI sz)) (updA (updA (updA (updA (updA (updA (updA B 2 g5) 3 g6) 4 g7) 5 g8) 6 g10) 7 g11) 8 g12)) := hD
                  refine pc_V0 (G := G) (As := [.int (nI i1)]) (rest := []) hx hb hml hown hq hE hX pX0_al hP hD hS hA hl.1 (R_ch l G h0 a (upd (upd (upd (upd F 4 (nI sz)) 9 (nI T)) 13 (nI us)) 14 (nI nm)) (updA (updA (updA (updA (updA (updA (updA B 2 g5) 3 g6) 4 g7) 5 g8) 6 g10) 7 g11) 8 g12) i1 sz (by omega) (by omega)) (gV pw_1561 pw_1562 pw_1563 pw_1523 pw_1518) hV_X12_ch 0 9 rfl rfl rfl rfl (Nat.le_of_ble_eq_true rfl) dX12_cut_118 ⟨Nat.le_of_ble_eq_true rfl, Nat.le_of_ble_eq_true rfl⟩ ⟨Nat.le_of_ble_eq_true rfl, Nat.le_of_ble_eq_true rfl⟩ (fun v67 u65 H locs hw66 hP hD hS => ?_)
                  obtain ⟨r68, rfl⟩ : ∃ z, z = u65 := ⟨_, rfl⟩
                  obtain ⟨hw66, h69⟩ := hw66
                  have h69 : r68 = (-1) ∨ i1 < sz ∧ r68 = (updA (updA (updA (updA (updA (updA (updA B 2 g5) 3 g6) 4 g7) 5 g8) 6 g10) 7 g11) 8 g12) 1 i1 := h69
                  obtain rfl : v67 = some (.int r68) := hw66
                  have hP : va_P G.1 pCl (mW G h0 a (upd (upd (upd (upd F 4 (nI sz)) 9 (nI T)) 13 (nI us)) 14 (nI nm)) (updA (updA (updA (updA (updA (updA (updA B 2 g5) 3 g6) 4 g7) 5 g8) 6 g10) 7 g11) 8 g12)) H := hP
                  have hD : va_D A (mW G h0 a (upd (upd (upd (upd F 4 (nI sz)) 9 (nI T)) 13 (nI us)) 14 (nI nm)) (updA (updA (updA (updA (updA (updA (updA B 2 g5) 3 g6) 4 g7) 5 g8) 6 g10) 7 g11) 8 g12)) := hD
                  refine W.widen (k := 0) (n := 0) (Nat.le_of_ble_eq_true rfl) (Nat.le_of_ble_eq_true rfl) ?_
                  refine W.eq (g2 := F0 m 121 ls [.int r68]) rfl ?_
                  refine lv_bipush (v := 32) hx hb dX12_cut_121 (by decide) ?_
                  refine lv_icmp_ne (tgt := 132) hx hb dX12_cut_123 (by decide) (fun c70 => ?_) (fun c70 => ?_)
                  · refine lv_aload_n hx hb dX12_cut_132 rfl (lv_at hl 2 rfl) ?_
                    refine lv_iload_n hx hb dX12_cut_133 rfl (lv_at hl 0 rfl) ?_
                    have hP : va_P G.1 pCl (mW G h0 a (upd (upd (upd (upd (upd F 4 (nI sz)) 9 (nI T)) 13 (nI us)) 14 (nI nm)) 4 (nI sz)) (updA (updA (updA (updA (updA (updA (updA B 2 g5) 3 g6) 4 g7) 5 g8) 6 g10) 7 g11) 8 g12)) H := hP
                    have hD : va_D A (mW G h0 a (upd (upd (upd (upd (upd F 4 (nI sz)) 9 (nI T)) 13 (nI us)) 14 (nI nm)) 4 (nI sz)) (updA (updA (updA (updA (updA (updA (updA B 2 g5) 3 g6) 4 g7) 5 g8) 6 g10) 7 g11) 8 g12)) := hD
                    refine pc_V0 (G := G) (As := [.int (nI i1)]) (rest := []) hx hb hml hown hq hE hX pX0_al hP hD hS hA hl.1 (R_ch l G h0 a (upd (upd (upd (upd F 4 (nI sz)) 9 (nI T)) 13 (nI us)) 14 (nI nm)) (updA (updA (updA (updA (updA (updA (updA B 2 g5) 3 g6) 4 g7) 5 g8) 6 g10) 7 g11) 8 g12) i1 sz (by omega) (by omega)) (gV pw_1561 pw_1562 pw_1563 pw_1523 pw_1518) hV_X12_ch 0 9 rfl rfl rfl rfl (Nat.le_of_ble_eq_true rfl) dX12_cut_134 ⟨Nat.le_of_ble_eq_true rfl, Nat.le_of_ble_eq_true rfl⟩ ⟨Nat.le_of_ble_eq_true rfl, Nat.le_of_ble_eq_true rfl⟩ (fun v73 u71 H locs hw72 hP hD hS => ?_)
                    obtain ⟨r74, rfl⟩ : ∃ z, z = u71 := ⟨_, rfl⟩
                    obtain ⟨hw72, h75⟩ := hw72
                    have h75 : r74 = (-1) ∨ i1 < sz ∧ r74 = (updA (updA (updA (updA (updA (updA (updA B 2 g5) 3 g6) 4 g7) 5 g8) 6 g10) 7 g11) 8 g12) 1 i1 := h75
                    obtain rfl : v73 = some (.int r74) := hw72
                    have hP : va_P G.1 pCl (mW G h0 a (upd (upd (upd (upd F 4 (nI sz)) 9 (nI T)) 13 (nI us)) 14 (nI nm)) (updA (updA (updA (updA (updA (updA (updA B 2 g5) 3 g6) 4 g7) 5 g8) 6 g10) 7 g11) 8 g12)) H := hP
                    have hD : va_D A (mW G h0 a (upd (upd (upd (upd F 4 (nI sz)) 9 (nI T)) 13 (nI us)) 14 (nI nm)) (updA (updA (updA (updA (updA (updA (updA B 2 g5) 3 g6) 4 g7) 5 g8) 6 g10) 7 g11) 8 g12)) := hD
                    refine W.widen (k := 0) (n := 0) (Nat.le_of_ble_eq_true rfl) (Nat.le_of_ble_eq_true rfl) ?_
                    refine W.eq (g2 := F0 m 137 ls [.int r74]) rfl ?_
                    refine lv_bipush (v := 47) hx hb dX12_cut_137 (by decide) ?_
                    refine lv_icmp_ne (tgt := 178) hx hb dX12_cut_139 (by decide) (fun c76 => ?_) (fun c76 => ?_)
                    · have cut_j : ∀ (kd : Int32) (vl : Int32) (t2 : Nat) (nm2 : Nat) (us2 : Nat) (h10 : Nat → Int32) (h11 : Nat → Int32) (h12 : Nat → Int32) (H : Heap) (locs : List Loc) (ls : Array Slot), (i1 ≤ t2) → (t2 ≤ sz) → (kd = 0 ∨ i1 < t2) → (nm ≤ nm2) → (nm2 ≤ 9 + t2) → (us2 ≤ 40 + t2) → (rNm nm2 us2 h10 h11) → (kd = 1 → ∃ k : Nat, k < nm2 ∧ vl = nI k) → va_P G.1 pCl (mW G h0 a (upd (upd (upd (upd F 4 (nI sz)) 9 (nI T)) 13 (nI us2)) 14 (nI nm2)) (updA (updA (updA (updA (updA (updA (updA B 2 g5) 3 g6) 4 g7) 5 g8) 6 h10) 7 h11) 8 h12)) H → va_D A (mW G h0 a (upd (upd (upd (upd F 4 (nI sz)) 9 (nI T)) 13 (nI us2)) 14 (nI nm2)) (updA (updA (updA (updA (updA (updA (updA B 2 g5) 3 g6) 4 g7) 5 g8) 6 h10) 7 h11) 8 h12)) → va_S A s.heap H locs → lv_has ls 9 [(1, .int (nI i1)), (2, .int 1), (3, .int (nI t2)), (4, .int kd), (5, .int vl), (0, .ref h0)] → W p l e (headSpec (Cond.code yX12_cut cX12_cut 9 none :: pw) ({ frames := 7, cells := 0, slots := 0, locals := 174 } : Room)).room s m ([.ref h0] : List Value).toArray below meth c H locs 0 0 (MQ below (pQ G A (fun (v : Option Value) (u : Nat × Nat × Nat × (Nat → Int32) × (Nat → Int32) × (Nat → Int32) × (Nat → Int32) × (Nat → Int32) × (Nat → Int32) × (Nat → Int32)) => v = none ∧ (u.1 ≤ sz) ∧ (u.2.2.2.2.2.2.1 u.1 = 0 ∨ u.2.2.2.2.2.2.1 u.1 = 3) ∧ (rNm u.2.1 u.2.2.1 u.2.2.2.1 u.2.2.2.2.1) ∧ (u.2.1 ≤ 9 + sz) ∧ (u.2.2.1 ≤ 40 + sz) ∧ (rTk u.1 u.2.1 u.2.2.2.2.2.2.1 u.2.2.2.2.2.2.2.2.2) ∧ (9 ≤ u.2.1)) (fun u => (mW G h0 a (upd (upd (upd (upd F 4 (nI sz)) 9 (nI u.1)) 13 (nI u.2.2.1)) 14 (nI u.2.1)) (updA (updA (updA (updA (updA (updA (updA B 2 u.2.2.2.2.2.2.1) 3 u.2.2.2.2.2.2.2.1) 4 u.2.2.2.2.2.2.2.2.1) 5 u.2.2.2.2.2.2.2.2.2) 6 u.2.2.2.1) 7 u.2.2.2.2.1) 8 u.2.2.2.2.2.1)))) ([.ref h0] : List Value).toArray s ({ frames := 7, cells := 0, slots := 0, locals := 174 } : Room).cells ({ frames := 7, cells := 0, slots := 0, locals := 174 } : Room).slots A) (F0 m 472 ls []) := by
                        intro kd vl t2 nm2 us2 h10 h11 h12 H locs ls ht2 ht3 hp2 hn2 hn3 hu2 hR2 hv2 hP hD hS hl
                        refine lv_aload_n hx hb dX12_cut_472 rfl (lv_at hl 5 rfl) ?_
                        refine r_get (v := .ref (a 2)) hx hb hown hq hE hP 5 16 tFX12_5 (by decide) pw_1432 rfl dX12_cut_473 ?_
                        refine lv_aload_n hx hb dX12_cut_476 rfl (lv_at hl 5 rfl) ?_
                        refine r_get (v := .int (nI T)) hx hb hown hq hE hP 9 314 tFX12_9 (by decide) pw_1568 rfl dX12_cut_477 ?_
                        refine lv_iload hx hb dX12_cut_480 (lv_at hl 3 rfl) ?_
                        refine r_sti (f := g5) (j := T) hx hb hE hP hD hS 2 (ma_2 G a _) rfl (mas_2 G a _ _) (by omega) (by decide) dX12_cut_482 (fun H locs hP hD hS => ?_)
                        refine lv_aload_n hx hb dX12_cut_483 rfl (lv_at hl 5 rfl) ?_
                        refine r_get (v := .ref (a 3)) hx hb hown hq hE hP 6 19 tFX12_6 (by decide) pw_1433 rfl dX12_cut_484 ?_
                        refine lv_aload_n hx hb dX12_cut_487 rfl (lv_at hl 5 rfl) ?_
                        refine r_get (v := .int (nI T)) hx hb hown hq hE hP 9 314 tFX12_9 (by decide) pw_1568 rfl dX12_cut_488 ?_
                        refine lv_iload_n hx hb dX12_cut_491 rfl (lv_at hl 0 rfl) ?_
                        refine r_sti (f := g6) (j := T) hx hb hE hP hD hS 3 (ma_3 G a _) rfl (mas_3 G a _ _) (by omega) (by decide) dX12_cut_492 (fun H locs hP hD hS => ?_)
                        refine lv_aload_n hx hb dX12_cut_493 rfl (lv_at hl 5 rfl) ?_
                        refine r_get (v := .ref (a 4)) hx hb hown hq hE hP 7 22 tFX12_7 (by decide) pw_1434 rfl dX12_cut_494 ?_
                        refine lv_aload_n hx hb dX12_cut_497 rfl (lv_at hl 5 rfl) ?_
                        refine r_get (v := .int (nI T)) hx hb hown hq hE hP 9 314 tFX12_9 (by decide) pw_1568 rfl dX12_cut_498 ?_
                        refine lv_iload_n hx hb dX12_cut_501 rfl (lv_at hl 2 rfl) ?_
                        refine r_sti (f := g7) (j := T) hx hb hE hP hD hS 4 (ma_4 G a _) rfl (mas_4 G a _ _) (by omega) (by decide) dX12_cut_502 (fun H locs hP hD hS => ?_)
                        refine lv_aload_n hx hb dX12_cut_503 rfl (lv_at hl 5 rfl) ?_
                        refine r_get (v := .ref (a 5)) hx hb hown hq hE hP 8 25 tFX12_8 (by decide) pw_1435 rfl dX12_cut_504 ?_
                        refine lv_aload_n hx hb dX12_cut_507 rfl (lv_at hl 5 rfl) ?_
                        refine r_get (v := .int (nI T)) hx hb hown hq hE hP 9 314 tFX12_9 (by decide) pw_1568 rfl dX12_cut_508 ?_
                        refine lv_iload hx hb dX12_cut_511 (lv_at hl 4 rfl) ?_
                        refine r_sti (f := g8) (j := T) hx hb hE hP hD hS 5 (ma_5 G a _) rfl (mas_5 G a _ _) (by omega) (by decide) dX12_cut_513 (fun H locs hP hD hS => ?_)
                        refine lv_iload hx hb dX12_cut_514 (lv_at hl 3 rfl) ?_
                        refine lv_if_eq (tgt := 529) hx hb dX12_cut_516 (by decide) (fun c77 => ?_) (fun c77 => ?_)
                        · refine lv_iconst (v := 0) hx hb dX12_cut_529 (by decide) ?_
                          refine lv_istore_n (lv' := [(2, .int 0), (1, .int (nI i1)), (3, .int (nI t2)), (4, .int kd), (5, .int vl), (0, .ref h0)]) hx hb dX12_cut_530 rfl hl (by decide) rfl (fun ls hl => ?_)
                          refine lv_aload_n hx hb dX12_cut_531 rfl (lv_at hl 5 rfl) ?_
                          refine lv_dup hx hb dX12_cut_532 rfl ?_
                          refine r_get (v := .int (nI T)) hx hb hown hq hE hP 9 314 tFX12_9 (by decide) pw_1568 rfl dX12_cut_533 ?_
                          refine lv_iload_n hx hb dX12_cut_536 rfl (lv_at hl 0 rfl) ?_
                          refine lv_if_eq (tgt := 544) hx hb dX12_cut_537 (by decide) (fun c78 => ?_) (fun c78 => absurd c78 (by decide))
                          refine lv_iconst (v := 0) hx hb dX12_cut_544 (by decide) ?_
                          refine lv_iadd hx hb dX12_cut_545 ?_
                          refine lv_topi (fun x79 e80 => ?_)
                          obtain rfl : x79 = nI (T + 0) := e80.trans (nI_add (T) (0))
                          refine r_put (v := (nI (T + 0))) hx hb hown hq hE hP hD hS 9 314 tFX12_9 (by decide) pw_1568 (by decide) rfl rfl (ms_9 a _ _) dX12_cut_546 (fun H locs hP hD hS => ?_)
                          refine lv_iload_n hx hb dX12_cut_549 rfl (lv_at hl 2 rfl) ?_
                          refine lv_istore_n (lv' := [(1, .int (nI t2)), (2, .int 0), (3, .int (nI t2)), (4, .int kd), (5, .int vl), (0, .ref h0)]) hx hb dX12_cut_550 rfl hl (by decide) rfl (fun ls hl => ?_)
                          refine lv_goto (tgt := 82) hx hb dX12_cut_551 (by decide) ?_
                          have hP : va_P G.1 pCl (mW G h0 a (upd (upd (upd (upd F 4 (nI sz)) 9 (nI (T + 0))) 13 (nI us2)) 14 (nI nm2)) (updA (updA (updA (updA (updA (updA (updA B 2 (upd g5 T kd)) 3 (upd g6 T (nI i1))) 4 (upd g7 T (nI t2))) 5 (upd g8 T vl)) 6 h10) 7 h11) 8 h12)) H := hP
                          have hD : va_D A (mW G h0 a (upd (upd (upd (upd F 4 (nI sz)) 9 (nI (T + 0))) 13 (nI us2)) 14 (nI nm2)) (updA (updA (updA (updA (updA (updA (updA B 2 (upd g5 T kd)) 3 (upd g6 T (nI i1))) 4 (upd g7 T (nI t2))) 5 (upd g8 T vl)) 6 h10) 7 h11) 8 h12)) := hD
                          exact ih_o (t2 + 1) t2 (T + 0) nm2 us2 0 h10 h11 h12 (upd g5 T kd) (upd g6 T (nI i1)) (upd g7 T (nI t2)) (upd g8 T vl) _ _ _ (by omega) (by omega) (Or.inr ⟨rfl, rfl⟩) (by omega) (by omega) (by omega) (by omega) (fun _ => Or.inl (by unfold upd; rw [if_pos rfl]; exact c77)) hR2 (rTk_up2 hTk hn2) (by omega) hP hD hS (lv_sub hl [0, 1, 5] rfl)
                        · refine lv_iload hx hb dX12_cut_519 (lv_at hl 3 rfl) ?_
                          refine lv_iconst (v := 3) hx hb dX12_cut_521 (by decide) ?_
                          refine lv_icmp_eq (tgt := 529) hx hb dX12_cut_522 (by decide) (fun c81 => ?_) (fun c81 => ?_)
                          · refine lv_iconst (v := 0) hx hb dX12_cut_529 (by decide) ?_
                            refine lv_istore_n (lv' := [(2, .int 0), (1, .int (nI i1)), (3, .int (nI t2)), (4, .int kd), (5, .int vl), (0, .ref h0)]) hx hb dX12_cut_530 rfl hl (by decide) rfl (fun ls hl => ?_)
                            refine lv_aload_n hx hb dX12_cut_531 rfl (lv_at hl 5 rfl) ?_
                            refine lv_dup hx hb dX12_cut_532 rfl ?_
                            refine r_get (v := .int (nI T)) hx hb hown hq hE hP 9 314 tFX12_9 (by decide) pw_1568 rfl dX12_cut_533 ?_
                            refine lv_iload_n hx hb dX12_cut_536 rfl (lv_at hl 0 rfl) ?_
                            refine lv_if_eq (tgt := 544) hx hb dX12_cut_537 (by decide) (fun c82 => ?_) (fun c82 => absurd c82 (by decide))
                            refine lv_iconst (v := 0) hx hb dX12_cut_544 (by decide) ?_
                            refine lv_iadd hx hb dX12_cut_545 ?_
                            refine lv_topi (fun x83 e84 => ?_)
                            obtain rfl : x83 = nI (T + 0) := e84.trans (nI_add (T) (0))
                            refine r_put (v := (nI (T + 0))) hx hb hown hq hE hP hD hS 9 314 tFX12_9 (by decide) pw_1568 (by decide) rfl rfl (ms_9 a _ _) dX12_cut_546 (fun H locs hP hD hS => ?_)
                            refine lv_iload_n hx hb dX12_cut_549 rfl (lv_at hl 2 rfl) ?_
                            refine lv_istore_n (lv' := [(1, .int (nI t2)), (2, .int 0), (3, .int (nI t2)), (4, .int kd), (5, .int vl), (0, .ref h0)]) hx hb dX12_cut_550 rfl hl (by decide) rfl (fun ls hl => ?_)
                            refine lv_goto (tgt := 82) hx hb dX12_cut_551 (by decide) ?_
                            have hP : va_P G.1 pCl (mW G h0 a (upd (upd (upd (upd F 4 (nI sz)) 9 (nI (T + 0))) 13 (nI us2)) 14 (nI nm2)) (updA (updA (updA (updA (updA (updA (updA B 2 (upd g5 T kd)) 3 (upd g6 T (nI i1))) 4 (upd g7 T (nI t2))) 5 (upd g8 T vl)) 6 h10) 7 h11) 8 h12)) H := hP
                            have hD : va_D A (mW G h0 a (upd (upd (upd (upd F 4 (nI sz)) 9 (nI (T + 0))) 13 (nI us2)) 14 (nI nm2)) (updA (updA (updA (updA (updA (updA (updA B 2 (upd g5 T kd)) 3 (upd g6 T (nI i1))) 4 (upd g7 T (nI t2))) 5 (upd g8 T vl)) 6 h10) 7 h11) 8 h12)) := hD
                            exact ih_o (t2 + 1) t2 (T + 0) nm2 us2 0 h10 h11 h12 (upd g5 T kd) (upd g6 T (nI i1)) (upd g7 T (nI t2)) (upd g8 T vl) _ _ _ (by omega) (by omega) (Or.inr ⟨rfl, rfl⟩) (by omega) (by omega) (by omega) (by omega) (fun _ => Or.inr (by unfold upd; rw [if_pos rfl]; exact c81)) hR2 (rTk_up2 hTk hn2) (by omega) hP hD hS (lv_sub hl [0, 1, 5] rfl)
                          · refine lv_iconst (v := 1) hx hb dX12_cut_525 (by decide) ?_
                            refine lv_goto (tgt := 530) hx hb dX12_cut_526 (by decide) ?_
                            refine lv_istore_n (lv' := [(2, .int 1), (1, .int (nI i1)), (3, .int (nI t2)), (4, .int kd), (5, .int vl), (0, .ref h0)]) hx hb dX12_cut_530 rfl hl (by decide) rfl (fun ls hl => ?_)
                            refine lv_aload_n hx hb dX12_cut_531 rfl (lv_at hl 5 rfl) ?_
                            refine lv_dup hx hb dX12_cut_532 rfl ?_
                            refine r_get (v := .int (nI T)) hx hb hown hq hE hP 9 314 tFX12_9 (by decide) pw_1568 rfl dX12_cut_533 ?_
                            refine lv_iload_n hx hb dX12_cut_536 rfl (lv_at hl 0 rfl) ?_
                            refine lv_if_eq (tgt := 544) hx hb dX12_cut_537 (by decide) (fun c85 => absurd c85 (by decide)) (fun c85 => ?_)
                            refine lv_iconst (v := 1) hx hb dX12_cut_540 (by decide) ?_
                            refine lv_goto (tgt := 545) hx hb dX12_cut_541 (by decide) ?_
                            refine lv_iadd hx hb dX12_cut_545 ?_
                            refine lv_topi (fun x86 e87 => ?_)
                            obtain rfl : x86 = nI (T + 1) := e87.trans (nI_add (T) (1))
                            refine r_put (v := (nI (T + 1))) hx hb hown hq hE hP hD hS 9 314 tFX12_9 (by decide) pw_1568 (by decide) rfl rfl (ms_9 a _ _) dX12_cut_546 (fun H locs hP hD hS => ?_)
                            refine lv_iload_n hx hb dX12_cut_549 rfl (lv_at hl 2 rfl) ?_
                            refine lv_istore_n (lv' := [(1, .int (nI t2)), (2, .int 1), (3, .int (nI t2)), (4, .int kd), (5, .int vl), (0, .ref h0)]) hx hb dX12_cut_550 rfl hl (by decide) rfl (fun ls hl => ?_)
                            refine lv_goto (tgt := 82) hx hb dX12_cut_551 (by decide) ?_
                            have hp3 : i1 < t2 := hp2.resolve_left c77
                            have hP : va_P G.1 pCl (mW G h0 a (upd (upd (upd (upd F 4 (nI sz)) 9 (nI (T + 1))) 13 (nI us2)) 14 (nI nm2)) (updA (updA (updA (updA (updA (updA (updA B 2 (upd g5 T kd)) 3 (upd g6 T (nI i1))) 4 (upd g7 T (nI t2))) 5 (upd g8 T vl)) 6 h10) 7 h11) 8 h12)) H := hP
                            have hD : va_D A (mW G h0 a (upd (upd (upd (upd F 4 (nI sz)) 9 (nI (T + 1))) 13 (nI us2)) 14 (nI nm2)) (updA (updA (updA (updA (updA (updA (updA B 2 (upd g5 T kd)) 3 (upd g6 T (nI i1))) 4 (upd g7 T (nI t2))) 5 (upd g8 T vl)) 6 h10) 7 h11) 8 h12)) := hD
                            exact ih_o t2 t2 (T + 1) nm2 us2 1 h10 h11 h12 (upd g5 T kd) (upd g6 T (nI i1)) (upd g7 T (nI t2)) (upd g8 T vl) _ _ _ (by omega) (by omega) (Or.inl ⟨rfl, rfl⟩) (by omega) (by omega) (by omega) (by omega) (fun h9 => absurd h9 (by decide)) hR2 (rTk_upd hTk hn2 hv2) (by omega) hP hD hS (lv_sub hl [0, 1, 5] rfl)
                      refine lv_iload_n hx hb dX12_cut_178 rfl (lv_at hl 0 rfl) ?_
                      refine lv_iconst (v := 1) hx hb dX12_cut_179 (by decide) ?_
                      refine lv_iadd hx hb dX12_cut_180 ?_
                      refine lv_topi (fun x88 e89 => ?_)
                      obtain rfl : x88 = nI (i1 + 1) := e89.trans (nI_add (i1) (1))
                      refine lv_istore_n (lv' := [(3, .int (nI (i1 + 1))), (1, .int (nI i1)), (2, .int 1), (0, .ref h0)]) hx hb dX12_cut_181 rfl hl (by decide) rfl (fun ls hl => ?_)
                      refine lv_iconst (v := 0) hx hb dX12_cut_182 (by decide) ?_
                      refine lv_istore (lv' := [(4, .int 0), (3, .int (nI (i1 + 1))), (1, .int (nI i1)), (2, .int 1), (0, .ref h0)]) hx hb dX12_cut_183 hl (by decide) rfl (fun ls hl => ?_)
                      refine lv_iconst (v := 0) hx hb dX12_cut_185 (by decide) ?_
                      refine lv_istore (lv' := [(5, .int 0), (4, .int 0), (3, .int (nI (i1 + 1))), (1, .int (nI i1)), (2, .int 1), (0, .ref h0)]) hx hb dX12_cut_186 hl (by decide) rfl (fun ls hl => ?_)
                      refine lv_iload_n hx hb dX12_cut_188 rfl (lv_at hl 3 rfl) ?_
                      refine lv_aload_n hx hb dX12_cut_189 rfl (lv_at hl 5 rfl) ?_
                      refine r_get (v := .int (nI sz)) hx hb hown hq hE hP 4 258 tFX12_4 (by decide) pw_1519 rfl dX12_cut_190 ?_
                      refine lv_icmp_lt (tgt := 201) hx hb dX12_cut_193 (by decide) (fun c90 => ?_) (fun c90 => ?_)
                      · have n91 : i1 < sz := (nI_ltI (a := i1) (b := sz) (by omega) (by omega)).mp c90
                        refine lv_aload_n hx hb dX12_cut_201 rfl (lv_at hl 5 rfl) ?_
                        refine lv_iload_n hx hb dX12_cut_202 rfl (lv_at hl 3 rfl) ?_
                        have hP : va_P G.1 pCl (mW G h0 a (upd (upd (upd (upd (upd F 4 (nI sz)) 9 (nI T)) 13 (nI us)) 14 (nI nm)) 4 (nI sz)) (updA (updA (updA (updA (updA (updA (updA B 2 g5) 3 g6) 4 g7) 5 g8) 6 g10) 7 g11) 8 g12)) H := hP
                        have hD : va_D A (mW G h0 a (upd (upd (upd (upd (upd F 4 (nI sz)) 9 (nI T)) 13 (nI us)) 14 (nI nm)) 4 (nI sz)) (updA (updA (updA (updA (updA (updA (updA B 2 g5) 3 g6) 4 g7) 5 g8) 6 g10) 7 g11) 8 g12)) := hD
                        refine pc_V0 (G := G) (As := [.int (nI i1)]) (rest := []) hx hb hml hown hq hE hX pX0_al hP hD hS hA hl.1 (R_ch l G h0 a (upd (upd (upd (upd F 4 (nI sz)) 9 (nI T)) 13 (nI us)) 14 (nI nm)) (updA (updA (updA (updA (updA (updA (updA B 2 g5) 3 g6) 4 g7) 5 g8) 6 g10) 7 g11) 8 g12) i1 sz (by omega) (by omega)) (gV pw_1561 pw_1562 pw_1563 pw_1523 pw_1518) hV_X12_ch 0 9 rfl rfl rfl rfl (Nat.le_of_ble_eq_true rfl) dX12_cut_203 ⟨Nat.le_of_ble_eq_true rfl, Nat.le_of_ble_eq_true rfl⟩ ⟨Nat.le_of_ble_eq_true rfl, Nat.le_of_ble_eq_true rfl⟩ (fun v94 u92 H locs hw93 hP hD hS => ?_)
                        obtain ⟨r95, rfl⟩ : ∃ z, z = u92 := ⟨_, rfl⟩
                        obtain ⟨hw93, h96⟩ := hw93
                        have h96 : r95 = (-1) ∨ i1 < sz ∧ r95 = (updA (updA (updA (updA (updA (updA (updA B 2 g5) 3 g6) 4 g7) 5 g8) 6 g10) 7 g11) 8 g12) 1 i1 := h96
                        obtain rfl : v94 = some (.int r95) := hw93
                        have hP : va_P G.1 pCl (mW G h0 a (upd (upd (upd (upd F 4 (nI sz)) 9 (nI T)) 13 (nI us)) 14 (nI nm)) (updA (updA (updA (updA (updA (updA (updA B 2 g5) 3 g6) 4 g7) 5 g8) 6 g10) 7 g11) 8 g12)) H := hP
                        have hD : va_D A (mW G h0 a (upd (upd (upd (upd F 4 (nI sz)) 9 (nI T)) 13 (nI us)) 14 (nI nm)) (updA (updA (updA (updA (updA (updA (updA B 2 g5) 3 g6) 4 g7) 5 g8) 6 g10) 7 g11) 8 g12)) := hD
                        refine W.widen (k := 0) (n := 0) (Nat.le_of_ble_eq_true rfl) (Nat.le_of_ble_eq_true rfl) ?_
                        refine W.eq (g2 := F0 m 206 ls [.int r95]) rfl ?_
                        refine pc_SN (G := G) (As := [.int r95]) (rest := []) hx hb hml hown hq hE hX pX0_al hP hS hA hl.1 (s_isLetter l G r95) (gS pw_1575 pw_1576 pw_1523 pw_1520) hS_X12_isLetter rfl (Nat.le_of_ble_eq_true rfl) dX12_cut_206 ⟨Nat.le_of_ble_eq_true rfl, Nat.le_of_ble_eq_true rfl⟩ ⟨Nat.le_of_ble_eq_true rfl, Nat.le_of_ble_eq_true rfl⟩ (fun v99 u97 H locs hw98 hP hS => ?_)
                        obtain ⟨x100, rfl, hr101, hr102⟩ := hw98
                        refine W.widen (k := 0) (n := 0) (Nat.le_of_ble_eq_true rfl) (Nat.le_of_ble_eq_true rfl) ?_
                        refine W.eq (g2 := F0 m 209 ls [.int x100]) rfl ?_
                        refine lv_if_eq (tgt := 285) hx hb dX12_cut_209 (by decide) (fun c103 => ?_) (fun c103 => ?_)
                        · refine lv_aload_n hx hb dX12_cut_285 rfl (lv_at hl 5 rfl) ?_
                          refine lv_iload_n hx hb dX12_cut_286 rfl (lv_at hl 3 rfl) ?_
                          have hP : va_P G.1 pCl (mW G h0 a (upd (upd (upd (upd (upd F 4 (nI sz)) 9 (nI T)) 13 (nI us)) 14 (nI nm)) 4 (nI sz)) (updA (updA (updA (updA (updA (updA (updA B 2 g5) 3 g6) 4 g7) 5 g8) 6 g10) 7 g11) 8 g12)) H := hP
                          have hD : va_D A (mW G h0 a (upd (upd (upd (upd (upd F 4 (nI sz)) 9 (nI T)) 13 (nI us)) 14 (nI nm)) 4 (nI sz)) (updA (updA (updA (updA (updA (updA (updA B 2 g5) 3 g6) 4 g7) 5 g8) 6 g10) 7 g11) 8 g12)) := hD
                          refine pc_V0 (G := G) (As := [.int (nI i1)]) (rest := []) hx hb hml hown hq hE hX pX0_al hP hD hS hA hl.1 (R_ch l G h0 a (upd (upd (upd (upd F 4 (nI sz)) 9 (nI T)) 13 (nI us)) 14 (nI nm)) (updA (updA (updA (updA (updA (updA (updA B 2 g5) 3 g6) 4 g7) 5 g8) 6 g10) 7 g11) 8 g12) i1 sz (by omega) (by omega)) (gV pw_1561 pw_1562 pw_1563 pw_1523 pw_1518) hV_X12_ch 0 9 rfl rfl rfl rfl (Nat.le_of_ble_eq_true rfl) dX12_cut_287 ⟨Nat.le_of_ble_eq_true rfl, Nat.le_of_ble_eq_true rfl⟩ ⟨Nat.le_of_ble_eq_true rfl, Nat.le_of_ble_eq_true rfl⟩ (fun v106 u104 H locs hw105 hP hD hS => ?_)
                          obtain ⟨r107, rfl⟩ : ∃ z, z = u104 := ⟨_, rfl⟩
                          obtain ⟨hw105, h108⟩ := hw105
                          have h108 : r107 = (-1) ∨ i1 < sz ∧ r107 = (updA (updA (updA (updA (updA (updA (updA B 2 g5) 3 g6) 4 g7) 5 g8) 6 g10) 7 g11) 8 g12) 1 i1 := h108
                          obtain rfl : v106 = some (.int r107) := hw105
                          have hP : va_P G.1 pCl (mW G h0 a (upd (upd (upd (upd F 4 (nI sz)) 9 (nI T)) 13 (nI us)) 14 (nI nm)) (updA (updA (updA (updA (updA (updA (updA B 2 g5) 3 g6) 4 g7) 5 g8) 6 g10) 7 g11) 8 g12)) H := hP
                          have hD : va_D A (mW G h0 a (upd (upd (upd (upd F 4 (nI sz)) 9 (nI T)) 13 (nI us)) 14 (nI nm)) (updA (updA (updA (updA (updA (updA (updA B 2 g5) 3 g6) 4 g7) 5 g8) 6 g10) 7 g11) 8 g12)) := hD
                          refine W.widen (k := 0) (n := 0) (Nat.le_of_ble_eq_true rfl) (Nat.le_of_ble_eq_true rfl) ?_
                          refine W.eq (g2 := F0 m 290 ls [.int r107]) rfl ?_
                          refine pc_SN (G := G) (As := [.int r107]) (rest := []) hx hb hml hown hq hE hX pX0_al hP hS hA hl.1 (s_isDigit l G r107) (gS pw_1577 pw_1578 pw_1523 pw_1524) hS_X12_isDigit rfl (Nat.le_of_ble_eq_true rfl) dX12_cut_290 ⟨Nat.le_of_ble_eq_true rfl, Nat.le_of_ble_eq_true rfl⟩ ⟨Nat.le_of_ble_eq_true rfl, Nat.le_of_ble_eq_true rfl⟩ (fun v111 u109 H locs hw110 hP hS => ?_)
                          obtain ⟨x112, rfl, hr113, hr114⟩ := hw110
                          refine W.widen (k := 0) (n := 0) (Nat.le_of_ble_eq_true rfl) (Nat.le_of_ble_eq_true rfl) ?_
                          refine W.eq (g2 := F0 m 293 ls [.int x112]) rfl ?_
                          refine lv_if_eq (tgt := 433) hx hb dX12_cut_293 (by decide) (fun c115 => ?_) (fun c115 => ?_)
                          · refine lv_aload_n hx hb dX12_cut_433 rfl (lv_at hl 5 rfl) ?_
                            refine lv_iload_n hx hb dX12_cut_434 rfl (lv_at hl 3 rfl) ?_
                            have hP : va_P G.1 pCl (mW G h0 a (upd (upd (upd (upd (upd F 4 (nI sz)) 9 (nI T)) 13 (nI us)) 14 (nI nm)) 4 (nI sz)) (updA (updA (updA (updA (updA (updA (updA B 2 g5) 3 g6) 4 g7) 5 g8) 6 g10) 7 g11) 8 g12)) H := hP
                            have hD : va_D A (mW G h0 a (upd (upd (upd (upd (upd F 4 (nI sz)) 9 (nI T)) 13 (nI us)) 14 (nI nm)) 4 (nI sz)) (updA (updA (updA (updA (updA (updA (updA B 2 g5) 3 g6) 4 g7) 5 g8) 6 g10) 7 g11) 8 g12)) := hD
                            refine pc_V0 (G := G) (As := [.int (nI i1)]) (rest := []) hx hb hml hown hq hE hX pX0_al hP hD hS hA hl.1 (R_sign l G h0 a (upd (upd (upd (upd F 4 (nI sz)) 9 (nI T)) 13 (nI us)) 14 (nI nm)) (updA (updA (updA (updA (updA (updA (updA B 2 g5) 3 g6) 4 g7) 5 g8) 6 g10) 7 g11) 8 g12) i1 sz (by omega) (by omega) htx) (gV pw_1585 pw_1586 pw_1587 pw_1523 pw_1567) hV_X12_sign 0 9 rfl rfl rfl rfl (Nat.le_of_ble_eq_true rfl) dX12_cut_435 ⟨Nat.le_of_ble_eq_true rfl, Nat.le_of_ble_eq_true rfl⟩ ⟨Nat.le_of_ble_eq_true rfl, Nat.le_of_ble_eq_true rfl⟩ (fun v118 u116 H locs hw117 hP hD hS => ?_)
                            obtain ⟨r119, rfl⟩ : ∃ z, z = u116 := ⟨_, rfl⟩
                            obtain ⟨hw117, h120, h121⟩ := hw117
                            have h120 : r119 = 264 → i1 + 3 ≤ sz := h120
                            have h121 : ¬ r119 < 256 → i1 + 2 ≤ sz := h121
                            obtain rfl : v118 = some (.int r119) := hw117
                            have hP : va_P G.1 pCl (mW G h0 a (upd (upd (upd (upd F 4 (nI sz)) 9 (nI T)) 13 (nI us)) 14 (nI nm)) (updA (updA (updA (updA (updA (updA (updA B 2 g5) 3 g6) 4 g7) 5 g8) 6 g10) 7 g11) 8 g12)) H := hP
                            have hD : va_D A (mW G h0 a (upd (upd (upd (upd F 4 (nI sz)) 9 (nI T)) 13 (nI us)) 14 (nI nm)) (updA (updA (updA (updA (updA (updA (updA B 2 g5) 3 g6) 4 g7) 5 g8) 6 g10) 7 g11) 8 g12)) := hD
                            refine W.widen (k := 0) (n := 0) (Nat.le_of_ble_eq_true rfl) (Nat.le_of_ble_eq_true rfl) ?_
                            refine W.eq (g2 := F0 m 438 ls [.int r119]) rfl ?_
                            refine lv_istore (lv' := [(4, .int r119), (5, .int 0), (3, .int (nI (i1 + 1))), (1, .int (nI i1)), (2, .int 1), (0, .ref h0)]) hx hb dX12_cut_438 hl (by decide) rfl (fun ls hl => ?_)
                            refine lv_iload hx hb dX12_cut_440 (lv_at hl 0 rfl) ?_
                            refine lv_sipush (v := 264) hx hb dX12_cut_442 (by decide) ?_
                            refine lv_icmp_ne (tgt := 454) hx hb dX12_cut_445 (by decide) (fun c122 => ?_) (fun c122 => ?_)
                            · refine lv_iload hx hb dX12_cut_454 (lv_at hl 0 rfl) ?_
                              refine lv_sipush (v := 256) hx hb dX12_cut_456 (by decide) ?_
                              refine lv_icmp_lt (tgt := 468) hx hb dX12_cut_459 (by decide) (fun c123 => ?_) (fun c123 => ?_)
                              · refine lv_iload_n hx hb dX12_cut_468 rfl (lv_at hl 3 rfl) ?_
                                refine lv_iconst (v := 1) hx hb dX12_cut_469 (by decide) ?_
                                refine lv_iadd hx hb dX12_cut_470 ?_
                                refine lv_topi (fun x124 e125 => ?_)
                                obtain rfl : x124 = nI (i1 + 1) := e125.trans (nI_add (i1) (1))
                                refine lv_istore_n (lv' := [(3, .int (nI (i1 + 1))), (4, .int r119), (5, .int 0), (1, .int (nI i1)), (2, .int 1), (0, .ref h0)]) hx hb dX12_cut_471 rfl hl (by decide) rfl (fun ls hl => ?_)
                                have hP : va_P G.1 pCl (mW G h0 a (upd (upd (upd (upd F 4 (nI sz)) 9 (nI T)) 13 (nI us)) 14 (nI nm)) (updA (updA (updA (updA (updA (updA (updA B 2 g5) 3 g6) 4 g7) 5 g8) 6 g10) 7 g11) 8 g12)) H := hP
                                have hD : va_D A (mW G h0 a (upd (upd (upd (upd F 4 (nI sz)) 9 (nI T)) 13 (nI us)) 14 (nI nm)) (updA (updA (updA (updA (updA (updA (updA B 2 g5) 3 g6) 4 g7) 5 g8) 6 g10) 7 g11) 8 g12)) := hD
                                exact cut_j r119 0 (i1 + 1) nm us g10 g11 g12 _ _ _ (by omega) (by omega) (Or.inr (by omega)) (by omega) (by omega) (by omega) hR (fun _ => ⟨0, by omega, rfl⟩) hP hD hS (lv_sub hl [3, 4, 0, 1, 2, 5] rfl)
                              · have hs2 : i1 + 2 ≤ sz := h121 c123
                                refine lv_iload_n hx hb dX12_cut_462 rfl (lv_at hl 3 rfl) ?_
                                refine lv_iconst (v := 2) hx hb dX12_cut_463 (by decide) ?_
                                refine lv_iadd hx hb dX12_cut_464 ?_
                                refine lv_topi (fun x126 e127 => ?_)
                                obtain rfl : x126 = nI (i1 + 2) := e127.trans (nI_add (i1) (2))
                                refine lv_goto (tgt := 471) hx hb dX12_cut_465 (by decide) ?_
                                refine lv_istore_n (lv' := [(3, .int (nI (i1 + 2))), (4, .int r119), (5, .int 0), (1, .int (nI i1)), (2, .int 1), (0, .ref h0)]) hx hb dX12_cut_471 rfl hl (by decide) rfl (fun ls hl => ?_)
                                have hP : va_P G.1 pCl (mW G h0 a (upd (upd (upd (upd F 4 (nI sz)) 9 (nI T)) 13 (nI us)) 14 (nI nm)) (updA (updA (updA (updA (updA (updA (updA B 2 g5) 3 g6) 4 g7) 5 g8) 6 g10) 7 g11) 8 g12)) H := hP
                                have hD : va_D A (mW G h0 a (upd (upd (upd (upd F 4 (nI sz)) 9 (nI T)) 13 (nI us)) 14 (nI nm)) (updA (updA (updA (updA (updA (updA (updA B 2 g5) 3 g6) 4 g7) 5 g8) 6 g10) 7 g11) 8 g12)) := hD
                                exact cut_j r119 0 (i1 + 2) nm us g10 g11 g12 _ _ _ (by omega) (by omega) (Or.inr (by omega)) (by omega) (by omega) (by omega) hR (fun _ => ⟨0, by omega, rfl⟩) hP hD hS (lv_sub hl [3, 4, 0, 1, 2, 5] rfl)
                            · have hs3 : i1 + 3 ≤ sz := h120 c122
                              refine lv_iload_n hx hb dX12_cut_448 rfl (lv_at hl 3 rfl) ?_
                              refine lv_iconst (v := 3) hx hb dX12_cut_449 (by decide) ?_
                              refine lv_iadd hx hb dX12_cut_450 ?_
                              refine lv_topi (fun x128 e129 => ?_)
                              obtain rfl : x128 = nI (i1 + 3) := e129.trans (nI_add (i1) (3))
                              refine lv_goto (tgt := 471) hx hb dX12_cut_451 (by decide) ?_
                              refine lv_istore_n (lv' := [(3, .int (nI (i1 + 3))), (4, .int r119), (5, .int 0), (1, .int (nI i1)), (2, .int 1), (0, .ref h0)]) hx hb dX12_cut_471 rfl hl (by decide) rfl (fun ls hl => ?_)
                              have hP : va_P G.1 pCl (mW G h0 a (upd (upd (upd (upd F 4 (nI sz)) 9 (nI T)) 13 (nI us)) 14 (nI nm)) (updA (updA (updA (updA (updA (updA (updA B 2 g5) 3 g6) 4 g7) 5 g8) 6 g10) 7 g11) 8 g12)) H := hP
                              have hD : va_D A (mW G h0 a (upd (upd (upd (upd F 4 (nI sz)) 9 (nI T)) 13 (nI us)) 14 (nI nm)) (updA (updA (updA (updA (updA (updA (updA B 2 g5) 3 g6) 4 g7) 5 g8) 6 g10) 7 g11) 8 g12)) := hD
                              exact cut_j r119 0 (i1 + 3) nm us g10 g11 g12 _ _ _ (by omega) (by omega) (Or.inr (by omega)) (by omega) (by omega) (by omega) hR (fun _ => ⟨0, by omega, rfl⟩) hP hD hS (lv_sub hl [3, 4, 0, 1, 2, 5] rfl)
                          · have hc48 : ¬ r107 < 48 := (hr113).resolve_left c115
                            have hlet : i1 < sz ∧ ¬ B 1 i1 = 32 := ⟨chin h108 (noM1 hc48), by rw [← ((h108).resolve_left (noM1 hc48)).2]; exact no32 hc48⟩
                            refine lv_lconst (v := 0) hx hb dX12_cut_296 (by decide) ?_
                            refine lv_lstore (lv' := [(6, .long 0), (5, .int 0), (4, .int 0), (3, .int (nI (i1 + 1))), (1, .int (nI i1)), (2, .int 1), (0, .ref h0)]) hx hb dX12_cut_297 hl (by decide) rfl (fun ls hl => ?_)
                            have loop_d : ∀ (n_d : Nat) (tt : Nat) (H : Heap) (locs : List Loc) (ls : Array Slot), tt ≤ sz → sz + 1 ≤ tt + n_d → (i1 + 1 ≤ tt) → (∀ j : Nat, i1 ≤ j → j < tt → ¬ B 1 j = 32) → va_P G.1 pCl (mW G h0 a (upd (upd (upd (upd F 4 (nI sz)) 9 (nI T)) 13 (nI us)) 14 (nI nm)) (updA (updA (updA (updA (updA (updA (updA B 2 g5) 3 g6) 4 g7) 5 g8) 6 g10) 7 g11) 8 g12)) H → va_D A (mW G h0 a (upd (upd (upd (upd F 4 (nI sz)) 9 (nI T)) 13 (nI us)) 14 (nI nm)) (updA (updA (updA (updA (updA (updA (updA B 2 g5) 3 g6) 4 g7) 5 g8) 6 g10) 7 g11) 8 g12)) → va_S A s.heap H locs → lv_has ls 9 [(6, .long 0), (3, .int (nI tt)), (4, .int 0), (5, .int 0), (1, .int (nI i1)), (2, .int 1), (0, .ref h0)] → W p l e (headSpec (Cond.code yX12_cut cX12_cut 9 none :: pw) ({ frames := 7, cells := 0, slots := 0, locals := 174 } : Room)).room s m ([.ref h0] : List Value).toArray below meth c H locs 0 0 (MQ below (pQ G A (fun (v : Option Value) (u : Nat × Nat × Nat × (Nat → Int32) × (Nat → Int32) × (Nat → Int32) × (Nat → Int32) × (Nat → Int32) × (Nat → Int32) × (Nat → Int32)) => v = none ∧ (u.1 ≤ sz) ∧ (u.2.2.2.2.2.2.1 u.1 = 0 ∨ u.2.2.2.2.2.2.1 u.1 = 3) ∧ (rNm u.2.1 u.2.2.1 u.2.2.2.1 u.2.2.2.2.1) ∧ (u.2.1 ≤ 9 + sz) ∧ (u.2.2.1 ≤ 40 + sz) ∧ (rTk u.1 u.2.1 u.2.2.2.2.2.2.1 u.2.2.2.2.2.2.2.2.2) ∧ (9 ≤ u.2.1)) (fun u => (mW G h0 a (upd (upd (upd (upd F 4 (nI sz)) 9 (nI u.1)) 13 (nI u.2.2.1)) 14 (nI u.2.1)) (updA (updA (updA (updA (updA (updA (updA B 2 u.2.2.2.2.2.2.1) 3 u.2.2.2.2.2.2.2.1) 4 u.2.2.2.2.2.2.2.2.1) 5 u.2.2.2.2.2.2.2.2.2) 6 u.2.2.2.1) 7 u.2.2.2.2.1) 8 u.2.2.2.2.2.1)))) ([.ref h0] : List Value).toArray s ({ frames := 7, cells := 0, slots := 0, locals := 174 } : Room).cells ({ frames := 7, cells := 0, slots := 0, locals := 174 } : Room).slots A) (F0 m 299 ls []) := by
                              intro n_d
                              induction n_d with
                              | zero => intro tt H locs ls hk_d hn_d; omega
                              | succ n_d ih_d =>
                                intro tt H locs ls hk_d hn_d ht1 htt hP hD hS hl
                                refine lv_aload_n hx hb dX12_cut_299 rfl (lv_at hl 6 rfl) ?_
                                refine lv_iload_n hx hb dX12_cut_300 rfl (lv_at hl 1 rfl) ?_
                                have hP : va_P G.1 pCl (mW G h0 a (upd (upd (upd (upd (upd F 4 (nI sz)) 9 (nI T)) 13 (nI us)) 14 (nI nm)) 4 (nI sz)) (updA (updA (updA (updA (updA (updA (updA B 2 g5) 3 g6) 4 g7) 5 g8) 6 g10) 7 g11) 8 g12)) H := hP
                                have hD : va_D A (mW G h0 a (upd (upd (upd (upd (upd F 4 (nI sz)) 9 (nI T)) 13 (nI us)) 14 (nI nm)) 4 (nI sz)) (updA (updA (updA (updA (updA (updA (updA B 2 g5) 3 g6) 4 g7) 5 g8) 6 g10) 7 g11) 8 g12)) := hD
                                refine pc_V0 (G := G) (As := [.int (nI tt)]) (rest := []) hx hb hml hown hq hE hX pX0_al hP hD hS hA hl.1 (R_ch l G h0 a (upd (upd (upd (upd F 4 (nI sz)) 9 (nI T)) 13 (nI us)) 14 (nI nm)) (updA (updA (updA (updA (updA (updA (updA B 2 g5) 3 g6) 4 g7) 5 g8) 6 g10) 7 g11) 8 g12) tt sz (by omega) (by omega)) (gV pw_1561 pw_1562 pw_1563 pw_1523 pw_1518) hV_X12_ch 0 9 rfl rfl rfl rfl (Nat.le_of_ble_eq_true rfl) dX12_cut_301 ⟨Nat.le_of_ble_eq_true rfl, Nat.le_of_ble_eq_true rfl⟩ ⟨Nat.le_of_ble_eq_true rfl, Nat.le_of_ble_eq_true rfl⟩ (fun v132 u130 H locs hw131 hP hD hS => ?_)
                                obtain ⟨r133, rfl⟩ : ∃ z, z = u130 := ⟨_, rfl⟩
                                obtain ⟨hw131, h134⟩ := hw131
                                have h134 : r133 = (-1) ∨ tt < sz ∧ r133 = (updA (updA (updA (updA (updA (updA (updA B 2 g5) 3 g6) 4 g7) 5 g8) 6 g10) 7 g11) 8 g12) 1 tt := h134
                                obtain rfl : v132 = some (.int r133) := hw131
                                have hP : va_P G.1 pCl (mW G h0 a (upd (upd (upd (upd F 4 (nI sz)) 9 (nI T)) 13 (nI us)) 14 (nI nm)) (updA (updA (updA (updA (updA (updA (updA B 2 g5) 3 g6) 4 g7) 5 g8) 6 g10) 7 g11) 8 g12)) H := hP
                                have hD : va_D A (mW G h0 a (upd (upd (upd (upd F 4 (nI sz)) 9 (nI T)) 13 (nI us)) 14 (nI nm)) (updA (updA (updA (updA (updA (updA (updA B 2 g5) 3 g6) 4 g7) 5 g8) 6 g10) 7 g11) 8 g12)) := hD
                                refine W.widen (k := 0) (n := 0) (Nat.le_of_ble_eq_true rfl) (Nat.le_of_ble_eq_true rfl) ?_
                                refine W.eq (g2 := F0 m 304 ls [.int r133]) rfl ?_
                                refine pc_SN (G := G) (As := [.int r133]) (rest := []) hx hb hml hown hq hE hX pX0_al hP hS hA hl.1 (s_isLetter l G r133) (gS pw_1575 pw_1576 pw_1523 pw_1520) hS_X12_isLetter rfl (Nat.le_of_ble_eq_true rfl) dX12_cut_304 ⟨Nat.le_of_ble_eq_true rfl, Nat.le_of_ble_eq_true rfl⟩ ⟨Nat.le_of_ble_eq_true rfl, Nat.le_of_ble_eq_true rfl⟩ (fun v137 u135 H locs hw136 hP hS => ?_)
                                obtain ⟨x138, rfl, hr139, hr140⟩ := hw136
                                refine W.widen (k := 0) (n := 0) (Nat.le_of_ble_eq_true rfl) (Nat.le_of_ble_eq_true rfl) ?_
                                refine W.eq (g2 := F0 m 307 ls [.int x138]) rfl ?_
                                refine lv_if_ne (tgt := 321) hx hb dX12_cut_307 (by decide) (fun c141 => ?_) (fun c141 => ?_)
                                · have hc48 : ¬ r133 < 48 := (hr139).resolve_left c141
                                  have hlet2 : tt < sz ∧ ¬ B 1 tt = 32 := ⟨chin h134 (noM1 hc48), by rw [← ((h134).resolve_left (noM1 hc48)).2]; exact no32 hc48⟩
                                  refine lv_iinc (v := (nI (tt + 1))) (lv' := [(3, .int (nI (tt + 1))), (6, .long 0), (4, .int 0), (5, .int 0), (1, .int (nI i1)), (2, .int 1), (0, .ref h0)]) hx hb dX12_cut_321 hl (k := 1) rfl (nI_1 tt) (by decide) rfl (fun ls hl => ?_)
                                  refine lv_goto (tgt := 299) hx hb dX12_cut_324 (by decide) ?_
                                  have hP : va_P G.1 pCl (mW G h0 a (upd (upd (upd (upd F 4 (nI sz)) 9 (nI T)) 13 (nI us)) 14 (nI nm)) (updA (updA (updA (updA (updA (updA (updA B 2 g5) 3 g6) 4 g7) 5 g8) 6 g10) 7 g11) 8 g12)) H := hP
                                  have hD : va_D A (mW G h0 a (upd (upd (upd (upd F 4 (nI sz)) 9 (nI T)) 13 (nI us)) 14 (nI nm)) (updA (updA (updA (updA (updA (updA (updA B 2 g5) 3 g6) 4 g7) 5 g8) 6 g10) 7 g11) 8 g12)) := hD
                                  exact ih_d (tt + 1) _ _ _ (by have := hlet2.1; omega) (by omega) (by omega) (fun j h8 h9 => by by_cases e9 : j = tt; · rw [e9]; exact hlet2.2; · exact htt j h8 (by omega)) hP hD hS (lv_sub hl [1, 0, 2, 3, 4, 5, 6] rfl)
                                · refine lv_aload_n hx hb dX12_cut_310 rfl (lv_at hl 6 rfl) ?_
                                  refine lv_iload_n hx hb dX12_cut_311 rfl (lv_at hl 1 rfl) ?_
                                  have hP : va_P G.1 pCl (mW G h0 a (upd (upd (upd (upd (upd F 4 (nI sz)) 9 (nI T)) 13 (nI us)) 14 (nI nm)) 4 (nI sz)) (updA (updA (updA (updA (updA (updA (updA B 2 g5) 3 g6) 4 g7) 5 g8) 6 g10) 7 g11) 8 g12)) H := hP
                                  have hD : va_D A (mW G h0 a (upd (upd (upd (upd (upd F 4 (nI sz)) 9 (nI T)) 13 (nI us)) 14 (nI nm)) 4 (nI sz)) (updA (updA (updA (updA (updA (updA (updA B 2 g5) 3 g6) 4 g7) 5 g8) 6 g10) 7 g11) 8 g12)) := hD
                                  refine pc_V0 (G := G) (As := [.int (nI tt)]) (rest := []) hx hb hml hown hq hE hX pX0_al hP hD hS hA hl.1 (R_ch l G h0 a (upd (upd (upd (upd F 4 (nI sz)) 9 (nI T)) 13 (nI us)) 14 (nI nm)) (updA (updA (updA (updA (updA (updA (updA B 2 g5) 3 g6) 4 g7) 5 g8) 6 g10) 7 g11) 8 g12) tt sz (by omega) (by omega)) (gV pw_1561 pw_1562 pw_1563 pw_1523 pw_1518) hV_X12_ch 0 9 rfl rfl rfl rfl (Nat.le_of_ble_eq_true rfl) dX12_cut_312 ⟨Nat.le_of_ble_eq_true rfl, Nat.le_of_ble_eq_true rfl⟩ ⟨Nat.le_of_ble_eq_true rfl, Nat.le_of_ble_eq_true rfl⟩ (fun v144 u142 H locs hw143 hP hD hS => ?_)
                                  obtain ⟨r145, rfl⟩ : ∃ z, z = u142 := ⟨_, rfl⟩
                                  obtain ⟨hw143, h146⟩ := hw143
                                  have h146 : r145 = (-1) ∨ tt < sz ∧ r145 = (updA (updA (updA (updA (updA (updA (updA B 2 g5) 3 g6) 4 g7) 5 g8) 6 g10) 7 g11) 8 g12) 1 tt := h146
                                  obtain rfl : v144 = some (.int r145) := hw143
                                  have hP : va_P G.1 pCl (mW G h0 a (upd (upd (upd (upd F 4 (nI sz)) 9 (nI T)) 13 (nI us)) 14 (nI nm)) (updA (updA (updA (updA (updA (updA (updA B 2 g5) 3 g6) 4 g7) 5 g8) 6 g10) 7 g11) 8 g12)) H := hP
                                  have hD : va_D A (mW G h0 a (upd (upd (upd (upd F 4 (nI sz)) 9 (nI T)) 13 (nI us)) 14 (nI nm)) (updA (updA (updA (updA (updA (updA (updA B 2 g5) 3 g6) 4 g7) 5 g8) 6 g10) 7 g11) 8 g12)) := hD
                                  refine W.widen (k := 0) (n := 0) (Nat.le_of_ble_eq_true rfl) (Nat.le_of_ble_eq_true rfl) ?_
                                  refine W.eq (g2 := F0 m 315 ls [.int r145]) rfl ?_
                                  refine pc_SN (G := G) (As := [.int r145]) (rest := []) hx hb hml hown hq hE hX pX0_al hP hS hA hl.1 (s_isDigit l G r145) (gS pw_1577 pw_1578 pw_1523 pw_1524) hS_X12_isDigit rfl (Nat.le_of_ble_eq_true rfl) dX12_cut_315 ⟨Nat.le_of_ble_eq_true rfl, Nat.le_of_ble_eq_true rfl⟩ ⟨Nat.le_of_ble_eq_true rfl, Nat.le_of_ble_eq_true rfl⟩ (fun v149 u147 H locs hw148 hP hS => ?_)
                                  obtain ⟨x150, rfl, hr151, hr152⟩ := hw148
                                  refine W.widen (k := 0) (n := 0) (Nat.le_of_ble_eq_true rfl) (Nat.le_of_ble_eq_true rfl) ?_
                                  refine W.eq (g2 := F0 m 318 ls [.int x150]) rfl ?_
                                  refine lv_if_eq (tgt := 327) hx hb dX12_cut_318 (by decide) (fun c153 => ?_) (fun c153 => ?_)
                                  · refine lv_iload_n hx hb dX12_cut_327 rfl (lv_at hl 1 rfl) ?_
                                    refine lv_iload_n hx hb dX12_cut_328 rfl (lv_at hl 4 rfl) ?_
                                    refine lv_isub hx hb dX12_cut_329 ?_
                                    refine lv_topi (fun x154 e155 => ?_)
                                    obtain rfl : x154 = nI (tt - i1) := e155.trans (nI_subN (a := i1) (b := tt) (by omega))
                                    refine lv_bipush (v := 10) hx hb dX12_cut_330 (by decide) ?_
                                    refine lv_icmp_le (tgt := 339) hx hb dX12_cut_332 (by decide) (fun c156 => ?_) (fun c156 => ?_)
                                    · have n157 : (tt - i1) ≤ 10 := (nI_leI (a := (tt - i1)) (b := 10) (by omega) (by omega)).mp c156
                                      refine lv_iconst (v := 2) hx hb dX12_cut_339 (by decide) ?_
                                      refine lv_istore (lv' := [(4, .int 2), (6, .long 0), (3, .int (nI tt)), (5, .int 0), (1, .int (nI i1)), (2, .int 1), (0, .ref h0)]) hx hb dX12_cut_340 hl (by decide) rfl (fun ls hl => ?_)
                                      refine lv_iload_n hx hb dX12_cut_342 rfl (lv_at hl 4 rfl) ?_
                                      refine lv_istore (lv' := [(8, .int (nI i1)), (4, .int 2), (6, .long 0), (3, .int (nI tt)), (5, .int 0), (1, .int (nI i1)), (2, .int 1), (0, .ref h0)]) hx hb dX12_cut_343 hl (by decide) rfl (fun ls hl => ?_)
                                      have loop_v : ∀ (n_v : Nat) (k8 : Nat) (vl : Int64) (kd : Int32) (H : Heap) (locs : List Loc) (ls : Array Slot), k8 ≤ tt → tt + 1 ≤ k8 + n_v → (i1 ≤ k8) → (kd = 2 ∨ kd = 3) → va_P G.1 pCl (mW G h0 a (upd (upd (upd (upd F 4 (nI sz)) 9 (nI T)) 13 (nI us)) 14 (nI nm)) (updA (updA (updA (updA (updA (updA (updA B 2 g5) 3 g6) 4 g7) 5 g8) 6 g10) 7 g11) 8 g12)) H → va_D A (mW G h0 a (upd (upd (upd (upd F 4 (nI sz)) 9 (nI T)) 13 (nI us)) 14 (nI nm)) (updA (updA (updA (updA (updA (updA (updA B 2 g5) 3 g6) 4 g7) 5 g8) 6 g10) 7 g11) 8 g12)) → va_S A s.heap H locs → lv_has ls 9 [(8, .int (nI k8)), (4, .int kd), (6, .long vl), (3, .int (nI tt)), (5, .int 0), (1, .int (nI i1)), (2, .int 1), (0, .ref h0)] → W p l e (headSpec (Cond.code yX12_cut cX12_cut 9 none :: pw) ({ frames := 7, cells := 0, slots := 0, locals := 174 } : Room)).room s m ([.ref h0] : List Value).toArray below meth c H locs 0 0 (MQ below (pQ G A (fun (v : Option Value) (u : Nat × Nat × Nat × (Nat → Int32) × (Nat → Int32) × (Nat → Int32) × (Nat → Int32) × (Nat → Int32) × (Nat → Int32) × (Nat → Int32)) => v = none ∧ (u.1 ≤ sz) ∧ (u.2.2.2.2.2.2.1 u.1 = 0 ∨ u.2.2.2.2.2.2.1 u.1 = 3) ∧ (rNm u.2.1 u.2.2.1 u.2.2.2.1 u.2.2.2.2.1) ∧ (u.2.1 ≤ 9 + sz) ∧ (u.2.2.1 ≤ 40 + sz) ∧ (rTk u.1 u.2.1 u.2.2.2.2.2.2.1 u.2.2.2.2.2.2.2.2.2) ∧ (9 ≤ u.2.1)) (fun u => (mW G h0 a (upd (upd (upd (upd F 4 (nI sz)) 9 (nI u.1)) 13 (nI u.2.2.1)) 14 (nI u.2.1)) (updA (updA (updA (updA (updA (updA (updA B 2 u.2.2.2.2.2.2.1) 3 u.2.2.2.2.2.2.2.1) 4 u.2.2.2.2.2.2.2.2.1) 5 u.2.2.2.2.2.2.2.2.2) 6 u.2.2.2.1) 7 u.2.2.2.2.1) 8 u.2.2.2.2.2.1)))) ([.ref h0] : List Value).toArray s ({ frames := 7, cells := 0, slots := 0, locals := 174 } : Room).cells ({ frames := 7, cells := 0, slots := 0, locals := 174 } : Room).slots A) (F0 m 345 ls []) := by
                                        intro n_v
                                        induction n_v with
                                        | zero => intro k8 vl kd H locs ls hk_v hn_v; omega
                                        | succ n_v ih_v =>
                                          intro k8 vl kd H locs ls hk_v hn_v hk0 hkd hP hD hS hl
                                          refine lv_iload hx hb dX12_cut_345 (lv_at hl 1 rfl) ?_
                                          refine lv_iconst (v := 2) hx hb dX12_cut_347 (by decide) ?_
                                          refine lv_icmp_ne (tgt := 402) hx hb dX12_cut_348 (by decide) (fun c158 => ?_) (fun c158 => ?_)
                                          · refine lv_iload hx hb dX12_cut_402 (lv_at hl 1 rfl) ?_
                                            refine lv_iconst (v := 2) hx hb dX12_cut_404 (by decide) ?_
                                            refine lv_icmp_ne (tgt := 421) hx hb dX12_cut_405 (by decide) (fun c159 => ?_) (fun c159 => ?_)
                                            · refine lv_iload hx hb dX12_cut_421 (lv_at hl 1 rfl) ?_
                                              refine lv_istore (lv' := [(4, .int kd), (8, .int (nI k8)), (6, .long vl), (3, .int (nI tt)), (5, .int 0), (1, .int (nI i1)), (2, .int 1), (0, .ref h0)]) hx hb dX12_cut_423 hl (by decide) rfl (fun ls hl => ?_)
                                              refine lv_lload hx hb dX12_cut_425 (lv_at hl 2 rfl) ?_
                                              refine lv_l2i hx hb dX12_cut_427 rfl ?_
                                              refine lv_topi (fun x160 e161 => ?_)
                                              refine lv_istore (lv' := [(5, .int x160), (4, .int kd), (8, .int (nI k8)), (6, .long vl), (3, .int (nI tt)), (1, .int (nI i1)), (2, .int 1), (0, .ref h0)]) hx hb dX12_cut_428 hl (by decide) rfl (fun ls hl => ?_)
                                              refine lv_goto (tgt := 472) hx hb dX12_cut_430 (by decide) ?_
                                              have hP : va_P G.1 pCl (mW G h0 a (upd (upd (upd (upd F 4 (nI sz)) 9 (nI T)) 13 (nI us)) 14 (nI nm)) (updA (updA (updA (updA (updA (updA (updA B 2 g5) 3 g6) 4 g7) 5 g8) 6 g10) 7 g11) 8 g12)) H := hP
                                              have hD : va_D A (mW G h0 a (upd (upd (upd (upd F 4 (nI sz)) 9 (nI T)) 13 (nI us)) 14 (nI nm)) (updA (updA (updA (updA (updA (updA (updA B 2 g5) 3 g6) 4 g7) 5 g8) 6 g10) 7 g11) 8 g12)) := hD
                                              exact cut_j kd x160 tt nm us g10 g11 g12 _ _ _ (by omega) (by omega) (Or.inr (by omega)) (by omega) (by omega) (by omega) hR (fun e9 => by rcases hkd with h8 | h8 <;> rw [h8] at e9 <;> exact absurd e9 (by decide)) hP hD hS (lv_sub hl [5, 6, 4, 1, 0, 7] rfl)
                                            · refine lv_lload hx hb dX12_cut_408 (lv_at hl 2 rfl) ?_
                                              refine lv_ldc2 (v := 2147483647) hx hb hown (hq _ pw_1571) dX12_cut_410 ?_
                                              refine W.lcmp hx hb dX12_cut_413 ?_
                                              refine lv_topi (fun x162 e163 => ?_)
                                              refine lv_if_le (tgt := 421) hx hb dX12_cut_414 (by decide) (fun c164 => ?_) (fun c164 => ?_)
                                              · refine lv_iload hx hb dX12_cut_421 (lv_at hl 1 rfl) ?_
                                                refine lv_istore (lv' := [(4, .int kd), (8, .int (nI k8)), (6, .long vl), (3, .int (nI tt)), (5, .int 0), (1, .int (nI i1)), (2, .int 1), (0, .ref h0)]) hx hb dX12_cut_423 hl (by decide) rfl (fun ls hl => ?_)
                                                refine lv_lload hx hb dX12_cut_425 (lv_at hl 2 rfl) ?_
                                                refine lv_l2i hx hb dX12_cut_427 rfl ?_
                                                refine lv_topi (fun x165 e166 => ?_)
                                                refine lv_istore (lv' := [(5, .int x165), (4, .int kd), (8, .int (nI k8)), (6, .long vl), (3, .int (nI tt)), (1, .int (nI i1)), (2, .int 1), (0, .ref h0)]) hx hb dX12_cut_428 hl (by decide) rfl (fun ls hl => ?_)
                                                refine lv_goto (tgt := 472) hx hb dX12_cut_430 (by decide) ?_
                                                have hP : va_P G.1 pCl (mW G h0 a (upd (upd (upd (upd F 4 (nI sz)) 9 (nI T)) 13 (nI us)) 14 (nI nm)) (updA (updA (updA (updA (updA (updA (updA B 2 g5) 3 g6) 4 g7) 5 g8) 6 g10) 7 g11) 8 g12)) H := hP
                                                have hD : va_D A (mW G h0 a (upd (upd (upd (upd F 4 (nI sz)) 9 (nI T)) 13 (nI us)) 14 (nI nm)) (updA (updA (updA (updA (updA (updA (updA B 2 g5) 3 g6) 4 g7) 5 g8) 6 g10) 7 g11) 8 g12)) := hD
                                                exact cut_j kd x165 tt nm us g10 g11 g12 _ _ _ (by omega) (by omega) (Or.inr (by omega)) (by omega) (by omega) (by omega) hR (fun e9 => by rcases hkd with h8 | h8 <;> rw [h8] at e9 <;> exact absurd e9 (by decide)) hP hD hS (lv_sub hl [5, 6, 4, 1, 0, 7] rfl)
                                              · refine lv_iconst (v := 3) hx hb dX12_cut_417 (by decide) ?_
                                                refine lv_goto (tgt := 423) hx hb dX12_cut_418 (by decide) ?_
                                                refine lv_istore (lv' := [(4, .int 3), (8, .int (nI k8)), (6, .long vl), (3, .int (nI tt)), (5, .int 0), (1, .int (nI i1)), (2, .int 1), (0, .ref h0)]) hx hb dX12_cut_423 hl (by decide) rfl (fun ls hl => ?_)
                                                refine lv_lload hx hb dX12_cut_425 (lv_at hl 2 rfl) ?_
                                                refine lv_l2i hx hb dX12_cut_427 rfl ?_
                                                refine lv_topi (fun x167 e168 => ?_)
                                                refine lv_istore (lv' := [(5, .int x167), (4, .int 3), (8, .int (nI k8)), (6, .long vl), (3, .int (nI tt)), (1, .int (nI i1)), (2, .int 1), (0, .ref h0)]) hx hb dX12_cut_428 hl (by decide) rfl (fun ls hl => ?_)
                                                refine lv_goto (tgt := 472) hx hb dX12_cut_430 (by decide) ?_
                                                have hP : va_P G.1 pCl (mW G h0 a (upd (upd (upd (upd F 4 (nI sz)) 9 (nI T)) 13 (nI us)) 14 (nI nm)) (updA (updA (updA (updA (updA (updA (updA B 2 g5) 3 g6) 4 g7) 5 g8) 6 g10) 7 g11) 8 g12)) H := hP
                                                have hD : va_D A (mW G h0 a (upd (upd (upd (upd F 4 (nI sz)) 9 (nI T)) 13 (nI us)) 14 (nI nm)) (updA (updA (updA (updA (updA (updA (updA B 2 g5) 3 g6) 4 g7) 5 g8) 6 g10) 7 g11) 8 g12)) := hD
                                                exact cut_j 3 x167 tt nm us g10 g11 g12 _ _ _ (by omega) (by omega) (Or.inr (by omega)) (by omega) (by omega) (by omega) hR (fun e9 => absurd e9 (by decide)) hP hD hS (lv_sub hl [5, 6, 4, 1, 0, 7] rfl)
                                          · refine lv_iload hx hb dX12_cut_351 (lv_at hl 0 rfl) ?_
                                            refine lv_iload_n hx hb dX12_cut_353 rfl (lv_at hl 3 rfl) ?_
                                            refine lv_icmp_ge (tgt := 402) hx hb dX12_cut_354 (by decide) (fun c169 => ?_) (fun c169 => ?_)
                                            · have n170 : tt ≤ k8 := (nI_leI (a := tt) (b := k8) (by omega) (by omega)).mp c169
                                              refine lv_iload hx hb dX12_cut_402 (lv_at hl 1 rfl) ?_
                                              refine lv_iconst (v := 2) hx hb dX12_cut_404 (by decide) ?_
                                              refine lv_icmp_ne (tgt := 421) hx hb dX12_cut_405 (by decide) (fun c171 => ?_) (fun c171 => ?_)
                                              · refine lv_iload hx hb dX12_cut_421 (lv_at hl 1 rfl) ?_
                                                refine lv_istore (lv' := [(4, .int kd), (8, .int (nI k8)), (6, .long vl), (3, .int (nI tt)), (5, .int 0), (1, .int (nI i1)), (2, .int 1), (0, .ref h0)]) hx hb dX12_cut_423 hl (by decide) rfl (fun ls hl => ?_)
                                                refine lv_lload hx hb dX12_cut_425 (lv_at hl 2 rfl) ?_
                                                refine lv_l2i hx hb dX12_cut_427 rfl ?_
                                                refine lv_topi (fun x172 e173 => ?_)
                                                refine lv_istore (lv' := [(5, .int x172), (4, .int kd), (8, .int (nI k8)), (6, .long vl), (3, .int (nI tt)), (1, .int (nI i1)), (2, .int 1), (0, .ref h0)]) hx hb dX12_cut_428 hl (by decide) rfl (fun ls hl => ?_)
                                                refine lv_goto (tgt := 472) hx hb dX12_cut_430 (by decide) ?_
                                                have hP : va_P G.1 pCl (mW G h0 a (upd (upd (upd (upd F 4 (nI sz)) 9 (nI T)) 13 (nI us)) 14 (nI nm)) (updA (updA (updA (updA (updA (updA (updA B 2 g5) 3 g6) 4 g7) 5 g8) 6 g10) 7 g11) 8 g12)) H := hP
                                                have hD : va_D A (mW G h0 a (upd (upd (upd (upd F 4 (nI sz)) 9 (nI T)) 13 (nI us)) 14 (nI nm)) (updA (updA (updA (updA (updA (updA (updA B 2 g5) 3 g6) 4 g7) 5 g8) 6 g10) 7 g11) 8 g12)) := hD
                                                exact cut_j kd x172 tt nm us g10 g11 g12 _ _ _ (by omega) (by omega) (Or.inr (by omega)) (by omega) (by omega) (by omega) hR (fun e9 => by rcases hkd with h8 | h8 <;> rw [h8] at e9 <;> exact absurd e9 (by decide)) hP hD hS (lv_sub hl [5, 6, 4, 1, 0, 7] rfl)
                                              · refine lv_lload hx hb dX12_cut_408 (lv_at hl 2 rfl) ?_
                                                refine lv_ldc2 (v := 2147483647) hx hb hown (hq _ pw_1571) dX12_cut_410 ?_
                                                refine W.lcmp hx hb dX12_cut_413 ?_
                                                refine lv_topi (fun x174 e175 => ?_)
                                                refine lv_if_le (tgt := 421) hx hb dX12_cut_414 (by decide) (fun c176 => ?_) (fun c176 => ?_)
                                                · refine lv_iload hx hb dX12_cut_421 (lv_at hl 1 rfl) ?_
                                                  refine lv_istore (lv' := [(4, .int kd), (8, .int (nI k8)), (6, .long vl), (3, .int (nI tt)), (5, .int 0), (1, .int (nI i1)), (2, .int 1), (0, .ref h0)]) hx hb dX12_cut_423 hl (by decide) rfl (fun ls hl => ?_)
                                                  refine lv_lload hx hb dX12_cut_425 (lv_at hl 2 rfl) ?_
                                                  refine lv_l2i hx hb dX12_cut_427 rfl ?_
                                                  refine lv_topi (fun x177 e178 => ?_)
                                                  refine lv_istore (lv' := [(5, .int x177), (4, .int kd), (8, .int (nI k8)), (6, .long vl), (3, .int (nI tt)), (1, .int (nI i1)), (2, .int 1), (0, .ref h0)]) hx hb dX12_cut_428 hl (by decide) rfl (fun ls hl => ?_)
                                                  refine lv_goto (tgt := 472) hx hb dX12_cut_430 (by decide) ?_
                                                  have hP : va_P G.1 pCl (mW G h0 a (upd (upd (upd (upd F 4 (nI sz)) 9 (nI T)) 13 (nI us)) 14 (nI nm)) (updA (updA (updA (updA (updA (updA (updA B 2 g5) 3 g6) 4 g7) 5 g8) 6 g10) 7 g11) 8 g12)) H := hP
                                                  have hD : va_D A (mW G h0 a (upd (upd (upd (upd F 4 (nI sz)) 9 (nI T)) 13 (nI us)) 14 (nI nm)) (updA (updA (updA (updA (updA (updA (updA B 2 g5) 3 g6) 4 g7) 5 g8) 6 g10) 7 g11) 8 g12)) := hD
                                                  exact cut_j kd x177 tt nm us g10 g11 g12 _ _ _ (by omega) (by omega) (Or.inr (by omega)) (by omega) (by omega) (by omega) hR (fun e9 => by rcases hkd with h8 | h8 <;> rw [h8] at e9 <;> exact absurd e9 (by decide)) hP hD hS (lv_sub hl [5, 6, 4, 1, 0, 7] rfl)
                                                · refine lv_iconst (v := 3) hx hb dX12_cut_417 (by decide) ?_
                                                  refine lv_goto (tgt := 423) hx hb dX12_cut_418 (by decide) ?_
                                                  refine lv_istore (lv' := [(4, .int 3), (8, .int (nI k8)), (6, .long vl), (3, .int (nI tt)), (5, .int 0), (1, .int (nI i1)), (2, .int 1), (0, .ref h0)]) hx hb dX12_cut_423 hl (by decide) rfl (fun ls hl => ?_)
                                                  refine lv_lload hx hb dX12_cut_425 (lv_at hl 2 rfl) ?_
                                                  refine lv_l2i hx hb dX12_cut_427 rfl ?_
                                                  refine lv_topi (fun x179 e180 => ?_)
                                                  refine lv_istore (lv' := [(5, .int x179), (4, .int 3), (8, .int (nI k8)), (6, .long vl), (3, .int (nI tt)), (1, .int (nI i1)), (2, .int 1), (0, .ref h0)]) hx hb dX12_cut_428 hl (by decide) rfl (fun ls hl => ?_)
                                                  refine lv_goto (tgt := 472) hx hb dX12_cut_430 (by decide) ?_
                                                  have hP : va_P G.1 pCl (mW G h0 a (upd (upd (upd (upd F 4 (nI sz)) 9 (nI T)) 13 (nI us)) 14 (nI nm)) (updA (updA (updA (updA (updA (updA (updA B 2 g5) 3 g6) 4 g7) 5 g8) 6 g10) 7 g11) 8 g12)) H := hP
                                                  have hD : va_D A (mW G h0 a (upd (upd (upd (upd F 4 (nI sz)) 9 (nI T)) 13 (nI us)) 14 (nI nm)) (updA (updA (updA (updA (updA (updA (updA B 2 g5) 3 g6) 4 g7) 5 g8) 6 g10) 7 g11) 8 g12)) := hD
                                                  exact cut_j 3 x179 tt nm us g10 g11 g12 _ _ _ (by omega) (by omega) (Or.inr (by omega)) (by omega) (by omega) (by omega) hR (fun e9 => absurd e9 (by decide)) hP hD hS (lv_sub hl [5, 6, 4, 1, 0, 7] rfl)
                                            · have n181 : ¬ (tt ≤ k8) := fun h9 => c169 ((nI_leI (a := tt) (b := k8) (by omega) (by omega)).mpr h9)
                                              refine lv_aload_n hx hb dX12_cut_357 rfl (lv_at hl 7 rfl) ?_
                                              refine lv_iload hx hb dX12_cut_358 (lv_at hl 0 rfl) ?_
                                              have hP : va_P G.1 pCl (mW G h0 a (upd (upd (upd (upd (upd F 4 (nI sz)) 9 (nI T)) 13 (nI us)) 14 (nI nm)) 4 (nI sz)) (updA (updA (updA (updA (updA (updA (updA B 2 g5) 3 g6) 4 g7) 5 g8) 6 g10) 7 g11) 8 g12)) H := hP
                                              have hD : va_D A (mW G h0 a (upd (upd (upd (upd (upd F 4 (nI sz)) 9 (nI T)) 13 (nI us)) 14 (nI nm)) 4 (nI sz)) (updA (updA (updA (updA (updA (updA (updA B 2 g5) 3 g6) 4 g7) 5 g8) 6 g10) 7 g11) 8 g12)) := hD
                                              refine pc_V0 (G := G) (As := [.int (nI k8)]) (rest := []) hx hb hml hown hq hE hX pX0_al hP hD hS hA hl.1 (R_ch l G h0 a (upd (upd (upd (upd F 4 (nI sz)) 9 (nI T)) 13 (nI us)) 14 (nI nm)) (updA (updA (updA (updA (updA (updA (updA B 2 g5) 3 g6) 4 g7) 5 g8) 6 g10) 7 g11) 8 g12) k8 sz (by omega) (by omega)) (gV pw_1561 pw_1562 pw_1563 pw_1523 pw_1518) hV_X12_ch 0 9 rfl rfl rfl rfl (Nat.le_of_ble_eq_true rfl) dX12_cut_360 ⟨Nat.le_of_ble_eq_true rfl, Nat.le_of_ble_eq_true rfl⟩ ⟨Nat.le_of_ble_eq_true rfl, Nat.le_of_ble_eq_true rfl⟩ (fun v184 u182 H locs hw183 hP hD hS => ?_)
                                              obtain ⟨r185, rfl⟩ : ∃ z, z = u182 := ⟨_, rfl⟩
                                              obtain ⟨hw183, h186⟩ := hw183
                                              have h186 : r185 = (-1) ∨ k8 < sz ∧ r185 = (updA (updA (updA (updA (updA (updA (updA B 2 g5) 3 g6) 4 g7) 5 g8) 6 g10) 7 g11) 8 g12) 1 k8 := h186
                                              obtain rfl : v184 = some (.int r185) := hw183
                                              have hP : va_P G.1 pCl (mW G h0 a (upd (upd (upd (upd F 4 (nI sz)) 9 (nI T)) 13 (nI us)) 14 (nI nm)) (updA (updA (updA (updA (updA (updA (updA B 2 g5) 3 g6) 4 g7) 5 g8) 6 g10) 7 g11) 8 g12)) H := hP
                                              have hD : va_D A (mW G h0 a (upd (upd (upd (upd F 4 (nI sz)) 9 (nI T)) 13 (nI us)) 14 (nI nm)) (updA (updA (updA (updA (updA (updA (updA B 2 g5) 3 g6) 4 g7) 5 g8) 6 g10) 7 g11) 8 g12)) := hD
                                              refine W.widen (k := 0) (n := 0) (Nat.le_of_ble_eq_true rfl) (Nat.le_of_ble_eq_true rfl) ?_
                                              refine W.eq (g2 := F0 m 363 ls [.int r185]) rfl ?_
                                              refine pc_SN (G := G) (As := [.int r185]) (rest := []) hx hb hml hown hq hE hX pX0_al hP hS hA hl.1 (s_isDigit l G r185) (gS pw_1577 pw_1578 pw_1523 pw_1524) hS_X12_isDigit rfl (Nat.le_of_ble_eq_true rfl) dX12_cut_363 ⟨Nat.le_of_ble_eq_true rfl, Nat.le_of_ble_eq_true rfl⟩ ⟨Nat.le_of_ble_eq_true rfl, Nat.le_of_ble_eq_true rfl⟩ (fun v189 u187 H locs hw188 hP hS => ?_)
                                              obtain ⟨x190, rfl, hr191, hr192⟩ := hw188
                                              refine W.widen (k := 0) (n := 0) (Nat.le_of_ble_eq_true rfl) (Nat.le_of_ble_eq_true rfl) ?_
                                              refine W.eq (g2 := F0 m 366 ls [.int x190]) rfl ?_
                                              refine lv_if_eq (tgt := 373) hx hb dX12_cut_366 (by decide) (fun c193 => ?_) (fun c193 => ?_)
                                              · refine lv_iconst (v := 3) hx hb dX12_cut_373 (by decide) ?_
                                                refine lv_istore (lv' := [(4, .int 3), (8, .int (nI k8)), (6, .long vl), (3, .int (nI tt)), (5, .int 0), (1, .int (nI i1)), (2, .int 1), (0, .ref h0)]) hx hb dX12_cut_374 hl (by decide) rfl (fun ls hl => ?_)
                                                refine lv_ldc2 (v := 10) hx hb hown (hq _ pw_1569) dX12_cut_376 ?_
                                                refine lv_lload hx hb dX12_cut_379 (lv_at hl 2 rfl) ?_
                                                refine lv_lmul hx hb dX12_cut_381 ?_
                                                refine lv_topl (fun x194 e195 => ?_)
                                                refine lv_aload_n hx hb dX12_cut_382 rfl (lv_at hl 7 rfl) ?_
                                                refine lv_iload hx hb dX12_cut_383 (lv_at hl 1 rfl) ?_
                                                have hP : va_P G.1 pCl (mW G h0 a (upd (upd (upd (upd (upd F 4 (nI sz)) 9 (nI T)) 13 (nI us)) 14 (nI nm)) 4 (nI sz)) (updA (updA (updA (updA (updA (updA (updA B 2 g5) 3 g6) 4 g7) 5 g8) 6 g10) 7 g11) 8 g12)) H := hP
                                                have hD : va_D A (mW G h0 a (upd (upd (upd (upd (upd F 4 (nI sz)) 9 (nI T)) 13 (nI us)) 14 (nI nm)) 4 (nI sz)) (updA (updA (updA (updA (updA (updA (updA B 2 g5) 3 g6) 4 g7) 5 g8) 6 g10) 7 g11) 8 g12)) := hD
                                                refine pc_V0 (G := G) (As := [.int (nI k8)]) (rest := [.long x194]) hx hb hml hown hq hE hX pX0_al hP hD hS hA hl.1 (R_ch l G h0 a (upd (upd (upd (upd F 4 (nI sz)) 9 (nI T)) 13 (nI us)) 14 (nI nm)) (updA (updA (updA (updA (updA (updA (updA B 2 g5) 3 g6) 4 g7) 5 g8) 6 g10) 7 g11) 8 g12) k8 sz (by omega) (by omega)) (gV pw_1561 pw_1562 pw_1563 pw_1523 pw_1518) hV_X12_ch 0 9 rfl rfl rfl rfl (Nat.le_of_ble_eq_true rfl) dX12_cut_385 ⟨Nat.le_of_ble_eq_true rfl, Nat.le_of_ble_eq_true rfl⟩ ⟨Nat.le_of_ble_eq_true rfl, Nat.le_of_ble_eq_true rfl⟩ (fun v198 u196 H locs hw197 hP hD hS => ?_)
                                                obtain ⟨r199, rfl⟩ : ∃ z, z = u196 := ⟨_, rfl⟩
                                                obtain ⟨hw197, h200⟩ := hw197
                                                have h200 : r199 = (-1) ∨ k8 < sz ∧ r199 = (updA (updA (updA (updA (updA (updA (updA B 2 g5) 3 g6) 4 g7) 5 g8) 6 g10) 7 g11) 8 g12) 1 k8 := h200
                                                obtain rfl : v198 = some (.int r199) := hw197
                                                have hP : va_P G.1 pCl (mW G h0 a (upd (upd (upd (upd F 4 (nI sz)) 9 (nI T)) 13 (nI us)) 14 (nI nm)) (updA (updA (updA (updA (updA (updA (updA B 2 g5) 3 g6) 4 g7) 5 g8) 6 g10) 7 g11) 8 g12)) H := hP
                                                have hD : va_D A (mW G h0 a (upd (upd (upd (upd F 4 (nI sz)) 9 (nI T)) 13 (nI us)) 14 (nI nm)) (updA (updA (updA (updA (updA (updA (updA B 2 g5) 3 g6) 4 g7) 5 g8) 6 g10) 7 g11) 8 g12)) := hD
                                                refine W.widen (k := 0) (n := 0) (Nat.le_of_ble_eq_true rfl) (Nat.le_of_ble_eq_true rfl) ?_
                                                refine W.eq (g2 := F0 m 388 ls [.int r199, .long x194]) rfl ?_
                                                refine lv_i2l hx hb dX12_cut_388 rfl ?_
                                                refine lv_topl (fun x201 e202 => ?_)
                                                refine lv_ladd hx hb dX12_cut_389 ?_
                                                refine lv_topl (fun x203 e204 => ?_)
                                                refine lv_ldc2 (v := 48) hx hb hown (hq _ pw_1570) dX12_cut_390 ?_
                                                refine lv_lsub hx hb dX12_cut_393 ?_
                                                refine lv_topl (fun x205 e206 => ?_)
                                                refine lv_lstore (lv' := [(6, .long x205), (4, .int 3), (8, .int (nI k8)), (3, .int (nI tt)), (5, .int 0), (1, .int (nI i1)), (2, .int 1), (0, .ref h0)]) hx hb dX12_cut_394 hl (by decide) rfl (fun ls hl => ?_)
                                                refine lv_iinc (v := (nI (k8 + 1))) (lv' := [(8, .int (nI (k8 + 1))), (6, .long x205), (4, .int 3), (3, .int (nI tt)), (5, .int 0), (1, .int (nI i1)), (2, .int 1), (0, .ref h0)]) hx hb dX12_cut_396 hl (k := 2) rfl (nI_1 k8) (by decide) rfl (fun ls hl => ?_)
                                                refine lv_goto (tgt := 345) hx hb dX12_cut_399 (by decide) ?_
                                                have hP : va_P G.1 pCl (mW G h0 a (upd (upd (upd (upd F 4 (nI sz)) 9 (nI T)) 13 (nI us)) 14 (nI nm)) (updA (updA (updA (updA (updA (updA (updA B 2 g5) 3 g6) 4 g7) 5 g8) 6 g10) 7 g11) 8 g12)) H := hP
                                                have hD : va_D A (mW G h0 a (upd (upd (upd (upd F 4 (nI sz)) 9 (nI T)) 13 (nI us)) 14 (nI nm)) (updA (updA (updA (updA (updA (updA (updA B 2 g5) 3 g6) 4 g7) 5 g8) 6 g10) 7 g11) 8 g12)) := hD
                                                exact ih_v (k8 + 1) x205 3 _ _ _ (by omega) (by omega) (by omega) (by decide) hP hD hS (lv_sub hl [0, 2, 1, 3, 4, 5, 6, 7] rfl)
                                              · refine lv_iconst (v := 2) hx hb dX12_cut_369 (by decide) ?_
                                                refine lv_goto (tgt := 374) hx hb dX12_cut_370 (by decide) ?_
                                                refine lv_istore (lv' := [(4, .int 2), (8, .int (nI k8)), (6, .long vl), (3, .int (nI tt)), (5, .int 0), (1, .int (nI i1)), (2, .int 1), (0, .ref h0)]) hx hb dX12_cut_374 hl (by decide) rfl (fun ls hl => ?_)
                                                refine lv_ldc2 (v := 10) hx hb hown (hq _ pw_1569) dX12_cut_376 ?_
                                                refine lv_lload hx hb dX12_cut_379 (lv_at hl 2 rfl) ?_
                                                refine lv_lmul hx hb dX12_cut_381 ?_
                                                refine lv_topl (fun x207 e208 => ?_)
                                                refine lv_aload_n hx hb dX12_cut_382 rfl (lv_at hl 7 rfl) ?_
                                                refine lv_iload hx hb dX12_cut_383 (lv_at hl 1 rfl) ?_
                                                have hP : va_P G.1 pCl (mW G h0 a (upd (upd (upd (upd (upd F 4 (nI sz)) 9 (nI T)) 13 (nI us)) 14 (nI nm)) 4 (nI sz)) (updA (updA (updA (updA (updA (updA (updA B 2 g5) 3 g6) 4 g7) 5 g8) 6 g10) 7 g11) 8 g12)) H := hP
                                                have hD : va_D A (mW G h0 a (upd (upd (upd (upd (upd F 4 (nI sz)) 9 (nI T)) 13 (nI us)) 14 (nI nm)) 4 (nI sz)) (updA (updA (updA (updA (updA (updA (updA B 2 g5) 3 g6) 4 g7) 5 g8) 6 g10) 7 g11) 8 g12)) := hD
                                                refine pc_V0 (G := G) (As := [.int (nI k8)]) (rest := [.long x207]) hx hb hml hown hq hE hX pX0_al hP hD hS hA hl.1 (R_ch l G h0 a (upd (upd (upd (upd F 4 (nI sz)) 9 (nI T)) 13 (nI us)) 14 (nI nm)) (updA (updA (updA (updA (updA (updA (updA B 2 g5) 3 g6) 4 g7) 5 g8) 6 g10) 7 g11) 8 g12) k8 sz (by omega) (by omega)) (gV pw_1561 pw_1562 pw_1563 pw_1523 pw_1518) hV_X12_ch 0 9 rfl rfl rfl rfl (Nat.le_of_ble_eq_true rfl) dX12_cut_385 ⟨Nat.le_of_ble_eq_true rfl, Nat.le_of_ble_eq_true rfl⟩ ⟨Nat.le_of_ble_eq_true rfl, Nat.le_of_ble_eq_true rfl⟩ (fun v211 u209 H locs hw210 hP hD hS => ?_)
                                                obtain ⟨r212, rfl⟩ : ∃ z, z = u209 := ⟨_, rfl⟩
                                                obtain ⟨hw210, h213⟩ := hw210
                                                have h213 : r212 = (-1) ∨ k8 < sz ∧ r212 = (updA (updA (updA (updA (updA (updA (updA B 2 g5) 3 g6) 4 g7) 5 g8) 6 g10) 7 g11) 8 g12) 1 k8 := h213
                                                obtain rfl : v211 = some (.int r212) := hw210
                                                have hP : va_P G.1 pCl (mW G h0 a (upd (upd (upd (upd F 4 (nI sz)) 9 (nI T)) 13 (nI us)) 14 (nI nm)) (updA (updA (updA (updA (updA (updA (updA B 2 g5) 3 g6) 4 g7) 5 g8) 6 g10) 7 g11) 8 g12)) H := hP
                                                have hD : va_D A (mW G h0 a (upd (upd (upd (upd F 4 (nI sz)) 9 (nI T)) 13 (nI us)) 14 (nI nm)) (updA (updA (updA (updA (updA (updA (updA B 2 g5) 3 g6) 4 g7) 5 g8) 6 g10) 7 g11) 8 g12)) := hD
                                                refine W.widen (k := 0) (n := 0) (Nat.le_of_ble_eq_true rfl) (Nat.le_of_ble_eq_true rfl) ?_
                                                refine W.eq (g2 := F0 m 388 ls [.int r212, .long x207]) rfl ?_
                                                refine lv_i2l hx hb dX12_cut_388 rfl ?_
                                                refine lv_topl (fun x214 e215 => ?_)
                                                refine lv_ladd hx hb dX12_cut_389 ?_
                                                refine lv_topl (fun x216 e217 => ?_)
                                                refine lv_ldc2 (v := 48) hx hb hown (hq _ pw_1570) dX12_cut_390 ?_
                                                refine lv_lsub hx hb dX12_cut_393 ?_
                                                refine lv_topl (fun x218 e219 => ?_)
                                                refine lv_lstore (lv' := [(6, .long x218), (4, .int 2), (8, .int (nI k8)), (3, .int (nI tt)), (5, .int 0), (1, .int (nI i1)), (2, .int 1), (0, .ref h0)]) hx hb dX12_cut_394 hl (by decide) rfl (fun ls hl => ?_)
                                                refine lv_iinc (v := (nI (k8 + 1))) (lv' := [(8, .int (nI (k8 + 1))), (6, .long x218), (4, .int 2), (3, .int (nI tt)), (5, .int 0), (1, .int (nI i1)), (2, .int 1), (0, .ref h0)]) hx hb dX12_cut_396 hl (k := 2) rfl (nI_1 k8) (by decide) rfl (fun ls hl => ?_)
                                                refine lv_goto (tgt := 345) hx hb dX12_cut_399 (by decide) ?_
                                                have hP : va_P G.1 pCl (mW G h0 a (upd (upd (upd (upd F 4 (nI sz)) 9 (nI T)) 13 (nI us)) 14 (nI nm)) (updA (updA (updA (updA (updA (updA (updA B 2 g5) 3 g6) 4 g7) 5 g8) 6 g10) 7 g11) 8 g12)) H := hP
                                                have hD : va_D A (mW G h0 a (upd (upd (upd (upd F 4 (nI sz)) 9 (nI T)) 13 (nI us)) 14 (nI nm)) (updA (updA (updA (updA (updA (updA (updA B 2 g5) 3 g6) 4 g7) 5 g8) 6 g10) 7 g11) 8 g12)) := hD
                                                exact ih_v (k8 + 1) x218 2 _ _ _ (by omega) (by omega) (by omega) (by decide) hP hD hS (lv_sub hl [0, 2, 1, 3, 4, 5, 6, 7] rfl)
                                      have hP : va_P G.1 pCl (mW G h0 a (upd (upd (upd (upd F 4 (nI sz)) 9 (nI T)) 13 (nI us)) 14 (nI nm)) (updA (updA (updA (updA (updA (updA (updA B 2 g5) 3 g6) 4 g7) 5 g8) 6 g10) 7 g11) 8 g12)) H := hP
                                      have hD : va_D A (mW G h0 a (upd (upd (upd (upd F 4 (nI sz)) 9 (nI T)) 13 (nI us)) 14 (nI nm)) (updA (updA (updA (updA (updA (updA (updA B 2 g5) 3 g6) 4 g7) 5 g8) 6 g10) 7 g11) 8 g12)) := hD
                                      exact loop_v (tt + 1) i1 0 2 _ _ _ (by omega) (by omega) (by omega) (by decide) hP hD hS (lv_sub hl [0, 1, 2, 3, 4, 5, 6, 7] rfl)
                                    · have n220 : ¬ ((tt - i1) ≤ 10) := fun h9 => c156 ((nI_leI (a := (tt - i1)) (b := 10) (by omega) (by omega)).mpr h9)
                                      refine lv_iconst (v := 3) hx hb dX12_cut_335 (by decide) ?_
                                      refine lv_goto (tgt := 340) hx hb dX12_cut_336 (by decide) ?_
                                      refine lv_istore (lv' := [(4, .int 3), (6, .long 0), (3, .int (nI tt)), (5, .int 0), (1, .int (nI i1)), (2, .int 1), (0, .ref h0)]) hx hb dX12_cut_340 hl (by decide) rfl (fun ls hl => ?_)
                                      refine lv_iload_n hx hb dX12_cut_342 rfl (lv_at hl 4 rfl) ?_
                                      refine lv_istore (lv' := [(8, .int (nI i1)), (4, .int 3), (6, .long 0), (3, .int (nI tt)), (5, .int 0), (1, .int (nI i1)), (2, .int 1), (0, .ref h0)]) hx hb dX12_cut_343 hl (by decide) rfl (fun ls hl => ?_)
                                      have loop_v : ∀ (n_v : Nat) (k8 : Nat) (vl : Int64) (kd : Int32) (H : Heap) (locs : List Loc) (ls : Array Slot), k8 ≤ tt → tt + 1 ≤ k8 + n_v → (i1 ≤ k8) → (kd = 2 ∨ kd = 3) → va_P G.1 pCl (mW G h0 a (upd (upd (upd (upd F 4 (nI sz)) 9 (nI T)) 13 (nI us)) 14 (nI nm)) (updA (updA (updA (updA (updA (updA (updA B 2 g5) 3 g6) 4 g7) 5 g8) 6 g10) 7 g11) 8 g12)) H → va_D A (mW G h0 a (upd (upd (upd (upd F 4 (nI sz)) 9 (nI T)) 13 (nI us)) 14 (nI nm)) (updA (updA (updA (updA (updA (updA (updA B 2 g5) 3 g6) 4 g7) 5 g8) 6 g10) 7 g11) 8 g12)) → va_S A s.heap H locs → lv_has ls 9 [(8, .int (nI k8)), (4, .int kd), (6, .long vl), (3, .int (nI tt)), (5, .int 0), (1, .int (nI i1)), (2, .int 1), (0, .ref h0)] → W p l e (headSpec (Cond.code yX12_cut cX12_cut 9 none :: pw) ({ frames := 7, cells := 0, slots := 0, locals := 174 } : Room)).room s m ([.ref h0] : List Value).toArray below meth c H locs 0 0 (MQ below (pQ G A (fun (v : Option Value) (u : Nat × Nat × Nat × (Nat → Int32) × (Nat → Int32) × (Nat → Int32) × (Nat → Int32) × (Nat → Int32) × (Nat → Int32) × (Nat → Int32)) => v = none ∧ (u.1 ≤ sz) ∧ (u.2.2.2.2.2.2.1 u.1 = 0 ∨ u.2.2.2.2.2.2.1 u.1 = 3) ∧ (rNm u.2.1 u.2.2.1 u.2.2.2.1 u.2.2.2.2.1) ∧ (u.2.1 ≤ 9 + sz) ∧ (u.2.2.1 ≤ 40 + sz) ∧ (rTk u.1 u.2.1 u.2.2.2.2.2.2.1 u.2.2.2.2.2.2.2.2.2) ∧ (9 ≤ u.2.1)) (fun u => (mW G h0 a (upd (upd (upd (upd F 4 (nI sz)) 9 (nI u.1)) 13 (nI u.2.2.1)) 14 (nI u.2.1)) (updA (updA (updA (updA (updA (updA (updA B 2 u.2.2.2.2.2.2.1) 3 u.2.2.2.2.2.2.2.1) 4 u.2.2.2.2.2.2.2.2.1) 5 u.2.2.2.2.2.2.2.2.2) 6 u.2.2.2.1) 7 u.2.2.2.2.1) 8 u.2.2.2.2.2.1)))) ([.ref h0] : List Value).toArray s ({ frames := 7, cells := 0, slots := 0, locals := 174 } : Room).cells ({ frames := 7, cells := 0, slots := 0, locals := 174 } : Room).slots A) (F0 m 345 ls []) := by
                                        intro n_v
                                        induction n_v with
                                        | zero => intro k8 vl kd H locs ls hk_v hn_v; omega
                                        | succ n_v ih_v =>
                                          intro k8 vl kd H locs ls hk_v hn_v hk0 hkd hP hD hS hl
                                          refine lv_iload hx hb dX12_cut_345 (lv_at hl 1 rfl) ?_
                                          refine lv_iconst (v := 2) hx hb dX12_cut_347 (by decide) ?_
                                          refine lv_icmp_ne (tgt := 402) hx hb dX12_cut_348 (by decide) (fun c221 => ?_) (fun c221 => ?_)
                                          · refine lv_iload hx hb dX12_cut_402 (lv_at hl 1 rfl) ?_
                                            refine lv_iconst (v := 2) hx hb dX12_cut_404 (by decide) ?_
                                            refine lv_icmp_ne (tgt := 421) hx hb dX12_cut_405 (by decide) (fun c222 => ?_) (fun c222 => ?_)
                                            · refine lv_iload hx hb dX12_cut_421 (lv_at hl 1 rfl) ?_
                                              refine lv_istore (lv' := [(4, .int kd), (8, .int (nI k8)), (6, .long vl), (3, .int (nI tt)), (5, .int 0), (1, .int (nI i1)), (2, .int 1), (0, .ref h0)]) hx hb dX12_cut_423 hl (by decide) rfl (fun ls hl => ?_)
                                              refine lv_lload hx hb dX12_cut_425 (lv_at hl 2 rfl) ?_
                                              refine lv_l2i hx hb dX12_cut_427 rfl ?_
                                              refine lv_topi (fun x223 e224 => ?_)
                                              refine lv_istore (lv' := [(5, .int x223), (4, .int kd), (8, .int (nI k8)), (6, .long vl), (3, .int (nI tt)), (1, .int (nI i1)), (2, .int 1), (0, .ref h0)]) hx hb dX12_cut_428 hl (by decide) rfl (fun ls hl => ?_)
                                              refine lv_goto (tgt := 472) hx hb dX12_cut_430 (by decide) ?_
                                              have hP : va_P G.1 pCl (mW G h0 a (upd (upd (upd (upd F 4 (nI sz)) 9 (nI T)) 13 (nI us)) 14 (nI nm)) (updA (updA (updA (updA (updA (updA (updA B 2 g5) 3 g6) 4 g7) 5 g8) 6 g10) 7 g11) 8 g12)) H := hP
                                              have hD : va_D A (mW G h0 a (upd (upd (upd (upd F 4 (nI sz)) 9 (nI T)) 13 (nI us)) 14 (nI nm)) (updA (updA (updA (updA (updA (updA (updA B 2 g5) 3 g6) 4 g7) 5 g8) 6 g10) 7 g11) 8 g12)) := hD
                                              exact cut_j kd x223 tt nm us g10 g11 g12 _ _ _ (by omega) (by omega) (Or.inr (by omega)) (by omega) (by omega) (by omega) hR (fun e9 => by rcases hkd with h8 | h8 <;> rw [h8] at e9 <;> exact absurd e9 (by decide)) hP hD hS (lv_sub hl [5, 6, 4, 1, 0, 7] rfl)
                                            · refine lv_lload hx hb dX12_cut_408 (lv_at hl 2 rfl) ?_
                                              refine lv_ldc2 (v := 2147483647) hx hb hown (hq _ pw_1571) dX12_cut_410 ?_
                                              refine W.lcmp hx hb dX12_cut_413 ?_
                                              refine lv_topi (fun x225 e226 => ?_)
                                              refine lv_if_le (tgt := 421) hx hb dX12_cut_414 (by decide) (fun c227 => ?_) (fun c227 => ?_)
                                              · refine lv_iload hx hb dX12_cut_421 (lv_at hl 1 rfl) ?_
                                                refine lv_istore (lv' := [(4, .int kd), (8, .int (nI k8)), (6, .long vl), (3, .int (nI tt)), (5, .int 0), (1, .int (nI i1)), (2, .int 1), (0, .ref h0)]) hx hb dX12_cut_423 hl (by decide) rfl (fun ls hl => ?_)
                                                refine lv_lload hx hb dX12_cut_425 (lv_at hl 2 rfl) ?_
                                                refine lv_l2i hx hb dX12_cut_427 rfl ?_
                                                refine lv_topi (fun x228 e229 => ?_)
                                                refine lv_istore (lv' := [(5, .int x228), (4, .int kd), (8, .int (nI k8)), (6, .long vl), (3, .int (nI tt)), (1, .int (nI i1)), (2, .int 1), (0, .ref h0)]) hx hb dX12_cut_428 hl (by decide) rfl (fun ls hl => ?_)
                                                refine lv_goto (tgt := 472) hx hb dX12_cut_430 (by decide) ?_
                                                have hP : va_P G.1 pCl (mW G h0 a (upd (upd (upd (upd F 4 (nI sz)) 9 (nI T)) 13 (nI us)) 14 (nI nm)) (updA (updA (updA (updA (updA (updA (updA B 2 g5) 3 g6) 4 g7) 5 g8) 6 g10) 7 g11) 8 g12)) H := hP
                                                have hD : va_D A (mW G h0 a (upd (upd (upd (upd F 4 (nI sz)) 9 (nI T)) 13 (nI us)) 14 (nI nm)) (updA (updA (updA (updA (updA (updA (updA B 2 g5) 3 g6) 4 g7) 5 g8) 6 g10) 7 g11) 8 g12)) := hD
                                                exact cut_j kd x228 tt nm us g10 g11 g12 _ _ _ (by omega) (by omega) (Or.inr (by omega)) (by omega) (by omega) (by omega) hR (fun e9 => by rcases hkd with h8 | h8 <;> rw [h8] at e9 <;> exact absurd e9 (by decide)) hP hD hS (lv_sub hl [5, 6, 4, 1, 0, 7] rfl)
                                              · refine lv_iconst (v := 3) hx hb dX12_cut_417 (by decide) ?_
                                                refine lv_goto (tgt := 423) hx hb dX12_cut_418 (by decide) ?_
                                                refine lv_istore (lv' := [(4, .int 3), (8, .int (nI k8)), (6, .long vl), (3, .int (nI tt)), (5, .int 0), (1, .int (nI i1)), (2, .int 1), (0, .ref h0)]) hx hb dX12_cut_423 hl (by decide) rfl (fun ls hl => ?_)
                                                refine lv_lload hx hb dX12_cut_425 (lv_at hl 2 rfl) ?_
                                                refine lv_l2i hx hb dX12_cut_427 rfl ?_
                                                refine lv_topi (fun x230 e231 => ?_)
                                                refine lv_istore (lv' := [(5, .int x230), (4, .int 3), (8, .int (nI k8)), (6, .long vl), (3, .int (nI tt)), (1, .int (nI i1)), (2, .int 1), (0, .ref h0)]) hx hb dX12_cut_428 hl (by decide) rfl (fun ls hl => ?_)
                                                refine lv_goto (tgt := 472) hx hb dX12_cut_430 (by decide) ?_
                                                have hP : va_P G.1 pCl (mW G h0 a (upd (upd (upd (upd F 4 (nI sz)) 9 (nI T)) 13 (nI us)) 14 (nI nm)) (updA (updA (updA (updA (updA (updA (updA B 2 g5) 3 g6) 4 g7) 5 g8) 6 g10) 7 g11) 8 g12)) H := hP
                                                have hD : va_D A (mW G h0 a (upd (upd (upd (upd F 4 (nI sz)) 9 (nI T)) 13 (nI us)) 14 (nI nm)) (updA (updA (updA (updA (updA (updA (updA B 2 g5) 3 g6) 4 g7) 5 g8) 6 g10) 7 g11) 8 g12)) := hD
                                                exact cut_j 3 x230 tt nm us g10 g11 g12 _ _ _ (by omega) (by omega) (Or.inr (by omega)) (by omega) (by omega) (by omega) hR (fun e9 => absurd e9 (by decide)) hP hD hS (lv_sub hl [5, 6, 4, 1, 0, 7] rfl)
                                          · refine lv_iload hx hb dX12_cut_351 (lv_at hl 0 rfl) ?_
                                            refine lv_iload_n hx hb dX12_cut_353 rfl (lv_at hl 3 rfl) ?_
                                            refine lv_icmp_ge (tgt := 402) hx hb dX12_cut_354 (by decide) (fun c232 => ?_) (fun c232 => ?_)
                                            · have n233 : tt ≤ k8 := (nI_leI (a := tt) (b := k8) (by omega) (by omega)).mp c232
                                              refine lv_iload hx hb dX12_cut_402 (lv_at hl 1 rfl) ?_
                                              refine lv_iconst (v := 2) hx hb dX12_cut_404 (by decide) ?_
                                              refine lv_icmp_ne (tgt := 421) hx hb dX12_cut_405 (by decide) (fun c234 => ?_) (fun c234 => ?_)
                                              · refine lv_iload hx hb dX12_cut_421 (lv_at hl 1 rfl) ?_
                                                refine lv_istore (lv' := [(4, .int kd), (8, .int (nI k8)), (6, .long vl), (3, .int (nI tt)), (5, .int 0), (1, .int (nI i1)), (2, .int 1), (0, .ref h0)]) hx hb dX12_cut_423 hl (by decide) rfl (fun ls hl => ?_)
                                                refine lv_lload hx hb dX12_cut_425 (lv_at hl 2 rfl) ?_
                                                refine lv_l2i hx hb dX12_cut_427 rfl ?_
                                                refine lv_topi (fun x235 e236 => ?_)
                                                refine lv_istore (lv' := [(5, .int x235), (4, .int kd), (8, .int (nI k8)), (6, .long vl), (3, .int (nI tt)), (1, .int (nI i1)), (2, .int 1), (0, .ref h0)]) hx hb dX12_cut_428 hl (by decide) rfl (fun ls hl => ?_)
                                                refine lv_goto (tgt := 472) hx hb dX12_cut_430 (by decide) ?_
                                                have hP : va_P G.1 pCl (mW G h0 a (upd (upd (upd (upd F 4 (nI sz)) 9 (nI T)) 13 (nI us)) 14 (nI nm)) (updA (updA (updA (updA (updA (updA (updA B 2 g5) 3 g6) 4 g7) 5 g8) 6 g10) 7 g11) 8 g12)) H := hP
                                                have hD : va_D A (mW G h0 a (upd (upd (upd (upd F 4 (nI sz)) 9 (nI T)) 13 (nI us)) 14 (nI nm)) (updA (updA (updA (updA (updA (updA (updA B 2 g5) 3 g6) 4 g7) 5 g8) 6 g10) 7 g11) 8 g12)) := hD
                                                exact cut_j kd x235 tt nm us g10 g11 g12 _ _ _ (by omega) (by omega) (Or.inr (by omega)) (by omega) (by omega) (by omega) hR (fun e9 => by rcases hkd with h8 | h8 <;> rw [h8] at e9 <;> exact absurd e9 (by decide)) hP hD hS (lv_sub hl [5, 6, 4, 1, 0, 7] rfl)
                                              · refine lv_lload hx hb dX12_cut_408 (lv_at hl 2 rfl) ?_
                                                refine lv_ldc2 (v := 2147483647) hx hb hown (hq _ pw_1571) dX12_cut_410 ?_
                                                refine W.lcmp hx hb dX12_cut_413 ?_
                                                refine lv_topi (fun x237 e238 => ?_)
                                                refine lv_if_le (tgt := 421) hx hb dX12_cut_414 (by decide) (fun c239 => ?_) (fun c239 => ?_)
                                                · refine lv_iload hx hb dX12_cut_421 (lv_at hl 1 rfl) ?_
                                                  refine lv_istore (lv' := [(4, .int kd), (8, .int (nI k8)), (6, .long vl), (3, .int (nI tt)), (5, .int 0), (1, .int (nI i1)), (2, .int 1), (0, .ref h0)]) hx hb dX12_cut_423 hl (by decide) rfl (fun ls hl => ?_)
                                                  refine lv_lload hx hb dX12_cut_425 (lv_at hl 2 rfl) ?_
                                                  refine lv_l2i hx hb dX12_cut_427 rfl ?_
                                                  refine lv_topi (fun x240 e241 => ?_)
                                                  refine lv_istore (lv' := [(5, .int x240), (4, .int kd), (8, .int (nI k8)), (6, .long vl), (3, .int (nI tt)), (1, .int (nI i1)), (2, .int 1), (0, .ref h0)]) hx hb dX12_cut_428 hl (by decide) rfl (fun ls hl => ?_)
                                                  refine lv_goto (tgt := 472) hx hb dX12_cut_430 (by decide) ?_
                                                  have hP : va_P G.1 pCl (mW G h0 a (upd (upd (upd (upd F 4 (nI sz)) 9 (nI T)) 13 (nI us)) 14 (nI nm)) (updA (updA (updA (updA (updA (updA (updA B 2 g5) 3 g6) 4 g7) 5 g8) 6 g10) 7 g11) 8 g12)) H := hP
                                                  have hD : va_D A (mW G h0 a (upd (upd (upd (upd F 4 (nI sz)) 9 (nI T)) 13 (nI us)) 14 (nI nm)) (updA (updA (updA (updA (updA (updA (updA B 2 g5) 3 g6) 4 g7) 5 g8) 6 g10) 7 g11) 8 g12)) := hD
                                                  exact cut_j kd x240 tt nm us g10 g11 g12 _ _ _ (by omega) (by omega) (Or.inr (by omega)) (by omega) (by omega) (by omega) hR (fun e9 => by rcases hkd with h8 | h8 <;> rw [h8] at e9 <;> exact absurd e9 (by decide)) hP hD hS (lv_sub hl [5, 6, 4, 1, 0, 7] rfl)
                                                · refine lv_iconst (v := 3) hx hb dX12_cut_417 (by decide) ?_
                                                  refine lv_goto (tgt := 423) hx hb dX12_cut_418 (by decide) ?_
                                                  refine lv_istore (lv' := [(4, .int 3), (8, .int (nI k8)), (6, .long vl), (3, .int (nI tt)), (5, .int 0), (1, .int (nI i1)), (2, .int 1), (0, .ref h0)]) hx hb dX12_cut_423 hl (by decide) rfl (fun ls hl => ?_)
                                                  refine lv_lload hx hb dX12_cut_425 (lv_at hl 2 rfl) ?_
                                                  refine lv_l2i hx hb dX12_cut_427 rfl ?_
                                                  refine lv_topi (fun x242 e243 => ?_)
                                                  refine lv_istore (lv' := [(5, .int x242), (4, .int 3), (8, .int (nI k8)), (6, .long vl), (3, .int (nI tt)), (1, .int (nI i1)), (2, .int 1), (0, .ref h0)]) hx hb dX12_cut_428 hl (by decide) rfl (fun ls hl => ?_)
                                                  refine lv_goto (tgt := 472) hx hb dX12_cut_430 (by decide) ?_
                                                  have hP : va_P G.1 pCl (mW G h0 a (upd (upd (upd (upd F 4 (nI sz)) 9 (nI T)) 13 (nI us)) 14 (nI nm)) (updA (updA (updA (updA (updA (updA (updA B 2 g5) 3 g6) 4 g7) 5 g8) 6 g10) 7 g11) 8 g12)) H := hP
                                                  have hD : va_D A (mW G h0 a (upd (upd (upd (upd F 4 (nI sz)) 9 (nI T)) 13 (nI us)) 14 (nI nm)) (updA (updA (updA (updA (updA (updA (updA B 2 g5) 3 g6) 4 g7) 5 g8) 6 g10) 7 g11) 8 g12)) := hD
                                                  exact cut_j 3 x242 tt nm us g10 g11 g12 _ _ _ (by omega) (by omega) (Or.inr (by omega)) (by omega) (by omega) (by omega) hR (fun e9 => absurd e9 (by decide)) hP hD hS (lv_sub hl [5, 6, 4, 1, 0, 7] rfl)
                                            · have n244 : ¬ (tt ≤ k8) := fun h9 => c232 ((nI_leI (a := tt) (b := k8) (by omega) (by omega)).mpr h9)
                                              refine lv_aload_n hx hb dX12_cut_357 rfl (lv_at hl 7 rfl) ?_
                                              refine lv_iload hx hb dX12_cut_358 (lv_at hl 0 rfl) ?_
                                              have hP : va_P G.1 pCl (mW G h0 a (upd (upd (upd (upd (upd F 4 (nI sz)) 9 (nI T)) 13 (nI us)) 14 (nI nm)) 4 (nI sz)) (updA (updA (updA (updA (updA (updA (updA B 2 g5) 3 g6) 4 g7) 5 g8) 6 g10) 7 g11) 8 g12)) H := hP
                                              have hD : va_D A (mW G h0 a (upd (upd (upd (upd (upd F 4 (nI sz)) 9 (nI T)) 13 (nI us)) 14 (nI nm)) 4 (nI sz)) (updA (updA (updA (updA (updA (updA (updA B 2 g5) 3 g6) 4 g7) 5 g8) 6 g10) 7 g11) 8 g12)) := hD
                                              refine pc_V0 (G := G) (As := [.int (nI k8)]) (rest := []) hx hb hml hown hq hE hX pX0_al hP hD hS hA hl.1 (R_ch l G h0 a (upd (upd (upd (upd F 4 (nI sz)) 9 (nI T)) 13 (nI us)) 14 (nI nm)) (updA (updA (updA (updA (updA (updA (updA B 2 g5) 3 g6) 4 g7) 5 g8) 6 g10) 7 g11) 8 g12) k8 sz (by omega) (by omega)) (gV pw_1561 pw_1562 pw_1563 pw_1523 pw_1518) hV_X12_ch 0 9 rfl rfl rfl rfl (Nat.le_of_ble_eq_true rfl) dX12_cut_360 ⟨Nat.le_of_ble_eq_true rfl, Nat.le_of_ble_eq_true rfl⟩ ⟨Nat.le_of_ble_eq_true rfl, Nat.le_of_ble_eq_true rfl⟩ (fun v247 u245 H locs hw246 hP hD hS => ?_)
                                              obtain ⟨r248, rfl⟩ : ∃ z, z = u245 := ⟨_, rfl⟩
                                              obtain ⟨hw246, h249⟩ := hw246
                                              have h249 : r248 = (-1) ∨ k8 < sz ∧ r248 = (updA (updA (updA (updA (updA (updA (updA B 2 g5) 3 g6) 4 g7) 5 g8) 6 g10) 7 g11) 8 g12) 1 k8 := h249
                                              obtain rfl : v247 = some (.int r248) := hw246
                                              have hP : va_P G.1 pCl (mW G h0 a (upd (upd (upd (upd F 4 (nI sz)) 9 (nI T)) 13 (nI us)) 14 (nI nm)) (updA (updA (updA (updA (updA (updA (updA B 2 g5) 3 g6) 4 g7) 5 g8) 6 g10) 7 g11) 8 g12)) H := hP
                                              have hD : va_D A (mW G h0 a (upd (upd (upd (upd F 4 (nI sz)) 9 (nI T)) 13 (nI us)) 14 (nI nm)) (updA (updA (updA (updA (updA (updA (updA B 2 g5) 3 g6) 4 g7) 5 g8) 6 g10) 7 g11) 8 g12)) := hD
                                              refine W.widen (k := 0) (n := 0) (Nat.le_of_ble_eq_true rfl) (Nat.le_of_ble_eq_true rfl) ?_
                                              refine W.eq (g2 := F0 m 363 ls [.int r248]) rfl ?_
                                              refine pc_SN (G := G) (As := [.int r248]) (rest := []) hx hb hml hown hq hE hX pX0_al hP hS hA hl.1 (s_isDigit l G r248) (gS pw_1577 pw_1578 pw_1523 pw_1524) hS_X12_isDigit rfl (Nat.le_of_ble_eq_true rfl) dX12_cut_363 ⟨Nat.le_of_ble_eq_true rfl, Nat.le_of_ble_eq_true rfl⟩ ⟨Nat.le_of_ble_eq_true rfl, Nat.le_of_ble_eq_true rfl⟩ (fun v252 u250 H locs hw251 hP hS => ?_)
                                              obtain ⟨x253, rfl, hr254, hr255⟩ := hw251
                                              refine W.widen (k := 0) (n := 0) (Nat.le_of_ble_eq_true rfl) (Nat.le_of_ble_eq_true rfl) ?_
                                              refine W.eq (g2 := F0 m 366 ls [.int x253]) rfl ?_
                                              refine lv_if_eq (tgt := 373) hx hb dX12_cut_366 (by decide) (fun c256 => ?_) (fun c256 => ?_)
                                              · refine lv_iconst (v := 3) hx hb dX12_cut_373 (by decide) ?_
                                                refine lv_istore (lv' := [(4, .int 3), (8, .int (nI k8)), (6, .long vl), (3, .int (nI tt)), (5, .int 0), (1, .int (nI i1)), (2, .int 1), (0, .ref h0)]) hx hb dX12_cut_374 hl (by decide) rfl (fun ls hl => ?_)
                                                refine lv_ldc2 (v := 10) hx hb hown (hq _ pw_1569) dX12_cut_376 ?_
                                                refine lv_lload hx hb dX12_cut_379 (lv_at hl 2 rfl) ?_
                                                refine lv_lmul hx hb dX12_cut_381 ?_
                                                refine lv_topl (fun x257 e258 => ?_)
                                                refine lv_aload_n hx hb dX12_cut_382 rfl (lv_at hl 7 rfl) ?_
                                                refine lv_iload hx hb dX12_cut_383 (lv_at hl 1 rfl) ?_
                                                have hP : va_P G.1 pCl (mW G h0 a (upd (upd (upd (upd (upd F 4 (nI sz)) 9 (nI T)) 13 (nI us)) 14 (nI nm)) 4 (nI sz)) (updA (updA (updA (updA (updA (updA (updA B 2 g5) 3 g6) 4 g7) 5 g8) 6 g10) 7 g11) 8 g12)) H := hP
                                                have hD : va_D A (mW G h0 a (upd (upd (upd (upd (upd F 4 (nI sz)) 9 (nI T)) 13 (nI us)) 14 (nI nm)) 4 (nI sz)) (updA (updA (updA (updA (updA (updA (updA B 2 g5) 3 g6) 4 g7) 5 g8) 6 g10) 7 g11) 8 g12)) := hD
                                                refine pc_V0 (G := G) (As := [.int (nI k8)]) (rest := [.long x257]) hx hb hml hown hq hE hX pX0_al hP hD hS hA hl.1 (R_ch l G h0 a (upd (upd (upd (upd F 4 (nI sz)) 9 (nI T)) 13 (nI us)) 14 (nI nm)) (updA (updA (updA (updA (updA (updA (updA B 2 g5) 3 g6) 4 g7) 5 g8) 6 g10) 7 g11) 8 g12) k8 sz (by omega) (by omega)) (gV pw_1561 pw_1562 pw_1563 pw_1523 pw_1518) hV_X12_ch 0 9 rfl rfl rfl rfl (Nat.le_of_ble_eq_true rfl) dX12_cut_385 ⟨Nat.le_of_ble_eq_true rfl, Nat.le_of_ble_eq_true rfl⟩ ⟨Nat.le_of_ble_eq_true rfl, Nat.le_of_ble_eq_true rfl⟩ (fun v261 u259 H locs hw260 hP hD hS => ?_)
                                                obtain ⟨r262, rfl⟩ : ∃ z, z = u259 := ⟨_, rfl⟩
                                                obtain ⟨hw260, h263⟩ := hw260
                                                have h263 : r262 = (-1) ∨ k8 < sz ∧ r262 = (updA (updA (updA (updA (updA (updA (updA B 2 g5) 3 g6) 4 g7) 5 g8) 6 g10) 7 g11) 8 g12) 1 k8 := h263
                                                obtain rfl : v261 = some (.int r262) := hw260
                                                have hP : va_P G.1 pCl (mW G h0 a (upd (upd (upd (upd F 4 (nI sz)) 9 (nI T)) 13 (nI us)) 14 (nI nm)) (updA (updA (updA (updA (updA (updA (updA B 2 g5) 3 g6) 4 g7) 5 g8) 6 g10) 7 g11) 8 g12)) H := hP
                                                have hD : va_D A (mW G h0 a (upd (upd (upd (upd F 4 (nI sz)) 9 (nI T)) 13 (nI us)) 14 (nI nm)) (updA (updA (updA (updA (updA (updA (updA B 2 g5) 3 g6) 4 g7) 5 g8) 6 g10) 7 g11) 8 g12)) := hD
                                                refine W.widen (k := 0) (n := 0) (Nat.le_of_ble_eq_true rfl) (Nat.le_of_ble_eq_true rfl) ?_
                                                refine W.eq (g2 := F0 m 388 ls [.int r262, .long x257]) rfl ?_
                                                refine lv_i2l hx hb dX12_cut_388 rfl ?_
                                                refine lv_topl (fun x264 e265 => ?_)
                                                refine lv_ladd hx hb dX12_cut_389 ?_
                                                refine lv_topl (fun x266 e267 => ?_)
                                                refine lv_ldc2 (v := 48) hx hb hown (hq _ pw_1570) dX12_cut_390 ?_
                                                refine lv_lsub hx hb dX12_cut_393 ?_
                                                refine lv_topl (fun x268 e269 => ?_)
                                                refine lv_lstore (lv' := [(6, .long x268), (4, .int 3), (8, .int (nI k8)), (3, .int (nI tt)), (5, .int 0), (1, .int (nI i1)), (2, .int 1), (0, .ref h0)]) hx hb dX12_cut_394 hl (by decide) rfl (fun ls hl => ?_)
                                                refine lv_iinc (v := (nI (k8 + 1))) (lv' := [(8, .int (nI (k8 + 1))), (6, .long x268), (4, .int 3), (3, .int (nI tt)), (5, .int 0), (1, .int (nI i1)), (2, .int 1), (0, .ref h0)]) hx hb dX12_cut_396 hl (k := 2) rfl (nI_1 k8) (by decide) rfl (fun ls hl => ?_)
                                                refine lv_goto (tgt := 345) hx hb dX12_cut_399 (by decide) ?_
                                                have hP : va_P G.1 pCl (mW G h0 a (upd (upd (upd (upd F 4 (nI sz)) 9 (nI T)) 13 (nI us)) 14 (nI nm)) (updA (updA (updA (updA (updA (updA (updA B 2 g5) 3 g6) 4 g7) 5 g8) 6 g10) 7 g11) 8 g12)) H := hP
                                                have hD : va_D A (mW G h0 a (upd (upd (upd (upd F 4 (nI sz)) 9 (nI T)) 13 (nI us)) 14 (nI nm)) (updA (updA (updA (updA (updA (updA (updA B 2 g5) 3 g6) 4 g7) 5 g8) 6 g10) 7 g11) 8 g12)) := hD
                                                exact ih_v (k8 + 1) x268 3 _ _ _ (by omega) (by omega) (by omega) (by decide) hP hD hS (lv_sub hl [0, 2, 1, 3, 4, 5, 6, 7] rfl)
                                              · refine lv_iconst (v := 2) hx hb dX12_cut_369 (by decide) ?_
                                                refine lv_goto (tgt := 374) hx hb dX12_cut_370 (by decide) ?_
                                                refine lv_istore (lv' := [(4, .int 2), (8, .int (nI k8)), (6, .long vl), (3, .int (nI tt)), (5, .int 0), (1, .int (nI i1)), (2, .int 1), (0, .ref h0)]) hx hb dX12_cut_374 hl (by decide) rfl (fun ls hl => ?_)
                                                refine lv_ldc2 (v := 10) hx hb hown (hq _ pw_1569) dX12_cut_376 ?_
                                                refine lv_lload hx hb dX12_cut_379 (lv_at hl 2 rfl) ?_
                                                refine lv_lmul hx hb dX12_cut_381 ?_
                                                refine lv_topl (fun x270 e271 => ?_)
                                                refine lv_aload_n hx hb dX12_cut_382 rfl (lv_at hl 7 rfl) ?_
                                                refine lv_iload hx hb dX12_cut_383 (lv_at hl 1 rfl) ?_
                                                have hP : va_P G.1 pCl (mW G h0 a (upd (upd (upd (upd (upd F 4 (nI sz)) 9 (nI T)) 13 (nI us)) 14 (nI nm)) 4 (nI sz)) (updA (updA (updA (updA (updA (updA (updA B 2 g5) 3 g6) 4 g7) 5 g8) 6 g10) 7 g11) 8 g12)) H := hP
                                                have hD : va_D A (mW G h0 a (upd (upd (upd (upd (upd F 4 (nI sz)) 9 (nI T)) 13 (nI us)) 14 (nI nm)) 4 (nI sz)) (updA (updA (updA (updA (updA (updA (updA B 2 g5) 3 g6) 4 g7) 5 g8) 6 g10) 7 g11) 8 g12)) := hD
                                                refine pc_V0 (G := G) (As := [.int (nI k8)]) (rest := [.long x270]) hx hb hml hown hq hE hX pX0_al hP hD hS hA hl.1 (R_ch l G h0 a (upd (upd (upd (upd F 4 (nI sz)) 9 (nI T)) 13 (nI us)) 14 (nI nm)) (updA (updA (updA (updA (updA (updA (updA B 2 g5) 3 g6) 4 g7) 5 g8) 6 g10) 7 g11) 8 g12) k8 sz (by omega) (by omega)) (gV pw_1561 pw_1562 pw_1563 pw_1523 pw_1518) hV_X12_ch 0 9 rfl rfl rfl rfl (Nat.le_of_ble_eq_true rfl) dX12_cut_385 ⟨Nat.le_of_ble_eq_true rfl, Nat.le_of_ble_eq_true rfl⟩ ⟨Nat.le_of_ble_eq_true rfl, Nat.le_of_ble_eq_true rfl⟩ (fun v274 u272 H locs hw273 hP hD hS => ?_)
                                                obtain ⟨r275, rfl⟩ : ∃ z, z = u272 := ⟨_, rfl⟩
                                                obtain ⟨hw273, h276⟩ := hw273
                                                have h276 : r275 = (-1) ∨ k8 < sz ∧ r275 = (updA (updA (updA (updA (updA (updA (updA B 2 g5) 3 g6) 4 g7) 5 g8) 6 g10) 7 g11) 8 g12) 1 k8 := h276
                                                obtain rfl : v274 = some (.int r275) := hw273
                                                have hP : va_P G.1 pCl (mW G h0 a (upd (upd (upd (upd F 4 (nI sz)) 9 (nI T)) 13 (nI us)) 14 (nI nm)) (updA (updA (updA (updA (updA (updA (updA B 2 g5) 3 g6) 4 g7) 5 g8) 6 g10) 7 g11) 8 g12)) H := hP
                                                have hD : va_D A (mW G h0 a (upd (upd (upd (upd F 4 (nI sz)) 9 (nI T)) 13 (nI us)) 14 (nI nm)) (updA (updA (updA (updA (updA (updA (updA B 2 g5) 3 g6) 4 g7) 5 g8) 6 g10) 7 g11) 8 g12)) := hD
                                                refine W.widen (k := 0) (n := 0) (Nat.le_of_ble_eq_true rfl) (Nat.le_of_ble_eq_true rfl) ?_
                                                refine W.eq (g2 := F0 m 388 ls [.int r275, .long x270]) rfl ?_
                                                refine lv_i2l hx hb dX12_cut_388 rfl ?_
                                                refine lv_topl (fun x277 e278 => ?_)
                                                refine lv_ladd hx hb dX12_cut_389 ?_
                                                refine lv_topl (fun x279 e280 => ?_)
                                                refine lv_ldc2 (v := 48) hx hb hown (hq _ pw_1570) dX12_cut_390 ?_
                                                refine lv_lsub hx hb dX12_cut_393 ?_
                                                refine lv_topl (fun x281 e282 => ?_)
                                                refine lv_lstore (lv' := [(6, .long x281), (4, .int 2), (8, .int (nI k8)), (3, .int (nI tt)), (5, .int 0), (1, .int (nI i1)), (2, .int 1), (0, .ref h0)]) hx hb dX12_cut_394 hl (by decide) rfl (fun ls hl => ?_)
                                                refine lv_iinc (v := (nI (k8 + 1))) (lv' := [(8, .int (nI (k8 + 1))), (6, .long x281), (4, .int 2), (3, .int (nI tt)), (5, .int 0), (1, .int (nI i1)), (2, .int 1), (0, .ref h0)]) hx hb dX12_cut_396 hl (k := 2) rfl (nI_1 k8) (by decide) rfl (fun ls hl => ?_)
                                                refine lv_goto (tgt := 345) hx hb dX12_cut_399 (by decide) ?_
                                                have hP : va_P G.1 pCl (mW G h0 a (upd (upd (upd (upd F 4 (nI sz)) 9 (nI T)) 13 (nI us)) 14 (nI nm)) (updA (updA (updA (updA (updA (updA (updA B 2 g5) 3 g6) 4 g7) 5 g8) 6 g10) 7 g11) 8 g12)) H := hP
                                                have hD : va_D A (mW G h0 a (upd (upd (upd (upd F 4 (nI sz)) 9 (nI T)) 13 (nI us)) 14 (nI nm)) (updA (updA (updA (updA (updA (updA (updA B 2 g5) 3 g6) 4 g7) 5 g8) 6 g10) 7 g11) 8 g12)) := hD
                                                exact ih_v (k8 + 1) x281 2 _ _ _ (by omega) (by omega) (by omega) (by decide) hP hD hS (lv_sub hl [0, 2, 1, 3, 4, 5, 6, 7] rfl)
                                      have hP : va_P G.1 pCl (mW G h0 a (upd (upd (upd (upd F 4 (nI sz)) 9 (nI T)) 13 (nI us)) 14 (nI nm)) (updA (updA (updA (updA (updA (updA (updA B 2 g5) 3 g6) 4 g7) 5 g8) 6 g10) 7 g11) 8 g12)) H := hP
                                      have hD : va_D A (mW G h0 a (upd (upd (upd (upd F 4 (nI sz)) 9 (nI T)) 13 (nI us)) 14 (nI nm)) (updA (updA (updA (updA (updA (updA (updA B 2 g5) 3 g6) 4 g7) 5 g8) 6 g10) 7 g11) 8 g12)) := hD
                                      exact loop_v (tt + 1) i1 0 3 _ _ _ (by omega) (by omega) (by omega) (by decide) hP hD hS (lv_sub hl [0, 1, 2, 3, 4, 5, 6, 7] rfl)
                                  · have hc48 : ¬ r145 < 48 := (hr151).resolve_left c153
                                    have hlet2 : tt < sz ∧ ¬ B 1 tt = 32 := ⟨chin h146 (noM1 hc48), by rw [← ((h146).resolve_left (noM1 hc48)).2]; exact no32 hc48⟩
                                    refine lv_iinc (v := (nI (tt + 1))) (lv' := [(3, .int (nI (tt + 1))), (6, .long 0), (4, .int 0), (5, .int 0), (1, .int (nI i1)), (2, .int 1), (0, .ref h0)]) hx hb dX12_cut_321 hl (k := 1) rfl (nI_1 tt) (by decide) rfl (fun ls hl => ?_)
                                    refine lv_goto (tgt := 299) hx hb dX12_cut_324 (by decide) ?_
                                    have hP : va_P G.1 pCl (mW G h0 a (upd (upd (upd (upd F 4 (nI sz)) 9 (nI T)) 13 (nI us)) 14 (nI nm)) (updA (updA (updA (updA (updA (updA (updA B 2 g5) 3 g6) 4 g7) 5 g8) 6 g10) 7 g11) 8 g12)) H := hP
                                    have hD : va_D A (mW G h0 a (upd (upd (upd (upd F 4 (nI sz)) 9 (nI T)) 13 (nI us)) 14 (nI nm)) (updA (updA (updA (updA (updA (updA (updA B 2 g5) 3 g6) 4 g7) 5 g8) 6 g10) 7 g11) 8 g12)) := hD
                                    exact ih_d (tt + 1) _ _ _ (by have := hlet2.1; omega) (by omega) (by omega) (fun j h8 h9 => by by_cases e9 : j = tt; · rw [e9]; exact hlet2.2; · exact htt j h8 (by omega)) hP hD hS (lv_sub hl [1, 0, 2, 3, 4, 5, 6] rfl)
                            have hP : va_P G.1 pCl (mW G h0 a (upd (upd (upd (upd F 4 (nI sz)) 9 (nI T)) 13 (nI us)) 14 (nI nm)) (updA (updA (updA (updA (updA (updA (updA B 2 g5) 3 g6) 4 g7) 5 g8) 6 g10) 7 g11) 8 g12)) H := hP
                            have hD : va_D A (mW G h0 a (upd (upd (upd (upd F 4 (nI sz)) 9 (nI T)) 13 (nI us)) 14 (nI nm)) (updA (updA (updA (updA (updA (updA (updA B 2 g5) 3 g6) 4 g7) 5 g8) 6 g10) 7 g11) 8 g12)) := hD
                            exact loop_d (sz + 1) (i1 + 1) _ _ _ (by omega) (by omega) (by omega) (fun j h8 h9 => by rw [show j = i1 by omega]; exact hlet.2) hP hD hS (lv_sub hl [0, 3, 2, 1, 4, 5, 6] rfl)
                        · have hc48 : ¬ r95 < 48 := (hr101).resolve_left c103
                          have hlet : i1 < sz ∧ ¬ B 1 i1 = 32 := ⟨chin h96 (noM1 hc48), by rw [← ((h96).resolve_left (noM1 hc48)).2]; exact no32 hc48⟩
                          have loop_w : ∀ (n_w : Nat) (tt : Nat) (H : Heap) (locs : List Loc) (ls : Array Slot), tt ≤ sz → sz + 1 ≤ tt + n_w → (i1 + 1 ≤ tt) → (∀ j : Nat, i1 ≤ j → j < tt → ¬ B 1 j = 32) → va_P G.1 pCl (mW G h0 a (upd (upd (upd (upd F 4 (nI sz)) 9 (nI T)) 13 (nI us)) 14 (nI nm)) (updA (updA (updA (updA (updA (updA (updA B 2 g5) 3 g6) 4 g7) 5 g8) 6 g10) 7 g11) 8 g12)) H → va_D A (mW G h0 a (upd (upd (upd (upd F 4 (nI sz)) 9 (nI T)) 13 (nI us)) 14 (nI nm)) (updA (updA (updA (updA (updA (updA (updA B 2 g5) 3 g6) 4 g7) 5 g8) 6 g10) 7 g11) 8 g12)) → va_S A s.heap H locs → lv_has ls 9 [(3, .int (nI tt)), (4, .int 0), (5, .int 0), (1, .int (nI i1)), (2, .int 1), (0, .ref h0)] → W p l e (headSpec (Cond.code yX12_cut cX12_cut 9 none :: pw) ({ frames := 7, cells := 0, slots := 0, locals := 174 } : Room)).room s m ([.ref h0] : List Value).toArray below meth c H locs 0 0 (MQ below (pQ G A (fun (v : Option Value) (u : Nat × Nat × Nat × (Nat → Int32) × (Nat → Int32) × (Nat → Int32) × (Nat → Int32) × (Nat → Int32) × (Nat → Int32) × (Nat → Int32)) => v = none ∧ (u.1 ≤ sz) ∧ (u.2.2.2.2.2.2.1 u.1 = 0 ∨ u.2.2.2.2.2.2.1 u.1 = 3) ∧ (rNm u.2.1 u.2.2.1 u.2.2.2.1 u.2.2.2.2.1) ∧ (u.2.1 ≤ 9 + sz) ∧ (u.2.2.1 ≤ 40 + sz) ∧ (rTk u.1 u.2.1 u.2.2.2.2.2.2.1 u.2.2.2.2.2.2.2.2.2) ∧ (9 ≤ u.2.1)) (fun u => (mW G h0 a (upd (upd (upd (upd F 4 (nI sz)) 9 (nI u.1)) 13 (nI u.2.2.1)) 14 (nI u.2.1)) (updA (updA (updA (updA (updA (updA (updA B 2 u.2.2.2.2.2.2.1) 3 u.2.2.2.2.2.2.2.1) 4 u.2.2.2.2.2.2.2.2.1) 5 u.2.2.2.2.2.2.2.2.2) 6 u.2.2.2.1) 7 u.2.2.2.2.1) 8 u.2.2.2.2.2.1)))) ([.ref h0] : List Value).toArray s ({ frames := 7, cells := 0, slots := 0, locals := 174 } : Room).cells ({ frames := 7, cells := 0, slots := 0, locals := 174 } : Room).slots A) (F0 m 212 ls []) := by
                            intro n_w
                            induction n_w with
                            | zero => intro tt H locs ls hk_w hn_w; omega
                            | succ n_w ih_w =>
                              intro tt H locs ls hk_w hn_w ht1 htt hP hD hS hl
                              refine lv_aload_n hx hb dX12_cut_212 rfl (lv_at hl 5 rfl) ?_
                              refine lv_iload_n hx hb dX12_cut_213 rfl (lv_at hl 0 rfl) ?_
                              have hP : va_P G.1 pCl (mW G h0 a (upd (upd (upd (upd (upd F 4 (nI sz)) 9 (nI T)) 13 (nI us)) 14 (nI nm)) 4 (nI sz)) (updA (updA (updA (updA (updA (updA (updA B 2 g5) 3 g6) 4 g7) 5 g8) 6 g10) 7 g11) 8 g12)) H := hP
                              have hD : va_D A (mW G h0 a (upd (upd (upd (upd (upd F 4 (nI sz)) 9 (nI T)) 13 (nI us)) 14 (nI nm)) 4 (nI sz)) (updA (updA (updA (updA (updA (updA (updA B 2 g5) 3 g6) 4 g7) 5 g8) 6 g10) 7 g11) 8 g12)) := hD
                              refine pc_V0 (G := G) (As := [.int (nI tt)]) (rest := []) hx hb hml hown hq hE hX pX0_al hP hD hS hA hl.1 (R_ch l G h0 a (upd (upd (upd (upd F 4 (nI sz)) 9 (nI T)) 13 (nI us)) 14 (nI nm)) (updA (updA (updA (updA (updA (updA (updA B 2 g5) 3 g6) 4 g7) 5 g8) 6 g10) 7 g11) 8 g12) tt sz (by omega) (by omega)) (gV pw_1561 pw_1562 pw_1563 pw_1523 pw_1518) hV_X12_ch 0 9 rfl rfl rfl rfl (Nat.le_of_ble_eq_true rfl) dX12_cut_214 ⟨Nat.le_of_ble_eq_true rfl, Nat.le_of_ble_eq_true rfl⟩ ⟨Nat.le_of_ble_eq_true rfl, Nat.le_of_ble_eq_true rfl⟩ (fun v285 u283 H locs hw284 hP hD hS => ?_)
                              obtain ⟨r286, rfl⟩ : ∃ z, z = u283 := ⟨_, rfl⟩
                              obtain ⟨hw284, h287⟩ := hw284
                              have h287 : r286 = (-1) ∨ tt < sz ∧ r286 = (updA (updA (updA (updA (updA (updA (updA B 2 g5) 3 g6) 4 g7) 5 g8) 6 g10) 7 g11) 8 g12) 1 tt := h287
                              obtain rfl : v285 = some (.int r286) := hw284
                              have hP : va_P G.1 pCl (mW G h0 a (upd (upd (upd (upd F 4 (nI sz)) 9 (nI T)) 13 (nI us)) 14 (nI nm)) (updA (updA (updA (updA (updA (updA (updA B 2 g5) 3 g6) 4 g7) 5 g8) 6 g10) 7 g11) 8 g12)) H := hP
                              have hD : va_D A (mW G h0 a (upd (upd (upd (upd F 4 (nI sz)) 9 (nI T)) 13 (nI us)) 14 (nI nm)) (updA (updA (updA (updA (updA (updA (updA B 2 g5) 3 g6) 4 g7) 5 g8) 6 g10) 7 g11) 8 g12)) := hD
                              refine W.widen (k := 0) (n := 0) (Nat.le_of_ble_eq_true rfl) (Nat.le_of_ble_eq_true rfl) ?_
                              refine W.eq (g2 := F0 m 217 ls [.int r286]) rfl ?_
                              refine pc_SN (G := G) (As := [.int r286]) (rest := []) hx hb hml hown hq hE hX pX0_al hP hS hA hl.1 (s_isLetter l G r286) (gS pw_1575 pw_1576 pw_1523 pw_1520) hS_X12_isLetter rfl (Nat.le_of_ble_eq_true rfl) dX12_cut_217 ⟨Nat.le_of_ble_eq_true rfl, Nat.le_of_ble_eq_true rfl⟩ ⟨Nat.le_of_ble_eq_true rfl, Nat.le_of_ble_eq_true rfl⟩ (fun v290 u288 H locs hw289 hP hS => ?_)
                              obtain ⟨x291, rfl, hr292, hr293⟩ := hw289
                              refine W.widen (k := 0) (n := 0) (Nat.le_of_ble_eq_true rfl) (Nat.le_of_ble_eq_true rfl) ?_
                              refine W.eq (g2 := F0 m 220 ls [.int x291]) rfl ?_
                              refine lv_if_ne (tgt := 234) hx hb dX12_cut_220 (by decide) (fun c294 => ?_) (fun c294 => ?_)
                              · have hc48 : ¬ r286 < 48 := (hr292).resolve_left c294
                                have hlet2 : tt < sz ∧ ¬ B 1 tt = 32 := ⟨chin h287 (noM1 hc48), by rw [← ((h287).resolve_left (noM1 hc48)).2]; exact no32 hc48⟩
                                refine lv_iinc (v := (nI (tt + 1))) (lv' := [(3, .int (nI (tt + 1))), (4, .int 0), (5, .int 0), (1, .int (nI i1)), (2, .int 1), (0, .ref h0)]) hx hb dX12_cut_234 hl (k := 0) rfl (nI_1 tt) (by decide) rfl (fun ls hl => ?_)
                                refine lv_goto (tgt := 212) hx hb dX12_cut_237 (by decide) ?_
                                have hP : va_P G.1 pCl (mW G h0 a (upd (upd (upd (upd F 4 (nI sz)) 9 (nI T)) 13 (nI us)) 14 (nI nm)) (updA (updA (updA (updA (updA (updA (updA B 2 g5) 3 g6) 4 g7) 5 g8) 6 g10) 7 g11) 8 g12)) H := hP
                                have hD : va_D A (mW G h0 a (upd (upd (upd (upd F 4 (nI sz)) 9 (nI T)) 13 (nI us)) 14 (nI nm)) (updA (updA (updA (updA (updA (updA (updA B 2 g5) 3 g6) 4 g7) 5 g8) 6 g10) 7 g11) 8 g12)) := hD
                                exact ih_w (tt + 1) _ _ _ (by have := hlet2.1; omega) (by omega) (by omega) (fun j h8 h9 => by by_cases e9 : j = tt; · rw [e9]; exact hlet2.2; · exact htt j h8 (by omega)) hP hD hS (lv_sub hl [0, 1, 2, 3, 4, 5] rfl)
                              · refine lv_aload_n hx hb dX12_cut_223 rfl (lv_at hl 5 rfl) ?_
                                refine lv_iload_n hx hb dX12_cut_224 rfl (lv_at hl 0 rfl) ?_
                                have hP : va_P G.1 pCl (mW G h0 a (upd (upd (upd (upd (upd F 4 (nI sz)) 9 (nI T)) 13 (nI us)) 14 (nI nm)) 4 (nI sz)) (updA (updA (updA (updA (updA (updA (updA B 2 g5) 3 g6) 4 g7) 5 g8) 6 g10) 7 g11) 8 g12)) H := hP
                                have hD : va_D A (mW G h0 a (upd (upd (upd (upd (upd F 4 (nI sz)) 9 (nI T)) 13 (nI us)) 14 (nI nm)) 4 (nI sz)) (updA (updA (updA (updA (updA (updA (updA B 2 g5) 3 g6) 4 g7) 5 g8) 6 g10) 7 g11) 8 g12)) := hD
                                refine pc_V0 (G := G) (As := [.int (nI tt)]) (rest := []) hx hb hml hown hq hE hX pX0_al hP hD hS hA hl.1 (R_ch l G h0 a (upd (upd (upd (upd F 4 (nI sz)) 9 (nI T)) 13 (nI us)) 14 (nI nm)) (updA (updA (updA (updA (updA (updA (updA B 2 g5) 3 g6) 4 g7) 5 g8) 6 g10) 7 g11) 8 g12) tt sz (by omega) (by omega)) (gV pw_1561 pw_1562 pw_1563 pw_1523 pw_1518) hV_X12_ch 0 9 rfl rfl rfl rfl (Nat.le_of_ble_eq_true rfl) dX12_cut_225 ⟨Nat.le_of_ble_eq_true rfl, Nat.le_of_ble_eq_true rfl⟩ ⟨Nat.le_of_ble_eq_true rfl, Nat.le_of_ble_eq_true rfl⟩ (fun v297 u295 H locs hw296 hP hD hS => ?_)
                                obtain ⟨r298, rfl⟩ : ∃ z, z = u295 := ⟨_, rfl⟩
                                obtain ⟨hw296, h299⟩ := hw296
                                have h299 : r298 = (-1) ∨ tt < sz ∧ r298 = (updA (updA (updA (updA (updA (updA (updA B 2 g5) 3 g6) 4 g7) 5 g8) 6 g10) 7 g11) 8 g12) 1 tt := h299
                                obtain rfl : v297 = some (.int r298) := hw296
                                have hP : va_P G.1 pCl (mW G h0 a (upd (upd (upd (upd F 4 (nI sz)) 9 (nI T)) 13 (nI us)) 14 (nI nm)) (updA (updA (updA (updA (updA (updA (updA B 2 g5) 3 g6) 4 g7) 5 g8) 6 g10) 7 g11) 8 g12)) H := hP
                                have hD : va_D A (mW G h0 a (upd (upd (upd (upd F 4 (nI sz)) 9 (nI T)) 13 (nI us)) 14 (nI nm)) (updA (updA (updA (updA (updA (updA (updA B 2 g5) 3 g6) 4 g7) 5 g8) 6 g10) 7 g11) 8 g12)) := hD
                                refine W.widen (k := 0) (n := 0) (Nat.le_of_ble_eq_true rfl) (Nat.le_of_ble_eq_true rfl) ?_
                                refine W.eq (g2 := F0 m 228 ls [.int r298]) rfl ?_
                                refine pc_SN (G := G) (As := [.int r298]) (rest := []) hx hb hml hown hq hE hX pX0_al hP hS hA hl.1 (s_isDigit l G r298) (gS pw_1577 pw_1578 pw_1523 pw_1524) hS_X12_isDigit rfl (Nat.le_of_ble_eq_true rfl) dX12_cut_228 ⟨Nat.le_of_ble_eq_true rfl, Nat.le_of_ble_eq_true rfl⟩ ⟨Nat.le_of_ble_eq_true rfl, Nat.le_of_ble_eq_true rfl⟩ (fun v302 u300 H locs hw301 hP hS => ?_)
                                obtain ⟨x303, rfl, hr304, hr305⟩ := hw301
                                refine W.widen (k := 0) (n := 0) (Nat.le_of_ble_eq_true rfl) (Nat.le_of_ble_eq_true rfl) ?_
                                refine W.eq (g2 := F0 m 231 ls [.int x303]) rfl ?_
                                refine lv_if_eq (tgt := 240) hx hb dX12_cut_231 (by decide) (fun c306 => ?_) (fun c306 => ?_)
                                · refine lv_aload_n hx hb dX12_cut_240 rfl (lv_at hl 5 rfl) ?_
                                  refine lv_iload_n hx hb dX12_cut_241 rfl (lv_at hl 3 rfl) ?_
                                  refine lv_iload_n hx hb dX12_cut_242 rfl (lv_at hl 0 rfl) ?_
                                  have hP : va_P G.1 pCl (mW G h0 a (upd (upd (upd (upd F 4 (nI sz)) 9 (nI T)) 13 (nI us)) 14 (nI nm)) (updA (updA (updA (updA (updA (updA (updA B 2 g5) 3 g6) 4 g7) 5 g8) 6 g10) 7 g11) 8 g12)) H := hP
                                  have hD : va_D A (mW G h0 a (upd (upd (upd (upd F 4 (nI sz)) 9 (nI T)) 13 (nI us)) 14 (nI nm)) (updA (updA (updA (updA (updA (updA (updA B 2 g5) 3 g6) 4 g7) 5 g8) 6 g10) 7 g11) 8 g12)) := hD
                                  refine pc_V0 (G := G) (As := [.int (nI i1), .int (nI tt)]) (rest := []) hx hb hml hown hq hE hX pX0_al hP hD hS hA hl.1 (R_wordOf l G h0 a (upd (upd (upd (upd F 4 (nI sz)) 9 (nI T)) 13 (nI us)) 14 (nI nm)) (updA (updA (updA (updA (updA (updA (updA B 2 g5) 3 g6) 4 g7) 5 g8) 6 g10) 7 g11) 8 g12) i1 tt (by omega) (by omega) htt) (gV pw_1579 pw_1580 pw_1581 pw_1523 pw_1527) hV_X12_wordOf 0 9 rfl rfl rfl rfl (Nat.le_of_ble_eq_true rfl) dX12_cut_243 ⟨Nat.le_of_ble_eq_true rfl, Nat.le_of_ble_eq_true rfl⟩ ⟨Nat.le_of_ble_eq_true rfl, Nat.le_of_ble_eq_true rfl⟩ (fun v309 u307 H locs hw308 hP hD hS => ?_)
                                  obtain ⟨r310, rfl⟩ : ∃ z, z = u307 := ⟨_, rfl⟩
                                  obtain rfl : v309 = some (.int r310) := hw308
                                  have hP : va_P G.1 pCl (mW G h0 a (upd (upd (upd (upd F 4 (nI sz)) 9 (nI T)) 13 (nI us)) 14 (nI nm)) (updA (updA (updA (updA (updA (updA (updA B 2 g5) 3 g6) 4 g7) 5 g8) 6 g10) 7 g11) 8 g12)) H := hP
                                  have hD : va_D A (mW G h0 a (upd (upd (upd (upd F 4 (nI sz)) 9 (nI T)) 13 (nI us)) 14 (nI nm)) (updA (updA (updA (updA (updA (updA (updA B 2 g5) 3 g6) 4 g7) 5 g8) 6 g10) 7 g11) 8 g12)) := hD
                                  refine W.widen (k := 0) (n := 0) (Nat.le_of_ble_eq_true rfl) (Nat.le_of_ble_eq_true rfl) ?_
                                  refine W.eq (g2 := F0 m 246 ls [.int r310]) rfl ?_
                                  refine lv_istore (lv' := [(4, .int r310), (3, .int (nI tt)), (5, .int 0), (1, .int (nI i1)), (2, .int 1), (0, .ref h0)]) hx hb dX12_cut_246 hl (by decide) rfl (fun ls hl => ?_)
                                  refine lv_iload hx hb dX12_cut_248 (lv_at hl 0 rfl) ?_
                                  refine lv_iconst (v := 1) hx hb dX12_cut_250 (by decide) ?_
                                  refine lv_icmp_ne (tgt := 268) hx hb dX12_cut_251 (by decide) (fun c311 => ?_) (fun c311 => ?_)
                                  · refine lv_iload hx hb dX12_cut_268 (lv_at hl 0 rfl) ?_
                                    refine lv_iconst (v := 1) hx hb dX12_cut_270 (by decide) ?_
                                    refine lv_icmp_ne (tgt := 472) hx hb dX12_cut_271 (by decide) (fun c312 => ?_) (fun c312 => ?_)
                                    · have hP : va_P G.1 pCl (mW G h0 a (upd (upd (upd (upd F 4 (nI sz)) 9 (nI T)) 13 (nI us)) 14 (nI nm)) (updA (updA (updA (updA (updA (updA (updA B 2 g5) 3 g6) 4 g7) 5 g8) 6 g10) 7 g11) 8 g12)) H := hP
                                      have hD : va_D A (mW G h0 a (upd (upd (upd (upd F 4 (nI sz)) 9 (nI T)) 13 (nI us)) 14 (nI nm)) (updA (updA (updA (updA (updA (updA (updA B 2 g5) 3 g6) 4 g7) 5 g8) 6 g10) 7 g11) 8 g12)) := hD
                                      exact cut_j r310 0 tt nm us g10 g11 g12 _ _ _ (by omega) (by omega) (Or.inr (by omega)) (by omega) (by omega) (by omega) hR (fun e9 => absurd e9 c312) hP hD hS (lv_sub hl [3, 4, 1, 0, 2, 5] rfl)
                                    · refine lv_aload_n hx hb dX12_cut_274 rfl (lv_at hl 5 rfl) ?_
                                      refine lv_iload_n hx hb dX12_cut_275 rfl (lv_at hl 3 rfl) ?_
                                      refine lv_iload_n hx hb dX12_cut_276 rfl (lv_at hl 1 rfl) ?_
                                      have hP : va_P G.1 pCl (mW G h0 a (upd (upd (upd (upd (upd (upd F 4 (nI sz)) 9 (nI T)) 13 (nI us)) 14 (nI nm)) 13 (nI us)) 14 (nI nm)) (updA (updA (updA (updA (updA (updA (updA (updA (updA (updA B 2 g5) 3 g6) 4 g7) 5 g8) 6 g10) 7 g11) 8 g12) 6 g10) 7 g11) 8 g12)) H := hP
                                      have hD : va_D A (mW G h0 a (upd (upd (upd (upd (upd (upd F 4 (nI sz)) 9 (nI T)) 13 (nI us)) 14 (nI nm)) 13 (nI us)) 14 (nI nm)) (updA (updA (updA (updA (updA (updA (updA (updA (updA (updA B 2 g5) 3 g6) 4 g7) 5 g8) 6 g10) 7 g11) 8 g12) 6 g10) 7 g11) 8 g12)) := hD
                                      refine pc_V0 (G := G) (As := [.int (nI i1), .int (nI tt)]) (rest := []) hx hb hml hown hq hE hX pX0_al hP hD hS hA hl.1 (R_intern l G h0 a (upd (upd (upd (upd F 4 (nI sz)) 9 (nI T)) 13 (nI us)) 14 (nI nm)) (updA (updA (updA (updA (updA (updA (updA B 2 g5) 3 g6) 4 g7) 5 g8) 6 g10) 7 g11) 8 g12) i1 tt nm us g10 g11 g12 (by omega) (by omega) (by omega) (by omega) hR) (gV pw_1582 pw_1583 pw_1584 pw_1523 pw_1528) hV_X12_intern 0 9 rfl rfl rfl rfl (Nat.le_of_ble_eq_true rfl) dX12_cut_277 ⟨Nat.le_of_ble_eq_true rfl, Nat.le_of_ble_eq_true rfl⟩ ⟨Nat.le_of_ble_eq_true rfl, Nat.le_of_ble_eq_true rfl⟩ (fun v315 u313 H locs hw314 hP hD hS => ?_)
                                      obtain ⟨nm316, us317, g318, g319, g320, r321⟩ := u313
                                      obtain ⟨hw314, h322, h323, h324, h325, h326⟩ := hw314
                                      have h322 : nm316 ≤ nm + 1 := h322
                                      have h323 : us317 ≤ us + (tt - i1) := h323
                                      have h324 : rNm nm316 us317 g318 g319 := h324
                                      have h325 : ∃ k : Nat, k < nm316 ∧ r321 = nI k := h325
                                      have h326 : nm ≤ nm316 := h326
                                      obtain rfl : v315 = some (.int r321) := hw314
                                      have hP : va_P G.1 pCl (mW G h0 a (upd (upd (upd (upd F 4 (nI sz)) 9 (nI T)) 13 (nI us317)) 14 (nI nm316)) (updA (updA (updA (updA (updA (updA (updA B 2 g5) 3 g6) 4 g7) 5 g8) 6 g318) 7 g319) 8 g320)) H := hP
                                      have hD : va_D A (mW G h0 a (upd (upd (upd (upd F 4 (nI sz)) 9 (nI T)) 13 (nI us317)) 14 (nI nm316)) (updA (updA (updA (updA (updA (updA (updA B 2 g5) 3 g6) 4 g7) 5 g8) 6 g318) 7 g319) 8 g320)) := hD
                                      refine W.widen (k := 0) (n := 0) (Nat.le_of_ble_eq_true rfl) (Nat.le_of_ble_eq_true rfl) ?_
                                      refine W.eq (g2 := F0 m 280 ls [.int r321]) rfl ?_
                                      refine lv_istore (lv' := [(5, .int r321), (4, .int r310), (3, .int (nI tt)), (1, .int (nI i1)), (2, .int 1), (0, .ref h0)]) hx hb dX12_cut_280 hl (by decide) rfl (fun ls hl => ?_)
                                      refine lv_goto (tgt := 472) hx hb dX12_cut_282 (by decide) ?_
                                      have hP : va_P G.1 pCl (mW G h0 a (upd (upd (upd (upd F 4 (nI sz)) 9 (nI T)) 13 (nI us317)) 14 (nI nm316)) (updA (updA (updA (updA (updA (updA (updA B 2 g5) 3 g6) 4 g7) 5 g8) 6 g318) 7 g319) 8 g320)) H := hP
                                      have hD : va_D A (mW G h0 a (upd (upd (upd (upd F 4 (nI sz)) 9 (nI T)) 13 (nI us317)) 14 (nI nm316)) (updA (updA (updA (updA (updA (updA (updA B 2 g5) 3 g6) 4 g7) 5 g8) 6 g318) 7 g319) 8 g320)) := hD
                                      exact cut_j r310 r321 tt nm316 us317 g318 g319 g320 _ _ _ (by omega) (by omega) (Or.inr (by omega)) (by omega) (by omega) (by omega) h324 (fun _ => h325) hP hD hS (lv_sub hl [3, 4, 2, 1, 0, 5] rfl)
                                  · refine lv_iload_n hx hb dX12_cut_254 rfl (lv_at hl 1 rfl) ?_
                                    refine lv_iload_n hx hb dX12_cut_255 rfl (lv_at hl 3 rfl) ?_
                                    refine lv_isub hx hb dX12_cut_256 ?_
                                    refine lv_topi (fun x327 e328 => ?_)
                                    obtain rfl : x327 = nI (tt - i1) := e328.trans (nI_subN (a := i1) (b := tt) (by omega))
                                    refine lv_bipush (v := 16) hx hb dX12_cut_257 (by decide) ?_
                                    refine lv_icmp_le (tgt := 268) hx hb dX12_cut_259 (by decide) (fun c329 => ?_) (fun c329 => ?_)
                                    · have n330 : (tt - i1) ≤ 16 := (nI_leI (a := (tt - i1)) (b := 16) (by omega) (by omega)).mp c329
                                      refine lv_iload hx hb dX12_cut_268 (lv_at hl 0 rfl) ?_
                                      refine lv_iconst (v := 1) hx hb dX12_cut_270 (by decide) ?_
                                      refine lv_icmp_ne (tgt := 472) hx hb dX12_cut_271 (by decide) (fun c331 => ?_) (fun c331 => ?_)
                                      · have hP : va_P G.1 pCl (mW G h0 a (upd (upd (upd (upd F 4 (nI sz)) 9 (nI T)) 13 (nI us)) 14 (nI nm)) (updA (updA (updA (updA (updA (updA (updA B 2 g5) 3 g6) 4 g7) 5 g8) 6 g10) 7 g11) 8 g12)) H := hP
                                        have hD : va_D A (mW G h0 a (upd (upd (upd (upd F 4 (nI sz)) 9 (nI T)) 13 (nI us)) 14 (nI nm)) (updA (updA (updA (updA (updA (updA (updA B 2 g5) 3 g6) 4 g7) 5 g8) 6 g10) 7 g11) 8 g12)) := hD
                                        exact cut_j r310 0 tt nm us g10 g11 g12 _ _ _ (by omega) (by omega) (Or.inr (by omega)) (by omega) (by omega) (by omega) hR (fun e9 => absurd e9 c331) hP hD hS (lv_sub hl [3, 4, 1, 0, 2, 5] rfl)
                                      · refine lv_aload_n hx hb dX12_cut_274 rfl (lv_at hl 5 rfl) ?_
                                        refine lv_iload_n hx hb dX12_cut_275 rfl (lv_at hl 3 rfl) ?_
                                        refine lv_iload_n hx hb dX12_cut_276 rfl (lv_at hl 1 rfl) ?_
                                        have hP : va_P G.1 pCl (mW G h0 a (upd (upd (upd (upd (upd (upd F 4 (nI sz)) 9 (nI T)) 13 (nI us)) 14 (nI nm)) 13 (nI us)) 14 (nI nm)) (updA (updA (updA (updA (updA (updA (updA (updA (updA (updA B 2 g5) 3 g6) 4 g7) 5 g8) 6 g10) 7 g11) 8 g12) 6 g10) 7 g11) 8 g12)) H := hP
                                        have hD : va_D A (mW G h0 a (upd (upd (upd (upd (upd (upd F 4 (nI sz)) 9 (nI T)) 13 (nI us)) 14 (nI nm)) 13 (nI us)) 14 (nI nm)) (updA (updA (updA (updA (updA (updA (updA (updA (updA (updA B 2 g5) 3 g6) 4 g7) 5 g8) 6 g10) 7 g11) 8 g12) 6 g10) 7 g11) 8 g12)) := hD
                                        refine pc_V0 (G := G) (As := [.int (nI i1), .int (nI tt)]) (rest := []) hx hb hml hown hq hE hX pX0_al hP hD hS hA hl.1 (R_intern l G h0 a (upd (upd (upd (upd F 4 (nI sz)) 9 (nI T)) 13 (nI us)) 14 (nI nm)) (updA (updA (updA (updA (updA (updA (updA B 2 g5) 3 g6) 4 g7) 5 g8) 6 g10) 7 g11) 8 g12) i1 tt nm us g10 g11 g12 (by omega) (by omega) (by omega) (by omega) hR) (gV pw_1582 pw_1583 pw_1584 pw_1523 pw_1528) hV_X12_intern 0 9 rfl rfl rfl rfl (Nat.le_of_ble_eq_true rfl) dX12_cut_277 ⟨Nat.le_of_ble_eq_true rfl, Nat.le_of_ble_eq_true rfl⟩ ⟨Nat.le_of_ble_eq_true rfl, Nat.le_of_ble_eq_true rfl⟩ (fun v334 u332 H locs hw333 hP hD hS => ?_)
                                        obtain ⟨nm335, us336, g337, g338, g339, r340⟩ := u332
                                        obtain ⟨hw333, h341, h342, h343, h344, h345⟩ := hw333
                                        have h341 : nm335 ≤ nm + 1 := h341
                                        have h342 : us336 ≤ us + (tt - i1) := h342
                                        have h343 : rNm nm335 us336 g337 g338 := h343
                                        have h344 : ∃ k : Nat, k < nm335 ∧ r340 = nI k := h344
                                        have h345 : nm ≤ nm335 := h345
                                        obtain rfl : v334 = some (.int r340) := hw333
                                        have hP : va_P G.1 pCl (mW G h0 a (upd (upd (upd (upd F 4 (nI sz)) 9 (nI T)) 13 (nI us336)) 14 (nI nm335)) (updA (updA (updA (updA (updA (updA (updA B 2 g5) 3 g6) 4 g7) 5 g8) 6 g337) 7 g338) 8 g339)) H := hP
                                        have hD : va_D A (mW G h0 a (upd (upd (upd (upd F 4 (nI sz)) 9 (nI T)) 13 (nI us336)) 14 (nI nm335)) (updA (updA (updA (updA (updA (updA (updA B 2 g5) 3 g6) 4 g7) 5 g8) 6 g337) 7 g338) 8 g339)) := hD
                                        refine W.widen (k := 0) (n := 0) (Nat.le_of_ble_eq_true rfl) (Nat.le_of_ble_eq_true rfl) ?_
                                        refine W.eq (g2 := F0 m 280 ls [.int r340]) rfl ?_
                                        refine lv_istore (lv' := [(5, .int r340), (4, .int r310), (3, .int (nI tt)), (1, .int (nI i1)), (2, .int 1), (0, .ref h0)]) hx hb dX12_cut_280 hl (by decide) rfl (fun ls hl => ?_)
                                        refine lv_goto (tgt := 472) hx hb dX12_cut_282 (by decide) ?_
                                        have hP : va_P G.1 pCl (mW G h0 a (upd (upd (upd (upd F 4 (nI sz)) 9 (nI T)) 13 (nI us336)) 14 (nI nm335)) (updA (updA (updA (updA (updA (updA (updA B 2 g5) 3 g6) 4 g7) 5 g8) 6 g337) 7 g338) 8 g339)) H := hP
                                        have hD : va_D A (mW G h0 a (upd (upd (upd (upd F 4 (nI sz)) 9 (nI T)) 13 (nI us336)) 14 (nI nm335)) (updA (updA (updA (updA (updA (updA (updA B 2 g5) 3 g6) 4 g7) 5 g8) 6 g337) 7 g338) 8 g339)) := hD
                                        exact cut_j r310 r340 tt nm335 us336 g337 g338 g339 _ _ _ (by omega) (by omega) (Or.inr (by omega)) (by omega) (by omega) (by omega) h343 (fun _ => h344) hP hD hS (lv_sub hl [3, 4, 2, 1, 0, 5] rfl)
                                    · have n346 : ¬ ((tt - i1) ≤ 16) := fun h9 => c329 ((nI_leI (a := (tt - i1)) (b := 16) (by omega) (by omega)).mpr h9)
                                      refine lv_iconst (v := 3) hx hb dX12_cut_262 (by decide) ?_
                                      refine lv_istore (lv' := [(4, .int 3), (3, .int (nI tt)), (5, .int 0), (1, .int (nI i1)), (2, .int 1), (0, .ref h0)]) hx hb dX12_cut_263 hl (by decide) rfl (fun ls hl => ?_)
                                      refine lv_goto (tgt := 472) hx hb dX12_cut_265 (by decide) ?_
                                      have hP : va_P G.1 pCl (mW G h0 a (upd (upd (upd (upd F 4 (nI sz)) 9 (nI T)) 13 (nI us)) 14 (nI nm)) (updA (updA (updA (updA (updA (updA (updA B 2 g5) 3 g6) 4 g7) 5 g8) 6 g10) 7 g11) 8 g12)) H := hP
                                      have hD : va_D A (mW G h0 a (upd (upd (upd (upd F 4 (nI sz)) 9 (nI T)) 13 (nI us)) 14 (nI nm)) (updA (updA (updA (updA (updA (updA (updA B 2 g5) 3 g6) 4 g7) 5 g8) 6 g10) 7 g11) 8 g12)) := hD
                                      exact cut_j 3 0 tt nm us g10 g11 g12 _ _ _ (by omega) (by omega) (Or.inr (by omega)) (by omega) (by omega) (by omega) hR (fun e9 => absurd e9 (by decide)) hP hD hS (lv_sub hl [3, 4, 1, 0, 2, 5] rfl)
                                · have hc48 : ¬ r298 < 48 := (hr304).resolve_left c306
                                  have hlet2 : tt < sz ∧ ¬ B 1 tt = 32 := ⟨chin h299 (noM1 hc48), by rw [← ((h299).resolve_left (noM1 hc48)).2]; exact no32 hc48⟩
                                  refine lv_iinc (v := (nI (tt + 1))) (lv' := [(3, .int (nI (tt + 1))), (4, .int 0), (5, .int 0), (1, .int (nI i1)), (2, .int 1), (0, .ref h0)]) hx hb dX12_cut_234 hl (k := 0) rfl (nI_1 tt) (by decide) rfl (fun ls hl => ?_)
                                  refine lv_goto (tgt := 212) hx hb dX12_cut_237 (by decide) ?_
                                  have hP : va_P G.1 pCl (mW G h0 a (upd (upd (upd (upd F 4 (nI sz)) 9 (nI T)) 13 (nI us)) 14 (nI nm)) (updA (updA (updA (updA (updA (updA (updA B 2 g5) 3 g6) 4 g7) 5 g8) 6 g10) 7 g11) 8 g12)) H := hP
                                  have hD : va_D A (mW G h0 a (upd (upd (upd (upd F 4 (nI sz)) 9 (nI T)) 13 (nI us)) 14 (nI nm)) (updA (updA (updA (updA (updA (updA (updA B 2 g5) 3 g6) 4 g7) 5 g8) 6 g10) 7 g11) 8 g12)) := hD
                                  exact ih_w (tt + 1) _ _ _ (by have := hlet2.1; omega) (by omega) (by omega) (fun j h8 h9 => by by_cases e9 : j = tt; · rw [e9]; exact hlet2.2; · exact htt j h8 (by omega)) hP hD hS (lv_sub hl [0, 1, 2, 3, 4, 5] rfl)
                          have hP : va_P G.1 pCl (mW G h0 a (upd (upd (upd (upd F 4 (nI sz)) 9 (nI T)) 13 (nI us)) 14 (nI nm)) (updA (updA (updA (updA (updA (updA (updA B 2 g5) 3 g6) 4 g7) 5 g8) 6 g10) 7 g11) 8 g12)) H := hP
                          have hD : va_D A (mW G h0 a (upd (upd (upd (upd F 4 (nI sz)) 9 (nI T)) 13 (nI us)) 14 (nI nm)) (updA (updA (updA (updA (updA (updA (updA B 2 g5) 3 g6) 4 g7) 5 g8) 6 g10) 7 g11) 8 g12)) := hD
                          exact loop_w (sz + 1) (i1 + 1) _ _ _ (by omega) (by omega) (by omega) (fun j h8 h9 => by rw [show j = i1 by omega]; exact hlet.2) hP hD hS (lv_sub hl [2, 1, 0, 3, 4, 5] rfl)
                      · have n347 : ¬ (i1 < sz) := fun h9 => c90 ((nI_ltI (a := i1) (b := sz) (by omega) (by omega)).mpr h9)
                        refine lv_iload_n hx hb dX12_cut_196 rfl (lv_at hl 3 rfl) ?_
                        refine lv_istore_n (lv' := [(3, .int (nI i1)), (5, .int 0), (4, .int 0), (1, .int (nI i1)), (2, .int 1), (0, .ref h0)]) hx hb dX12_cut_197 rfl hl (by decide) rfl (fun ls hl => ?_)
                        refine lv_goto (tgt := 472) hx hb dX12_cut_198 (by decide) ?_
                        have hP : va_P G.1 pCl (mW G h0 a (upd (upd (upd (upd F 4 (nI sz)) 9 (nI T)) 13 (nI us)) 14 (nI nm)) (updA (updA (updA (updA (updA (updA (updA B 2 g5) 3 g6) 4 g7) 5 g8) 6 g10) 7 g11) 8 g12)) H := hP
                        have hD : va_D A (mW G h0 a (upd (upd (upd (upd F 4 (nI sz)) 9 (nI T)) 13 (nI us)) 14 (nI nm)) (updA (updA (updA (updA (updA (updA (updA B 2 g5) 3 g6) 4 g7) 5 g8) 6 g10) 7 g11) 8 g12)) := hD
                        exact cut_j 0 0 i1 nm us g10 g11 g12 _ _ _ (by omega) (by omega) (Or.inl rfl) (by omega) (by omega) (by omega) hR (fun e9 => absurd e9 (by decide)) hP hD hS (lv_sub hl [3, 4, 0, 2, 1, 5] rfl)
                    · have h47 : i1 < sz ∧ B 1 i1 = 47 := ⟨chin h75 (by rw [c76]; decide), by rw [← ((h75).resolve_left (by rw [c76]; decide)).2]; exact c76⟩
                      refine lv_aload_n hx hb dX12_cut_142 rfl (lv_at hl 2 rfl) ?_
                      refine lv_iload_n hx hb dX12_cut_143 rfl (lv_at hl 0 rfl) ?_
                      refine lv_iconst (v := 1) hx hb dX12_cut_144 (by decide) ?_
                      refine lv_iadd hx hb dX12_cut_145 ?_
                      refine lv_topi (fun x348 e349 => ?_)
                      obtain rfl : x348 = nI (i1 + 1) := e349.trans (nI_add (i1) (1))
                      have hP : va_P G.1 pCl (mW G h0 a (upd (upd (upd (upd (upd F 4 (nI sz)) 9 (nI T)) 13 (nI us)) 14 (nI nm)) 4 (nI sz)) (updA (updA (updA (updA (updA (updA (updA B 2 g5) 3 g6) 4 g7) 5 g8) 6 g10) 7 g11) 8 g12)) H := hP
                      have hD : va_D A (mW G h0 a (upd (upd (upd (upd (upd F 4 (nI sz)) 9 (nI T)) 13 (nI us)) 14 (nI nm)) 4 (nI sz)) (updA (updA (updA (updA (updA (updA (updA B 2 g5) 3 g6) 4 g7) 5 g8) 6 g10) 7 g11) 8 g12)) := hD
                      refine pc_V0 (G := G) (As := [.int (nI (i1 + 1))]) (rest := []) hx hb hml hown hq hE hX pX0_al hP hD hS hA hl.1 (R_ch l G h0 a (upd (upd (upd (upd F 4 (nI sz)) 9 (nI T)) 13 (nI us)) 14 (nI nm)) (updA (updA (updA (updA (updA (updA (updA B 2 g5) 3 g6) 4 g7) 5 g8) 6 g10) 7 g11) 8 g12) (i1 + 1) sz (by omega) (by omega)) (gV pw_1561 pw_1562 pw_1563 pw_1523 pw_1518) hV_X12_ch 0 9 rfl rfl rfl rfl (Nat.le_of_ble_eq_true rfl) dX12_cut_146 ⟨Nat.le_of_ble_eq_true rfl, Nat.le_of_ble_eq_true rfl⟩ ⟨Nat.le_of_ble_eq_true rfl, Nat.le_of_ble_eq_true rfl⟩ (fun v352 u350 H locs hw351 hP hD hS => ?_)
                      obtain ⟨r353, rfl⟩ : ∃ z, z = u350 := ⟨_, rfl⟩
                      obtain ⟨hw351, h354⟩ := hw351
                      have h354 : r353 = (-1) ∨ (i1 + 1) < sz ∧ r353 = (updA (updA (updA (updA (updA (updA (updA B 2 g5) 3 g6) 4 g7) 5 g8) 6 g10) 7 g11) 8 g12) 1 (i1 + 1) := h354
                      obtain rfl : v352 = some (.int r353) := hw351
                      have hP : va_P G.1 pCl (mW G h0 a (upd (upd (upd (upd F 4 (nI sz)) 9 (nI T)) 13 (nI us)) 14 (nI nm)) (updA (updA (updA (updA (updA (updA (updA B 2 g5) 3 g6) 4 g7) 5 g8) 6 g10) 7 g11) 8 g12)) H := hP
                      have hD : va_D A (mW G h0 a (upd (upd (upd (upd F 4 (nI sz)) 9 (nI T)) 13 (nI us)) 14 (nI nm)) (updA (updA (updA (updA (updA (updA (updA B 2 g5) 3 g6) 4 g7) 5 g8) 6 g10) 7 g11) 8 g12)) := hD
                      refine W.widen (k := 0) (n := 0) (Nat.le_of_ble_eq_true rfl) (Nat.le_of_ble_eq_true rfl) ?_
                      refine W.eq (g2 := F0 m 149 ls [.int r353]) rfl ?_
                      refine lv_bipush (v := 47) hx hb dX12_cut_149 (by decide) ?_
                      refine lv_icmp_ne (tgt := 178) hx hb dX12_cut_151 (by decide) (fun c355 => ?_) (fun c355 => ?_)
                      · have cut_j : ∀ (kd : Int32) (vl : Int32) (t2 : Nat) (nm2 : Nat) (us2 : Nat) (h10 : Nat → Int32) (h11 : Nat → Int32) (h12 : Nat → Int32) (H : Heap) (locs : List Loc) (ls : Array Slot), (i1 ≤ t2) → (t2 ≤ sz) → (kd = 0 ∨ i1 < t2) → (nm ≤ nm2) → (nm2 ≤ 9 + t2) → (us2 ≤ 40 + t2) → (rNm nm2 us2 h10 h11) → (kd = 1 → ∃ k : Nat, k < nm2 ∧ vl = nI k) → va_P G.1 pCl (mW G h0 a (upd (upd (upd (upd F 4 (nI sz)) 9 (nI T)) 13 (nI us2)) 14 (nI nm2)) (updA (updA (updA (updA (updA (updA (updA B 2 g5) 3 g6) 4 g7) 5 g8) 6 h10) 7 h11) 8 h12)) H → va_D A (mW G h0 a (upd (upd (upd (upd F 4 (nI sz)) 9 (nI T)) 13 (nI us2)) 14 (nI nm2)) (updA (updA (updA (updA (updA (updA (updA B 2 g5) 3 g6) 4 g7) 5 g8) 6 h10) 7 h11) 8 h12)) → va_S A s.heap H locs → lv_has ls 9 [(1, .int (nI i1)), (2, .int 1), (3, .int (nI t2)), (4, .int kd), (5, .int vl), (0, .ref h0)] → W p l e (headSpec (Cond.code yX12_cut cX12_cut 9 none :: pw) ({ frames := 7, cells := 0, slots := 0, locals := 174 } : Room)).room s m ([.ref h0] : List Value).toArray below meth c H locs 0 0 (MQ below (pQ G A (fun (v : Option Value) (u : Nat × Nat × Nat × (Nat → Int32) × (Nat → Int32) × (Nat → Int32) × (Nat → Int32) × (Nat → Int32) × (Nat → Int32) × (Nat → Int32)) => v = none ∧ (u.1 ≤ sz) ∧ (u.2.2.2.2.2.2.1 u.1 = 0 ∨ u.2.2.2.2.2.2.1 u.1 = 3) ∧ (rNm u.2.1 u.2.2.1 u.2.2.2.1 u.2.2.2.2.1) ∧ (u.2.1 ≤ 9 + sz) ∧ (u.2.2.1 ≤ 40 + sz) ∧ (rTk u.1 u.2.1 u.2.2.2.2.2.2.1 u.2.2.2.2.2.2.2.2.2) ∧ (9 ≤ u.2.1)) (fun u => (mW G h0 a (upd (upd (upd (upd F 4 (nI sz)) 9 (nI u.1)) 13 (nI u.2.2.1)) 14 (nI u.2.1)) (updA (updA (updA (updA (updA (updA (updA B 2 u.2.2.2.2.2.2.1) 3 u.2.2.2.2.2.2.2.1) 4 u.2.2.2.2.2.2.2.2.1) 5 u.2.2.2.2.2.2.2.2.2) 6 u.2.2.2.1) 7 u.2.2.2.2.1) 8 u.2.2.2.2.2.1)))) ([.ref h0] : List Value).toArray s ({ frames := 7, cells := 0, slots := 0, locals := 174 } : Room).cells ({ frames := 7, cells := 0, slots := 0, locals := 174 } : Room).slots A) (F0 m 472 ls []) := by
                          intro kd vl t2 nm2 us2 h10 h11 h12 H locs ls ht2 ht3 hp2 hn2 hn3 hu2 hR2 hv2 hP hD hS hl
                          refine lv_aload_n hx hb dX12_cut_472 rfl (lv_at hl 5 rfl) ?_
                          refine r_get (v := .ref (a 2)) hx hb hown hq hE hP 5 16 tFX12_5 (by decide) pw_1432 rfl dX12_cut_473 ?_
                          refine lv_aload_n hx hb dX12_cut_476 rfl (lv_at hl 5 rfl) ?_
                          refine r_get (v := .int (nI T)) hx hb hown hq hE hP 9 314 tFX12_9 (by decide) pw_1568 rfl dX12_cut_477 ?_
                          refine lv_iload hx hb dX12_cut_480 (lv_at hl 3 rfl) ?_
                          refine r_sti (f := g5) (j := T) hx hb hE hP hD hS 2 (ma_2 G a _) rfl (mas_2 G a _ _) (by omega) (by decide) dX12_cut_482 (fun H locs hP hD hS => ?_)
                          refine lv_aload_n hx hb dX12_cut_483 rfl (lv_at hl 5 rfl) ?_
                          refine r_get (v := .ref (a 3)) hx hb hown hq hE hP 6 19 tFX12_6 (by decide) pw_1433 rfl dX12_cut_484 ?_
                          refine lv_aload_n hx hb dX12_cut_487 rfl (lv_at hl 5 rfl) ?_
                          refine r_get (v := .int (nI T)) hx hb hown hq hE hP 9 314 tFX12_9 (by decide) pw_1568 rfl dX12_cut_488 ?_
                          refine lv_iload_n hx hb dX12_cut_491 rfl (lv_at hl 0 rfl) ?_
                          refine r_sti (f := g6) (j := T) hx hb hE hP hD hS 3 (ma_3 G a _) rfl (mas_3 G a _ _) (by omega) (by decide) dX12_cut_492 (fun H locs hP hD hS => ?_)
                          refine lv_aload_n hx hb dX12_cut_493 rfl (lv_at hl 5 rfl) ?_
                          refine r_get (v := .ref (a 4)) hx hb hown hq hE hP 7 22 tFX12_7 (by decide) pw_1434 rfl dX12_cut_494 ?_
                          refine lv_aload_n hx hb dX12_cut_497 rfl (lv_at hl 5 rfl) ?_
                          refine r_get (v := .int (nI T)) hx hb hown hq hE hP 9 314 tFX12_9 (by decide) pw_1568 rfl dX12_cut_498 ?_
                          refine lv_iload_n hx hb dX12_cut_501 rfl (lv_at hl 2 rfl) ?_
                          refine r_sti (f := g7) (j := T) hx hb hE hP hD hS 4 (ma_4 G a _) rfl (mas_4 G a _ _) (by omega) (by decide) dX12_cut_502 (fun H locs hP hD hS => ?_)
                          refine lv_aload_n hx hb dX12_cut_503 rfl (lv_at hl 5 rfl) ?_
                          refine r_get (v := .ref (a 5)) hx hb hown hq hE hP 8 25 tFX12_8 (by decide) pw_1435 rfl dX12_cut_504 ?_
                          refine lv_aload_n hx hb dX12_cut_507 rfl (lv_at hl 5 rfl) ?_
                          refine r_get (v := .int (nI T)) hx hb hown hq hE hP 9 314 tFX12_9 (by decide) pw_1568 rfl dX12_cut_508 ?_
                          refine lv_iload hx hb dX12_cut_511 (lv_at hl 4 rfl) ?_
                          refine r_sti (f := g8) (j := T) hx hb hE hP hD hS 5 (ma_5 G a _) rfl (mas_5 G a _ _) (by omega) (by decide) dX12_cut_513 (fun H locs hP hD hS => ?_)
                          refine lv_iload hx hb dX12_cut_514 (lv_at hl 3 rfl) ?_
                          refine lv_if_eq (tgt := 529) hx hb dX12_cut_516 (by decide) (fun c356 => ?_) (fun c356 => ?_)
                          · refine lv_iconst (v := 0) hx hb dX12_cut_529 (by decide) ?_
                            refine lv_istore_n (lv' := [(2, .int 0), (1, .int (nI i1)), (3, .int (nI t2)), (4, .int kd), (5, .int vl), (0, .ref h0)]) hx hb dX12_cut_530 rfl hl (by decide) rfl (fun ls hl => ?_)
                            refine lv_aload_n hx hb dX12_cut_531 rfl (lv_at hl 5 rfl) ?_
                            refine lv_dup hx hb dX12_cut_532 rfl ?_
                            refine r_get (v := .int (nI T)) hx hb hown hq hE hP 9 314 tFX12_9 (by decide) pw_1568 rfl dX12_cut_533 ?_
                            refine lv_iload_n hx hb dX12_cut_536 rfl (lv_at hl 0 rfl) ?_
                            refine lv_if_eq (tgt := 544) hx hb dX12_cut_537 (by decide) (fun c357 => ?_) (fun c357 => absurd c357 (by decide))
                            refine lv_iconst (v := 0) hx hb dX12_cut_544 (by decide) ?_
                            refine lv_iadd hx hb dX12_cut_545 ?_
                            refine lv_topi (fun x358 e359 => ?_)
                            obtain rfl : x358 = nI (T + 0) := e359.trans (nI_add (T) (0))
                            refine r_put (v := (nI (T + 0))) hx hb hown hq hE hP hD hS 9 314 tFX12_9 (by decide) pw_1568 (by decide) rfl rfl (ms_9 a _ _) dX12_cut_546 (fun H locs hP hD hS => ?_)
                            refine lv_iload_n hx hb dX12_cut_549 rfl (lv_at hl 2 rfl) ?_
                            refine lv_istore_n (lv' := [(1, .int (nI t2)), (2, .int 0), (3, .int (nI t2)), (4, .int kd), (5, .int vl), (0, .ref h0)]) hx hb dX12_cut_550 rfl hl (by decide) rfl (fun ls hl => ?_)
                            refine lv_goto (tgt := 82) hx hb dX12_cut_551 (by decide) ?_
                            have hP : va_P G.1 pCl (mW G h0 a (upd (upd (upd (upd F 4 (nI sz)) 9 (nI (T + 0))) 13 (nI us2)) 14 (nI nm2)) (updA (updA (updA (updA (updA (updA (updA B 2 (upd g5 T kd)) 3 (upd g6 T (nI i1))) 4 (upd g7 T (nI t2))) 5 (upd g8 T vl)) 6 h10) 7 h11) 8 h12)) H := hP
                            have hD : va_D A (mW G h0 a (upd (upd (upd (upd F 4 (nI sz)) 9 (nI (T + 0))) 13 (nI us2)) 14 (nI nm2)) (updA (updA (updA (updA (updA (updA (updA B 2 (upd g5 T kd)) 3 (upd g6 T (nI i1))) 4 (upd g7 T (nI t2))) 5 (upd g8 T vl)) 6 h10) 7 h11) 8 h12)) := hD
                            exact ih_o (t2 + 1) t2 (T + 0) nm2 us2 0 h10 h11 h12 (upd g5 T kd) (upd g6 T (nI i1)) (upd g7 T (nI t2)) (upd g8 T vl) _ _ _ (by omega) (by omega) (Or.inr ⟨rfl, rfl⟩) (by omega) (by omega) (by omega) (by omega) (fun _ => Or.inl (by unfold upd; rw [if_pos rfl]; exact c356)) hR2 (rTk_up2 hTk hn2) (by omega) hP hD hS (lv_sub hl [0, 1, 5] rfl)
                          · refine lv_iload hx hb dX12_cut_519 (lv_at hl 3 rfl) ?_
                            refine lv_iconst (v := 3) hx hb dX12_cut_521 (by decide) ?_
                            refine lv_icmp_eq (tgt := 529) hx hb dX12_cut_522 (by decide) (fun c360 => ?_) (fun c360 => ?_)
                            · refine lv_iconst (v := 0) hx hb dX12_cut_529 (by decide) ?_
                              refine lv_istore_n (lv' := [(2, .int 0), (1, .int (nI i1)), (3, .int (nI t2)), (4, .int kd), (5, .int vl), (0, .ref h0)]) hx hb dX12_cut_530 rfl hl (by decide) rfl (fun ls hl => ?_)
                              refine lv_aload_n hx hb dX12_cut_531 rfl (lv_at hl 5 rfl) ?_
                              refine lv_dup hx hb dX12_cut_532 rfl ?_
                              refine r_get (v := .int (nI T)) hx hb hown hq hE hP 9 314 tFX12_9 (by decide) pw_1568 rfl dX12_cut_533 ?_
                              refine lv_iload_n hx hb dX12_cut_536 rfl (lv_at hl 0 rfl) ?_
                              refine lv_if_eq (tgt := 544) hx hb dX12_cut_537 (by decide) (fun c361 => ?_) (fun c361 => absurd c361 (by decide))
                              refine lv_iconst (v := 0) hx hb dX12_cut_544 (by decide) ?_
                              refine lv_iadd hx hb dX12_cut_545 ?_
                              refine lv_topi (fun x362 e363 => ?_)
                              obtain rfl : x362 = nI (T + 0) := e363.trans (nI_add (T) (0))
                              refine r_put (v := (nI (T + 0))) hx hb hown hq hE hP hD hS 9 314 tFX12_9 (by decide) pw_1568 (by decide) rfl rfl (ms_9 a _ _) dX12_cut_546 (fun H locs hP hD hS => ?_)
                              refine lv_iload_n hx hb dX12_cut_549 rfl (lv_at hl 2 rfl) ?_
                              refine lv_istore_n (lv' := [(1, .int (nI t2)), (2, .int 0), (3, .int (nI t2)), (4, .int kd), (5, .int vl), (0, .ref h0)]) hx hb dX12_cut_550 rfl hl (by decide) rfl (fun ls hl => ?_)
                              refine lv_goto (tgt := 82) hx hb dX12_cut_551 (by decide) ?_
                              have hP : va_P G.1 pCl (mW G h0 a (upd (upd (upd (upd F 4 (nI sz)) 9 (nI (T + 0))) 13 (nI us2)) 14 (nI nm2)) (updA (updA (updA (updA (updA (updA (updA B 2 (upd g5 T kd)) 3 (upd g6 T (nI i1))) 4 (upd g7 T (nI t2))) 5 (upd g8 T vl)) 6 h10) 7 h11) 8 h12)) H := hP
                              have hD : va_D A (mW G h0 a (upd (upd (upd (upd F 4 (nI sz)) 9 (nI (T + 0))) 13 (nI us2)) 14 (nI nm2)) (updA (updA (updA (updA (updA (updA (updA B 2 (upd g5 T kd)) 3 (upd g6 T (nI i1))) 4 (upd g7 T (nI t2))) 5 (upd g8 T vl)) 6 h10) 7 h11) 8 h12)) := hD
                              exact ih_o (t2 + 1) t2 (T + 0) nm2 us2 0 h10 h11 h12 (upd g5 T kd) (upd g6 T (nI i1)) (upd g7 T (nI t2)) (upd g8 T vl) _ _ _ (by omega) (by omega) (Or.inr ⟨rfl, rfl⟩) (by omega) (by omega) (by omega) (by omega) (fun _ => Or.inr (by unfold upd; rw [if_pos rfl]; exact c360)) hR2 (rTk_up2 hTk hn2) (by omega) hP hD hS (lv_sub hl [0, 1, 5] rfl)
                            · refine lv_iconst (v := 1) hx hb dX12_cut_525 (by decide) ?_
                              refine lv_goto (tgt := 530) hx hb dX12_cut_526 (by decide) ?_
                              refine lv_istore_n (lv' := [(2, .int 1), (1, .int (nI i1)), (3, .int (nI t2)), (4, .int kd), (5, .int vl), (0, .ref h0)]) hx hb dX12_cut_530 rfl hl (by decide) rfl (fun ls hl => ?_)
                              refine lv_aload_n hx hb dX12_cut_531 rfl (lv_at hl 5 rfl) ?_
                              refine lv_dup hx hb dX12_cut_532 rfl ?_
                              refine r_get (v := .int (nI T)) hx hb hown hq hE hP 9 314 tFX12_9 (by decide) pw_1568 rfl dX12_cut_533 ?_
                              refine lv_iload_n hx hb dX12_cut_536 rfl (lv_at hl 0 rfl) ?_
                              refine lv_if_eq (tgt := 544) hx hb dX12_cut_537 (by decide) (fun c364 => absurd c364 (by decide)) (fun c364 => ?_)
                              refine lv_iconst (v := 1) hx hb dX12_cut_540 (by decide) ?_
                              refine lv_goto (tgt := 545) hx hb dX12_cut_541 (by decide) ?_
                              refine lv_iadd hx hb dX12_cut_545 ?_
                              refine lv_topi (fun x365 e366 => ?_)
                              obtain rfl : x365 = nI (T + 1) := e366.trans (nI_add (T) (1))
                              refine r_put (v := (nI (T + 1))) hx hb hown hq hE hP hD hS 9 314 tFX12_9 (by decide) pw_1568 (by decide) rfl rfl (ms_9 a _ _) dX12_cut_546 (fun H locs hP hD hS => ?_)
                              refine lv_iload_n hx hb dX12_cut_549 rfl (lv_at hl 2 rfl) ?_
                              refine lv_istore_n (lv' := [(1, .int (nI t2)), (2, .int 1), (3, .int (nI t2)), (4, .int kd), (5, .int vl), (0, .ref h0)]) hx hb dX12_cut_550 rfl hl (by decide) rfl (fun ls hl => ?_)
                              refine lv_goto (tgt := 82) hx hb dX12_cut_551 (by decide) ?_
                              have hp3 : i1 < t2 := hp2.resolve_left c356
                              have hP : va_P G.1 pCl (mW G h0 a (upd (upd (upd (upd F 4 (nI sz)) 9 (nI (T + 1))) 13 (nI us2)) 14 (nI nm2)) (updA (updA (updA (updA (updA (updA (updA B 2 (upd g5 T kd)) 3 (upd g6 T (nI i1))) 4 (upd g7 T (nI t2))) 5 (upd g8 T vl)) 6 h10) 7 h11) 8 h12)) H := hP
                              have hD : va_D A (mW G h0 a (upd (upd (upd (upd F 4 (nI sz)) 9 (nI (T + 1))) 13 (nI us2)) 14 (nI nm2)) (updA (updA (updA (updA (updA (updA (updA B 2 (upd g5 T kd)) 3 (upd g6 T (nI i1))) 4 (upd g7 T (nI t2))) 5 (upd g8 T vl)) 6 h10) 7 h11) 8 h12)) := hD
                              exact ih_o t2 t2 (T + 1) nm2 us2 1 h10 h11 h12 (upd g5 T kd) (upd g6 T (nI i1)) (upd g7 T (nI t2)) (upd g8 T vl) _ _ _ (by omega) (by omega) (Or.inl ⟨rfl, rfl⟩) (by omega) (by omega) (by omega) (by omega) (fun h9 => absurd h9 (by decide)) hR2 (rTk_upd hTk hn2 hv2) (by omega) hP hD hS (lv_sub hl [0, 1, 5] rfl)
                        refine lv_iload_n hx hb dX12_cut_178 rfl (lv_at hl 0 rfl) ?_
                        refine lv_iconst (v := 1) hx hb dX12_cut_179 (by decide) ?_
                        refine lv_iadd hx hb dX12_cut_180 ?_
                        refine lv_topi (fun x367 e368 => ?_)
                        obtain rfl : x367 = nI (i1 + 1) := e368.trans (nI_add (i1) (1))
                        refine lv_istore_n (lv' := [(3, .int (nI (i1 + 1))), (1, .int (nI i1)), (2, .int 1), (0, .ref h0)]) hx hb dX12_cut_181 rfl hl (by decide) rfl (fun ls hl => ?_)
                        refine lv_iconst (v := 0) hx hb dX12_cut_182 (by decide) ?_
                        refine lv_istore (lv' := [(4, .int 0), (3, .int (nI (i1 + 1))), (1, .int (nI i1)), (2, .int 1), (0, .ref h0)]) hx hb dX12_cut_183 hl (by decide) rfl (fun ls hl => ?_)
                        refine lv_iconst (v := 0) hx hb dX12_cut_185 (by decide) ?_
                        refine lv_istore (lv' := [(5, .int 0), (4, .int 0), (3, .int (nI (i1 + 1))), (1, .int (nI i1)), (2, .int 1), (0, .ref h0)]) hx hb dX12_cut_186 hl (by decide) rfl (fun ls hl => ?_)
                        refine lv_iload_n hx hb dX12_cut_188 rfl (lv_at hl 3 rfl) ?_
                        refine lv_aload_n hx hb dX12_cut_189 rfl (lv_at hl 5 rfl) ?_
                        refine r_get (v := .int (nI sz)) hx hb hown hq hE hP 4 258 tFX12_4 (by decide) pw_1519 rfl dX12_cut_190 ?_
                        refine lv_icmp_lt (tgt := 201) hx hb dX12_cut_193 (by decide) (fun c369 => ?_) (fun c369 => ?_)
                        · have n370 : i1 < sz := (nI_ltI (a := i1) (b := sz) (by omega) (by omega)).mp c369
                          refine lv_aload_n hx hb dX12_cut_201 rfl (lv_at hl 5 rfl) ?_
                          refine lv_iload_n hx hb dX12_cut_202 rfl (lv_at hl 3 rfl) ?_
                          have hP : va_P G.1 pCl (mW G h0 a (upd (upd (upd (upd (upd F 4 (nI sz)) 9 (nI T)) 13 (nI us)) 14 (nI nm)) 4 (nI sz)) (updA (updA (updA (updA (updA (updA (updA B 2 g5) 3 g6) 4 g7) 5 g8) 6 g10) 7 g11) 8 g12)) H := hP
                          have hD : va_D A (mW G h0 a (upd (upd (upd (upd (upd F 4 (nI sz)) 9 (nI T)) 13 (nI us)) 14 (nI nm)) 4 (nI sz)) (updA (updA (updA (updA (updA (updA (updA B 2 g5) 3 g6) 4 g7) 5 g8) 6 g10) 7 g11) 8 g12)) := hD
                          refine pc_V0 (G := G) (As := [.int (nI i1)]) (rest := []) hx hb hml hown hq hE hX pX0_al hP hD hS hA hl.1 (R_ch l G h0 a (upd (upd (upd (upd F 4 (nI sz)) 9 (nI T)) 13 (nI us)) 14 (nI nm)) (updA (updA (updA (updA (updA (updA (updA B 2 g5) 3 g6) 4 g7) 5 g8) 6 g10) 7 g11) 8 g12) i1 sz (by omega) (by omega)) (gV pw_1561 pw_1562 pw_1563 pw_1523 pw_1518) hV_X12_ch 0 9 rfl rfl rfl rfl (Nat.le_of_ble_eq_true rfl) dX12_cut_203 ⟨Nat.le_of_ble_eq_true rfl, Nat.le_of_ble_eq_true rfl⟩ ⟨Nat.le_of_ble_eq_true rfl, Nat.le_of_ble_eq_true rfl⟩ (fun v373 u371 H locs hw372 hP hD hS => ?_)
                          obtain ⟨r374, rfl⟩ : ∃ z, z = u371 := ⟨_, rfl⟩
                          obtain ⟨hw372, h375⟩ := hw372
                          have h375 : r374 = (-1) ∨ i1 < sz ∧ r374 = (updA (updA (updA (updA (updA (updA (updA B 2 g5) 3 g6) 4 g7) 5 g8) 6 g10) 7 g11) 8 g12) 1 i1 := h375
                          obtain rfl : v373 = some (.int r374) := hw372
                          have hP : va_P G.1 pCl (mW G h0 a (upd (upd (upd (upd F 4 (nI sz)) 9 (nI T)) 13 (nI us)) 14 (nI nm)) (updA (updA (updA (updA (updA (updA (updA B 2 g5) 3 g6) 4 g7) 5 g8) 6 g10) 7 g11) 8 g12)) H := hP
                          have hD : va_D A (mW G h0 a (upd (upd (upd (upd F 4 (nI sz)) 9 (nI T)) 13 (nI us)) 14 (nI nm)) (updA (updA (updA (updA (updA (updA (updA B 2 g5) 3 g6) 4 g7) 5 g8) 6 g10) 7 g11) 8 g12)) := hD
                          refine W.widen (k := 0) (n := 0) (Nat.le_of_ble_eq_true rfl) (Nat.le_of_ble_eq_true rfl) ?_
                          refine W.eq (g2 := F0 m 206 ls [.int r374]) rfl ?_
                          refine pc_SN (G := G) (As := [.int r374]) (rest := []) hx hb hml hown hq hE hX pX0_al hP hS hA hl.1 (s_isLetter l G r374) (gS pw_1575 pw_1576 pw_1523 pw_1520) hS_X12_isLetter rfl (Nat.le_of_ble_eq_true rfl) dX12_cut_206 ⟨Nat.le_of_ble_eq_true rfl, Nat.le_of_ble_eq_true rfl⟩ ⟨Nat.le_of_ble_eq_true rfl, Nat.le_of_ble_eq_true rfl⟩ (fun v378 u376 H locs hw377 hP hS => ?_)
                          obtain ⟨x379, rfl, hr380, hr381⟩ := hw377
                          refine W.widen (k := 0) (n := 0) (Nat.le_of_ble_eq_true rfl) (Nat.le_of_ble_eq_true rfl) ?_
                          refine W.eq (g2 := F0 m 209 ls [.int x379]) rfl ?_
                          refine lv_if_eq (tgt := 285) hx hb dX12_cut_209 (by decide) (fun c382 => ?_) (fun c382 => ?_)
                          · refine lv_aload_n hx hb dX12_cut_285 rfl (lv_at hl 5 rfl) ?_
                            refine lv_iload_n hx hb dX12_cut_286 rfl (lv_at hl 3 rfl) ?_
                            have hP : va_P G.1 pCl (mW G h0 a (upd (upd (upd (upd (upd F 4 (nI sz)) 9 (nI T)) 13 (nI us)) 14 (nI nm)) 4 (nI sz)) (updA (updA (updA (updA (updA (updA (updA B 2 g5) 3 g6) 4 g7) 5 g8) 6 g10) 7 g11) 8 g12)) H := hP
                            have hD : va_D A (mW G h0 a (upd (upd (upd (upd (upd F 4 (nI sz)) 9 (nI T)) 13 (nI us)) 14 (nI nm)) 4 (nI sz)) (updA (updA (updA (updA (updA (updA (updA B 2 g5) 3 g6) 4 g7) 5 g8) 6 g10) 7 g11) 8 g12)) := hD
                            refine pc_V0 (G := G) (As := [.int (nI i1)]) (rest := []) hx hb hml hown hq hE hX pX0_al hP hD hS hA hl.1 (R_ch l G h0 a (upd (upd (upd (upd F 4 (nI sz)) 9 (nI T)) 13 (nI us)) 14 (nI nm)) (updA (updA (updA (updA (updA (updA (updA B 2 g5) 3 g6) 4 g7) 5 g8) 6 g10) 7 g11) 8 g12) i1 sz (by omega) (by omega)) (gV pw_1561 pw_1562 pw_1563 pw_1523 pw_1518) hV_X12_ch 0 9 rfl rfl rfl rfl (Nat.le_of_ble_eq_true rfl) dX12_cut_287 ⟨Nat.le_of_ble_eq_true rfl, Nat.le_of_ble_eq_true rfl⟩ ⟨Nat.le_of_ble_eq_true rfl, Nat.le_of_ble_eq_true rfl⟩ (fun v385 u383 H locs hw384 hP hD hS => ?_)
                            obtain ⟨r386, rfl⟩ : ∃ z, z = u383 := ⟨_, rfl⟩
                            obtain ⟨hw384, h387⟩ := hw384
                            have h387 : r386 = (-1) ∨ i1 < sz ∧ r386 = (updA (updA (updA (updA (updA (updA (updA B 2 g5) 3 g6) 4 g7) 5 g8) 6 g10) 7 g11) 8 g12) 1 i1 := h387
                            obtain rfl : v385 = some (.int r386) := hw384
                            have hP : va_P G.1 pCl (mW G h0 a (upd (upd (upd (upd F 4 (nI sz)) 9 (nI T)) 13 (nI us)) 14 (nI nm)) (updA (updA (updA (updA (updA (updA (updA B 2 g5) 3 g6) 4 g7) 5 g8) 6 g10) 7 g11) 8 g12)) H := hP
                            have hD : va_D A (mW G h0 a (upd (upd (upd (upd F 4 (nI sz)) 9 (nI T)) 13 (nI us)) 14 (nI nm)) (updA (updA (updA (updA (updA (updA (updA B 2 g5) 3 g6) 4 g7) 5 g8) 6 g10) 7 g11) 8 g12)) := hD
                            refine W.widen (k := 0) (n := 0) (Nat.le_of_ble_eq_true rfl) (Nat.le_of_ble_eq_true rfl) ?_
                            refine W.eq (g2 := F0 m 290 ls [.int r386]) rfl ?_
                            refine pc_SN (G := G) (As := [.int r386]) (rest := []) hx hb hml hown hq hE hX pX0_al hP hS hA hl.1 (s_isDigit l G r386) (gS pw_1577 pw_1578 pw_1523 pw_1524) hS_X12_isDigit rfl (Nat.le_of_ble_eq_true rfl) dX12_cut_290 ⟨Nat.le_of_ble_eq_true rfl, Nat.le_of_ble_eq_true rfl⟩ ⟨Nat.le_of_ble_eq_true rfl, Nat.le_of_ble_eq_true rfl⟩ (fun v390 u388 H locs hw389 hP hS => ?_)
                            obtain ⟨x391, rfl, hr392, hr393⟩ := hw389
                            refine W.widen (k := 0) (n := 0) (Nat.le_of_ble_eq_true rfl) (Nat.le_of_ble_eq_true rfl) ?_
                            refine W.eq (g2 := F0 m 293 ls [.int x391]) rfl ?_
                            refine lv_if_eq (tgt := 433) hx hb dX12_cut_293 (by decide) (fun c394 => ?_) (fun c394 => ?_)
                            · refine lv_aload_n hx hb dX12_cut_433 rfl (lv_at hl 5 rfl) ?_
                              refine lv_iload_n hx hb dX12_cut_434 rfl (lv_at hl 3 rfl) ?_
                              have hP : va_P G.1 pCl (mW G h0 a (upd (upd (upd (upd (upd F 4 (nI sz)) 9 (nI T)) 13 (nI us)) 14 (nI nm)) 4 (nI sz)) (updA (updA (updA (updA (updA (updA (updA B 2 g5) 3 g6) 4 g7) 5 g8) 6 g10) 7 g11) 8 g12)) H := hP
                              have hD : va_D A (mW G h0 a (upd (upd (upd (upd (upd F 4 (nI sz)) 9 (nI T)) 13 (nI us)) 14 (nI nm)) 4 (nI sz)) (updA (updA (updA (updA (updA (updA (updA B 2 g5) 3 g6) 4 g7) 5 g8) 6 g10) 7 g11) 8 g12)) := hD
                              refine pc_V0 (G := G) (As := [.int (nI i1)]) (rest := []) hx hb hml hown hq hE hX pX0_al hP hD hS hA hl.1 (R_sign l G h0 a (upd (upd (upd (upd F 4 (nI sz)) 9 (nI T)) 13 (nI us)) 14 (nI nm)) (updA (updA (updA (updA (updA (updA (updA B 2 g5) 3 g6) 4 g7) 5 g8) 6 g10) 7 g11) 8 g12) i1 sz (by omega) (by omega) htx) (gV pw_1585 pw_1586 pw_1587 pw_1523 pw_1567) hV_X12_sign 0 9 rfl rfl rfl rfl (Nat.le_of_ble_eq_true rfl) dX12_cut_435 ⟨Nat.le_of_ble_eq_true rfl, Nat.le_of_ble_eq_true rfl⟩ ⟨Nat.le_of_ble_eq_true rfl, Nat.le_of_ble_eq_true rfl⟩ (fun v397 u395 H locs hw396 hP hD hS => ?_)
                              obtain ⟨r398, rfl⟩ : ∃ z, z = u395 := ⟨_, rfl⟩
                              obtain ⟨hw396, h399, h400⟩ := hw396
                              have h399 : r398 = 264 → i1 + 3 ≤ sz := h399
                              have h400 : ¬ r398 < 256 → i1 + 2 ≤ sz := h400
                              obtain rfl : v397 = some (.int r398) := hw396
                              have hP : va_P G.1 pCl (mW G h0 a (upd (upd (upd (upd F 4 (nI sz)) 9 (nI T)) 13 (nI us)) 14 (nI nm)) (updA (updA (updA (updA (updA (updA (updA B 2 g5) 3 g6) 4 g7) 5 g8) 6 g10) 7 g11) 8 g12)) H := hP
                              have hD : va_D A (mW G h0 a (upd (upd (upd (upd F 4 (nI sz)) 9 (nI T)) 13 (nI us)) 14 (nI nm)) (updA (updA (updA (updA (updA (updA (updA B 2 g5) 3 g6) 4 g7) 5 g8) 6 g10) 7 g11) 8 g12)) := hD
                              refine W.widen (k := 0) (n := 0) (Nat.le_of_ble_eq_true rfl) (Nat.le_of_ble_eq_true rfl) ?_
                              refine W.eq (g2 := F0 m 438 ls [.int r398]) rfl ?_
                              refine lv_istore (lv' := [(4, .int r398), (5, .int 0), (3, .int (nI (i1 + 1))), (1, .int (nI i1)), (2, .int 1), (0, .ref h0)]) hx hb dX12_cut_438 hl (by decide) rfl (fun ls hl => ?_)
                              refine lv_iload hx hb dX12_cut_440 (lv_at hl 0 rfl) ?_
                              refine lv_sipush (v := 264) hx hb dX12_cut_442 (by decide) ?_
                              refine lv_icmp_ne (tgt := 454) hx hb dX12_cut_445 (by decide) (fun c401 => ?_) (fun c401 => ?_)
                              · refine lv_iload hx hb dX12_cut_454 (lv_at hl 0 rfl) ?_
                                refine lv_sipush (v := 256) hx hb dX12_cut_456 (by decide) ?_
                                refine lv_icmp_lt (tgt := 468) hx hb dX12_cut_459 (by decide) (fun c402 => ?_) (fun c402 => ?_)
                                · refine lv_iload_n hx hb dX12_cut_468 rfl (lv_at hl 3 rfl) ?_
                                  refine lv_iconst (v := 1) hx hb dX12_cut_469 (by decide) ?_
                                  refine lv_iadd hx hb dX12_cut_470 ?_
                                  refine lv_topi (fun x403 e404 => ?_)
                                  obtain rfl : x403 = nI (i1 + 1) := e404.trans (nI_add (i1) (1))
                                  refine lv_istore_n (lv' := [(3, .int (nI (i1 + 1))), (4, .int r398), (5, .int 0), (1, .int (nI i1)), (2, .int 1), (0, .ref h0)]) hx hb dX12_cut_471 rfl hl (by decide) rfl (fun ls hl => ?_)
                                  have hP : va_P G.1 pCl (mW G h0 a (upd (upd (upd (upd F 4 (nI sz)) 9 (nI T)) 13 (nI us)) 14 (nI nm)) (updA (updA (updA (updA (updA (updA (updA B 2 g5) 3 g6) 4 g7) 5 g8) 6 g10) 7 g11) 8 g12)) H := hP
                                  have hD : va_D A (mW G h0 a (upd (upd (upd (upd F 4 (nI sz)) 9 (nI T)) 13 (nI us)) 14 (nI nm)) (updA (updA (updA (updA (updA (updA (updA B 2 g5) 3 g6) 4 g7) 5 g8) 6 g10) 7 g11) 8 g12)) := hD
                                  exact cut_j r398 0 (i1 + 1) nm us g10 g11 g12 _ _ _ (by omega) (by omega) (Or.inr (by omega)) (by omega) (by omega) (by omega) hR (fun _ => ⟨0, by omega, rfl⟩) hP hD hS (lv_sub hl [3, 4, 0, 1, 2, 5] rfl)
                                · have hs2 : i1 + 2 ≤ sz := h400 c402
                                  refine lv_iload_n hx hb dX12_cut_462 rfl (lv_at hl 3 rfl) ?_
                                  refine lv_iconst (v := 2) hx hb dX12_cut_463 (by decide) ?_
                                  refine lv_iadd hx hb dX12_cut_464 ?_
                                  refine lv_topi (fun x405 e406 => ?_)
                                  obtain rfl : x405 = nI (i1 + 2) := e406.trans (nI_add (i1) (2))
                                  refine lv_goto (tgt := 471) hx hb dX12_cut_465 (by decide) ?_
                                  refine lv_istore_n (lv' := [(3, .int (nI (i1 + 2))), (4, .int r398), (5, .int 0), (1, .int (nI i1)), (2, .int 1), (0, .ref h0)]) hx hb dX12_cut_471 rfl hl (by decide) rfl (fun ls hl => ?_)
                                  have hP : va_P G.1 pCl (mW G h0 a (upd (upd (upd (upd F 4 (nI sz)) 9 (nI T)) 13 (nI us)) 14 (nI nm)) (updA (updA (updA (updA (updA (updA (updA B 2 g5) 3 g6) 4 g7) 5 g8) 6 g10) 7 g11) 8 g12)) H := hP
                                  have hD : va_D A (mW G h0 a (upd (upd (upd (upd F 4 (nI sz)) 9 (nI T)) 13 (nI us)) 14 (nI nm)) (updA (updA (updA (updA (updA (updA (updA B 2 g5) 3 g6) 4 g7) 5 g8) 6 g10) 7 g11) 8 g12)) := hD
                                  exact cut_j r398 0 (i1 + 2) nm us g10 g11 g12 _ _ _ (by omega) (by omega) (Or.inr (by omega)) (by omega) (by omega) (by omega) hR (fun _ => ⟨0, by omega, rfl⟩) hP hD hS (lv_sub hl [3, 4, 0, 1, 2, 5] rfl)
                              · have hs3 : i1 + 3 ≤ sz := h399 c401
                                refine lv_iload_n hx hb dX12_cut_448 rfl (lv_at hl 3 rfl) ?_
                                refine lv_iconst (v := 3) hx hb dX12_cut_449 (by decide) ?_
                                refine lv_iadd hx hb dX12_cut_450 ?_
                                refine lv_topi (fun x407 e408 => ?_)
                                obtain rfl : x407 = nI (i1 + 3) := e408.trans (nI_add (i1) (3))
                                refine lv_goto (tgt := 471) hx hb dX12_cut_451 (by decide) ?_
                                refine lv_istore_n (lv' := [(3, .int (nI (i1 + 3))), (4, .int r398), (5, .int 0), (1, .int (nI i1)), (2, .int 1), (0, .ref h0)]) hx hb dX12_cut_471 rfl hl (by decide) rfl (fun ls hl => ?_)
                                have hP : va_P G.1 pCl (mW G h0 a (upd (upd (upd (upd F 4 (nI sz)) 9 (nI T)) 13 (nI us)) 14 (nI nm)) (updA (updA (updA (updA (updA (updA (updA B 2 g5) 3 g6) 4 g7) 5 g8) 6 g10) 7 g11) 8 g12)) H := hP
                                have hD : va_D A (mW G h0 a (upd (upd (upd (upd F 4 (nI sz)) 9 (nI T)) 13 (nI us)) 14 (nI nm)) (updA (updA (updA (updA (updA (updA (updA B 2 g5) 3 g6) 4 g7) 5 g8) 6 g10) 7 g11) 8 g12)) := hD
                                exact cut_j r398 0 (i1 + 3) nm us g10 g11 g12 _ _ _ (by omega) (by omega) (Or.inr (by omega)) (by omega) (by omega) (by omega) hR (fun _ => ⟨0, by omega, rfl⟩) hP hD hS (lv_sub hl [3, 4, 0, 1, 2, 5] rfl)
                            · have hc48 : ¬ r386 < 48 := (hr392).resolve_left c394
                              have hlet : i1 < sz ∧ ¬ B 1 i1 = 32 := ⟨chin h387 (noM1 hc48), by rw [← ((h387).resolve_left (noM1 hc48)).2]; exact no32 hc48⟩
                              refine lv_lconst (v := 0) hx hb dX12_cut_296 (by decide) ?_
                              refine lv_lstore (lv' := [(6, .long 0), (5, .int 0), (4, .int 0), (3, .int (nI (i1 + 1))), (1, .int (nI i1)), (2, .int 1), (0, .ref h0)]) hx hb dX12_cut_297 hl (by decide) rfl (fun ls hl => ?_)
                              have loop_d : ∀ (n_d : Nat) (tt : Nat) (H : Heap) (locs : List Loc) (ls : Array Slot), tt ≤ sz → sz + 1 ≤ tt + n_d → (i1 + 1 ≤ tt) → (∀ j : Nat, i1 ≤ j → j < tt → ¬ B 1 j = 32) → va_P G.1 pCl (mW G h0 a (upd (upd (upd (upd F 4 (nI sz)) 9 (nI T)) 13 (nI us)) 14 (nI nm)) (updA (updA (updA (updA (updA (updA (updA B 2 g5) 3 g6) 4 g7) 5 g8) 6 g10) 7 g11) 8 g12)) H → va_D A (mW G h0 a (upd (upd (upd (upd F 4 (nI sz)) 9 (nI T)) 13 (nI us)) 14 (nI nm)) (updA (updA (updA (updA (updA (updA (updA B 2 g5) 3 g6) 4 g7) 5 g8) 6 g10) 7 g11) 8 g12)) → va_S A s.heap H locs → lv_has ls 9 [(6, .long 0), (3, .int (nI tt)), (4, .int 0), (5, .int 0), (1, .int (nI i1)), (2, .int 1), (0, .ref h0)] → W p l e (headSpec (Cond.code yX12_cut cX12_cut 9 none :: pw) ({ frames := 7, cells := 0, slots := 0, locals := 174 } : Room)).room s m ([.ref h0] : List Value).toArray below meth c H locs 0 0 (MQ below (pQ G A (fun (v : Option Value) (u : Nat × Nat × Nat × (Nat → Int32) × (Nat → Int32) × (Nat → Int32) × (Nat → Int32) × (Nat → Int32) × (Nat → Int32) × (Nat → Int32)) => v = none ∧ (u.1 ≤ sz) ∧ (u.2.2.2.2.2.2.1 u.1 = 0 ∨ u.2.2.2.2.2.2.1 u.1 = 3) ∧ (rNm u.2.1 u.2.2.1 u.2.2.2.1 u.2.2.2.2.1) ∧ (u.2.1 ≤ 9 + sz) ∧ (u.2.2.1 ≤ 40 + sz) ∧ (rTk u.1 u.2.1 u.2.2.2.2.2.2.1 u.2.2.2.2.2.2.2.2.2) ∧ (9 ≤ u.2.1)) (fun u => (mW G h0 a (upd (upd (upd (upd F 4 (nI sz)) 9 (nI u.1)) 13 (nI u.2.2.1)) 14 (nI u.2.1)) (updA (updA (updA (updA (updA (updA (updA B 2 u.2.2.2.2.2.2.1) 3 u.2.2.2.2.2.2.2.1) 4 u.2.2.2.2.2.2.2.2.1) 5 u.2.2.2.2.2.2.2.2.2) 6 u.2.2.2.1) 7 u.2.2.2.2.1) 8 u.2.2.2.2.2.1)))) ([.ref h0] : List Value).toArray s ({ frames := 7, cells := 0, slots := 0, locals := 174 } : Room).cells ({ frames := 7, cells := 0, slots := 0, locals := 174 } : Room).slots A) (F0 m 299 ls []) := by
                                intro n_d
                                induction n_d with
                                | zero => intro tt H locs ls hk_d hn_d; omega
                                | succ n_d ih_d =>
                                  intro tt H locs ls hk_d hn_d ht1 htt hP hD hS hl
                                  refine lv_aload_n hx hb dX12_cut_299 rfl (lv_at hl 6 rfl) ?_
                                  refine lv_iload_n hx hb dX12_cut_300 rfl (lv_at hl 1 rfl) ?_
                                  have hP : va_P G.1 pCl (mW G h0 a (upd (upd (upd (upd (upd F 4 (nI sz)) 9 (nI T)) 13 (nI us)) 14 (nI nm)) 4 (nI sz)) (updA (updA (updA (updA (updA (updA (updA B 2 g5) 3 g6) 4 g7) 5 g8) 6 g10) 7 g11) 8 g12)) H := hP
                                  have hD : va_D A (mW G h0 a (upd (upd (upd (upd (upd F 4 (nI sz)) 9 (nI T)) 13 (nI us)) 14 (nI nm)) 4 (nI sz)) (updA (updA (updA (updA (updA (updA (updA B 2 g5) 3 g6) 4 g7) 5 g8) 6 g10) 7 g11) 8 g12)) := hD
                                  refine pc_V0 (G := G) (As := [.int (nI tt)]) (rest := []) hx hb hml hown hq hE hX pX0_al hP hD hS hA hl.1 (R_ch l G h0 a (upd (upd (upd (upd F 4 (nI sz)) 9 (nI T)) 13 (nI us)) 14 (nI nm)) (updA (updA (updA (updA (updA (updA (updA B 2 g5) 3 g6) 4 g7) 5 g8) 6 g10) 7 g11) 8 g12) tt sz (by omega) (by omega)) (gV pw_1561 pw_1562 pw_1563 pw_1523 pw_1518) hV_X12_ch 0 9 rfl rfl rfl rfl (Nat.le_of_ble_eq_true rfl) dX12_cut_301 ⟨Nat.le_of_ble_eq_true rfl, Nat.le_of_ble_eq_true rfl⟩ ⟨Nat.le_of_ble_eq_true rfl, Nat.le_of_ble_eq_true rfl⟩ (fun v411 u409 H locs hw410 hP hD hS => ?_)
                                  obtain ⟨r412, rfl⟩ : ∃ z, z = u409 := ⟨_, rfl⟩
                                  obtain ⟨hw410, h413⟩ := hw410
                                  have h413 : r412 = (-1) ∨ tt < sz ∧ r412 = (updA (updA (updA (updA (updA (updA (updA B 2 g5) 3 g6) 4 g7) 5 g8) 6 g10) 7 g11) 8 g12) 1 tt := h413
                                  obtain rfl : v411 = some (.int r412) := hw410
                                  have hP : va_P G.1 pCl (mW G h0 a (upd (upd (upd (upd F 4 (nI sz)) 9 (nI T)) 13 (nI us)) 14 (nI nm)) (updA (updA (updA (updA (updA (updA (updA B 2 g5) 3 g6) 4 g7) 5 g8) 6 g10) 7 g11) 8 g12)) H := hP
                                  have hD : va_D A (mW G h0 a (upd (upd (upd (upd F 4 (nI sz)) 9 (nI T)) 13 (nI us)) 14 (nI nm)) (updA (updA (updA (updA (updA (updA (updA B 2 g5) 3 g6) 4 g7) 5 g8) 6 g10) 7 g11) 8 g12)) := hD
                                  refine W.widen (k := 0) (n := 0) (Nat.le_of_ble_eq_true rfl) (Nat.le_of_ble_eq_true rfl) ?_
                                  refine W.eq (g2 := F0 m 304 ls [.int r412]) rfl ?_
                                  refine pc_SN (G := G) (As := [.int r412]) (rest := []) hx hb hml hown hq hE hX pX0_al hP hS hA hl.1 (s_isLetter l G r412) (gS pw_1575 pw_1576 pw_1523 pw_1520) hS_X12_isLetter rfl (Nat.le_of_ble_eq_true rfl) dX12_cut_304 ⟨Nat.le_of_ble_eq_true rfl, Nat.le_of_ble_eq_true rfl⟩ ⟨Nat.le_of_ble_eq_true rfl, Nat.le_of_ble_eq_true rfl⟩ (fun v416 u414 H locs hw415 hP hS => ?_)
                                  obtain ⟨x417, rfl, hr418, hr419⟩ := hw415
                                  refine W.widen (k := 0) (n := 0) (Nat.le_of_ble_eq_true rfl) (Nat.le_of_ble_eq_true rfl) ?_
                                  refine W.eq (g2 := F0 m 307 ls [.int x417]) rfl ?_
                                  refine lv_if_ne (tgt := 321) hx hb dX12_cut_307 (by decide) (fun c420 => ?_) (fun c420 => ?_)
                                  · have hc48 : ¬ r412 < 48 := (hr418).resolve_left c420
                                    have hlet2 : tt < sz ∧ ¬ B 1 tt = 32 := ⟨chin h413 (noM1 hc48), by rw [← ((h413).resolve_left (noM1 hc48)).2]; exact no32 hc48⟩
                                    refine lv_iinc (v := (nI (tt + 1))) (lv' := [(3, .int (nI (tt + 1))), (6, .long 0), (4, .int 0), (5, .int 0), (1, .int (nI i1)), (2, .int 1), (0, .ref h0)]) hx hb dX12_cut_321 hl (k := 1) rfl (nI_1 tt) (by decide) rfl (fun ls hl => ?_)
                                    refine lv_goto (tgt := 299) hx hb dX12_cut_324 (by decide) ?_
                                    have hP : va_P G.1 pCl (mW G h0 a (upd (upd (upd (upd F 4 (nI sz)) 9 (nI T)) 13 (nI us)) 14 (nI nm)) (updA (updA (updA (updA (updA (updA (updA B 2 g5) 3 g6) 4 g7) 5 g8) 6 g10) 7 g11) 8 g12)) H := hP
                                    have hD : va_D A (mW G h0 a (upd (upd (upd (upd F 4 (nI sz)) 9 (nI T)) 13 (nI us)) 14 (nI nm)) (updA (updA (updA (updA (updA (updA (updA B 2 g5) 3 g6) 4 g7) 5 g8) 6 g10) 7 g11) 8 g12)) := hD
                                    exact ih_d (tt + 1) _ _ _ (by have := hlet2.1; omega) (by omega) (by omega) (fun j h8 h9 => by by_cases e9 : j = tt; · rw [e9]; exact hlet2.2; · exact htt j h8 (by omega)) hP hD hS (lv_sub hl [1, 0, 2, 3, 4, 5, 6] rfl)
                                  · refine lv_aload_n hx hb dX12_cut_310 rfl (lv_at hl 6 rfl) ?_
                                    refine lv_iload_n hx hb dX12_cut_311 rfl (lv_at hl 1 rfl) ?_
                                    have hP : va_P G.1 pCl (mW G h0 a (upd (upd (upd (upd (upd F 4 (nI sz)) 9 (nI T)) 13 (nI us)) 14 (nI nm)) 4 (nI sz)) (updA (updA (updA (updA (updA (updA (updA B 2 g5) 3 g6) 4 g7) 5 g8) 6 g10) 7 g11) 8 g12)) H := hP
                                    have hD : va_D A (mW G h0 a (upd (upd (upd (upd (upd F 4 (nI sz)) 9 (nI T)) 13 (nI us)) 14 (nI nm)) 4 (nI sz)) (updA (updA (updA (updA (updA (updA (updA B 2 g5) 3 g6) 4 g7) 5 g8) 6 g10) 7 g11) 8 g12)) := hD
                                    refine pc_V0 (G := G) (As := [.int (nI tt)]) (rest := []) hx hb hml hown hq hE hX pX0_al hP hD hS hA hl.1 (R_ch l G h0 a (upd (upd (upd (upd F 4 (nI sz)) 9 (nI T)) 13 (nI us)) 14 (nI nm)) (updA (updA (updA (updA (updA (updA (updA B 2 g5) 3 g6) 4 g7) 5 g8) 6 g10) 7 g11) 8 g12) tt sz (by omega) (by omega)) (gV pw_1561 pw_1562 pw_1563 pw_1523 pw_1518) hV_X12_ch 0 9 rfl rfl rfl rfl (Nat.le_of_ble_eq_true rfl) dX12_cut_312 ⟨Nat.le_of_ble_eq_true rfl, Nat.le_of_ble_eq_true rfl⟩ ⟨Nat.le_of_ble_eq_true rfl, Nat.le_of_ble_eq_true rfl⟩ (fun v423 u421 H locs hw422 hP hD hS => ?_)
                                    obtain ⟨r424, rfl⟩ : ∃ z, z = u421 := ⟨_, rfl⟩
                                    obtain ⟨hw422, h425⟩ := hw422
                                    have h425 : r424 = (-1) ∨ tt < sz ∧ r424 = (updA (updA (updA (updA (updA (updA (updA B 2 g5) 3 g6) 4 g7) 5 g8) 6 g10) 7 g11) 8 g12) 1 tt := h425
                                    obtain rfl : v423 = some (.int r424) := hw422
                                    have hP : va_P G.1 pCl (mW G h0 a (upd (upd (upd (upd F 4 (nI sz)) 9 (nI T)) 13 (nI us)) 14 (nI nm)) (updA (updA (updA (updA (updA (updA (updA B 2 g5) 3 g6) 4 g7) 5 g8) 6 g10) 7 g11) 8 g12)) H := hP
                                    have hD : va_D A (mW G h0 a (upd (upd (upd (upd F 4 (nI sz)) 9 (nI T)) 13 (nI us)) 14 (nI nm)) (updA (updA (updA (updA (updA (updA (updA B 2 g5) 3 g6) 4 g7) 5 g8) 6 g10) 7 g11) 8 g12)) := hD
                                    refine W.widen (k := 0) (n := 0) (Nat.le_of_ble_eq_true rfl) (Nat.le_of_ble_eq_true rfl) ?_
                                    refine W.eq (g2 := F0 m 315 ls [.int r424]) rfl ?_
                                    refine pc_SN (G := G) (As := [.int r424]) (rest := []) hx hb hml hown hq hE hX pX0_al hP hS hA hl.1 (s_isDigit l G r424) (gS pw_1577 pw_1578 pw_1523 pw_1524) hS_X12_isDigit rfl (Nat.le_of_ble_eq_true rfl) dX12_cut_315 ⟨Nat.le_of_ble_eq_true rfl, Nat.le_of_ble_eq_true rfl⟩ ⟨Nat.le_of_ble_eq_true rfl, Nat.le_of_ble_eq_true rfl⟩ (fun v428 u426 H locs hw427 hP hS => ?_)
                                    obtain ⟨x429, rfl, hr430, hr431⟩ := hw427
                                    refine W.widen (k := 0) (n := 0) (Nat.le_of_ble_eq_true rfl) (Nat.le_of_ble_eq_true rfl) ?_
                                    refine W.eq (g2 := F0 m 318 ls [.int x429]) rfl ?_
                                    refine lv_if_eq (tgt := 327) hx hb dX12_cut_318 (by decide) (fun c432 => ?_) (fun c432 => ?_)
                                    · refine lv_iload_n hx hb dX12_cut_327 rfl (lv_at hl 1 rfl) ?_
                                      refine lv_iload_n hx hb dX12_cut_328 rfl (lv_at hl 4 rfl) ?_
                                      refine lv_isub hx hb dX12_cut_329 ?_
                                      refine lv_topi (fun x433 e434 => ?_)
                                      obtain rfl : x433 = nI (tt - i1) := e434.trans (nI_subN (a := i1) (b := tt) (by omega))
                                      refine lv_bipush (v := 10) hx hb dX12_cut_330 (by decide) ?_
                                      refine lv_icmp_le (tgt := 339) hx hb dX12_cut_332 (by decide) (fun c435 => ?_) (fun c435 => ?_)
                                      · have n436 : (tt - i1) ≤ 10 := (nI_leI (a := (tt - i1)) (b := 10) (by omega) (by omega)).mp c435
                                        refine lv_iconst (v := 2) hx hb dX12_cut_339 (by decide) ?_
                                        refine lv_istore (lv' := [(4, .int 2), (6, .long 0), (3, .int (nI tt)), (5, .int 0), (1, .int (nI i1)), (2, .int 1), (0, .ref h0)]) hx hb dX12_cut_340 hl (by decide) rfl (fun ls hl => ?_)
                                        refine lv_iload_n hx hb dX12_cut_342 rfl (lv_at hl 4 rfl) ?_
                                        refine lv_istore (lv' := [(8, .int (nI i1)), (4, .int 2), (6, .long 0), (3, .int (nI tt)), (5, .int 0), (1, .int (nI i1)), (2, .int 1), (0, .ref h0)]) hx hb dX12_cut_343 hl (by decide) rfl (fun ls hl => ?_)
                                        have loop_v : ∀ (n_v : Nat) (k8 : Nat) (vl : Int64) (kd : Int32) (H : Heap) (locs : List Loc) (ls : Array Slot), k8 ≤ tt → tt + 1 ≤ k8 + n_v → (i1 ≤ k8) → (kd = 2 ∨ kd = 3) → va_P G.1 pCl (mW G h0 a (upd (upd (upd (upd F 4 (nI sz)) 9 (nI T)) 13 (nI us)) 14 (nI nm)) (updA (updA (updA (updA (updA (updA (updA B 2 g5) 3 g6) 4 g7) 5 g8) 6 g10) 7 g11) 8 g12)) H → va_D A (mW G h0 a (upd (upd (upd (upd F 4 (nI sz)) 9 (nI T)) 13 (nI us)) 14 (nI nm)) (updA (updA (updA (updA (updA (updA (updA B 2 g5) 3 g6) 4 g7) 5 g8) 6 g10) 7 g11) 8 g12)) → va_S A s.heap H locs → lv_has ls 9 [(8, .int (nI k8)), (4, .int kd), (6, .long vl), (3, .int (nI tt)), (5, .int 0), (1, .int (nI i1)), (2, .int 1), (0, .ref h0)] → W p l e (headSpec (Cond.code yX12_cut cX12_cut 9 none :: pw) ({ frames := 7, cells := 0, slots := 0, locals := 174 } : Room)).room s m ([.ref h0] : List Value).toArray below meth c H locs 0 0 (MQ below (pQ G A (fun (v : Option Value) (u : Nat × Nat × Nat × (Nat → Int32) × (Nat → Int32) × (Nat → Int32) × (Nat → Int32) × (Nat → Int32) × (Nat → Int32) × (Nat → Int32)) => v = none ∧ (u.1 ≤ sz) ∧ (u.2.2.2.2.2.2.1 u.1 = 0 ∨ u.2.2.2.2.2.2.1 u.1 = 3) ∧ (rNm u.2.1 u.2.2.1 u.2.2.2.1 u.2.2.2.2.1) ∧ (u.2.1 ≤ 9 + sz) ∧ (u.2.2.1 ≤ 40 + sz) ∧ (rTk u.1 u.2.1 u.2.2.2.2.2.2.1 u.2.2.2.2.2.2.2.2.2) ∧ (9 ≤ u.2.1)) (fun u => (mW G h0 a (upd (upd (upd (upd F 4 (nI sz)) 9 (nI u.1)) 13 (nI u.2.2.1)) 14 (nI u.2.1)) (updA (updA (updA (updA (updA (updA (updA B 2 u.2.2.2.2.2.2.1) 3 u.2.2.2.2.2.2.2.1) 4 u.2.2.2.2.2.2.2.2.1) 5 u.2.2.2.2.2.2.2.2.2) 6 u.2.2.2.1) 7 u.2.2.2.2.1) 8 u.2.2.2.2.2.1)))) ([.ref h0] : List Value).toArray s ({ frames := 7, cells := 0, slots := 0, locals := 174 } : Room).cells ({ frames := 7, cells := 0, slots := 0, locals := 174 } : Room).slots A) (F0 m 345 ls []) := by
                                          intro n_v
                                          induction n_v with
                                          | zero => intro k8 vl kd H locs ls hk_v hn_v; omega
                                          | succ n_v ih_v =>
                                            intro k8 vl kd H locs ls hk_v hn_v hk0 hkd hP hD hS hl
                                            refine lv_iload hx hb dX12_cut_345 (lv_at hl 1 rfl) ?_
                                            refine lv_iconst (v := 2) hx hb dX12_cut_347 (by decide) ?_
                                            refine lv_icmp_ne (tgt := 402) hx hb dX12_cut_348 (by decide) (fun c437 => ?_) (fun c437 => ?_)
                                            · refine lv_iload hx hb dX12_cut_402 (lv_at hl 1 rfl) ?_
                                              refine lv_iconst (v := 2) hx hb dX12_cut_404 (by decide) ?_
                                              refine lv_icmp_ne (tgt := 421) hx hb dX12_cut_405 (by decide) (fun c438 => ?_) (fun c438 => ?_)
                                              · refine lv_iload hx hb dX12_cut_421 (lv_at hl 1 rfl) ?_
                                                refine lv_istore (lv' := [(4, .int kd), (8, .int (nI k8)), (6, .long vl), (3, .int (nI tt)), (5, .int 0), (1, .int (nI i1)), (2, .int 1), (0, .ref h0)]) hx hb dX12_cut_423 hl (by decide) rfl (fun ls hl => ?_)
                                                refine lv_lload hx hb dX12_cut_425 (lv_at hl 2 rfl) ?_
                                                refine lv_l2i hx hb dX12_cut_427 rfl ?_
                                                refine lv_topi (fun x439 e440 => ?_)
                                                refine lv_istore (lv' := [(5, .int x439), (4, .int kd), (8, .int (nI k8)), (6, .long vl), (3, .int (nI tt)), (1, .int (nI i1)), (2, .int 1), (0, .ref h0)]) hx hb dX12_cut_428 hl (by decide) rfl (fun ls hl => ?_)
                                                refine lv_goto (tgt := 472) hx hb dX12_cut_430 (by decide) ?_
                                                have hP : va_P G.1 pCl (mW G h0 a (upd (upd (upd (upd F 4 (nI sz)) 9 (nI T)) 13 (nI us)) 14 (nI nm)) (updA (updA (updA (updA (updA (updA (updA B 2 g5) 3 g6) 4 g7) 5 g8) 6 g10) 7 g11) 8 g12)) H := hP
                                                have hD : va_D A (mW G h0 a (upd (upd (upd (upd F 4 (nI sz)) 9 (nI T)) 13 (nI us)) 14 (nI nm)) (updA (updA (updA (updA (updA (updA (updA B 2 g5) 3 g6) 4 g7) 5 g8) 6 g10) 7 g11) 8 g12)) := hD
                                                exact cut_j kd x439 tt nm us g10 g11 g12 _ _ _ (by omega) (by omega) (Or.inr (by omega)) (by omega) (by omega) (by omega) hR (fun e9 => by rcases hkd with h8 | h8 <;> rw [h8] at e9 <;> exact absurd e9 (by decide)) hP hD hS (lv_sub hl [5, 6, 4, 1, 0, 7] rfl)
                                              · refine lv_lload hx hb dX12_cut_408 (lv_at hl 2 rfl) ?_
                                                refine lv_ldc2 (v := 2147483647) hx hb hown (hq _ pw_1571) dX12_cut_410 ?_
                                                refine W.lcmp hx hb dX12_cut_413 ?_
                                                refine lv_topi (fun x441 e442 => ?_)
                                                refine lv_if_le (tgt := 421) hx hb dX12_cut_414 (by decide) (fun c443 => ?_) (fun c443 => ?_)
                                                · refine lv_iload hx hb dX12_cut_421 (lv_at hl 1 rfl) ?_
                                                  refine lv_istore (lv' := [(4, .int kd), (8, .int (nI k8)), (6, .long vl), (3, .int (nI tt)), (5, .int 0), (1, .int (nI i1)), (2, .int 1), (0, .ref h0)]) hx hb dX12_cut_423 hl (by decide) rfl (fun ls hl => ?_)
                                                  refine lv_lload hx hb dX12_cut_425 (lv_at hl 2 rfl) ?_
                                                  refine lv_l2i hx hb dX12_cut_427 rfl ?_
                                                  refine lv_topi (fun x444 e445 => ?_)
                                                  refine lv_istore (lv' := [(5, .int x444), (4, .int kd), (8, .int (nI k8)), (6, .long vl), (3, .int (nI tt)), (1, .int (nI i1)), (2, .int 1), (0, .ref h0)]) hx hb dX12_cut_428 hl (by decide) rfl (fun ls hl => ?_)
                                                  refine lv_goto (tgt := 472) hx hb dX12_cut_430 (by decide) ?_
                                                  have hP : va_P G.1 pCl (mW G h0 a (upd (upd (upd (upd F 4 (nI sz)) 9 (nI T)) 13 (nI us)) 14 (nI nm)) (updA (updA (updA (updA (updA (updA (updA B 2 g5) 3 g6) 4 g7) 5 g8) 6 g10) 7 g11) 8 g12)) H := hP
                                                  have hD : va_D A (mW G h0 a (upd (upd (upd (upd F 4 (nI sz)) 9 (nI T)) 13 (nI us)) 14 (nI nm)) (updA (updA (updA (updA (updA (updA (updA B 2 g5) 3 g6) 4 g7) 5 g8) 6 g10) 7 g11) 8 g12)) := hD
                                                  exact cut_j kd x444 tt nm us g10 g11 g12 _ _ _ (by omega) (by omega) (Or.inr (by omega)) (by omega) (by omega) (by omega) hR (fun e9 => by rcases hkd with h8 | h8 <;> rw [h8] at e9 <;> exact absurd e9 (by decide)) hP hD hS (lv_sub hl [5, 6, 4, 1, 0, 7] rfl)
                                                · refine lv_iconst (v := 3) hx hb dX12_cut_417 (by decide) ?_
                                                  refine lv_goto (tgt := 423) hx hb dX12_cut_418 (by decide) ?_
                                                  refine lv_istore (lv' := [(4, .int 3), (8, .int (nI k8)), (6, .long vl), (3, .int (nI tt)), (5, .int 0), (1, .int (nI i1)), (2, .int 1), (0, .ref h0)]) hx hb dX12_cut_423 hl (by decide) rfl (fun ls hl => ?_)
                                                  refine lv_lload hx hb dX12_cut_425 (lv_at hl 2 rfl) ?_
                                                  refine lv_l2i hx hb dX12_cut_427 rfl ?_
                                                  refine lv_topi (fun x446 e447 => ?_)
                                                  refine lv_istore (lv' := [(5, .int x446), (4, .int 3), (8, .int (nI k8)), (6, .long vl), (3, .int (nI tt)), (1, .int (nI i1)), (2, .int 1), (0, .ref h0)]) hx hb dX12_cut_428 hl (by decide) rfl (fun ls hl => ?_)
                                                  refine lv_goto (tgt := 472) hx hb dX12_cut_430 (by decide) ?_
                                                  have hP : va_P G.1 pCl (mW G h0 a (upd (upd (upd (upd F 4 (nI sz)) 9 (nI T)) 13 (nI us)) 14 (nI nm)) (updA (updA (updA (updA (updA (updA (updA B 2 g5) 3 g6) 4 g7) 5 g8) 6 g10) 7 g11) 8 g12)) H := hP
                                                  have hD : va_D A (mW G h0 a (upd (upd (upd (upd F 4 (nI sz)) 9 (nI T)) 13 (nI us)) 14 (nI nm)) (updA (updA (updA (updA (updA (updA (updA B 2 g5) 3 g6) 4 g7) 5 g8) 6 g10) 7 g11) 8 g12)) := hD
                                                  exact cut_j 3 x446 tt nm us g10 g11 g12 _ _ _ (by omega) (by omega) (Or.inr (by omega)) (by omega) (by omega) (by omega) hR (fun e9 => absurd e9 (by decide)) hP hD hS (lv_sub hl [5, 6, 4, 1, 0, 7] rfl)
                                            · refine lv_iload hx hb dX12_cut_351 (lv_at hl 0 rfl) ?_
                                              refine lv_iload_n hx hb dX12_cut_353 rfl (lv_at hl 3 rfl) ?_
                                              refine lv_icmp_ge (tgt := 402) hx hb dX12_cut_354 (by decide) (fun c448 => ?_) (fun c448 => ?_)
                                              · have n449 : tt ≤ k8 := (nI_leI (a := tt) (b := k8) (by omega) (by omega)).mp c448
                                                refine lv_iload hx hb dX12_cut_402 (lv_at hl 1 rfl) ?_
                                                refine lv_iconst (v := 2) hx hb dX12_cut_404 (by decide) ?_
                                                refine lv_icmp_ne (tgt := 421) hx hb dX12_cut_405 (by decide) (fun c450 => ?_) (fun c450 => ?_)
                                                · refine lv_iload hx hb dX12_cut_421 (lv_at hl 1 rfl) ?_
                                                  refine lv_istore (lv' := [(4, .int kd), (8, .int (nI k8)), (6, .long vl), (3, .int (nI tt)), (5, .int 0), (1, .int (nI i1)), (2, .int 1), (0, .ref h0)]) hx hb dX12_cut_423 hl (by decide) rfl (fun ls hl => ?_)
                                                  refine lv_lload hx hb dX12_cut_425 (lv_at hl 2 rfl) ?_
                                                  refine lv_l2i hx hb dX12_cut_427 rfl ?_
                                                  refine lv_topi (fun x451 e452 => ?_)
                                                  refine lv_istore (lv' := [(5, .int x451), (4, .int kd), (8, .int (nI k8)), (6, .long vl), (3, .int (nI tt)), (1, .int (nI i1)), (2, .int 1), (0, .ref h0)]) hx hb dX12_cut_428 hl (by decide) rfl (fun ls hl => ?_)
                                                  refine lv_goto (tgt := 472) hx hb dX12_cut_430 (by decide) ?_
                                                  have hP : va_P G.1 pCl (mW G h0 a (upd (upd (upd (upd F 4 (nI sz)) 9 (nI T)) 13 (nI us)) 14 (nI nm)) (updA (updA (updA (updA (updA (updA (updA B 2 g5) 3 g6) 4 g7) 5 g8) 6 g10) 7 g11) 8 g12)) H := hP
                                                  have hD : va_D A (mW G h0 a (upd (upd (upd (upd F 4 (nI sz)) 9 (nI T)) 13 (nI us)) 14 (nI nm)) (updA (updA (updA (updA (updA (updA (updA B 2 g5) 3 g6) 4 g7) 5 g8) 6 g10) 7 g11) 8 g12)) := hD
                                                  exact cut_j kd x451 tt nm us g10 g11 g12 _ _ _ (by omega) (by omega) (Or.inr (by omega)) (by omega) (by omega) (by omega) hR (fun e9 => by rcases hkd with h8 | h8 <;> rw [h8] at e9 <;> exact absurd e9 (by decide)) hP hD hS (lv_sub hl [5, 6, 4, 1, 0, 7] rfl)
                                                · refine lv_lload hx hb dX12_cut_408 (lv_at hl 2 rfl) ?_
                                                  refine lv_ldc2 (v := 2147483647) hx hb hown (hq _ pw_1571) dX12_cut_410 ?_
                                                  refine W.lcmp hx hb dX12_cut_413 ?_
                                                  refine lv_topi (fun x453 e454 => ?_)
                                                  refine lv_if_le (tgt := 421) hx hb dX12_cut_414 (by decide) (fun c455 => ?_) (fun c455 => ?_)
                                                  · refine lv_iload hx hb dX12_cut_421 (lv_at hl 1 rfl) ?_
                                                    refine lv_istore (lv' := [(4, .int kd), (8, .int (nI k8)), (6, .long vl), (3, .int (nI tt)), (5, .int 0), (1, .int (nI i1)), (2, .int 1), (0, .ref h0)]) hx hb dX12_cut_423 hl (by decide) rfl (fun ls hl => ?_)
                                                    refine lv_lload hx hb dX12_cut_425 (lv_at hl 2 rfl) ?_
                                                    refine lv_l2i hx hb dX12_cut_427 rfl ?_
                                                    refine lv_topi (fun x456 e457 => ?_)
                                                    refine lv_istore (lv' := [(5, .int x456), (4, .int kd), (8, .int (nI k8)), (6, .long vl), (3, .int (nI tt)), (1, .int (nI i1)), (2, .int 1), (0, .ref h0)]) hx hb dX12_cut_428 hl (by decide) rfl (fun ls hl => ?_)
                                                    refine lv_goto (tgt := 472) hx hb dX12_cut_430 (by decide) ?_
                                                    have hP : va_P G.1 pCl (mW G h0 a (upd (upd (upd (upd F 4 (nI sz)) 9 (nI T)) 13 (nI us)) 14 (nI nm)) (updA (updA (updA (updA (updA (updA (updA B 2 g5) 3 g6) 4 g7) 5 g8) 6 g10) 7 g11) 8 g12)) H := hP
                                                    have hD : va_D A (mW G h0 a (upd (upd (upd (upd F 4 (nI sz)) 9 (nI T)) 13 (nI us)) 14 (nI nm)) (updA (updA (updA (updA (updA (updA (updA B 2 g5) 3 g6) 4 g7) 5 g8) 6 g10) 7 g11) 8 g12)) := hD
                                                    exact cut_j kd x456 tt nm us g10 g11 g12 _ _ _ (by omega) (by omega) (Or.inr (by omega)) (by omega) (by omega) (by omega) hR (fun e9 => by rcases hkd with h8 | h8 <;> rw [h8] at e9 <;> exact absurd e9 (by decide)) hP hD hS (lv_sub hl [5, 6, 4, 1, 0, 7] rfl)
                                                  · refine lv_iconst (v := 3) hx hb dX12_cut_417 (by decide) ?_
                                                    refine lv_goto (tgt := 423) hx hb dX12_cut_418 (by decide) ?_
                                                    refine lv_istore (lv' := [(4, .int 3), (8, .int (nI k8)), (6, .long vl), (3, .int (nI tt)), (5, .int 0), (1, .int (nI i1)), (2, .int 1), (0, .ref h0)]) hx hb dX12_cut_423 hl (by decide) rfl (fun ls hl => ?_)
                                                    refine lv_lload hx hb dX12_cut_425 (lv_at hl 2 rfl) ?_
                                                    refine lv_l2i hx hb dX12_cut_427 rfl ?_
                                                    refine lv_topi (fun x458 e459 => ?_)
                                                    refine lv_istore (lv' := [(5, .int x458), (4, .int 3), (8, .int (nI k8)), (6, .long vl), (3, .int (nI tt)), (1, .int (nI i1)), (2, .int 1), (0, .ref h0)]) hx hb dX12_cut_428 hl (by decide) rfl (fun ls hl => ?_)
                                                    refine lv_goto (tgt := 472) hx hb dX12_cut_430 (by decide) ?_
                                                    have hP : va_P G.1 pCl (mW G h0 a (upd (upd (upd (upd F 4 (nI sz)) 9 (nI T)) 13 (nI us)) 14 (nI nm)) (updA (updA (updA (updA (updA (updA (updA B 2 g5) 3 g6) 4 g7) 5 g8) 6 g10) 7 g11) 8 g12)) H := hP
                                                    have hD : va_D A (mW G h0 a (upd (upd (upd (upd F 4 (nI sz)) 9 (nI T)) 13 (nI us)) 14 (nI nm)) (updA (updA (updA (updA (updA (updA (updA B 2 g5) 3 g6) 4 g7) 5 g8) 6 g10) 7 g11) 8 g12)) := hD
                                                    exact cut_j 3 x458 tt nm us g10 g11 g12 _ _ _ (by omega) (by omega) (Or.inr (by omega)) (by omega) (by omega) (by omega) hR (fun e9 => absurd e9 (by decide)) hP hD hS (lv_sub hl [5, 6, 4, 1, 0, 7] rfl)
                                              · have n460 : ¬ (tt ≤ k8) := fun h9 => c448 ((nI_leI (a := tt) (b := k8) (by omega) (by omega)).mpr h9)
                                                refine lv_aload_n hx hb dX12_cut_357 rfl (lv_at hl 7 rfl) ?_
                                                refine lv_iload hx hb dX12_cut_358 (lv_at hl 0 rfl) ?_
                                                have hP : va_P G.1 pCl (mW G h0 a (upd (upd (upd (upd (upd F 4 (nI sz)) 9 (nI T)) 13 (nI us)) 14 (nI nm)) 4 (nI sz)) (updA (updA (updA (updA (updA (updA (updA B 2 g5) 3 g6) 4 g7) 5 g8) 6 g10) 7 g11) 8 g12)) H := hP
                                                have hD : va_D A (mW G h0 a (upd (upd (upd (upd (upd F 4 (nI sz)) 9 (nI T)) 13 (nI us)) 14 (nI nm)) 4 (nI sz)) (updA (updA (updA (updA (updA (updA (updA B 2 g5) 3 g6) 4 g7) 5 g8) 6 g10) 7 g11) 8 g12)) := hD
                                                refine pc_V0 (G := G) (As := [.int (nI k8)]) (rest := []) hx hb hml hown hq hE hX pX0_al hP hD hS hA hl.1 (R_ch l G h0 a (upd (upd (upd (upd F 4 (nI sz)) 9 (nI T)) 13 (nI us)) 14 (nI nm)) (updA (updA (updA (updA (updA (updA (updA B 2 g5) 3 g6) 4 g7) 5 g8) 6 g10) 7 g11) 8 g12) k8 sz (by omega) (by omega)) (gV pw_1561 pw_1562 pw_1563 pw_1523 pw_1518) hV_X12_ch 0 9 rfl rfl rfl rfl (Nat.le_of_ble_eq_true rfl) dX12_cut_360 ⟨Nat.le_of_ble_eq_true rfl, Nat.le_of_ble_eq_true rfl⟩ ⟨Nat.le_of_ble_eq_true rfl, Nat.le_of_ble_eq_true rfl⟩ (fun v463 u461 H locs hw462 hP hD hS => ?_)
                                                obtain ⟨r464, rfl⟩ : ∃ z, z = u461 := ⟨_, rfl⟩
                                                obtain ⟨hw462, h465⟩ := hw462
                                                have h465 : r464 = (-1) ∨ k8 < sz ∧ r464 = (updA (updA (updA (updA (updA (updA (updA B 2 g5) 3 g6) 4 g7) 5 g8) 6 g10) 7 g11) 8 g12) 1 k8 := h465
                                                obtain rfl : v463 = some (.int r464) := hw462
                                                have hP : va_P G.1 pCl (mW G h0 a (upd (upd (upd (upd F 4 (nI sz)) 9 (nI T)) 13 (nI us)) 14 (nI nm)) (updA (updA (updA (updA (updA (updA (updA B 2 g5) 3 g6) 4 g7) 5 g8) 6 g10) 7 g11) 8 g12)) H := hP
                                                have hD : va_D A (mW G h0 a (upd (upd (upd (upd F 4 (nI sz)) 9 (nI T)) 13 (nI us)) 14 (nI nm)) (updA (updA (updA (updA (updA (updA (updA B 2 g5) 3 g6) 4 g7) 5 g8) 6 g10) 7 g11) 8 g12)) := hD
                                                refine W.widen (k := 0) (n := 0) (Nat.le_of_ble_eq_true rfl) (Nat.le_of_ble_eq_true rfl) ?_
                                                refine W.eq (g2 := F0 m 363 ls [.int r464]) rfl ?_
                                                refine pc_SN (G := G) (As := [.int r464]) (rest := []) hx hb hml hown hq hE hX pX0_al hP hS hA hl.1 (s_isDigit l G r464) (gS pw_1577 pw_1578 pw_1523 pw_1524) hS_X12_isDigit rfl (Nat.le_of_ble_eq_true rfl) dX12_cut_363 ⟨Nat.le_of_ble_eq_true rfl, Nat.le_of_ble_eq_true rfl⟩ ⟨Nat.le_of_ble_eq_true rfl, Nat.le_of_ble_eq_true rfl⟩ (fun v468 u466 H locs hw467 hP hS => ?_)
                                                obtain ⟨x469, rfl, hr470, hr471⟩ := hw467
                                                refine W.widen (k := 0) (n := 0) (Nat.le_of_ble_eq_true rfl) (Nat.le_of_ble_eq_true rfl) ?_
                                                refine W.eq (g2 := F0 m 366 ls [.int x469]) rfl ?_
                                                refine lv_if_eq (tgt := 373) hx hb dX12_cut_366 (by decide) (fun c472 => ?_) (fun c472 => ?_)
                                                · refine lv_iconst (v := 3) hx hb dX12_cut_373 (by decide) ?_
                                                  refine lv_istore (lv' := [(4, .int 3), (8, .int (nI k8)), (6, .long vl), (3, .int (nI tt)), (5, .int 0), (1, .int (nI i1)), (2, .int 1), (0, .ref h0)]) hx hb dX12_cut_374 hl (by decide) rfl (fun ls hl => ?_)
                                                  refine lv_ldc2 (v := 10) hx hb hown (hq _ pw_1569) dX12_cut_376 ?_
                                                  refine lv_lload hx hb dX12_cut_379 (lv_at hl 2 rfl) ?_
                                                  refine lv_lmul hx hb dX12_cut_381 ?_
                                                  refine lv_topl (fun x473 e474 => ?_)
                                                  refine lv_aload_n hx hb dX12_cut_382 rfl (lv_at hl 7 rfl) ?_
                                                  refine lv_iload hx hb dX12_cut_383 (lv_at hl 1 rfl) ?_
                                                  have hP : va_P G.1 pCl (mW G h0 a (upd (upd (upd (upd (upd F 4 (nI sz)) 9 (nI T)) 13 (nI us)) 14 (nI nm)) 4 (nI sz)) (updA (updA (updA (updA (updA (updA (updA B 2 g5) 3 g6) 4 g7) 5 g8) 6 g10) 7 g11) 8 g12)) H := hP
                                                  have hD : va_D A (mW G h0 a (upd (upd (upd (upd (upd F 4 (nI sz)) 9 (nI T)) 13 (nI us)) 14 (nI nm)) 4 (nI sz)) (updA (updA (updA (updA (updA (updA (updA B 2 g5) 3 g6) 4 g7) 5 g8) 6 g10) 7 g11) 8 g12)) := hD
                                                  refine pc_V0 (G := G) (As := [.int (nI k8)]) (rest := [.long x473]) hx hb hml hown hq hE hX pX0_al hP hD hS hA hl.1 (R_ch l G h0 a (upd (upd (upd (upd F 4 (nI sz)) 9 (nI T)) 13 (nI us)) 14 (nI nm)) (updA (updA (updA (updA (updA (updA (updA B 2 g5) 3 g6) 4 g7) 5 g8) 6 g10) 7 g11) 8 g12) k8 sz (by omega) (by omega)) (gV pw_1561 pw_1562 pw_1563 pw_1523 pw_1518) hV_X12_ch 0 9 rfl rfl rfl rfl (Nat.le_of_ble_eq_true rfl) dX12_cut_385 ⟨Nat.le_of_ble_eq_true rfl, Nat.le_of_ble_eq_true rfl⟩ ⟨Nat.le_of_ble_eq_true rfl, Nat.le_of_ble_eq_true rfl⟩ (fun v477 u475 H locs hw476 hP hD hS => ?_)
                                                  obtain ⟨r478, rfl⟩ : ∃ z, z = u475 := ⟨_, rfl⟩
                                                  obtain ⟨hw476, h479⟩ := hw476
                                                  have h479 : r478 = (-1) ∨ k8 < sz ∧ r478 = (updA (updA (updA (updA (updA (updA (updA B 2 g5) 3 g6) 4 g7) 5 g8) 6 g10) 7 g11) 8 g12) 1 k8 := h479
                                                  obtain rfl : v477 = some (.int r478) := hw476
                                                  have hP : va_P G.1 pCl (mW G h0 a (upd (upd (upd (upd F 4 (nI sz)) 9 (nI T)) 13 (nI us)) 14 (nI nm)) (updA (updA (updA (updA (updA (updA (updA B 2 g5) 3 g6) 4 g7) 5 g8) 6 g10) 7 g11) 8 g12)) H := hP
                                                  have hD : va_D A (mW G h0 a (upd (upd (upd (upd F 4 (nI sz)) 9 (nI T)) 13 (nI us)) 14 (nI nm)) (updA (updA (updA (updA (updA (updA (updA B 2 g5) 3 g6) 4 g7) 5 g8) 6 g10) 7 g11) 8 g12)) := hD
                                                  refine W.widen (k := 0) (n := 0) (Nat.le_of_ble_eq_true rfl) (Nat.le_of_ble_eq_true rfl) ?_
                                                  refine W.eq (g2 := F0 m 388 ls [.int r478, .long x473]) rfl ?_
                                                  refine lv_i2l hx hb dX12_cut_388 rfl ?_
                                                  refine lv_topl (fun x480 e481 => ?_)
                                                  refine lv_ladd hx hb dX12_cut_389 ?_
                                                  refine lv_topl (fun x482 e483 => ?_)
                                                  refine lv_ldc2 (v := 48) hx hb hown (hq _ pw_1570) dX12_cut_390 ?_
                                                  refine lv_lsub hx hb dX12_cut_393 ?_
                                                  refine lv_topl (fun x484 e485 => ?_)
                                                  refine lv_lstore (lv' := [(6, .long x484), (4, .int 3), (8, .int (nI k8)), (3, .int (nI tt)), (5, .int 0), (1, .int (nI i1)), (2, .int 1), (0, .ref h0)]) hx hb dX12_cut_394 hl (by decide) rfl (fun ls hl => ?_)
                                                  refine lv_iinc (v := (nI (k8 + 1))) (lv' := [(8, .int (nI (k8 + 1))), (6, .long x484), (4, .int 3), (3, .int (nI tt)), (5, .int 0), (1, .int (nI i1)), (2, .int 1), (0, .ref h0)]) hx hb dX12_cut_396 hl (k := 2) rfl (nI_1 k8) (by decide) rfl (fun ls hl => ?_)
                                                  refine lv_goto (tgt := 345) hx hb dX12_cut_399 (by decide) ?_
                                                  have hP : va_P G.1 pCl (mW G h0 a (upd (upd (upd (upd F 4 (nI sz)) 9 (nI T)) 13 (nI us)) 14 (nI nm)) (updA (updA (updA (updA (updA (updA (updA B 2 g5) 3 g6) 4 g7) 5 g8) 6 g10) 7 g11) 8 g12)) H := hP
                                                  have hD : va_D A (mW G h0 a (upd (upd (upd (upd F 4 (nI sz)) 9 (nI T)) 13 (nI us)) 14 (nI nm)) (updA (updA (updA (updA (updA (updA (updA B 2 g5) 3 g6) 4 g7) 5 g8) 6 g10) 7 g11) 8 g12)) := hD
                                                  exact ih_v (k8 + 1) x484 3 _ _ _ (by omega) (by omega) (by omega) (by decide) hP hD hS (lv_sub hl [0, 2, 1, 3, 4, 5, 6, 7] rfl)
                                                · refine lv_iconst (v := 2) hx hb dX12_cut_369 (by decide) ?_
                                                  refine lv_goto (tgt := 374) hx hb dX12_cut_370 (by decide) ?_
                                                  refine lv_istore (lv' := [(4, .int 2), (8, .int (nI k8)), (6, .long vl), (3, .int (nI tt)), (5, .int 0), (1, .int (nI i1)), (2, .int 1), (0, .ref h0)]) hx hb dX12_cut_374 hl (by decide) rfl (fun ls hl => ?_)
                                                  refine lv_ldc2 (v := 10) hx hb hown (hq _ pw_1569) dX12_cut_376 ?_
                                                  refine lv_lload hx hb dX12_cut_379 (lv_at hl 2 rfl) ?_
                                                  refine lv_lmul hx hb dX12_cut_381 ?_
                                                  refine lv_topl (fun x486 e487 => ?_)
                                                  refine lv_aload_n hx hb dX12_cut_382 rfl (lv_at hl 7 rfl) ?_
                                                  refine lv_iload hx hb dX12_cut_383 (lv_at hl 1 rfl) ?_
                                                  have hP : va_P G.1 pCl (mW G h0 a (upd (upd (upd (upd (upd F 4 (nI sz)) 9 (nI T)) 13 (nI us)) 14 (nI nm)) 4 (nI sz)) (updA (updA (updA (updA (updA (updA (updA B 2 g5) 3 g6) 4 g7) 5 g8) 6 g10) 7 g11) 8 g12)) H := hP
                                                  have hD : va_D A (mW G h0 a (upd (upd (upd (upd (upd F 4 (nI sz)) 9 (nI T)) 13 (nI us)) 14 (nI nm)) 4 (nI sz)) (updA (updA (updA (updA (updA (updA (updA B 2 g5) 3 g6) 4 g7) 5 g8) 6 g10) 7 g11) 8 g12)) := hD
                                                  refine pc_V0 (G := G) (As := [.int (nI k8)]) (rest := [.long x486]) hx hb hml hown hq hE hX pX0_al hP hD hS hA hl.1 (R_ch l G h0 a (upd (upd (upd (upd F 4 (nI sz)) 9 (nI T)) 13 (nI us)) 14 (nI nm)) (updA (updA (updA (updA (updA (updA (updA B 2 g5) 3 g6) 4 g7) 5 g8) 6 g10) 7 g11) 8 g12) k8 sz (by omega) (by omega)) (gV pw_1561 pw_1562 pw_1563 pw_1523 pw_1518) hV_X12_ch 0 9 rfl rfl rfl rfl (Nat.le_of_ble_eq_true rfl) dX12_cut_385 ⟨Nat.le_of_ble_eq_true rfl, Nat.le_of_ble_eq_true rfl⟩ ⟨Nat.le_of_ble_eq_true rfl, Nat.le_of_ble_eq_true rfl⟩ (fun v490 u488 H locs hw489 hP hD hS => ?_)
                                                  obtain ⟨r491, rfl⟩ : ∃ z, z = u488 := ⟨_, rfl⟩
                                                  obtain ⟨hw489, h492⟩ := hw489
                                                  have h492 : r491 = (-1) ∨ k8 < sz ∧ r491 = (updA (updA (updA (updA (updA (updA (updA B 2 g5) 3 g6) 4 g7) 5 g8) 6 g10) 7 g11) 8 g12) 1 k8 := h492
                                                  obtain rfl : v490 = some (.int r491) := hw489
                                                  have hP : va_P G.1 pCl (mW G h0 a (upd (upd (upd (upd F 4 (nI sz)) 9 (nI T)) 13 (nI us)) 14 (nI nm)) (updA (updA (updA (updA (updA (updA (updA B 2 g5) 3 g6) 4 g7) 5 g8) 6 g10) 7 g11) 8 g12)) H := hP
                                                  have hD : va_D A (mW G h0 a (upd (upd (upd (upd F 4 (nI sz)) 9 (nI T)) 13 (nI us)) 14 (nI nm)) (updA (updA (updA (updA (updA (updA (updA B 2 g5) 3 g6) 4 g7) 5 g8) 6 g10) 7 g11) 8 g12)) := hD
                                                  refine W.widen (k := 0) (n := 0) (Nat.le_of_ble_eq_true rfl) (Nat.le_of_ble_eq_true rfl) ?_
                                                  refine W.eq (g2 := F0 m 388 ls [.int r491, .long x486]) rfl ?_
                                                  refine lv_i2l hx hb dX12_cut_388 rfl ?_
                                                  refine lv_topl (fun x493 e494 => ?_)
                                                  refine lv_ladd hx hb dX12_cut_389 ?_
                                                  refine lv_topl (fun x495 e496 => ?_)
                                                  refine lv_ldc2 (v := 48) hx hb hown (hq _ pw_1570) dX12_cut_390 ?_
                                                  refine lv_lsub hx hb dX12_cut_393 ?_
                                                  refine lv_topl (fun x497 e498 => ?_)
                                                  refine lv_lstore (lv' := [(6, .long x497), (4, .int 2), (8, .int (nI k8)), (3, .int (nI tt)), (5, .int 0), (1, .int (nI i1)), (2, .int 1), (0, .ref h0)]) hx hb dX12_cut_394 hl (by decide) rfl (fun ls hl => ?_)
                                                  refine lv_iinc (v := (nI (k8 + 1))) (lv' := [(8, .int (nI (k8 + 1))), (6, .long x497), (4, .int 2), (3, .int (nI tt)), (5, .int 0), (1, .int (nI i1)), (2, .int 1), (0, .ref h0)]) hx hb dX12_cut_396 hl (k := 2) rfl (nI_1 k8) (by decide) rfl (fun ls hl => ?_)
                                                  refine lv_goto (tgt := 345) hx hb dX12_cut_399 (by decide) ?_
                                                  have hP : va_P G.1 pCl (mW G h0 a (upd (upd (upd (upd F 4 (nI sz)) 9 (nI T)) 13 (nI us)) 14 (nI nm)) (updA (updA (updA (updA (updA (updA (updA B 2 g5) 3 g6) 4 g7) 5 g8) 6 g10) 7 g11) 8 g12)) H := hP
                                                  have hD : va_D A (mW G h0 a (upd (upd (upd (upd F 4 (nI sz)) 9 (nI T)) 13 (nI us)) 14 (nI nm)) (updA (updA (updA (updA (updA (updA (updA B 2 g5) 3 g6) 4 g7) 5 g8) 6 g10) 7 g11) 8 g12)) := hD
                                                  exact ih_v (k8 + 1) x497 2 _ _ _ (by omega) (by omega) (by omega) (by decide) hP hD hS (lv_sub hl [0, 2, 1, 3, 4, 5, 6, 7] rfl)
                                        have hP : va_P G.1 pCl (mW G h0 a (upd (upd (upd (upd F 4 (nI sz)) 9 (nI T)) 13 (nI us)) 14 (nI nm)) (updA (updA (updA (updA (updA (updA (updA B 2 g5) 3 g6) 4 g7) 5 g8) 6 g10) 7 g11) 8 g12)) H := hP
                                        have hD : va_D A (mW G h0 a (upd (upd (upd (upd F 4 (nI sz)) 9 (nI T)) 13 (nI us)) 14 (nI nm)) (updA (updA (updA (updA (updA (updA (updA B 2 g5) 3 g6) 4 g7) 5 g8) 6 g10) 7 g11) 8 g12)) := hD
                                        exact loop_v (tt + 1) i1 0 2 _ _ _ (by omega) (by omega) (by omega) (by decide) hP hD hS (lv_sub hl [0, 1, 2, 3, 4, 5, 6, 7] rfl)
                                      · have n499 : ¬ ((tt - i1) ≤ 10) := fun h9 => c435 ((nI_leI (a := (tt - i1)) (b := 10) (by omega) (by omega)).mpr h9)
                                        refine lv_iconst (v := 3) hx hb dX12_cut_335 (by decide) ?_
                                        refine lv_goto (tgt := 340) hx hb dX12_cut_336 (by decide) ?_
                                        refine lv_istore (lv' := [(4, .int 3), (6, .long 0), (3, .int (nI tt)), (5, .int 0), (1, .int (nI i1)), (2, .int 1), (0, .ref h0)]) hx hb dX12_cut_340 hl (by decide) rfl (fun ls hl => ?_)
                                        refine lv_iload_n hx hb dX12_cut_342 rfl (lv_at hl 4 rfl) ?_
                                        refine lv_istore (lv' := [(8, .int (nI i1)), (4, .int 3), (6, .long 0), (3, .int (nI tt)), (5, .int 0), (1, .int (nI i1)), (2, .int 1), (0, .ref h0)]) hx hb dX12_cut_343 hl (by decide) rfl (fun ls hl => ?_)
                                        have loop_v : ∀ (n_v : Nat) (k8 : Nat) (vl : Int64) (kd : Int32) (H : Heap) (locs : List Loc) (ls : Array Slot), k8 ≤ tt → tt + 1 ≤ k8 + n_v → (i1 ≤ k8) → (kd = 2 ∨ kd = 3) → va_P G.1 pCl (mW G h0 a (upd (upd (upd (upd F 4 (nI sz)) 9 (nI T)) 13 (nI us)) 14 (nI nm)) (updA (updA (updA (updA (updA (updA (updA B 2 g5) 3 g6) 4 g7) 5 g8) 6 g10) 7 g11) 8 g12)) H → va_D A (mW G h0 a (upd (upd (upd (upd F 4 (nI sz)) 9 (nI T)) 13 (nI us)) 14 (nI nm)) (updA (updA (updA (updA (updA (updA (updA B 2 g5) 3 g6) 4 g7) 5 g8) 6 g10) 7 g11) 8 g12)) → va_S A s.heap H locs → lv_has ls 9 [(8, .int (nI k8)), (4, .int kd), (6, .long vl), (3, .int (nI tt)), (5, .int 0), (1, .int (nI i1)), (2, .int 1), (0, .ref h0)] → W p l e (headSpec (Cond.code yX12_cut cX12_cut 9 none :: pw) ({ frames := 7, cells := 0, slots := 0, locals := 174 } : Room)).room s m ([.ref h0] : List Value).toArray below meth c H locs 0 0 (MQ below (pQ G A (fun (v : Option Value) (u : Nat × Nat × Nat × (Nat → Int32) × (Nat → Int32) × (Nat → Int32) × (Nat → Int32) × (Nat → Int32) × (Nat → Int32) × (Nat → Int32)) => v = none ∧ (u.1 ≤ sz) ∧ (u.2.2.2.2.2.2.1 u.1 = 0 ∨ u.2.2.2.2.2.2.1 u.1 = 3) ∧ (rNm u.2.1 u.2.2.1 u.2.2.2.1 u.2.2.2.2.1) ∧ (u.2.1 ≤ 9 + sz) ∧ (u.2.2.1 ≤ 40 + sz) ∧ (rTk u.1 u.2.1 u.2.2.2.2.2.2.1 u.2.2.2.2.2.2.2.2.2) ∧ (9 ≤ u.2.1)) (fun u => (mW G h0 a (upd (upd (upd (upd F 4 (nI sz)) 9 (nI u.1)) 13 (nI u.2.2.1)) 14 (nI u.2.1)) (updA (updA (updA (updA (updA (updA (updA B 2 u.2.2.2.2.2.2.1) 3 u.2.2.2.2.2.2.2.1) 4 u.2.2.2.2.2.2.2.2.1) 5 u.2.2.2.2.2.2.2.2.2) 6 u.2.2.2.1) 7 u.2.2.2.2.1) 8 u.2.2.2.2.2.1)))) ([.ref h0] : List Value).toArray s ({ frames := 7, cells := 0, slots := 0, locals := 174 } : Room).cells ({ frames := 7, cells := 0, slots := 0, locals := 174 } : Room).slots A) (F0 m 345 ls []) := by
                                          intro n_v
                                          induction n_v with
                                          | zero => intro k8 vl kd H locs ls hk_v hn_v; omega
                                          | succ n_v ih_v =>
                                            intro k8 vl kd H locs ls hk_v hn_v hk0 hkd hP hD hS hl
                                            refine lv_iload hx hb dX12_cut_345 (lv_at hl 1 rfl) ?_
                                            refine lv_iconst (v := 2) hx hb dX12_cut_347 (by decide) ?_
                                            refine lv_icmp_ne (tgt := 402) hx hb dX12_cut_348 (by decide) (fun c500 => ?_) (fun c500 => ?_)
                                            · refine lv_iload hx hb dX12_cut_402 (lv_at hl 1 rfl) ?_
                                              refine lv_iconst (v := 2) hx hb dX12_cut_404 (by decide) ?_
                                              refine lv_icmp_ne (tgt := 421) hx hb dX12_cut_405 (by decide) (fun c501 => ?_) (fun c501 => ?_)
                                              · refine lv_iload hx hb dX12_cut_421 (lv_at hl 1 rfl) ?_
                                                refine lv_istore (lv' := [(4, .int kd), (8, .int (nI k8)), (6, .long vl), (3, .int (nI tt)), (5, .int 0), (1, .int (nI i1)), (2, .int 1), (0, .ref h0)]) hx hb dX12_cut_423 hl (by decide) rfl (fun ls hl => ?_)
                                                refine lv_lload hx hb dX12_cut_425 (lv_at hl 2 rfl) ?_
                                                refine lv_l2i hx hb dX12_cut_427 rfl ?_
                                                refine lv_topi (fun x502 e503 => ?_)
                                                refine lv_istore (lv' := [(5, .int x502), (4, .int kd), (8, .int (nI k8)), (6, .long vl), (3, .int (nI tt)), (1, .int (nI i1)), (2, .int 1), (0, .ref h0)]) hx hb dX12_cut_428 hl (by decide) rfl (fun ls hl => ?_)
                                                refine lv_goto (tgt := 472) hx hb dX12_cut_430 (by decide) ?_
                                                have hP : va_P G.1 pCl (mW G h0 a (upd (upd (upd (upd F 4 (nI sz)) 9 (nI T)) 13 (nI us)) 14 (nI nm)) (updA (updA (updA (updA (updA (updA (updA B 2 g5) 3 g6) 4 g7) 5 g8) 6 g10) 7 g11) 8 g12)) H := hP
                                                have hD : va_D A (mW G h0 a (upd (upd (upd (upd F 4 (nI sz)) 9 (nI T)) 13 (nI us)) 14 (nI nm)) (updA (updA (updA (updA (updA (updA (updA B 2 g5) 3 g6) 4 g7) 5 g8) 6 g10) 7 g11) 8 g12)) := hD
                                                exact cut_j kd x502 tt nm us g10 g11 g12 _ _ _ (by omega) (by omega) (Or.inr (by omega)) (by omega) (by omega) (by omega) hR (fun e9 => by rcases hkd with h8 | h8 <;> rw [h8] at e9 <;> exact absurd e9 (by decide)) hP hD hS (lv_sub hl [5, 6, 4, 1, 0, 7] rfl)
                                              · refine lv_lload hx hb dX12_cut_408 (lv_at hl 2 rfl) ?_
                                                refine lv_ldc2 (v := 2147483647) hx hb hown (hq _ pw_1571) dX12_cut_410 ?_
                                                refine W.lcmp hx hb dX12_cut_413 ?_
                                                refine lv_topi (fun x504 e505 => ?_)
                                                refine lv_if_le (tgt := 421) hx hb dX12_cut_414 (by decide) (fun c506 => ?_) (fun c506 => ?_)
                                                · refine lv_iload hx hb dX12_cut_421 (lv_at hl 1 rfl) ?_
                                                  refine lv_istore (lv' := [(4, .int kd), (8, .int (nI k8)), (6, .long vl), (3, .int (nI tt)), (5, .int 0), (1, .int (nI i1)), (2, .int 1), (0, .ref h0)]) hx hb dX12_cut_423 hl (by decide) rfl (fun ls hl => ?_)
                                                  refine lv_lload hx hb dX12_cut_425 (lv_at hl 2 rfl) ?_
                                                  refine lv_l2i hx hb dX12_cut_427 rfl ?_
                                                  refine lv_topi (fun x507 e508 => ?_)
                                                  refine lv_istore (lv' := [(5, .int x507), (4, .int kd), (8, .int (nI k8)), (6, .long vl), (3, .int (nI tt)), (1, .int (nI i1)), (2, .int 1), (0, .ref h0)]) hx hb dX12_cut_428 hl (by decide) rfl (fun ls hl => ?_)
                                                  refine lv_goto (tgt := 472) hx hb dX12_cut_430 (by decide) ?_
                                                  have hP : va_P G.1 pCl (mW G h0 a (upd (upd (upd (upd F 4 (nI sz)) 9 (nI T)) 13 (nI us)) 14 (nI nm)) (updA (updA (updA (updA (updA (updA (updA B 2 g5) 3 g6) 4 g7) 5 g8) 6 g10) 7 g11) 8 g12)) H := hP
                                                  have hD : va_D A (mW G h0 a (upd (upd (upd (upd F 4 (nI sz)) 9 (nI T)) 13 (nI us)) 14 (nI nm)) (updA (updA (updA (updA (updA (updA (updA B 2 g5) 3 g6) 4 g7) 5 g8) 6 g10) 7 g11) 8 g12)) := hD
                                                  exact cut_j kd x507 tt nm us g10 g11 g12 _ _ _ (by omega) (by omega) (Or.inr (by omega)) (by omega) (by omega) (by omega) hR (fun e9 => by rcases hkd with h8 | h8 <;> rw [h8] at e9 <;> exact absurd e9 (by decide)) hP hD hS (lv_sub hl [5, 6, 4, 1, 0, 7] rfl)
                                                · refine lv_iconst (v := 3) hx hb dX12_cut_417 (by decide) ?_
                                                  refine lv_goto (tgt := 423) hx hb dX12_cut_418 (by decide) ?_
                                                  refine lv_istore (lv' := [(4, .int 3), (8, .int (nI k8)), (6, .long vl), (3, .int (nI tt)), (5, .int 0), (1, .int (nI i1)), (2, .int 1), (0, .ref h0)]) hx hb dX12_cut_423 hl (by decide) rfl (fun ls hl => ?_)
                                                  refine lv_lload hx hb dX12_cut_425 (lv_at hl 2 rfl) ?_
                                                  refine lv_l2i hx hb dX12_cut_427 rfl ?_
                                                  refine lv_topi (fun x509 e510 => ?_)
                                                  refine lv_istore (lv' := [(5, .int x509), (4, .int 3), (8, .int (nI k8)), (6, .long vl), (3, .int (nI tt)), (1, .int (nI i1)), (2, .int 1), (0, .ref h0)]) hx hb dX12_cut_428 hl (by decide) rfl (fun ls hl => ?_)
                                                  refine lv_goto (tgt := 472) hx hb dX12_cut_430 (by decide) ?_
                                                  have hP : va_P G.1 pCl (mW G h0 a (upd (upd (upd (upd F 4 (nI sz)) 9 (nI T)) 13 (nI us)) 14 (nI nm)) (updA (updA (updA (updA (updA (updA (updA B 2 g5) 3 g6) 4 g7) 5 g8) 6 g10) 7 g11) 8 g12)) H := hP
                                                  have hD : va_D A (mW G h0 a (upd (upd (upd (upd F 4 (nI sz)) 9 (nI T)) 13 (nI us)) 14 (nI nm)) (updA (updA (updA (updA (updA (updA (updA B 2 g5) 3 g6) 4 g7) 5 g8) 6 g10) 7 g11) 8 g12)) := hD
                                                  exact cut_j 3 x509 tt nm us g10 g11 g12 _ _ _ (by omega) (by omega) (Or.inr (by omega)) (by omega) (by omega) (by omega) hR (fun e9 => absurd e9 (by decide)) hP hD hS (lv_sub hl [5, 6, 4, 1, 0, 7] rfl)
                                            · refine lv_iload hx hb dX12_cut_351 (lv_at hl 0 rfl) ?_
                                              refine lv_iload_n hx hb dX12_cut_353 rfl (lv_at hl 3 rfl) ?_
                                              refine lv_icmp_ge (tgt := 402) hx hb dX12_cut_354 (by decide) (fun c511 => ?_) (fun c511 => ?_)
                                              · have n512 : tt ≤ k8 := (nI_leI (a := tt) (b := k8) (by omega) (by omega)).mp c511
                                                refine lv_iload hx hb dX12_cut_402 (lv_at hl 1 rfl) ?_
                                                refine lv_iconst (v := 2) hx hb dX12_cut_404 (by decide) ?_
                                                refine lv_icmp_ne (tgt := 421) hx hb dX12_cut_405 (by decide) (fun c513 => ?_) (fun c513 => ?_)
                                                · refine lv_iload hx hb dX12_cut_421 (lv_at hl 1 rfl) ?_
                                                  refine lv_istore (lv' := [(4, .int kd), (8, .int (nI k8)), (6, .long vl), (3, .int (nI tt)), (5, .int 0), (1, .int (nI i1)), (2, .int 1), (0, .ref h0)]) hx hb dX12_cut_423 hl (by decide) rfl (fun ls hl => ?_)
                                                  refine lv_lload hx hb dX12_cut_425 (lv_at hl 2 rfl) ?_
                                                  refine lv_l2i hx hb dX12_cut_427 rfl ?_
                                                  refine lv_topi (fun x514 e515 => ?_)
                                                  refine lv_istore (lv' := [(5, .int x514), (4, .int kd), (8, .int (nI k8)), (6, .long vl), (3, .int (nI tt)), (1, .int (nI i1)), (2, .int 1), (0, .ref h0)]) hx hb dX12_cut_428 hl (by decide) rfl (fun ls hl => ?_)
                                                  refine lv_goto (tgt := 472) hx hb dX12_cut_430 (by decide) ?_
                                                  have hP : va_P G.1 pCl (mW G h0 a (upd (upd (upd (upd F 4 (nI sz)) 9 (nI T)) 13 (nI us)) 14 (nI nm)) (updA (updA (updA (updA (updA (updA (updA B 2 g5) 3 g6) 4 g7) 5 g8) 6 g10) 7 g11) 8 g12)) H := hP
                                                  have hD : va_D A (mW G h0 a (upd (upd (upd (upd F 4 (nI sz)) 9 (nI T)) 13 (nI us)) 14 (nI nm)) (updA (updA (updA (updA (updA (updA (updA B 2 g5) 3 g6) 4 g7) 5 g8) 6 g10) 7 g11) 8 g12)) := hD
                                                  exact cut_j kd x514 tt nm us g10 g11 g12 _ _ _ (by omega) (by omega) (Or.inr (by omega)) (by omega) (by omega) (by omega) hR (fun e9 => by rcases hkd with h8 | h8 <;> rw [h8] at e9 <;> exact absurd e9 (by decide)) hP hD hS (lv_sub hl [5, 6, 4, 1, 0, 7] rfl)
                                                · refine lv_lload hx hb dX12_cut_408 (lv_at hl 2 rfl) ?_
                                                  refine lv_ldc2 (v := 2147483647) hx hb hown (hq _ pw_1571) dX12_cut_410 ?_
                                                  refine W.lcmp hx hb dX12_cut_413 ?_
                                                  refine lv_topi (fun x516 e517 => ?_)
                                                  refine lv_if_le (tgt := 421) hx hb dX12_cut_414 (by decide) (fun c518 => ?_) (fun c518 => ?_)
                                                  · refine lv_iload hx hb dX12_cut_421 (lv_at hl 1 rfl) ?_
                                                    refine lv_istore (lv' := [(4, .int kd), (8, .int (nI k8)), (6, .long vl), (3, .int (nI tt)), (5, .int 0), (1, .int (nI i1)), (2, .int 1), (0, .ref h0)]) hx hb dX12_cut_423 hl (by decide) rfl (fun ls hl => ?_)
                                                    refine lv_lload hx hb dX12_cut_425 (lv_at hl 2 rfl) ?_
                                                    refine lv_l2i hx hb dX12_cut_427 rfl ?_
                                                    refine lv_topi (fun x519 e520 => ?_)
                                                    refine lv_istore (lv' := [(5, .int x519), (4, .int kd), (8, .int (nI k8)), (6, .long vl), (3, .int (nI tt)), (1, .int (nI i1)), (2, .int 1), (0, .ref h0)]) hx hb dX12_cut_428 hl (by decide) rfl (fun ls hl => ?_)
                                                    refine lv_goto (tgt := 472) hx hb dX12_cut_430 (by decide) ?_
                                                    have hP : va_P G.1 pCl (mW G h0 a (upd (upd (upd (upd F 4 (nI sz)) 9 (nI T)) 13 (nI us)) 14 (nI nm)) (updA (updA (updA (updA (updA (updA (updA B 2 g5) 3 g6) 4 g7) 5 g8) 6 g10) 7 g11) 8 g12)) H := hP
                                                    have hD : va_D A (mW G h0 a (upd (upd (upd (upd F 4 (nI sz)) 9 (nI T)) 13 (nI us)) 14 (nI nm)) (updA (updA (updA (updA (updA (updA (updA B 2 g5) 3 g6) 4 g7) 5 g8) 6 g10) 7 g11) 8 g12)) := hD
                                                    exact cut_j kd x519 tt nm us g10 g11 g12 _ _ _ (by omega) (by omega) (Or.inr (by omega)) (by omega) (by omega) (by omega) hR (fun e9 => by rcases hkd with h8 | h8 <;> rw [h8] at e9 <;> exact absurd e9 (by decide)) hP hD hS (lv_sub hl [5, 6, 4, 1, 0, 7] rfl)
                                                  · refine lv_iconst (v := 3) hx hb dX12_cut_417 (by decide) ?_
                                                    refine lv_goto (tgt := 423) hx hb dX12_cut_418 (by decide) ?_
                                                    refine lv_istore (lv' := [(4, .int 3), (8, .int (nI k8)), (6, .long vl), (3, .int (nI tt)), (5, .int 0), (1, .int (nI i1)), (2, .int 1), (0, .ref h0)]) hx hb dX12_cut_423 hl (by decide) rfl (fun ls hl => ?_)
                                                    refine lv_lload hx hb dX12_cut_425 (lv_at hl 2 rfl) ?_
                                                    refine lv_l2i hx hb dX12_cut_427 rfl ?_
                                                    refine lv_topi (fun x521 e522 => ?_)
                                                    refine lv_istore (lv' := [(5, .int x521), (4, .int 3), (8, .int (nI k8)), (6, .long vl), (3, .int (nI tt)), (1, .int (nI i1)), (2, .int 1), (0, .ref h0)]) hx hb dX12_cut_428 hl (by decide) rfl (fun ls hl => ?_)
                                                    refine lv_goto (tgt := 472) hx hb dX12_cut_430 (by decide) ?_
                                                    have hP : va_P G.1 pCl (mW G h0 a (upd (upd (upd (upd F 4 (nI sz)) 9 (nI T)) 13 (nI us)) 14 (nI nm)) (updA (updA (updA (updA (updA (updA (updA B 2 g5) 3 g6) 4 g7) 5 g8) 6 g10) 7 g11) 8 g12)) H := hP
                                                    have hD : va_D A (mW G h0 a (upd (upd (upd (upd F 4 (nI sz)) 9 (nI T)) 13 (nI us)) 14 (nI nm)) (updA (updA (updA (updA (updA (updA (updA B 2 g5) 3 g6) 4 g7) 5 g8) 6 g10) 7 g11) 8 g12)) := hD
                                                    exact cut_j 3 x521 tt nm us g10 g11 g12 _ _ _ (by omega) (by omega) (Or.inr (by omega)) (by omega) (by omega) (by omega) hR (fun e9 => absurd e9 (by decide)) hP hD hS (lv_sub hl [5, 6, 4, 1, 0, 7] rfl)
                                              · have n523 : ¬ (tt ≤ k8) := fun h9 => c511 ((nI_leI (a := tt) (b := k8) (by omega) (by omega)).mpr h9)
                                                refine lv_aload_n hx hb dX12_cut_357 rfl (lv_at hl 7 rfl) ?_
                                                refine lv_iload hx hb dX12_cut_358 (lv_at hl 0 rfl) ?_
                                                have hP : va_P G.1 pCl (mW G h0 a (upd (upd (upd (upd (upd F 4 (nI sz)) 9 (nI T)) 13 (nI us)) 14 (nI nm)) 4 (nI sz)) (updA (updA (updA (updA (updA (updA (updA B 2 g5) 3 g6) 4 g7) 5 g8) 6 g10) 7 g11) 8 g12)) H := hP
                                                have hD : va_D A (mW G h0 a (upd (upd (upd (upd (upd F 4 (nI sz)) 9 (nI T)) 13 (nI us)) 14 (nI nm)) 4 (nI sz)) (updA (updA (updA (updA (updA (updA (updA B 2 g5) 3 g6) 4 g7) 5 g8) 6 g10) 7 g11) 8 g12)) := hD
                                                refine pc_V0 (G := G) (As := [.int (nI k8)]) (rest := []) hx hb hml hown hq hE hX pX0_al hP hD hS hA hl.1 (R_ch l G h0 a (upd (upd (upd (upd F 4 (nI sz)) 9 (nI T)) 13 (nI us)) 14 (nI nm)) (updA (updA (updA (updA (updA (updA (updA B 2 g5) 3 g6) 4 g7) 5 g8) 6 g10) 7 g11) 8 g12) k8 sz (by omega) (by omega)) (gV pw_1561 pw_1562 pw_1563 pw_1523 pw_1518) hV_X12_ch 0 9 rfl rfl rfl rfl (Nat.le_of_ble_eq_true rfl) dX12_cut_360 ⟨Nat.le_of_ble_eq_true rfl, Nat.le_of_ble_eq_true rfl⟩ ⟨Nat.le_of_ble_eq_true rfl, Nat.le_of_ble_eq_true rfl⟩ (fun v526 u524 H locs hw525 hP hD hS => ?_)
                                                obtain ⟨r527, rfl⟩ : ∃ z, z = u524 := ⟨_, rfl⟩
                                                obtain ⟨hw525, h528⟩ := hw525
                                                have h528 : r527 = (-1) ∨ k8 < sz ∧ r527 = (updA (updA (updA (updA (updA (updA (updA B 2 g5) 3 g6) 4 g7) 5 g8) 6 g10) 7 g11) 8 g12) 1 k8 := h528
                                                obtain rfl : v526 = some (.int r527) := hw525
                                                have hP : va_P G.1 pCl (mW G h0 a (upd (upd (upd (upd F 4 (nI sz)) 9 (nI T)) 13 (nI us)) 14 (nI nm)) (updA (updA (updA (updA (updA (updA (updA B 2 g5) 3 g6) 4 g7) 5 g8) 6 g10) 7 g11) 8 g12)) H := hP
                                                have hD : va_D A (mW G h0 a (upd (upd (upd (upd F 4 (nI sz)) 9 (nI T)) 13 (nI us)) 14 (nI nm)) (updA (updA (updA (updA (updA (updA (updA B 2 g5) 3 g6) 4 g7) 5 g8) 6 g10) 7 g11) 8 g12)) := hD
                                                refine W.widen (k := 0) (n := 0) (Nat.le_of_ble_eq_true rfl) (Nat.le_of_ble_eq_true rfl) ?_
                                                refine W.eq (g2 := F0 m 363 ls [.int r527]) rfl ?_
                                                refine pc_SN (G := G) (As := [.int r527]) (rest := []) hx hb hml hown hq hE hX pX0_al hP hS hA hl.1 (s_isDigit l G r527) (gS pw_1577 pw_1578 pw_1523 pw_1524) hS_X12_isDigit rfl (Nat.le_of_ble_eq_true rfl) dX12_cut_363 ⟨Nat.le_of_ble_eq_true rfl, Nat.le_of_ble_eq_true rfl⟩ ⟨Nat.le_of_ble_eq_true rfl, Nat.le_of_ble_eq_true rfl⟩ (fun v531 u529 H locs hw530 hP hS => ?_)
                                                obtain ⟨x532, rfl, hr533, hr534⟩ := hw530
                                                refine W.widen (k := 0) (n := 0) (Nat.le_of_ble_eq_true rfl) (Nat.le_of_ble_eq_true rfl) ?_
                                                refine W.eq (g2 := F0 m 366 ls [.int x532]) rfl ?_
                                                refine lv_if_eq (tgt := 373) hx hb dX12_cut_366 (by decide) (fun c535 => ?_) (fun c535 => ?_)
                                                · refine lv_iconst (v := 3) hx hb dX12_cut_373 (by decide) ?_
                                                  refine lv_istore (lv' := [(4, .int 3), (8, .int (nI k8)), (6, .long vl), (3, .int (nI tt)), (5, .int 0), (1, .int (nI i1)), (2, .int 1), (0, .ref h0)]) hx hb dX12_cut_374 hl (by decide) rfl (fun ls hl => ?_)
                                                  refine lv_ldc2 (v := 10) hx hb hown (hq _ pw_1569) dX12_cut_376 ?_
                                                  refine lv_lload hx hb dX12_cut_379 (lv_at hl 2 rfl) ?_
                                                  refine lv_lmul hx hb dX12_cut_381 ?_
                                                  refine lv_topl (fun x536 e537 => ?_)
                                                  refine lv_aload_n hx hb dX12_cut_382 rfl (lv_at hl 7 rfl) ?_
                                                  refine lv_iload hx hb dX12_cut_383 (lv_at hl 1 rfl) ?_
                                                  have hP : va_P G.1 pCl (mW G h0 a (upd (upd (upd (upd (upd F 4 (nI sz)) 9 (nI T)) 13 (nI us)) 14 (nI nm)) 4 (nI sz)) (updA (updA (updA (updA (updA (updA (updA B 2 g5) 3 g6) 4 g7) 5 g8) 6 g10) 7 g11) 8 g12)) H := hP
                                                  have hD : va_D A (mW G h0 a (upd (upd (upd (upd (upd F 4 (nI sz)) 9 (nI T)) 13 (nI us)) 14 (nI nm)) 4 (nI sz)) (updA (updA (updA (updA (updA (updA (updA B 2 g5) 3 g6) 4 g7) 5 g8) 6 g10) 7 g11) 8 g12)) := hD
                                                  refine pc_V0 (G := G) (As := [.int (nI k8)]) (rest := [.long x536]) hx hb hml hown hq hE hX pX0_al hP hD hS hA hl.1 (R_ch l G h0 a (upd (upd (upd (upd F 4 (nI sz)) 9 (nI T)) 13 (nI us)) 14 (nI nm)) (updA (updA (updA (updA (updA (updA (updA B 2 g5) 3 g6) 4 g7) 5 g8) 6 g10) 7 g11) 8 g12) k8 sz (by omega) (by omega)) (gV pw_1561 pw_1562 pw_1563 pw_1523 pw_1518) hV_X12_ch 0 9 rfl rfl rfl rfl (Nat.le_of_ble_eq_true rfl) dX12_cut_385 ⟨Nat.le_of_ble_eq_true rfl, Nat.le_of_ble_eq_true rfl⟩ ⟨Nat.le_of_ble_eq_true rfl, Nat.le_of_ble_eq_true rfl⟩ (fun v540 u538 H locs hw539 hP hD hS => ?_)
                                                  obtain ⟨r541, rfl⟩ : ∃ z, z = u538 := ⟨_, rfl⟩
                                                  obtain ⟨hw539, h542⟩ := hw539
                                                  have h542 : r541 = (-1) ∨ k8 < sz ∧ r541 = (updA (updA (updA (updA (updA (updA (updA B 2 g5) 3 g6) 4 g7) 5 g8) 6 g10) 7 g11) 8 g12) 1 k8 := h542
                                                  obtain rfl : v540 = some (.int r541) := hw539
                                                  have hP : va_P G.1 pCl (mW G h0 a (upd (upd (upd (upd F 4 (nI sz)) 9 (nI T)) 13 (nI us)) 14 (nI nm)) (updA (updA (updA (updA (updA (updA (updA B 2 g5) 3 g6) 4 g7) 5 g8) 6 g10) 7 g11) 8 g12)) H := hP
                                                  have hD : va_D A (mW G h0 a (upd (upd (upd (upd F 4 (nI sz)) 9 (nI T)) 13 (nI us)) 14 (nI nm)) (updA (updA (updA (updA (updA (updA (updA B 2 g5) 3 g6) 4 g7) 5 g8) 6 g10) 7 g11) 8 g12)) := hD
                                                  refine W.widen (k := 0) (n := 0) (Nat.le_of_ble_eq_true rfl) (Nat.le_of_ble_eq_true rfl) ?_
                                                  refine W.eq (g2 := F0 m 388 ls [.int r541, .long x536]) rfl ?_
                                                  refine lv_i2l hx hb dX12_cut_388 rfl ?_
                                                  refine lv_topl (fun x543 e544 => ?_)
                                                  refine lv_ladd hx hb dX12_cut_389 ?_
                                                  refine lv_topl (fun x545 e546 => ?_)
                                                  refine lv_ldc2 (v := 48) hx hb hown (hq _ pw_1570) dX12_cut_390 ?_
                                                  refine lv_lsub hx hb dX12_cut_393 ?_
                                                  refine lv_topl (fun x547 e548 => ?_)
                                                  refine lv_lstore (lv' := [(6, .long x547), (4, .int 3), (8, .int (nI k8)), (3, .int (nI tt)), (5, .int 0), (1, .int (nI i1)), (2, .int 1), (0, .ref h0)]) hx hb dX12_cut_394 hl (by decide) rfl (fun ls hl => ?_)
                                                  refine lv_iinc (v := (nI (k8 + 1))) (lv' := [(8, .int (nI (k8 + 1))), (6, .long x547), (4, .int 3), (3, .int (nI tt)), (5, .int 0), (1, .int (nI i1)), (2, .int 1), (0, .ref h0)]) hx hb dX12_cut_396 hl (k := 2) rfl (nI_1 k8) (by decide) rfl (fun ls hl => ?_)
                                                  refine lv_goto (tgt := 345) hx hb dX12_cut_399 (by decide) ?_
                                                  have hP : va_P G.1 pCl (mW G h0 a (upd (upd (upd (upd F 4 (nI sz)) 9 (nI T)) 13 (nI us)) 14 (nI nm)) (updA (updA (updA (updA (updA (updA (updA B 2 g5) 3 g6) 4 g7) 5 g8) 6 g10) 7 g11) 8 g12)) H := hP
                                                  have hD : va_D A (mW G h0 a (upd (upd (upd (upd F 4 (nI sz)) 9 (nI T)) 13 (nI us)) 14 (nI nm)) (updA (updA (updA (updA (updA (updA (updA B 2 g5) 3 g6) 4 g7) 5 g8) 6 g10) 7 g11) 8 g12)) := hD
                                                  exact ih_v (k8 + 1) x547 3 _ _ _ (by omega) (by omega) (by omega) (by decide) hP hD hS (lv_sub hl [0, 2, 1, 3, 4, 5, 6, 7] rfl)
                                                · refine lv_iconst (v := 2) hx hb dX12_cut_369 (by decide) ?_
                                                  refine lv_goto (tgt := 374) hx hb dX12_cut_370 (by decide) ?_
                                                  refine lv_istore (lv' := [(4, .int 2), (8, .int (nI k8)), (6, .long vl), (3, .int (nI tt)), (5, .int 0), (1, .int (nI i1)), (2, .int 1), (0, .ref h0)]) hx hb dX12_cut_374 hl (by decide) rfl (fun ls hl => ?_)
                                                  refine lv_ldc2 (v := 10) hx hb hown (hq _ pw_1569) dX12_cut_376 ?_
                                                  refine lv_lload hx hb dX12_cut_379 (lv_at hl 2 rfl) ?_
                                                  refine lv_lmul hx hb dX12_cut_381 ?_
                                                  refine lv_topl (fun x549 e550 => ?_)
                                                  refine lv_aload_n hx hb dX12_cut_382 rfl (lv_at hl 7 rfl) ?_
                                                  refine lv_iload hx hb dX12_cut_383 (lv_at hl 1 rfl) ?_
                                                  have hP : va_P G.1 pCl (mW G h0 a (upd (upd (upd (upd (upd F 4 (nI sz)) 9 (nI T)) 13 (nI us)) 14 (nI nm)) 4 (nI sz)) (updA (updA (updA (updA (updA (updA (updA B 2 g5) 3 g6) 4 g7) 5 g8) 6 g10) 7 g11) 8 g12)) H := hP
                                                  have hD : va_D A (mW G h0 a (upd (upd (upd (upd (upd F 4 (nI sz)) 9 (nI T)) 13 (nI us)) 14 (nI nm)) 4 (nI sz)) (updA (updA (updA (updA (updA (updA (updA B 2 g5) 3 g6) 4 g7) 5 g8) 6 g10) 7 g11) 8 g12)) := hD
                                                  refine pc_V0 (G := G) (As := [.int (nI k8)]) (rest := [.long x549]) hx hb hml hown hq hE hX pX0_al hP hD hS hA hl.1 (R_ch l G h0 a (upd (upd (upd (upd F 4 (nI sz)) 9 (nI T)) 13 (nI us)) 14 (nI nm)) (updA (updA (updA (updA (updA (updA (updA B 2 g5) 3 g6) 4 g7) 5 g8) 6 g10) 7 g11) 8 g12) k8 sz (by omega) (by omega)) (gV pw_1561 pw_1562 pw_1563 pw_1523 pw_1518) hV_X12_ch 0 9 rfl rfl rfl rfl (Nat.le_of_ble_eq_true rfl) dX12_cut_385 ⟨Nat.le_of_ble_eq_true rfl, Nat.le_of_ble_eq_true rfl⟩ ⟨Nat.le_of_ble_eq_true rfl, Nat.le_of_ble_eq_true rfl⟩ (fun v553 u551 H locs hw552 hP hD hS => ?_)
                                                  obtain ⟨r554, rfl⟩ : ∃ z, z = u551 := ⟨_, rfl⟩
                                                  obtain ⟨hw552, h555⟩ := hw552
                                                  have h555 : r554 = (-1) ∨ k8 < sz ∧ r554 = (updA (updA (updA (updA (updA (updA (updA B 2 g5) 3 g6) 4 g7) 5 g8) 6 g10) 7 g11) 8 g12) 1 k8 := h555
                                                  obtain rfl : v553 = some (.int r554) := hw552
                                                  have hP : va_P G.1 pCl (mW G h0 a (upd (upd (upd (upd F 4 (nI sz)) 9 (nI T)) 13 (nI us)) 14 (nI nm)) (updA (updA (updA (updA (updA (updA (updA B 2 g5) 3 g6) 4 g7) 5 g8) 6 g10) 7 g11) 8 g12)) H := hP
                                                  have hD : va_D A (mW G h0 a (upd (upd (upd (upd F 4 (nI sz)) 9 (nI T)) 13 (nI us)) 14 (nI nm)) (updA (updA (updA (updA (updA (updA (updA B 2 g5) 3 g6) 4 g7) 5 g8) 6 g10) 7 g11) 8 g12)) := hD
                                                  refine W.widen (k := 0) (n := 0) (Nat.le_of_ble_eq_true rfl) (Nat.le_of_ble_eq_true rfl) ?_
                                                  refine W.eq (g2 := F0 m 388 ls [.int r554, .long x549]) rfl ?_
                                                  refine lv_i2l hx hb dX12_cut_388 rfl ?_
                                                  refine lv_topl (fun x556 e557 => ?_)
                                                  refine lv_ladd hx hb dX12_cut_389 ?_
                                                  refine lv_topl (fun x558 e559 => ?_)
                                                  refine lv_ldc2 (v := 48) hx hb hown (hq _ pw_1570) dX12_cut_390 ?_
                                                  refine lv_lsub hx hb dX12_cut_393 ?_
                                                  refine lv_topl (fun x560 e561 => ?_)
                                                  refine lv_lstore (lv' := [(6, .long x560), (4, .int 2), (8, .int (nI k8)), (3, .int (nI tt)), (5, .int 0), (1, .int (nI i1)), (2, .int 1), (0, .ref h0)]) hx hb dX12_cut_394 hl (by decide) rfl (fun ls hl => ?_)
                                                  refine lv_iinc (v := (nI (k8 + 1))) (lv' := [(8, .int (nI (k8 + 1))), (6, .long x560), (4, .int 2), (3, .int (nI tt)), (5, .int 0), (1, .int (nI i1)), (2, .int 1), (0, .ref h0)]) hx hb dX12_cut_396 hl (k := 2) rfl (nI_1 k8) (by decide) rfl (fun ls hl => ?_)
                                                  refine lv_goto (tgt := 345) hx hb dX12_cut_399 (by decide) ?_
                                                  have hP : va_P G.1 pCl (mW G h0 a (upd (upd (upd (upd F 4 (nI sz)) 9 (nI T)) 13 (nI us)) 14 (nI nm)) (updA (updA (updA (updA (updA (updA (updA B 2 g5) 3 g6) 4 g7) 5 g8) 6 g10) 7 g11) 8 g12)) H := hP
                                                  have hD : va_D A (mW G h0 a (upd (upd (upd (upd F 4 (nI sz)) 9 (nI T)) 13 (nI us)) 14 (nI nm)) (updA (updA (updA (updA (updA (updA (updA B 2 g5) 3 g6) 4 g7) 5 g8) 6 g10) 7 g11) 8 g12)) := hD
                                                  exact ih_v (k8 + 1) x560 2 _ _ _ (by omega) (by omega) (by omega) (by decide) hP hD hS (lv_sub hl [0, 2, 1, 3, 4, 5, 6, 7] rfl)
                                        have hP : va_P G.1 pCl (mW G h0 a (upd (upd (upd (upd F 4 (nI sz)) 9 (nI T)) 13 (nI us)) 14 (nI nm)) (updA (updA (updA (updA (updA (updA (updA B 2 g5) 3 g6) 4 g7) 5 g8) 6 g10) 7 g11) 8 g12)) H := hP
                                        have hD : va_D A (mW G h0 a (upd (upd (upd (upd F 4 (nI sz)) 9 (nI T)) 13 (nI us)) 14 (nI nm)) (updA (updA (updA (updA (updA (updA (updA B 2 g5) 3 g6) 4 g7) 5 g8) 6 g10) 7 g11) 8 g12)) := hD
                                        exact loop_v (tt + 1) i1 0 3 _ _ _ (by omega) (by omega) (by omega) (by decide) hP hD hS (lv_sub hl [0, 1, 2, 3, 4, 5, 6, 7] rfl)
                                    · have hc48 : ¬ r424 < 48 := (hr430).resolve_left c432
                                      have hlet2 : tt < sz ∧ ¬ B 1 tt = 32 := ⟨chin h425 (noM1 hc48), by rw [← ((h425).resolve_left (noM1 hc48)).2]; exact no32 hc48⟩
                                      refine lv_iinc (v := (nI (tt + 1))) (lv' := [(3, .int (nI (tt + 1))), (6, .long 0), (4, .int 0), (5, .int 0), (1, .int (nI i1)), (2, .int 1), (0, .ref h0)]) hx hb dX12_cut_321 hl (k := 1) rfl (nI_1 tt) (by decide) rfl (fun ls hl => ?_)
                                      refine lv_goto (tgt := 299) hx hb dX12_cut_324 (by decide) ?_
                                      have hP : va_P G.1 pCl (mW G h0 a (upd (upd (upd (upd F 4 (nI sz)) 9 (nI T)) 13 (nI us)) 14 (nI nm)) (updA (updA (updA (updA (updA (updA (updA B 2 g5) 3 g6) 4 g7) 5 g8) 6 g10) 7 g11) 8 g12)) H := hP
                                      have hD : va_D A (mW G h0 a (upd (upd (upd (upd F 4 (nI sz)) 9 (nI T)) 13 (nI us)) 14 (nI nm)) (updA (updA (updA (updA (updA (updA (updA B 2 g5) 3 g6) 4 g7) 5 g8) 6 g10) 7 g11) 8 g12)) := hD
                                      exact ih_d (tt + 1) _ _ _ (by have := hlet2.1; omega) (by omega) (by omega) (fun j h8 h9 => by by_cases e9 : j = tt; · rw [e9]; exact hlet2.2; · exact htt j h8 (by omega)) hP hD hS (lv_sub hl [1, 0, 2, 3, 4, 5, 6] rfl)
                              have hP : va_P G.1 pCl (mW G h0 a (upd (upd (upd (upd F 4 (nI sz)) 9 (nI T)) 13 (nI us)) 14 (nI nm)) (updA (updA (updA (updA (updA (updA (updA B 2 g5) 3 g6) 4 g7) 5 g8) 6 g10) 7 g11) 8 g12)) H := hP
                              have hD : va_D A (mW G h0 a (upd (upd (upd (upd F 4 (nI sz)) 9 (nI T)) 13 (nI us)) 14 (nI nm)) (updA (updA (updA (updA (updA (updA (updA B 2 g5) 3 g6) 4 g7) 5 g8) 6 g10) 7 g11) 8 g12)) := hD
                              exact loop_d (sz + 1) (i1 + 1) _ _ _ (by omega) (by omega) (by omega) (fun j h8 h9 => by rw [show j = i1 by omega]; exact hlet.2) hP hD hS (lv_sub hl [0, 3, 2, 1, 4, 5, 6] rfl)
                          · have hc48 : ¬ r374 < 48 := (hr380).resolve_left c382
                            have hlet : i1 < sz ∧ ¬ B 1 i1 = 32 := ⟨chin h375 (noM1 hc48), by rw [← ((h375).resolve_left (noM1 hc48)).2]; exact no32 hc48⟩
                            have loop_w : ∀ (n_w : Nat) (tt : Nat) (H : Heap) (locs : List Loc) (ls : Array Slot), tt ≤ sz → sz + 1 ≤ tt + n_w → (i1 + 1 ≤ tt) → (∀ j : Nat, i1 ≤ j → j < tt → ¬ B 1 j = 32) → va_P G.1 pCl (mW G h0 a (upd (upd (upd (upd F 4 (nI sz)) 9 (nI T)) 13 (nI us)) 14 (nI nm)) (updA (updA (updA (updA (updA (updA (updA B 2 g5) 3 g6) 4 g7) 5 g8) 6 g10) 7 g11) 8 g12)) H → va_D A (mW G h0 a (upd (upd (upd (upd F 4 (nI sz)) 9 (nI T)) 13 (nI us)) 14 (nI nm)) (updA (updA (updA (updA (updA (updA (updA B 2 g5) 3 g6) 4 g7) 5 g8) 6 g10) 7 g11) 8 g12)) → va_S A s.heap H locs → lv_has ls 9 [(3, .int (nI tt)), (4, .int 0), (5, .int 0), (1, .int (nI i1)), (2, .int 1), (0, .ref h0)] → W p l e (headSpec (Cond.code yX12_cut cX12_cut 9 none :: pw) ({ frames := 7, cells := 0, slots := 0, locals := 174 } : Room)).room s m ([.ref h0] : List Value).toArray below meth c H locs 0 0 (MQ below (pQ G A (fun (v : Option Value) (u : Nat × Nat × Nat × (Nat → Int32) × (Nat → Int32) × (Nat → Int32) × (Nat → Int32) × (Nat → Int32) × (Nat → Int32) × (Nat → Int32)) => v = none ∧ (u.1 ≤ sz) ∧ (u.2.2.2.2.2.2.1 u.1 = 0 ∨ u.2.2.2.2.2.2.1 u.1 = 3) ∧ (rNm u.2.1 u.2.2.1 u.2.2.2.1 u.2.2.2.2.1) ∧ (u.2.1 ≤ 9 + sz) ∧ (u.2.2.1 ≤ 40 + sz) ∧ (rTk u.1 u.2.1 u.2.2.2.2.2.2.1 u.2.2.2.2.2.2.2.2.2) ∧ (9 ≤ u.2.1)) (fun u => (mW G h0 a (upd (upd (upd (upd F 4 (nI sz)) 9 (nI u.1)) 13 (nI u.2.2.1)) 14 (nI u.2.1)) (updA (updA (updA (updA (updA (updA (updA B 2 u.2.2.2.2.2.2.1) 3 u.2.2.2.2.2.2.2.1) 4 u.2.2.2.2.2.2.2.2.1) 5 u.2.2.2.2.2.2.2.2.2) 6 u.2.2.2.1) 7 u.2.2.2.2.1) 8 u.2.2.2.2.2.1)))) ([.ref h0] : List Value).toArray s ({ frames := 7, cells := 0, slots := 0, locals := 174 } : Room).cells ({ frames := 7, cells := 0, slots := 0, locals := 174 } : Room).slots A) (F0 m 212 ls []) := by
                              intro n_w
                              induction n_w with
                              | zero => intro tt H locs ls hk_w hn_w; omega
                              | succ n_w ih_w =>
                                intro tt H locs ls hk_w hn_w ht1 htt hP hD hS hl
                                refine lv_aload_n hx hb dX12_cut_212 rfl (lv_at hl 5 rfl) ?_
                                refine lv_iload_n hx hb dX12_cut_213 rfl (lv_at hl 0 rfl) ?_
                                have hP : va_P G.1 pCl (mW G h0 a (upd (upd (upd (upd (upd F 4 (nI sz)) 9 (nI T)) 13 (nI us)) 14 (nI nm)) 4 (nI sz)) (updA (updA (updA (updA (updA (updA (updA B 2 g5) 3 g6) 4 g7) 5 g8) 6 g10) 7 g11) 8 g12)) H := hP
                                have hD : va_D A (mW G h0 a (upd (upd (upd (upd (upd F 4 (nI sz)) 9 (nI T)) 13 (nI us)) 14 (nI nm)) 4 (nI sz)) (updA (updA (updA (updA (updA (updA (updA B 2 g5) 3 g6) 4 g7) 5 g8) 6 g10) 7 g11) 8 g12)) := hD
                                refine pc_V0 (G := G) (As := [.int (nI tt)]) (rest := []) hx hb hml hown hq hE hX pX0_al hP hD hS hA hl.1 (R_ch l G h0 a (upd (upd (upd (upd F 4 (nI sz)) 9 (nI T)) 13 (nI us)) 14 (nI nm)) (updA (updA (updA (updA (updA (updA (updA B 2 g5) 3 g6) 4 g7) 5 g8) 6 g10) 7 g11) 8 g12) tt sz (by omega) (by omega)) (gV pw_1561 pw_1562 pw_1563 pw_1523 pw_1518) hV_X12_ch 0 9 rfl rfl rfl rfl (Nat.le_of_ble_eq_true rfl) dX12_cut_214 ⟨Nat.le_of_ble_eq_true rfl, Nat.le_of_ble_eq_true rfl⟩ ⟨Nat.le_of_ble_eq_true rfl, Nat.le_of_ble_eq_true rfl⟩ (fun v564 u562 H locs hw563 hP hD hS => ?_)
                                obtain ⟨r565, rfl⟩ : ∃ z, z = u562 := ⟨_, rfl⟩
                                obtain ⟨hw563, h566⟩ := hw563
                                have h566 : r565 = (-1) ∨ tt < sz ∧ r565 = (updA (updA (updA (updA (updA (updA (updA B 2 g5) 3 g6) 4 g7) 5 g8) 6 g10) 7 g11) 8 g12) 1 tt := h566
                                obtain rfl : v564 = some (.int r565) := hw563
                                have hP : va_P G.1 pCl (mW G h0 a (upd (upd (upd (upd F 4 (nI sz)) 9 (nI T)) 13 (nI us)) 14 (nI nm)) (updA (updA (updA (updA (updA (updA (updA B 2 g5) 3 g6) 4 g7) 5 g8) 6 g10) 7 g11) 8 g12)) H := hP
                                have hD : va_D A (mW G h0 a (upd (upd (upd (upd F 4 (nI sz)) 9 (nI T)) 13 (nI us)) 14 (nI nm)) (updA (updA (updA (updA (updA (updA (updA B 2 g5) 3 g6) 4 g7) 5 g8) 6 g10) 7 g11) 8 g12)) := hD
                                refine W.widen (k := 0) (n := 0) (Nat.le_of_ble_eq_true rfl) (Nat.le_of_ble_eq_true rfl) ?_
                                refine W.eq (g2 := F0 m 217 ls [.int r565]) rfl ?_
                                refine pc_SN (G := G) (As := [.int r565]) (rest := []) hx hb hml hown hq hE hX pX0_al hP hS hA hl.1 (s_isLetter l G r565) (gS pw_1575 pw_1576 pw_1523 pw_1520) hS_X12_isLetter rfl (Nat.le_of_ble_eq_true rfl) dX12_cut_217 ⟨Nat.le_of_ble_eq_true rfl, Nat.le_of_ble_eq_true rfl⟩ ⟨Nat.le_of_ble_eq_true rfl, Nat.le_of_ble_eq_true rfl⟩ (fun v569 u567 H locs hw568 hP hS => ?_)
                                obtain ⟨x570, rfl, hr571, hr572⟩ := hw568
                                refine W.widen (k := 0) (n := 0) (Nat.le_of_ble_eq_true rfl) (Nat.le_of_ble_eq_true rfl) ?_
                                refine W.eq (g2 := F0 m 220 ls [.int x570]) rfl ?_
                                refine lv_if_ne (tgt := 234) hx hb dX12_cut_220 (by decide) (fun c573 => ?_) (fun c573 => ?_)
                                · have hc48 : ¬ r565 < 48 := (hr571).resolve_left c573
                                  have hlet2 : tt < sz ∧ ¬ B 1 tt = 32 := ⟨chin h566 (noM1 hc48), by rw [← ((h566).resolve_left (noM1 hc48)).2]; exact no32 hc48⟩
                                  refine lv_iinc (v := (nI (tt + 1))) (lv' := [(3, .int (nI (tt + 1))), (4, .int 0), (5, .int 0), (1, .int (nI i1)), (2, .int 1), (0, .ref h0)]) hx hb dX12_cut_234 hl (k := 0) rfl (nI_1 tt) (by decide) rfl (fun ls hl => ?_)
                                  refine lv_goto (tgt := 212) hx hb dX12_cut_237 (by decide) ?_
                                  have hP : va_P G.1 pCl (mW G h0 a (upd (upd (upd (upd F 4 (nI sz)) 9 (nI T)) 13 (nI us)) 14 (nI nm)) (updA (updA (updA (updA (updA (updA (updA B 2 g5) 3 g6) 4 g7) 5 g8) 6 g10) 7 g11) 8 g12)) H := hP
                                  have hD : va_D A (mW G h0 a (upd (upd (upd (upd F 4 (nI sz)) 9 (nI T)) 13 (nI us)) 14 (nI nm)) (updA (updA (updA (updA (updA (updA (updA B 2 g5) 3 g6) 4 g7) 5 g8) 6 g10) 7 g11) 8 g12)) := hD
                                  exact ih_w (tt + 1) _ _ _ (by have := hlet2.1; omega) (by omega) (by omega) (fun j h8 h9 => by by_cases e9 : j = tt; · rw [e9]; exact hlet2.2; · exact htt j h8 (by omega)) hP hD hS (lv_sub hl [0, 1, 2, 3, 4, 5] rfl)
                                · refine lv_aload_n hx hb dX12_cut_223 rfl (lv_at hl 5 rfl) ?_
                                  refine lv_iload_n hx hb dX12_cut_224 rfl (lv_at hl 0 rfl) ?_
                                  have hP : va_P G.1 pCl (mW G h0 a (upd (upd (upd (upd (upd F 4 (nI sz)) 9 (nI T)) 13 (nI us)) 14 (nI nm)) 4 (nI sz)) (updA (updA (updA (updA (updA (updA (updA B 2 g5) 3 g6) 4 g7) 5 g8) 6 g10) 7 g11) 8 g12)) H := hP
                                  have hD : va_D A (mW G h0 a (upd (upd (upd (upd (upd F 4 (nI sz)) 9 (nI T)) 13 (nI us)) 14 (nI nm)) 4 (nI sz)) (updA (updA (updA (updA (updA (updA (updA B 2 g5) 3 g6) 4 g7) 5 g8) 6 g10) 7 g11) 8 g12)) := hD
                                  refine pc_V0 (G := G) (As := [.int (nI tt)]) (rest := []) hx hb hml hown hq hE hX pX0_al hP hD hS hA hl.1 (R_ch l G h0 a (upd (upd (upd (upd F 4 (nI sz)) 9 (nI T)) 13 (nI us)) 14 (nI nm)) (updA (updA (updA (updA (updA (updA (updA B 2 g5) 3 g6) 4 g7) 5 g8) 6 g10) 7 g11) 8 g12) tt sz (by omega) (by omega)) (gV pw_1561 pw_1562 pw_1563 pw_1523 pw_1518) hV_X12_ch 0 9 rfl rfl rfl rfl (Nat.le_of_ble_eq_true rfl) dX12_cut_225 ⟨Nat.le_of_ble_eq_true rfl, Nat.le_of_ble_eq_true rfl⟩ ⟨Nat.le_of_ble_eq_true rfl, Nat.le_of_ble_eq_true rfl⟩ (fun v576 u574 H locs hw575 hP hD hS => ?_)
                                  obtain ⟨r577, rfl⟩ : ∃ z, z = u574 := ⟨_, rfl⟩
                                  obtain ⟨hw575, h578⟩ := hw575
                                  have h578 : r577 = (-1) ∨ tt < sz ∧ r577 = (updA (updA (updA (updA (updA (updA (updA B 2 g5) 3 g6) 4 g7) 5 g8) 6 g10) 7 g11) 8 g12) 1 tt := h578
                                  obtain rfl : v576 = some (.int r577) := hw575
                                  have hP : va_P G.1 pCl (mW G h0 a (upd (upd (upd (upd F 4 (nI sz)) 9 (nI T)) 13 (nI us)) 14 (nI nm)) (updA (updA (updA (updA (updA (updA (updA B 2 g5) 3 g6) 4 g7) 5 g8) 6 g10) 7 g11) 8 g12)) H := hP
                                  have hD : va_D A (mW G h0 a (upd (upd (upd (upd F 4 (nI sz)) 9 (nI T)) 13 (nI us)) 14 (nI nm)) (updA (updA (updA (updA (updA (updA (updA B 2 g5) 3 g6) 4 g7) 5 g8) 6 g10) 7 g11) 8 g12)) := hD
                                  refine W.widen (k := 0) (n := 0) (Nat.le_of_ble_eq_true rfl) (Nat.le_of_ble_eq_true rfl) ?_
                                  refine W.eq (g2 := F0 m 228 ls [.int r577]) rfl ?_
                                  refine pc_SN (G := G) (As := [.int r577]) (rest := []) hx hb hml hown hq hE hX pX0_al hP hS hA hl.1 (s_isDigit l G r577) (gS pw_1577 pw_1578 pw_1523 pw_1524) hS_X12_isDigit rfl (Nat.le_of_ble_eq_true rfl) dX12_cut_228 ⟨Nat.le_of_ble_eq_true rfl, Nat.le_of_ble_eq_true rfl⟩ ⟨Nat.le_of_ble_eq_true rfl, Nat.le_of_ble_eq_true rfl⟩ (fun v581 u579 H locs hw580 hP hS => ?_)
                                  obtain ⟨x582, rfl, hr583, hr584⟩ := hw580
                                  refine W.widen (k := 0) (n := 0) (Nat.le_of_ble_eq_true rfl) (Nat.le_of_ble_eq_true rfl) ?_
                                  refine W.eq (g2 := F0 m 231 ls [.int x582]) rfl ?_
                                  refine lv_if_eq (tgt := 240) hx hb dX12_cut_231 (by decide) (fun c585 => ?_) (fun c585 => ?_)
                                  · refine lv_aload_n hx hb dX12_cut_240 rfl (lv_at hl 5 rfl) ?_
                                    refine lv_iload_n hx hb dX12_cut_241 rfl (lv_at hl 3 rfl) ?_
                                    refine lv_iload_n hx hb dX12_cut_242 rfl (lv_at hl 0 rfl) ?_
                                    have hP : va_P G.1 pCl (mW G h0 a (upd (upd (upd (upd F 4 (nI sz)) 9 (nI T)) 13 (nI us)) 14 (nI nm)) (updA (updA (updA (updA (updA (updA (updA B 2 g5) 3 g6) 4 g7) 5 g8) 6 g10) 7 g11) 8 g12)) H := hP
                                    have hD : va_D A (mW G h0 a (upd (upd (upd (upd F 4 (nI sz)) 9 (nI T)) 13 (nI us)) 14 (nI nm)) (updA (updA (updA (updA (updA (updA (updA B 2 g5) 3 g6) 4 g7) 5 g8) 6 g10) 7 g11) 8 g12)) := hD
                                    refine pc_V0 (G := G) (As := [.int (nI i1), .int (nI tt)]) (rest := []) hx hb hml hown hq hE hX pX0_al hP hD hS hA hl.1 (R_wordOf l G h0 a (upd (upd (upd (upd F 4 (nI sz)) 9 (nI T)) 13 (nI us)) 14 (nI nm)) (updA (updA (updA (updA (updA (updA (updA B 2 g5) 3 g6) 4 g7) 5 g8) 6 g10) 7 g11) 8 g12) i1 tt (by omega) (by omega) htt) (gV pw_1579 pw_1580 pw_1581 pw_1523 pw_1527) hV_X12_wordOf 0 9 rfl rfl rfl rfl (Nat.le_of_ble_eq_true rfl) dX12_cut_243 ⟨Nat.le_of_ble_eq_true rfl, Nat.le_of_ble_eq_true rfl⟩ ⟨Nat.le_of_ble_eq_true rfl, Nat.le_of_ble_eq_true rfl⟩ (fun v588 u586 H locs hw587 hP hD hS => ?_)
                                    obtain ⟨r589, rfl⟩ : ∃ z, z = u586 := ⟨_, rfl⟩
                                    obtain rfl : v588 = some (.int r589) := hw587
                                    have hP : va_P G.1 pCl (mW G h0 a (upd (upd (upd (upd F 4 (nI sz)) 9 (nI T)) 13 (nI us)) 14 (nI nm)) (updA (updA (updA (updA (updA (updA (updA B 2 g5) 3 g6) 4 g7) 5 g8) 6 g10) 7 g11) 8 g12)) H := hP
                                    have hD : va_D A (mW G h0 a (upd (upd (upd (upd F 4 (nI sz)) 9 (nI T)) 13 (nI us)) 14 (nI nm)) (updA (updA (updA (updA (updA (updA (updA B 2 g5) 3 g6) 4 g7) 5 g8) 6 g10) 7 g11) 8 g12)) := hD
                                    refine W.widen (k := 0) (n := 0) (Nat.le_of_ble_eq_true rfl) (Nat.le_of_ble_eq_true rfl) ?_
                                    refine W.eq (g2 := F0 m 246 ls [.int r589]) rfl ?_
                                    refine lv_istore (lv' := [(4, .int r589), (3, .int (nI tt)), (5, .int 0), (1, .int (nI i1)), (2, .int 1), (0, .ref h0)]) hx hb dX12_cut_246 hl (by decide) rfl (fun ls hl => ?_)
                                    refine lv_iload hx hb dX12_cut_248 (lv_at hl 0 rfl) ?_
                                    refine lv_iconst (v := 1) hx hb dX12_cut_250 (by decide) ?_
                                    refine lv_icmp_ne (tgt := 268) hx hb dX12_cut_251 (by decide) (fun c590 => ?_) (fun c590 => ?_)
                                    · refine lv_iload hx hb dX12_cut_268 (lv_at hl 0 rfl) ?_
                                      refine lv_iconst (v := 1) hx hb dX12_cut_270 (by decide) ?_
                                      refine lv_icmp_ne (tgt := 472) hx hb dX12_cut_271 (by decide) (fun c591 => ?_) (fun c591 => ?_)
                                      · have hP : va_P G.1 pCl (mW G h0 a (upd (upd (upd (upd F 4 (nI sz)) 9 (nI T)) 13 (nI us)) 14 (nI nm)) (updA (updA (updA (updA (updA (updA (updA B 2 g5) 3 g6) 4 g7) 5 g8) 6 g10) 7 g11) 8 g12)) H := hP
                                        have hD : va_D A (mW G h0 a (upd (upd (upd (upd F 4 (nI sz)) 9 (nI T)) 13 (nI us)) 14 (nI nm)) (updA (updA (updA (updA (updA (updA (updA B 2 g5) 3 g6) 4 g7) 5 g8) 6 g10) 7 g11) 8 g12)) := hD
                                        exact cut_j r589 0 tt nm us g10 g11 g12 _ _ _ (by omega) (by omega) (Or.inr (by omega)) (by omega) (by omega) (by omega) hR (fun e9 => absurd e9 c591) hP hD hS (lv_sub hl [3, 4, 1, 0, 2, 5] rfl)
                                      · refine lv_aload_n hx hb dX12_cut_274 rfl (lv_at hl 5 rfl) ?_
                                        refine lv_iload_n hx hb dX12_cut_275 rfl (lv_at hl 3 rfl) ?_
                                        refine lv_iload_n hx hb dX12_cut_276 rfl (lv_at hl 1 rfl) ?_
                                        have hP : va_P G.1 pCl (mW G h0 a (upd (upd (upd (upd (upd (upd F 4 (nI sz)) 9 (nI T)) 13 (nI us)) 14 (nI nm)) 13 (nI us)) 14 (nI nm)) (updA (updA (updA (updA (updA (updA (updA (updA (updA (updA B 2 g5) 3 g6) 4 g7) 5 g8) 6 g10) 7 g11) 8 g12) 6 g10) 7 g11) 8 g12)) H := hP
                                        have hD : va_D A (mW G h0 a (upd (upd (upd (upd (upd (upd F 4 (nI sz)) 9 (nI T)) 13 (nI us)) 14 (nI nm)) 13 (nI us)) 14 (nI nm)) (updA (updA (updA (updA (updA (updA (updA (updA (updA (updA B 2 g5) 3 g6) 4 g7) 5 g8) 6 g10) 7 g11) 8 g12) 6 g10) 7 g11) 8 g12)) := hD
                                        refine pc_V0 (G := G) (As := [.int (nI i1), .int (nI tt)]) (rest := []) hx hb hml hown hq hE hX pX0_al hP hD hS hA hl.1 (R_intern l G h0 a (upd (upd (upd (upd F 4 (nI sz)) 9 (nI T)) 13 (nI us)) 14 (nI nm)) (updA (updA (updA (updA (updA (updA (updA B 2 g5) 3 g6) 4 g7) 5 g8) 6 g10) 7 g11) 8 g12) i1 tt nm us g10 g11 g12 (by omega) (by omega) (by omega) (by omega) hR) (gV pw_1582 pw_1583 pw_1584 pw_1523 pw_1528) hV_X12_intern 0 9 rfl rfl rfl rfl (Nat.le_of_ble_eq_true rfl) dX12_cut_277 ⟨Nat.le_of_ble_eq_true rfl, Nat.le_of_ble_eq_true rfl⟩ ⟨Nat.le_of_ble_eq_true rfl, Nat.le_of_ble_eq_true rfl⟩ (fun v594 u592 H locs hw593 hP hD hS => ?_)
                                        obtain ⟨nm595, us596, g597, g598, g599, r600⟩ := u592
                                        obtain ⟨hw593, h601, h602, h603, h604, h605⟩ := hw593
                                        have h601 : nm595 ≤ nm + 1 := h601
                                        have h602 : us596 ≤ us + (tt - i1) := h602
                                        have h603 : rNm nm595 us596 g597 g598 := h603
                                        have h604 : ∃ k : Nat, k < nm595 ∧ r600 = nI k := h604
                                        have h605 : nm ≤ nm595 := h605
                                        obtain rfl : v594 = some (.int r600) := hw593
                                        have hP : va_P G.1 pCl (mW G h0 a (upd (upd (upd (upd F 4 (nI sz)) 9 (nI T)) 13 (nI us596)) 14 (nI nm595)) (updA (updA (updA (updA (updA (updA (updA B 2 g5) 3 g6) 4 g7) 5 g8) 6 g597) 7 g598) 8 g599)) H := hP
                                        have hD : va_D A (mW G h0 a (upd (upd (upd (upd F 4 (nI sz)) 9 (nI T)) 13 (nI us596)) 14 (nI nm595)) (updA (updA (updA (updA (updA (updA (updA B 2 g5) 3 g6) 4 g7) 5 g8) 6 g597) 7 g598) 8 g599)) := hD
                                        refine W.widen (k := 0) (n := 0) (Nat.le_of_ble_eq_true rfl) (Nat.le_of_ble_eq_true rfl) ?_
                                        refine W.eq (g2 := F0 m 280 ls [.int r600]) rfl ?_
                                        refine lv_istore (lv' := [(5, .int r600), (4, .int r589), (3, .int (nI tt)), (1, .int (nI i1)), (2, .int 1), (0, .ref h0)]) hx hb dX12_cut_280 hl (by decide) rfl (fun ls hl => ?_)
                                        refine lv_goto (tgt := 472) hx hb dX12_cut_282 (by decide) ?_
                                        have hP : va_P G.1 pCl (mW G h0 a (upd (upd (upd (upd F 4 (nI sz)) 9 (nI T)) 13 (nI us596)) 14 (nI nm595)) (updA (updA (updA (updA (updA (updA (updA B 2 g5) 3 g6) 4 g7) 5 g8) 6 g597) 7 g598) 8 g599)) H := hP
                                        have hD : va_D A (mW G h0 a (upd (upd (upd (upd F 4 (nI sz)) 9 (nI T)) 13 (nI us596)) 14 (nI nm595)) (updA (updA (updA (updA (updA (updA (updA B 2 g5) 3 g6) 4 g7) 5 g8) 6 g597) 7 g598) 8 g599)) := hD
                                        exact cut_j r589 r600 tt nm595 us596 g597 g598 g599 _ _ _ (by omega) (by omega) (Or.inr (by omega)) (by omega) (by omega) (by omega) h603 (fun _ => h604) hP hD hS (lv_sub hl [3, 4, 2, 1, 0, 5] rfl)
                                    · refine lv_iload_n hx hb dX12_cut_254 rfl (lv_at hl 1 rfl) ?_
                                      refine lv_iload_n hx hb dX12_cut_255 rfl (lv_at hl 3 rfl) ?_
                                      refine lv_isub hx hb dX12_cut_256 ?_
                                      refine lv_topi (fun x606 e607 => ?_)
                                      obtain rfl : x606 = nI (tt - i1) := e607.trans (nI_subN (a := i1) (b := tt) (by omega))
                                      refine lv_bipush (v := 16) hx hb dX12_cut_257 (by decide) ?_
                                      refine lv_icmp_le (tgt := 268) hx hb dX12_cut_259 (by decide) (fun c608 => ?_) (fun c608 => ?_)
                                      · have n609 : (tt - i1) ≤ 16 := (nI_leI (a := (tt - i1)) (b := 16) (by omega) (by omega)).mp c608
                                        refine lv_iload hx hb dX12_cut_268 (lv_at hl 0 rfl) ?_
                                        refine lv_iconst (v := 1) hx hb dX12_cut_270 (by decide) ?_
                                        refine lv_icmp_ne (tgt := 472) hx hb dX12_cut_271 (by decide) (fun c610 => ?_) (fun c610 => ?_)
                                        · have hP : va_P G.1 pCl (mW G h0 a (upd (upd (upd (upd F 4 (nI sz)) 9 (nI T)) 13 (nI us)) 14 (nI nm)) (updA (updA (updA (updA (updA (updA (updA B 2 g5) 3 g6) 4 g7) 5 g8) 6 g10) 7 g11) 8 g12)) H := hP
                                          have hD : va_D A (mW G h0 a (upd (upd (upd (upd F 4 (nI sz)) 9 (nI T)) 13 (nI us)) 14 (nI nm)) (updA (updA (updA (updA (updA (updA (updA B 2 g5) 3 g6) 4 g7) 5 g8) 6 g10) 7 g11) 8 g12)) := hD
                                          exact cut_j r589 0 tt nm us g10 g11 g12 _ _ _ (by omega) (by omega) (Or.inr (by omega)) (by omega) (by omega) (by omega) hR (fun e9 => absurd e9 c610) hP hD hS (lv_sub hl [3, 4, 1, 0, 2, 5] rfl)
                                        · refine lv_aload_n hx hb dX12_cut_274 rfl (lv_at hl 5 rfl) ?_
                                          refine lv_iload_n hx hb dX12_cut_275 rfl (lv_at hl 3 rfl) ?_
                                          refine lv_iload_n hx hb dX12_cut_276 rfl (lv_at hl 1 rfl) ?_
                                          have hP : va_P G.1 pCl (mW G h0 a (upd (upd (upd (upd (upd (upd F 4 (nI sz)) 9 (nI T)) 13 (nI us)) 14 (nI nm)) 13 (nI us)) 14 (nI nm)) (updA (updA (updA (updA (updA (updA (updA (updA (updA (updA B 2 g5) 3 g6) 4 g7) 5 g8) 6 g10) 7 g11) 8 g12) 6 g10) 7 g11) 8 g12)) H := hP
                                          have hD : va_D A (mW G h0 a (upd (upd (upd (upd (upd (upd F 4 (nI sz)) 9 (nI T)) 13 (nI us)) 14 (nI nm)) 13 (nI us)) 14 (nI nm)) (updA (updA (updA (updA (updA (updA (updA (updA (updA (updA B 2 g5) 3 g6) 4 g7) 5 g8) 6 g10) 7 g11) 8 g12) 6 g10) 7 g11) 8 g12)) := hD
                                          refine pc_V0 (G := G) (As := [.int (nI i1), .int (nI tt)]) (rest := []) hx hb hml hown hq hE hX pX0_al hP hD hS hA hl.1 (R_intern l G h0 a (upd (upd (upd (upd F 4 (nI sz)) 9 (nI T)) 13 (nI us)) 14 (nI nm)) (updA (updA (updA (updA (updA (updA (updA B 2 g5) 3 g6) 4 g7) 5 g8) 6 g10) 7 g11) 8 g12) i1 tt nm us g10 g11 g12 (by omega) (by omega) (by omega) (by omega) hR) (gV pw_1582 pw_1583 pw_1584 pw_1523 pw_1528) hV_X12_intern 0 9 rfl rfl rfl rfl (Nat.le_of_ble_eq_true rfl) dX12_cut_277 ⟨Nat.le_of_ble_eq_true rfl, Nat.le_of_ble_eq_true rfl⟩ ⟨Nat.le_of_ble_eq_true rfl, Nat.le_of_ble_eq_true rfl⟩ (fun v613 u611 H locs hw612 hP hD hS => ?_)
                                          obtain ⟨nm614, us615, g616, g617, g618, r619⟩ := u611
                                          obtain ⟨hw612, h620, h621, h622, h623, h624⟩ := hw612
                                          have h620 : nm614 ≤ nm + 1 := h620
                                          have h621 : us615 ≤ us + (tt - i1) := h621
                                          have h622 : rNm nm614 us615 g616 g617 := h622
                                          have h623 : ∃ k : Nat, k < nm614 ∧ r619 = nI k := h623
                                          have h624 : nm ≤ nm614 := h624
                                          obtain rfl : v613 = some (.int r619) := hw612
                                          have hP : va_P G.1 pCl (mW G h0 a (upd (upd (upd (upd F 4 (nI sz)) 9 (nI T)) 13 (nI us615)) 14 (nI nm614)) (updA (updA (updA (updA (updA (updA (updA B 2 g5) 3 g6) 4 g7) 5 g8) 6 g616) 7 g617) 8 g618)) H := hP
                                          have hD : va_D A (mW G h0 a (upd (upd (upd (upd F 4 (nI sz)) 9 (nI T)) 13 (nI us615)) 14 (nI nm614)) (updA (updA (updA (updA (updA (updA (updA B 2 g5) 3 g6) 4 g7) 5 g8) 6 g616) 7 g617) 8 g618)) := hD
                                          refine W.widen (k := 0) (n := 0) (Nat.le_of_ble_eq_true rfl) (Nat.le_of_ble_eq_true rfl) ?_
                                          refine W.eq (g2 := F0 m 280 ls [.int r619]) rfl ?_
                                          refine lv_istore (lv' := [(5, .int r619), (4, .int r589), (3, .int (nI tt)), (1, .int (nI i1)), (2, .int 1), (0, .ref h0)]) hx hb dX12_cut_280 hl (by decide) rfl (fun ls hl => ?_)
                                          refine lv_goto (tgt := 472) hx hb dX12_cut_282 (by decide) ?_
                                          have hP : va_P G.1 pCl (mW G h0 a (upd (upd (upd (upd F 4 (nI sz)) 9 (nI T)) 13 (nI us615)) 14 (nI nm614)) (updA (updA (updA (updA (updA (updA (updA B 2 g5) 3 g6) 4 g7) 5 g8) 6 g616) 7 g617) 8 g618)) H := hP
                                          have hD : va_D A (mW G h0 a (upd (upd (upd (upd F 4 (nI sz)) 9 (nI T)) 13 (nI us615)) 14 (nI nm614)) (updA (updA (updA (updA (updA (updA (updA B 2 g5) 3 g6) 4 g7) 5 g8) 6 g616) 7 g617) 8 g618)) := hD
                                          exact cut_j r589 r619 tt nm614 us615 g616 g617 g618 _ _ _ (by omega) (by omega) (Or.inr (by omega)) (by omega) (by omega) (by omega) h622 (fun _ => h623) hP hD hS (lv_sub hl [3, 4, 2, 1, 0, 5] rfl)
                                      · have n625 : ¬ ((tt - i1) ≤ 16) := fun h9 => c608 ((nI_leI (a := (tt - i1)) (b := 16) (by omega) (by omega)).mpr h9)
                                        refine lv_iconst (v := 3) hx hb dX12_cut_262 (by decide) ?_
                                        refine lv_istore (lv' := [(4, .int 3), (3, .int (nI tt)), (5, .int 0), (1, .int (nI i1)), (2, .int 1), (0, .ref h0)]) hx hb dX12_cut_263 hl (by decide) rfl (fun ls hl => ?_)
                                        refine lv_goto (tgt := 472) hx hb dX12_cut_265 (by decide) ?_
                                        have hP : va_P G.1 pCl (mW G h0 a (upd (upd (upd (upd F 4 (nI sz)) 9 (nI T)) 13 (nI us)) 14 (nI nm)) (updA (updA (updA (updA (updA (updA (updA B 2 g5) 3 g6) 4 g7) 5 g8) 6 g10) 7 g11) 8 g12)) H := hP
                                        have hD : va_D A (mW G h0 a (upd (upd (upd (upd F 4 (nI sz)) 9 (nI T)) 13 (nI us)) 14 (nI nm)) (updA (updA (updA (updA (updA (updA (updA B 2 g5) 3 g6) 4 g7) 5 g8) 6 g10) 7 g11) 8 g12)) := hD
                                        exact cut_j 3 0 tt nm us g10 g11 g12 _ _ _ (by omega) (by omega) (Or.inr (by omega)) (by omega) (by omega) (by omega) hR (fun e9 => absurd e9 (by decide)) hP hD hS (lv_sub hl [3, 4, 1, 0, 2, 5] rfl)
                                  · have hc48 : ¬ r577 < 48 := (hr583).resolve_left c585
                                    have hlet2 : tt < sz ∧ ¬ B 1 tt = 32 := ⟨chin h578 (noM1 hc48), by rw [← ((h578).resolve_left (noM1 hc48)).2]; exact no32 hc48⟩
                                    refine lv_iinc (v := (nI (tt + 1))) (lv' := [(3, .int (nI (tt + 1))), (4, .int 0), (5, .int 0), (1, .int (nI i1)), (2, .int 1), (0, .ref h0)]) hx hb dX12_cut_234 hl (k := 0) rfl (nI_1 tt) (by decide) rfl (fun ls hl => ?_)
                                    refine lv_goto (tgt := 212) hx hb dX12_cut_237 (by decide) ?_
                                    have hP : va_P G.1 pCl (mW G h0 a (upd (upd (upd (upd F 4 (nI sz)) 9 (nI T)) 13 (nI us)) 14 (nI nm)) (updA (updA (updA (updA (updA (updA (updA B 2 g5) 3 g6) 4 g7) 5 g8) 6 g10) 7 g11) 8 g12)) H := hP
                                    have hD : va_D A (mW G h0 a (upd (upd (upd (upd F 4 (nI sz)) 9 (nI T)) 13 (nI us)) 14 (nI nm)) (updA (updA (updA (updA (updA (updA (updA B 2 g5) 3 g6) 4 g7) 5 g8) 6 g10) 7 g11) 8 g12)) := hD
                                    exact ih_w (tt + 1) _ _ _ (by have := hlet2.1; omega) (by omega) (by omega) (fun j h8 h9 => by by_cases e9 : j = tt; · rw [e9]; exact hlet2.2; · exact htt j h8 (by omega)) hP hD hS (lv_sub hl [0, 1, 2, 3, 4, 5] rfl)
                            have hP : va_P G.1 pCl (mW G h0 a (upd (upd (upd (upd F 4 (nI sz)) 9 (nI T)) 13 (nI us)) 14 (nI nm)) (updA (updA (updA (updA (updA (updA (updA B 2 g5) 3 g6) 4 g7) 5 g8) 6 g10) 7 g11) 8 g12)) H := hP
                            have hD : va_D A (mW G h0 a (upd (upd (upd (upd F 4 (nI sz)) 9 (nI T)) 13 (nI us)) 14 (nI nm)) (updA (updA (updA (updA (updA (updA (updA B 2 g5) 3 g6) 4 g7) 5 g8) 6 g10) 7 g11) 8 g12)) := hD
                            exact loop_w (sz + 1) (i1 + 1) _ _ _ (by omega) (by omega) (by omega) (fun j h8 h9 => by rw [show j = i1 by omega]; exact hlet.2) hP hD hS (lv_sub hl [2, 1, 0, 3, 4, 5] rfl)
                        · have n626 : ¬ (i1 < sz) := fun h9 => c369 ((nI_ltI (a := i1) (b := sz) (by omega) (by omega)).mpr h9)
                          refine lv_iload_n hx hb dX12_cut_196 rfl (lv_at hl 3 rfl) ?_
                          refine lv_istore_n (lv' := [(3, .int (nI i1)), (5, .int 0), (4, .int 0), (1, .int (nI i1)), (2, .int 1), (0, .ref h0)]) hx hb dX12_cut_197 rfl hl (by decide) rfl (fun ls hl => ?_)
                          refine lv_goto (tgt := 472) hx hb dX12_cut_198 (by decide) ?_
                          have hP : va_P G.1 pCl (mW G h0 a (upd (upd (upd (upd F 4 (nI sz)) 9 (nI T)) 13 (nI us)) 14 (nI nm)) (updA (updA (updA (updA (updA (updA (updA B 2 g5) 3 g6) 4 g7) 5 g8) 6 g10) 7 g11) 8 g12)) H := hP
                          have hD : va_D A (mW G h0 a (upd (upd (upd (upd F 4 (nI sz)) 9 (nI T)) 13 (nI us)) 14 (nI nm)) (updA (updA (updA (updA (updA (updA (updA B 2 g5) 3 g6) 4 g7) 5 g8) 6 g10) 7 g11) 8 g12)) := hD
                          exact cut_j 0 0 i1 nm us g10 g11 g12 _ _ _ (by omega) (by omega) (Or.inl rfl) (by omega) (by omega) (by omega) hR (fun e9 => absurd e9 (by decide)) hP hD hS (lv_sub hl [3, 4, 0, 2, 1, 5] rfl)
                      · have loop_n : ∀ (n_n : Nat) (i2 : Nat) (H : Heap) (locs : List Loc) (ls : Array Slot), i2 ≤ sz → sz + 1 ≤ i2 + n_n → (i1 ≤ i2) → va_P G.1 pCl (mW G h0 a (upd (upd (upd (upd F 4 (nI sz)) 9 (nI T)) 13 (nI us)) 14 (nI nm)) (updA (updA (updA (updA (updA (updA (updA B 2 g5) 3 g6) 4 g7) 5 g8) 6 g10) 7 g11) 8 g12)) H → va_D A (mW G h0 a (upd (upd (upd (upd F 4 (nI sz)) 9 (nI T)) 13 (nI us)) 14 (nI nm)) (updA (updA (updA (updA (updA (updA (updA B 2 g5) 3 g6) 4 g7) 5 g8) 6 g10) 7 g11) 8 g12)) → va_S A s.heap H locs → lv_has ls 9 [(1, .int (nI i2)), (2, .int 1), (0, .ref h0)] → W p l e (headSpec (Cond.code yX12_cut cX12_cut 9 none :: pw) ({ frames := 7, cells := 0, slots := 0, locals := 174 } : Room)).room s m ([.ref h0] : List Value).toArray below meth c H locs 0 0 (MQ below (pQ G A (fun (v : Option Value) (u : Nat × Nat × Nat × (Nat → Int32) × (Nat → Int32) × (Nat → Int32) × (Nat → Int32) × (Nat → Int32) × (Nat → Int32) × (Nat → Int32)) => v = none ∧ (u.1 ≤ sz) ∧ (u.2.2.2.2.2.2.1 u.1 = 0 ∨ u.2.2.2.2.2.2.1 u.1 = 3) ∧ (rNm u.2.1 u.2.2.1 u.2.2.2.1 u.2.2.2.2.1) ∧ (u.2.1 ≤ 9 + sz) ∧ (u.2.2.1 ≤ 40 + sz) ∧ (rTk u.1 u.2.1 u.2.2.2.2.2.2.1 u.2.2.2.2.2.2.2.2.2) ∧ (9 ≤ u.2.1)) (fun u => (mW G h0 a (upd (upd (upd (upd F 4 (nI sz)) 9 (nI u.1)) 13 (nI u.2.2.1)) 14 (nI u.2.1)) (updA (updA (updA (updA (updA (updA (updA B 2 u.2.2.2.2.2.2.1) 3 u.2.2.2.2.2.2.2.1) 4 u.2.2.2.2.2.2.2.2.1) 5 u.2.2.2.2.2.2.2.2.2) 6 u.2.2.2.1) 7 u.2.2.2.2.1) 8 u.2.2.2.2.2.1)))) ([.ref h0] : List Value).toArray s ({ frames := 7, cells := 0, slots := 0, locals := 174 } : Room).cells ({ frames := 7, cells := 0, slots := 0, locals := 174 } : Room).slots A) (F0 m 154 ls []) := by
                          intro n_n
                          induction n_n with
                          | zero => intro i2 H locs ls hk_n hn_n; omega
                          | succ n_n ih_n =>
                            intro i2 H locs ls hk_n hn_n hi2 hP hD hS hl
                            refine lv_iload_n hx hb dX12_cut_154 rfl (lv_at hl 0 rfl) ?_
                            refine lv_aload_n hx hb dX12_cut_155 rfl (lv_at hl 2 rfl) ?_
                            refine r_get (v := .int (nI sz)) hx hb hown hq hE hP 4 258 tFX12_4 (by decide) pw_1519 rfl dX12_cut_156 ?_
                            refine lv_icmp_ge (tgt := 82) hx hb dX12_cut_159 (by decide) (fun c627 => ?_) (fun c627 => ?_)
                            · have n628 : sz ≤ i2 := (nI_leI (a := sz) (b := i2) (by omega) (by omega)).mp c627
                              have hgt : i1 < i2 := by have := h47.1; omega
                              have hP : va_P G.1 pCl (mW G h0 a (upd (upd (upd (upd F 4 (nI sz)) 9 (nI T)) 13 (nI us)) 14 (nI nm)) (updA (updA (updA (updA (updA (updA (updA B 2 g5) 3 g6) 4 g7) 5 g8) 6 g10) 7 g11) 8 g12)) H := hP
                              have hD : va_D A (mW G h0 a (upd (upd (upd (upd F 4 (nI sz)) 9 (nI T)) 13 (nI us)) 14 (nI nm)) (updA (updA (updA (updA (updA (updA (updA B 2 g5) 3 g6) 4 g7) 5 g8) 6 g10) 7 g11) 8 g12)) := hD
                              exact ih_o i2 i2 T nm us 1 g10 g11 g12 g5 g6 g7 g8 _ _ _ (by omega) (by omega) (Or.inl ⟨rfl, rfl⟩) (by omega) (by omega) (by omega) (by omega) (fun h9 => absurd h9 (by decide)) hR hTk (by omega) hP hD hS (lv_sub hl [0, 1, 2] rfl)
                            · have n629 : ¬ (sz ≤ i2) := fun h9 => c627 ((nI_leI (a := sz) (b := i2) (by omega) (by omega)).mpr h9)
                              refine lv_aload_n hx hb dX12_cut_162 rfl (lv_at hl 2 rfl) ?_
                              refine lv_iload_n hx hb dX12_cut_163 rfl (lv_at hl 0 rfl) ?_
                              have hP : va_P G.1 pCl (mW G h0 a (upd (upd (upd (upd (upd F 4 (nI sz)) 9 (nI T)) 13 (nI us)) 14 (nI nm)) 4 (nI sz)) (updA (updA (updA (updA (updA (updA (updA B 2 g5) 3 g6) 4 g7) 5 g8) 6 g10) 7 g11) 8 g12)) H := hP
                              have hD : va_D A (mW G h0 a (upd (upd (upd (upd (upd F 4 (nI sz)) 9 (nI T)) 13 (nI us)) 14 (nI nm)) 4 (nI sz)) (updA (updA (updA (updA (updA (updA (updA B 2 g5) 3 g6) 4 g7) 5 g8) 6 g10) 7 g11) 8 g12)) := hD
                              refine pc_V0 (G := G) (As := [.int (nI i2)]) (rest := []) hx hb hml hown hq hE hX pX0_al hP hD hS hA hl.1 (R_ch l G h0 a (upd (upd (upd (upd F 4 (nI sz)) 9 (nI T)) 13 (nI us)) 14 (nI nm)) (updA (updA (updA (updA (updA (updA (updA B 2 g5) 3 g6) 4 g7) 5 g8) 6 g10) 7 g11) 8 g12) i2 sz (by omega) (by omega)) (gV pw_1561 pw_1562 pw_1563 pw_1523 pw_1518) hV_X12_ch 0 9 rfl rfl rfl rfl (Nat.le_of_ble_eq_true rfl) dX12_cut_164 ⟨Nat.le_of_ble_eq_true rfl, Nat.le_of_ble_eq_true rfl⟩ ⟨Nat.le_of_ble_eq_true rfl, Nat.le_of_ble_eq_true rfl⟩ (fun v632 u630 H locs hw631 hP hD hS => ?_)
                              obtain ⟨r633, rfl⟩ : ∃ z, z = u630 := ⟨_, rfl⟩
                              obtain ⟨hw631, h634⟩ := hw631
                              have h634 : r633 = (-1) ∨ i2 < sz ∧ r633 = (updA (updA (updA (updA (updA (updA (updA B 2 g5) 3 g6) 4 g7) 5 g8) 6 g10) 7 g11) 8 g12) 1 i2 := h634
                              obtain rfl : v632 = some (.int r633) := hw631
                              have hP : va_P G.1 pCl (mW G h0 a (upd (upd (upd (upd F 4 (nI sz)) 9 (nI T)) 13 (nI us)) 14 (nI nm)) (updA (updA (updA (updA (updA (updA (updA B 2 g5) 3 g6) 4 g7) 5 g8) 6 g10) 7 g11) 8 g12)) H := hP
                              have hD : va_D A (mW G h0 a (upd (upd (upd (upd F 4 (nI sz)) 9 (nI T)) 13 (nI us)) 14 (nI nm)) (updA (updA (updA (updA (updA (updA (updA B 2 g5) 3 g6) 4 g7) 5 g8) 6 g10) 7 g11) 8 g12)) := hD
                              refine W.widen (k := 0) (n := 0) (Nat.le_of_ble_eq_true rfl) (Nat.le_of_ble_eq_true rfl) ?_
                              refine W.eq (g2 := F0 m 167 ls [.int r633]) rfl ?_
                              refine lv_bipush (v := 10) hx hb dX12_cut_167 (by decide) ?_
                              refine lv_icmp_eq (tgt := 82) hx hb dX12_cut_169 (by decide) (fun c635 => ?_) (fun c635 => ?_)
                              · have hgt : i1 < i2 := Nat.lt_of_le_of_ne hi2 (fun e9 => by have h8 := ((h634).resolve_left (by rw [c635]; decide)).2; rw [c635, ← e9, h47.2] at h8; exact absurd h8 (by decide))
                                have hP : va_P G.1 pCl (mW G h0 a (upd (upd (upd (upd F 4 (nI sz)) 9 (nI T)) 13 (nI us)) 14 (nI nm)) (updA (updA (updA (updA (updA (updA (updA B 2 g5) 3 g6) 4 g7) 5 g8) 6 g10) 7 g11) 8 g12)) H := hP
                                have hD : va_D A (mW G h0 a (upd (upd (upd (upd F 4 (nI sz)) 9 (nI T)) 13 (nI us)) 14 (nI nm)) (updA (updA (updA (updA (updA (updA (updA B 2 g5) 3 g6) 4 g7) 5 g8) 6 g10) 7 g11) 8 g12)) := hD
                                exact ih_o i2 i2 T nm us 1 g10 g11 g12 g5 g6 g7 g8 _ _ _ (by omega) (by omega) (Or.inl ⟨rfl, rfl⟩) (by omega) (by omega) (by omega) (by omega) (fun h9 => absurd h9 (by decide)) hR hTk (by omega) hP hD hS (lv_sub hl [0, 1, 2] rfl)
                              · refine lv_iinc (v := (nI (i2 + 1))) (lv' := [(1, .int (nI (i2 + 1))), (2, .int 1), (0, .ref h0)]) hx hb dX12_cut_172 hl (k := 0) rfl (nI_1 i2) (by decide) rfl (fun ls hl => ?_)
                                refine lv_goto (tgt := 154) hx hb dX12_cut_175 (by decide) ?_
                                have hP : va_P G.1 pCl (mW G h0 a (upd (upd (upd (upd F 4 (nI sz)) 9 (nI T)) 13 (nI us)) 14 (nI nm)) (updA (updA (updA (updA (updA (updA (updA B 2 g5) 3 g6) 4 g7) 5 g8) 6 g10) 7 g11) 8 g12)) H := hP
                                have hD : va_D A (mW G h0 a (upd (upd (upd (upd F 4 (nI sz)) 9 (nI T)) 13 (nI us)) 14 (nI nm)) (updA (updA (updA (updA (updA (updA (updA B 2 g5) 3 g6) 4 g7) 5 g8) 6 g10) 7 g11) 8 g12)) := hD
                                exact ih_n (i2 + 1) _ _ _ (by omega) (by omega) (by omega) hP hD hS (lv_sub hl [0, 1, 2] rfl)
                        have hP : va_P G.1 pCl (mW G h0 a (upd (upd (upd (upd F 4 (nI sz)) 9 (nI T)) 13 (nI us)) 14 (nI nm)) (updA (updA (updA (updA (updA (updA (updA B 2 g5) 3 g6) 4 g7) 5 g8) 6 g10) 7 g11) 8 g12)) H := hP
                        have hD : va_D A (mW G h0 a (upd (upd (upd (upd F 4 (nI sz)) 9 (nI T)) 13 (nI us)) 14 (nI nm)) (updA (updA (updA (updA (updA (updA (updA B 2 g5) 3 g6) 4 g7) 5 g8) 6 g10) 7 g11) 8 g12)) := hD
                        exact loop_n (sz + 1) i1 _ _ _ (by omega) (by omega) (by omega) hP hD hS (lv_sub hl [0, 1, 2] rfl)
                  · have hlt1 : i1 < sz := chin h69 (by rw [c70]; decide)
                    refine lv_iinc (v := (nI (i1 + 1))) (lv' := [(1, .int (nI (i1 + 1))), (2, .int 1), (0, .ref h0)]) hx hb dX12_cut_126 hl (k := 0) rfl (nI_1 i1) (by decide) rfl (fun ls hl => ?_)
                    refine lv_goto (tgt := 86) hx hb dX12_cut_129 (by decide) ?_
                    have hP : va_P G.1 pCl (mW G h0 a (upd (upd (upd (upd F 4 (nI sz)) 9 (nI T)) 13 (nI us)) 14 (nI nm)) (updA (updA (updA (updA (updA (updA (updA B 2 g5) 3 g6) 4 g7) 5 g8) 6 g10) 7 g11) 8 g12)) H := hP
                    have hD : va_D A (mW G h0 a (upd (upd (upd (upd F 4 (nI sz)) 9 (nI T)) 13 (nI us)) 14 (nI nm)) (updA (updA (updA (updA (updA (updA (updA B 2 g5) 3 g6) 4 g7) 5 g8) 6 g10) 7 g11) 8 g12)) := hD
                    exact ih_b (i1 + 1) _ _ _ (by omega) (by omega) (by omega) hP hD hS (lv_sub hl [0, 1, 2] rfl)
        have hP : va_P G.1 pCl (mW G h0 a (upd (upd (upd (upd F 4 (nI sz)) 9 (nI T)) 13 (nI us)) 14 (nI nm)) (updA (updA (updA (updA (updA (updA (updA B 2 g5) 3 g6) 4 g7) 5 g8) 6 g10) 7 g11) 8 g12)) H := hP
        have hD : va_D A (mW G h0 a (upd (upd (upd (upd F 4 (nI sz)) 9 (nI T)) 13 (nI us)) 14 (nI nm)) (updA (updA (updA (updA (updA (updA (updA B 2 g5) 3 g6) 4 g7) 5 g8) 6 g10) 7 g11) 8 g12)) := hD
        exact loop_b (sz + 1) i _ _ _ (by omega) (by omega) (by omega) hP hD hS (lv_sub hl [0, 1, 2] rfl)
  have hP : va_P G.1 pCl (mW G h0 a (upd (upd (upd (upd F 4 (nI sz)) 9 (nI 0)) 13 (nI 40)) 14 (nI 9)) (updA (updA (updA (updA (updA (updA (updA B 2 f5) 3 f6) 4 f7) 5 f8) 6 (upd (upd (upd (upd (upd (upd (upd (upd (upd f10 0 (nI 0)) 1 (nI 6)) 2 (nI 10)) 3 (nI 14)) 4 (nI 18)) 5 (nI 23)) 6 (nI 28)) 7 (nI 32)) 8 (nI 36))) 7 (upd (upd (upd (upd (upd (upd (upd (upd (upd f11 0 (nI 6)) 1 (nI 4)) 2 (nI 4)) 3 (nI 4)) 4 (nI 5)) 5 (nI 5)) 6 (nI 4)) 7 (nI 4)) 8 (nI 4))) 8 g44)) H := hP
  have hD : va_D A (mW G h0 a (upd (upd (upd (upd F 4 (nI sz)) 9 (nI 0)) 13 (nI 40)) 14 (nI 9)) (updA (updA (updA (updA (updA (updA (updA B 2 f5) 3 f6) 4 f7) 5 f8) 6 (upd (upd (upd (upd (upd (upd (upd (upd (upd f10 0 (nI 0)) 1 (nI 6)) 2 (nI 10)) 3 (nI 14)) 4 (nI 18)) 5 (nI 23)) 6 (nI 28)) 7 (nI 32)) 8 (nI 36))) 7 (upd (upd (upd (upd (upd (upd (upd (upd (upd f11 0 (nI 6)) 1 (nI 4)) 2 (nI 4)) 3 (nI 4)) 4 (nI 5)) 5 (nI 5)) 6 (nI 4)) 7 (nI 4)) 8 (nI 4))) 8 g44)) := hD
  exact loop_o ((sz + 1) + 1) 0 0 0 9 40 1 (upd (upd (upd (upd (upd (upd (upd (upd (upd f10 0 (nI 0)) 1 (nI 6)) 2 (nI 10)) 3 (nI 14)) 4 (nI 18)) 5 (nI 23)) 6 (nI 28)) 7 (nI 32)) 8 (nI 36)) (upd (upd (upd (upd (upd (upd (upd (upd (upd f11 0 (nI 6)) 1 (nI 4)) 2 (nI 4)) 3 (nI 4)) 4 (nI 5)) 5 (nI 5)) 6 (nI 4)) 7 (nI 4)) 8 (nI 4)) g44 f5 f6 f7 f8 _ _ _ (by omega) (by omega) (Or.inl ⟨rfl, rfl⟩) (by omega) (by omega) (by omega) (by omega) (fun h9 => absurd h9 (by decide)) hR45 (fun t ht => absurd ht (Nat.not_lt_zero _)) (by omega) hP hD hS (lv_sub hl [1, 0, 2] rfl)

section T3S
variable {X : Nat → Nat → Int32} {md d m o d' e' : Nat}
theorem T1P.no (hd : X 36 m = nI d') (he : X 36 o = nI e') (h1 : d' < 40) (h2 : e' < 40) (hz : X 31 (40 * e' + d') = 0) : T1P X m o := fun d e q1 q2 z1 z2 q3 _ => by
  have a : d = d' := (nI_eq (by omega) (by omega)).mp (q1.symm.trans hd)
  have b : e = e' := (nI_eq (by omega) (by omega)).mp (q2.symm.trans he)
  rw [a, b, hz] at q3
  exact absurd q3 (by decide)
def T2o (X : Nat → Nat → Int32) (d m o : Nat) : Prop := ∀ e2 : Nat, X 36 o = nI e2 → e2 < 40 → X 31 (40 * e2 + d) = 1 → X 37 o = X 37 m → Alk X m o
theorem T2o.no (he : X 36 o = nI e') (h2 : e' < 40) (hz : X 31 (40 * e' + d) = 0) : T2o X d m o := fun e q2 z2 q3 _ => by
  have b : e = e' := (nI_eq (by omega) (by omega)).mp (q2.symm.trans he)
  rw [b, hz] at q3
  exact absurd q3 (by decide)
theorem all_up7 {p : Nat → Prop} {k : Nat} (h : ∀ i : Nat, 7 ≤ i → i < k → p i) (g : p k) : ∀ i : Nat, 7 ≤ i → i < k + 1 → p i := fun i h7 hi => by
  by_cases e : i = k
  · rw [e]; exact g
  · exact h i h7 (by omega)
def TT (X : Nat → Nat → Int32) (md d m : Nat) : Prop := T2P X md d m ∧ T3P X md d m
theorem TT.no (he : X 36 m = nI e') (h2 : e' < 40) (hz : X 31 (40 * e' + d) = 0) : TT X md d m := by
  have k : ∀ e : Nat, X 36 m = nI e → e < 40 → ¬ X 31 (40 * e + d) = 1 := fun e q2 z2 q3 => by
    have b : e = e' := (nI_eq (by omega) (by omega)).mp (q2.symm.trans he)
    rw [b, hz] at q3
    exact absurd q3 (by decide)
  exact ⟨fun e a b c => absurd c (k e a b), fun e a b c => absurd c (k e a b)⟩
theorem T3P.no1 (h : ¬ X 26 d = 0) : T3P X md d m := fun _ _ _ _ q => absurd q h
theorem T3P.no2 (he : X 36 m = nI e') (h2 : e' < 40) (h : X 26 e' = 0) : T3P X md d m := fun e q1 z1 _ _ q => by
  have b : e = e' := (nI_eq (by omega) (by omega)).mp (q1.symm.trans he)
  rw [b] at q
  exact absurd h q
end T3S
theorem dX12_thirdRound_0 : decode cX12_thirdRound 0 = .ok (.iconst 0, 1) := by decide +kernel
theorem dX12_thirdRound_1 : decode cX12_thirdRound 1 = .ok (.istore_n 1, 1) := by decide +kernel
theorem dX12_thirdRound_2 : decode cX12_thirdRound 2 = .ok (.iload_n 1, 1) := by decide +kernel
theorem dX12_thirdRound_3 : decode cX12_thirdRound 3 = .ok (.aload_n 0, 1) := by decide +kernel
theorem dX12_thirdRound_4 : decode cX12_thirdRound 4 = .ok (.getfield 413, 3) := by decide +kernel
theorem dX12_thirdRound_7 : decode cX12_thirdRound 7 = .ok (.if_icmp .ge 70, 3) := by decide +kernel
theorem dX12_thirdRound_77 : decode cX12_thirdRound 77 = .ok (.iconst 0, 1) := by decide +kernel
theorem dX12_thirdRound_78 : decode cX12_thirdRound 78 = .ok (.istore_n 1, 1) := by decide +kernel
theorem dX12_thirdRound_79 : decode cX12_thirdRound 79 = .ok (.iload_n 1, 1) := by decide +kernel
theorem dX12_thirdRound_80 : decode cX12_thirdRound 80 = .ok (.aload_n 0, 1) := by decide +kernel
theorem dX12_thirdRound_81 : decode cX12_thirdRound 81 = .ok (.getfield 416, 3) := by decide +kernel
theorem dX12_thirdRound_84 : decode cX12_thirdRound 84 = .ok (.if_icmp .ge 80, 3) := by decide +kernel
theorem dX12_thirdRound_164 : decode cX12_thirdRound 164 = .ok (.bipush 7, 2) := by decide +kernel
theorem dX12_thirdRound_166 : decode cX12_thirdRound 166 = .ok (.istore_n 1, 1) := by decide +kernel
theorem dX12_thirdRound_167 : decode cX12_thirdRound 167 = .ok (.iload_n 1, 1) := by decide +kernel
theorem dX12_thirdRound_168 : decode cX12_thirdRound 168 = .ok (.aload_n 0, 1) := by decide +kernel
theorem dX12_thirdRound_169 : decode cX12_thirdRound 169 = .ok (.getfield 384, 3) := by decide +kernel
theorem dX12_thirdRound_172 : decode cX12_thirdRound 172 = .ok (.if_icmp .ge 224, 3) := by decide +kernel
theorem dX12_thirdRound_396 : decode cX12_thirdRound 396 = .ok (.aload_n 0, 1) := by decide +kernel
theorem dX12_thirdRound_397 : decode cX12_thirdRound 397 = .ok (.bipush 7, 2) := by decide +kernel
theorem dX12_thirdRound_399 : decode cX12_thirdRound 399 = .ok (.invokevirtual 499, 3) := by decide +kernel
theorem dX12_thirdRound_402 : decode cX12_thirdRound 402 = .ok (.istore_n 1, 1) := by decide +kernel
theorem dX12_thirdRound_403 : decode cX12_thirdRound 403 = .ok (.iload_n 1, 1) := by decide +kernel
theorem dX12_thirdRound_404 : decode cX12_thirdRound 404 = .ok (.iconst (-1), 1) := by decide +kernel
theorem dX12_thirdRound_405 : decode cX12_thirdRound 405 = .ok (.if_icmp .eq 12, 3) := by decide +kernel
theorem dX12_thirdRound_417 : decode cX12_thirdRound 417 = .ok (.iconst (-1), 1) := by decide +kernel
theorem dX12_thirdRound_418 : decode cX12_thirdRound 418 = .ok (.goto 10, 3) := by decide +kernel
theorem dX12_thirdRound_428 : decode cX12_thirdRound 428 = .ok (.istore_n 2, 1) := by decide +kernel
theorem dX12_thirdRound_429 : decode cX12_thirdRound 429 = .ok (.iload_n 2, 1) := by decide +kernel
theorem dX12_thirdRound_430 : decode cX12_thirdRound 430 = .ok (.iconst (-1), 1) := by decide +kernel
theorem dX12_thirdRound_431 : decode cX12_thirdRound 431 = .ok (.if_icmp .eq 21, 3) := by decide +kernel
theorem dX12_thirdRound_452 : decode cX12_thirdRound 452 = .ok (.aload_n 0, 1) := by decide +kernel
theorem dX12_thirdRound_453 : decode cX12_thirdRound 453 = .ok (.bipush 9, 2) := by decide +kernel
theorem dX12_thirdRound_455 : decode cX12_thirdRound 455 = .ok (.aload_n 0, 1) := by decide +kernel
theorem dX12_thirdRound_456 : decode cX12_thirdRound 456 = .ok (.getfield 314, 3) := by decide +kernel
theorem dX12_thirdRound_459 : decode cX12_thirdRound 459 = .ok (.invokevirtual 502, 3) := by decide +kernel
theorem dX12_thirdRound_462 : decode cX12_thirdRound 462 = .ok (.return_, 1) := by decide +kernel
theorem dX12_thirdRound_408 : decode cX12_thirdRound 408 = .ok (.aload_n 0, 1) := by decide +kernel
theorem dX12_thirdRound_409 : decode cX12_thirdRound 409 = .ok (.getfield 90, 3) := by decide +kernel
theorem dX12_thirdRound_412 : decode cX12_thirdRound 412 = .ok (.iload_n 1, 1) := by decide +kernel
theorem dX12_thirdRound_413 : decode cX12_thirdRound 413 = .ok (.baload, 1) := by decide +kernel
theorem dX12_thirdRound_414 : decode cX12_thirdRound 414 = .ok (.ifCond .eq 7, 3) := by decide +kernel
theorem dX12_thirdRound_421 : decode cX12_thirdRound 421 = .ok (.aload_n 0, 1) := by decide +kernel
theorem dX12_thirdRound_422 : decode cX12_thirdRound 422 = .ok (.iload_n 1, 1) := by decide +kernel
theorem dX12_thirdRound_423 : decode cX12_thirdRound 423 = .ok (.bipush 8, 2) := by decide +kernel
theorem dX12_thirdRound_425 : decode cX12_thirdRound 425 = .ok (.invokevirtual 515, 3) := by decide +kernel
theorem dX12_thirdRound_434 : decode cX12_thirdRound 434 = .ok (.aload_n 0, 1) := by decide +kernel
theorem dX12_thirdRound_435 : decode cX12_thirdRound 435 = .ok (.getfield 135, 3) := by decide +kernel
theorem dX12_thirdRound_438 : decode cX12_thirdRound 438 = .ok (.iload_n 2, 1) := by decide +kernel
theorem dX12_thirdRound_439 : decode cX12_thirdRound 439 = .ok (.iaload, 1) := by decide +kernel
theorem dX12_thirdRound_440 : decode cX12_thirdRound 440 = .ok (.ifCond .gt 12, 3) := by decide +kernel
theorem dX12_thirdRound_443 : decode cX12_thirdRound 443 = .ok (.aload_n 0, 1) := by decide +kernel
theorem dX12_thirdRound_444 : decode cX12_thirdRound 444 = .ok (.iload_n 2, 1) := by decide +kernel
theorem dX12_thirdRound_445 : decode cX12_thirdRound 445 = .ok (.invokevirtual 512, 3) := by decide +kernel
theorem dX12_thirdRound_448 : decode cX12_thirdRound 448 = .ok (.iconst 1, 1) := by decide +kernel
theorem dX12_thirdRound_449 : decode cX12_thirdRound 449 = .ok (.if_icmp .eq 13, 3) := by decide +kernel
theorem dX12_thirdRound_175 : decode cX12_thirdRound 175 = .ok (.iconst 0, 1) := by decide +kernel
theorem dX12_thirdRound_176 : decode cX12_thirdRound 176 = .ok (.istore_n 2, 1) := by decide +kernel
theorem dX12_thirdRound_177 : decode cX12_thirdRound 177 = .ok (.iload_n 2, 1) := by decide +kernel
theorem dX12_thirdRound_178 : decode cX12_thirdRound 178 = .ok (.aload_n 0, 1) := by decide +kernel
theorem dX12_thirdRound_179 : decode cX12_thirdRound 179 = .ok (.getfield 416, 3) := by decide +kernel
theorem dX12_thirdRound_182 : decode cX12_thirdRound 182 = .ok (.if_icmp .ge 208, 3) := by decide +kernel
theorem dX12_thirdRound_390 : decode cX12_thirdRound 390 = .ok (.iinc 1 1, 3) := by decide +kernel
theorem dX12_thirdRound_393 : decode cX12_thirdRound 393 = .ok (.goto (-226), 3) := by decide +kernel
theorem dX12_thirdRound_185 : decode cX12_thirdRound 185 = .ok (.aload_n 0, 1) := by decide +kernel
theorem dX12_thirdRound_186 : decode cX12_thirdRound 186 = .ok (.aload_n 0, 1) := by decide +kernel
theorem dX12_thirdRound_187 : decode cX12_thirdRound 187 = .ok (.getfield 120, 3) := by decide +kernel
theorem dX12_thirdRound_190 : decode cX12_thirdRound 190 = .ok (.iload_n 2, 1) := by decide +kernel
theorem dX12_thirdRound_191 : decode cX12_thirdRound 191 = .ok (.iaload, 1) := by decide +kernel
theorem dX12_thirdRound_192 : decode cX12_thirdRound 192 = .ok (.iload_n 1, 1) := by decide +kernel
theorem dX12_thirdRound_193 : decode cX12_thirdRound 193 = .ok (.invokevirtual 518, 3) := by decide +kernel
theorem dX12_thirdRound_196 : decode cX12_thirdRound 196 = .ok (.ifCond .ne 6, 3) := by decide +kernel
theorem dX12_thirdRound_202 : decode cX12_thirdRound 202 = .ok (.iconst 0, 1) := by decide +kernel
theorem dX12_thirdRound_203 : decode cX12_thirdRound 203 = .ok (.istore_n 3, 1) := by decide +kernel
theorem dX12_thirdRound_204 : decode cX12_thirdRound 204 = .ok (.iconst 0, 1) := by decide +kernel
theorem dX12_thirdRound_205 : decode cX12_thirdRound 205 = .ok (.istore 4, 2) := by decide +kernel
theorem dX12_thirdRound_207 : decode cX12_thirdRound 207 = .ok (.iload 4, 2) := by decide +kernel
theorem dX12_thirdRound_209 : decode cX12_thirdRound 209 = .ok (.aload_n 0, 1) := by decide +kernel
theorem dX12_thirdRound_210 : decode cX12_thirdRound 210 = .ok (.getfield 416, 3) := by decide +kernel
theorem dX12_thirdRound_213 : decode cX12_thirdRound 213 = .ok (.if_icmp .ge 46, 3) := by decide +kernel
theorem dX12_thirdRound_259 : decode cX12_thirdRound 259 = .ok (.iconst 0, 1) := by decide +kernel
theorem dX12_thirdRound_260 : decode cX12_thirdRound 260 = .ok (.istore 4, 2) := by decide +kernel
theorem dX12_thirdRound_262 : decode cX12_thirdRound 262 = .ok (.iload 4, 2) := by decide +kernel
theorem dX12_thirdRound_264 : decode cX12_thirdRound 264 = .ok (.aload_n 0, 1) := by decide +kernel
theorem dX12_thirdRound_265 : decode cX12_thirdRound 265 = .ok (.getfield 416, 3) := by decide +kernel
theorem dX12_thirdRound_268 : decode cX12_thirdRound 268 = .ok (.if_icmp .ge 66, 3) := by decide +kernel
theorem dX12_thirdRound_334 : decode cX12_thirdRound 334 = .ok (.aload_n 0, 1) := by decide +kernel
theorem dX12_thirdRound_335 : decode cX12_thirdRound 335 = .ok (.getfield 90, 3) := by decide +kernel
theorem dX12_thirdRound_338 : decode cX12_thirdRound 338 = .ok (.iload_n 1, 1) := by decide +kernel
theorem dX12_thirdRound_339 : decode cX12_thirdRound 339 = .ok (.baload, 1) := by decide +kernel
theorem dX12_thirdRound_340 : decode cX12_thirdRound 340 = .ok (.ifCond .ne 44, 3) := by decide +kernel
theorem dX12_thirdRound_384 : decode cX12_thirdRound 384 = .ok (.iinc 2 1, 3) := by decide +kernel
theorem dX12_thirdRound_387 : decode cX12_thirdRound 387 = .ok (.goto (-210), 3) := by decide +kernel
theorem dX12_thirdRound_343 : decode cX12_thirdRound 343 = .ok (.aload_n 0, 1) := by decide +kernel
theorem dX12_thirdRound_344 : decode cX12_thirdRound 344 = .ok (.getfield 90, 3) := by decide +kernel
theorem dX12_thirdRound_347 : decode cX12_thirdRound 347 = .ok (.aload_n 0, 1) := by decide +kernel
theorem dX12_thirdRound_348 : decode cX12_thirdRound 348 = .ok (.getfield 120, 3) := by decide +kernel
theorem dX12_thirdRound_351 : decode cX12_thirdRound 351 = .ok (.iload_n 2, 1) := by decide +kernel
theorem dX12_thirdRound_352 : decode cX12_thirdRound 352 = .ok (.iaload, 1) := by decide +kernel
theorem dX12_thirdRound_353 : decode cX12_thirdRound 353 = .ok (.baload, 1) := by decide +kernel
theorem dX12_thirdRound_354 : decode cX12_thirdRound 354 = .ok (.ifCond .eq 30, 3) := by decide +kernel
theorem dX12_thirdRound_357 : decode cX12_thirdRound 357 = .ok (.aload_n 0, 1) := by decide +kernel
theorem dX12_thirdRound_358 : decode cX12_thirdRound 358 = .ok (.iload_n 1, 1) := by decide +kernel
theorem dX12_thirdRound_359 : decode cX12_thirdRound 359 = .ok (.aload_n 0, 1) := by decide +kernel
theorem dX12_thirdRound_360 : decode cX12_thirdRound 360 = .ok (.getfield 123, 3) := by decide +kernel
theorem dX12_thirdRound_363 : decode cX12_thirdRound 363 = .ok (.iload_n 2, 1) := by decide +kernel
theorem dX12_thirdRound_364 : decode cX12_thirdRound 364 = .ok (.iaload, 1) := by decide +kernel
theorem dX12_thirdRound_365 : decode cX12_thirdRound 365 = .ok (.invokevirtual 515, 3) := by decide +kernel
theorem dX12_thirdRound_368 : decode cX12_thirdRound 368 = .ok (.iconst (-1), 1) := by decide +kernel
theorem dX12_thirdRound_369 : decode cX12_thirdRound 369 = .ok (.if_icmp .ne 15, 3) := by decide +kernel
theorem dX12_thirdRound_372 : decode cX12_thirdRound 372 = .ok (.aload_n 0, 1) := by decide +kernel
theorem dX12_thirdRound_373 : decode cX12_thirdRound 373 = .ok (.bipush 8, 2) := by decide +kernel
theorem dX12_thirdRound_375 : decode cX12_thirdRound 375 = .ok (.aload_n 0, 1) := by decide +kernel
theorem dX12_thirdRound_376 : decode cX12_thirdRound 376 = .ok (.getfield 87, 3) := by decide +kernel
theorem dX12_thirdRound_379 : decode cX12_thirdRound 379 = .ok (.iload_n 1, 1) := by decide +kernel
theorem dX12_thirdRound_380 : decode cX12_thirdRound 380 = .ok (.iaload, 1) := by decide +kernel
theorem dX12_thirdRound_381 : decode cX12_thirdRound 381 = .ok (.invokevirtual 502, 3) := by decide +kernel
theorem dX12_thirdRound_271 : decode cX12_thirdRound 271 = .ok (.iload_n 3, 1) := by decide +kernel
theorem dX12_thirdRound_272 : decode cX12_thirdRound 272 = .ok (.ifCond .ne 62, 3) := by decide +kernel
theorem dX12_thirdRound_275 : decode cX12_thirdRound 275 = .ok (.aload_n 0, 1) := by decide +kernel
theorem dX12_thirdRound_276 : decode cX12_thirdRound 276 = .ok (.aload_n 0, 1) := by decide +kernel
theorem dX12_thirdRound_277 : decode cX12_thirdRound 277 = .ok (.getfield 120, 3) := by decide +kernel
theorem dX12_thirdRound_280 : decode cX12_thirdRound 280 = .ok (.iload 4, 2) := by decide +kernel
theorem dX12_thirdRound_282 : decode cX12_thirdRound 282 = .ok (.iaload, 1) := by decide +kernel
theorem dX12_thirdRound_283 : decode cX12_thirdRound 283 = .ok (.iload_n 1, 1) := by decide +kernel
theorem dX12_thirdRound_284 : decode cX12_thirdRound 284 = .ok (.invokevirtual 518, 3) := by decide +kernel
theorem dX12_thirdRound_287 : decode cX12_thirdRound 287 = .ok (.ifCond .eq 41, 3) := by decide +kernel
theorem dX12_thirdRound_328 : decode cX12_thirdRound 328 = .ok (.iinc 4 1, 3) := by decide +kernel
theorem dX12_thirdRound_331 : decode cX12_thirdRound 331 = .ok (.goto (-69), 3) := by decide +kernel
theorem dX12_thirdRound_290 : decode cX12_thirdRound 290 = .ok (.aload_n 0, 1) := by decide +kernel
theorem dX12_thirdRound_291 : decode cX12_thirdRound 291 = .ok (.getfield 123, 3) := by decide +kernel
theorem dX12_thirdRound_294 : decode cX12_thirdRound 294 = .ok (.iload 4, 2) := by decide +kernel
theorem dX12_thirdRound_296 : decode cX12_thirdRound 296 = .ok (.iaload, 1) := by decide +kernel
theorem dX12_thirdRound_297 : decode cX12_thirdRound 297 = .ok (.aload_n 0, 1) := by decide +kernel
theorem dX12_thirdRound_298 : decode cX12_thirdRound 298 = .ok (.getfield 123, 3) := by decide +kernel
theorem dX12_thirdRound_301 : decode cX12_thirdRound 301 = .ok (.iload_n 2, 1) := by decide +kernel
theorem dX12_thirdRound_302 : decode cX12_thirdRound 302 = .ok (.iaload, 1) := by decide +kernel
theorem dX12_thirdRound_303 : decode cX12_thirdRound 303 = .ok (.if_icmp .ne 25, 3) := by decide +kernel
theorem dX12_thirdRound_306 : decode cX12_thirdRound 306 = .ok (.aload_n 0, 1) := by decide +kernel
theorem dX12_thirdRound_307 : decode cX12_thirdRound 307 = .ok (.iload_n 2, 1) := by decide +kernel
theorem dX12_thirdRound_308 : decode cX12_thirdRound 308 = .ok (.iload 4, 2) := by decide +kernel
theorem dX12_thirdRound_310 : decode cX12_thirdRound 310 = .ok (.invokevirtual 522, 3) := by decide +kernel
theorem dX12_thirdRound_313 : decode cX12_thirdRound 313 = .ok (.ifCond .ne 15, 3) := by decide +kernel
theorem dX12_thirdRound_316 : decode cX12_thirdRound 316 = .ok (.aload_n 0, 1) := by decide +kernel
theorem dX12_thirdRound_317 : decode cX12_thirdRound 317 = .ok (.bipush 7, 2) := by decide +kernel
theorem dX12_thirdRound_319 : decode cX12_thirdRound 319 = .ok (.aload_n 0, 1) := by decide +kernel
theorem dX12_thirdRound_320 : decode cX12_thirdRound 320 = .ok (.getfield 87, 3) := by decide +kernel
theorem dX12_thirdRound_323 : decode cX12_thirdRound 323 = .ok (.iload_n 1, 1) := by decide +kernel
theorem dX12_thirdRound_324 : decode cX12_thirdRound 324 = .ok (.iaload, 1) := by decide +kernel
theorem dX12_thirdRound_325 : decode cX12_thirdRound 325 = .ok (.invokevirtual 502, 3) := by decide +kernel
theorem dX12_thirdRound_216 : decode cX12_thirdRound 216 = .ok (.iload_n 3, 1) := by decide +kernel
theorem dX12_thirdRound_217 : decode cX12_thirdRound 217 = .ok (.ifCond .ne 30, 3) := by decide +kernel
theorem dX12_thirdRound_247 : decode cX12_thirdRound 247 = .ok (.iconst 1, 1) := by decide +kernel
theorem dX12_thirdRound_248 : decode cX12_thirdRound 248 = .ok (.goto 4, 3) := by decide +kernel
theorem dX12_thirdRound_252 : decode cX12_thirdRound 252 = .ok (.istore_n 3, 1) := by decide +kernel
theorem dX12_thirdRound_253 : decode cX12_thirdRound 253 = .ok (.iinc 4 1, 3) := by decide +kernel
theorem dX12_thirdRound_256 : decode cX12_thirdRound 256 = .ok (.goto (-49), 3) := by decide +kernel
theorem dX12_thirdRound_220 : decode cX12_thirdRound 220 = .ok (.aload_n 0, 1) := by decide +kernel
theorem dX12_thirdRound_221 : decode cX12_thirdRound 221 = .ok (.getfield 120, 3) := by decide +kernel
theorem dX12_thirdRound_224 : decode cX12_thirdRound 224 = .ok (.iload 4, 2) := by decide +kernel
theorem dX12_thirdRound_226 : decode cX12_thirdRound 226 = .ok (.iaload, 1) := by decide +kernel
theorem dX12_thirdRound_227 : decode cX12_thirdRound 227 = .ok (.iload_n 1, 1) := by decide +kernel
theorem dX12_thirdRound_228 : decode cX12_thirdRound 228 = .ok (.if_icmp .ne 23, 3) := by decide +kernel
theorem dX12_thirdRound_251 : decode cX12_thirdRound 251 = .ok (.iconst 0, 1) := by decide +kernel
theorem dX12_thirdRound_231 : decode cX12_thirdRound 231 = .ok (.aload_n 0, 1) := by decide +kernel
theorem dX12_thirdRound_232 : decode cX12_thirdRound 232 = .ok (.getfield 123, 3) := by decide +kernel
theorem dX12_thirdRound_235 : decode cX12_thirdRound 235 = .ok (.iload 4, 2) := by decide +kernel
theorem dX12_thirdRound_237 : decode cX12_thirdRound 237 = .ok (.iaload, 1) := by decide +kernel
theorem dX12_thirdRound_238 : decode cX12_thirdRound 238 = .ok (.aload_n 0, 1) := by decide +kernel
theorem dX12_thirdRound_239 : decode cX12_thirdRound 239 = .ok (.getfield 123, 3) := by decide +kernel
theorem dX12_thirdRound_242 : decode cX12_thirdRound 242 = .ok (.iload_n 2, 1) := by decide +kernel
theorem dX12_thirdRound_243 : decode cX12_thirdRound 243 = .ok (.iaload, 1) := by decide +kernel
theorem dX12_thirdRound_244 : decode cX12_thirdRound 244 = .ok (.if_icmp .ne 7, 3) := by decide +kernel
theorem dX12_thirdRound_199 : decode cX12_thirdRound 199 = .ok (.goto 185, 3) := by decide +kernel
theorem dX12_thirdRound_87 : decode cX12_thirdRound 87 = .ok (.iconst 0, 1) := by decide +kernel
theorem dX12_thirdRound_88 : decode cX12_thirdRound 88 = .ok (.istore_n 2, 1) := by decide +kernel
theorem dX12_thirdRound_89 : decode cX12_thirdRound 89 = .ok (.iload_n 2, 1) := by decide +kernel
theorem dX12_thirdRound_90 : decode cX12_thirdRound 90 = .ok (.aload_n 0, 1) := by decide +kernel
theorem dX12_thirdRound_91 : decode cX12_thirdRound 91 = .ok (.getfield 416, 3) := by decide +kernel
theorem dX12_thirdRound_94 : decode cX12_thirdRound 94 = .ok (.if_icmp .ge 64, 3) := by decide +kernel
theorem dX12_thirdRound_158 : decode cX12_thirdRound 158 = .ok (.iinc 1 1, 3) := by decide +kernel
theorem dX12_thirdRound_161 : decode cX12_thirdRound 161 = .ok (.goto (-82), 3) := by decide +kernel
theorem dX12_thirdRound_97 : decode cX12_thirdRound 97 = .ok (.aload_n 0, 1) := by decide +kernel
theorem dX12_thirdRound_98 : decode cX12_thirdRound 98 = .ok (.getfield 123, 3) := by decide +kernel
theorem dX12_thirdRound_101 : decode cX12_thirdRound 101 = .ok (.iload_n 2, 1) := by decide +kernel
theorem dX12_thirdRound_102 : decode cX12_thirdRound 102 = .ok (.iaload, 1) := by decide +kernel
theorem dX12_thirdRound_103 : decode cX12_thirdRound 103 = .ok (.aload_n 0, 1) := by decide +kernel
theorem dX12_thirdRound_104 : decode cX12_thirdRound 104 = .ok (.getfield 123, 3) := by decide +kernel
theorem dX12_thirdRound_107 : decode cX12_thirdRound 107 = .ok (.iload_n 1, 1) := by decide +kernel
theorem dX12_thirdRound_108 : decode cX12_thirdRound 108 = .ok (.iaload, 1) := by decide +kernel
theorem dX12_thirdRound_109 : decode cX12_thirdRound 109 = .ok (.if_icmp .ne 43, 3) := by decide +kernel
theorem dX12_thirdRound_152 : decode cX12_thirdRound 152 = .ok (.iinc 2 1, 3) := by decide +kernel
theorem dX12_thirdRound_155 : decode cX12_thirdRound 155 = .ok (.goto (-66), 3) := by decide +kernel
theorem dX12_thirdRound_112 : decode cX12_thirdRound 112 = .ok (.aload_n 0, 1) := by decide +kernel
theorem dX12_thirdRound_113 : decode cX12_thirdRound 113 = .ok (.aload_n 0, 1) := by decide +kernel
theorem dX12_thirdRound_114 : decode cX12_thirdRound 114 = .ok (.getfield 120, 3) := by decide +kernel
theorem dX12_thirdRound_117 : decode cX12_thirdRound 117 = .ok (.iload_n 2, 1) := by decide +kernel
theorem dX12_thirdRound_118 : decode cX12_thirdRound 118 = .ok (.iaload, 1) := by decide +kernel
theorem dX12_thirdRound_119 : decode cX12_thirdRound 119 = .ok (.aload_n 0, 1) := by decide +kernel
theorem dX12_thirdRound_120 : decode cX12_thirdRound 120 = .ok (.getfield 120, 3) := by decide +kernel
theorem dX12_thirdRound_123 : decode cX12_thirdRound 123 = .ok (.iload_n 1, 1) := by decide +kernel
theorem dX12_thirdRound_124 : decode cX12_thirdRound 124 = .ok (.iaload, 1) := by decide +kernel
theorem dX12_thirdRound_125 : decode cX12_thirdRound 125 = .ok (.invokevirtual 518, 3) := by decide +kernel
theorem dX12_thirdRound_128 : decode cX12_thirdRound 128 = .ok (.ifCond .eq 24, 3) := by decide +kernel
theorem dX12_thirdRound_131 : decode cX12_thirdRound 131 = .ok (.aload_n 0, 1) := by decide +kernel
theorem dX12_thirdRound_132 : decode cX12_thirdRound 132 = .ok (.iload_n 1, 1) := by decide +kernel
theorem dX12_thirdRound_133 : decode cX12_thirdRound 133 = .ok (.iload_n 2, 1) := by decide +kernel
theorem dX12_thirdRound_134 : decode cX12_thirdRound 134 = .ok (.invokevirtual 522, 3) := by decide +kernel
theorem dX12_thirdRound_137 : decode cX12_thirdRound 137 = .ok (.ifCond .ne 15, 3) := by decide +kernel
theorem dX12_thirdRound_140 : decode cX12_thirdRound 140 = .ok (.aload_n 0, 1) := by decide +kernel
theorem dX12_thirdRound_141 : decode cX12_thirdRound 141 = .ok (.bipush 7, 2) := by decide +kernel
theorem dX12_thirdRound_143 : decode cX12_thirdRound 143 = .ok (.aload_n 0, 1) := by decide +kernel
theorem dX12_thirdRound_144 : decode cX12_thirdRound 144 = .ok (.getfield 126, 3) := by decide +kernel
theorem dX12_thirdRound_147 : decode cX12_thirdRound 147 = .ok (.iload_n 1, 1) := by decide +kernel
theorem dX12_thirdRound_148 : decode cX12_thirdRound 148 = .ok (.iaload, 1) := by decide +kernel
theorem dX12_thirdRound_149 : decode cX12_thirdRound 149 = .ok (.invokevirtual 502, 3) := by decide +kernel
theorem dX12_thirdRound_10 : decode cX12_thirdRound 10 = .ok (.iconst 0, 1) := by decide +kernel
theorem dX12_thirdRound_11 : decode cX12_thirdRound 11 = .ok (.istore_n 2, 1) := by decide +kernel
theorem dX12_thirdRound_12 : decode cX12_thirdRound 12 = .ok (.iload_n 2, 1) := by decide +kernel
theorem dX12_thirdRound_13 : decode cX12_thirdRound 13 = .ok (.aload_n 0, 1) := by decide +kernel
theorem dX12_thirdRound_14 : decode cX12_thirdRound 14 = .ok (.getfield 413, 3) := by decide +kernel
theorem dX12_thirdRound_17 : decode cX12_thirdRound 17 = .ok (.if_icmp .ge 54, 3) := by decide +kernel
theorem dX12_thirdRound_71 : decode cX12_thirdRound 71 = .ok (.iinc 1 1, 3) := by decide +kernel
theorem dX12_thirdRound_74 : decode cX12_thirdRound 74 = .ok (.goto (-72), 3) := by decide +kernel
theorem dX12_thirdRound_20 : decode cX12_thirdRound 20 = .ok (.aload_n 0, 1) := by decide +kernel
theorem dX12_thirdRound_21 : decode cX12_thirdRound 21 = .ok (.getfield 111, 3) := by decide +kernel
theorem dX12_thirdRound_24 : decode cX12_thirdRound 24 = .ok (.iload_n 2, 1) := by decide +kernel
theorem dX12_thirdRound_25 : decode cX12_thirdRound 25 = .ok (.iaload, 1) := by decide +kernel
theorem dX12_thirdRound_26 : decode cX12_thirdRound 26 = .ok (.aload_n 0, 1) := by decide +kernel
theorem dX12_thirdRound_27 : decode cX12_thirdRound 27 = .ok (.getfield 111, 3) := by decide +kernel
theorem dX12_thirdRound_30 : decode cX12_thirdRound 30 = .ok (.iload_n 1, 1) := by decide +kernel
theorem dX12_thirdRound_31 : decode cX12_thirdRound 31 = .ok (.iaload, 1) := by decide +kernel
theorem dX12_thirdRound_32 : decode cX12_thirdRound 32 = .ok (.if_icmp .ne 33, 3) := by decide +kernel
theorem dX12_thirdRound_65 : decode cX12_thirdRound 65 = .ok (.iinc 2 1, 3) := by decide +kernel
theorem dX12_thirdRound_68 : decode cX12_thirdRound 68 = .ok (.goto (-56), 3) := by decide +kernel
theorem dX12_thirdRound_35 : decode cX12_thirdRound 35 = .ok (.aload_n 0, 1) := by decide +kernel
theorem dX12_thirdRound_36 : decode cX12_thirdRound 36 = .ok (.aload_n 0, 1) := by decide +kernel
theorem dX12_thirdRound_37 : decode cX12_thirdRound 37 = .ok (.getfield 108, 3) := by decide +kernel
theorem dX12_thirdRound_40 : decode cX12_thirdRound 40 = .ok (.iload_n 2, 1) := by decide +kernel
theorem dX12_thirdRound_41 : decode cX12_thirdRound 41 = .ok (.iaload, 1) := by decide +kernel
theorem dX12_thirdRound_42 : decode cX12_thirdRound 42 = .ok (.aload_n 0, 1) := by decide +kernel
theorem dX12_thirdRound_43 : decode cX12_thirdRound 43 = .ok (.getfield 108, 3) := by decide +kernel
theorem dX12_thirdRound_46 : decode cX12_thirdRound 46 = .ok (.iload_n 1, 1) := by decide +kernel
theorem dX12_thirdRound_47 : decode cX12_thirdRound 47 = .ok (.iaload, 1) := by decide +kernel
theorem dX12_thirdRound_48 : decode cX12_thirdRound 48 = .ok (.invokevirtual 518, 3) := by decide +kernel
theorem dX12_thirdRound_51 : decode cX12_thirdRound 51 = .ok (.ifCond .eq 14, 3) := by decide +kernel
theorem dX12_thirdRound_54 : decode cX12_thirdRound 54 = .ok (.aload_n 0, 1) := by decide +kernel
theorem dX12_thirdRound_55 : decode cX12_thirdRound 55 = .ok (.iconst 3, 1) := by decide +kernel
theorem dX12_thirdRound_56 : decode cX12_thirdRound 56 = .ok (.aload_n 0, 1) := by decide +kernel
theorem dX12_thirdRound_57 : decode cX12_thirdRound 57 = .ok (.getfield 114, 3) := by decide +kernel
theorem dX12_thirdRound_60 : decode cX12_thirdRound 60 = .ok (.iload_n 1, 1) := by decide +kernel
theorem dX12_thirdRound_61 : decode cX12_thirdRound 61 = .ok (.iaload, 1) := by decide +kernel
theorem dX12_thirdRound_62 : decode cX12_thirdRound 62 = .ok (.invokevirtual 502, 3) := by decide +kernel
theorem hV_X12_isAlike : yX12_isAlike.cls = RX12 ∧ yX12_isAlike.cls ≠ "java/lang/invoke/MethodHandle" ∧ yX12_isAlike.cls ≠ "java/lang/invoke/VarHandle" ∧ (parseMethodDescriptor yX12_isAlike.desc).map (fun d => d.parameters.length) = some 2 := by decide +kernel
set_option maxHeartbeats 16000000 in
set_option maxRecDepth 100000 in
/-- thirdRound() -/
theorem R_thirdRound (l : Launch) (G : pT) (h0 : Nat) (a : Nat → Nat) (F : Nat → Int32) (B : Nat → Nat → Int32) (dc : Nat) (lz : Nat) (T : Nat) (nm : Nat) (wr : Nat) (fd : Nat) (md : Nat) (pr : Nat) (bk : Nat) (rw : Nat) (ra : Int32) (hT : T ≤ 5000) (hdc : 7 ≤ dc ∧ dc ≤ 37) (hrw : rw ≤ 15) (hfd : fd ≤ 620) (hmd : md ≤ 920) (hwr : wr ≤ 5000) (hpr : pr ≤ 5000) (hps : PS T nm wr lz dc fd md pr bk B) (hbi : bitsM (B 31)) (hrk : Rk (B 29) dc) : PM l G pX0 yX12_thirdRound cX12_thirdRound 5 none ({ frames := 4, cells := 0, slots := 0, locals := 105 }) [.ref h0] (mW G h0 a (upd (upd (upd (upd (upd (upd F 9 (nI T)) 35 (nI dc)) 44 (nI fd)) 49 (nI md)) 69 ra) 70 (nI rw)) B) (fun (v : Option Value) (u : Nat × Int32) => v = none ∧ (rw ≤ 15 * u.1) ∧ (u.1 ≤ 15) ∧ (If (u.1 = 0) (∀ m : Nat, m < md → ∀ o : Nat, o < md → T1P B m o)) ∧ (If (u.1 = 0) (∀ d : Nat, 7 ≤ d → d < dc → ∀ m : Nat, m < md → TT B md d m)) ∧ (If (u.1 = 0) (T4P B dc md))) (fun u => (mW G h0 a (upd (upd (upd (upd (upd (upd F 9 (nI T)) 35 (nI dc)) 44 (nI fd)) 49 (nI md)) 69 u.2) 70 (nI u.1)) B)) := by
  intro sz
  refine Met.ofW (cc := cX12_thirdRound) (maxL := 5) (ret := none) (by decide) rfl ?_
  intro p e s m args below meth c s₁ B9 hml hv
  obtain ⟨rfl, hsz, hP, hD0, hE, hX⟩ := hv
  have hx := B9.exec
  have hb := B9.bytes
  have hr := B9.returns
  have hts := atoms_spec (ws := Cond.code yX12_thirdRound cX12_thirdRound 5 none :: pw) B9.pre
  have hq : ∀ w ∈ pw, w.before _ s = true := fun w h => hts w (List.mem_cons_of_mem _ h)
  have hown : s.vm.findClass RX12 = some m.cls := findClass_of_methodNamed B9.named
  have hlocks := B9.notSynchronized
  subst hsz
  have hD := hD0.self (sz := s.heap.size)
  have hA : ∀ q : Nat, s.heap.size ≤ q → va_A (mW G h0 a (upd (upd (upd (upd (upd (upd F 9 (nI T)) 35 (nI dc)) 44 (nI fd)) 49 (nI md)) 69 ra) 70 (nI rw)) B) s.heap.size q := fun q h => Or.inr h
  have hP : va_P G.1 pCl (mW G h0 a (upd (upd (upd (upd (upd (upd F 9 (nI T)) 35 (nI dc)) 44 (nI fd)) 49 (nI md)) 69 ra) 70 (nI rw)) B) s.heap := hP
  generalize va_A (mW G h0 a (upd (upd (upd (upd (upd (upd F 9 (nI T)) 35 (nI dc)) 44 (nI fd)) 49 (nI md)) 69 ra) 70 (nI rw)) B) s.heap.size = A at hD hE hA ⊢
  have hS : va_S A s.heap s.heap [] := va_S.rf
  have hl := lv_entry ([.ref h0]) (n := 5) (Nat.le_of_ble_eq_true rfl)
  rw [lg_entry_eq]
  generalize (lg_sl ([.ref h0]) ++ List.replicate (5 - (lg_sl ([.ref h0])).length) Slot.unset).toArray = ls at hl ⊢
  have hl : lv_has ls 5 [(0, .ref h0)] := hl
  refine lv_iconst (v := 0) hx hb dX12_thirdRound_0 (by decide) ?_
  refine lv_istore_n (lv' := [(1, .int 0), (0, .ref h0)]) hx hb dX12_thirdRound_1 rfl hl (by decide) rfl (fun ls hl => ?_)
  have loop_f : ∀ (n_f : Nat) (f2 : Nat) (rw2 : Nat) (ra2 : Int32) (H : Heap) (locs : List Loc) (ls : Array Slot), f2 ≤ fd → fd + 1 ≤ f2 + n_f → (rw ≤ 15 * rw2) → (rw2 ≤ 15) → va_P G.1 pCl (mW G h0 a (upd (upd (upd (upd (upd (upd F 9 (nI T)) 35 (nI dc)) 44 (nI fd)) 49 (nI md)) 69 ra2) 70 (nI rw2)) B) H → va_D A (mW G h0 a (upd (upd (upd (upd (upd (upd F 9 (nI T)) 35 (nI dc)) 44 (nI fd)) 49 (nI md)) 69 ra2) 70 (nI rw2)) B) → va_S A s.heap H locs → lv_has ls 5 [(1, .int (nI f2)), (0, .ref h0)] → W p l e (headSpec (Cond.code yX12_thirdRound cX12_thirdRound 5 none :: pw) ({ frames := 4, cells := 0, slots := 0, locals := 105 } : Room)).room s m ([.ref h0] : List Value).toArray below meth c H locs 0 0 (MQ below (pQ G A (fun (v : Option Value) (u : Nat × Int32) => v = none ∧ (rw ≤ 15 * u.1) ∧ (u.1 ≤ 15) ∧ (If (u.1 = 0) (∀ m : Nat, m < md → ∀ o : Nat, o < md → T1P B m o)) ∧ (If (u.1 = 0) (∀ d : Nat, 7 ≤ d → d < dc → ∀ m : Nat, m < md → TT B md d m)) ∧ (If (u.1 = 0) (T4P B dc md))) (fun u => (mW G h0 a (upd (upd (upd (upd (upd (upd F 9 (nI T)) 35 (nI dc)) 44 (nI fd)) 49 (nI md)) 69 u.2) 70 (nI u.1)) B))) ([.ref h0] : List Value).toArray s ({ frames := 4, cells := 0, slots := 0, locals := 105 } : Room).cells ({ frames := 4, cells := 0, slots := 0, locals := 105 } : Room).slots A) (F0 m 2 ls []) := by
    intro n_f
    induction n_f with
    | zero => intro f2 rw2 ra2 H locs ls hk_f hn_f; omega
    | succ n_f ih_f =>
      intro f2 rw2 ra2 H locs ls hk_f hn_f hw1 hw2 hP hD hS hl
      refine lv_iload_n hx hb dX12_thirdRound_2 rfl (lv_at hl 0 rfl) ?_
      refine lv_aload_n hx hb dX12_thirdRound_3 rfl (lv_at hl 1 rfl) ?_
      refine r_get (v := .int (nI fd)) hx hb hown hq hE hP 44 413 tFX12_44 (by decide) pw_1727 rfl dX12_thirdRound_4 ?_
      refine lv_icmp_ge (tgt := 77) hx hb dX12_thirdRound_7 (by decide) (fun c1 => ?_) (fun c1 => ?_)
      · have n2 : fd ≤ f2 := (nI_leI (a := fd) (b := f2) (by omega) (by omega)).mp c1
        refine lv_iconst (v := 0) hx hb dX12_thirdRound_77 (by decide) ?_
        refine lv_istore_n (lv' := [(1, .int 0), (0, .ref h0)]) hx hb dX12_thirdRound_78 rfl hl (by decide) rfl (fun ls hl => ?_)
        have loop_m : ∀ (n_m : Nat) (m2 : Nat) (rw2 : Nat) (ra2 : Int32) (H : Heap) (locs : List Loc) (ls : Array Slot), m2 ≤ md → md + 1 ≤ m2 + n_m → (rw ≤ 15 * rw2) → (rw2 ≤ 15) → (If (rw2 = 0) (∀ m : Nat, m < m2 → ∀ o : Nat, o < md → T1P B m o)) → va_P G.1 pCl (mW G h0 a (upd (upd (upd (upd (upd (upd F 9 (nI T)) 35 (nI dc)) 44 (nI fd)) 49 (nI md)) 69 ra2) 70 (nI rw2)) B) H → va_D A (mW G h0 a (upd (upd (upd (upd (upd (upd F 9 (nI T)) 35 (nI dc)) 44 (nI fd)) 49 (nI md)) 69 ra2) 70 (nI rw2)) B) → va_S A s.heap H locs → lv_has ls 5 [(1, .int (nI m2)), (0, .ref h0)] → W p l e (headSpec (Cond.code yX12_thirdRound cX12_thirdRound 5 none :: pw) ({ frames := 4, cells := 0, slots := 0, locals := 105 } : Room)).room s m ([.ref h0] : List Value).toArray below meth c H locs 0 0 (MQ below (pQ G A (fun (v : Option Value) (u : Nat × Int32) => v = none ∧ (rw ≤ 15 * u.1) ∧ (u.1 ≤ 15) ∧ (If (u.1 = 0) (∀ m : Nat, m < md → ∀ o : Nat, o < md → T1P B m o)) ∧ (If (u.1 = 0) (∀ d : Nat, 7 ≤ d → d < dc → ∀ m : Nat, m < md → TT B md d m)) ∧ (If (u.1 = 0) (T4P B dc md))) (fun u => (mW G h0 a (upd (upd (upd (upd (upd (upd F 9 (nI T)) 35 (nI dc)) 44 (nI fd)) 49 (nI md)) 69 u.2) 70 (nI u.1)) B))) ([.ref h0] : List Value).toArray s ({ frames := 4, cells := 0, slots := 0, locals := 105 } : Room).cells ({ frames := 4, cells := 0, slots := 0, locals := 105 } : Room).slots A) (F0 m 79 ls []) := by
          intro n_m
          induction n_m with
          | zero => intro m2 rw2 ra2 H locs ls hk_m hn_m; omega
          | succ n_m ih_m =>
            intro m2 rw2 ra2 H locs ls hk_m hn_m hw1 hw2 h1 hP hD hS hl
            refine lv_iload_n hx hb dX12_thirdRound_79 rfl (lv_at hl 0 rfl) ?_
            refine lv_aload_n hx hb dX12_thirdRound_80 rfl (lv_at hl 1 rfl) ?_
            refine r_get (v := .int (nI md)) hx hb hown hq hE hP 49 416 tFX12_49 (by decide) pw_1721 rfl dX12_thirdRound_81 ?_
            refine lv_icmp_ge (tgt := 164) hx hb dX12_thirdRound_84 (by decide) (fun c3 => ?_) (fun c3 => ?_)
            · have n4 : md ≤ m2 := (nI_leI (a := md) (b := m2) (by omega) (by omega)).mp c3
              refine lv_bipush (v := 7) hx hb dX12_thirdRound_164 (by decide) ?_
              refine lv_istore_n (lv' := [(1, .int 7), (0, .ref h0)]) hx hb dX12_thirdRound_166 rfl hl (by decide) rfl (fun ls hl => ?_)
              have loop_d : ∀ (n_d : Nat) (d2 : Nat) (rw2 : Nat) (ra2 : Int32) (H : Heap) (locs : List Loc) (ls : Array Slot), d2 ≤ dc → dc + 1 ≤ d2 + n_d → (rw ≤ 15 * rw2) → (rw2 ≤ 15) → (7 ≤ d2) → (If (rw2 = 0) (∀ m : Nat, m < md → ∀ o : Nat, o < md → T1P B m o)) → (If (rw2 = 0) (∀ d : Nat, 7 ≤ d → d < d2 → ∀ m : Nat, m < md → TT B md d m)) → va_P G.1 pCl (mW G h0 a (upd (upd (upd (upd (upd (upd F 9 (nI T)) 35 (nI dc)) 44 (nI fd)) 49 (nI md)) 69 ra2) 70 (nI rw2)) B) H → va_D A (mW G h0 a (upd (upd (upd (upd (upd (upd F 9 (nI T)) 35 (nI dc)) 44 (nI fd)) 49 (nI md)) 69 ra2) 70 (nI rw2)) B) → va_S A s.heap H locs → lv_has ls 5 [(1, .int (nI d2)), (0, .ref h0)] → W p l e (headSpec (Cond.code yX12_thirdRound cX12_thirdRound 5 none :: pw) ({ frames := 4, cells := 0, slots := 0, locals := 105 } : Room)).room s m ([.ref h0] : List Value).toArray below meth c H locs 0 0 (MQ below (pQ G A (fun (v : Option Value) (u : Nat × Int32) => v = none ∧ (rw ≤ 15 * u.1) ∧ (u.1 ≤ 15) ∧ (If (u.1 = 0) (∀ m : Nat, m < md → ∀ o : Nat, o < md → T1P B m o)) ∧ (If (u.1 = 0) (∀ d : Nat, 7 ≤ d → d < dc → ∀ m : Nat, m < md → TT B md d m)) ∧ (If (u.1 = 0) (T4P B dc md))) (fun u => (mW G h0 a (upd (upd (upd (upd (upd (upd F 9 (nI T)) 35 (nI dc)) 44 (nI fd)) 49 (nI md)) 69 u.2) 70 (nI u.1)) B))) ([.ref h0] : List Value).toArray s ({ frames := 4, cells := 0, slots := 0, locals := 105 } : Room).cells ({ frames := 4, cells := 0, slots := 0, locals := 105 } : Room).slots A) (F0 m 167 ls []) := by
                intro n_d
                induction n_d with
                | zero => intro d2 rw2 ra2 H locs ls hk_d hn_d; omega
                | succ n_d ih_d =>
                  intro d2 rw2 ra2 H locs ls hk_d hn_d hw1 hw2 hd7 h1 h3 hP hD hS hl
                  refine lv_iload_n hx hb dX12_thirdRound_167 rfl (lv_at hl 0 rfl) ?_
                  refine lv_aload_n hx hb dX12_thirdRound_168 rfl (lv_at hl 1 rfl) ?_
                  refine r_get (v := .int (nI dc)) hx hb hown hq hE hP 35 384 tFX12_35 (by decide) pw_1732 rfl dX12_thirdRound_169 ?_
                  refine lv_icmp_ge (tgt := 396) hx hb dX12_thirdRound_172 (by decide) (fun c5 => ?_) (fun c5 => ?_)
                  · have n6 : dc ≤ d2 := (nI_leI (a := dc) (b := d2) (by omega) (by omega)).mp c5
                    refine lv_aload_n hx hb dX12_thirdRound_396 rfl (lv_at hl 1 rfl) ?_
                    refine lv_bipush (v := 7) hx hb dX12_thirdRound_397 (by decide) ?_
                    have hP : va_P G.1 pCl (mW G h0 a (upd (upd (upd (upd (upd (upd (upd F 9 (nI T)) 35 (nI dc)) 44 (nI fd)) 49 (nI md)) 69 ra2) 70 (nI rw2)) 35 (nI dc)) (updA B 24 (B 24))) _ := mW_to (F := F) (l1 := [(9, (nI T)), (35, (nI dc)), (44, (nI fd)), (49, (nI md)), (69, ra2), (70, (nI rw2))]) (l2 := [(9, (nI T)), (35, (nI dc)), (44, (nI fd)), (49, (nI md)), (69, ra2), (70, (nI rw2)), (35, (nI dc))]) (V := [(nI T), (nI dc), (nI fd), (nI md), ra2, (nI rw2), (nI T), (nI dc), (nI fd), (nI md), ra2, (nI rw2), (nI dc)]) rfl rfl (show B = (updA B 24 (B 24)) from updsA_eq2 (F := B) (l1 := []) (l2 := [(24, (B 24))]) (V := [(B 24)]) rfl rfl) hP
                    have hD : va_D A (mW G h0 a (upd (upd (upd (upd (upd (upd (upd F 9 (nI T)) 35 (nI dc)) 44 (nI fd)) 49 (nI md)) 69 ra2) 70 (nI rw2)) 35 (nI dc)) (updA B 24 (B 24))) := mW_D hD
                    refine pc_V0 (G := G) (As := [.int 7]) (rest := []) hx hb hml hown hq hE hX pX0_al hP hD hS hA hl.1 (R_declOf l G h0 a (upd (upd (upd (upd (upd (upd F 9 (nI T)) 35 (nI dc)) 44 (nI fd)) 49 (nI md)) 69 ra2) 70 (nI rw2)) B 7 dc (B 24) (by omega)) (gV pw_1746 pw_1747 pw_1748 pw_1523 pw_1744) hV_X12_declOf 0 9 rfl rfl rfl rfl (Nat.le_of_ble_eq_true rfl) dX12_thirdRound_399 ⟨Nat.le_of_ble_eq_true rfl, Nat.le_of_ble_eq_true rfl⟩ ⟨Nat.le_of_ble_eq_true rfl, Nat.le_of_ble_eq_true rfl⟩ (fun v9 u7 H locs hw8 hP hD hS => ?_)
                    obtain rfl : v9 = some (.int (dOf (B 24) 7 dc 0)) := hw8
                    have hP : va_P G.1 pCl (mW G h0 a (upd (upd (upd (upd (upd (upd F 9 (nI T)) 35 (nI dc)) 44 (nI fd)) 49 (nI md)) 69 ra2) 70 (nI rw2)) B) _ := mW_to (F := F) (l1 := [(9, (nI T)), (35, (nI dc)), (44, (nI fd)), (49, (nI md)), (69, ra2), (70, (nI rw2)), (35, (nI dc))]) (l2 := [(9, (nI T)), (35, (nI dc)), (44, (nI fd)), (49, (nI md)), (69, ra2), (70, (nI rw2))]) (V := [(nI T), (nI dc), (nI fd), (nI md), ra2, (nI rw2), (nI dc), (nI T), (nI dc), (nI fd), (nI md), ra2, (nI rw2)]) rfl rfl (show (updA B 24 (B 24)) = B from updsA_eq2 (F := B) (l1 := [(24, (B 24))]) (l2 := []) (V := [(B 24)]) rfl rfl) hP
                    have hD : va_D A (mW G h0 a (upd (upd (upd (upd (upd (upd F 9 (nI T)) 35 (nI dc)) 44 (nI fd)) 49 (nI md)) 69 ra2) 70 (nI rw2)) B) := mW_D hD
                    refine W.widen (k := 0) (n := 0) (Nat.le_of_ble_eq_true rfl) (Nat.le_of_ble_eq_true rfl) ?_
                    refine W.eq (g2 := F0 m 402 ls [.int (dOf (B 24) 7 dc 0)]) rfl ?_
                    refine lv_istore_n (lv' := [(1, .int (dOf (B 24) 7 dc 0)), (0, .ref h0)]) hx hb dX12_thirdRound_402 rfl hl (by decide) rfl (fun ls hl => ?_)
                    refine lv_iload_n hx hb dX12_thirdRound_403 rfl (lv_at hl 0 rfl) ?_
                    refine lv_iconst (v := (-1)) hx hb dX12_thirdRound_404 (by decide) ?_
                    refine lv_icmp_eq (tgt := 417) hx hb dX12_thirdRound_405 (by decide) (fun c10 => ?_) (fun c10 => ?_)
                    · refine lv_iconst (v := (-1)) hx hb dX12_thirdRound_417 (by decide) ?_
                      refine lv_goto (tgt := 428) hx hb dX12_thirdRound_418 (by decide) ?_
                      refine lv_istore_n (lv' := [(2, .int (-1)), (1, .int (dOf (B 24) 7 dc 0)), (0, .ref h0)]) hx hb dX12_thirdRound_428 rfl hl (by decide) rfl (fun ls hl => ?_)
                      refine lv_iload_n hx hb dX12_thirdRound_429 rfl (lv_at hl 0 rfl) ?_
                      refine lv_iconst (v := (-1)) hx hb dX12_thirdRound_430 (by decide) ?_
                      refine lv_icmp_eq (tgt := 452) hx hb dX12_thirdRound_431 (by decide) (fun c11 => ?_) (fun c11 => absurd c11 (by decide))
                      refine lv_aload_n hx hb dX12_thirdRound_452 rfl (lv_at hl 2 rfl) ?_
                      refine lv_bipush (v := 9) hx hb dX12_thirdRound_453 (by decide) ?_
                      refine lv_aload_n hx hb dX12_thirdRound_455 rfl (lv_at hl 2 rfl) ?_
                      refine r_get (v := .int (nI T)) hx hb hown hq hE hP 9 314 tFX12_9 (by decide) pw_1568 rfl dX12_thirdRound_456 ?_
                      have hP : va_P G.1 pCl (mW G h0 a (upd (upd (upd (upd (upd (upd (upd (upd F 9 (nI T)) 35 (nI dc)) 44 (nI fd)) 49 (nI md)) 69 ra2) 70 (nI rw2)) 69 ra2) 70 (nI rw2)) B) _ := mW_to (F := F) (l1 := [(9, (nI T)), (35, (nI dc)), (44, (nI fd)), (49, (nI md)), (69, ra2), (70, (nI rw2))]) (l2 := [(9, (nI T)), (35, (nI dc)), (44, (nI fd)), (49, (nI md)), (69, ra2), (70, (nI rw2)), (69, ra2), (70, (nI rw2))]) (V := [(nI T), (nI dc), (nI fd), (nI md), ra2, (nI rw2), (nI T), (nI dc), (nI fd), (nI md), ra2, (nI rw2), ra2, (nI rw2)]) rfl rfl rfl hP
                      have hD : va_D A (mW G h0 a (upd (upd (upd (upd (upd (upd (upd (upd F 9 (nI T)) 35 (nI dc)) 44 (nI fd)) 49 (nI md)) 69 ra2) 70 (nI rw2)) 69 ra2) 70 (nI rw2)) B) := mW_D hD
                      refine pc_V0 (G := G) (As := [.int (nI 9), .int (nI T)]) (rest := []) hx hb hml hown hq hE hX pX0_al hP hD hS hA hl.1 (R_note l G h0 a (upd (upd (upd (upd (upd (upd F 9 (nI T)) 35 (nI dc)) 44 (nI fd)) 49 (nI md)) 69 ra2) 70 (nI rw2)) B 9 T rw2 ra2 (by omega) (by omega) (by omega)) (gV pw_1749 pw_1750 pw_1751 pw_1523 pw_1740) hV_X12_note 0 9 rfl rfl rfl rfl (Nat.le_of_ble_eq_true rfl) dX12_thirdRound_459 ⟨Nat.le_of_ble_eq_true rfl, Nat.le_of_ble_eq_true rfl⟩ ⟨Nat.le_of_ble_eq_true rfl, Nat.le_of_ble_eq_true rfl⟩ (fun v14 u12 H locs hw13 hP hD hS => ?_)
                      obtain ⟨rw15, ra16⟩ := u12
                      obtain ⟨hw13, h17, h18⟩ := hw13
                      replace h17 : 0 < rw15 := h17
                      replace h18 : rw15 ≤ 15 := h18
                      obtain rfl : v14 = none := hw13
                      have hP : va_P G.1 pCl (mW G h0 a (upd (upd (upd (upd (upd (upd F 9 (nI T)) 35 (nI dc)) 44 (nI fd)) 49 (nI md)) 69 ra16) 70 (nI rw15)) B) _ := mW_to (F := F) (l1 := [(9, (nI T)), (35, (nI dc)), (44, (nI fd)), (49, (nI md)), (69, ra2), (70, (nI rw2)), (69, ra16), (70, (nI rw15))]) (l2 := [(9, (nI T)), (35, (nI dc)), (44, (nI fd)), (49, (nI md)), (69, ra16), (70, (nI rw15))]) (V := [(nI T), (nI dc), (nI fd), (nI md), ra16, (nI rw15), ra16, (nI rw15), (nI T), (nI dc), (nI fd), (nI md), ra16, (nI rw15)]) rfl rfl rfl hP
                      have hD : va_D A (mW G h0 a (upd (upd (upd (upd (upd (upd F 9 (nI T)) 35 (nI dc)) 44 (nI fd)) 49 (nI md)) 69 ra16) 70 (nI rw15)) B) := mW_D hD
                      refine W.widen (k := 0) (n := 0) (Nat.le_of_ble_eq_true rfl) (Nat.le_of_ble_eq_true rfl) ?_
                      refine W.eq (g2 := F0 m 462 ls []) rfl ?_
                      have hz19 : rw ≤ 15 * rw15 := (by omega)
                      have hz20 : rw15 ≤ 15 := (by omega)
                      have hz21 : If (rw15 = 0) (∀ m : Nat, m < md → ∀ o : Nat, o < md → T1P B m o) := (fun _ => h1 (by omega))
                      have hz22 : If (rw15 = 0) (∀ d : Nat, 7 ≤ d → d < dc → ∀ m : Nat, m < md → TT B md d m) := (fun _ d a b => h3 (by omega) d a (by omega))
                      have hz23 : If (rw15 = 0) (T4P B dc md) := (fun e => absurd e (by omega))
                      have hP : va_P G.1 pCl (mW G h0 a (upd (upd (upd (upd (upd (upd F 9 (nI T)) 35 (nI dc)) 44 (nI fd)) 49 (nI md)) 69 ra16) 70 (nI rw15)) B) _ := hP
                      have hD : va_D A (mW G h0 a (upd (upd (upd (upd (upd (upd F 9 (nI T)) 35 (nI dc)) 44 (nI fd)) 49 (nI md)) 69 ra16) 70 (nI rw15)) B) := mW_D hD
                      exact W.vret hx hb hr (fun t9 ht9 hW9 => ⟨⟨_, (rw15, ra16), rfl, ⟨rfl, hz19, hz20, hz21, hz22, hz23⟩, by rw [ht9]; exact hP, hD⟩, hS.F ht9⟩) hS.2.2 dX12_thirdRound_462
                    · obtain ⟨d24, e25, h26, h27, h28⟩ := (dOf_or dc 0).resolve_left c10
                      rw [e25] at hl
                      refine lv_aload_n hx hb dX12_thirdRound_408 rfl (lv_at hl 1 rfl) ?_
                      refine r_get (v := .ref (a 26)) hx hb hown hq hE hP 38 90 tFX12_38 (by decide) pw_1457 rfl dX12_thirdRound_409 ?_
                      refine lv_iload_n hx hb dX12_thirdRound_412 rfl (lv_at hl 0 rfl) ?_
                      refine r_ldz (f := (B 26)) (j := d24) hx hb hE hP 26 (ma_26 G a _) rfl (by omega) (by decide) dX12_thirdRound_413 ?_
                      refine lv_if_eq (tgt := 421) hx hb dX12_thirdRound_414 (by decide) (fun c29 => ?_) (fun c29 => ?_)
                      · refine lv_aload_n hx hb dX12_thirdRound_421 rfl (lv_at hl 1 rfl) ?_
                        refine lv_iload_n hx hb dX12_thirdRound_422 rfl (lv_at hl 0 rfl) ?_
                        refine lv_bipush (v := 8) hx hb dX12_thirdRound_423 (by decide) ?_
                        have hP : va_P G.1 pCl (mW G h0 a (upd (upd (upd (upd (upd (upd (upd F 9 (nI T)) 35 (nI dc)) 44 (nI fd)) 49 (nI md)) 69 ra2) 70 (nI rw2)) 49 (nI md)) (updA (updA (updA B 29 (B 29)) 36 (B 36)) 37 (B 37))) _ := mW_to (F := F) (l1 := [(9, (nI T)), (35, (nI dc)), (44, (nI fd)), (49, (nI md)), (69, ra2), (70, (nI rw2))]) (l2 := [(9, (nI T)), (35, (nI dc)), (44, (nI fd)), (49, (nI md)), (69, ra2), (70, (nI rw2)), (49, (nI md))]) (V := [(nI T), (nI dc), (nI fd), (nI md), ra2, (nI rw2), (nI T), (nI dc), (nI fd), (nI md), ra2, (nI rw2), (nI md)]) rfl rfl (show B = (updA (updA (updA B 29 (B 29)) 36 (B 36)) 37 (B 37)) from updsA_eq2 (F := B) (l1 := []) (l2 := [(29, (B 29)), (36, (B 36)), (37, (B 37))]) (V := [(B 29), (B 36), (B 37)]) rfl rfl) hP
                        have hD : va_D A (mW G h0 a (upd (upd (upd (upd (upd (upd (upd F 9 (nI T)) 35 (nI dc)) 44 (nI fd)) 49 (nI md)) 69 ra2) 70 (nI rw2)) 49 (nI md)) (updA (updA (updA B 29 (B 29)) 36 (B 36)) 37 (B 37))) := mW_D hD
                        refine pc_V0 (G := G) (As := [.int (nI d24), .int 8]) (rest := []) hx hb hml hown hq hE hX pX0_al hP hD hS hA hl.1 (R_methodOf l G h0 a (upd (upd (upd (upd (upd (upd F 9 (nI T)) 35 (nI dc)) 44 (nI fd)) 49 (nI md)) 69 ra2) 70 (nI rw2)) B d24 dc md 8 (B 36) (B 37) (B 29) (by omega) (by omega) (by omega) hrk) (gV pw_1769 pw_1770 pw_1771 pw_1523 pw_1767) hV_X12_methodOf 0 9 rfl rfl rfl rfl (Nat.le_of_ble_eq_true rfl) dX12_thirdRound_425 ⟨Nat.le_of_ble_eq_true rfl, Nat.le_of_ble_eq_true rfl⟩ ⟨Nat.le_of_ble_eq_true rfl, Nat.le_of_ble_eq_true rfl⟩ (fun v32 u30 H locs hw31 hP hD hS => ?_)
                        obtain rfl : v32 = some (.int (mthF (B 36) (B 37) (B 29) md 8 40 d24)) := hw31
                        have hP : va_P G.1 pCl (mW G h0 a (upd (upd (upd (upd (upd (upd F 9 (nI T)) 35 (nI dc)) 44 (nI fd)) 49 (nI md)) 69 ra2) 70 (nI rw2)) B) _ := mW_to (F := F) (l1 := [(9, (nI T)), (35, (nI dc)), (44, (nI fd)), (49, (nI md)), (69, ra2), (70, (nI rw2)), (49, (nI md))]) (l2 := [(9, (nI T)), (35, (nI dc)), (44, (nI fd)), (49, (nI md)), (69, ra2), (70, (nI rw2))]) (V := [(nI T), (nI dc), (nI fd), (nI md), ra2, (nI rw2), (nI md), (nI T), (nI dc), (nI fd), (nI md), ra2, (nI rw2)]) rfl rfl (show (updA (updA (updA B 29 (B 29)) 36 (B 36)) 37 (B 37)) = B from updsA_eq2 (F := B) (l1 := [(29, (B 29)), (36, (B 36)), (37, (B 37))]) (l2 := []) (V := [(B 29), (B 36), (B 37)]) rfl rfl) hP
                        have hD : va_D A (mW G h0 a (upd (upd (upd (upd (upd (upd F 9 (nI T)) 35 (nI dc)) 44 (nI fd)) 49 (nI md)) 69 ra2) 70 (nI rw2)) B) := mW_D hD
                        refine W.widen (k := 0) (n := 0) (Nat.le_of_ble_eq_true rfl) (Nat.le_of_ble_eq_true rfl) ?_
                        refine W.eq (g2 := F0 m 428 ls [.int (mthF (B 36) (B 37) (B 29) md 8 40 d24)]) rfl ?_
                        refine lv_istore_n (lv' := [(2, .int (mthF (B 36) (B 37) (B 29) md 8 40 d24)), (1, .int (nI d24)), (0, .ref h0)]) hx hb dX12_thirdRound_428 rfl hl (by decide) rfl (fun ls hl => ?_)
                        refine lv_iload_n hx hb dX12_thirdRound_429 rfl (lv_at hl 0 rfl) ?_
                        refine lv_iconst (v := (-1)) hx hb dX12_thirdRound_430 (by decide) ?_
                        refine lv_icmp_eq (tgt := 452) hx hb dX12_thirdRound_431 (by decide) (fun c33 => ?_) (fun c33 => ?_)
                        · refine lv_aload_n hx hb dX12_thirdRound_452 rfl (lv_at hl 2 rfl) ?_
                          refine lv_bipush (v := 9) hx hb dX12_thirdRound_453 (by decide) ?_
                          refine lv_aload_n hx hb dX12_thirdRound_455 rfl (lv_at hl 2 rfl) ?_
                          refine r_get (v := .int (nI T)) hx hb hown hq hE hP 9 314 tFX12_9 (by decide) pw_1568 rfl dX12_thirdRound_456 ?_
                          have hP : va_P G.1 pCl (mW G h0 a (upd (upd (upd (upd (upd (upd (upd (upd F 9 (nI T)) 35 (nI dc)) 44 (nI fd)) 49 (nI md)) 69 ra2) 70 (nI rw2)) 69 ra2) 70 (nI rw2)) B) _ := mW_to (F := F) (l1 := [(9, (nI T)), (35, (nI dc)), (44, (nI fd)), (49, (nI md)), (69, ra2), (70, (nI rw2))]) (l2 := [(9, (nI T)), (35, (nI dc)), (44, (nI fd)), (49, (nI md)), (69, ra2), (70, (nI rw2)), (69, ra2), (70, (nI rw2))]) (V := [(nI T), (nI dc), (nI fd), (nI md), ra2, (nI rw2), (nI T), (nI dc), (nI fd), (nI md), ra2, (nI rw2), ra2, (nI rw2)]) rfl rfl rfl hP
                          have hD : va_D A (mW G h0 a (upd (upd (upd (upd (upd (upd (upd (upd F 9 (nI T)) 35 (nI dc)) 44 (nI fd)) 49 (nI md)) 69 ra2) 70 (nI rw2)) 69 ra2) 70 (nI rw2)) B) := mW_D hD
                          refine pc_V0 (G := G) (As := [.int (nI 9), .int (nI T)]) (rest := []) hx hb hml hown hq hE hX pX0_al hP hD hS hA hl.1 (R_note l G h0 a (upd (upd (upd (upd (upd (upd F 9 (nI T)) 35 (nI dc)) 44 (nI fd)) 49 (nI md)) 69 ra2) 70 (nI rw2)) B 9 T rw2 ra2 (by omega) (by omega) (by omega)) (gV pw_1749 pw_1750 pw_1751 pw_1523 pw_1740) hV_X12_note 0 9 rfl rfl rfl rfl (Nat.le_of_ble_eq_true rfl) dX12_thirdRound_459 ⟨Nat.le_of_ble_eq_true rfl, Nat.le_of_ble_eq_true rfl⟩ ⟨Nat.le_of_ble_eq_true rfl, Nat.le_of_ble_eq_true rfl⟩ (fun v36 u34 H locs hw35 hP hD hS => ?_)
                          obtain ⟨rw37, ra38⟩ := u34
                          obtain ⟨hw35, h39, h40⟩ := hw35
                          replace h39 : 0 < rw37 := h39
                          replace h40 : rw37 ≤ 15 := h40
                          obtain rfl : v36 = none := hw35
                          have hP : va_P G.1 pCl (mW G h0 a (upd (upd (upd (upd (upd (upd F 9 (nI T)) 35 (nI dc)) 44 (nI fd)) 49 (nI md)) 69 ra38) 70 (nI rw37)) B) _ := mW_to (F := F) (l1 := [(9, (nI T)), (35, (nI dc)), (44, (nI fd)), (49, (nI md)), (69, ra2), (70, (nI rw2)), (69, ra38), (70, (nI rw37))]) (l2 := [(9, (nI T)), (35, (nI dc)), (44, (nI fd)), (49, (nI md)), (69, ra38), (70, (nI rw37))]) (V := [(nI T), (nI dc), (nI fd), (nI md), ra38, (nI rw37), ra38, (nI rw37), (nI T), (nI dc), (nI fd), (nI md), ra38, (nI rw37)]) rfl rfl rfl hP
                          have hD : va_D A (mW G h0 a (upd (upd (upd (upd (upd (upd F 9 (nI T)) 35 (nI dc)) 44 (nI fd)) 49 (nI md)) 69 ra38) 70 (nI rw37)) B) := mW_D hD
                          refine W.widen (k := 0) (n := 0) (Nat.le_of_ble_eq_true rfl) (Nat.le_of_ble_eq_true rfl) ?_
                          refine W.eq (g2 := F0 m 462 ls []) rfl ?_
                          have hz41 : rw ≤ 15 * rw37 := (by omega)
                          have hz42 : rw37 ≤ 15 := (by omega)
                          have hz43 : If (rw37 = 0) (∀ m : Nat, m < md → ∀ o : Nat, o < md → T1P B m o) := (fun _ => h1 (by omega))
                          have hz44 : If (rw37 = 0) (∀ d : Nat, 7 ≤ d → d < dc → ∀ m : Nat, m < md → TT B md d m) := (fun _ d a b => h3 (by omega) d a (by omega))
                          have hz45 : If (rw37 = 0) (T4P B dc md) := (fun e => absurd e (by omega))
                          have hP : va_P G.1 pCl (mW G h0 a (upd (upd (upd (upd (upd (upd F 9 (nI T)) 35 (nI dc)) 44 (nI fd)) 49 (nI md)) 69 ra38) 70 (nI rw37)) B) _ := hP
                          have hD : va_D A (mW G h0 a (upd (upd (upd (upd (upd (upd F 9 (nI T)) 35 (nI dc)) 44 (nI fd)) 49 (nI md)) 69 ra38) 70 (nI rw37)) B) := mW_D hD
                          exact W.vret hx hb hr (fun t9 ht9 hW9 => ⟨⟨_, (rw37, ra38), rfl, ⟨rfl, hz41, hz42, hz43, hz44, hz45⟩, by rw [ht9]; exact hP, hD⟩, hS.F ht9⟩) hS.2.2 dX12_thirdRound_462
                        · obtain ⟨m46, e47, h48, h49⟩ := (mth_or 40 d24).resolve_left c33
                          rw [e47] at hl
                          refine lv_aload_n hx hb dX12_thirdRound_434 rfl (lv_at hl 2 rfl) ?_
                          refine r_get (v := .ref (a 41)) hx hb hown hq hE hP 55 135 tFX12_55 (by decide) pw_1472 rfl dX12_thirdRound_435 ?_
                          refine lv_iload_n hx hb dX12_thirdRound_438 rfl (lv_at hl 0 rfl) ?_
                          refine r_ldi (f := (B 41)) (j := m46) hx hb hE hP 41 (ma_41 G a _) rfl (by omega) (by decide) dX12_thirdRound_439 ?_
                          obtain ⟨d50, -, -, -, -, -, hy51, ⟨p52, q53, h54, h55, h56, h57⟩, -⟩ := hps.2.2.1 m46 (by omega)
                          refine lv_topi (fun x58 e59 => ?_)
                          obtain rfl : x58 = nI q53 := e59.trans h55
                          refine lv_if_gt (tgt := 452) hx hb dX12_thirdRound_440 (by decide) (fun c60 => ?_) (fun c60 => ?_)
                          · have n61 : 0 < q53 := (nI_ltI (a := 0) (b := q53) (by omega) (by omega)).mp c60
                            refine lv_aload_n hx hb dX12_thirdRound_452 rfl (lv_at hl 2 rfl) ?_
                            refine lv_bipush (v := 9) hx hb dX12_thirdRound_453 (by decide) ?_
                            refine lv_aload_n hx hb dX12_thirdRound_455 rfl (lv_at hl 2 rfl) ?_
                            refine r_get (v := .int (nI T)) hx hb hown hq hE hP 9 314 tFX12_9 (by decide) pw_1568 rfl dX12_thirdRound_456 ?_
                            have hP : va_P G.1 pCl (mW G h0 a (upd (upd (upd (upd (upd (upd (upd (upd F 9 (nI T)) 35 (nI dc)) 44 (nI fd)) 49 (nI md)) 69 ra2) 70 (nI rw2)) 69 ra2) 70 (nI rw2)) B) _ := mW_to (F := F) (l1 := [(9, (nI T)), (35, (nI dc)), (44, (nI fd)), (49, (nI md)), (69, ra2), (70, (nI rw2))]) (l2 := [(9, (nI T)), (35, (nI dc)), (44, (nI fd)), (49, (nI md)), (69, ra2), (70, (nI rw2)), (69, ra2), (70, (nI rw2))]) (V := [(nI T), (nI dc), (nI fd), (nI md), ra2, (nI rw2), (nI T), (nI dc), (nI fd), (nI md), ra2, (nI rw2), ra2, (nI rw2)]) rfl rfl rfl hP
                            have hD : va_D A (mW G h0 a (upd (upd (upd (upd (upd (upd (upd (upd F 9 (nI T)) 35 (nI dc)) 44 (nI fd)) 49 (nI md)) 69 ra2) 70 (nI rw2)) 69 ra2) 70 (nI rw2)) B) := mW_D hD
                            refine pc_V0 (G := G) (As := [.int (nI 9), .int (nI T)]) (rest := []) hx hb hml hown hq hE hX pX0_al hP hD hS hA hl.1 (R_note l G h0 a (upd (upd (upd (upd (upd (upd F 9 (nI T)) 35 (nI dc)) 44 (nI fd)) 49 (nI md)) 69 ra2) 70 (nI rw2)) B 9 T rw2 ra2 (by omega) (by omega) (by omega)) (gV pw_1749 pw_1750 pw_1751 pw_1523 pw_1740) hV_X12_note 0 9 rfl rfl rfl rfl (Nat.le_of_ble_eq_true rfl) dX12_thirdRound_459 ⟨Nat.le_of_ble_eq_true rfl, Nat.le_of_ble_eq_true rfl⟩ ⟨Nat.le_of_ble_eq_true rfl, Nat.le_of_ble_eq_true rfl⟩ (fun v64 u62 H locs hw63 hP hD hS => ?_)
                            obtain ⟨rw65, ra66⟩ := u62
                            obtain ⟨hw63, h67, h68⟩ := hw63
                            replace h67 : 0 < rw65 := h67
                            replace h68 : rw65 ≤ 15 := h68
                            obtain rfl : v64 = none := hw63
                            have hP : va_P G.1 pCl (mW G h0 a (upd (upd (upd (upd (upd (upd F 9 (nI T)) 35 (nI dc)) 44 (nI fd)) 49 (nI md)) 69 ra66) 70 (nI rw65)) B) _ := mW_to (F := F) (l1 := [(9, (nI T)), (35, (nI dc)), (44, (nI fd)), (49, (nI md)), (69, ra2), (70, (nI rw2)), (69, ra66), (70, (nI rw65))]) (l2 := [(9, (nI T)), (35, (nI dc)), (44, (nI fd)), (49, (nI md)), (69, ra66), (70, (nI rw65))]) (V := [(nI T), (nI dc), (nI fd), (nI md), ra66, (nI rw65), ra66, (nI rw65), (nI T), (nI dc), (nI fd), (nI md), ra66, (nI rw65)]) rfl rfl rfl hP
                            have hD : va_D A (mW G h0 a (upd (upd (upd (upd (upd (upd F 9 (nI T)) 35 (nI dc)) 44 (nI fd)) 49 (nI md)) 69 ra66) 70 (nI rw65)) B) := mW_D hD
                            refine W.widen (k := 0) (n := 0) (Nat.le_of_ble_eq_true rfl) (Nat.le_of_ble_eq_true rfl) ?_
                            refine W.eq (g2 := F0 m 462 ls []) rfl ?_
                            have hz69 : rw ≤ 15 * rw65 := (by omega)
                            have hz70 : rw65 ≤ 15 := (by omega)
                            have hz71 : If (rw65 = 0) (∀ m : Nat, m < md → ∀ o : Nat, o < md → T1P B m o) := (fun _ => h1 (by omega))
                            have hz72 : If (rw65 = 0) (∀ d : Nat, 7 ≤ d → d < dc → ∀ m : Nat, m < md → TT B md d m) := (fun _ d a b => h3 (by omega) d a (by omega))
                            have hz73 : If (rw65 = 0) (T4P B dc md) := (fun e => absurd e (by omega))
                            have hP : va_P G.1 pCl (mW G h0 a (upd (upd (upd (upd (upd (upd F 9 (nI T)) 35 (nI dc)) 44 (nI fd)) 49 (nI md)) 69 ra66) 70 (nI rw65)) B) _ := hP
                            have hD : va_D A (mW G h0 a (upd (upd (upd (upd (upd (upd F 9 (nI T)) 35 (nI dc)) 44 (nI fd)) 49 (nI md)) 69 ra66) 70 (nI rw65)) B) := mW_D hD
                            exact W.vret hx hb hr (fun t9 ht9 hW9 => ⟨⟨_, (rw65, ra66), rfl, ⟨rfl, hz69, hz70, hz71, hz72, hz73⟩, by rw [ht9]; exact hP, hD⟩, hS.F ht9⟩) hS.2.2 dX12_thirdRound_462
                          · have n74 : ¬ (0 < q53) := fun h9 => c60 ((nI_ltI (a := 0) (b := q53) (by omega) (by omega)).mpr h9)
                            refine lv_aload_n hx hb dX12_thirdRound_443 rfl (lv_at hl 2 rfl) ?_
                            refine lv_iload_n hx hb dX12_thirdRound_444 rfl (lv_at hl 0 rfl) ?_
                            have hP : va_P G.1 pCl (mW G h0 a (upd (upd (upd (upd (upd (upd F 9 (nI T)) 35 (nI dc)) 44 (nI fd)) 49 (nI md)) 69 ra2) 70 (nI rw2)) (updA (updA B 21 (B 21)) 39 (B 39))) _ := mW_to (F := F) (l1 := [(9, (nI T)), (35, (nI dc)), (44, (nI fd)), (49, (nI md)), (69, ra2), (70, (nI rw2))]) (l2 := [(9, (nI T)), (35, (nI dc)), (44, (nI fd)), (49, (nI md)), (69, ra2), (70, (nI rw2))]) (V := [(nI T), (nI dc), (nI fd), (nI md), ra2, (nI rw2), (nI T), (nI dc), (nI fd), (nI md), ra2, (nI rw2)]) rfl rfl (show B = (updA (updA B 21 (B 21)) 39 (B 39)) from updsA_eq2 (F := B) (l1 := []) (l2 := [(21, (B 21)), (39, (B 39))]) (V := [(B 21), (B 39)]) rfl rfl) hP
                            have hD : va_D A (mW G h0 a (upd (upd (upd (upd (upd (upd F 9 (nI T)) 35 (nI dc)) 44 (nI fd)) 49 (nI md)) 69 ra2) 70 (nI rw2)) (updA (updA B 21 (B 21)) 39 (B 39))) := mW_D hD
                            refine pc_V0 (G := G) (As := [.int (nI m46)]) (rest := []) hx hb hml hown hq hE hX pX0_al hP hD hS hA hl.1 (R_resultOf l G h0 a (upd (upd (upd (upd (upd (upd F 9 (nI T)) 35 (nI dc)) 44 (nI fd)) 49 (nI md)) 69 ra2) 70 (nI rw2)) B m46 wr (B 39) (B 21) (by omega) (by omega) hy51) (gV pw_1764 pw_1765 pw_1766 pw_1523 pw_1762) hV_X12_resultOf 0 9 rfl rfl rfl rfl (Nat.le_of_ble_eq_true rfl) dX12_thirdRound_445 ⟨Nat.le_of_ble_eq_true rfl, Nat.le_of_ble_eq_true rfl⟩ ⟨Nat.le_of_ble_eq_true rfl, Nat.le_of_ble_eq_true rfl⟩ (fun v77 u75 H locs hw76 hP hD hS => ?_)
                            obtain rfl : v77 = some (.int (resF (B 39) (B 21) m46)) := hw76
                            have hP : va_P G.1 pCl (mW G h0 a (upd (upd (upd (upd (upd (upd F 9 (nI T)) 35 (nI dc)) 44 (nI fd)) 49 (nI md)) 69 ra2) 70 (nI rw2)) B) _ := mW_to (F := F) (l1 := [(9, (nI T)), (35, (nI dc)), (44, (nI fd)), (49, (nI md)), (69, ra2), (70, (nI rw2))]) (l2 := [(9, (nI T)), (35, (nI dc)), (44, (nI fd)), (49, (nI md)), (69, ra2), (70, (nI rw2))]) (V := [(nI T), (nI dc), (nI fd), (nI md), ra2, (nI rw2), (nI T), (nI dc), (nI fd), (nI md), ra2, (nI rw2)]) rfl rfl (show (updA (updA B 21 (B 21)) 39 (B 39)) = B from updsA_eq2 (F := B) (l1 := [(21, (B 21)), (39, (B 39))]) (l2 := []) (V := [(B 21), (B 39)]) rfl rfl) hP
                            have hD : va_D A (mW G h0 a (upd (upd (upd (upd (upd (upd F 9 (nI T)) 35 (nI dc)) 44 (nI fd)) 49 (nI md)) 69 ra2) 70 (nI rw2)) B) := mW_D hD
                            refine W.widen (k := 0) (n := 0) (Nat.le_of_ble_eq_true rfl) (Nat.le_of_ble_eq_true rfl) ?_
                            refine W.eq (g2 := F0 m 448 ls [.int (resF (B 39) (B 21) m46)]) rfl ?_
                            refine lv_iconst (v := 1) hx hb dX12_thirdRound_448 (by decide) ?_
                            refine lv_icmp_eq (tgt := 462) hx hb dX12_thirdRound_449 (by decide) (fun c78 => ?_) (fun c78 => ?_)
                            · have hz79 : rw ≤ 15 * rw2 := (by omega)
                              have hz80 : rw2 ≤ 15 := (by omega)
                              have hz81 : If (rw2 = 0) (∀ m : Nat, m < md → ∀ o : Nat, o < md → T1P B m o) := (fun _ => h1 (by omega))
                              have hz82 : If (rw2 = 0) (∀ d : Nat, 7 ≤ d → d < dc → ∀ m : Nat, m < md → TT B md d m) := (fun _ d a b => h3 (by omega) d a (by omega))
                              have hz83 : If (rw2 = 0) (T4P B dc md) := (fun _ => ⟨d24, m46, e25, by omega, c29, e47, h48, by rw [h55, show q53 = 0 by omega], c78⟩)
                              have hP : va_P G.1 pCl (mW G h0 a (upd (upd (upd (upd (upd (upd F 9 (nI T)) 35 (nI dc)) 44 (nI fd)) 49 (nI md)) 69 ra2) 70 (nI rw2)) B) _ := hP
                              have hD : va_D A (mW G h0 a (upd (upd (upd (upd (upd (upd F 9 (nI T)) 35 (nI dc)) 44 (nI fd)) 49 (nI md)) 69 ra2) 70 (nI rw2)) B) := mW_D hD
                              exact W.vret hx hb hr (fun t9 ht9 hW9 => ⟨⟨_, (rw2, ra2), rfl, ⟨rfl, hz79, hz80, hz81, hz82, hz83⟩, by rw [ht9]; exact hP, hD⟩, hS.F ht9⟩) hS.2.2 dX12_thirdRound_462
                            · refine lv_aload_n hx hb dX12_thirdRound_452 rfl (lv_at hl 2 rfl) ?_
                              refine lv_bipush (v := 9) hx hb dX12_thirdRound_453 (by decide) ?_
                              refine lv_aload_n hx hb dX12_thirdRound_455 rfl (lv_at hl 2 rfl) ?_
                              refine r_get (v := .int (nI T)) hx hb hown hq hE hP 9 314 tFX12_9 (by decide) pw_1568 rfl dX12_thirdRound_456 ?_
                              have hP : va_P G.1 pCl (mW G h0 a (upd (upd (upd (upd (upd (upd (upd (upd F 9 (nI T)) 35 (nI dc)) 44 (nI fd)) 49 (nI md)) 69 ra2) 70 (nI rw2)) 69 ra2) 70 (nI rw2)) B) _ := mW_to (F := F) (l1 := [(9, (nI T)), (35, (nI dc)), (44, (nI fd)), (49, (nI md)), (69, ra2), (70, (nI rw2))]) (l2 := [(9, (nI T)), (35, (nI dc)), (44, (nI fd)), (49, (nI md)), (69, ra2), (70, (nI rw2)), (69, ra2), (70, (nI rw2))]) (V := [(nI T), (nI dc), (nI fd), (nI md), ra2, (nI rw2), (nI T), (nI dc), (nI fd), (nI md), ra2, (nI rw2), ra2, (nI rw2)]) rfl rfl rfl hP
                              have hD : va_D A (mW G h0 a (upd (upd (upd (upd (upd (upd (upd (upd F 9 (nI T)) 35 (nI dc)) 44 (nI fd)) 49 (nI md)) 69 ra2) 70 (nI rw2)) 69 ra2) 70 (nI rw2)) B) := mW_D hD
                              refine pc_V0 (G := G) (As := [.int (nI 9), .int (nI T)]) (rest := []) hx hb hml hown hq hE hX pX0_al hP hD hS hA hl.1 (R_note l G h0 a (upd (upd (upd (upd (upd (upd F 9 (nI T)) 35 (nI dc)) 44 (nI fd)) 49 (nI md)) 69 ra2) 70 (nI rw2)) B 9 T rw2 ra2 (by omega) (by omega) (by omega)) (gV pw_1749 pw_1750 pw_1751 pw_1523 pw_1740) hV_X12_note 0 9 rfl rfl rfl rfl (Nat.le_of_ble_eq_true rfl) dX12_thirdRound_459 ⟨Nat.le_of_ble_eq_true rfl, Nat.le_of_ble_eq_true rfl⟩ ⟨Nat.le_of_ble_eq_true rfl, Nat.le_of_ble_eq_true rfl⟩ (fun v86 u84 H locs hw85 hP hD hS => ?_)
                              obtain ⟨rw87, ra88⟩ := u84
                              obtain ⟨hw85, h89, h90⟩ := hw85
                              replace h89 : 0 < rw87 := h89
                              replace h90 : rw87 ≤ 15 := h90
                              obtain rfl : v86 = none := hw85
                              have hP : va_P G.1 pCl (mW G h0 a (upd (upd (upd (upd (upd (upd F 9 (nI T)) 35 (nI dc)) 44 (nI fd)) 49 (nI md)) 69 ra88) 70 (nI rw87)) B) _ := mW_to (F := F) (l1 := [(9, (nI T)), (35, (nI dc)), (44, (nI fd)), (49, (nI md)), (69, ra2), (70, (nI rw2)), (69, ra88), (70, (nI rw87))]) (l2 := [(9, (nI T)), (35, (nI dc)), (44, (nI fd)), (49, (nI md)), (69, ra88), (70, (nI rw87))]) (V := [(nI T), (nI dc), (nI fd), (nI md), ra88, (nI rw87), ra88, (nI rw87), (nI T), (nI dc), (nI fd), (nI md), ra88, (nI rw87)]) rfl rfl rfl hP
                              have hD : va_D A (mW G h0 a (upd (upd (upd (upd (upd (upd F 9 (nI T)) 35 (nI dc)) 44 (nI fd)) 49 (nI md)) 69 ra88) 70 (nI rw87)) B) := mW_D hD
                              refine W.widen (k := 0) (n := 0) (Nat.le_of_ble_eq_true rfl) (Nat.le_of_ble_eq_true rfl) ?_
                              refine W.eq (g2 := F0 m 462 ls []) rfl ?_
                              have hz91 : rw ≤ 15 * rw87 := (by omega)
                              have hz92 : rw87 ≤ 15 := (by omega)
                              have hz93 : If (rw87 = 0) (∀ m : Nat, m < md → ∀ o : Nat, o < md → T1P B m o) := (fun _ => h1 (by omega))
                              have hz94 : If (rw87 = 0) (∀ d : Nat, 7 ≤ d → d < dc → ∀ m : Nat, m < md → TT B md d m) := (fun _ d a b => h3 (by omega) d a (by omega))
                              have hz95 : If (rw87 = 0) (T4P B dc md) := (fun e => absurd e (by omega))
                              have hP : va_P G.1 pCl (mW G h0 a (upd (upd (upd (upd (upd (upd F 9 (nI T)) 35 (nI dc)) 44 (nI fd)) 49 (nI md)) 69 ra88) 70 (nI rw87)) B) _ := hP
                              have hD : va_D A (mW G h0 a (upd (upd (upd (upd (upd (upd F 9 (nI T)) 35 (nI dc)) 44 (nI fd)) 49 (nI md)) 69 ra88) 70 (nI rw87)) B) := mW_D hD
                              exact W.vret hx hb hr (fun t9 ht9 hW9 => ⟨⟨_, (rw87, ra88), rfl, ⟨rfl, hz91, hz92, hz93, hz94, hz95⟩, by rw [ht9]; exact hP, hD⟩, hS.F ht9⟩) hS.2.2 dX12_thirdRound_462
                      · refine lv_iconst (v := (-1)) hx hb dX12_thirdRound_417 (by decide) ?_
                        refine lv_goto (tgt := 428) hx hb dX12_thirdRound_418 (by decide) ?_
                        refine lv_istore_n (lv' := [(2, .int (-1)), (1, .int (nI d24)), (0, .ref h0)]) hx hb dX12_thirdRound_428 rfl hl (by decide) rfl (fun ls hl => ?_)
                        refine lv_iload_n hx hb dX12_thirdRound_429 rfl (lv_at hl 0 rfl) ?_
                        refine lv_iconst (v := (-1)) hx hb dX12_thirdRound_430 (by decide) ?_
                        refine lv_icmp_eq (tgt := 452) hx hb dX12_thirdRound_431 (by decide) (fun c96 => ?_) (fun c96 => absurd c96 (by decide))
                        refine lv_aload_n hx hb dX12_thirdRound_452 rfl (lv_at hl 2 rfl) ?_
                        refine lv_bipush (v := 9) hx hb dX12_thirdRound_453 (by decide) ?_
                        refine lv_aload_n hx hb dX12_thirdRound_455 rfl (lv_at hl 2 rfl) ?_
                        refine r_get (v := .int (nI T)) hx hb hown hq hE hP 9 314 tFX12_9 (by decide) pw_1568 rfl dX12_thirdRound_456 ?_
                        have hP : va_P G.1 pCl (mW G h0 a (upd (upd (upd (upd (upd (upd (upd (upd F 9 (nI T)) 35 (nI dc)) 44 (nI fd)) 49 (nI md)) 69 ra2) 70 (nI rw2)) 69 ra2) 70 (nI rw2)) B) _ := mW_to (F := F) (l1 := [(9, (nI T)), (35, (nI dc)), (44, (nI fd)), (49, (nI md)), (69, ra2), (70, (nI rw2))]) (l2 := [(9, (nI T)), (35, (nI dc)), (44, (nI fd)), (49, (nI md)), (69, ra2), (70, (nI rw2)), (69, ra2), (70, (nI rw2))]) (V := [(nI T), (nI dc), (nI fd), (nI md), ra2, (nI rw2), (nI T), (nI dc), (nI fd), (nI md), ra2, (nI rw2), ra2, (nI rw2)]) rfl rfl rfl hP
                        have hD : va_D A (mW G h0 a (upd (upd (upd (upd (upd (upd (upd (upd F 9 (nI T)) 35 (nI dc)) 44 (nI fd)) 49 (nI md)) 69 ra2) 70 (nI rw2)) 69 ra2) 70 (nI rw2)) B) := mW_D hD
                        refine pc_V0 (G := G) (As := [.int (nI 9), .int (nI T)]) (rest := []) hx hb hml hown hq hE hX pX0_al hP hD hS hA hl.1 (R_note l G h0 a (upd (upd (upd (upd (upd (upd F 9 (nI T)) 35 (nI dc)) 44 (nI fd)) 49 (nI md)) 69 ra2) 70 (nI rw2)) B 9 T rw2 ra2 (by omega) (by omega) (by omega)) (gV pw_1749 pw_1750 pw_1751 pw_1523 pw_1740) hV_X12_note 0 9 rfl rfl rfl rfl (Nat.le_of_ble_eq_true rfl) dX12_thirdRound_459 ⟨Nat.le_of_ble_eq_true rfl, Nat.le_of_ble_eq_true rfl⟩ ⟨Nat.le_of_ble_eq_true rfl, Nat.le_of_ble_eq_true rfl⟩ (fun v99 u97 H locs hw98 hP hD hS => ?_)
                        obtain ⟨rw100, ra101⟩ := u97
                        obtain ⟨hw98, h102, h103⟩ := hw98
                        replace h102 : 0 < rw100 := h102
                        replace h103 : rw100 ≤ 15 := h103
                        obtain rfl : v99 = none := hw98
                        have hP : va_P G.1 pCl (mW G h0 a (upd (upd (upd (upd (upd (upd F 9 (nI T)) 35 (nI dc)) 44 (nI fd)) 49 (nI md)) 69 ra101) 70 (nI rw100)) B) _ := mW_to (F := F) (l1 := [(9, (nI T)), (35, (nI dc)), (44, (nI fd)), (49, (nI md)), (69, ra2), (70, (nI rw2)), (69, ra101), (70, (nI rw100))]) (l2 := [(9, (nI T)), (35, (nI dc)), (44, (nI fd)), (49, (nI md)), (69, ra101), (70, (nI rw100))]) (V := [(nI T), (nI dc), (nI fd), (nI md), ra101, (nI rw100), ra101, (nI rw100), (nI T), (nI dc), (nI fd), (nI md), ra101, (nI rw100)]) rfl rfl rfl hP
                        have hD : va_D A (mW G h0 a (upd (upd (upd (upd (upd (upd F 9 (nI T)) 35 (nI dc)) 44 (nI fd)) 49 (nI md)) 69 ra101) 70 (nI rw100)) B) := mW_D hD
                        refine W.widen (k := 0) (n := 0) (Nat.le_of_ble_eq_true rfl) (Nat.le_of_ble_eq_true rfl) ?_
                        refine W.eq (g2 := F0 m 462 ls []) rfl ?_
                        have hz104 : rw ≤ 15 * rw100 := (by omega)
                        have hz105 : rw100 ≤ 15 := (by omega)
                        have hz106 : If (rw100 = 0) (∀ m : Nat, m < md → ∀ o : Nat, o < md → T1P B m o) := (fun _ => h1 (by omega))
                        have hz107 : If (rw100 = 0) (∀ d : Nat, 7 ≤ d → d < dc → ∀ m : Nat, m < md → TT B md d m) := (fun _ d a b => h3 (by omega) d a (by omega))
                        have hz108 : If (rw100 = 0) (T4P B dc md) := (fun e => absurd e (by omega))
                        have hP : va_P G.1 pCl (mW G h0 a (upd (upd (upd (upd (upd (upd F 9 (nI T)) 35 (nI dc)) 44 (nI fd)) 49 (nI md)) 69 ra101) 70 (nI rw100)) B) _ := hP
                        have hD : va_D A (mW G h0 a (upd (upd (upd (upd (upd (upd F 9 (nI T)) 35 (nI dc)) 44 (nI fd)) 49 (nI md)) 69 ra101) 70 (nI rw100)) B) := mW_D hD
                        exact W.vret hx hb hr (fun t9 ht9 hW9 => ⟨⟨_, (rw100, ra101), rfl, ⟨rfl, hz104, hz105, hz106, hz107, hz108⟩, by rw [ht9]; exact hP, hD⟩, hS.F ht9⟩) hS.2.2 dX12_thirdRound_462
                  · have n109 : ¬ (dc ≤ d2) := fun h9 => c5 ((nI_leI (a := dc) (b := d2) (by omega) (by omega)).mpr h9)
                    refine lv_iconst (v := 0) hx hb dX12_thirdRound_175 (by decide) ?_
                    refine lv_istore_n (lv' := [(2, .int 0), (1, .int (nI d2)), (0, .ref h0)]) hx hb dX12_thirdRound_176 rfl hl (by decide) rfl (fun ls hl => ?_)
                    have loop_p : ∀ (n_p : Nat) (m3 : Nat) (rw2 : Nat) (ra2 : Int32) (H : Heap) (locs : List Loc) (ls : Array Slot), m3 ≤ md → md + 1 ≤ m3 + n_p → (rw ≤ 15 * rw2) → (rw2 ≤ 15) → (d2 < dc) → (If (rw2 = 0) (∀ m : Nat, m < md → ∀ o : Nat, o < md → T1P B m o)) → (If (rw2 = 0) (∀ d : Nat, 7 ≤ d → d < d2 → ∀ m : Nat, m < md → TT B md d m)) → (If (rw2 = 0) (∀ m : Nat, m < m3 → TT B md d2 m)) → va_P G.1 pCl (mW G h0 a (upd (upd (upd (upd (upd (upd F 9 (nI T)) 35 (nI dc)) 44 (nI fd)) 49 (nI md)) 69 ra2) 70 (nI rw2)) B) H → va_D A (mW G h0 a (upd (upd (upd (upd (upd (upd F 9 (nI T)) 35 (nI dc)) 44 (nI fd)) 49 (nI md)) 69 ra2) 70 (nI rw2)) B) → va_S A s.heap H locs → lv_has ls 5 [(2, .int (nI m3)), (1, .int (nI d2)), (0, .ref h0)] → W p l e (headSpec (Cond.code yX12_thirdRound cX12_thirdRound 5 none :: pw) ({ frames := 4, cells := 0, slots := 0, locals := 105 } : Room)).room s m ([.ref h0] : List Value).toArray below meth c H locs 0 0 (MQ below (pQ G A (fun (v : Option Value) (u : Nat × Int32) => v = none ∧ (rw ≤ 15 * u.1) ∧ (u.1 ≤ 15) ∧ (If (u.1 = 0) (∀ m : Nat, m < md → ∀ o : Nat, o < md → T1P B m o)) ∧ (If (u.1 = 0) (∀ d : Nat, 7 ≤ d → d < dc → ∀ m : Nat, m < md → TT B md d m)) ∧ (If (u.1 = 0) (T4P B dc md))) (fun u => (mW G h0 a (upd (upd (upd (upd (upd (upd F 9 (nI T)) 35 (nI dc)) 44 (nI fd)) 49 (nI md)) 69 u.2) 70 (nI u.1)) B))) ([.ref h0] : List Value).toArray s ({ frames := 4, cells := 0, slots := 0, locals := 105 } : Room).cells ({ frames := 4, cells := 0, slots := 0, locals := 105 } : Room).slots A) (F0 m 177 ls []) := by
                      intro n_p
                      induction n_p with
                      | zero => intro m3 rw2 ra2 H locs ls hk_p hn_p; omega
                      | succ n_p ih_p =>
                        intro m3 rw2 ra2 H locs ls hk_p hn_p hw1 hw2 hdd h1 h3 h4 hP hD hS hl
                        refine lv_iload_n hx hb dX12_thirdRound_177 rfl (lv_at hl 0 rfl) ?_
                        refine lv_aload_n hx hb dX12_thirdRound_178 rfl (lv_at hl 2 rfl) ?_
                        refine r_get (v := .int (nI md)) hx hb hown hq hE hP 49 416 tFX12_49 (by decide) pw_1721 rfl dX12_thirdRound_179 ?_
                        refine lv_icmp_ge (tgt := 390) hx hb dX12_thirdRound_182 (by decide) (fun c110 => ?_) (fun c110 => ?_)
                        · have n111 : md ≤ m3 := (nI_leI (a := md) (b := m3) (by omega) (by omega)).mp c110
                          refine lv_iinc (v := (nI (d2 + 1))) (lv' := [(1, .int (nI (d2 + 1))), (2, .int (nI m3)), (0, .ref h0)]) hx hb dX12_thirdRound_390 hl (k := 1) rfl (nI_1 d2) (by decide) rfl (fun ls hl => ?_)
                          refine lv_goto (tgt := 167) hx hb dX12_thirdRound_393 (by decide) ?_
                          have hP : va_P G.1 pCl (mW G h0 a (upd (upd (upd (upd (upd (upd F 9 (nI T)) 35 (nI dc)) 44 (nI fd)) 49 (nI md)) 69 ra2) 70 (nI rw2)) B) _ := hP
                          have hD : va_D A (mW G h0 a (upd (upd (upd (upd (upd (upd F 9 (nI T)) 35 (nI dc)) 44 (nI fd)) 49 (nI md)) 69 ra2) 70 (nI rw2)) B) := mW_D hD
                          exact ih_d (d2 + 1) rw2 ra2 _ _ _ (by omega) (by omega) (by omega) (by omega) (by omega) (fun _ => h1 (by omega)) (fun _ => all_up7 (h3 (by omega)) (fun m hm => h4 (by omega) m (by omega))) hP hD hS (lv_sub hl [0, 2] rfl)
                        · have n112 : ¬ (md ≤ m3) := fun h9 => c110 ((nI_leI (a := md) (b := m3) (by omega) (by omega)).mpr h9)
                          refine lv_aload_n hx hb dX12_thirdRound_185 rfl (lv_at hl 2 rfl) ?_
                          refine lv_aload_n hx hb dX12_thirdRound_186 rfl (lv_at hl 2 rfl) ?_
                          refine r_get (v := .ref (a 36)) hx hb hown hq hE hP 50 120 tFX12_50 (by decide) pw_1467 rfl dX12_thirdRound_187 ?_
                          refine lv_iload_n hx hb dX12_thirdRound_190 rfl (lv_at hl 0 rfl) ?_
                          refine r_ldi (f := (B 36)) (j := m3) hx hb hE hP 36 (ma_36 G a _) rfl (by omega) (by decide) dX12_thirdRound_191 ?_
                          obtain ⟨d113, e114, h115, h116, -⟩ := hps.2.2.1 m3 (by omega)
                          refine lv_topi (fun x117 e118 => ?_)
                          obtain rfl : x117 = nI d113 := e118.trans e114
                          refine lv_iload_n hx hb dX12_thirdRound_192 rfl (lv_at hl 1 rfl) ?_
                          have hP : va_P G.1 pCl (mW G h0 a (upd (upd (upd (upd (upd (upd F 9 (nI T)) 35 (nI dc)) 44 (nI fd)) 49 (nI md)) 69 ra2) 70 (nI rw2)) (updA B 31 (B 31))) _ := mW_to (F := F) (l1 := [(9, (nI T)), (35, (nI dc)), (44, (nI fd)), (49, (nI md)), (69, ra2), (70, (nI rw2))]) (l2 := [(9, (nI T)), (35, (nI dc)), (44, (nI fd)), (49, (nI md)), (69, ra2), (70, (nI rw2))]) (V := [(nI T), (nI dc), (nI fd), (nI md), ra2, (nI rw2), (nI T), (nI dc), (nI fd), (nI md), ra2, (nI rw2)]) rfl rfl (show B = (updA B 31 (B 31)) from updsA_eq2 (F := B) (l1 := []) (l2 := [(31, (B 31))]) (V := [(B 31)]) rfl rfl) hP
                          have hD : va_D A (mW G h0 a (upd (upd (upd (upd (upd (upd F 9 (nI T)) 35 (nI dc)) 44 (nI fd)) 49 (nI md)) 69 ra2) 70 (nI rw2)) (updA B 31 (B 31))) := mW_D hD
                          refine pc_V0 (G := G) (As := [.int (nI d113), .int (nI d2)]) (rest := []) hx hb hml hown hq hE hX pX0_al hP hD hS hA hl.1 (R_isAbove l G h0 a (upd (upd (upd (upd (upd (upd F 9 (nI T)) 35 (nI dc)) 44 (nI fd)) 49 (nI md)) 69 ra2) 70 (nI rw2)) B d113 d2 (B 31) (by omega) hbi) (gV pw_1772 pw_1773 pw_1774 pw_1523 pw_1760) hV_X12_isAbove 0 9 rfl rfl rfl rfl (Nat.le_of_ble_eq_true rfl) dX12_thirdRound_193 ⟨Nat.le_of_ble_eq_true rfl, Nat.le_of_ble_eq_true rfl⟩ ⟨Nat.le_of_ble_eq_true rfl, Nat.le_of_ble_eq_true rfl⟩ (fun v121 u119 H locs hw120 hP hD hS => ?_)
                          obtain rfl : v121 = some (.int ((B 31) (40 * d113 + d2))) := hw120
                          have hP : va_P G.1 pCl (mW G h0 a (upd (upd (upd (upd (upd (upd F 9 (nI T)) 35 (nI dc)) 44 (nI fd)) 49 (nI md)) 69 ra2) 70 (nI rw2)) B) _ := mW_to (F := F) (l1 := [(9, (nI T)), (35, (nI dc)), (44, (nI fd)), (49, (nI md)), (69, ra2), (70, (nI rw2))]) (l2 := [(9, (nI T)), (35, (nI dc)), (44, (nI fd)), (49, (nI md)), (69, ra2), (70, (nI rw2))]) (V := [(nI T), (nI dc), (nI fd), (nI md), ra2, (nI rw2), (nI T), (nI dc), (nI fd), (nI md), ra2, (nI rw2)]) rfl rfl (show (updA B 31 (B 31)) = B from updsA_eq2 (F := B) (l1 := [(31, (B 31))]) (l2 := []) (V := [(B 31)]) rfl rfl) hP
                          have hD : va_D A (mW G h0 a (upd (upd (upd (upd (upd (upd F 9 (nI T)) 35 (nI dc)) 44 (nI fd)) 49 (nI md)) 69 ra2) 70 (nI rw2)) B) := mW_D hD
                          refine W.widen (k := 0) (n := 0) (Nat.le_of_ble_eq_true rfl) (Nat.le_of_ble_eq_true rfl) ?_
                          refine W.eq (g2 := F0 m 196 ls [.int ((B 31) (40 * d113 + d2))]) rfl ?_
                          refine lv_if_ne (tgt := 202) hx hb dX12_thirdRound_196 (by decide) (fun c122 => ?_) (fun c122 => ?_)
                          · refine lv_iconst (v := 0) hx hb dX12_thirdRound_202 (by decide) ?_
                            refine lv_istore_n (lv' := [(3, .int 0), (2, .int (nI m3)), (1, .int (nI d2)), (0, .ref h0)]) hx hb dX12_thirdRound_203 rfl hl (by decide) rfl (fun ls hl => ?_)
                            refine lv_iconst (v := 0) hx hb dX12_thirdRound_204 (by decide) ?_
                            refine lv_istore (lv' := [(4, .int 0), (3, .int 0), (2, .int (nI m3)), (1, .int (nI d2)), (0, .ref h0)]) hx hb dX12_thirdRound_205 hl (by decide) rfl (fun ls hl => ?_)
                            have loop_h : ∀ (n_h : Nat) (o3 : Nat) (rw2 : Nat) (ra2 : Int32) (hs : Nat) (H : Heap) (locs : List Loc) (ls : Array Slot), o3 ≤ md → md + 1 ≤ o3 + n_h → (rw ≤ 15 * rw2) → (rw2 ≤ 15) → (m3 < md) → (hs ≤ 1) → (If (rw2 = 0) (∀ m : Nat, m < md → ∀ o : Nat, o < md → T1P B m o)) → (If (rw2 = 0) (∀ d : Nat, 7 ≤ d → d < d2 → ∀ m : Nat, m < md → TT B md d m)) → (If (rw2 = 0) (∀ m : Nat, m < m3 → TT B md d2 m)) → (If (hs = 1) (∃ o : Nat, o < md ∧ B 36 o = nI d2 ∧ B 37 o = B 37 m3)) → va_P G.1 pCl (mW G h0 a (upd (upd (upd (upd (upd (upd F 9 (nI T)) 35 (nI dc)) 44 (nI fd)) 49 (nI md)) 69 ra2) 70 (nI rw2)) B) H → va_D A (mW G h0 a (upd (upd (upd (upd (upd (upd F 9 (nI T)) 35 (nI dc)) 44 (nI fd)) 49 (nI md)) 69 ra2) 70 (nI rw2)) B) → va_S A s.heap H locs → lv_has ls 5 [(4, .int (nI o3)), (3, .int (nI hs)), (2, .int (nI m3)), (1, .int (nI d2)), (0, .ref h0)] → W p l e (headSpec (Cond.code yX12_thirdRound cX12_thirdRound 5 none :: pw) ({ frames := 4, cells := 0, slots := 0, locals := 105 } : Room)).room s m ([.ref h0] : List Value).toArray below meth c H locs 0 0 (MQ below (pQ G A (fun (v : Option Value) (u : Nat × Int32) => v = none ∧ (rw ≤ 15 * u.1) ∧ (u.1 ≤ 15) ∧ (If (u.1 = 0) (∀ m : Nat, m < md → ∀ o : Nat, o < md → T1P B m o)) ∧ (If (u.1 = 0) (∀ d : Nat, 7 ≤ d → d < dc → ∀ m : Nat, m < md → TT B md d m)) ∧ (If (u.1 = 0) (T4P B dc md))) (fun u => (mW G h0 a (upd (upd (upd (upd (upd (upd F 9 (nI T)) 35 (nI dc)) 44 (nI fd)) 49 (nI md)) 69 u.2) 70 (nI u.1)) B))) ([.ref h0] : List Value).toArray s ({ frames := 4, cells := 0, slots := 0, locals := 105 } : Room).cells ({ frames := 4, cells := 0, slots := 0, locals := 105 } : Room).slots A) (F0 m 207 ls []) := by
                              intro n_h
                              induction n_h with
                              | zero => intro o3 rw2 ra2 hs H locs ls hk_h hn_h; omega
                              | succ n_h ih_h =>
                                intro o3 rw2 ra2 hs H locs ls hk_h hn_h hw1 hw2 hm3 hs1 h1 h3 h4 hha hP hD hS hl
                                refine lv_iload hx hb dX12_thirdRound_207 (lv_at hl 0 rfl) ?_
                                refine lv_aload_n hx hb dX12_thirdRound_209 rfl (lv_at hl 4 rfl) ?_
                                refine r_get (v := .int (nI md)) hx hb hown hq hE hP 49 416 tFX12_49 (by decide) pw_1721 rfl dX12_thirdRound_210 ?_
                                refine lv_icmp_ge (tgt := 259) hx hb dX12_thirdRound_213 (by decide) (fun c123 => ?_) (fun c123 => ?_)
                                · have n124 : md ≤ o3 := (nI_leI (a := md) (b := o3) (by omega) (by omega)).mp c123
                                  refine lv_iconst (v := 0) hx hb dX12_thirdRound_259 (by decide) ?_
                                  refine lv_istore (lv' := [(4, .int 0), (3, .int (nI hs)), (2, .int (nI m3)), (1, .int (nI d2)), (0, .ref h0)]) hx hb dX12_thirdRound_260 hl (by decide) rfl (fun ls hl => ?_)
                                  have loop_j : ∀ (n_j : Nat) (o4 : Nat) (rw2 : Nat) (ra2 : Int32) (hs : Nat) (H : Heap) (locs : List Loc) (ls : Array Slot), o4 ≤ md → md + 1 ≤ o4 + n_j → (rw ≤ 15 * rw2) → (rw2 ≤ 15) → (m3 < md) → (hs ≤ 1) → (If (rw2 = 0) (∀ m : Nat, m < md → ∀ o : Nat, o < md → T1P B m o)) → (If (rw2 = 0) (∀ d : Nat, 7 ≤ d → d < d2 → ∀ m : Nat, m < md → TT B md d m)) → (If (rw2 = 0) (∀ m : Nat, m < m3 → TT B md d2 m)) → (If (hs = 1) (∃ o : Nat, o < md ∧ B 36 o = nI d2 ∧ B 37 o = B 37 m3)) → (If (rw2 = 0) (∀ o : Nat, o < o4 → T2o B d2 m3 o)) → va_P G.1 pCl (mW G h0 a (upd (upd (upd (upd (upd (upd F 9 (nI T)) 35 (nI dc)) 44 (nI fd)) 49 (nI md)) 69 ra2) 70 (nI rw2)) B) H → va_D A (mW G h0 a (upd (upd (upd (upd (upd (upd F 9 (nI T)) 35 (nI dc)) 44 (nI fd)) 49 (nI md)) 69 ra2) 70 (nI rw2)) B) → va_S A s.heap H locs → lv_has ls 5 [(4, .int (nI o4)), (3, .int (nI hs)), (2, .int (nI m3)), (1, .int (nI d2)), (0, .ref h0)] → W p l e (headSpec (Cond.code yX12_thirdRound cX12_thirdRound 5 none :: pw) ({ frames := 4, cells := 0, slots := 0, locals := 105 } : Room)).room s m ([.ref h0] : List Value).toArray below meth c H locs 0 0 (MQ below (pQ G A (fun (v : Option Value) (u : Nat × Int32) => v = none ∧ (rw ≤ 15 * u.1) ∧ (u.1 ≤ 15) ∧ (If (u.1 = 0) (∀ m : Nat, m < md → ∀ o : Nat, o < md → T1P B m o)) ∧ (If (u.1 = 0) (∀ d : Nat, 7 ≤ d → d < dc → ∀ m : Nat, m < md → TT B md d m)) ∧ (If (u.1 = 0) (T4P B dc md))) (fun u => (mW G h0 a (upd (upd (upd (upd (upd (upd F 9 (nI T)) 35 (nI dc)) 44 (nI fd)) 49 (nI md)) 69 u.2) 70 (nI u.1)) B))) ([.ref h0] : List Value).toArray s ({ frames := 4, cells := 0, slots := 0, locals := 105 } : Room).cells ({ frames := 4, cells := 0, slots := 0, locals := 105 } : Room).slots A) (F0 m 262 ls []) := by
                                    intro n_j
                                    induction n_j with
                                    | zero => intro o4 rw2 ra2 hs H locs ls hk_j hn_j; omega
                                    | succ n_j ih_j =>
                                      intro o4 rw2 ra2 hs H locs ls hk_j hn_j hw1 hw2 hm3 hs1 h1 h3 h4 hha h5 hP hD hS hl
                                      refine lv_iload hx hb dX12_thirdRound_262 (lv_at hl 0 rfl) ?_
                                      refine lv_aload_n hx hb dX12_thirdRound_264 rfl (lv_at hl 4 rfl) ?_
                                      refine r_get (v := .int (nI md)) hx hb hown hq hE hP 49 416 tFX12_49 (by decide) pw_1721 rfl dX12_thirdRound_265 ?_
                                      refine lv_icmp_ge (tgt := 334) hx hb dX12_thirdRound_268 (by decide) (fun c125 => ?_) (fun c125 => ?_)
                                      · have n126 : md ≤ o4 := (nI_leI (a := md) (b := o4) (by omega) (by omega)).mp c125
                                        refine lv_aload_n hx hb dX12_thirdRound_334 rfl (lv_at hl 4 rfl) ?_
                                        refine r_get (v := .ref (a 26)) hx hb hown hq hE hP 38 90 tFX12_38 (by decide) pw_1457 rfl dX12_thirdRound_335 ?_
                                        refine lv_iload_n hx hb dX12_thirdRound_338 rfl (lv_at hl 3 rfl) ?_
                                        refine r_ldz (f := (B 26)) (j := d2) hx hb hE hP 26 (ma_26 G a _) rfl (by omega) (by decide) dX12_thirdRound_339 ?_
                                        refine lv_if_ne (tgt := 384) hx hb dX12_thirdRound_340 (by decide) (fun c127 => ?_) (fun c127 => ?_)
                                        · refine lv_iinc (v := (nI (m3 + 1))) (lv' := [(2, .int (nI (m3 + 1))), (4, .int (nI o4)), (3, .int (nI hs)), (1, .int (nI d2)), (0, .ref h0)]) hx hb dX12_thirdRound_384 hl (k := 2) rfl (nI_1 m3) (by decide) rfl (fun ls hl => ?_)
                                          refine lv_goto (tgt := 177) hx hb dX12_thirdRound_387 (by decide) ?_
                                          have hP : va_P G.1 pCl (mW G h0 a (upd (upd (upd (upd (upd (upd F 9 (nI T)) 35 (nI dc)) 44 (nI fd)) 49 (nI md)) 69 ra2) 70 (nI rw2)) B) _ := hP
                                          have hD : va_D A (mW G h0 a (upd (upd (upd (upd (upd (upd F 9 (nI T)) 35 (nI dc)) 44 (nI fd)) 49 (nI md)) 69 ra2) 70 (nI rw2)) B) := mW_D hD
                                          exact ih_p (m3 + 1) rw2 ra2 _ _ _ (by omega) (by omega) (by omega) (by omega) (by omega) (fun _ => h1 (by omega)) (fun _ => h3 (by omega)) (fun e => all_up (h4 (by omega)) ⟨(fun _ _ _ _ => Or.inr (fun o ho => h5 (by omega) o (by omega))), T3P.no1 c127⟩) hP hD hS (lv_sub hl [0, 3, 4] rfl)
                                        · refine lv_aload_n hx hb dX12_thirdRound_343 rfl (lv_at hl 4 rfl) ?_
                                          refine r_get (v := .ref (a 26)) hx hb hown hq hE hP 38 90 tFX12_38 (by decide) pw_1457 rfl dX12_thirdRound_344 ?_
                                          refine lv_aload_n hx hb dX12_thirdRound_347 rfl (lv_at hl 4 rfl) ?_
                                          refine r_get (v := .ref (a 36)) hx hb hown hq hE hP 50 120 tFX12_50 (by decide) pw_1467 rfl dX12_thirdRound_348 ?_
                                          refine lv_iload_n hx hb dX12_thirdRound_351 rfl (lv_at hl 2 rfl) ?_
                                          refine r_ldi (f := (B 36)) (j := m3) hx hb hE hP 36 (ma_36 G a _) rfl (by omega) (by decide) dX12_thirdRound_352 ?_
                                          obtain ⟨d128, e129, h130, h131, -⟩ := hps.2.2.1 m3 (by omega)
                                          refine lv_topi (fun x132 e133 => ?_)
                                          obtain rfl : x132 = nI d128 := e133.trans e129
                                          refine r_ldz (f := (B 26)) (j := d128) hx hb hE hP 26 (ma_26 G a _) rfl (by omega) (by decide) dX12_thirdRound_353 ?_
                                          refine lv_if_eq (tgt := 384) hx hb dX12_thirdRound_354 (by decide) (fun c134 => ?_) (fun c134 => ?_)
                                          · refine lv_iinc (v := (nI (m3 + 1))) (lv' := [(2, .int (nI (m3 + 1))), (4, .int (nI o4)), (3, .int (nI hs)), (1, .int (nI d2)), (0, .ref h0)]) hx hb dX12_thirdRound_384 hl (k := 2) rfl (nI_1 m3) (by decide) rfl (fun ls hl => ?_)
                                            refine lv_goto (tgt := 177) hx hb dX12_thirdRound_387 (by decide) ?_
                                            have hP : va_P G.1 pCl (mW G h0 a (upd (upd (upd (upd (upd (upd F 9 (nI T)) 35 (nI dc)) 44 (nI fd)) 49 (nI md)) 69 ra2) 70 (nI rw2)) B) _ := hP
                                            have hD : va_D A (mW G h0 a (upd (upd (upd (upd (upd (upd F 9 (nI T)) 35 (nI dc)) 44 (nI fd)) 49 (nI md)) 69 ra2) 70 (nI rw2)) B) := mW_D hD
                                            exact ih_p (m3 + 1) rw2 ra2 _ _ _ (by omega) (by omega) (by omega) (by omega) (by omega) (fun _ => h1 (by omega)) (fun _ => h3 (by omega)) (fun e => all_up (h4 (by omega)) ⟨(fun _ _ _ _ => Or.inr (fun o ho => h5 (by omega) o (by omega))), T3P.no2 e129 (by omega) c134⟩) hP hD hS (lv_sub hl [0, 3, 4] rfl)
                                          · refine lv_aload_n hx hb dX12_thirdRound_357 rfl (lv_at hl 4 rfl) ?_
                                            refine lv_iload_n hx hb dX12_thirdRound_358 rfl (lv_at hl 3 rfl) ?_
                                            refine lv_aload_n hx hb dX12_thirdRound_359 rfl (lv_at hl 4 rfl) ?_
                                            refine r_get (v := .ref (a 37)) hx hb hown hq hE hP 51 123 tFX12_51 (by decide) pw_1468 rfl dX12_thirdRound_360 ?_
                                            refine lv_iload_n hx hb dX12_thirdRound_363 rfl (lv_at hl 2 rfl) ?_
                                            refine r_ldi (f := (B 37)) (j := m3) hx hb hE hP 37 (ma_37 G a _) rfl (by omega) (by decide) dX12_thirdRound_364 ?_
                                            have hP : va_P G.1 pCl (mW G h0 a (upd (upd (upd (upd (upd (upd (upd F 9 (nI T)) 35 (nI dc)) 44 (nI fd)) 49 (nI md)) 69 ra2) 70 (nI rw2)) 49 (nI md)) (updA (updA (updA B 29 (B 29)) 36 (B 36)) 37 (B 37))) _ := mW_to (F := F) (l1 := [(9, (nI T)), (35, (nI dc)), (44, (nI fd)), (49, (nI md)), (69, ra2), (70, (nI rw2))]) (l2 := [(9, (nI T)), (35, (nI dc)), (44, (nI fd)), (49, (nI md)), (69, ra2), (70, (nI rw2)), (49, (nI md))]) (V := [(nI T), (nI dc), (nI fd), (nI md), ra2, (nI rw2), (nI T), (nI dc), (nI fd), (nI md), ra2, (nI rw2), (nI md)]) rfl rfl (show B = (updA (updA (updA B 29 (B 29)) 36 (B 36)) 37 (B 37)) from updsA_eq2 (F := B) (l1 := []) (l2 := [(29, (B 29)), (36, (B 36)), (37, (B 37))]) (V := [(B 29), (B 36), (B 37)]) rfl rfl) hP
                                            have hD : va_D A (mW G h0 a (upd (upd (upd (upd (upd (upd (upd F 9 (nI T)) 35 (nI dc)) 44 (nI fd)) 49 (nI md)) 69 ra2) 70 (nI rw2)) 49 (nI md)) (updA (updA (updA B 29 (B 29)) 36 (B 36)) 37 (B 37))) := mW_D hD
                                            refine pc_V0 (G := G) (As := [.int (nI d2), .int ((B 37) m3)]) (rest := []) hx hb hml hown hq hE hX pX0_al hP hD hS hA hl.1 (R_methodOf l G h0 a (upd (upd (upd (upd (upd (upd F 9 (nI T)) 35 (nI dc)) 44 (nI fd)) 49 (nI md)) 69 ra2) 70 (nI rw2)) B d2 dc md ((B 37) m3) (B 36) (B 37) (B 29) (by omega) (by omega) (by omega) hrk) (gV pw_1769 pw_1770 pw_1771 pw_1523 pw_1767) hV_X12_methodOf 0 9 rfl rfl rfl rfl (Nat.le_of_ble_eq_true rfl) dX12_thirdRound_365 ⟨Nat.le_of_ble_eq_true rfl, Nat.le_of_ble_eq_true rfl⟩ ⟨Nat.le_of_ble_eq_true rfl, Nat.le_of_ble_eq_true rfl⟩ (fun v137 u135 H locs hw136 hP hD hS => ?_)
                                            obtain rfl : v137 = some (.int (mthF (B 36) (B 37) (B 29) md ((B 37) m3) 40 d2)) := hw136
                                            have hP : va_P G.1 pCl (mW G h0 a (upd (upd (upd (upd (upd (upd F 9 (nI T)) 35 (nI dc)) 44 (nI fd)) 49 (nI md)) 69 ra2) 70 (nI rw2)) B) _ := mW_to (F := F) (l1 := [(9, (nI T)), (35, (nI dc)), (44, (nI fd)), (49, (nI md)), (69, ra2), (70, (nI rw2)), (49, (nI md))]) (l2 := [(9, (nI T)), (35, (nI dc)), (44, (nI fd)), (49, (nI md)), (69, ra2), (70, (nI rw2))]) (V := [(nI T), (nI dc), (nI fd), (nI md), ra2, (nI rw2), (nI md), (nI T), (nI dc), (nI fd), (nI md), ra2, (nI rw2)]) rfl rfl (show (updA (updA (updA B 29 (B 29)) 36 (B 36)) 37 (B 37)) = B from updsA_eq2 (F := B) (l1 := [(29, (B 29)), (36, (B 36)), (37, (B 37))]) (l2 := []) (V := [(B 29), (B 36), (B 37)]) rfl rfl) hP
                                            have hD : va_D A (mW G h0 a (upd (upd (upd (upd (upd (upd F 9 (nI T)) 35 (nI dc)) 44 (nI fd)) 49 (nI md)) 69 ra2) 70 (nI rw2)) B) := mW_D hD
                                            refine W.widen (k := 0) (n := 0) (Nat.le_of_ble_eq_true rfl) (Nat.le_of_ble_eq_true rfl) ?_
                                            refine W.eq (g2 := F0 m 368 ls [.int (mthF (B 36) (B 37) (B 29) md ((B 37) m3) 40 d2)]) rfl ?_
                                            refine lv_iconst (v := (-1)) hx hb dX12_thirdRound_368 (by decide) ?_
                                            refine lv_icmp_ne (tgt := 384) hx hb dX12_thirdRound_369 (by decide) (fun c138 => ?_) (fun c138 => ?_)
                                            · refine lv_iinc (v := (nI (m3 + 1))) (lv' := [(2, .int (nI (m3 + 1))), (4, .int (nI o4)), (3, .int (nI hs)), (1, .int (nI d2)), (0, .ref h0)]) hx hb dX12_thirdRound_384 hl (k := 2) rfl (nI_1 m3) (by decide) rfl (fun ls hl => ?_)
                                              refine lv_goto (tgt := 177) hx hb dX12_thirdRound_387 (by decide) ?_
                                              have hP : va_P G.1 pCl (mW G h0 a (upd (upd (upd (upd (upd (upd F 9 (nI T)) 35 (nI dc)) 44 (nI fd)) 49 (nI md)) 69 ra2) 70 (nI rw2)) B) _ := hP
                                              have hD : va_D A (mW G h0 a (upd (upd (upd (upd (upd (upd F 9 (nI T)) 35 (nI dc)) 44 (nI fd)) 49 (nI md)) 69 ra2) 70 (nI rw2)) B) := mW_D hD
                                              exact ih_p (m3 + 1) rw2 ra2 _ _ _ (by omega) (by omega) (by omega) (by omega) (by omega) (fun _ => h1 (by omega)) (fun _ => h3 (by omega)) (fun e => all_up (h4 (by omega)) ⟨(fun _ _ _ _ => Or.inr (fun o ho => h5 (by omega) o (by omega))), fun _ _ _ _ _ _ => c138⟩) hP hD hS (lv_sub hl [0, 3, 4] rfl)
                                            · refine lv_aload_n hx hb dX12_thirdRound_372 rfl (lv_at hl 4 rfl) ?_
                                              refine lv_bipush (v := 8) hx hb dX12_thirdRound_373 (by decide) ?_
                                              refine lv_aload_n hx hb dX12_thirdRound_375 rfl (lv_at hl 4 rfl) ?_
                                              refine r_get (v := .ref (a 25)) hx hb hown hq hE hP 37 87 tFX12_37 (by decide) pw_1456 rfl dX12_thirdRound_376 ?_
                                              refine lv_iload_n hx hb dX12_thirdRound_379 rfl (lv_at hl 3 rfl) ?_
                                              refine r_ldi (f := (B 25)) (j := d2) hx hb hE hP 25 (ma_25 G a _) rfl (by omega) (by decide) dX12_thirdRound_380 ?_
                                              obtain ⟨t139, e141, h140⟩ := (hps.1 d2 (by omega)).1 (by omega)
                                              refine lv_topi (fun x142 e143 => ?_)
                                              obtain rfl : x142 = nI t139 := e143.trans e141
                                              have hP : va_P G.1 pCl (mW G h0 a (upd (upd (upd (upd (upd (upd (upd (upd F 9 (nI T)) 35 (nI dc)) 44 (nI fd)) 49 (nI md)) 69 ra2) 70 (nI rw2)) 69 ra2) 70 (nI rw2)) B) _ := mW_to (F := F) (l1 := [(9, (nI T)), (35, (nI dc)), (44, (nI fd)), (49, (nI md)), (69, ra2), (70, (nI rw2))]) (l2 := [(9, (nI T)), (35, (nI dc)), (44, (nI fd)), (49, (nI md)), (69, ra2), (70, (nI rw2)), (69, ra2), (70, (nI rw2))]) (V := [(nI T), (nI dc), (nI fd), (nI md), ra2, (nI rw2), (nI T), (nI dc), (nI fd), (nI md), ra2, (nI rw2), ra2, (nI rw2)]) rfl rfl rfl hP
                                              have hD : va_D A (mW G h0 a (upd (upd (upd (upd (upd (upd (upd (upd F 9 (nI T)) 35 (nI dc)) 44 (nI fd)) 49 (nI md)) 69 ra2) 70 (nI rw2)) 69 ra2) 70 (nI rw2)) B) := mW_D hD
                                              refine pc_V0 (G := G) (As := [.int (nI 8), .int (nI t139)]) (rest := []) hx hb hml hown hq hE hX pX0_al hP hD hS hA hl.1 (R_note l G h0 a (upd (upd (upd (upd (upd (upd F 9 (nI T)) 35 (nI dc)) 44 (nI fd)) 49 (nI md)) 69 ra2) 70 (nI rw2)) B 8 t139 rw2 ra2 (by omega) (by omega) (by omega)) (gV pw_1749 pw_1750 pw_1751 pw_1523 pw_1740) hV_X12_note 0 9 rfl rfl rfl rfl (Nat.le_of_ble_eq_true rfl) dX12_thirdRound_381 ⟨Nat.le_of_ble_eq_true rfl, Nat.le_of_ble_eq_true rfl⟩ ⟨Nat.le_of_ble_eq_true rfl, Nat.le_of_ble_eq_true rfl⟩ (fun v146 u144 H locs hw145 hP hD hS => ?_)
                                              obtain ⟨rw147, ra148⟩ := u144
                                              obtain ⟨hw145, h149, h150⟩ := hw145
                                              replace h149 : 0 < rw147 := h149
                                              replace h150 : rw147 ≤ 15 := h150
                                              obtain rfl : v146 = none := hw145
                                              have hP : va_P G.1 pCl (mW G h0 a (upd (upd (upd (upd (upd (upd F 9 (nI T)) 35 (nI dc)) 44 (nI fd)) 49 (nI md)) 69 ra148) 70 (nI rw147)) B) _ := mW_to (F := F) (l1 := [(9, (nI T)), (35, (nI dc)), (44, (nI fd)), (49, (nI md)), (69, ra2), (70, (nI rw2)), (69, ra148), (70, (nI rw147))]) (l2 := [(9, (nI T)), (35, (nI dc)), (44, (nI fd)), (49, (nI md)), (69, ra148), (70, (nI rw147))]) (V := [(nI T), (nI dc), (nI fd), (nI md), ra148, (nI rw147), ra148, (nI rw147), (nI T), (nI dc), (nI fd), (nI md), ra148, (nI rw147)]) rfl rfl rfl hP
                                              have hD : va_D A (mW G h0 a (upd (upd (upd (upd (upd (upd F 9 (nI T)) 35 (nI dc)) 44 (nI fd)) 49 (nI md)) 69 ra148) 70 (nI rw147)) B) := mW_D hD
                                              refine W.widen (k := 0) (n := 0) (Nat.le_of_ble_eq_true rfl) (Nat.le_of_ble_eq_true rfl) ?_
                                              refine W.eq (g2 := F0 m 384 ls []) rfl ?_
                                              refine lv_iinc (v := (nI (m3 + 1))) (lv' := [(2, .int (nI (m3 + 1))), (4, .int (nI o4)), (3, .int (nI hs)), (1, .int (nI d2)), (0, .ref h0)]) hx hb dX12_thirdRound_384 hl (k := 2) rfl (nI_1 m3) (by decide) rfl (fun ls hl => ?_)
                                              refine lv_goto (tgt := 177) hx hb dX12_thirdRound_387 (by decide) ?_
                                              have hP : va_P G.1 pCl (mW G h0 a (upd (upd (upd (upd (upd (upd F 9 (nI T)) 35 (nI dc)) 44 (nI fd)) 49 (nI md)) 69 ra148) 70 (nI rw147)) B) _ := hP
                                              have hD : va_D A (mW G h0 a (upd (upd (upd (upd (upd (upd F 9 (nI T)) 35 (nI dc)) 44 (nI fd)) 49 (nI md)) 69 ra148) 70 (nI rw147)) B) := mW_D hD
                                              exact ih_p (m3 + 1) rw147 ra148 _ _ _ (by omega) (by omega) (by omega) (by omega) (by omega) (fun _ => h1 (by omega)) (fun _ => h3 (by omega)) (fun e => all_up (h4 (by omega)) (absurd e (by omega))) hP hD hS (lv_sub hl [0, 3, 4] rfl)
                                      · have n151 : ¬ (md ≤ o4) := fun h9 => c125 ((nI_leI (a := md) (b := o4) (by omega) (by omega)).mpr h9)
                                        refine lv_iload_n hx hb dX12_thirdRound_271 rfl (lv_at hl 1 rfl) ?_
                                        refine lv_if_ne (tgt := 334) hx hb dX12_thirdRound_272 (by decide) (fun c152 => ?_) (fun c152 => ?_)
                                        · have n153 : ¬ (hs = 0) := fun h9 => c152 ((nI_eq (a := hs) (b := 0) (by omega) (by omega)).mpr h9)
                                          refine lv_aload_n hx hb dX12_thirdRound_334 rfl (lv_at hl 4 rfl) ?_
                                          refine r_get (v := .ref (a 26)) hx hb hown hq hE hP 38 90 tFX12_38 (by decide) pw_1457 rfl dX12_thirdRound_335 ?_
                                          refine lv_iload_n hx hb dX12_thirdRound_338 rfl (lv_at hl 3 rfl) ?_
                                          refine r_ldz (f := (B 26)) (j := d2) hx hb hE hP 26 (ma_26 G a _) rfl (by omega) (by decide) dX12_thirdRound_339 ?_
                                          refine lv_if_ne (tgt := 384) hx hb dX12_thirdRound_340 (by decide) (fun c154 => ?_) (fun c154 => ?_)
                                          · refine lv_iinc (v := (nI (m3 + 1))) (lv' := [(2, .int (nI (m3 + 1))), (4, .int (nI o4)), (3, .int (nI hs)), (1, .int (nI d2)), (0, .ref h0)]) hx hb dX12_thirdRound_384 hl (k := 2) rfl (nI_1 m3) (by decide) rfl (fun ls hl => ?_)
                                            refine lv_goto (tgt := 177) hx hb dX12_thirdRound_387 (by decide) ?_
                                            have hP : va_P G.1 pCl (mW G h0 a (upd (upd (upd (upd (upd (upd F 9 (nI T)) 35 (nI dc)) 44 (nI fd)) 49 (nI md)) 69 ra2) 70 (nI rw2)) B) _ := hP
                                            have hD : va_D A (mW G h0 a (upd (upd (upd (upd (upd (upd F 9 (nI T)) 35 (nI dc)) 44 (nI fd)) 49 (nI md)) 69 ra2) 70 (nI rw2)) B) := mW_D hD
                                            exact ih_p (m3 + 1) rw2 ra2 _ _ _ (by omega) (by omega) (by omega) (by omega) (by omega) (fun _ => h1 (by omega)) (fun _ => h3 (by omega)) (fun e => all_up (h4 (by omega)) ⟨(fun _ _ _ _ => Or.inl (hha (by omega))), T3P.no1 c154⟩) hP hD hS (lv_sub hl [0, 3, 4] rfl)
                                          · refine lv_aload_n hx hb dX12_thirdRound_343 rfl (lv_at hl 4 rfl) ?_
                                            refine r_get (v := .ref (a 26)) hx hb hown hq hE hP 38 90 tFX12_38 (by decide) pw_1457 rfl dX12_thirdRound_344 ?_
                                            refine lv_aload_n hx hb dX12_thirdRound_347 rfl (lv_at hl 4 rfl) ?_
                                            refine r_get (v := .ref (a 36)) hx hb hown hq hE hP 50 120 tFX12_50 (by decide) pw_1467 rfl dX12_thirdRound_348 ?_
                                            refine lv_iload_n hx hb dX12_thirdRound_351 rfl (lv_at hl 2 rfl) ?_
                                            refine r_ldi (f := (B 36)) (j := m3) hx hb hE hP 36 (ma_36 G a _) rfl (by omega) (by decide) dX12_thirdRound_352 ?_
                                            obtain ⟨d155, e156, h157, h158, -⟩ := hps.2.2.1 m3 (by omega)
                                            refine lv_topi (fun x159 e160 => ?_)
                                            obtain rfl : x159 = nI d155 := e160.trans e156
                                            refine r_ldz (f := (B 26)) (j := d155) hx hb hE hP 26 (ma_26 G a _) rfl (by omega) (by decide) dX12_thirdRound_353 ?_
                                            refine lv_if_eq (tgt := 384) hx hb dX12_thirdRound_354 (by decide) (fun c161 => ?_) (fun c161 => ?_)
                                            · refine lv_iinc (v := (nI (m3 + 1))) (lv' := [(2, .int (nI (m3 + 1))), (4, .int (nI o4)), (3, .int (nI hs)), (1, .int (nI d2)), (0, .ref h0)]) hx hb dX12_thirdRound_384 hl (k := 2) rfl (nI_1 m3) (by decide) rfl (fun ls hl => ?_)
                                              refine lv_goto (tgt := 177) hx hb dX12_thirdRound_387 (by decide) ?_
                                              have hP : va_P G.1 pCl (mW G h0 a (upd (upd (upd (upd (upd (upd F 9 (nI T)) 35 (nI dc)) 44 (nI fd)) 49 (nI md)) 69 ra2) 70 (nI rw2)) B) _ := hP
                                              have hD : va_D A (mW G h0 a (upd (upd (upd (upd (upd (upd F 9 (nI T)) 35 (nI dc)) 44 (nI fd)) 49 (nI md)) 69 ra2) 70 (nI rw2)) B) := mW_D hD
                                              exact ih_p (m3 + 1) rw2 ra2 _ _ _ (by omega) (by omega) (by omega) (by omega) (by omega) (fun _ => h1 (by omega)) (fun _ => h3 (by omega)) (fun e => all_up (h4 (by omega)) ⟨(fun _ _ _ _ => Or.inl (hha (by omega))), T3P.no2 e156 (by omega) c161⟩) hP hD hS (lv_sub hl [0, 3, 4] rfl)
                                            · refine lv_aload_n hx hb dX12_thirdRound_357 rfl (lv_at hl 4 rfl) ?_
                                              refine lv_iload_n hx hb dX12_thirdRound_358 rfl (lv_at hl 3 rfl) ?_
                                              refine lv_aload_n hx hb dX12_thirdRound_359 rfl (lv_at hl 4 rfl) ?_
                                              refine r_get (v := .ref (a 37)) hx hb hown hq hE hP 51 123 tFX12_51 (by decide) pw_1468 rfl dX12_thirdRound_360 ?_
                                              refine lv_iload_n hx hb dX12_thirdRound_363 rfl (lv_at hl 2 rfl) ?_
                                              refine r_ldi (f := (B 37)) (j := m3) hx hb hE hP 37 (ma_37 G a _) rfl (by omega) (by decide) dX12_thirdRound_364 ?_
                                              have hP : va_P G.1 pCl (mW G h0 a (upd (upd (upd (upd (upd (upd (upd F 9 (nI T)) 35 (nI dc)) 44 (nI fd)) 49 (nI md)) 69 ra2) 70 (nI rw2)) 49 (nI md)) (updA (updA (updA B 29 (B 29)) 36 (B 36)) 37 (B 37))) _ := mW_to (F := F) (l1 := [(9, (nI T)), (35, (nI dc)), (44, (nI fd)), (49, (nI md)), (69, ra2), (70, (nI rw2))]) (l2 := [(9, (nI T)), (35, (nI dc)), (44, (nI fd)), (49, (nI md)), (69, ra2), (70, (nI rw2)), (49, (nI md))]) (V := [(nI T), (nI dc), (nI fd), (nI md), ra2, (nI rw2), (nI T), (nI dc), (nI fd), (nI md), ra2, (nI rw2), (nI md)]) rfl rfl (show B = (updA (updA (updA B 29 (B 29)) 36 (B 36)) 37 (B 37)) from updsA_eq2 (F := B) (l1 := []) (l2 := [(29, (B 29)), (36, (B 36)), (37, (B 37))]) (V := [(B 29), (B 36), (B 37)]) rfl rfl) hP
                                              have hD : va_D A (mW G h0 a (upd (upd (upd (upd (upd (upd (upd F 9 (nI T)) 35 (nI dc)) 44 (nI fd)) 49 (nI md)) 69 ra2) 70 (nI rw2)) 49 (nI md)) (updA (updA (updA B 29 (B 29)) 36 (B 36)) 37 (B 37))) := mW_D hD
                                              refine pc_V0 (G := G) (As := [.int (nI d2), .int ((B 37) m3)]) (rest := []) hx hb hml hown hq hE hX pX0_al hP hD hS hA hl.1 (R_methodOf l G h0 a (upd (upd (upd (upd (upd (upd F 9 (nI T)) 35 (nI dc)) 44 (nI fd)) 49 (nI md)) 69 ra2) 70 (nI rw2)) B d2 dc md ((B 37) m3) (B 36) (B 37) (B 29) (by omega) (by omega) (by omega) hrk) (gV pw_1769 pw_1770 pw_1771 pw_1523 pw_1767) hV_X12_methodOf 0 9 rfl rfl rfl rfl (Nat.le_of_ble_eq_true rfl) dX12_thirdRound_365 ⟨Nat.le_of_ble_eq_true rfl, Nat.le_of_ble_eq_true rfl⟩ ⟨Nat.le_of_ble_eq_true rfl, Nat.le_of_ble_eq_true rfl⟩ (fun v164 u162 H locs hw163 hP hD hS => ?_)
                                              obtain rfl : v164 = some (.int (mthF (B 36) (B 37) (B 29) md ((B 37) m3) 40 d2)) := hw163
                                              have hP : va_P G.1 pCl (mW G h0 a (upd (upd (upd (upd (upd (upd F 9 (nI T)) 35 (nI dc)) 44 (nI fd)) 49 (nI md)) 69 ra2) 70 (nI rw2)) B) _ := mW_to (F := F) (l1 := [(9, (nI T)), (35, (nI dc)), (44, (nI fd)), (49, (nI md)), (69, ra2), (70, (nI rw2)), (49, (nI md))]) (l2 := [(9, (nI T)), (35, (nI dc)), (44, (nI fd)), (49, (nI md)), (69, ra2), (70, (nI rw2))]) (V := [(nI T), (nI dc), (nI fd), (nI md), ra2, (nI rw2), (nI md), (nI T), (nI dc), (nI fd), (nI md), ra2, (nI rw2)]) rfl rfl (show (updA (updA (updA B 29 (B 29)) 36 (B 36)) 37 (B 37)) = B from updsA_eq2 (F := B) (l1 := [(29, (B 29)), (36, (B 36)), (37, (B 37))]) (l2 := []) (V := [(B 29), (B 36), (B 37)]) rfl rfl) hP
                                              have hD : va_D A (mW G h0 a (upd (upd (upd (upd (upd (upd F 9 (nI T)) 35 (nI dc)) 44 (nI fd)) 49 (nI md)) 69 ra2) 70 (nI rw2)) B) := mW_D hD
                                              refine W.widen (k := 0) (n := 0) (Nat.le_of_ble_eq_true rfl) (Nat.le_of_ble_eq_true rfl) ?_
                                              refine W.eq (g2 := F0 m 368 ls [.int (mthF (B 36) (B 37) (B 29) md ((B 37) m3) 40 d2)]) rfl ?_
                                              refine lv_iconst (v := (-1)) hx hb dX12_thirdRound_368 (by decide) ?_
                                              refine lv_icmp_ne (tgt := 384) hx hb dX12_thirdRound_369 (by decide) (fun c165 => ?_) (fun c165 => ?_)
                                              · refine lv_iinc (v := (nI (m3 + 1))) (lv' := [(2, .int (nI (m3 + 1))), (4, .int (nI o4)), (3, .int (nI hs)), (1, .int (nI d2)), (0, .ref h0)]) hx hb dX12_thirdRound_384 hl (k := 2) rfl (nI_1 m3) (by decide) rfl (fun ls hl => ?_)
                                                refine lv_goto (tgt := 177) hx hb dX12_thirdRound_387 (by decide) ?_
                                                have hP : va_P G.1 pCl (mW G h0 a (upd (upd (upd (upd (upd (upd F 9 (nI T)) 35 (nI dc)) 44 (nI fd)) 49 (nI md)) 69 ra2) 70 (nI rw2)) B) _ := hP
                                                have hD : va_D A (mW G h0 a (upd (upd (upd (upd (upd (upd F 9 (nI T)) 35 (nI dc)) 44 (nI fd)) 49 (nI md)) 69 ra2) 70 (nI rw2)) B) := mW_D hD
                                                exact ih_p (m3 + 1) rw2 ra2 _ _ _ (by omega) (by omega) (by omega) (by omega) (by omega) (fun _ => h1 (by omega)) (fun _ => h3 (by omega)) (fun e => all_up (h4 (by omega)) ⟨(fun _ _ _ _ => Or.inl (hha (by omega))), fun _ _ _ _ _ _ => c165⟩) hP hD hS (lv_sub hl [0, 3, 4] rfl)
                                              · refine lv_aload_n hx hb dX12_thirdRound_372 rfl (lv_at hl 4 rfl) ?_
                                                refine lv_bipush (v := 8) hx hb dX12_thirdRound_373 (by decide) ?_
                                                refine lv_aload_n hx hb dX12_thirdRound_375 rfl (lv_at hl 4 rfl) ?_
                                                refine r_get (v := .ref (a 25)) hx hb hown hq hE hP 37 87 tFX12_37 (by decide) pw_1456 rfl dX12_thirdRound_376 ?_
                                                refine lv_iload_n hx hb dX12_thirdRound_379 rfl (lv_at hl 3 rfl) ?_
                                                refine r_ldi (f := (B 25)) (j := d2) hx hb hE hP 25 (ma_25 G a _) rfl (by omega) (by decide) dX12_thirdRound_380 ?_
                                                obtain ⟨t166, e168, h167⟩ := (hps.1 d2 (by omega)).1 (by omega)
                                                refine lv_topi (fun x169 e170 => ?_)
                                                obtain rfl : x169 = nI t166 := e170.trans e168
                                                have hP : va_P G.1 pCl (mW G h0 a (upd (upd (upd (upd (upd (upd (upd (upd F 9 (nI T)) 35 (nI dc)) 44 (nI fd)) 49 (nI md)) 69 ra2) 70 (nI rw2)) 69 ra2) 70 (nI rw2)) B) _ := mW_to (F := F) (l1 := [(9, (nI T)), (35, (nI dc)), (44, (nI fd)), (49, (nI md)), (69, ra2), (70, (nI rw2))]) (l2 := [(9, (nI T)), (35, (nI dc)), (44, (nI fd)), (49, (nI md)), (69, ra2), (70, (nI rw2)), (69, ra2), (70, (nI rw2))]) (V := [(nI T), (nI dc), (nI fd), (nI md), ra2, (nI rw2), (nI T), (nI dc), (nI fd), (nI md), ra2, (nI rw2), ra2, (nI rw2)]) rfl rfl rfl hP
                                                have hD : va_D A (mW G h0 a (upd (upd (upd (upd (upd (upd (upd (upd F 9 (nI T)) 35 (nI dc)) 44 (nI fd)) 49 (nI md)) 69 ra2) 70 (nI rw2)) 69 ra2) 70 (nI rw2)) B) := mW_D hD
                                                refine pc_V0 (G := G) (As := [.int (nI 8), .int (nI t166)]) (rest := []) hx hb hml hown hq hE hX pX0_al hP hD hS hA hl.1 (R_note l G h0 a (upd (upd (upd (upd (upd (upd F 9 (nI T)) 35 (nI dc)) 44 (nI fd)) 49 (nI md)) 69 ra2) 70 (nI rw2)) B 8 t166 rw2 ra2 (by omega) (by omega) (by omega)) (gV pw_1749 pw_1750 pw_1751 pw_1523 pw_1740) hV_X12_note 0 9 rfl rfl rfl rfl (Nat.le_of_ble_eq_true rfl) dX12_thirdRound_381 ⟨Nat.le_of_ble_eq_true rfl, Nat.le_of_ble_eq_true rfl⟩ ⟨Nat.le_of_ble_eq_true rfl, Nat.le_of_ble_eq_true rfl⟩ (fun v173 u171 H locs hw172 hP hD hS => ?_)
                                                obtain ⟨rw174, ra175⟩ := u171
                                                obtain ⟨hw172, h176, h177⟩ := hw172
                                                replace h176 : 0 < rw174 := h176
                                                replace h177 : rw174 ≤ 15 := h177
                                                obtain rfl : v173 = none := hw172
                                                have hP : va_P G.1 pCl (mW G h0 a (upd (upd (upd (upd (upd (upd F 9 (nI T)) 35 (nI dc)) 44 (nI fd)) 49 (nI md)) 69 ra175) 70 (nI rw174)) B) _ := mW_to (F := F) (l1 := [(9, (nI T)), (35, (nI dc)), (44, (nI fd)), (49, (nI md)), (69, ra2), (70, (nI rw2)), (69, ra175), (70, (nI rw174))]) (l2 := [(9, (nI T)), (35, (nI dc)), (44, (nI fd)), (49, (nI md)), (69, ra175), (70, (nI rw174))]) (V := [(nI T), (nI dc), (nI fd), (nI md), ra175, (nI rw174), ra175, (nI rw174), (nI T), (nI dc), (nI fd), (nI md), ra175, (nI rw174)]) rfl rfl rfl hP
                                                have hD : va_D A (mW G h0 a (upd (upd (upd (upd (upd (upd F 9 (nI T)) 35 (nI dc)) 44 (nI fd)) 49 (nI md)) 69 ra175) 70 (nI rw174)) B) := mW_D hD
                                                refine W.widen (k := 0) (n := 0) (Nat.le_of_ble_eq_true rfl) (Nat.le_of_ble_eq_true rfl) ?_
                                                refine W.eq (g2 := F0 m 384 ls []) rfl ?_
                                                refine lv_iinc (v := (nI (m3 + 1))) (lv' := [(2, .int (nI (m3 + 1))), (4, .int (nI o4)), (3, .int (nI hs)), (1, .int (nI d2)), (0, .ref h0)]) hx hb dX12_thirdRound_384 hl (k := 2) rfl (nI_1 m3) (by decide) rfl (fun ls hl => ?_)
                                                refine lv_goto (tgt := 177) hx hb dX12_thirdRound_387 (by decide) ?_
                                                have hP : va_P G.1 pCl (mW G h0 a (upd (upd (upd (upd (upd (upd F 9 (nI T)) 35 (nI dc)) 44 (nI fd)) 49 (nI md)) 69 ra175) 70 (nI rw174)) B) _ := hP
                                                have hD : va_D A (mW G h0 a (upd (upd (upd (upd (upd (upd F 9 (nI T)) 35 (nI dc)) 44 (nI fd)) 49 (nI md)) 69 ra175) 70 (nI rw174)) B) := mW_D hD
                                                exact ih_p (m3 + 1) rw174 ra175 _ _ _ (by omega) (by omega) (by omega) (by omega) (by omega) (fun _ => h1 (by omega)) (fun _ => h3 (by omega)) (fun e => all_up (h4 (by omega)) (absurd e (by omega))) hP hD hS (lv_sub hl [0, 3, 4] rfl)
                                        · have n178 : hs = 0 := (nI_eq (a := hs) (b := 0) (by omega) (by omega)).mp c152
                                          refine lv_aload_n hx hb dX12_thirdRound_275 rfl (lv_at hl 4 rfl) ?_
                                          refine lv_aload_n hx hb dX12_thirdRound_276 rfl (lv_at hl 4 rfl) ?_
                                          refine r_get (v := .ref (a 36)) hx hb hown hq hE hP 50 120 tFX12_50 (by decide) pw_1467 rfl dX12_thirdRound_277 ?_
                                          refine lv_iload hx hb dX12_thirdRound_280 (lv_at hl 0 rfl) ?_
                                          refine r_ldi (f := (B 36)) (j := o4) hx hb hE hP 36 (ma_36 G a _) rfl (by omega) (by decide) dX12_thirdRound_282 ?_
                                          obtain ⟨d179, e180, h181, h182, -⟩ := hps.2.2.1 o4 (by omega)
                                          refine lv_topi (fun x183 e184 => ?_)
                                          obtain rfl : x183 = nI d179 := e184.trans e180
                                          refine lv_iload_n hx hb dX12_thirdRound_283 rfl (lv_at hl 3 rfl) ?_
                                          have hP : va_P G.1 pCl (mW G h0 a (upd (upd (upd (upd (upd (upd F 9 (nI T)) 35 (nI dc)) 44 (nI fd)) 49 (nI md)) 69 ra2) 70 (nI rw2)) (updA B 31 (B 31))) _ := mW_to (F := F) (l1 := [(9, (nI T)), (35, (nI dc)), (44, (nI fd)), (49, (nI md)), (69, ra2), (70, (nI rw2))]) (l2 := [(9, (nI T)), (35, (nI dc)), (44, (nI fd)), (49, (nI md)), (69, ra2), (70, (nI rw2))]) (V := [(nI T), (nI dc), (nI fd), (nI md), ra2, (nI rw2), (nI T), (nI dc), (nI fd), (nI md), ra2, (nI rw2)]) rfl rfl (show B = (updA B 31 (B 31)) from updsA_eq2 (F := B) (l1 := []) (l2 := [(31, (B 31))]) (V := [(B 31)]) rfl rfl) hP
                                          have hD : va_D A (mW G h0 a (upd (upd (upd (upd (upd (upd F 9 (nI T)) 35 (nI dc)) 44 (nI fd)) 49 (nI md)) 69 ra2) 70 (nI rw2)) (updA B 31 (B 31))) := mW_D hD
                                          refine pc_V0 (G := G) (As := [.int (nI d179), .int (nI d2)]) (rest := []) hx hb hml hown hq hE hX pX0_al hP hD hS hA hl.1 (R_isAbove l G h0 a (upd (upd (upd (upd (upd (upd F 9 (nI T)) 35 (nI dc)) 44 (nI fd)) 49 (nI md)) 69 ra2) 70 (nI rw2)) B d179 d2 (B 31) (by omega) hbi) (gV pw_1772 pw_1773 pw_1774 pw_1523 pw_1760) hV_X12_isAbove 0 9 rfl rfl rfl rfl (Nat.le_of_ble_eq_true rfl) dX12_thirdRound_284 ⟨Nat.le_of_ble_eq_true rfl, Nat.le_of_ble_eq_true rfl⟩ ⟨Nat.le_of_ble_eq_true rfl, Nat.le_of_ble_eq_true rfl⟩ (fun v187 u185 H locs hw186 hP hD hS => ?_)
                                          obtain rfl : v187 = some (.int ((B 31) (40 * d179 + d2))) := hw186
                                          have hP : va_P G.1 pCl (mW G h0 a (upd (upd (upd (upd (upd (upd F 9 (nI T)) 35 (nI dc)) 44 (nI fd)) 49 (nI md)) 69 ra2) 70 (nI rw2)) B) _ := mW_to (F := F) (l1 := [(9, (nI T)), (35, (nI dc)), (44, (nI fd)), (49, (nI md)), (69, ra2), (70, (nI rw2))]) (l2 := [(9, (nI T)), (35, (nI dc)), (44, (nI fd)), (49, (nI md)), (69, ra2), (70, (nI rw2))]) (V := [(nI T), (nI dc), (nI fd), (nI md), ra2, (nI rw2), (nI T), (nI dc), (nI fd), (nI md), ra2, (nI rw2)]) rfl rfl (show (updA B 31 (B 31)) = B from updsA_eq2 (F := B) (l1 := [(31, (B 31))]) (l2 := []) (V := [(B 31)]) rfl rfl) hP
                                          have hD : va_D A (mW G h0 a (upd (upd (upd (upd (upd (upd F 9 (nI T)) 35 (nI dc)) 44 (nI fd)) 49 (nI md)) 69 ra2) 70 (nI rw2)) B) := mW_D hD
                                          refine W.widen (k := 0) (n := 0) (Nat.le_of_ble_eq_true rfl) (Nat.le_of_ble_eq_true rfl) ?_
                                          refine W.eq (g2 := F0 m 287 ls [.int ((B 31) (40 * d179 + d2))]) rfl ?_
                                          refine lv_if_eq (tgt := 328) hx hb dX12_thirdRound_287 (by decide) (fun c188 => ?_) (fun c188 => ?_)
                                          · refine lv_iinc (v := (nI (o4 + 1))) (lv' := [(4, .int (nI (o4 + 1))), (3, .int (nI hs)), (2, .int (nI m3)), (1, .int (nI d2)), (0, .ref h0)]) hx hb dX12_thirdRound_328 hl (k := 0) rfl (nI_1 o4) (by decide) rfl (fun ls hl => ?_)
                                            refine lv_goto (tgt := 262) hx hb dX12_thirdRound_331 (by decide) ?_
                                            have hP : va_P G.1 pCl (mW G h0 a (upd (upd (upd (upd (upd (upd F 9 (nI T)) 35 (nI dc)) 44 (nI fd)) 49 (nI md)) 69 ra2) 70 (nI rw2)) B) _ := hP
                                            have hD : va_D A (mW G h0 a (upd (upd (upd (upd (upd (upd F 9 (nI T)) 35 (nI dc)) 44 (nI fd)) 49 (nI md)) 69 ra2) 70 (nI rw2)) B) := mW_D hD
                                            exact ih_j (o4 + 1) rw2 ra2 hs _ _ _ (by omega) (by omega) (by omega) (by omega) (by omega) (by omega) (fun _ => h1 (by omega)) (fun _ => h3 (by omega)) (fun _ => h4 (by omega)) hha (fun e => all_up (h5 (by omega)) (T2o.no e180 (by omega) c188)) hP hD hS (lv_sub hl [0, 1, 2, 3, 4] rfl)
                                          · refine lv_aload_n hx hb dX12_thirdRound_290 rfl (lv_at hl 4 rfl) ?_
                                            refine r_get (v := .ref (a 37)) hx hb hown hq hE hP 51 123 tFX12_51 (by decide) pw_1468 rfl dX12_thirdRound_291 ?_
                                            refine lv_iload hx hb dX12_thirdRound_294 (lv_at hl 0 rfl) ?_
                                            refine r_ldi (f := (B 37)) (j := o4) hx hb hE hP 37 (ma_37 G a _) rfl (by omega) (by decide) dX12_thirdRound_296 ?_
                                            refine lv_aload_n hx hb dX12_thirdRound_297 rfl (lv_at hl 4 rfl) ?_
                                            refine r_get (v := .ref (a 37)) hx hb hown hq hE hP 51 123 tFX12_51 (by decide) pw_1468 rfl dX12_thirdRound_298 ?_
                                            refine lv_iload_n hx hb dX12_thirdRound_301 rfl (lv_at hl 2 rfl) ?_
                                            refine r_ldi (f := (B 37)) (j := m3) hx hb hE hP 37 (ma_37 G a _) rfl (by omega) (by decide) dX12_thirdRound_302 ?_
                                            refine lv_icmp_ne (tgt := 328) hx hb dX12_thirdRound_303 (by decide) (fun c189 => ?_) (fun c189 => ?_)
                                            · refine lv_iinc (v := (nI (o4 + 1))) (lv' := [(4, .int (nI (o4 + 1))), (3, .int (nI hs)), (2, .int (nI m3)), (1, .int (nI d2)), (0, .ref h0)]) hx hb dX12_thirdRound_328 hl (k := 0) rfl (nI_1 o4) (by decide) rfl (fun ls hl => ?_)
                                              refine lv_goto (tgt := 262) hx hb dX12_thirdRound_331 (by decide) ?_
                                              have hP : va_P G.1 pCl (mW G h0 a (upd (upd (upd (upd (upd (upd F 9 (nI T)) 35 (nI dc)) 44 (nI fd)) 49 (nI md)) 69 ra2) 70 (nI rw2)) B) _ := hP
                                              have hD : va_D A (mW G h0 a (upd (upd (upd (upd (upd (upd F 9 (nI T)) 35 (nI dc)) 44 (nI fd)) 49 (nI md)) 69 ra2) 70 (nI rw2)) B) := mW_D hD
                                              exact ih_j (o4 + 1) rw2 ra2 hs _ _ _ (by omega) (by omega) (by omega) (by omega) (by omega) (by omega) (fun _ => h1 (by omega)) (fun _ => h3 (by omega)) (fun _ => h4 (by omega)) hha (fun e => all_up (h5 (by omega)) (fun _ _ _ _ q => absurd q c189)) hP hD hS (lv_sub hl [0, 1, 2, 3, 4] rfl)
                                            · refine lv_aload_n hx hb dX12_thirdRound_306 rfl (lv_at hl 4 rfl) ?_
                                              refine lv_iload_n hx hb dX12_thirdRound_307 rfl (lv_at hl 2 rfl) ?_
                                              refine lv_iload hx hb dX12_thirdRound_308 (lv_at hl 0 rfl) ?_
                                              have hP : va_P G.1 pCl (mW G h0 a (upd (upd (upd (upd (upd (upd F 9 (nI T)) 35 (nI dc)) 44 (nI fd)) 49 (nI md)) 69 ra2) 70 (nI rw2)) B) _ := hP
                                              have hD : va_D A (mW G h0 a (upd (upd (upd (upd (upd (upd F 9 (nI T)) 35 (nI dc)) 44 (nI fd)) 49 (nI md)) 69 ra2) 70 (nI rw2)) B) := mW_D hD
                                              refine pc_V0 (G := G) (As := [.int (nI m3), .int (nI o4)]) (rest := []) hx hb hml hown hq hE hX pX0_al hP hD hS hA hl.1 (R_isAlike l G h0 a (upd (upd (upd (upd (upd (upd F 9 (nI T)) 35 (nI dc)) 44 (nI fd)) 49 (nI md)) 69 ra2) 70 (nI rw2)) B m3 o4 T nm wr lz dc fd md pr bk (by omega) (by omega) (by omega) (by omega) (by omega) hps) (gV pw_1775 pw_1776 pw_1777 pw_1523 pw_1763) hV_X12_isAlike 0 9 rfl rfl rfl rfl (Nat.le_of_ble_eq_true rfl) dX12_thirdRound_310 ⟨Nat.le_of_ble_eq_true rfl, Nat.le_of_ble_eq_true rfl⟩ ⟨Nat.le_of_ble_eq_true rfl, Nat.le_of_ble_eq_true rfl⟩ (fun v192 u190 H locs hw191 hP hD hS => ?_)
                                              obtain ⟨r193, rfl⟩ : ∃ z, z = u190 := ⟨_, rfl⟩
                                              obtain ⟨hw191, h194, h195⟩ := hw191
                                              replace h194 : r193 ≤ 1 := h194
                                              replace h195 : If (r193 = 1) (Alk B m3 o4) := h195
                                              obtain rfl : v192 = some (.int (nI r193)) := hw191
                                              have hP : va_P G.1 pCl (mW G h0 a (upd (upd (upd (upd (upd (upd F 9 (nI T)) 35 (nI dc)) 44 (nI fd)) 49 (nI md)) 69 ra2) 70 (nI rw2)) B) _ := hP
                                              have hD : va_D A (mW G h0 a (upd (upd (upd (upd (upd (upd F 9 (nI T)) 35 (nI dc)) 44 (nI fd)) 49 (nI md)) 69 ra2) 70 (nI rw2)) B) := mW_D hD
                                              refine W.widen (k := 0) (n := 0) (Nat.le_of_ble_eq_true rfl) (Nat.le_of_ble_eq_true rfl) ?_
                                              refine W.eq (g2 := F0 m 313 ls [.int (nI r193)]) rfl ?_
                                              refine lv_if_ne (tgt := 328) hx hb dX12_thirdRound_313 (by decide) (fun c196 => ?_) (fun c196 => ?_)
                                              · have n197 : ¬ (r193 = 0) := fun h9 => c196 ((nI_eq (a := r193) (b := 0) (by omega) (by omega)).mpr h9)
                                                refine lv_iinc (v := (nI (o4 + 1))) (lv' := [(4, .int (nI (o4 + 1))), (3, .int (nI hs)), (2, .int (nI m3)), (1, .int (nI d2)), (0, .ref h0)]) hx hb dX12_thirdRound_328 hl (k := 0) rfl (nI_1 o4) (by decide) rfl (fun ls hl => ?_)
                                                refine lv_goto (tgt := 262) hx hb dX12_thirdRound_331 (by decide) ?_
                                                have hP : va_P G.1 pCl (mW G h0 a (upd (upd (upd (upd (upd (upd F 9 (nI T)) 35 (nI dc)) 44 (nI fd)) 49 (nI md)) 69 ra2) 70 (nI rw2)) B) _ := hP
                                                have hD : va_D A (mW G h0 a (upd (upd (upd (upd (upd (upd F 9 (nI T)) 35 (nI dc)) 44 (nI fd)) 49 (nI md)) 69 ra2) 70 (nI rw2)) B) := mW_D hD
                                                exact ih_j (o4 + 1) rw2 ra2 hs _ _ _ (by omega) (by omega) (by omega) (by omega) (by omega) (by omega) (fun _ => h1 (by omega)) (fun _ => h3 (by omega)) (fun _ => h4 (by omega)) hha (fun e => all_up (h5 (by omega)) (fun _ _ _ _ _ => h195 (by omega))) hP hD hS (lv_sub hl [0, 1, 2, 3, 4] rfl)
                                              · have n198 : r193 = 0 := (nI_eq (a := r193) (b := 0) (by omega) (by omega)).mp c196
                                                refine lv_aload_n hx hb dX12_thirdRound_316 rfl (lv_at hl 4 rfl) ?_
                                                refine lv_bipush (v := 7) hx hb dX12_thirdRound_317 (by decide) ?_
                                                refine lv_aload_n hx hb dX12_thirdRound_319 rfl (lv_at hl 4 rfl) ?_
                                                refine r_get (v := .ref (a 25)) hx hb hown hq hE hP 37 87 tFX12_37 (by decide) pw_1456 rfl dX12_thirdRound_320 ?_
                                                refine lv_iload_n hx hb dX12_thirdRound_323 rfl (lv_at hl 3 rfl) ?_
                                                refine r_ldi (f := (B 25)) (j := d2) hx hb hE hP 25 (ma_25 G a _) rfl (by omega) (by decide) dX12_thirdRound_324 ?_
                                                obtain ⟨t199, e201, h200⟩ := (hps.1 d2 (by omega)).1 (by omega)
                                                refine lv_topi (fun x202 e203 => ?_)
                                                obtain rfl : x202 = nI t199 := e203.trans e201
                                                have hP : va_P G.1 pCl (mW G h0 a (upd (upd (upd (upd (upd (upd (upd (upd F 9 (nI T)) 35 (nI dc)) 44 (nI fd)) 49 (nI md)) 69 ra2) 70 (nI rw2)) 69 ra2) 70 (nI rw2)) B) _ := mW_to (F := F) (l1 := [(9, (nI T)), (35, (nI dc)), (44, (nI fd)), (49, (nI md)), (69, ra2), (70, (nI rw2))]) (l2 := [(9, (nI T)), (35, (nI dc)), (44, (nI fd)), (49, (nI md)), (69, ra2), (70, (nI rw2)), (69, ra2), (70, (nI rw2))]) (V := [(nI T), (nI dc), (nI fd), (nI md), ra2, (nI rw2), (nI T), (nI dc), (nI fd), (nI md), ra2, (nI rw2), ra2, (nI rw2)]) rfl rfl rfl hP
                                                have hD : va_D A (mW G h0 a (upd (upd (upd (upd (upd (upd (upd (upd F 9 (nI T)) 35 (nI dc)) 44 (nI fd)) 49 (nI md)) 69 ra2) 70 (nI rw2)) 69 ra2) 70 (nI rw2)) B) := mW_D hD
                                                refine pc_V0 (G := G) (As := [.int (nI 7), .int (nI t199)]) (rest := []) hx hb hml hown hq hE hX pX0_al hP hD hS hA hl.1 (R_note l G h0 a (upd (upd (upd (upd (upd (upd F 9 (nI T)) 35 (nI dc)) 44 (nI fd)) 49 (nI md)) 69 ra2) 70 (nI rw2)) B 7 t199 rw2 ra2 (by omega) (by omega) (by omega)) (gV pw_1749 pw_1750 pw_1751 pw_1523 pw_1740) hV_X12_note 0 9 rfl rfl rfl rfl (Nat.le_of_ble_eq_true rfl) dX12_thirdRound_325 ⟨Nat.le_of_ble_eq_true rfl, Nat.le_of_ble_eq_true rfl⟩ ⟨Nat.le_of_ble_eq_true rfl, Nat.le_of_ble_eq_true rfl⟩ (fun v206 u204 H locs hw205 hP hD hS => ?_)
                                                obtain ⟨rw207, ra208⟩ := u204
                                                obtain ⟨hw205, h209, h210⟩ := hw205
                                                replace h209 : 0 < rw207 := h209
                                                replace h210 : rw207 ≤ 15 := h210
                                                obtain rfl : v206 = none := hw205
                                                have hP : va_P G.1 pCl (mW G h0 a (upd (upd (upd (upd (upd (upd F 9 (nI T)) 35 (nI dc)) 44 (nI fd)) 49 (nI md)) 69 ra208) 70 (nI rw207)) B) _ := mW_to (F := F) (l1 := [(9, (nI T)), (35, (nI dc)), (44, (nI fd)), (49, (nI md)), (69, ra2), (70, (nI rw2)), (69, ra208), (70, (nI rw207))]) (l2 := [(9, (nI T)), (35, (nI dc)), (44, (nI fd)), (49, (nI md)), (69, ra208), (70, (nI rw207))]) (V := [(nI T), (nI dc), (nI fd), (nI md), ra208, (nI rw207), ra208, (nI rw207), (nI T), (nI dc), (nI fd), (nI md), ra208, (nI rw207)]) rfl rfl rfl hP
                                                have hD : va_D A (mW G h0 a (upd (upd (upd (upd (upd (upd F 9 (nI T)) 35 (nI dc)) 44 (nI fd)) 49 (nI md)) 69 ra208) 70 (nI rw207)) B) := mW_D hD
                                                refine W.widen (k := 0) (n := 0) (Nat.le_of_ble_eq_true rfl) (Nat.le_of_ble_eq_true rfl) ?_
                                                refine W.eq (g2 := F0 m 328 ls []) rfl ?_
                                                refine lv_iinc (v := (nI (o4 + 1))) (lv' := [(4, .int (nI (o4 + 1))), (3, .int (nI hs)), (2, .int (nI m3)), (1, .int (nI d2)), (0, .ref h0)]) hx hb dX12_thirdRound_328 hl (k := 0) rfl (nI_1 o4) (by decide) rfl (fun ls hl => ?_)
                                                refine lv_goto (tgt := 262) hx hb dX12_thirdRound_331 (by decide) ?_
                                                have hP : va_P G.1 pCl (mW G h0 a (upd (upd (upd (upd (upd (upd F 9 (nI T)) 35 (nI dc)) 44 (nI fd)) 49 (nI md)) 69 ra208) 70 (nI rw207)) B) _ := hP
                                                have hD : va_D A (mW G h0 a (upd (upd (upd (upd (upd (upd F 9 (nI T)) 35 (nI dc)) 44 (nI fd)) 49 (nI md)) 69 ra208) 70 (nI rw207)) B) := mW_D hD
                                                exact ih_j (o4 + 1) rw207 ra208 hs _ _ _ (by omega) (by omega) (by omega) (by omega) (by omega) (by omega) (fun _ => h1 (by omega)) (fun _ => h3 (by omega)) (fun _ => h4 (by omega)) hha (fun e => all_up (h5 (by omega)) (absurd e (by omega))) hP hD hS (lv_sub hl [0, 1, 2, 3, 4] rfl)
                                  have hP : va_P G.1 pCl (mW G h0 a (upd (upd (upd (upd (upd (upd F 9 (nI T)) 35 (nI dc)) 44 (nI fd)) 49 (nI md)) 69 ra2) 70 (nI rw2)) B) _ := hP
                                  have hD : va_D A (mW G h0 a (upd (upd (upd (upd (upd (upd F 9 (nI T)) 35 (nI dc)) 44 (nI fd)) 49 (nI md)) 69 ra2) 70 (nI rw2)) B) := mW_D hD
                                  exact loop_j (md + 1) 0 rw2 ra2 hs _ _ _ (by omega) (by omega) (by omega) (by omega) (by omega) (by omega) (fun _ => h1 (by omega)) (fun _ => h3 (by omega)) (fun _ => h4 (by omega)) hha (fun _ o h => absurd h (by omega)) hP hD hS (lv_sub hl [0, 1, 2, 3, 4] rfl)
                                · have n211 : ¬ (md ≤ o3) := fun h9 => c123 ((nI_leI (a := md) (b := o3) (by omega) (by omega)).mpr h9)
                                  refine lv_iload_n hx hb dX12_thirdRound_216 rfl (lv_at hl 1 rfl) ?_
                                  refine lv_if_ne (tgt := 247) hx hb dX12_thirdRound_217 (by decide) (fun c212 => ?_) (fun c212 => ?_)
                                  · have n213 : ¬ (hs = 0) := fun h9 => c212 ((nI_eq (a := hs) (b := 0) (by omega) (by omega)).mpr h9)
                                    refine lv_iconst (v := 1) hx hb dX12_thirdRound_247 (by decide) ?_
                                    refine lv_goto (tgt := 252) hx hb dX12_thirdRound_248 (by decide) ?_
                                    refine lv_istore_n (lv' := [(3, .int 1), (4, .int (nI o3)), (2, .int (nI m3)), (1, .int (nI d2)), (0, .ref h0)]) hx hb dX12_thirdRound_252 rfl hl (by decide) rfl (fun ls hl => ?_)
                                    refine lv_iinc (v := (nI (o3 + 1))) (lv' := [(4, .int (nI (o3 + 1))), (3, .int 1), (2, .int (nI m3)), (1, .int (nI d2)), (0, .ref h0)]) hx hb dX12_thirdRound_253 hl (k := 1) rfl (nI_1 o3) (by decide) rfl (fun ls hl => ?_)
                                    refine lv_goto (tgt := 207) hx hb dX12_thirdRound_256 (by decide) ?_
                                    have hP : va_P G.1 pCl (mW G h0 a (upd (upd (upd (upd (upd (upd F 9 (nI T)) 35 (nI dc)) 44 (nI fd)) 49 (nI md)) 69 ra2) 70 (nI rw2)) B) _ := hP
                                    have hD : va_D A (mW G h0 a (upd (upd (upd (upd (upd (upd F 9 (nI T)) 35 (nI dc)) 44 (nI fd)) 49 (nI md)) 69 ra2) 70 (nI rw2)) B) := mW_D hD
                                    exact ih_h (o3 + 1) rw2 ra2 1 _ _ _ (by omega) (by omega) (by omega) (by omega) (by omega) (by omega) (fun _ => h1 (by omega)) (fun _ => h3 (by omega)) (fun _ => h4 (by omega)) (fun _ => hha (by omega)) hP hD hS (lv_sub hl [0, 1, 2, 3, 4] rfl)
                                  · have n214 : hs = 0 := (nI_eq (a := hs) (b := 0) (by omega) (by omega)).mp c212
                                    refine lv_aload_n hx hb dX12_thirdRound_220 rfl (lv_at hl 4 rfl) ?_
                                    refine r_get (v := .ref (a 36)) hx hb hown hq hE hP 50 120 tFX12_50 (by decide) pw_1467 rfl dX12_thirdRound_221 ?_
                                    refine lv_iload hx hb dX12_thirdRound_224 (lv_at hl 0 rfl) ?_
                                    refine r_ldi (f := (B 36)) (j := o3) hx hb hE hP 36 (ma_36 G a _) rfl (by omega) (by decide) dX12_thirdRound_226 ?_
                                    refine lv_iload_n hx hb dX12_thirdRound_227 rfl (lv_at hl 3 rfl) ?_
                                    refine lv_icmp_ne (tgt := 251) hx hb dX12_thirdRound_228 (by decide) (fun c215 => ?_) (fun c215 => ?_)
                                    · refine lv_iconst (v := 0) hx hb dX12_thirdRound_251 (by decide) ?_
                                      refine lv_istore_n (lv' := [(3, .int 0), (4, .int (nI o3)), (2, .int (nI m3)), (1, .int (nI d2)), (0, .ref h0)]) hx hb dX12_thirdRound_252 rfl hl (by decide) rfl (fun ls hl => ?_)
                                      refine lv_iinc (v := (nI (o3 + 1))) (lv' := [(4, .int (nI (o3 + 1))), (3, .int 0), (2, .int (nI m3)), (1, .int (nI d2)), (0, .ref h0)]) hx hb dX12_thirdRound_253 hl (k := 1) rfl (nI_1 o3) (by decide) rfl (fun ls hl => ?_)
                                      refine lv_goto (tgt := 207) hx hb dX12_thirdRound_256 (by decide) ?_
                                      have hP : va_P G.1 pCl (mW G h0 a (upd (upd (upd (upd (upd (upd F 9 (nI T)) 35 (nI dc)) 44 (nI fd)) 49 (nI md)) 69 ra2) 70 (nI rw2)) B) _ := hP
                                      have hD : va_D A (mW G h0 a (upd (upd (upd (upd (upd (upd F 9 (nI T)) 35 (nI dc)) 44 (nI fd)) 49 (nI md)) 69 ra2) 70 (nI rw2)) B) := mW_D hD
                                      exact ih_h (o3 + 1) rw2 ra2 0 _ _ _ (by omega) (by omega) (by omega) (by omega) (by omega) (by omega) (fun _ => h1 (by omega)) (fun _ => h3 (by omega)) (fun _ => h4 (by omega)) (fun e => absurd e (by decide)) hP hD hS (lv_sub hl [0, 1, 2, 3, 4] rfl)
                                    · refine lv_aload_n hx hb dX12_thirdRound_231 rfl (lv_at hl 4 rfl) ?_
                                      refine r_get (v := .ref (a 37)) hx hb hown hq hE hP 51 123 tFX12_51 (by decide) pw_1468 rfl dX12_thirdRound_232 ?_
                                      refine lv_iload hx hb dX12_thirdRound_235 (lv_at hl 0 rfl) ?_
                                      refine r_ldi (f := (B 37)) (j := o3) hx hb hE hP 37 (ma_37 G a _) rfl (by omega) (by decide) dX12_thirdRound_237 ?_
                                      refine lv_aload_n hx hb dX12_thirdRound_238 rfl (lv_at hl 4 rfl) ?_
                                      refine r_get (v := .ref (a 37)) hx hb hown hq hE hP 51 123 tFX12_51 (by decide) pw_1468 rfl dX12_thirdRound_239 ?_
                                      refine lv_iload_n hx hb dX12_thirdRound_242 rfl (lv_at hl 2 rfl) ?_
                                      refine r_ldi (f := (B 37)) (j := m3) hx hb hE hP 37 (ma_37 G a _) rfl (by omega) (by decide) dX12_thirdRound_243 ?_
                                      refine lv_icmp_ne (tgt := 251) hx hb dX12_thirdRound_244 (by decide) (fun c216 => ?_) (fun c216 => ?_)
                                      · refine lv_iconst (v := 0) hx hb dX12_thirdRound_251 (by decide) ?_
                                        refine lv_istore_n (lv' := [(3, .int 0), (4, .int (nI o3)), (2, .int (nI m3)), (1, .int (nI d2)), (0, .ref h0)]) hx hb dX12_thirdRound_252 rfl hl (by decide) rfl (fun ls hl => ?_)
                                        refine lv_iinc (v := (nI (o3 + 1))) (lv' := [(4, .int (nI (o3 + 1))), (3, .int 0), (2, .int (nI m3)), (1, .int (nI d2)), (0, .ref h0)]) hx hb dX12_thirdRound_253 hl (k := 1) rfl (nI_1 o3) (by decide) rfl (fun ls hl => ?_)
                                        refine lv_goto (tgt := 207) hx hb dX12_thirdRound_256 (by decide) ?_
                                        have hP : va_P G.1 pCl (mW G h0 a (upd (upd (upd (upd (upd (upd F 9 (nI T)) 35 (nI dc)) 44 (nI fd)) 49 (nI md)) 69 ra2) 70 (nI rw2)) B) _ := hP
                                        have hD : va_D A (mW G h0 a (upd (upd (upd (upd (upd (upd F 9 (nI T)) 35 (nI dc)) 44 (nI fd)) 49 (nI md)) 69 ra2) 70 (nI rw2)) B) := mW_D hD
                                        exact ih_h (o3 + 1) rw2 ra2 0 _ _ _ (by omega) (by omega) (by omega) (by omega) (by omega) (by omega) (fun _ => h1 (by omega)) (fun _ => h3 (by omega)) (fun _ => h4 (by omega)) (fun e => absurd e (by decide)) hP hD hS (lv_sub hl [0, 1, 2, 3, 4] rfl)
                                      · refine lv_iconst (v := 1) hx hb dX12_thirdRound_247 (by decide) ?_
                                        refine lv_goto (tgt := 252) hx hb dX12_thirdRound_248 (by decide) ?_
                                        refine lv_istore_n (lv' := [(3, .int 1), (4, .int (nI o3)), (2, .int (nI m3)), (1, .int (nI d2)), (0, .ref h0)]) hx hb dX12_thirdRound_252 rfl hl (by decide) rfl (fun ls hl => ?_)
                                        refine lv_iinc (v := (nI (o3 + 1))) (lv' := [(4, .int (nI (o3 + 1))), (3, .int 1), (2, .int (nI m3)), (1, .int (nI d2)), (0, .ref h0)]) hx hb dX12_thirdRound_253 hl (k := 1) rfl (nI_1 o3) (by decide) rfl (fun ls hl => ?_)
                                        refine lv_goto (tgt := 207) hx hb dX12_thirdRound_256 (by decide) ?_
                                        have hP : va_P G.1 pCl (mW G h0 a (upd (upd (upd (upd (upd (upd F 9 (nI T)) 35 (nI dc)) 44 (nI fd)) 49 (nI md)) 69 ra2) 70 (nI rw2)) B) _ := hP
                                        have hD : va_D A (mW G h0 a (upd (upd (upd (upd (upd (upd F 9 (nI T)) 35 (nI dc)) 44 (nI fd)) 49 (nI md)) 69 ra2) 70 (nI rw2)) B) := mW_D hD
                                        exact ih_h (o3 + 1) rw2 ra2 1 _ _ _ (by omega) (by omega) (by omega) (by omega) (by omega) (by omega) (fun _ => h1 (by omega)) (fun _ => h3 (by omega)) (fun _ => h4 (by omega)) (fun _ => ⟨o3, by omega, c215, c216⟩) hP hD hS (lv_sub hl [0, 1, 2, 3, 4] rfl)
                            have hP : va_P G.1 pCl (mW G h0 a (upd (upd (upd (upd (upd (upd F 9 (nI T)) 35 (nI dc)) 44 (nI fd)) 49 (nI md)) 69 ra2) 70 (nI rw2)) B) _ := hP
                            have hD : va_D A (mW G h0 a (upd (upd (upd (upd (upd (upd F 9 (nI T)) 35 (nI dc)) 44 (nI fd)) 49 (nI md)) 69 ra2) 70 (nI rw2)) B) := mW_D hD
                            exact loop_h (md + 1) 0 rw2 ra2 0 _ _ _ (by omega) (by omega) (by omega) (by omega) (by omega) (by omega) (fun _ => h1 (by omega)) (fun _ => h3 (by omega)) (fun _ => h4 (by omega)) (fun e => absurd e (by decide)) hP hD hS (lv_sub hl [0, 1, 2, 3, 4] rfl)
                          · refine lv_goto (tgt := 384) hx hb dX12_thirdRound_199 (by decide) ?_
                            refine lv_iinc (v := (nI (m3 + 1))) (lv' := [(2, .int (nI (m3 + 1))), (1, .int (nI d2)), (0, .ref h0)]) hx hb dX12_thirdRound_384 hl (k := 0) rfl (nI_1 m3) (by decide) rfl (fun ls hl => ?_)
                            refine lv_goto (tgt := 177) hx hb dX12_thirdRound_387 (by decide) ?_
                            have hP : va_P G.1 pCl (mW G h0 a (upd (upd (upd (upd (upd (upd F 9 (nI T)) 35 (nI dc)) 44 (nI fd)) 49 (nI md)) 69 ra2) 70 (nI rw2)) B) _ := hP
                            have hD : va_D A (mW G h0 a (upd (upd (upd (upd (upd (upd F 9 (nI T)) 35 (nI dc)) 44 (nI fd)) 49 (nI md)) 69 ra2) 70 (nI rw2)) B) := mW_D hD
                            exact ih_p (m3 + 1) rw2 ra2 _ _ _ (by omega) (by omega) (by omega) (by omega) (by omega) (fun _ => h1 (by omega)) (fun _ => h3 (by omega)) (fun e => all_up (h4 (by omega)) (TT.no e114 (by omega) c122)) hP hD hS (lv_sub hl [0, 1, 2] rfl)
                    have hP : va_P G.1 pCl (mW G h0 a (upd (upd (upd (upd (upd (upd F 9 (nI T)) 35 (nI dc)) 44 (nI fd)) 49 (nI md)) 69 ra2) 70 (nI rw2)) B) _ := hP
                    have hD : va_D A (mW G h0 a (upd (upd (upd (upd (upd (upd F 9 (nI T)) 35 (nI dc)) 44 (nI fd)) 49 (nI md)) 69 ra2) 70 (nI rw2)) B) := mW_D hD
                    exact loop_p (md + 1) 0 rw2 ra2 _ _ _ (by omega) (by omega) (by omega) (by omega) (by omega) (fun _ => h1 (by omega)) (fun _ => h3 (by omega)) (fun _ m h => absurd h (by omega)) hP hD hS (lv_sub hl [0, 1, 2] rfl)
              have hP : va_P G.1 pCl (mW G h0 a (upd (upd (upd (upd (upd (upd F 9 (nI T)) 35 (nI dc)) 44 (nI fd)) 49 (nI md)) 69 ra2) 70 (nI rw2)) B) _ := hP
              have hD : va_D A (mW G h0 a (upd (upd (upd (upd (upd (upd F 9 (nI T)) 35 (nI dc)) 44 (nI fd)) 49 (nI md)) 69 ra2) 70 (nI rw2)) B) := mW_D hD
              exact loop_d (dc + 1) 7 rw2 ra2 _ _ _ (by omega) (by omega) (by omega) (by omega) (by omega) (fun _ m h => h1 (by omega) m (by omega)) (fun _ d h h9 => absurd h (by omega)) hP hD hS (lv_sub hl [0, 1] rfl)
            · have n217 : ¬ (md ≤ m2) := fun h9 => c3 ((nI_leI (a := md) (b := m2) (by omega) (by omega)).mpr h9)
              refine lv_iconst (v := 0) hx hb dX12_thirdRound_87 (by decide) ?_
              refine lv_istore_n (lv' := [(2, .int 0), (1, .int (nI m2)), (0, .ref h0)]) hx hb dX12_thirdRound_88 rfl hl (by decide) rfl (fun ls hl => ?_)
              have loop_n : ∀ (n_n : Nat) (o2 : Nat) (rw2 : Nat) (ra2 : Int32) (H : Heap) (locs : List Loc) (ls : Array Slot), o2 ≤ md → md + 1 ≤ o2 + n_n → (rw ≤ 15 * rw2) → (rw2 ≤ 15) → (m2 < md) → (If (rw2 = 0) (∀ m : Nat, m < m2 → ∀ o : Nat, o < md → T1P B m o)) → (If (rw2 = 0) (∀ o : Nat, o < o2 → T1P B m2 o)) → va_P G.1 pCl (mW G h0 a (upd (upd (upd (upd (upd (upd F 9 (nI T)) 35 (nI dc)) 44 (nI fd)) 49 (nI md)) 69 ra2) 70 (nI rw2)) B) H → va_D A (mW G h0 a (upd (upd (upd (upd (upd (upd F 9 (nI T)) 35 (nI dc)) 44 (nI fd)) 49 (nI md)) 69 ra2) 70 (nI rw2)) B) → va_S A s.heap H locs → lv_has ls 5 [(2, .int (nI o2)), (1, .int (nI m2)), (0, .ref h0)] → W p l e (headSpec (Cond.code yX12_thirdRound cX12_thirdRound 5 none :: pw) ({ frames := 4, cells := 0, slots := 0, locals := 105 } : Room)).room s m ([.ref h0] : List Value).toArray below meth c H locs 0 0 (MQ below (pQ G A (fun (v : Option Value) (u : Nat × Int32) => v = none ∧ (rw ≤ 15 * u.1) ∧ (u.1 ≤ 15) ∧ (If (u.1 = 0) (∀ m : Nat, m < md → ∀ o : Nat, o < md → T1P B m o)) ∧ (If (u.1 = 0) (∀ d : Nat, 7 ≤ d → d < dc → ∀ m : Nat, m < md → TT B md d m)) ∧ (If (u.1 = 0) (T4P B dc md))) (fun u => (mW G h0 a (upd (upd (upd (upd (upd (upd F 9 (nI T)) 35 (nI dc)) 44 (nI fd)) 49 (nI md)) 69 u.2) 70 (nI u.1)) B))) ([.ref h0] : List Value).toArray s ({ frames := 4, cells := 0, slots := 0, locals := 105 } : Room).cells ({ frames := 4, cells := 0, slots := 0, locals := 105 } : Room).slots A) (F0 m 89 ls []) := by
                intro n_n
                induction n_n with
                | zero => intro o2 rw2 ra2 H locs ls hk_n hn_n; omega
                | succ n_n ih_n =>
                  intro o2 rw2 ra2 H locs ls hk_n hn_n hw1 hw2 hmm h1 ho hP hD hS hl
                  refine lv_iload_n hx hb dX12_thirdRound_89 rfl (lv_at hl 0 rfl) ?_
                  refine lv_aload_n hx hb dX12_thirdRound_90 rfl (lv_at hl 2 rfl) ?_
                  refine r_get (v := .int (nI md)) hx hb hown hq hE hP 49 416 tFX12_49 (by decide) pw_1721 rfl dX12_thirdRound_91 ?_
                  refine lv_icmp_ge (tgt := 158) hx hb dX12_thirdRound_94 (by decide) (fun c218 => ?_) (fun c218 => ?_)
                  · have n219 : md ≤ o2 := (nI_leI (a := md) (b := o2) (by omega) (by omega)).mp c218
                    refine lv_iinc (v := (nI (m2 + 1))) (lv' := [(1, .int (nI (m2 + 1))), (2, .int (nI o2)), (0, .ref h0)]) hx hb dX12_thirdRound_158 hl (k := 1) rfl (nI_1 m2) (by decide) rfl (fun ls hl => ?_)
                    refine lv_goto (tgt := 79) hx hb dX12_thirdRound_161 (by decide) ?_
                    have hP : va_P G.1 pCl (mW G h0 a (upd (upd (upd (upd (upd (upd F 9 (nI T)) 35 (nI dc)) 44 (nI fd)) 49 (nI md)) 69 ra2) 70 (nI rw2)) B) _ := hP
                    have hD : va_D A (mW G h0 a (upd (upd (upd (upd (upd (upd F 9 (nI T)) 35 (nI dc)) 44 (nI fd)) 49 (nI md)) 69 ra2) 70 (nI rw2)) B) := mW_D hD
                    exact ih_m (m2 + 1) rw2 ra2 _ _ _ (by omega) (by omega) (by omega) (by omega) (fun _ => all_up (h1 (by omega)) (fun o h => ho (by omega) o (by omega))) hP hD hS (lv_sub hl [0, 2] rfl)
                  · have n220 : ¬ (md ≤ o2) := fun h9 => c218 ((nI_leI (a := md) (b := o2) (by omega) (by omega)).mpr h9)
                    refine lv_aload_n hx hb dX12_thirdRound_97 rfl (lv_at hl 2 rfl) ?_
                    refine r_get (v := .ref (a 37)) hx hb hown hq hE hP 51 123 tFX12_51 (by decide) pw_1468 rfl dX12_thirdRound_98 ?_
                    refine lv_iload_n hx hb dX12_thirdRound_101 rfl (lv_at hl 0 rfl) ?_
                    refine r_ldi (f := (B 37)) (j := o2) hx hb hE hP 37 (ma_37 G a _) rfl (by omega) (by decide) dX12_thirdRound_102 ?_
                    refine lv_aload_n hx hb dX12_thirdRound_103 rfl (lv_at hl 2 rfl) ?_
                    refine r_get (v := .ref (a 37)) hx hb hown hq hE hP 51 123 tFX12_51 (by decide) pw_1468 rfl dX12_thirdRound_104 ?_
                    refine lv_iload_n hx hb dX12_thirdRound_107 rfl (lv_at hl 1 rfl) ?_
                    refine r_ldi (f := (B 37)) (j := m2) hx hb hE hP 37 (ma_37 G a _) rfl (by omega) (by decide) dX12_thirdRound_108 ?_
                    refine lv_icmp_ne (tgt := 152) hx hb dX12_thirdRound_109 (by decide) (fun c221 => ?_) (fun c221 => ?_)
                    · refine lv_iinc (v := (nI (o2 + 1))) (lv' := [(2, .int (nI (o2 + 1))), (1, .int (nI m2)), (0, .ref h0)]) hx hb dX12_thirdRound_152 hl (k := 0) rfl (nI_1 o2) (by decide) rfl (fun ls hl => ?_)
                      refine lv_goto (tgt := 89) hx hb dX12_thirdRound_155 (by decide) ?_
                      have hP : va_P G.1 pCl (mW G h0 a (upd (upd (upd (upd (upd (upd F 9 (nI T)) 35 (nI dc)) 44 (nI fd)) 49 (nI md)) 69 ra2) 70 (nI rw2)) B) _ := hP
                      have hD : va_D A (mW G h0 a (upd (upd (upd (upd (upd (upd F 9 (nI T)) 35 (nI dc)) 44 (nI fd)) 49 (nI md)) 69 ra2) 70 (nI rw2)) B) := mW_D hD
                      exact ih_n (o2 + 1) rw2 ra2 _ _ _ (by omega) (by omega) (by omega) (by omega) (by omega) (fun _ => h1 (by omega)) (fun e => all_up (ho (by omega)) (fun _ _ _ _ _ _ _ q => absurd q c221)) hP hD hS (lv_sub hl [0, 1, 2] rfl)
                    · refine lv_aload_n hx hb dX12_thirdRound_112 rfl (lv_at hl 2 rfl) ?_
                      refine lv_aload_n hx hb dX12_thirdRound_113 rfl (lv_at hl 2 rfl) ?_
                      refine r_get (v := .ref (a 36)) hx hb hown hq hE hP 50 120 tFX12_50 (by decide) pw_1467 rfl dX12_thirdRound_114 ?_
                      refine lv_iload_n hx hb dX12_thirdRound_117 rfl (lv_at hl 0 rfl) ?_
                      refine r_ldi (f := (B 36)) (j := o2) hx hb hE hP 36 (ma_36 G a _) rfl (by omega) (by decide) dX12_thirdRound_118 ?_
                      obtain ⟨d222, e223, h224, h225, -⟩ := hps.2.2.1 o2 (by omega)
                      refine lv_topi (fun x226 e227 => ?_)
                      obtain rfl : x226 = nI d222 := e227.trans e223
                      refine lv_aload_n hx hb dX12_thirdRound_119 rfl (lv_at hl 2 rfl) ?_
                      refine r_get (v := .ref (a 36)) hx hb hown hq hE hP 50 120 tFX12_50 (by decide) pw_1467 rfl dX12_thirdRound_120 ?_
                      refine lv_iload_n hx hb dX12_thirdRound_123 rfl (lv_at hl 1 rfl) ?_
                      refine r_ldi (f := (B 36)) (j := m2) hx hb hE hP 36 (ma_36 G a _) rfl (by omega) (by decide) dX12_thirdRound_124 ?_
                      obtain ⟨d228, e229, h230, h231, -⟩ := hps.2.2.1 m2 (by omega)
                      refine lv_topi (fun x232 e233 => ?_)
                      obtain rfl : x232 = nI d228 := e233.trans e229
                      have hP : va_P G.1 pCl (mW G h0 a (upd (upd (upd (upd (upd (upd F 9 (nI T)) 35 (nI dc)) 44 (nI fd)) 49 (nI md)) 69 ra2) 70 (nI rw2)) (updA B 31 (B 31))) _ := mW_to (F := F) (l1 := [(9, (nI T)), (35, (nI dc)), (44, (nI fd)), (49, (nI md)), (69, ra2), (70, (nI rw2))]) (l2 := [(9, (nI T)), (35, (nI dc)), (44, (nI fd)), (49, (nI md)), (69, ra2), (70, (nI rw2))]) (V := [(nI T), (nI dc), (nI fd), (nI md), ra2, (nI rw2), (nI T), (nI dc), (nI fd), (nI md), ra2, (nI rw2)]) rfl rfl (show B = (updA B 31 (B 31)) from updsA_eq2 (F := B) (l1 := []) (l2 := [(31, (B 31))]) (V := [(B 31)]) rfl rfl) hP
                      have hD : va_D A (mW G h0 a (upd (upd (upd (upd (upd (upd F 9 (nI T)) 35 (nI dc)) 44 (nI fd)) 49 (nI md)) 69 ra2) 70 (nI rw2)) (updA B 31 (B 31))) := mW_D hD
                      refine pc_V0 (G := G) (As := [.int (nI d222), .int (nI d228)]) (rest := []) hx hb hml hown hq hE hX pX0_al hP hD hS hA hl.1 (R_isAbove l G h0 a (upd (upd (upd (upd (upd (upd F 9 (nI T)) 35 (nI dc)) 44 (nI fd)) 49 (nI md)) 69 ra2) 70 (nI rw2)) B d222 d228 (B 31) (by omega) hbi) (gV pw_1772 pw_1773 pw_1774 pw_1523 pw_1760) hV_X12_isAbove 0 9 rfl rfl rfl rfl (Nat.le_of_ble_eq_true rfl) dX12_thirdRound_125 ⟨Nat.le_of_ble_eq_true rfl, Nat.le_of_ble_eq_true rfl⟩ ⟨Nat.le_of_ble_eq_true rfl, Nat.le_of_ble_eq_true rfl⟩ (fun v236 u234 H locs hw235 hP hD hS => ?_)
                      obtain rfl : v236 = some (.int ((B 31) (40 * d222 + d228))) := hw235
                      have hP : va_P G.1 pCl (mW G h0 a (upd (upd (upd (upd (upd (upd F 9 (nI T)) 35 (nI dc)) 44 (nI fd)) 49 (nI md)) 69 ra2) 70 (nI rw2)) B) _ := mW_to (F := F) (l1 := [(9, (nI T)), (35, (nI dc)), (44, (nI fd)), (49, (nI md)), (69, ra2), (70, (nI rw2))]) (l2 := [(9, (nI T)), (35, (nI dc)), (44, (nI fd)), (49, (nI md)), (69, ra2), (70, (nI rw2))]) (V := [(nI T), (nI dc), (nI fd), (nI md), ra2, (nI rw2), (nI T), (nI dc), (nI fd), (nI md), ra2, (nI rw2)]) rfl rfl (show (updA B 31 (B 31)) = B from updsA_eq2 (F := B) (l1 := [(31, (B 31))]) (l2 := []) (V := [(B 31)]) rfl rfl) hP
                      have hD : va_D A (mW G h0 a (upd (upd (upd (upd (upd (upd F 9 (nI T)) 35 (nI dc)) 44 (nI fd)) 49 (nI md)) 69 ra2) 70 (nI rw2)) B) := mW_D hD
                      refine W.widen (k := 0) (n := 0) (Nat.le_of_ble_eq_true rfl) (Nat.le_of_ble_eq_true rfl) ?_
                      refine W.eq (g2 := F0 m 128 ls [.int ((B 31) (40 * d222 + d228))]) rfl ?_
                      refine lv_if_eq (tgt := 152) hx hb dX12_thirdRound_128 (by decide) (fun c237 => ?_) (fun c237 => ?_)
                      · refine lv_iinc (v := (nI (o2 + 1))) (lv' := [(2, .int (nI (o2 + 1))), (1, .int (nI m2)), (0, .ref h0)]) hx hb dX12_thirdRound_152 hl (k := 0) rfl (nI_1 o2) (by decide) rfl (fun ls hl => ?_)
                        refine lv_goto (tgt := 89) hx hb dX12_thirdRound_155 (by decide) ?_
                        have hP : va_P G.1 pCl (mW G h0 a (upd (upd (upd (upd (upd (upd F 9 (nI T)) 35 (nI dc)) 44 (nI fd)) 49 (nI md)) 69 ra2) 70 (nI rw2)) B) _ := hP
                        have hD : va_D A (mW G h0 a (upd (upd (upd (upd (upd (upd F 9 (nI T)) 35 (nI dc)) 44 (nI fd)) 49 (nI md)) 69 ra2) 70 (nI rw2)) B) := mW_D hD
                        exact ih_n (o2 + 1) rw2 ra2 _ _ _ (by omega) (by omega) (by omega) (by omega) (by omega) (fun _ => h1 (by omega)) (fun e => all_up (ho (by omega)) (T1P.no e229 e223 (by omega) (by omega) c237)) hP hD hS (lv_sub hl [0, 1, 2] rfl)
                      · refine lv_aload_n hx hb dX12_thirdRound_131 rfl (lv_at hl 2 rfl) ?_
                        refine lv_iload_n hx hb dX12_thirdRound_132 rfl (lv_at hl 1 rfl) ?_
                        refine lv_iload_n hx hb dX12_thirdRound_133 rfl (lv_at hl 0 rfl) ?_
                        have hP : va_P G.1 pCl (mW G h0 a (upd (upd (upd (upd (upd (upd F 9 (nI T)) 35 (nI dc)) 44 (nI fd)) 49 (nI md)) 69 ra2) 70 (nI rw2)) B) _ := hP
                        have hD : va_D A (mW G h0 a (upd (upd (upd (upd (upd (upd F 9 (nI T)) 35 (nI dc)) 44 (nI fd)) 49 (nI md)) 69 ra2) 70 (nI rw2)) B) := mW_D hD
                        refine pc_V0 (G := G) (As := [.int (nI m2), .int (nI o2)]) (rest := []) hx hb hml hown hq hE hX pX0_al hP hD hS hA hl.1 (R_isAlike l G h0 a (upd (upd (upd (upd (upd (upd F 9 (nI T)) 35 (nI dc)) 44 (nI fd)) 49 (nI md)) 69 ra2) 70 (nI rw2)) B m2 o2 T nm wr lz dc fd md pr bk (by omega) (by omega) (by omega) (by omega) (by omega) hps) (gV pw_1775 pw_1776 pw_1777 pw_1523 pw_1763) hV_X12_isAlike 0 9 rfl rfl rfl rfl (Nat.le_of_ble_eq_true rfl) dX12_thirdRound_134 ⟨Nat.le_of_ble_eq_true rfl, Nat.le_of_ble_eq_true rfl⟩ ⟨Nat.le_of_ble_eq_true rfl, Nat.le_of_ble_eq_true rfl⟩ (fun v240 u238 H locs hw239 hP hD hS => ?_)
                        obtain ⟨r241, rfl⟩ : ∃ z, z = u238 := ⟨_, rfl⟩
                        obtain ⟨hw239, h242, h243⟩ := hw239
                        replace h242 : r241 ≤ 1 := h242
                        replace h243 : If (r241 = 1) (Alk B m2 o2) := h243
                        obtain rfl : v240 = some (.int (nI r241)) := hw239
                        have hP : va_P G.1 pCl (mW G h0 a (upd (upd (upd (upd (upd (upd F 9 (nI T)) 35 (nI dc)) 44 (nI fd)) 49 (nI md)) 69 ra2) 70 (nI rw2)) B) _ := hP
                        have hD : va_D A (mW G h0 a (upd (upd (upd (upd (upd (upd F 9 (nI T)) 35 (nI dc)) 44 (nI fd)) 49 (nI md)) 69 ra2) 70 (nI rw2)) B) := mW_D hD
                        refine W.widen (k := 0) (n := 0) (Nat.le_of_ble_eq_true rfl) (Nat.le_of_ble_eq_true rfl) ?_
                        refine W.eq (g2 := F0 m 137 ls [.int (nI r241)]) rfl ?_
                        refine lv_if_ne (tgt := 152) hx hb dX12_thirdRound_137 (by decide) (fun c244 => ?_) (fun c244 => ?_)
                        · have n245 : ¬ (r241 = 0) := fun h9 => c244 ((nI_eq (a := r241) (b := 0) (by omega) (by omega)).mpr h9)
                          refine lv_iinc (v := (nI (o2 + 1))) (lv' := [(2, .int (nI (o2 + 1))), (1, .int (nI m2)), (0, .ref h0)]) hx hb dX12_thirdRound_152 hl (k := 0) rfl (nI_1 o2) (by decide) rfl (fun ls hl => ?_)
                          refine lv_goto (tgt := 89) hx hb dX12_thirdRound_155 (by decide) ?_
                          have hP : va_P G.1 pCl (mW G h0 a (upd (upd (upd (upd (upd (upd F 9 (nI T)) 35 (nI dc)) 44 (nI fd)) 49 (nI md)) 69 ra2) 70 (nI rw2)) B) _ := hP
                          have hD : va_D A (mW G h0 a (upd (upd (upd (upd (upd (upd F 9 (nI T)) 35 (nI dc)) 44 (nI fd)) 49 (nI md)) 69 ra2) 70 (nI rw2)) B) := mW_D hD
                          exact ih_n (o2 + 1) rw2 ra2 _ _ _ (by omega) (by omega) (by omega) (by omega) (by omega) (fun _ => h1 (by omega)) (fun e => all_up (ho (by omega)) (fun _ _ _ _ _ _ _ _ => h243 (by omega))) hP hD hS (lv_sub hl [0, 1, 2] rfl)
                        · have n246 : r241 = 0 := (nI_eq (a := r241) (b := 0) (by omega) (by omega)).mp c244
                          refine lv_aload_n hx hb dX12_thirdRound_140 rfl (lv_at hl 2 rfl) ?_
                          refine lv_bipush (v := 7) hx hb dX12_thirdRound_141 (by decide) ?_
                          refine lv_aload_n hx hb dX12_thirdRound_143 rfl (lv_at hl 2 rfl) ?_
                          refine r_get (v := .ref (a 38)) hx hb hown hq hE hP 52 126 tFX12_52 (by decide) pw_1469 rfl dX12_thirdRound_144 ?_
                          refine lv_iload_n hx hb dX12_thirdRound_147 rfl (lv_at hl 1 rfl) ?_
                          refine r_ldi (f := (B 38)) (j := m2) hx hb hE hP 38 (ma_38 G a _) rfl (by omega) (by decide) dX12_thirdRound_148 ?_
                          obtain ⟨d250, -, -, -, -, ⟨t247, e249, h248⟩, -⟩ := hps.2.2.1 m2 (by omega)
                          refine lv_topi (fun x251 e252 => ?_)
                          obtain rfl : x251 = nI t247 := e252.trans e249
                          have hP : va_P G.1 pCl (mW G h0 a (upd (upd (upd (upd (upd (upd (upd (upd F 9 (nI T)) 35 (nI dc)) 44 (nI fd)) 49 (nI md)) 69 ra2) 70 (nI rw2)) 69 ra2) 70 (nI rw2)) B) _ := mW_to (F := F) (l1 := [(9, (nI T)), (35, (nI dc)), (44, (nI fd)), (49, (nI md)), (69, ra2), (70, (nI rw2))]) (l2 := [(9, (nI T)), (35, (nI dc)), (44, (nI fd)), (49, (nI md)), (69, ra2), (70, (nI rw2)), (69, ra2), (70, (nI rw2))]) (V := [(nI T), (nI dc), (nI fd), (nI md), ra2, (nI rw2), (nI T), (nI dc), (nI fd), (nI md), ra2, (nI rw2), ra2, (nI rw2)]) rfl rfl rfl hP
                          have hD : va_D A (mW G h0 a (upd (upd (upd (upd (upd (upd (upd (upd F 9 (nI T)) 35 (nI dc)) 44 (nI fd)) 49 (nI md)) 69 ra2) 70 (nI rw2)) 69 ra2) 70 (nI rw2)) B) := mW_D hD
                          refine pc_V0 (G := G) (As := [.int (nI 7), .int (nI t247)]) (rest := []) hx hb hml hown hq hE hX pX0_al hP hD hS hA hl.1 (R_note l G h0 a (upd (upd (upd (upd (upd (upd F 9 (nI T)) 35 (nI dc)) 44 (nI fd)) 49 (nI md)) 69 ra2) 70 (nI rw2)) B 7 t247 rw2 ra2 (by omega) (by omega) (by omega)) (gV pw_1749 pw_1750 pw_1751 pw_1523 pw_1740) hV_X12_note 0 9 rfl rfl rfl rfl (Nat.le_of_ble_eq_true rfl) dX12_thirdRound_149 ⟨Nat.le_of_ble_eq_true rfl, Nat.le_of_ble_eq_true rfl⟩ ⟨Nat.le_of_ble_eq_true rfl, Nat.le_of_ble_eq_true rfl⟩ (fun v255 u253 H locs hw254 hP hD hS => ?_)
                          obtain ⟨rw256, ra257⟩ := u253
                          obtain ⟨hw254, h258, h259⟩ := hw254
                          replace h258 : 0 < rw256 := h258
                          replace h259 : rw256 ≤ 15 := h259
                          obtain rfl : v255 = none := hw254
                          have hP : va_P G.1 pCl (mW G h0 a (upd (upd (upd (upd (upd (upd F 9 (nI T)) 35 (nI dc)) 44 (nI fd)) 49 (nI md)) 69 ra257) 70 (nI rw256)) B) _ := mW_to (F := F) (l1 := [(9, (nI T)), (35, (nI dc)), (44, (nI fd)), (49, (nI md)), (69, ra2), (70, (nI rw2)), (69, ra257), (70, (nI rw256))]) (l2 := [(9, (nI T)), (35, (nI dc)), (44, (nI fd)), (49, (nI md)), (69, ra257), (70, (nI rw256))]) (V := [(nI T), (nI dc), (nI fd), (nI md), ra257, (nI rw256), ra257, (nI rw256), (nI T), (nI dc), (nI fd), (nI md), ra257, (nI rw256)]) rfl rfl rfl hP
                          have hD : va_D A (mW G h0 a (upd (upd (upd (upd (upd (upd F 9 (nI T)) 35 (nI dc)) 44 (nI fd)) 49 (nI md)) 69 ra257) 70 (nI rw256)) B) := mW_D hD
                          refine W.widen (k := 0) (n := 0) (Nat.le_of_ble_eq_true rfl) (Nat.le_of_ble_eq_true rfl) ?_
                          refine W.eq (g2 := F0 m 152 ls []) rfl ?_
                          refine lv_iinc (v := (nI (o2 + 1))) (lv' := [(2, .int (nI (o2 + 1))), (1, .int (nI m2)), (0, .ref h0)]) hx hb dX12_thirdRound_152 hl (k := 0) rfl (nI_1 o2) (by decide) rfl (fun ls hl => ?_)
                          refine lv_goto (tgt := 89) hx hb dX12_thirdRound_155 (by decide) ?_
                          have hP : va_P G.1 pCl (mW G h0 a (upd (upd (upd (upd (upd (upd F 9 (nI T)) 35 (nI dc)) 44 (nI fd)) 49 (nI md)) 69 ra257) 70 (nI rw256)) B) _ := hP
                          have hD : va_D A (mW G h0 a (upd (upd (upd (upd (upd (upd F 9 (nI T)) 35 (nI dc)) 44 (nI fd)) 49 (nI md)) 69 ra257) 70 (nI rw256)) B) := mW_D hD
                          exact ih_n (o2 + 1) rw256 ra257 _ _ _ (by omega) (by omega) (by omega) (by omega) (by omega) (fun _ => h1 (by omega)) (fun e => all_up (ho (by omega)) (absurd e (by omega))) hP hD hS (lv_sub hl [0, 1, 2] rfl)
              have hP : va_P G.1 pCl (mW G h0 a (upd (upd (upd (upd (upd (upd F 9 (nI T)) 35 (nI dc)) 44 (nI fd)) 49 (nI md)) 69 ra2) 70 (nI rw2)) B) _ := hP
              have hD : va_D A (mW G h0 a (upd (upd (upd (upd (upd (upd F 9 (nI T)) 35 (nI dc)) 44 (nI fd)) 49 (nI md)) 69 ra2) 70 (nI rw2)) B) := mW_D hD
              exact loop_n (md + 1) 0 rw2 ra2 _ _ _ (by omega) (by omega) (by omega) (by omega) (by omega) (fun _ => h1 (by omega)) (fun _ o h => absurd h (by omega)) hP hD hS (lv_sub hl [0, 1, 2] rfl)
        have hP : va_P G.1 pCl (mW G h0 a (upd (upd (upd (upd (upd (upd F 9 (nI T)) 35 (nI dc)) 44 (nI fd)) 49 (nI md)) 69 ra2) 70 (nI rw2)) B) _ := hP
        have hD : va_D A (mW G h0 a (upd (upd (upd (upd (upd (upd F 9 (nI T)) 35 (nI dc)) 44 (nI fd)) 49 (nI md)) 69 ra2) 70 (nI rw2)) B) := mW_D hD
        exact loop_m (md + 1) 0 rw2 ra2 _ _ _ (by omega) (by omega) (by omega) (by omega) (fun _ m h => absurd h (by omega)) hP hD hS (lv_sub hl [0, 1] rfl)
      · have n260 : ¬ (fd ≤ f2) := fun h9 => c1 ((nI_leI (a := fd) (b := f2) (by omega) (by omega)).mpr h9)
        refine lv_iconst (v := 0) hx hb dX12_thirdRound_10 (by decide) ?_
        refine lv_istore_n (lv' := [(2, .int 0), (1, .int (nI f2)), (0, .ref h0)]) hx hb dX12_thirdRound_11 rfl hl (by decide) rfl (fun ls hl => ?_)
        have loop_g : ∀ (n_g : Nat) (o2 : Nat) (rw2 : Nat) (ra2 : Int32) (H : Heap) (locs : List Loc) (ls : Array Slot), o2 ≤ fd → fd + 1 ≤ o2 + n_g → (rw ≤ 15 * rw2) → (rw2 ≤ 15) → (f2 < fd) → va_P G.1 pCl (mW G h0 a (upd (upd (upd (upd (upd (upd F 9 (nI T)) 35 (nI dc)) 44 (nI fd)) 49 (nI md)) 69 ra2) 70 (nI rw2)) B) H → va_D A (mW G h0 a (upd (upd (upd (upd (upd (upd F 9 (nI T)) 35 (nI dc)) 44 (nI fd)) 49 (nI md)) 69 ra2) 70 (nI rw2)) B) → va_S A s.heap H locs → lv_has ls 5 [(2, .int (nI o2)), (1, .int (nI f2)), (0, .ref h0)] → W p l e (headSpec (Cond.code yX12_thirdRound cX12_thirdRound 5 none :: pw) ({ frames := 4, cells := 0, slots := 0, locals := 105 } : Room)).room s m ([.ref h0] : List Value).toArray below meth c H locs 0 0 (MQ below (pQ G A (fun (v : Option Value) (u : Nat × Int32) => v = none ∧ (rw ≤ 15 * u.1) ∧ (u.1 ≤ 15) ∧ (If (u.1 = 0) (∀ m : Nat, m < md → ∀ o : Nat, o < md → T1P B m o)) ∧ (If (u.1 = 0) (∀ d : Nat, 7 ≤ d → d < dc → ∀ m : Nat, m < md → TT B md d m)) ∧ (If (u.1 = 0) (T4P B dc md))) (fun u => (mW G h0 a (upd (upd (upd (upd (upd (upd F 9 (nI T)) 35 (nI dc)) 44 (nI fd)) 49 (nI md)) 69 u.2) 70 (nI u.1)) B))) ([.ref h0] : List Value).toArray s ({ frames := 4, cells := 0, slots := 0, locals := 105 } : Room).cells ({ frames := 4, cells := 0, slots := 0, locals := 105 } : Room).slots A) (F0 m 12 ls []) := by
          intro n_g
          induction n_g with
          | zero => intro o2 rw2 ra2 H locs ls hk_g hn_g; omega
          | succ n_g ih_g =>
            intro o2 rw2 ra2 H locs ls hk_g hn_g hw1 hw2 hff hP hD hS hl
            refine lv_iload_n hx hb dX12_thirdRound_12 rfl (lv_at hl 0 rfl) ?_
            refine lv_aload_n hx hb dX12_thirdRound_13 rfl (lv_at hl 2 rfl) ?_
            refine r_get (v := .int (nI fd)) hx hb hown hq hE hP 44 413 tFX12_44 (by decide) pw_1727 rfl dX12_thirdRound_14 ?_
            refine lv_icmp_ge (tgt := 71) hx hb dX12_thirdRound_17 (by decide) (fun c261 => ?_) (fun c261 => ?_)
            · have n262 : fd ≤ o2 := (nI_leI (a := fd) (b := o2) (by omega) (by omega)).mp c261
              refine lv_iinc (v := (nI (f2 + 1))) (lv' := [(1, .int (nI (f2 + 1))), (2, .int (nI o2)), (0, .ref h0)]) hx hb dX12_thirdRound_71 hl (k := 1) rfl (nI_1 f2) (by decide) rfl (fun ls hl => ?_)
              refine lv_goto (tgt := 2) hx hb dX12_thirdRound_74 (by decide) ?_
              have hP : va_P G.1 pCl (mW G h0 a (upd (upd (upd (upd (upd (upd F 9 (nI T)) 35 (nI dc)) 44 (nI fd)) 49 (nI md)) 69 ra2) 70 (nI rw2)) B) _ := hP
              have hD : va_D A (mW G h0 a (upd (upd (upd (upd (upd (upd F 9 (nI T)) 35 (nI dc)) 44 (nI fd)) 49 (nI md)) 69 ra2) 70 (nI rw2)) B) := mW_D hD
              exact ih_f (f2 + 1) rw2 ra2 _ _ _ (by omega) (by omega) (by omega) (by omega) hP hD hS (lv_sub hl [0, 2] rfl)
            · have n263 : ¬ (fd ≤ o2) := fun h9 => c261 ((nI_leI (a := fd) (b := o2) (by omega) (by omega)).mpr h9)
              refine lv_aload_n hx hb dX12_thirdRound_20 rfl (lv_at hl 2 rfl) ?_
              refine r_get (v := .ref (a 33)) hx hb hown hq hE hP 46 111 tFX12_46 (by decide) pw_1464 rfl dX12_thirdRound_21 ?_
              refine lv_iload_n hx hb dX12_thirdRound_24 rfl (lv_at hl 0 rfl) ?_
              refine r_ldi (f := (B 33)) (j := o2) hx hb hE hP 33 (ma_33 G a _) rfl (by omega) (by decide) dX12_thirdRound_25 ?_
              refine lv_aload_n hx hb dX12_thirdRound_26 rfl (lv_at hl 2 rfl) ?_
              refine r_get (v := .ref (a 33)) hx hb hown hq hE hP 46 111 tFX12_46 (by decide) pw_1464 rfl dX12_thirdRound_27 ?_
              refine lv_iload_n hx hb dX12_thirdRound_30 rfl (lv_at hl 1 rfl) ?_
              refine r_ldi (f := (B 33)) (j := f2) hx hb hE hP 33 (ma_33 G a _) rfl (by omega) (by decide) dX12_thirdRound_31 ?_
              refine lv_icmp_ne (tgt := 65) hx hb dX12_thirdRound_32 (by decide) (fun c264 => ?_) (fun c264 => ?_)
              · refine lv_iinc (v := (nI (o2 + 1))) (lv' := [(2, .int (nI (o2 + 1))), (1, .int (nI f2)), (0, .ref h0)]) hx hb dX12_thirdRound_65 hl (k := 0) rfl (nI_1 o2) (by decide) rfl (fun ls hl => ?_)
                refine lv_goto (tgt := 12) hx hb dX12_thirdRound_68 (by decide) ?_
                have hP : va_P G.1 pCl (mW G h0 a (upd (upd (upd (upd (upd (upd F 9 (nI T)) 35 (nI dc)) 44 (nI fd)) 49 (nI md)) 69 ra2) 70 (nI rw2)) B) _ := hP
                have hD : va_D A (mW G h0 a (upd (upd (upd (upd (upd (upd F 9 (nI T)) 35 (nI dc)) 44 (nI fd)) 49 (nI md)) 69 ra2) 70 (nI rw2)) B) := mW_D hD
                exact ih_g (o2 + 1) rw2 ra2 _ _ _ (by omega) (by omega) (by omega) (by omega) (by omega) hP hD hS (lv_sub hl [0, 1, 2] rfl)
              · refine lv_aload_n hx hb dX12_thirdRound_35 rfl (lv_at hl 2 rfl) ?_
                refine lv_aload_n hx hb dX12_thirdRound_36 rfl (lv_at hl 2 rfl) ?_
                refine r_get (v := .ref (a 32)) hx hb hown hq hE hP 45 108 tFX12_45 (by decide) pw_1463 rfl dX12_thirdRound_37 ?_
                refine lv_iload_n hx hb dX12_thirdRound_40 rfl (lv_at hl 0 rfl) ?_
                refine r_ldi (f := (B 32)) (j := o2) hx hb hE hP 32 (ma_32 G a _) rfl (by omega) (by decide) dX12_thirdRound_41 ?_
                obtain ⟨⟨d265, e266, h267, h268⟩, -⟩ := hps.2.1 o2 (by omega)
                refine lv_topi (fun x269 e270 => ?_)
                obtain rfl : x269 = nI d265 := e270.trans e266
                refine lv_aload_n hx hb dX12_thirdRound_42 rfl (lv_at hl 2 rfl) ?_
                refine r_get (v := .ref (a 32)) hx hb hown hq hE hP 45 108 tFX12_45 (by decide) pw_1463 rfl dX12_thirdRound_43 ?_
                refine lv_iload_n hx hb dX12_thirdRound_46 rfl (lv_at hl 1 rfl) ?_
                refine r_ldi (f := (B 32)) (j := f2) hx hb hE hP 32 (ma_32 G a _) rfl (by omega) (by decide) dX12_thirdRound_47 ?_
                obtain ⟨⟨d271, e272, h273, h274⟩, -⟩ := hps.2.1 f2 (by omega)
                refine lv_topi (fun x275 e276 => ?_)
                obtain rfl : x275 = nI d271 := e276.trans e272
                have hP : va_P G.1 pCl (mW G h0 a (upd (upd (upd (upd (upd (upd F 9 (nI T)) 35 (nI dc)) 44 (nI fd)) 49 (nI md)) 69 ra2) 70 (nI rw2)) (updA B 31 (B 31))) _ := mW_to (F := F) (l1 := [(9, (nI T)), (35, (nI dc)), (44, (nI fd)), (49, (nI md)), (69, ra2), (70, (nI rw2))]) (l2 := [(9, (nI T)), (35, (nI dc)), (44, (nI fd)), (49, (nI md)), (69, ra2), (70, (nI rw2))]) (V := [(nI T), (nI dc), (nI fd), (nI md), ra2, (nI rw2), (nI T), (nI dc), (nI fd), (nI md), ra2, (nI rw2)]) rfl rfl (show B = (updA B 31 (B 31)) from updsA_eq2 (F := B) (l1 := []) (l2 := [(31, (B 31))]) (V := [(B 31)]) rfl rfl) hP
                have hD : va_D A (mW G h0 a (upd (upd (upd (upd (upd (upd F 9 (nI T)) 35 (nI dc)) 44 (nI fd)) 49 (nI md)) 69 ra2) 70 (nI rw2)) (updA B 31 (B 31))) := mW_D hD
                refine pc_V0 (G := G) (As := [.int (nI d265), .int (nI d271)]) (rest := []) hx hb hml hown hq hE hX pX0_al hP hD hS hA hl.1 (R_isAbove l G h0 a (upd (upd (upd (upd (upd (upd F 9 (nI T)) 35 (nI dc)) 44 (nI fd)) 49 (nI md)) 69 ra2) 70 (nI rw2)) B d265 d271 (B 31) (by omega) hbi) (gV pw_1772 pw_1773 pw_1774 pw_1523 pw_1760) hV_X12_isAbove 0 9 rfl rfl rfl rfl (Nat.le_of_ble_eq_true rfl) dX12_thirdRound_48 ⟨Nat.le_of_ble_eq_true rfl, Nat.le_of_ble_eq_true rfl⟩ ⟨Nat.le_of_ble_eq_true rfl, Nat.le_of_ble_eq_true rfl⟩ (fun v279 u277 H locs hw278 hP hD hS => ?_)
                obtain rfl : v279 = some (.int ((B 31) (40 * d265 + d271))) := hw278
                have hP : va_P G.1 pCl (mW G h0 a (upd (upd (upd (upd (upd (upd F 9 (nI T)) 35 (nI dc)) 44 (nI fd)) 49 (nI md)) 69 ra2) 70 (nI rw2)) B) _ := mW_to (F := F) (l1 := [(9, (nI T)), (35, (nI dc)), (44, (nI fd)), (49, (nI md)), (69, ra2), (70, (nI rw2))]) (l2 := [(9, (nI T)), (35, (nI dc)), (44, (nI fd)), (49, (nI md)), (69, ra2), (70, (nI rw2))]) (V := [(nI T), (nI dc), (nI fd), (nI md), ra2, (nI rw2), (nI T), (nI dc), (nI fd), (nI md), ra2, (nI rw2)]) rfl rfl (show (updA B 31 (B 31)) = B from updsA_eq2 (F := B) (l1 := [(31, (B 31))]) (l2 := []) (V := [(B 31)]) rfl rfl) hP
                have hD : va_D A (mW G h0 a (upd (upd (upd (upd (upd (upd F 9 (nI T)) 35 (nI dc)) 44 (nI fd)) 49 (nI md)) 69 ra2) 70 (nI rw2)) B) := mW_D hD
                refine W.widen (k := 0) (n := 0) (Nat.le_of_ble_eq_true rfl) (Nat.le_of_ble_eq_true rfl) ?_
                refine W.eq (g2 := F0 m 51 ls [.int ((B 31) (40 * d265 + d271))]) rfl ?_
                refine lv_if_eq (tgt := 65) hx hb dX12_thirdRound_51 (by decide) (fun c280 => ?_) (fun c280 => ?_)
                · refine lv_iinc (v := (nI (o2 + 1))) (lv' := [(2, .int (nI (o2 + 1))), (1, .int (nI f2)), (0, .ref h0)]) hx hb dX12_thirdRound_65 hl (k := 0) rfl (nI_1 o2) (by decide) rfl (fun ls hl => ?_)
                  refine lv_goto (tgt := 12) hx hb dX12_thirdRound_68 (by decide) ?_
                  have hP : va_P G.1 pCl (mW G h0 a (upd (upd (upd (upd (upd (upd F 9 (nI T)) 35 (nI dc)) 44 (nI fd)) 49 (nI md)) 69 ra2) 70 (nI rw2)) B) _ := hP
                  have hD : va_D A (mW G h0 a (upd (upd (upd (upd (upd (upd F 9 (nI T)) 35 (nI dc)) 44 (nI fd)) 49 (nI md)) 69 ra2) 70 (nI rw2)) B) := mW_D hD
                  exact ih_g (o2 + 1) rw2 ra2 _ _ _ (by omega) (by omega) (by omega) (by omega) (by omega) hP hD hS (lv_sub hl [0, 1, 2] rfl)
                · refine lv_aload_n hx hb dX12_thirdRound_54 rfl (lv_at hl 2 rfl) ?_
                  refine lv_iconst (v := 3) hx hb dX12_thirdRound_55 (by decide) ?_
                  refine lv_aload_n hx hb dX12_thirdRound_56 rfl (lv_at hl 2 rfl) ?_
                  refine r_get (v := .ref (a 34)) hx hb hown hq hE hP 47 114 tFX12_47 (by decide) pw_1465 rfl dX12_thirdRound_57 ?_
                  refine lv_iload_n hx hb dX12_thirdRound_60 rfl (lv_at hl 1 rfl) ?_
                  refine r_ldi (f := (B 34)) (j := f2) hx hb hE hP 34 (ma_34 G a _) rfl (by omega) (by decide) dX12_thirdRound_61 ?_
                  obtain ⟨t281, e283, h282⟩ := (hps.2.1 f2 (by omega)).2.1
                  refine lv_topi (fun x284 e285 => ?_)
                  obtain rfl : x284 = nI t281 := e285.trans e283
                  have hP : va_P G.1 pCl (mW G h0 a (upd (upd (upd (upd (upd (upd (upd (upd F 9 (nI T)) 35 (nI dc)) 44 (nI fd)) 49 (nI md)) 69 ra2) 70 (nI rw2)) 69 ra2) 70 (nI rw2)) B) _ := mW_to (F := F) (l1 := [(9, (nI T)), (35, (nI dc)), (44, (nI fd)), (49, (nI md)), (69, ra2), (70, (nI rw2))]) (l2 := [(9, (nI T)), (35, (nI dc)), (44, (nI fd)), (49, (nI md)), (69, ra2), (70, (nI rw2)), (69, ra2), (70, (nI rw2))]) (V := [(nI T), (nI dc), (nI fd), (nI md), ra2, (nI rw2), (nI T), (nI dc), (nI fd), (nI md), ra2, (nI rw2), ra2, (nI rw2)]) rfl rfl rfl hP
                  have hD : va_D A (mW G h0 a (upd (upd (upd (upd (upd (upd (upd (upd F 9 (nI T)) 35 (nI dc)) 44 (nI fd)) 49 (nI md)) 69 ra2) 70 (nI rw2)) 69 ra2) 70 (nI rw2)) B) := mW_D hD
                  refine pc_V0 (G := G) (As := [.int (nI 3), .int (nI t281)]) (rest := []) hx hb hml hown hq hE hX pX0_al hP hD hS hA hl.1 (R_note l G h0 a (upd (upd (upd (upd (upd (upd F 9 (nI T)) 35 (nI dc)) 44 (nI fd)) 49 (nI md)) 69 ra2) 70 (nI rw2)) B 3 t281 rw2 ra2 (by omega) (by omega) (by omega)) (gV pw_1749 pw_1750 pw_1751 pw_1523 pw_1740) hV_X12_note 0 9 rfl rfl rfl rfl (Nat.le_of_ble_eq_true rfl) dX12_thirdRound_62 ⟨Nat.le_of_ble_eq_true rfl, Nat.le_of_ble_eq_true rfl⟩ ⟨Nat.le_of_ble_eq_true rfl, Nat.le_of_ble_eq_true rfl⟩ (fun v288 u286 H locs hw287 hP hD hS => ?_)
                  obtain ⟨rw289, ra290⟩ := u286
                  obtain ⟨hw287, h291, h292⟩ := hw287
                  replace h291 : 0 < rw289 := h291
                  replace h292 : rw289 ≤ 15 := h292
                  obtain rfl : v288 = none := hw287
                  have hP : va_P G.1 pCl (mW G h0 a (upd (upd (upd (upd (upd (upd F 9 (nI T)) 35 (nI dc)) 44 (nI fd)) 49 (nI md)) 69 ra290) 70 (nI rw289)) B) _ := mW_to (F := F) (l1 := [(9, (nI T)), (35, (nI dc)), (44, (nI fd)), (49, (nI md)), (69, ra2), (70, (nI rw2)), (69, ra290), (70, (nI rw289))]) (l2 := [(9, (nI T)), (35, (nI dc)), (44, (nI fd)), (49, (nI md)), (69, ra290), (70, (nI rw289))]) (V := [(nI T), (nI dc), (nI fd), (nI md), ra290, (nI rw289), ra290, (nI rw289), (nI T), (nI dc), (nI fd), (nI md), ra290, (nI rw289)]) rfl rfl rfl hP
                  have hD : va_D A (mW G h0 a (upd (upd (upd (upd (upd (upd F 9 (nI T)) 35 (nI dc)) 44 (nI fd)) 49 (nI md)) 69 ra290) 70 (nI rw289)) B) := mW_D hD
                  refine W.widen (k := 0) (n := 0) (Nat.le_of_ble_eq_true rfl) (Nat.le_of_ble_eq_true rfl) ?_
                  refine W.eq (g2 := F0 m 65 ls []) rfl ?_
                  refine lv_iinc (v := (nI (o2 + 1))) (lv' := [(2, .int (nI (o2 + 1))), (1, .int (nI f2)), (0, .ref h0)]) hx hb dX12_thirdRound_65 hl (k := 0) rfl (nI_1 o2) (by decide) rfl (fun ls hl => ?_)
                  refine lv_goto (tgt := 12) hx hb dX12_thirdRound_68 (by decide) ?_
                  have hP : va_P G.1 pCl (mW G h0 a (upd (upd (upd (upd (upd (upd F 9 (nI T)) 35 (nI dc)) 44 (nI fd)) 49 (nI md)) 69 ra290) 70 (nI rw289)) B) _ := hP
                  have hD : va_D A (mW G h0 a (upd (upd (upd (upd (upd (upd F 9 (nI T)) 35 (nI dc)) 44 (nI fd)) 49 (nI md)) 69 ra290) 70 (nI rw289)) B) := mW_D hD
                  exact ih_g (o2 + 1) rw289 ra290 _ _ _ (by omega) (by omega) (by omega) (by omega) (by omega) hP hD hS (lv_sub hl [0, 1, 2] rfl)
        have hP : va_P G.1 pCl (mW G h0 a (upd (upd (upd (upd (upd (upd F 9 (nI T)) 35 (nI dc)) 44 (nI fd)) 49 (nI md)) 69 ra2) 70 (nI rw2)) B) _ := hP
        have hD : va_D A (mW G h0 a (upd (upd (upd (upd (upd (upd F 9 (nI T)) 35 (nI dc)) 44 (nI fd)) 49 (nI md)) 69 ra2) 70 (nI rw2)) B) := mW_D hD
        exact loop_g (fd + 1) 0 rw2 ra2 _ _ _ (by omega) (by omega) (by omega) (by omega) (by omega) hP hD hS (lv_sub hl [0, 1, 2] rfl)
  have hP : va_P G.1 pCl (mW G h0 a (upd (upd (upd (upd (upd (upd F 9 (nI T)) 35 (nI dc)) 44 (nI fd)) 49 (nI md)) 69 ra) 70 (nI rw)) B) _ := hP
  have hD : va_D A (mW G h0 a (upd (upd (upd (upd (upd (upd F 9 (nI T)) 35 (nI dc)) 44 (nI fd)) 49 (nI md)) 69 ra) 70 (nI rw)) B) := mW_D hD
  exact loop_f (fd + 1) 0 rw ra _ _ _ (by omega) (by omega) (by omega) (by omega) hP hD hS (lv_sub hl [0, 1] rfl)

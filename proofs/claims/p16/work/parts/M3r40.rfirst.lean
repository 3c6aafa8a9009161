theorem FrM.tok11 {K : Nat → Int32} {T wr nd md n : Nat} {X : Nat → Nat → Int32} (h : FrM K T wr X nd md) (hn : n < nd) : ∃ t : Nat, X 11 n = nI t ∧ t ≤ T := by
  obtain ⟨gh, a, _⟩ := h
  obtain ⟨_, ⟨t, b, c, _⟩, _⟩ := a n (Nat.zero_le _) hn
  exact ⟨t, b, c⟩
theorem FrM.tokA {K : Nat → Int32} {T wr nd md n : Nat} {X : Nat → Nat → Int32} (h : FrM K T wr X nd md) (hn : n < nd) (hh : nd ≤ 20000) (e : X 9 n = 44) : ∃ t : Nat, X 12 n = nI t ∧ t ≤ T := by
  obtain ⟨gh, a, _⟩ := h
  obtain ⟨_, _, _, _, k, b1, b2, b3, b4⟩ := a n (Nat.zero_le _) hn
  have ek : k = 44 := (nI_eq (by omega) (by omega)).mp (b1.symm.trans e)
  subst ek
  rcases (b4 1 (by omega) (by omega)).2.1 (by decide) with z | z
  · exact absurd z.2 (by omega)
  · exact z
/-- codes of types -/
def baN (dc x : Nat) : Prop := x = 1 ∨ x = 2 ∨ (10 ≤ x ∧ x < 10 + dc)
def tyOK (dc : Nat) (c : Int32) : Prop := ∃ x : Nat, c = nI x ∧ (baN dc x ∨ (1000 ≤ x ∧ baN dc (x - 1000)))
theorem tyOK.base {dc x : Nat} {c : Int32} (e : c = nI x) (h : baN dc x) : tyOK dc c := ⟨x, e, Or.inl h⟩
theorem tyOK.row {dc x : Nat} {c : Int32} (e : c = nI x) (h : baN dc x) : tyOK dc (1000 + c) := ⟨1000 + x, by rw [e]; exact nI_add 1000 x, Or.inr ⟨by omega, by rw [Nat.add_sub_cancel_left]; exact h⟩⟩
theorem baN.cls {dc d : Nat} (h : d < dc) : baN dc (10 + d) := Or.inr (Or.inr ⟨by omega, by omega⟩)
theorem ten_of {f : Nat → Int32} {x : Int32} {dc : Nat} (h : ¬ dOf f x dc 0 = -1) : ∃ d : Nat, d < dc ∧ 10 + dOf f x dc 0 = nI (10 + d) ∧ dOf f x dc 0 = nI d := by
  obtain ⟨d, a, _, b, _⟩ := (dOf_or dc 0).resolve_left h
  exact ⟨d, by omega, by rw [a]; exact nI_add 10 d, a⟩
/-- a node that names a class -/
def nwOK (k : Int32) (dI : Nat → Int32) (dc : Nat) (v : Int32) : Prop := (k = 9 ∨ k = 44) → ∃ d : Nat, v = nI d ∧ d < dc ∧ dI d = 0
def CnD (B : Nat → Nat → Int32) (dc lz T d : Nat) : Prop := ChnA (B 24) (B 5) (B 22) (B 23) (B 26) dc lz T (B 26 d) (B 27 d) ∧ ChnA (B 24) (B 5) (B 22) (B 23) (B 26) dc lz T 1 (B 28 d)
theorem all_up {p : Nat → Prop} {k : Nat} (h : ∀ i : Nat, i < k → p i) (g : p k) : ∀ i : Nat, i < k + 1 → p i := fun i hi => by
  by_cases e : i = k
  · rw [e]; exact g
  · exact h i (by omega)
theorem ChnA.nil {f V lt ln dI : Nat → Int32} {dc lz T : Nat} {b : Int32} : ChnA f V lt ln dI dc lz T b (-1) := fun i => Or.inl (itr_m1 (k := 0) rfl i (Nat.zero_le _))
theorem dX12_firstRound_0 : decode cX12_firstRound 0 = .ok (.bipush 7, 2) := by decide +kernel
theorem dX12_firstRound_2 : decode cX12_firstRound 2 = .ok (.istore_n 1, 1) := by decide +kernel
theorem dX12_firstRound_3 : decode cX12_firstRound 3 = .ok (.iload_n 1, 1) := by decide +kernel
theorem dX12_firstRound_4 : decode cX12_firstRound 4 = .ok (.aload_n 0, 1) := by decide +kernel
theorem dX12_firstRound_5 : decode cX12_firstRound 5 = .ok (.getfield 384, 3) := by decide +kernel
theorem dX12_firstRound_8 : decode cX12_firstRound 8 = .ok (.if_icmp .ge 61, 3) := by decide +kernel
theorem dX12_firstRound_69 : decode cX12_firstRound 69 = .ok (.iconst 0, 1) := by decide +kernel
theorem dX12_firstRound_70 : decode cX12_firstRound 70 = .ok (.istore_n 1, 1) := by decide +kernel
theorem dX12_firstRound_71 : decode cX12_firstRound 71 = .ok (.iload_n 1, 1) := by decide +kernel
theorem dX12_firstRound_72 : decode cX12_firstRound 72 = .ok (.aload_n 0, 1) := by decide +kernel
theorem dX12_firstRound_73 : decode cX12_firstRound 73 = .ok (.getfield 413, 3) := by decide +kernel
theorem dX12_firstRound_76 : decode cX12_firstRound 76 = .ok (.if_icmp .ge 63, 3) := by decide +kernel
theorem dX12_firstRound_139 : decode cX12_firstRound 139 = .ok (.iconst 0, 1) := by decide +kernel
theorem dX12_firstRound_140 : decode cX12_firstRound 140 = .ok (.istore_n 1, 1) := by decide +kernel
theorem dX12_firstRound_141 : decode cX12_firstRound 141 = .ok (.iload_n 1, 1) := by decide +kernel
theorem dX12_firstRound_142 : decode cX12_firstRound 142 = .ok (.aload_n 0, 1) := by decide +kernel
theorem dX12_firstRound_143 : decode cX12_firstRound 143 = .ok (.getfield 416, 3) := by decide +kernel
theorem dX12_firstRound_146 : decode cX12_firstRound 146 = .ok (.if_icmp .ge 63, 3) := by decide +kernel
theorem dX12_firstRound_209 : decode cX12_firstRound 209 = .ok (.iconst 0, 1) := by decide +kernel
theorem dX12_firstRound_210 : decode cX12_firstRound 210 = .ok (.istore_n 1, 1) := by decide +kernel
theorem dX12_firstRound_211 : decode cX12_firstRound 211 = .ok (.iload_n 1, 1) := by decide +kernel
theorem dX12_firstRound_212 : decode cX12_firstRound 212 = .ok (.aload_n 0, 1) := by decide +kernel
theorem dX12_firstRound_213 : decode cX12_firstRound 213 = .ok (.getfield 399, 3) := by decide +kernel
theorem dX12_firstRound_216 : decode cX12_firstRound 216 = .ok (.if_icmp .ge 81, 3) := by decide +kernel
theorem dX12_firstRound_297 : decode cX12_firstRound 297 = .ok (.iconst 0, 1) := by decide +kernel
theorem dX12_firstRound_298 : decode cX12_firstRound 298 = .ok (.istore_n 1, 1) := by decide +kernel
theorem dX12_firstRound_299 : decode cX12_firstRound 299 = .ok (.iload_n 1, 1) := by decide +kernel
theorem dX12_firstRound_300 : decode cX12_firstRound 300 = .ok (.aload_n 0, 1) := by decide +kernel
theorem dX12_firstRound_301 : decode cX12_firstRound 301 = .ok (.getfield 340, 3) := by decide +kernel
theorem dX12_firstRound_304 : decode cX12_firstRound 304 = .ok (.if_icmp .ge 91, 3) := by decide +kernel
theorem dX12_firstRound_395 : decode cX12_firstRound 395 = .ok (.return_, 1) := by decide +kernel
theorem dX12_firstRound_307 : decode cX12_firstRound 307 = .ok (.aload_n 0, 1) := by decide +kernel
theorem dX12_firstRound_308 : decode cX12_firstRound 308 = .ok (.getfield 38, 3) := by decide +kernel
theorem dX12_firstRound_311 : decode cX12_firstRound 311 = .ok (.iload_n 1, 1) := by decide +kernel
theorem dX12_firstRound_312 : decode cX12_firstRound 312 = .ok (.iaload, 1) := by decide +kernel
theorem dX12_firstRound_313 : decode cX12_firstRound 313 = .ok (.bipush 9, 2) := by decide +kernel
theorem dX12_firstRound_315 : decode cX12_firstRound 315 = .ok (.if_icmp .eq 14, 3) := by decide +kernel
theorem dX12_firstRound_329 : decode cX12_firstRound 329 = .ok (.aload_n 0, 1) := by decide +kernel
theorem dX12_firstRound_330 : decode cX12_firstRound 330 = .ok (.getfield 38, 3) := by decide +kernel
theorem dX12_firstRound_333 : decode cX12_firstRound 333 = .ok (.iload_n 1, 1) := by decide +kernel
theorem dX12_firstRound_334 : decode cX12_firstRound 334 = .ok (.iaload, 1) := by decide +kernel
theorem dX12_firstRound_335 : decode cX12_firstRound 335 = .ok (.bipush 9, 2) := by decide +kernel
theorem dX12_firstRound_337 : decode cX12_firstRound 337 = .ok (.if_icmp .ne 12, 3) := by decide +kernel
theorem dX12_firstRound_340 : decode cX12_firstRound 340 = .ok (.aload_n 0, 1) := by decide +kernel
theorem dX12_firstRound_341 : decode cX12_firstRound 341 = .ok (.getfield 44, 3) := by decide +kernel
theorem dX12_firstRound_344 : decode cX12_firstRound 344 = .ok (.iload_n 1, 1) := by decide +kernel
theorem dX12_firstRound_345 : decode cX12_firstRound 345 = .ok (.iaload, 1) := by decide +kernel
theorem dX12_firstRound_346 : decode cX12_firstRound 346 = .ok (.goto 9, 3) := by decide +kernel
theorem dX12_firstRound_355 : decode cX12_firstRound 355 = .ok (.istore_n 2, 1) := by decide +kernel
theorem dX12_firstRound_356 : decode cX12_firstRound 356 = .ok (.aload_n 0, 1) := by decide +kernel
theorem dX12_firstRound_357 : decode cX12_firstRound 357 = .ok (.iload_n 2, 1) := by decide +kernel
theorem dX12_firstRound_358 : decode cX12_firstRound 358 = .ok (.invokevirtual 505, 3) := by decide +kernel
theorem dX12_firstRound_361 : decode cX12_firstRound 361 = .ok (.istore_n 3, 1) := by decide +kernel
theorem dX12_firstRound_362 : decode cX12_firstRound 362 = .ok (.aload_n 0, 1) := by decide +kernel
theorem dX12_firstRound_363 : decode cX12_firstRound 363 = .ok (.getfield 65, 3) := by decide +kernel
theorem dX12_firstRound_366 : decode cX12_firstRound 366 = .ok (.iload_n 1, 1) := by decide +kernel
theorem dX12_firstRound_367 : decode cX12_firstRound 367 = .ok (.iload_n 3, 1) := by decide +kernel
theorem dX12_firstRound_368 : decode cX12_firstRound 368 = .ok (.iastore, 1) := by decide +kernel
theorem dX12_firstRound_369 : decode cX12_firstRound 369 = .ok (.iload_n 3, 1) := by decide +kernel
theorem dX12_firstRound_370 : decode cX12_firstRound 370 = .ok (.iconst (-1), 1) := by decide +kernel
theorem dX12_firstRound_371 : decode cX12_firstRound 371 = .ok (.if_icmp .eq 18, 3) := by decide +kernel
theorem dX12_firstRound_389 : decode cX12_firstRound 389 = .ok (.iinc 1 1, 3) := by decide +kernel
theorem dX12_firstRound_392 : decode cX12_firstRound 392 = .ok (.goto (-93), 3) := by decide +kernel
theorem dX12_firstRound_374 : decode cX12_firstRound 374 = .ok (.aload_n 0, 1) := by decide +kernel
theorem dX12_firstRound_375 : decode cX12_firstRound 375 = .ok (.getfield 90, 3) := by decide +kernel
theorem dX12_firstRound_378 : decode cX12_firstRound 378 = .ok (.iload_n 3, 1) := by decide +kernel
theorem dX12_firstRound_379 : decode cX12_firstRound 379 = .ok (.baload, 1) := by decide +kernel
theorem dX12_firstRound_380 : decode cX12_firstRound 380 = .ok (.ifCond .eq 9, 3) := by decide +kernel
theorem dX12_firstRound_383 : decode cX12_firstRound 383 = .ok (.aload_n 0, 1) := by decide +kernel
theorem dX12_firstRound_384 : decode cX12_firstRound 384 = .ok (.iconst 5, 1) := by decide +kernel
theorem dX12_firstRound_385 : decode cX12_firstRound 385 = .ok (.iload_n 2, 1) := by decide +kernel
theorem dX12_firstRound_386 : decode cX12_firstRound 386 = .ok (.invokevirtual 502, 3) := by decide +kernel
theorem dX12_firstRound_318 : decode cX12_firstRound 318 = .ok (.aload_n 0, 1) := by decide +kernel
theorem dX12_firstRound_319 : decode cX12_firstRound 319 = .ok (.getfield 38, 3) := by decide +kernel
theorem dX12_firstRound_322 : decode cX12_firstRound 322 = .ok (.iload_n 1, 1) := by decide +kernel
theorem dX12_firstRound_323 : decode cX12_firstRound 323 = .ok (.iaload, 1) := by decide +kernel
theorem dX12_firstRound_324 : decode cX12_firstRound 324 = .ok (.bipush 44, 2) := by decide +kernel
theorem dX12_firstRound_326 : decode cX12_firstRound 326 = .ok (.if_icmp .ne 63, 3) := by decide +kernel
theorem dX12_firstRound_349 : decode cX12_firstRound 349 = .ok (.aload_n 0, 1) := by decide +kernel
theorem dX12_firstRound_350 : decode cX12_firstRound 350 = .ok (.getfield 47, 3) := by decide +kernel
theorem dX12_firstRound_353 : decode cX12_firstRound 353 = .ok (.iload_n 1, 1) := by decide +kernel
theorem dX12_firstRound_354 : decode cX12_firstRound 354 = .ok (.iaload, 1) := by decide +kernel
theorem dX12_firstRound_219 : decode cX12_firstRound 219 = .ok (.aload_n 0, 1) := by decide +kernel
theorem dX12_firstRound_220 : decode cX12_firstRound 220 = .ok (.getfield 16, 3) := by decide +kernel
theorem dX12_firstRound_223 : decode cX12_firstRound 223 = .ok (.aload_n 0, 1) := by decide +kernel
theorem dX12_firstRound_224 : decode cX12_firstRound 224 = .ok (.getfield 68, 3) := by decide +kernel
theorem dX12_firstRound_227 : decode cX12_firstRound 227 = .ok (.iload_n 1, 1) := by decide +kernel
theorem dX12_firstRound_228 : decode cX12_firstRound 228 = .ok (.iaload, 1) := by decide +kernel
theorem dX12_firstRound_229 : decode cX12_firstRound 229 = .ok (.iaload, 1) := by decide +kernel
theorem dX12_firstRound_230 : decode cX12_firstRound 230 = .ok (.istore_n 2, 1) := by decide +kernel
theorem dX12_firstRound_231 : decode cX12_firstRound 231 = .ok (.iload_n 2, 1) := by decide +kernel
theorem dX12_firstRound_232 : decode cX12_firstRound 232 = .ok (.sipush 323, 3) := by decide +kernel
theorem dX12_firstRound_235 : decode cX12_firstRound 235 = .ok (.if_icmp .ne 7, 3) := by decide +kernel
theorem dX12_firstRound_242 : decode cX12_firstRound 242 = .ok (.iload_n 2, 1) := by decide +kernel
theorem dX12_firstRound_243 : decode cX12_firstRound 243 = .ok (.sipush 311, 3) := by decide +kernel
theorem dX12_firstRound_246 : decode cX12_firstRound 246 = .ok (.if_icmp .ne 7, 3) := by decide +kernel
theorem dX12_firstRound_253 : decode cX12_firstRound 253 = .ok (.bipush 10, 2) := by decide +kernel
theorem dX12_firstRound_255 : decode cX12_firstRound 255 = .ok (.aload_n 0, 1) := by decide +kernel
theorem dX12_firstRound_256 : decode cX12_firstRound 256 = .ok (.aload_n 0, 1) := by decide +kernel
theorem dX12_firstRound_257 : decode cX12_firstRound 257 = .ok (.getfield 68, 3) := by decide +kernel
theorem dX12_firstRound_260 : decode cX12_firstRound 260 = .ok (.iload_n 1, 1) := by decide +kernel
theorem dX12_firstRound_261 : decode cX12_firstRound 261 = .ok (.iaload, 1) := by decide +kernel
theorem dX12_firstRound_262 : decode cX12_firstRound 262 = .ok (.invokevirtual 505, 3) := by decide +kernel
theorem dX12_firstRound_265 : decode cX12_firstRound 265 = .ok (.iadd, 1) := by decide +kernel
theorem dX12_firstRound_266 : decode cX12_firstRound 266 = .ok (.istore_n 3, 1) := by decide +kernel
theorem dX12_firstRound_267 : decode cX12_firstRound 267 = .ok (.aload_n 0, 1) := by decide +kernel
theorem dX12_firstRound_268 : decode cX12_firstRound 268 = .ok (.getfield 75, 3) := by decide +kernel
theorem dX12_firstRound_271 : decode cX12_firstRound 271 = .ok (.iload_n 1, 1) := by decide +kernel
theorem dX12_firstRound_272 : decode cX12_firstRound 272 = .ok (.aload_n 0, 1) := by decide +kernel
theorem dX12_firstRound_273 : decode cX12_firstRound 273 = .ok (.getfield 71, 3) := by decide +kernel
theorem dX12_firstRound_276 : decode cX12_firstRound 276 = .ok (.iload_n 1, 1) := by decide +kernel
theorem dX12_firstRound_277 : decode cX12_firstRound 277 = .ok (.baload, 1) := by decide +kernel
theorem dX12_firstRound_278 : decode cX12_firstRound 278 = .ok (.ifCond .eq 11, 3) := by decide +kernel
theorem dX12_firstRound_289 : decode cX12_firstRound 289 = .ok (.iload_n 3, 1) := by decide +kernel
theorem dX12_firstRound_290 : decode cX12_firstRound 290 = .ok (.iastore, 1) := by decide +kernel
theorem dX12_firstRound_291 : decode cX12_firstRound 291 = .ok (.iinc 1 1, 3) := by decide +kernel
theorem dX12_firstRound_294 : decode cX12_firstRound 294 = .ok (.goto (-83), 3) := by decide +kernel
theorem dX12_firstRound_281 : decode cX12_firstRound 281 = .ok (.sipush 1000, 3) := by decide +kernel
theorem dX12_firstRound_284 : decode cX12_firstRound 284 = .ok (.iload_n 3, 1) := by decide +kernel
theorem dX12_firstRound_285 : decode cX12_firstRound 285 = .ok (.iadd, 1) := by decide +kernel
theorem dX12_firstRound_286 : decode cX12_firstRound 286 = .ok (.goto 4, 3) := by decide +kernel
theorem dX12_firstRound_249 : decode cX12_firstRound 249 = .ok (.iconst 2, 1) := by decide +kernel
theorem dX12_firstRound_250 : decode cX12_firstRound 250 = .ok (.goto 16, 3) := by decide +kernel
theorem dX12_firstRound_238 : decode cX12_firstRound 238 = .ok (.iconst 1, 1) := by decide +kernel
theorem dX12_firstRound_239 : decode cX12_firstRound 239 = .ok (.goto 27, 3) := by decide +kernel
theorem dX12_firstRound_149 : decode cX12_firstRound 149 = .ok (.iconst 0, 1) := by decide +kernel
theorem dX12_firstRound_150 : decode cX12_firstRound 150 = .ok (.istore_n 2, 1) := by decide +kernel
theorem dX12_firstRound_151 : decode cX12_firstRound 151 = .ok (.iload_n 2, 1) := by decide +kernel
theorem dX12_firstRound_152 : decode cX12_firstRound 152 = .ok (.iload_n 1, 1) := by decide +kernel
theorem dX12_firstRound_153 : decode cX12_firstRound 153 = .ok (.if_icmp .ge 50, 3) := by decide +kernel
theorem dX12_firstRound_203 : decode cX12_firstRound 203 = .ok (.iinc 1 1, 3) := by decide +kernel
theorem dX12_firstRound_206 : decode cX12_firstRound 206 = .ok (.goto (-65), 3) := by decide +kernel
theorem dX12_firstRound_156 : decode cX12_firstRound 156 = .ok (.aload_n 0, 1) := by decide +kernel
theorem dX12_firstRound_157 : decode cX12_firstRound 157 = .ok (.getfield 120, 3) := by decide +kernel
theorem dX12_firstRound_160 : decode cX12_firstRound 160 = .ok (.iload_n 2, 1) := by decide +kernel
theorem dX12_firstRound_161 : decode cX12_firstRound 161 = .ok (.iaload, 1) := by decide +kernel
theorem dX12_firstRound_162 : decode cX12_firstRound 162 = .ok (.aload_n 0, 1) := by decide +kernel
theorem dX12_firstRound_163 : decode cX12_firstRound 163 = .ok (.getfield 120, 3) := by decide +kernel
theorem dX12_firstRound_166 : decode cX12_firstRound 166 = .ok (.iload_n 1, 1) := by decide +kernel
theorem dX12_firstRound_167 : decode cX12_firstRound 167 = .ok (.iaload, 1) := by decide +kernel
theorem dX12_firstRound_168 : decode cX12_firstRound 168 = .ok (.if_icmp .ne 29, 3) := by decide +kernel
theorem dX12_firstRound_197 : decode cX12_firstRound 197 = .ok (.iinc 2 1, 3) := by decide +kernel
theorem dX12_firstRound_200 : decode cX12_firstRound 200 = .ok (.goto (-49), 3) := by decide +kernel
theorem dX12_firstRound_171 : decode cX12_firstRound 171 = .ok (.aload_n 0, 1) := by decide +kernel
theorem dX12_firstRound_172 : decode cX12_firstRound 172 = .ok (.getfield 123, 3) := by decide +kernel
theorem dX12_firstRound_175 : decode cX12_firstRound 175 = .ok (.iload_n 2, 1) := by decide +kernel
theorem dX12_firstRound_176 : decode cX12_firstRound 176 = .ok (.iaload, 1) := by decide +kernel
theorem dX12_firstRound_177 : decode cX12_firstRound 177 = .ok (.aload_n 0, 1) := by decide +kernel
theorem dX12_firstRound_178 : decode cX12_firstRound 178 = .ok (.getfield 123, 3) := by decide +kernel
theorem dX12_firstRound_181 : decode cX12_firstRound 181 = .ok (.iload_n 1, 1) := by decide +kernel
theorem dX12_firstRound_182 : decode cX12_firstRound 182 = .ok (.iaload, 1) := by decide +kernel
theorem dX12_firstRound_183 : decode cX12_firstRound 183 = .ok (.if_icmp .ne 14, 3) := by decide +kernel
theorem dX12_firstRound_186 : decode cX12_firstRound 186 = .ok (.aload_n 0, 1) := by decide +kernel
theorem dX12_firstRound_187 : decode cX12_firstRound 187 = .ok (.iconst 3, 1) := by decide +kernel
theorem dX12_firstRound_188 : decode cX12_firstRound 188 = .ok (.aload_n 0, 1) := by decide +kernel
theorem dX12_firstRound_189 : decode cX12_firstRound 189 = .ok (.getfield 126, 3) := by decide +kernel
theorem dX12_firstRound_192 : decode cX12_firstRound 192 = .ok (.iload_n 1, 1) := by decide +kernel
theorem dX12_firstRound_193 : decode cX12_firstRound 193 = .ok (.iaload, 1) := by decide +kernel
theorem dX12_firstRound_194 : decode cX12_firstRound 194 = .ok (.invokevirtual 502, 3) := by decide +kernel
theorem dX12_firstRound_79 : decode cX12_firstRound 79 = .ok (.iconst 0, 1) := by decide +kernel
theorem dX12_firstRound_80 : decode cX12_firstRound 80 = .ok (.istore_n 2, 1) := by decide +kernel
theorem dX12_firstRound_81 : decode cX12_firstRound 81 = .ok (.iload_n 2, 1) := by decide +kernel
theorem dX12_firstRound_82 : decode cX12_firstRound 82 = .ok (.iload_n 1, 1) := by decide +kernel
theorem dX12_firstRound_83 : decode cX12_firstRound 83 = .ok (.if_icmp .ge 50, 3) := by decide +kernel
theorem dX12_firstRound_133 : decode cX12_firstRound 133 = .ok (.iinc 1 1, 3) := by decide +kernel
theorem dX12_firstRound_136 : decode cX12_firstRound 136 = .ok (.goto (-65), 3) := by decide +kernel
theorem dX12_firstRound_86 : decode cX12_firstRound 86 = .ok (.aload_n 0, 1) := by decide +kernel
theorem dX12_firstRound_87 : decode cX12_firstRound 87 = .ok (.getfield 108, 3) := by decide +kernel
theorem dX12_firstRound_90 : decode cX12_firstRound 90 = .ok (.iload_n 2, 1) := by decide +kernel
theorem dX12_firstRound_91 : decode cX12_firstRound 91 = .ok (.iaload, 1) := by decide +kernel
theorem dX12_firstRound_92 : decode cX12_firstRound 92 = .ok (.aload_n 0, 1) := by decide +kernel
theorem dX12_firstRound_93 : decode cX12_firstRound 93 = .ok (.getfield 108, 3) := by decide +kernel
theorem dX12_firstRound_96 : decode cX12_firstRound 96 = .ok (.iload_n 1, 1) := by decide +kernel
theorem dX12_firstRound_97 : decode cX12_firstRound 97 = .ok (.iaload, 1) := by decide +kernel
theorem dX12_firstRound_98 : decode cX12_firstRound 98 = .ok (.if_icmp .ne 29, 3) := by decide +kernel
theorem dX12_firstRound_127 : decode cX12_firstRound 127 = .ok (.iinc 2 1, 3) := by decide +kernel
theorem dX12_firstRound_130 : decode cX12_firstRound 130 = .ok (.goto (-49), 3) := by decide +kernel
theorem dX12_firstRound_101 : decode cX12_firstRound 101 = .ok (.aload_n 0, 1) := by decide +kernel
theorem dX12_firstRound_102 : decode cX12_firstRound 102 = .ok (.getfield 111, 3) := by decide +kernel
theorem dX12_firstRound_105 : decode cX12_firstRound 105 = .ok (.iload_n 2, 1) := by decide +kernel
theorem dX12_firstRound_106 : decode cX12_firstRound 106 = .ok (.iaload, 1) := by decide +kernel
theorem dX12_firstRound_107 : decode cX12_firstRound 107 = .ok (.aload_n 0, 1) := by decide +kernel
theorem dX12_firstRound_108 : decode cX12_firstRound 108 = .ok (.getfield 111, 3) := by decide +kernel
theorem dX12_firstRound_111 : decode cX12_firstRound 111 = .ok (.iload_n 1, 1) := by decide +kernel
theorem dX12_firstRound_112 : decode cX12_firstRound 112 = .ok (.iaload, 1) := by decide +kernel
theorem dX12_firstRound_113 : decode cX12_firstRound 113 = .ok (.if_icmp .ne 14, 3) := by decide +kernel
theorem dX12_firstRound_116 : decode cX12_firstRound 116 = .ok (.aload_n 0, 1) := by decide +kernel
theorem dX12_firstRound_117 : decode cX12_firstRound 117 = .ok (.iconst 3, 1) := by decide +kernel
theorem dX12_firstRound_118 : decode cX12_firstRound 118 = .ok (.aload_n 0, 1) := by decide +kernel
theorem dX12_firstRound_119 : decode cX12_firstRound 119 = .ok (.getfield 114, 3) := by decide +kernel
theorem dX12_firstRound_122 : decode cX12_firstRound 122 = .ok (.iload_n 1, 1) := by decide +kernel
theorem dX12_firstRound_123 : decode cX12_firstRound 123 = .ok (.iaload, 1) := by decide +kernel
theorem dX12_firstRound_124 : decode cX12_firstRound 124 = .ok (.invokevirtual 502, 3) := by decide +kernel
theorem dX12_firstRound_11 : decode cX12_firstRound 11 = .ok (.aload_n 0, 1) := by decide +kernel
theorem dX12_firstRound_12 : decode cX12_firstRound 12 = .ok (.aload_n 0, 1) := by decide +kernel
theorem dX12_firstRound_13 : decode cX12_firstRound 13 = .ok (.getfield 84, 3) := by decide +kernel
theorem dX12_firstRound_16 : decode cX12_firstRound 16 = .ok (.iload_n 1, 1) := by decide +kernel
theorem dX12_firstRound_17 : decode cX12_firstRound 17 = .ok (.iaload, 1) := by decide +kernel
theorem dX12_firstRound_18 : decode cX12_firstRound 18 = .ok (.invokevirtual 499, 3) := by decide +kernel
theorem dX12_firstRound_21 : decode cX12_firstRound 21 = .ok (.iload_n 1, 1) := by decide +kernel
theorem dX12_firstRound_22 : decode cX12_firstRound 22 = .ok (.if_icmp .eq 14, 3) := by decide +kernel
theorem dX12_firstRound_36 : decode cX12_firstRound 36 = .ok (.aload_n 0, 1) := by decide +kernel
theorem dX12_firstRound_37 : decode cX12_firstRound 37 = .ok (.aload_n 0, 1) := by decide +kernel
theorem dX12_firstRound_38 : decode cX12_firstRound 38 = .ok (.getfield 93, 3) := by decide +kernel
theorem dX12_firstRound_41 : decode cX12_firstRound 41 = .ok (.iload_n 1, 1) := by decide +kernel
theorem dX12_firstRound_42 : decode cX12_firstRound 42 = .ok (.iaload, 1) := by decide +kernel
theorem dX12_firstRound_43 : decode cX12_firstRound 43 = .ok (.aload_n 0, 1) := by decide +kernel
theorem dX12_firstRound_44 : decode cX12_firstRound 44 = .ok (.getfield 90, 3) := by decide +kernel
theorem dX12_firstRound_47 : decode cX12_firstRound 47 = .ok (.iload_n 1, 1) := by decide +kernel
theorem dX12_firstRound_48 : decode cX12_firstRound 48 = .ok (.baload, 1) := by decide +kernel
theorem dX12_firstRound_49 : decode cX12_firstRound 49 = .ok (.invokevirtual 508, 3) := by decide +kernel
theorem dX12_firstRound_52 : decode cX12_firstRound 52 = .ok (.aload_n 0, 1) := by decide +kernel
theorem dX12_firstRound_53 : decode cX12_firstRound 53 = .ok (.aload_n 0, 1) := by decide +kernel
theorem dX12_firstRound_54 : decode cX12_firstRound 54 = .ok (.getfield 96, 3) := by decide +kernel
theorem dX12_firstRound_57 : decode cX12_firstRound 57 = .ok (.iload_n 1, 1) := by decide +kernel
theorem dX12_firstRound_58 : decode cX12_firstRound 58 = .ok (.iaload, 1) := by decide +kernel
theorem dX12_firstRound_59 : decode cX12_firstRound 59 = .ok (.iconst 1, 1) := by decide +kernel
theorem dX12_firstRound_60 : decode cX12_firstRound 60 = .ok (.invokevirtual 508, 3) := by decide +kernel
theorem dX12_firstRound_63 : decode cX12_firstRound 63 = .ok (.iinc 1 1, 3) := by decide +kernel
theorem dX12_firstRound_66 : decode cX12_firstRound 66 = .ok (.goto (-63), 3) := by decide +kernel
theorem dX12_firstRound_25 : decode cX12_firstRound 25 = .ok (.aload_n 0, 1) := by decide +kernel
theorem dX12_firstRound_26 : decode cX12_firstRound 26 = .ok (.iconst 3, 1) := by decide +kernel
theorem dX12_firstRound_27 : decode cX12_firstRound 27 = .ok (.aload_n 0, 1) := by decide +kernel
theorem dX12_firstRound_28 : decode cX12_firstRound 28 = .ok (.getfield 87, 3) := by decide +kernel
theorem dX12_firstRound_31 : decode cX12_firstRound 31 = .ok (.iload_n 1, 1) := by decide +kernel
theorem dX12_firstRound_32 : decode cX12_firstRound 32 = .ok (.iaload, 1) := by decide +kernel
theorem dX12_firstRound_33 : decode cX12_firstRound 33 = .ok (.invokevirtual 502, 3) := by decide +kernel
theorem hV_X12_namesOf : yX12_namesOf.cls = RX12 ∧ yX12_namesOf.cls ≠ "java/lang/invoke/MethodHandle" ∧ yX12_namesOf.cls ≠ "java/lang/invoke/VarHandle" ∧ (parseMethodDescriptor yX12_namesOf.desc).map (fun d => d.parameters.length) = some 2 := by decide +kernel
set_option maxHeartbeats 8000000 in
set_option maxRecDepth 100000 in
/-- firstRound() -/
theorem R_firstRound (l : Launch) (G : pT) (h0 : Nat) (a : Nat → Nat) (F : Nat → Int32) (B : Nat → Nat → Int32) (dc : Nat) (lz : Nat) (T : Nat) (nm : Nat) (wr : Nat) (nd : Nat) (fd : Nat) (md : Nat) (pr : Nat) (bk : Nat) (rw : Nat) (ra : Int32) (hT : T ≤ 5000) (hlz : lz ≤ 5000) (hdc : 7 ≤ dc ∧ dc ≤ 37) (hrw : rw ≤ 15) (hfd : fd ≤ 620) (hmd : md ≤ 920) (hwr : wr ≤ 5000) (hnd : nd ≤ 12000) (hps : PS T nm wr lz dc fd md pr bk B) (hfm : FrM (B 2) T wr B nd md) (hy : tkRow (B 19) wr T) (hlr : lsRow (B 22) (B 23) lz T) : PM l G pX0 yX12_firstRound cX12_firstRound 4 none ({ frames := 5, cells := 0, slots := 0, locals := 131 }) [.ref h0] (mW G h0 a (upd (upd (upd (upd (upd (upd (upd F 27 (nI nd)) 31 (nI wr)) 35 (nI dc)) 44 (nI fd)) 49 (nI md)) 69 ra) 70 (nI rw)) B) (fun (v : Option Value) (u : Nat × Int32 × (Nat → Int32) × (Nat → Int32)) => v = none ∧ (rw ≤ 15 * u.1) ∧ (u.1 ≤ 15) ∧ (If (u.1 = 0) (∀ d : Nat, d < dc → CnD B dc lz T d)) ∧ (If (u.1 = 0) (∀ y : Nat, y < wr → tyOK dc (u.2.2.1 y))) ∧ (If (u.1 = 0) (∀ n : Nat, n < nd → nwOK (B 9 n) (B 26) dc (u.2.2.2 n)))) (fun u => (mW G h0 a (upd (upd (upd (upd (upd (upd (upd F 27 (nI nd)) 31 (nI wr)) 35 (nI dc)) 44 (nI fd)) 49 (nI md)) 69 u.2.1) 70 (nI u.1)) (updA (updA B 18 u.2.2.2) 21 u.2.2.1))) := by
  intro sz
  refine Met.ofW (cc := cX12_firstRound) (maxL := 4) (ret := none) (by decide) rfl ?_
  intro p e s m args below meth c s₁ B9 hml hv
  obtain ⟨rfl, hsz, hP, hD0, hE, hX⟩ := hv
  have hx := B9.exec
  have hb := B9.bytes
  have hr := B9.returns
  have hts := atoms_spec (ws := Cond.code yX12_firstRound cX12_firstRound 4 none :: pw) B9.pre
  have hq : ∀ w ∈ pw, w.before _ s = true := fun w h => hts w (List.mem_cons_of_mem _ h)
  have hown : s.vm.findClass RX12 = some m.cls := findClass_of_methodNamed B9.named
  have hlocks := B9.notSynchronized
  subst hsz
  have hD := hD0.self (sz := s.heap.size)
  have hA : ∀ q : Nat, s.heap.size ≤ q → va_A (mW G h0 a (upd (upd (upd (upd (upd (upd (upd F 27 (nI nd)) 31 (nI wr)) 35 (nI dc)) 44 (nI fd)) 49 (nI md)) 69 ra) 70 (nI rw)) B) s.heap.size q := fun q h => Or.inr h
  have hP : va_P G.1 pCl (mW G h0 a (upd (upd (upd (upd (upd (upd (upd F 27 (nI nd)) 31 (nI wr)) 35 (nI dc)) 44 (nI fd)) 49 (nI md)) 69 ra) 70 (nI rw)) B) s.heap := hP
  generalize va_A (mW G h0 a (upd (upd (upd (upd (upd (upd (upd F 27 (nI nd)) 31 (nI wr)) 35 (nI dc)) 44 (nI fd)) 49 (nI md)) 69 ra) 70 (nI rw)) B) s.heap.size = A at hD hE hA ⊢
  have hS : va_S A s.heap s.heap [] := va_S.rf
  have hl := lv_entry ([.ref h0]) (n := 4) (Nat.le_of_ble_eq_true rfl)
  rw [lg_entry_eq]
  generalize (lg_sl ([.ref h0]) ++ List.replicate (4 - (lg_sl ([.ref h0])).length) Slot.unset).toArray = ls at hl ⊢
  have hl : lv_has ls 4 [(0, .ref h0)] := hl
  refine lv_bipush (v := 7) hx hb dX12_firstRound_0 (by decide) ?_
  refine lv_istore_n (lv' := [(1, .int 7), (0, .ref h0)]) hx hb dX12_firstRound_2 rfl hl (by decide) rfl (fun ls hl => ?_)
  have loop_d : ∀ (n_d : Nat) (d2 : Nat) (rw2 : Nat) (ra2 : Int32) (H : Heap) (locs : List Loc) (ls : Array Slot), d2 ≤ dc → dc + 1 ≤ d2 + n_d → (rw ≤ 15 * rw2) → (rw2 ≤ 15) → (7 ≤ d2) → (If (rw2 = 0) (∀ d : Nat, d < d2 → CnD B dc lz T d)) → va_P G.1 pCl (mW G h0 a (upd (upd (upd (upd (upd (upd (upd F 27 (nI nd)) 31 (nI wr)) 35 (nI dc)) 44 (nI fd)) 49 (nI md)) 69 ra2) 70 (nI rw2)) B) H → va_D A (mW G h0 a (upd (upd (upd (upd (upd (upd (upd F 27 (nI nd)) 31 (nI wr)) 35 (nI dc)) 44 (nI fd)) 49 (nI md)) 69 ra2) 70 (nI rw2)) B) → va_S A s.heap H locs → lv_has ls 4 [(1, .int (nI d2)), (0, .ref h0)] → W p l e (headSpec (Cond.code yX12_firstRound cX12_firstRound 4 none :: pw) ({ frames := 5, cells := 0, slots := 0, locals := 131 } : Room)).room s m ([.ref h0] : List Value).toArray below meth c H locs 0 0 (MQ below (pQ G A (fun (v : Option Value) (u : Nat × Int32 × (Nat → Int32) × (Nat → Int32)) => v = none ∧ (rw ≤ 15 * u.1) ∧ (u.1 ≤ 15) ∧ (If (u.1 = 0) (∀ d : Nat, d < dc → CnD B dc lz T d)) ∧ (If (u.1 = 0) (∀ y : Nat, y < wr → tyOK dc (u.2.2.1 y))) ∧ (If (u.1 = 0) (∀ n : Nat, n < nd → nwOK (B 9 n) (B 26) dc (u.2.2.2 n)))) (fun u => (mW G h0 a (upd (upd (upd (upd (upd (upd (upd F 27 (nI nd)) 31 (nI wr)) 35 (nI dc)) 44 (nI fd)) 49 (nI md)) 69 u.2.1) 70 (nI u.1)) (updA (updA B 18 u.2.2.2) 21 u.2.2.1)))) ([.ref h0] : List Value).toArray s ({ frames := 5, cells := 0, slots := 0, locals := 131 } : Room).cells ({ frames := 5, cells := 0, slots := 0, locals := 131 } : Room).slots A) (F0 m 3 ls []) := by
    intro n_d
    induction n_d with
    | zero => intro d2 rw2 ra2 H locs ls hk_d hn_d; omega
    | succ n_d ih_d =>
      intro d2 rw2 ra2 H locs ls hk_d hn_d hw1 hw2 hd7 hcd hP hD hS hl
      refine lv_iload_n hx hb dX12_firstRound_3 rfl (lv_at hl 0 rfl) ?_
      refine lv_aload_n hx hb dX12_firstRound_4 rfl (lv_at hl 1 rfl) ?_
      refine r_get (v := .int (nI dc)) hx hb hown hq hE hP 35 384 tFX12_35 (by decide) pw_1732 rfl dX12_firstRound_5 ?_
      refine lv_icmp_ge (tgt := 69) hx hb dX12_firstRound_8 (by decide) (fun c1 => ?_) (fun c1 => ?_)
      · have n2 : dc ≤ d2 := (nI_leI (a := dc) (b := d2) (by omega) (by omega)).mp c1
        refine lv_iconst (v := 0) hx hb dX12_firstRound_69 (by decide) ?_
        refine lv_istore_n (lv' := [(1, .int 0), (0, .ref h0)]) hx hb dX12_firstRound_70 rfl hl (by decide) rfl (fun ls hl => ?_)
        have loop_f : ∀ (n_f : Nat) (f2 : Nat) (rw2 : Nat) (ra2 : Int32) (H : Heap) (locs : List Loc) (ls : Array Slot), f2 ≤ fd → fd + 1 ≤ f2 + n_f → (rw ≤ 15 * rw2) → (rw2 ≤ 15) → (If (rw2 = 0) (∀ d : Nat, d < dc → CnD B dc lz T d)) → va_P G.1 pCl (mW G h0 a (upd (upd (upd (upd (upd (upd (upd F 27 (nI nd)) 31 (nI wr)) 35 (nI dc)) 44 (nI fd)) 49 (nI md)) 69 ra2) 70 (nI rw2)) B) H → va_D A (mW G h0 a (upd (upd (upd (upd (upd (upd (upd F 27 (nI nd)) 31 (nI wr)) 35 (nI dc)) 44 (nI fd)) 49 (nI md)) 69 ra2) 70 (nI rw2)) B) → va_S A s.heap H locs → lv_has ls 4 [(1, .int (nI f2)), (0, .ref h0)] → W p l e (headSpec (Cond.code yX12_firstRound cX12_firstRound 4 none :: pw) ({ frames := 5, cells := 0, slots := 0, locals := 131 } : Room)).room s m ([.ref h0] : List Value).toArray below meth c H locs 0 0 (MQ below (pQ G A (fun (v : Option Value) (u : Nat × Int32 × (Nat → Int32) × (Nat → Int32)) => v = none ∧ (rw ≤ 15 * u.1) ∧ (u.1 ≤ 15) ∧ (If (u.1 = 0) (∀ d : Nat, d < dc → CnD B dc lz T d)) ∧ (If (u.1 = 0) (∀ y : Nat, y < wr → tyOK dc (u.2.2.1 y))) ∧ (If (u.1 = 0) (∀ n : Nat, n < nd → nwOK (B 9 n) (B 26) dc (u.2.2.2 n)))) (fun u => (mW G h0 a (upd (upd (upd (upd (upd (upd (upd F 27 (nI nd)) 31 (nI wr)) 35 (nI dc)) 44 (nI fd)) 49 (nI md)) 69 u.2.1) 70 (nI u.1)) (updA (updA B 18 u.2.2.2) 21 u.2.2.1)))) ([.ref h0] : List Value).toArray s ({ frames := 5, cells := 0, slots := 0, locals := 131 } : Room).cells ({ frames := 5, cells := 0, slots := 0, locals := 131 } : Room).slots A) (F0 m 71 ls []) := by
          intro n_f
          induction n_f with
          | zero => intro f2 rw2 ra2 H locs ls hk_f hn_f; omega
          | succ n_f ih_f =>
            intro f2 rw2 ra2 H locs ls hk_f hn_f hw1 hw2 hcd hP hD hS hl
            refine lv_iload_n hx hb dX12_firstRound_71 rfl (lv_at hl 0 rfl) ?_
            refine lv_aload_n hx hb dX12_firstRound_72 rfl (lv_at hl 1 rfl) ?_
            refine r_get (v := .int (nI fd)) hx hb hown hq hE hP 44 413 tFX12_44 (by decide) pw_1727 rfl dX12_firstRound_73 ?_
            refine lv_icmp_ge (tgt := 139) hx hb dX12_firstRound_76 (by decide) (fun c3 => ?_) (fun c3 => ?_)
            · have n4 : fd ≤ f2 := (nI_leI (a := fd) (b := f2) (by omega) (by omega)).mp c3
              refine lv_iconst (v := 0) hx hb dX12_firstRound_139 (by decide) ?_
              refine lv_istore_n (lv' := [(1, .int 0), (0, .ref h0)]) hx hb dX12_firstRound_140 rfl hl (by decide) rfl (fun ls hl => ?_)
              have loop_m : ∀ (n_m : Nat) (m2 : Nat) (rw2 : Nat) (ra2 : Int32) (H : Heap) (locs : List Loc) (ls : Array Slot), m2 ≤ md → md + 1 ≤ m2 + n_m → (rw ≤ 15 * rw2) → (rw2 ≤ 15) → (If (rw2 = 0) (∀ d : Nat, d < dc → CnD B dc lz T d)) → va_P G.1 pCl (mW G h0 a (upd (upd (upd (upd (upd (upd (upd F 27 (nI nd)) 31 (nI wr)) 35 (nI dc)) 44 (nI fd)) 49 (nI md)) 69 ra2) 70 (nI rw2)) B) H → va_D A (mW G h0 a (upd (upd (upd (upd (upd (upd (upd F 27 (nI nd)) 31 (nI wr)) 35 (nI dc)) 44 (nI fd)) 49 (nI md)) 69 ra2) 70 (nI rw2)) B) → va_S A s.heap H locs → lv_has ls 4 [(1, .int (nI m2)), (0, .ref h0)] → W p l e (headSpec (Cond.code yX12_firstRound cX12_firstRound 4 none :: pw) ({ frames := 5, cells := 0, slots := 0, locals := 131 } : Room)).room s m ([.ref h0] : List Value).toArray below meth c H locs 0 0 (MQ below (pQ G A (fun (v : Option Value) (u : Nat × Int32 × (Nat → Int32) × (Nat → Int32)) => v = none ∧ (rw ≤ 15 * u.1) ∧ (u.1 ≤ 15) ∧ (If (u.1 = 0) (∀ d : Nat, d < dc → CnD B dc lz T d)) ∧ (If (u.1 = 0) (∀ y : Nat, y < wr → tyOK dc (u.2.2.1 y))) ∧ (If (u.1 = 0) (∀ n : Nat, n < nd → nwOK (B 9 n) (B 26) dc (u.2.2.2 n)))) (fun u => (mW G h0 a (upd (upd (upd (upd (upd (upd (upd F 27 (nI nd)) 31 (nI wr)) 35 (nI dc)) 44 (nI fd)) 49 (nI md)) 69 u.2.1) 70 (nI u.1)) (updA (updA B 18 u.2.2.2) 21 u.2.2.1)))) ([.ref h0] : List Value).toArray s ({ frames := 5, cells := 0, slots := 0, locals := 131 } : Room).cells ({ frames := 5, cells := 0, slots := 0, locals := 131 } : Room).slots A) (F0 m 141 ls []) := by
                intro n_m
                induction n_m with
                | zero => intro m2 rw2 ra2 H locs ls hk_m hn_m; omega
                | succ n_m ih_m =>
                  intro m2 rw2 ra2 H locs ls hk_m hn_m hw1 hw2 hcd hP hD hS hl
                  refine lv_iload_n hx hb dX12_firstRound_141 rfl (lv_at hl 0 rfl) ?_
                  refine lv_aload_n hx hb dX12_firstRound_142 rfl (lv_at hl 1 rfl) ?_
                  refine r_get (v := .int (nI md)) hx hb hown hq hE hP 49 416 tFX12_49 (by decide) pw_1721 rfl dX12_firstRound_143 ?_
                  refine lv_icmp_ge (tgt := 209) hx hb dX12_firstRound_146 (by decide) (fun c5 => ?_) (fun c5 => ?_)
                  · have n6 : md ≤ m2 := (nI_leI (a := md) (b := m2) (by omega) (by omega)).mp c5
                    refine lv_iconst (v := 0) hx hb dX12_firstRound_209 (by decide) ?_
                    refine lv_istore_n (lv' := [(1, .int 0), (0, .ref h0)]) hx hb dX12_firstRound_210 rfl hl (by decide) rfl (fun ls hl => ?_)
                    have loop_y : ∀ (n_y : Nat) (y2 : Nat) (rw2 : Nat) (ra2 : Int32) (yc2 : Nat → Int32) (H : Heap) (locs : List Loc) (ls : Array Slot), y2 ≤ wr → wr + 1 ≤ y2 + n_y → (rw ≤ 15 * rw2) → (rw2 ≤ 15) → (If (rw2 = 0) (∀ d : Nat, d < dc → CnD B dc lz T d)) → (If (rw2 = 0) (∀ y : Nat, y < y2 → tyOK dc (yc2 y))) → va_P G.1 pCl (mW G h0 a (upd (upd (upd (upd (upd (upd (upd F 27 (nI nd)) 31 (nI wr)) 35 (nI dc)) 44 (nI fd)) 49 (nI md)) 69 ra2) 70 (nI rw2)) (updA B 21 yc2)) H → va_D A (mW G h0 a (upd (upd (upd (upd (upd (upd (upd F 27 (nI nd)) 31 (nI wr)) 35 (nI dc)) 44 (nI fd)) 49 (nI md)) 69 ra2) 70 (nI rw2)) (updA B 21 yc2)) → va_S A s.heap H locs → lv_has ls 4 [(1, .int (nI y2)), (0, .ref h0)] → W p l e (headSpec (Cond.code yX12_firstRound cX12_firstRound 4 none :: pw) ({ frames := 5, cells := 0, slots := 0, locals := 131 } : Room)).room s m ([.ref h0] : List Value).toArray below meth c H locs 0 0 (MQ below (pQ G A (fun (v : Option Value) (u : Nat × Int32 × (Nat → Int32) × (Nat → Int32)) => v = none ∧ (rw ≤ 15 * u.1) ∧ (u.1 ≤ 15) ∧ (If (u.1 = 0) (∀ d : Nat, d < dc → CnD B dc lz T d)) ∧ (If (u.1 = 0) (∀ y : Nat, y < wr → tyOK dc (u.2.2.1 y))) ∧ (If (u.1 = 0) (∀ n : Nat, n < nd → nwOK (B 9 n) (B 26) dc (u.2.2.2 n)))) (fun u => (mW G h0 a (upd (upd (upd (upd (upd (upd (upd F 27 (nI nd)) 31 (nI wr)) 35 (nI dc)) 44 (nI fd)) 49 (nI md)) 69 u.2.1) 70 (nI u.1)) (updA (updA B 18 u.2.2.2) 21 u.2.2.1)))) ([.ref h0] : List Value).toArray s ({ frames := 5, cells := 0, slots := 0, locals := 131 } : Room).cells ({ frames := 5, cells := 0, slots := 0, locals := 131 } : Room).slots A) (F0 m 211 ls []) := by
                      intro n_y
                      induction n_y with
                      | zero => intro y2 rw2 ra2 yc2 H locs ls hk_y hn_y; omega
                      | succ n_y ih_y =>
                        intro y2 rw2 ra2 yc2 H locs ls hk_y hn_y hw1 hw2 hcd hyq hP hD hS hl
                        refine lv_iload_n hx hb dX12_firstRound_211 rfl (lv_at hl 0 rfl) ?_
                        refine lv_aload_n hx hb dX12_firstRound_212 rfl (lv_at hl 1 rfl) ?_
                        refine r_get (v := .int (nI wr)) hx hb hown hq hE hP 31 399 tFX12_31 (by decide) pw_1629 rfl dX12_firstRound_213 ?_
                        refine lv_icmp_ge (tgt := 297) hx hb dX12_firstRound_216 (by decide) (fun c7 => ?_) (fun c7 => ?_)
                        · have n8 : wr ≤ y2 := (nI_leI (a := wr) (b := y2) (by omega) (by omega)).mp c7
                          refine lv_iconst (v := 0) hx hb dX12_firstRound_297 (by decide) ?_
                          refine lv_istore_n (lv' := [(1, .int 0), (0, .ref h0)]) hx hb dX12_firstRound_298 rfl hl (by decide) rfl (fun ls hl => ?_)
                          have loop_n : ∀ (n_n : Nat) (n2 : Nat) (rw2 : Nat) (ra2 : Int32) (nn2 : Nat → Int32) (H : Heap) (locs : List Loc) (ls : Array Slot), n2 ≤ nd → nd + 1 ≤ n2 + n_n → (rw ≤ 15 * rw2) → (rw2 ≤ 15) → (If (rw2 = 0) (∀ d : Nat, d < dc → CnD B dc lz T d)) → (If (rw2 = 0) (∀ y : Nat, y < wr → tyOK dc (yc2 y))) → (If (rw2 = 0) (∀ n : Nat, n < n2 → nwOK (B 9 n) (B 26) dc (nn2 n))) → va_P G.1 pCl (mW G h0 a (upd (upd (upd (upd (upd (upd (upd F 27 (nI nd)) 31 (nI wr)) 35 (nI dc)) 44 (nI fd)) 49 (nI md)) 69 ra2) 70 (nI rw2)) (updA (updA B 18 nn2) 21 yc2)) H → va_D A (mW G h0 a (upd (upd (upd (upd (upd (upd (upd F 27 (nI nd)) 31 (nI wr)) 35 (nI dc)) 44 (nI fd)) 49 (nI md)) 69 ra2) 70 (nI rw2)) (updA (updA B 18 nn2) 21 yc2)) → va_S A s.heap H locs → lv_has ls 4 [(1, .int (nI n2)), (0, .ref h0)] → W p l e (headSpec (Cond.code yX12_firstRound cX12_firstRound 4 none :: pw) ({ frames := 5, cells := 0, slots := 0, locals := 131 } : Room)).room s m ([.ref h0] : List Value).toArray below meth c H locs 0 0 (MQ below (pQ G A (fun (v : Option Value) (u : Nat × Int32 × (Nat → Int32) × (Nat → Int32)) => v = none ∧ (rw ≤ 15 * u.1) ∧ (u.1 ≤ 15) ∧ (If (u.1 = 0) (∀ d : Nat, d < dc → CnD B dc lz T d)) ∧ (If (u.1 = 0) (∀ y : Nat, y < wr → tyOK dc (u.2.2.1 y))) ∧ (If (u.1 = 0) (∀ n : Nat, n < nd → nwOK (B 9 n) (B 26) dc (u.2.2.2 n)))) (fun u => (mW G h0 a (upd (upd (upd (upd (upd (upd (upd F 27 (nI nd)) 31 (nI wr)) 35 (nI dc)) 44 (nI fd)) 49 (nI md)) 69 u.2.1) 70 (nI u.1)) (updA (updA B 18 u.2.2.2) 21 u.2.2.1)))) ([.ref h0] : List Value).toArray s ({ frames := 5, cells := 0, slots := 0, locals := 131 } : Room).cells ({ frames := 5, cells := 0, slots := 0, locals := 131 } : Room).slots A) (F0 m 299 ls []) := by
                            intro n_n
                            induction n_n with
                            | zero => intro n2 rw2 ra2 nn2 H locs ls hk_n hn_n; omega
                            | succ n_n ih_n =>
                              intro n2 rw2 ra2 nn2 H locs ls hk_n hn_n hw1 hw2 hcd hyq hnq hP hD hS hl
                              refine lv_iload_n hx hb dX12_firstRound_299 rfl (lv_at hl 0 rfl) ?_
                              refine lv_aload_n hx hb dX12_firstRound_300 rfl (lv_at hl 1 rfl) ?_
                              refine r_get (v := .int (nI nd)) hx hb hown hq hE hP 27 340 tFX12_27 (by decide) pw_1590 rfl dX12_firstRound_301 ?_
                              refine lv_icmp_ge (tgt := 395) hx hb dX12_firstRound_304 (by decide) (fun c9 => ?_) (fun c9 => ?_)
                              · have n10 : nd ≤ n2 := (nI_leI (a := nd) (b := n2) (by omega) (by omega)).mp c9
                                have hz11 : rw ≤ 15 * rw2 := (by omega)
                                have hz12 : rw2 ≤ 15 := (by omega)
                                have hz13 : If (rw2 = 0) (∀ d : Nat, d < dc → CnD B dc lz T d) := (fun _ => hcd (by omega))
                                have hz14 : If (rw2 = 0) (∀ y : Nat, y < wr → tyOK dc (yc2 y)) := (fun _ => hyq (by omega))
                                have hz15 : If (rw2 = 0) (∀ n : Nat, n < nd → nwOK (B 9 n) (B 26) dc (nn2 n)) := (fun _ n h => hnq (by omega) n (by omega))
                                have hP : va_P G.1 pCl (mW G h0 a (upd (upd (upd (upd (upd (upd (upd F 27 (nI nd)) 31 (nI wr)) 35 (nI dc)) 44 (nI fd)) 49 (nI md)) 69 ra2) 70 (nI rw2)) (updA (updA B 18 nn2) 21 yc2)) _ := hP
                                have hD : va_D A (mW G h0 a (upd (upd (upd (upd (upd (upd (upd F 27 (nI nd)) 31 (nI wr)) 35 (nI dc)) 44 (nI fd)) 49 (nI md)) 69 ra2) 70 (nI rw2)) (updA (updA B 18 nn2) 21 yc2)) := mW_D hD
                                exact W.vret hx hb hr (fun t9 ht9 hW9 => ⟨⟨_, (rw2, ra2, yc2, nn2), rfl, ⟨rfl, hz11, hz12, hz13, hz14, hz15⟩, by rw [ht9]; exact hP, hD⟩, hS.F ht9⟩) hS.2.2 dX12_firstRound_395
                              · have n16 : ¬ (nd ≤ n2) := fun h9 => c9 ((nI_leI (a := nd) (b := n2) (by omega) (by omega)).mpr h9)
                                refine lv_aload_n hx hb dX12_firstRound_307 rfl (lv_at hl 1 rfl) ?_
                                refine r_get (v := .ref (a 9)) hx hb hown hq hE hP 17 38 tFX12_17 (by decide) pw_1439 rfl dX12_firstRound_308 ?_
                                refine lv_iload_n hx hb dX12_firstRound_311 rfl (lv_at hl 0 rfl) ?_
                                refine r_ldi (f := (B 9)) (j := n2) hx hb hE hP 9 (ma_9 G a _) rfl (by omega) (by decide) dX12_firstRound_312 ?_
                                refine lv_bipush (v := 9) hx hb dX12_firstRound_313 (by decide) ?_
                                refine lv_icmp_eq (tgt := 329) hx hb dX12_firstRound_315 (by decide) (fun c17 => ?_) (fun c17 => ?_)
                                · refine lv_aload_n hx hb dX12_firstRound_329 rfl (lv_at hl 1 rfl) ?_
                                  refine r_get (v := .ref (a 9)) hx hb hown hq hE hP 17 38 tFX12_17 (by decide) pw_1439 rfl dX12_firstRound_330 ?_
                                  refine lv_iload_n hx hb dX12_firstRound_333 rfl (lv_at hl 0 rfl) ?_
                                  refine r_ldi (f := (B 9)) (j := n2) hx hb hE hP 9 (ma_9 G a _) rfl (by omega) (by decide) dX12_firstRound_334 ?_
                                  refine lv_bipush (v := 9) hx hb dX12_firstRound_335 (by decide) ?_
                                  refine lv_icmp_ne (tgt := 349) hx hb dX12_firstRound_337 (by decide) (fun c18 => absurd c17 c18) (fun c18 => ?_)
                                  refine lv_aload_n hx hb dX12_firstRound_340 rfl (lv_at hl 1 rfl) ?_
                                  refine r_get (v := .ref (a 11)) hx hb hown hq hE hP 19 44 tFX12_19 (by decide) pw_1441 rfl dX12_firstRound_341 ?_
                                  refine lv_iload_n hx hb dX12_firstRound_344 rfl (lv_at hl 0 rfl) ?_
                                  refine r_ldi (f := (B 11)) (j := n2) hx hb hE hP 11 (ma_11 G a _) rfl (by omega) (by decide) dX12_firstRound_345 ?_
                                  obtain ⟨t19, e21, h20⟩ := FrM.tok11 hfm (n := n2) (by omega)
                                  refine lv_topi (fun x22 e23 => ?_)
                                  obtain rfl : x22 = nI t19 := e23.trans e21
                                  refine lv_goto (tgt := 355) hx hb dX12_firstRound_346 (by decide) ?_
                                  refine lv_istore_n (lv' := [(2, .int (nI t19)), (1, .int (nI n2)), (0, .ref h0)]) hx hb dX12_firstRound_355 rfl hl (by decide) rfl (fun ls hl => ?_)
                                  refine lv_aload_n hx hb dX12_firstRound_356 rfl (lv_at hl 2 rfl) ?_
                                  refine lv_iload_n hx hb dX12_firstRound_357 rfl (lv_at hl 0 rfl) ?_
                                  have hP : va_P G.1 pCl (mW G h0 a (upd (upd (upd (upd (upd (upd (upd (upd (upd (upd F 27 (nI nd)) 31 (nI wr)) 35 (nI dc)) 44 (nI fd)) 49 (nI md)) 69 ra2) 70 (nI rw2)) 35 (nI dc)) 69 ra2) 70 (nI rw2)) (updA (updA (updA (updA B 18 nn2) 21 yc2) 5 (B 5)) 24 (B 24))) _ := mW_to (F := F) (l1 := [(27, (nI nd)), (31, (nI wr)), (35, (nI dc)), (44, (nI fd)), (49, (nI md)), (69, ra2), (70, (nI rw2))]) (l2 := [(27, (nI nd)), (31, (nI wr)), (35, (nI dc)), (44, (nI fd)), (49, (nI md)), (69, ra2), (70, (nI rw2)), (35, (nI dc)), (69, ra2), (70, (nI rw2))]) (V := [(nI nd), (nI wr), (nI dc), (nI fd), (nI md), ra2, (nI rw2), (nI nd), (nI wr), (nI dc), (nI fd), (nI md), ra2, (nI rw2), (nI dc), ra2, (nI rw2)]) rfl rfl (show (updA (updA B 18 nn2) 21 yc2) = (updA (updA (updA (updA B 18 nn2) 21 yc2) 5 (B 5)) 24 (B 24)) from updsA_eq2 (F := B) (l1 := [(18, nn2), (21, yc2)]) (l2 := [(18, nn2), (21, yc2), (5, (B 5)), (24, (B 24))]) (V := [nn2, yc2, nn2, yc2, (B 5), (B 24)]) rfl rfl) hP
                                  have hD : va_D A (mW G h0 a (upd (upd (upd (upd (upd (upd (upd (upd (upd (upd F 27 (nI nd)) 31 (nI wr)) 35 (nI dc)) 44 (nI fd)) 49 (nI md)) 69 ra2) 70 (nI rw2)) 35 (nI dc)) 69 ra2) 70 (nI rw2)) (updA (updA (updA (updA B 18 nn2) 21 yc2) 5 (B 5)) 24 (B 24))) := mW_D hD
                                  refine pc_V0 (G := G) (As := [.int (nI t19)]) (rest := []) hx hb hml hown hq hE hX pX0_al hP hD hS hA hl.1 (R_known l G h0 a (upd (upd (upd (upd (upd (upd (upd F 27 (nI nd)) 31 (nI wr)) 35 (nI dc)) 44 (nI fd)) 49 (nI md)) 69 ra2) 70 (nI rw2)) (updA (updA B 18 nn2) 21 yc2) t19 dc rw2 ra2 (B 24) (B 5) (by omega) (by omega) (by omega)) (gV pw_1753 pw_1754 pw_1755 pw_1523 pw_1745) hV_X12_known 0 9 rfl rfl rfl rfl (Nat.le_of_ble_eq_true rfl) dX12_firstRound_358 ⟨Nat.le_of_ble_eq_true rfl, Nat.le_of_ble_eq_true rfl⟩ ⟨Nat.le_of_ble_eq_true rfl, Nat.le_of_ble_eq_true rfl⟩ (fun v26 u24 H locs hw25 hP hD hS => ?_)
                                  obtain ⟨rw27, ra28⟩ := u24
                                  obtain ⟨hw25, h29, h30, h31⟩ := hw25
                                  replace h29 : rw2 ≤ 15 * rw27 := h29
                                  replace h30 : rw27 ≤ 15 := h30
                                  replace h31 : If (rw27 = 0) (¬ dOf (B 24) ((B 5) t19) dc 0 = -1) := h31
                                  obtain rfl : v26 = some (.int (dOf (B 24) ((B 5) t19) dc 0)) := hw25
                                  have hP : va_P G.1 pCl (mW G h0 a (upd (upd (upd (upd (upd (upd (upd F 27 (nI nd)) 31 (nI wr)) 35 (nI dc)) 44 (nI fd)) 49 (nI md)) 69 ra28) 70 (nI rw27)) (updA (updA B 18 nn2) 21 yc2)) _ := mW_to (F := F) (l1 := [(27, (nI nd)), (31, (nI wr)), (35, (nI dc)), (44, (nI fd)), (49, (nI md)), (69, ra2), (70, (nI rw2)), (35, (nI dc)), (69, ra28), (70, (nI rw27))]) (l2 := [(27, (nI nd)), (31, (nI wr)), (35, (nI dc)), (44, (nI fd)), (49, (nI md)), (69, ra28), (70, (nI rw27))]) (V := [(nI nd), (nI wr), (nI dc), (nI fd), (nI md), ra28, (nI rw27), (nI dc), ra28, (nI rw27), (nI nd), (nI wr), (nI dc), (nI fd), (nI md), ra28, (nI rw27)]) rfl rfl (show (updA (updA (updA (updA B 18 nn2) 21 yc2) 5 (B 5)) 24 (B 24)) = (updA (updA B 18 nn2) 21 yc2) from updsA_eq2 (F := B) (l1 := [(18, nn2), (21, yc2), (5, (B 5)), (24, (B 24))]) (l2 := [(18, nn2), (21, yc2)]) (V := [nn2, yc2, (B 5), (B 24), nn2, yc2]) rfl rfl) hP
                                  have hD : va_D A (mW G h0 a (upd (upd (upd (upd (upd (upd (upd F 27 (nI nd)) 31 (nI wr)) 35 (nI dc)) 44 (nI fd)) 49 (nI md)) 69 ra28) 70 (nI rw27)) (updA (updA B 18 nn2) 21 yc2)) := mW_D hD
                                  refine W.widen (k := 0) (n := 0) (Nat.le_of_ble_eq_true rfl) (Nat.le_of_ble_eq_true rfl) ?_
                                  refine W.eq (g2 := F0 m 361 ls [.int (dOf (B 24) ((B 5) t19) dc 0)]) rfl ?_
                                  refine lv_istore_n (lv' := [(3, .int (dOf (B 24) ((B 5) t19) dc 0)), (2, .int (nI t19)), (1, .int (nI n2)), (0, .ref h0)]) hx hb dX12_firstRound_361 rfl hl (by decide) rfl (fun ls hl => ?_)
                                  refine lv_aload_n hx hb dX12_firstRound_362 rfl (lv_at hl 3 rfl) ?_
                                  refine r_get (v := .ref (a 18)) hx hb hown hq hE hP 26 65 tFX12_26 (by decide) pw_1448 rfl dX12_firstRound_363 ?_
                                  refine lv_iload_n hx hb dX12_firstRound_366 rfl (lv_at hl 2 rfl) ?_
                                  refine lv_iload_n hx hb dX12_firstRound_367 rfl (lv_at hl 0 rfl) ?_
                                  refine r_sti (f := nn2) (j := n2) hx hb hE hP hD hS 18 (ma_18 G a _) rfl (mas_18 G a _) (by omega) (by decide) dX12_firstRound_368 (fun H locs hP hD hS => ?_)
                                  refine lv_iload_n hx hb dX12_firstRound_369 rfl (lv_at hl 0 rfl) ?_
                                  refine lv_iconst (v := (-1)) hx hb dX12_firstRound_370 (by decide) ?_
                                  refine lv_icmp_eq (tgt := 389) hx hb dX12_firstRound_371 (by decide) (fun c32 => ?_) (fun c32 => ?_)
                                  · refine lv_iinc (v := (nI (n2 + 1))) (lv' := [(1, .int (nI (n2 + 1))), (3, .int (dOf (B 24) ((B 5) t19) dc 0)), (2, .int (nI t19)), (0, .ref h0)]) hx hb dX12_firstRound_389 hl (k := 2) rfl (nI_1 n2) (by decide) rfl (fun ls hl => ?_)
                                    refine lv_goto (tgt := 299) hx hb dX12_firstRound_392 (by decide) ?_
                                    have hP : va_P G.1 pCl (mW G h0 a (upd (upd (upd (upd (upd (upd (upd F 27 (nI nd)) 31 (nI wr)) 35 (nI dc)) 44 (nI fd)) 49 (nI md)) 69 ra28) 70 (nI rw27)) (updA (updA B 18 (upd nn2 n2 (dOf (B 24) ((B 5) t19) dc 0))) 21 yc2)) _ := mW_to (F := F) (l1 := [(27, (nI nd)), (31, (nI wr)), (35, (nI dc)), (44, (nI fd)), (49, (nI md)), (69, ra28), (70, (nI rw27))]) (l2 := [(27, (nI nd)), (31, (nI wr)), (35, (nI dc)), (44, (nI fd)), (49, (nI md)), (69, ra28), (70, (nI rw27))]) (V := [(nI nd), (nI wr), (nI dc), (nI fd), (nI md), ra28, (nI rw27), (nI nd), (nI wr), (nI dc), (nI fd), (nI md), ra28, (nI rw27)]) rfl rfl (show (updA (updA (updA B 18 nn2) 21 yc2) 18 (upd nn2 n2 (dOf (B 24) ((B 5) t19) dc 0))) = (updA (updA B 18 (upd nn2 n2 (dOf (B 24) ((B 5) t19) dc 0))) 21 yc2) from updsA_eq2 (F := B) (l1 := [(18, nn2), (21, yc2), (18, (upd nn2 n2 (dOf (B 24) ((B 5) t19) dc 0)))]) (l2 := [(18, (upd nn2 n2 (dOf (B 24) ((B 5) t19) dc 0))), (21, yc2)]) (V := [(upd nn2 n2 (dOf (B 24) ((B 5) t19) dc 0)), yc2, (upd nn2 n2 (dOf (B 24) ((B 5) t19) dc 0)), (upd nn2 n2 (dOf (B 24) ((B 5) t19) dc 0)), yc2]) rfl rfl) hP
                                    have hD : va_D A (mW G h0 a (upd (upd (upd (upd (upd (upd (upd F 27 (nI nd)) 31 (nI wr)) 35 (nI dc)) 44 (nI fd)) 49 (nI md)) 69 ra28) 70 (nI rw27)) (updA (updA B 18 (upd nn2 n2 (dOf (B 24) ((B 5) t19) dc 0))) 21 yc2)) := mW_D hD
                                    exact ih_n (n2 + 1) rw27 ra28 (upd nn2 n2 (dOf (B 24) ((B 5) t19) dc 0)) _ _ _ (by omega) (by omega) (by omega) (by omega) (fun _ => hcd (by omega)) (fun _ => hyq (by omega)) (fun e => absurd c32 (h31 (by omega))) hP hD hS (lv_sub hl [0, 3] rfl)
                                  · obtain ⟨d33, e34, h35, h36, h37⟩ := (dOf_or dc 0).resolve_left c32
                                    rw [e34] at hl
                                    refine lv_aload_n hx hb dX12_firstRound_374 rfl (lv_at hl 3 rfl) ?_
                                    refine r_get (v := .ref (a 26)) hx hb hown hq hE hP 38 90 tFX12_38 (by decide) pw_1457 rfl dX12_firstRound_375 ?_
                                    refine lv_iload_n hx hb dX12_firstRound_378 rfl (lv_at hl 0 rfl) ?_
                                    refine r_ldz (f := (B 26)) (j := d33) hx hb hE hP 26 (ma_26 G a _) rfl (by omega) (by decide) dX12_firstRound_379 ?_
                                    refine lv_if_eq (tgt := 389) hx hb dX12_firstRound_380 (by decide) (fun c38 => ?_) (fun c38 => ?_)
                                    · refine lv_iinc (v := (nI (n2 + 1))) (lv' := [(1, .int (nI (n2 + 1))), (3, .int (nI d33)), (2, .int (nI t19)), (0, .ref h0)]) hx hb dX12_firstRound_389 hl (k := 2) rfl (nI_1 n2) (by decide) rfl (fun ls hl => ?_)
                                      refine lv_goto (tgt := 299) hx hb dX12_firstRound_392 (by decide) ?_
                                      have hP : va_P G.1 pCl (mW G h0 a (upd (upd (upd (upd (upd (upd (upd F 27 (nI nd)) 31 (nI wr)) 35 (nI dc)) 44 (nI fd)) 49 (nI md)) 69 ra28) 70 (nI rw27)) (updA (updA B 18 (upd nn2 n2 (dOf (B 24) ((B 5) t19) dc 0))) 21 yc2)) _ := mW_to (F := F) (l1 := [(27, (nI nd)), (31, (nI wr)), (35, (nI dc)), (44, (nI fd)), (49, (nI md)), (69, ra28), (70, (nI rw27))]) (l2 := [(27, (nI nd)), (31, (nI wr)), (35, (nI dc)), (44, (nI fd)), (49, (nI md)), (69, ra28), (70, (nI rw27))]) (V := [(nI nd), (nI wr), (nI dc), (nI fd), (nI md), ra28, (nI rw27), (nI nd), (nI wr), (nI dc), (nI fd), (nI md), ra28, (nI rw27)]) rfl rfl (show (updA (updA (updA B 18 nn2) 21 yc2) 18 (upd nn2 n2 (dOf (B 24) ((B 5) t19) dc 0))) = (updA (updA B 18 (upd nn2 n2 (dOf (B 24) ((B 5) t19) dc 0))) 21 yc2) from updsA_eq2 (F := B) (l1 := [(18, nn2), (21, yc2), (18, (upd nn2 n2 (dOf (B 24) ((B 5) t19) dc 0)))]) (l2 := [(18, (upd nn2 n2 (dOf (B 24) ((B 5) t19) dc 0))), (21, yc2)]) (V := [(upd nn2 n2 (dOf (B 24) ((B 5) t19) dc 0)), yc2, (upd nn2 n2 (dOf (B 24) ((B 5) t19) dc 0)), (upd nn2 n2 (dOf (B 24) ((B 5) t19) dc 0)), yc2]) rfl rfl) hP
                                      have hD : va_D A (mW G h0 a (upd (upd (upd (upd (upd (upd (upd F 27 (nI nd)) 31 (nI wr)) 35 (nI dc)) 44 (nI fd)) 49 (nI md)) 69 ra28) 70 (nI rw27)) (updA (updA B 18 (upd nn2 n2 (dOf (B 24) ((B 5) t19) dc 0))) 21 yc2)) := mW_D hD
                                      exact ih_n (n2 + 1) rw27 ra28 (upd nn2 n2 (dOf (B 24) ((B 5) t19) dc 0)) _ _ _ (by omega) (by omega) (by omega) (by omega) (fun _ => hcd (by omega)) (fun _ => hyq (by omega)) (fun _ => all_upd (p := fun n z => nwOK (B 9 n) (B 26) dc z) (hnq (by omega)) (fun _ => ⟨d33, e34, by omega, c38⟩)) hP hD hS (lv_sub hl [0, 3] rfl)
                                    · refine lv_aload_n hx hb dX12_firstRound_383 rfl (lv_at hl 3 rfl) ?_
                                      refine lv_iconst (v := 5) hx hb dX12_firstRound_384 (by decide) ?_
                                      refine lv_iload_n hx hb dX12_firstRound_385 rfl (lv_at hl 1 rfl) ?_
                                      have hP : va_P G.1 pCl (mW G h0 a (upd (upd (upd (upd (upd (upd (upd (upd (upd F 27 (nI nd)) 31 (nI wr)) 35 (nI dc)) 44 (nI fd)) 49 (nI md)) 69 ra28) 70 (nI rw27)) 69 ra28) 70 (nI rw27)) (updA (updA B 18 (upd nn2 n2 (dOf (B 24) ((B 5) t19) dc 0))) 21 yc2)) _ := mW_to (F := F) (l1 := [(27, (nI nd)), (31, (nI wr)), (35, (nI dc)), (44, (nI fd)), (49, (nI md)), (69, ra28), (70, (nI rw27))]) (l2 := [(27, (nI nd)), (31, (nI wr)), (35, (nI dc)), (44, (nI fd)), (49, (nI md)), (69, ra28), (70, (nI rw27)), (69, ra28), (70, (nI rw27))]) (V := [(nI nd), (nI wr), (nI dc), (nI fd), (nI md), ra28, (nI rw27), (nI nd), (nI wr), (nI dc), (nI fd), (nI md), ra28, (nI rw27), ra28, (nI rw27)]) rfl rfl (show (updA (updA (updA B 18 nn2) 21 yc2) 18 (upd nn2 n2 (dOf (B 24) ((B 5) t19) dc 0))) = (updA (updA B 18 (upd nn2 n2 (dOf (B 24) ((B 5) t19) dc 0))) 21 yc2) from updsA_eq2 (F := B) (l1 := [(18, nn2), (21, yc2), (18, (upd nn2 n2 (dOf (B 24) ((B 5) t19) dc 0)))]) (l2 := [(18, (upd nn2 n2 (dOf (B 24) ((B 5) t19) dc 0))), (21, yc2)]) (V := [(upd nn2 n2 (dOf (B 24) ((B 5) t19) dc 0)), yc2, (upd nn2 n2 (dOf (B 24) ((B 5) t19) dc 0)), (upd nn2 n2 (dOf (B 24) ((B 5) t19) dc 0)), yc2]) rfl rfl) hP
                                      have hD : va_D A (mW G h0 a (upd (upd (upd (upd (upd (upd (upd (upd (upd F 27 (nI nd)) 31 (nI wr)) 35 (nI dc)) 44 (nI fd)) 49 (nI md)) 69 ra28) 70 (nI rw27)) 69 ra28) 70 (nI rw27)) (updA (updA B 18 (upd nn2 n2 (dOf (B 24) ((B 5) t19) dc 0))) 21 yc2)) := mW_D hD
                                      refine pc_V0 (G := G) (As := [.int (nI 5), .int (nI t19)]) (rest := []) hx hb hml hown hq hE hX pX0_al hP hD hS hA hl.1 (R_note l G h0 a (upd (upd (upd (upd (upd (upd (upd F 27 (nI nd)) 31 (nI wr)) 35 (nI dc)) 44 (nI fd)) 49 (nI md)) 69 ra28) 70 (nI rw27)) (updA (updA B 18 (upd nn2 n2 (dOf (B 24) ((B 5) t19) dc 0))) 21 yc2) 5 t19 rw27 ra28 (by omega) (by omega) (by omega)) (gV pw_1749 pw_1750 pw_1751 pw_1523 pw_1740) hV_X12_note 0 9 rfl rfl rfl rfl (Nat.le_of_ble_eq_true rfl) dX12_firstRound_386 ⟨Nat.le_of_ble_eq_true rfl, Nat.le_of_ble_eq_true rfl⟩ ⟨Nat.le_of_ble_eq_true rfl, Nat.le_of_ble_eq_true rfl⟩ (fun v41 u39 H locs hw40 hP hD hS => ?_)
                                      obtain ⟨rw42, ra43⟩ := u39
                                      obtain ⟨hw40, h44, h45⟩ := hw40
                                      replace h44 : 0 < rw42 := h44
                                      replace h45 : rw42 ≤ 15 := h45
                                      obtain rfl : v41 = none := hw40
                                      have hP : va_P G.1 pCl (mW G h0 a (upd (upd (upd (upd (upd (upd (upd F 27 (nI nd)) 31 (nI wr)) 35 (nI dc)) 44 (nI fd)) 49 (nI md)) 69 ra43) 70 (nI rw42)) (updA (updA B 18 (upd nn2 n2 (dOf (B 24) ((B 5) t19) dc 0))) 21 yc2)) _ := mW_to (F := F) (l1 := [(27, (nI nd)), (31, (nI wr)), (35, (nI dc)), (44, (nI fd)), (49, (nI md)), (69, ra28), (70, (nI rw27)), (69, ra43), (70, (nI rw42))]) (l2 := [(27, (nI nd)), (31, (nI wr)), (35, (nI dc)), (44, (nI fd)), (49, (nI md)), (69, ra43), (70, (nI rw42))]) (V := [(nI nd), (nI wr), (nI dc), (nI fd), (nI md), ra43, (nI rw42), ra43, (nI rw42), (nI nd), (nI wr), (nI dc), (nI fd), (nI md), ra43, (nI rw42)]) rfl rfl rfl hP
                                      have hD : va_D A (mW G h0 a (upd (upd (upd (upd (upd (upd (upd F 27 (nI nd)) 31 (nI wr)) 35 (nI dc)) 44 (nI fd)) 49 (nI md)) 69 ra43) 70 (nI rw42)) (updA (updA B 18 (upd nn2 n2 (dOf (B 24) ((B 5) t19) dc 0))) 21 yc2)) := mW_D hD
                                      refine W.widen (k := 0) (n := 0) (Nat.le_of_ble_eq_true rfl) (Nat.le_of_ble_eq_true rfl) ?_
                                      refine W.eq (g2 := F0 m 389 ls []) rfl ?_
                                      refine lv_iinc (v := (nI (n2 + 1))) (lv' := [(1, .int (nI (n2 + 1))), (3, .int (nI d33)), (2, .int (nI t19)), (0, .ref h0)]) hx hb dX12_firstRound_389 hl (k := 2) rfl (nI_1 n2) (by decide) rfl (fun ls hl => ?_)
                                      refine lv_goto (tgt := 299) hx hb dX12_firstRound_392 (by decide) ?_
                                      have hP : va_P G.1 pCl (mW G h0 a (upd (upd (upd (upd (upd (upd (upd F 27 (nI nd)) 31 (nI wr)) 35 (nI dc)) 44 (nI fd)) 49 (nI md)) 69 ra43) 70 (nI rw42)) (updA (updA B 18 (upd nn2 n2 (dOf (B 24) ((B 5) t19) dc 0))) 21 yc2)) _ := hP
                                      have hD : va_D A (mW G h0 a (upd (upd (upd (upd (upd (upd (upd F 27 (nI nd)) 31 (nI wr)) 35 (nI dc)) 44 (nI fd)) 49 (nI md)) 69 ra43) 70 (nI rw42)) (updA (updA B 18 (upd nn2 n2 (dOf (B 24) ((B 5) t19) dc 0))) 21 yc2)) := mW_D hD
                                      exact ih_n (n2 + 1) rw42 ra43 (upd nn2 n2 (dOf (B 24) ((B 5) t19) dc 0)) _ _ _ (by omega) (by omega) (by omega) (by omega) (fun _ => hcd (by omega)) (fun _ => hyq (by omega)) (fun e => absurd e (by omega)) hP hD hS (lv_sub hl [0, 3] rfl)
                                · refine lv_aload_n hx hb dX12_firstRound_318 rfl (lv_at hl 1 rfl) ?_
                                  refine r_get (v := .ref (a 9)) hx hb hown hq hE hP 17 38 tFX12_17 (by decide) pw_1439 rfl dX12_firstRound_319 ?_
                                  refine lv_iload_n hx hb dX12_firstRound_322 rfl (lv_at hl 0 rfl) ?_
                                  refine r_ldi (f := (B 9)) (j := n2) hx hb hE hP 9 (ma_9 G a _) rfl (by omega) (by decide) dX12_firstRound_323 ?_
                                  refine lv_bipush (v := 44) hx hb dX12_firstRound_324 (by decide) ?_
                                  refine lv_icmp_ne (tgt := 389) hx hb dX12_firstRound_326 (by decide) (fun c46 => ?_) (fun c46 => ?_)
                                  · refine lv_iinc (v := (nI (n2 + 1))) (lv' := [(1, .int (nI (n2 + 1))), (0, .ref h0)]) hx hb dX12_firstRound_389 hl (k := 0) rfl (nI_1 n2) (by decide) rfl (fun ls hl => ?_)
                                    refine lv_goto (tgt := 299) hx hb dX12_firstRound_392 (by decide) ?_
                                    have hP : va_P G.1 pCl (mW G h0 a (upd (upd (upd (upd (upd (upd (upd F 27 (nI nd)) 31 (nI wr)) 35 (nI dc)) 44 (nI fd)) 49 (nI md)) 69 ra2) 70 (nI rw2)) (updA (updA B 18 nn2) 21 yc2)) _ := hP
                                    have hD : va_D A (mW G h0 a (upd (upd (upd (upd (upd (upd (upd F 27 (nI nd)) 31 (nI wr)) 35 (nI dc)) 44 (nI fd)) 49 (nI md)) 69 ra2) 70 (nI rw2)) (updA (updA B 18 nn2) 21 yc2)) := mW_D hD
                                    exact ih_n (n2 + 1) rw2 ra2 nn2 _ _ _ (by omega) (by omega) (by omega) (by omega) (fun _ => hcd (by omega)) (fun _ => hyq (by omega)) (fun _ => all_up (hnq (by omega)) (fun z => z.elim (fun z => absurd z c17) (fun z => absurd z c46))) hP hD hS (lv_sub hl [0, 1] rfl)
                                  · refine lv_aload_n hx hb dX12_firstRound_329 rfl (lv_at hl 1 rfl) ?_
                                    refine r_get (v := .ref (a 9)) hx hb hown hq hE hP 17 38 tFX12_17 (by decide) pw_1439 rfl dX12_firstRound_330 ?_
                                    refine lv_iload_n hx hb dX12_firstRound_333 rfl (lv_at hl 0 rfl) ?_
                                    refine r_ldi (f := (B 9)) (j := n2) hx hb hE hP 9 (ma_9 G a _) rfl (by omega) (by decide) dX12_firstRound_334 ?_
                                    refine lv_bipush (v := 9) hx hb dX12_firstRound_335 (by decide) ?_
                                    refine lv_icmp_ne (tgt := 349) hx hb dX12_firstRound_337 (by decide) (fun c47 => ?_) (fun c47 => absurd (c47.symm.trans c46) (by decide))
                                    refine lv_aload_n hx hb dX12_firstRound_349 rfl (lv_at hl 1 rfl) ?_
                                    refine r_get (v := .ref (a 12)) hx hb hown hq hE hP 20 47 tFX12_20 (by decide) pw_1442 rfl dX12_firstRound_350 ?_
                                    refine lv_iload_n hx hb dX12_firstRound_353 rfl (lv_at hl 0 rfl) ?_
                                    refine r_ldi (f := (B 12)) (j := n2) hx hb hE hP 12 (ma_12 G a _) rfl (by omega) (by decide) dX12_firstRound_354 ?_
                                    obtain ⟨t48, e50, h49⟩ := FrM.tokA hfm (n := n2) (by omega) (by omega) c46
                                    refine lv_topi (fun x51 e52 => ?_)
                                    obtain rfl : x51 = nI t48 := e52.trans e50
                                    refine lv_istore_n (lv' := [(2, .int (nI t48)), (1, .int (nI n2)), (0, .ref h0)]) hx hb dX12_firstRound_355 rfl hl (by decide) rfl (fun ls hl => ?_)
                                    refine lv_aload_n hx hb dX12_firstRound_356 rfl (lv_at hl 2 rfl) ?_
                                    refine lv_iload_n hx hb dX12_firstRound_357 rfl (lv_at hl 0 rfl) ?_
                                    have hP : va_P G.1 pCl (mW G h0 a (upd (upd (upd (upd (upd (upd (upd (upd (upd (upd F 27 (nI nd)) 31 (nI wr)) 35 (nI dc)) 44 (nI fd)) 49 (nI md)) 69 ra2) 70 (nI rw2)) 35 (nI dc)) 69 ra2) 70 (nI rw2)) (updA (updA (updA (updA B 18 nn2) 21 yc2) 5 (B 5)) 24 (B 24))) _ := mW_to (F := F) (l1 := [(27, (nI nd)), (31, (nI wr)), (35, (nI dc)), (44, (nI fd)), (49, (nI md)), (69, ra2), (70, (nI rw2))]) (l2 := [(27, (nI nd)), (31, (nI wr)), (35, (nI dc)), (44, (nI fd)), (49, (nI md)), (69, ra2), (70, (nI rw2)), (35, (nI dc)), (69, ra2), (70, (nI rw2))]) (V := [(nI nd), (nI wr), (nI dc), (nI fd), (nI md), ra2, (nI rw2), (nI nd), (nI wr), (nI dc), (nI fd), (nI md), ra2, (nI rw2), (nI dc), ra2, (nI rw2)]) rfl rfl (show (updA (updA B 18 nn2) 21 yc2) = (updA (updA (updA (updA B 18 nn2) 21 yc2) 5 (B 5)) 24 (B 24)) from updsA_eq2 (F := B) (l1 := [(18, nn2), (21, yc2)]) (l2 := [(18, nn2), (21, yc2), (5, (B 5)), (24, (B 24))]) (V := [nn2, yc2, nn2, yc2, (B 5), (B 24)]) rfl rfl) hP
                                    have hD : va_D A (mW G h0 a (upd (upd (upd (upd (upd (upd (upd (upd (upd (upd F 27 (nI nd)) 31 (nI wr)) 35 (nI dc)) 44 (nI fd)) 49 (nI md)) 69 ra2) 70 (nI rw2)) 35 (nI dc)) 69 ra2) 70 (nI rw2)) (updA (updA (updA (updA B 18 nn2) 21 yc2) 5 (B 5)) 24 (B 24))) := mW_D hD
                                    refine pc_V0 (G := G) (As := [.int (nI t48)]) (rest := []) hx hb hml hown hq hE hX pX0_al hP hD hS hA hl.1 (R_known l G h0 a (upd (upd (upd (upd (upd (upd (upd F 27 (nI nd)) 31 (nI wr)) 35 (nI dc)) 44 (nI fd)) 49 (nI md)) 69 ra2) 70 (nI rw2)) (updA (updA B 18 nn2) 21 yc2) t48 dc rw2 ra2 (B 24) (B 5) (by omega) (by omega) (by omega)) (gV pw_1753 pw_1754 pw_1755 pw_1523 pw_1745) hV_X12_known 0 9 rfl rfl rfl rfl (Nat.le_of_ble_eq_true rfl) dX12_firstRound_358 ⟨Nat.le_of_ble_eq_true rfl, Nat.le_of_ble_eq_true rfl⟩ ⟨Nat.le_of_ble_eq_true rfl, Nat.le_of_ble_eq_true rfl⟩ (fun v55 u53 H locs hw54 hP hD hS => ?_)
                                    obtain ⟨rw56, ra57⟩ := u53
                                    obtain ⟨hw54, h58, h59, h60⟩ := hw54
                                    replace h58 : rw2 ≤ 15 * rw56 := h58
                                    replace h59 : rw56 ≤ 15 := h59
                                    replace h60 : If (rw56 = 0) (¬ dOf (B 24) ((B 5) t48) dc 0 = -1) := h60
                                    obtain rfl : v55 = some (.int (dOf (B 24) ((B 5) t48) dc 0)) := hw54
                                    have hP : va_P G.1 pCl (mW G h0 a (upd (upd (upd (upd (upd (upd (upd F 27 (nI nd)) 31 (nI wr)) 35 (nI dc)) 44 (nI fd)) 49 (nI md)) 69 ra57) 70 (nI rw56)) (updA (updA B 18 nn2) 21 yc2)) _ := mW_to (F := F) (l1 := [(27, (nI nd)), (31, (nI wr)), (35, (nI dc)), (44, (nI fd)), (49, (nI md)), (69, ra2), (70, (nI rw2)), (35, (nI dc)), (69, ra57), (70, (nI rw56))]) (l2 := [(27, (nI nd)), (31, (nI wr)), (35, (nI dc)), (44, (nI fd)), (49, (nI md)), (69, ra57), (70, (nI rw56))]) (V := [(nI nd), (nI wr), (nI dc), (nI fd), (nI md), ra57, (nI rw56), (nI dc), ra57, (nI rw56), (nI nd), (nI wr), (nI dc), (nI fd), (nI md), ra57, (nI rw56)]) rfl rfl (show (updA (updA (updA (updA B 18 nn2) 21 yc2) 5 (B 5)) 24 (B 24)) = (updA (updA B 18 nn2) 21 yc2) from updsA_eq2 (F := B) (l1 := [(18, nn2), (21, yc2), (5, (B 5)), (24, (B 24))]) (l2 := [(18, nn2), (21, yc2)]) (V := [nn2, yc2, (B 5), (B 24), nn2, yc2]) rfl rfl) hP
                                    have hD : va_D A (mW G h0 a (upd (upd (upd (upd (upd (upd (upd F 27 (nI nd)) 31 (nI wr)) 35 (nI dc)) 44 (nI fd)) 49 (nI md)) 69 ra57) 70 (nI rw56)) (updA (updA B 18 nn2) 21 yc2)) := mW_D hD
                                    refine W.widen (k := 0) (n := 0) (Nat.le_of_ble_eq_true rfl) (Nat.le_of_ble_eq_true rfl) ?_
                                    refine W.eq (g2 := F0 m 361 ls [.int (dOf (B 24) ((B 5) t48) dc 0)]) rfl ?_
                                    refine lv_istore_n (lv' := [(3, .int (dOf (B 24) ((B 5) t48) dc 0)), (2, .int (nI t48)), (1, .int (nI n2)), (0, .ref h0)]) hx hb dX12_firstRound_361 rfl hl (by decide) rfl (fun ls hl => ?_)
                                    refine lv_aload_n hx hb dX12_firstRound_362 rfl (lv_at hl 3 rfl) ?_
                                    refine r_get (v := .ref (a 18)) hx hb hown hq hE hP 26 65 tFX12_26 (by decide) pw_1448 rfl dX12_firstRound_363 ?_
                                    refine lv_iload_n hx hb dX12_firstRound_366 rfl (lv_at hl 2 rfl) ?_
                                    refine lv_iload_n hx hb dX12_firstRound_367 rfl (lv_at hl 0 rfl) ?_
                                    refine r_sti (f := nn2) (j := n2) hx hb hE hP hD hS 18 (ma_18 G a _) rfl (mas_18 G a _) (by omega) (by decide) dX12_firstRound_368 (fun H locs hP hD hS => ?_)
                                    refine lv_iload_n hx hb dX12_firstRound_369 rfl (lv_at hl 0 rfl) ?_
                                    refine lv_iconst (v := (-1)) hx hb dX12_firstRound_370 (by decide) ?_
                                    refine lv_icmp_eq (tgt := 389) hx hb dX12_firstRound_371 (by decide) (fun c61 => ?_) (fun c61 => ?_)
                                    · refine lv_iinc (v := (nI (n2 + 1))) (lv' := [(1, .int (nI (n2 + 1))), (3, .int (dOf (B 24) ((B 5) t48) dc 0)), (2, .int (nI t48)), (0, .ref h0)]) hx hb dX12_firstRound_389 hl (k := 2) rfl (nI_1 n2) (by decide) rfl (fun ls hl => ?_)
                                      refine lv_goto (tgt := 299) hx hb dX12_firstRound_392 (by decide) ?_
                                      have hP : va_P G.1 pCl (mW G h0 a (upd (upd (upd (upd (upd (upd (upd F 27 (nI nd)) 31 (nI wr)) 35 (nI dc)) 44 (nI fd)) 49 (nI md)) 69 ra57) 70 (nI rw56)) (updA (updA B 18 (upd nn2 n2 (dOf (B 24) ((B 5) t48) dc 0))) 21 yc2)) _ := mW_to (F := F) (l1 := [(27, (nI nd)), (31, (nI wr)), (35, (nI dc)), (44, (nI fd)), (49, (nI md)), (69, ra57), (70, (nI rw56))]) (l2 := [(27, (nI nd)), (31, (nI wr)), (35, (nI dc)), (44, (nI fd)), (49, (nI md)), (69, ra57), (70, (nI rw56))]) (V := [(nI nd), (nI wr), (nI dc), (nI fd), (nI md), ra57, (nI rw56), (nI nd), (nI wr), (nI dc), (nI fd), (nI md), ra57, (nI rw56)]) rfl rfl (show (updA (updA (updA B 18 nn2) 21 yc2) 18 (upd nn2 n2 (dOf (B 24) ((B 5) t48) dc 0))) = (updA (updA B 18 (upd nn2 n2 (dOf (B 24) ((B 5) t48) dc 0))) 21 yc2) from updsA_eq2 (F := B) (l1 := [(18, nn2), (21, yc2), (18, (upd nn2 n2 (dOf (B 24) ((B 5) t48) dc 0)))]) (l2 := [(18, (upd nn2 n2 (dOf (B 24) ((B 5) t48) dc 0))), (21, yc2)]) (V := [(upd nn2 n2 (dOf (B 24) ((B 5) t48) dc 0)), yc2, (upd nn2 n2 (dOf (B 24) ((B 5) t48) dc 0)), (upd nn2 n2 (dOf (B 24) ((B 5) t48) dc 0)), yc2]) rfl rfl) hP
                                      have hD : va_D A (mW G h0 a (upd (upd (upd (upd (upd (upd (upd F 27 (nI nd)) 31 (nI wr)) 35 (nI dc)) 44 (nI fd)) 49 (nI md)) 69 ra57) 70 (nI rw56)) (updA (updA B 18 (upd nn2 n2 (dOf (B 24) ((B 5) t48) dc 0))) 21 yc2)) := mW_D hD
                                      exact ih_n (n2 + 1) rw56 ra57 (upd nn2 n2 (dOf (B 24) ((B 5) t48) dc 0)) _ _ _ (by omega) (by omega) (by omega) (by omega) (fun _ => hcd (by omega)) (fun _ => hyq (by omega)) (fun e => absurd c61 (h60 (by omega))) hP hD hS (lv_sub hl [0, 3] rfl)
                                    · obtain ⟨d62, e63, h64, h65, h66⟩ := (dOf_or dc 0).resolve_left c61
                                      rw [e63] at hl
                                      refine lv_aload_n hx hb dX12_firstRound_374 rfl (lv_at hl 3 rfl) ?_
                                      refine r_get (v := .ref (a 26)) hx hb hown hq hE hP 38 90 tFX12_38 (by decide) pw_1457 rfl dX12_firstRound_375 ?_
                                      refine lv_iload_n hx hb dX12_firstRound_378 rfl (lv_at hl 0 rfl) ?_
                                      refine r_ldz (f := (B 26)) (j := d62) hx hb hE hP 26 (ma_26 G a _) rfl (by omega) (by decide) dX12_firstRound_379 ?_
                                      refine lv_if_eq (tgt := 389) hx hb dX12_firstRound_380 (by decide) (fun c67 => ?_) (fun c67 => ?_)
                                      · refine lv_iinc (v := (nI (n2 + 1))) (lv' := [(1, .int (nI (n2 + 1))), (3, .int (nI d62)), (2, .int (nI t48)), (0, .ref h0)]) hx hb dX12_firstRound_389 hl (k := 2) rfl (nI_1 n2) (by decide) rfl (fun ls hl => ?_)
                                        refine lv_goto (tgt := 299) hx hb dX12_firstRound_392 (by decide) ?_
                                        have hP : va_P G.1 pCl (mW G h0 a (upd (upd (upd (upd (upd (upd (upd F 27 (nI nd)) 31 (nI wr)) 35 (nI dc)) 44 (nI fd)) 49 (nI md)) 69 ra57) 70 (nI rw56)) (updA (updA B 18 (upd nn2 n2 (dOf (B 24) ((B 5) t48) dc 0))) 21 yc2)) _ := mW_to (F := F) (l1 := [(27, (nI nd)), (31, (nI wr)), (35, (nI dc)), (44, (nI fd)), (49, (nI md)), (69, ra57), (70, (nI rw56))]) (l2 := [(27, (nI nd)), (31, (nI wr)), (35, (nI dc)), (44, (nI fd)), (49, (nI md)), (69, ra57), (70, (nI rw56))]) (V := [(nI nd), (nI wr), (nI dc), (nI fd), (nI md), ra57, (nI rw56), (nI nd), (nI wr), (nI dc), (nI fd), (nI md), ra57, (nI rw56)]) rfl rfl (show (updA (updA (updA B 18 nn2) 21 yc2) 18 (upd nn2 n2 (dOf (B 24) ((B 5) t48) dc 0))) = (updA (updA B 18 (upd nn2 n2 (dOf (B 24) ((B 5) t48) dc 0))) 21 yc2) from updsA_eq2 (F := B) (l1 := [(18, nn2), (21, yc2), (18, (upd nn2 n2 (dOf (B 24) ((B 5) t48) dc 0)))]) (l2 := [(18, (upd nn2 n2 (dOf (B 24) ((B 5) t48) dc 0))), (21, yc2)]) (V := [(upd nn2 n2 (dOf (B 24) ((B 5) t48) dc 0)), yc2, (upd nn2 n2 (dOf (B 24) ((B 5) t48) dc 0)), (upd nn2 n2 (dOf (B 24) ((B 5) t48) dc 0)), yc2]) rfl rfl) hP
                                        have hD : va_D A (mW G h0 a (upd (upd (upd (upd (upd (upd (upd F 27 (nI nd)) 31 (nI wr)) 35 (nI dc)) 44 (nI fd)) 49 (nI md)) 69 ra57) 70 (nI rw56)) (updA (updA B 18 (upd nn2 n2 (dOf (B 24) ((B 5) t48) dc 0))) 21 yc2)) := mW_D hD
                                        exact ih_n (n2 + 1) rw56 ra57 (upd nn2 n2 (dOf (B 24) ((B 5) t48) dc 0)) _ _ _ (by omega) (by omega) (by omega) (by omega) (fun _ => hcd (by omega)) (fun _ => hyq (by omega)) (fun _ => all_upd (p := fun n z => nwOK (B 9 n) (B 26) dc z) (hnq (by omega)) (fun _ => ⟨d62, e63, by omega, c67⟩)) hP hD hS (lv_sub hl [0, 3] rfl)
                                      · refine lv_aload_n hx hb dX12_firstRound_383 rfl (lv_at hl 3 rfl) ?_
                                        refine lv_iconst (v := 5) hx hb dX12_firstRound_384 (by decide) ?_
                                        refine lv_iload_n hx hb dX12_firstRound_385 rfl (lv_at hl 1 rfl) ?_
                                        have hP : va_P G.1 pCl (mW G h0 a (upd (upd (upd (upd (upd (upd (upd (upd (upd F 27 (nI nd)) 31 (nI wr)) 35 (nI dc)) 44 (nI fd)) 49 (nI md)) 69 ra57) 70 (nI rw56)) 69 ra57) 70 (nI rw56)) (updA (updA B 18 (upd nn2 n2 (dOf (B 24) ((B 5) t48) dc 0))) 21 yc2)) _ := mW_to (F := F) (l1 := [(27, (nI nd)), (31, (nI wr)), (35, (nI dc)), (44, (nI fd)), (49, (nI md)), (69, ra57), (70, (nI rw56))]) (l2 := [(27, (nI nd)), (31, (nI wr)), (35, (nI dc)), (44, (nI fd)), (49, (nI md)), (69, ra57), (70, (nI rw56)), (69, ra57), (70, (nI rw56))]) (V := [(nI nd), (nI wr), (nI dc), (nI fd), (nI md), ra57, (nI rw56), (nI nd), (nI wr), (nI dc), (nI fd), (nI md), ra57, (nI rw56), ra57, (nI rw56)]) rfl rfl (show (updA (updA (updA B 18 nn2) 21 yc2) 18 (upd nn2 n2 (dOf (B 24) ((B 5) t48) dc 0))) = (updA (updA B 18 (upd nn2 n2 (dOf (B 24) ((B 5) t48) dc 0))) 21 yc2) from updsA_eq2 (F := B) (l1 := [(18, nn2), (21, yc2), (18, (upd nn2 n2 (dOf (B 24) ((B 5) t48) dc 0)))]) (l2 := [(18, (upd nn2 n2 (dOf (B 24) ((B 5) t48) dc 0))), (21, yc2)]) (V := [(upd nn2 n2 (dOf (B 24) ((B 5) t48) dc 0)), yc2, (upd nn2 n2 (dOf (B 24) ((B 5) t48) dc 0)), (upd nn2 n2 (dOf (B 24) ((B 5) t48) dc 0)), yc2]) rfl rfl) hP
                                        have hD : va_D A (mW G h0 a (upd (upd (upd (upd (upd (upd (upd (upd (upd F 27 (nI nd)) 31 (nI wr)) 35 (nI dc)) 44 (nI fd)) 49 (nI md)) 69 ra57) 70 (nI rw56)) 69 ra57) 70 (nI rw56)) (updA (updA B 18 (upd nn2 n2 (dOf (B 24) ((B 5) t48) dc 0))) 21 yc2)) := mW_D hD
                                        refine pc_V0 (G := G) (As := [.int (nI 5), .int (nI t48)]) (rest := []) hx hb hml hown hq hE hX pX0_al hP hD hS hA hl.1 (R_note l G h0 a (upd (upd (upd (upd (upd (upd (upd F 27 (nI nd)) 31 (nI wr)) 35 (nI dc)) 44 (nI fd)) 49 (nI md)) 69 ra57) 70 (nI rw56)) (updA (updA B 18 (upd nn2 n2 (dOf (B 24) ((B 5) t48) dc 0))) 21 yc2) 5 t48 rw56 ra57 (by omega) (by omega) (by omega)) (gV pw_1749 pw_1750 pw_1751 pw_1523 pw_1740) hV_X12_note 0 9 rfl rfl rfl rfl (Nat.le_of_ble_eq_true rfl) dX12_firstRound_386 ⟨Nat.le_of_ble_eq_true rfl, Nat.le_of_ble_eq_true rfl⟩ ⟨Nat.le_of_ble_eq_true rfl, Nat.le_of_ble_eq_true rfl⟩ (fun v70 u68 H locs hw69 hP hD hS => ?_)
                                        obtain ⟨rw71, ra72⟩ := u68
                                        obtain ⟨hw69, h73, h74⟩ := hw69
                                        replace h73 : 0 < rw71 := h73
                                        replace h74 : rw71 ≤ 15 := h74
                                        obtain rfl : v70 = none := hw69
                                        have hP : va_P G.1 pCl (mW G h0 a (upd (upd (upd (upd (upd (upd (upd F 27 (nI nd)) 31 (nI wr)) 35 (nI dc)) 44 (nI fd)) 49 (nI md)) 69 ra72) 70 (nI rw71)) (updA (updA B 18 (upd nn2 n2 (dOf (B 24) ((B 5) t48) dc 0))) 21 yc2)) _ := mW_to (F := F) (l1 := [(27, (nI nd)), (31, (nI wr)), (35, (nI dc)), (44, (nI fd)), (49, (nI md)), (69, ra57), (70, (nI rw56)), (69, ra72), (70, (nI rw71))]) (l2 := [(27, (nI nd)), (31, (nI wr)), (35, (nI dc)), (44, (nI fd)), (49, (nI md)), (69, ra72), (70, (nI rw71))]) (V := [(nI nd), (nI wr), (nI dc), (nI fd), (nI md), ra72, (nI rw71), ra72, (nI rw71), (nI nd), (nI wr), (nI dc), (nI fd), (nI md), ra72, (nI rw71)]) rfl rfl rfl hP
                                        have hD : va_D A (mW G h0 a (upd (upd (upd (upd (upd (upd (upd F 27 (nI nd)) 31 (nI wr)) 35 (nI dc)) 44 (nI fd)) 49 (nI md)) 69 ra72) 70 (nI rw71)) (updA (updA B 18 (upd nn2 n2 (dOf (B 24) ((B 5) t48) dc 0))) 21 yc2)) := mW_D hD
                                        refine W.widen (k := 0) (n := 0) (Nat.le_of_ble_eq_true rfl) (Nat.le_of_ble_eq_true rfl) ?_
                                        refine W.eq (g2 := F0 m 389 ls []) rfl ?_
                                        refine lv_iinc (v := (nI (n2 + 1))) (lv' := [(1, .int (nI (n2 + 1))), (3, .int (nI d62)), (2, .int (nI t48)), (0, .ref h0)]) hx hb dX12_firstRound_389 hl (k := 2) rfl (nI_1 n2) (by decide) rfl (fun ls hl => ?_)
                                        refine lv_goto (tgt := 299) hx hb dX12_firstRound_392 (by decide) ?_
                                        have hP : va_P G.1 pCl (mW G h0 a (upd (upd (upd (upd (upd (upd (upd F 27 (nI nd)) 31 (nI wr)) 35 (nI dc)) 44 (nI fd)) 49 (nI md)) 69 ra72) 70 (nI rw71)) (updA (updA B 18 (upd nn2 n2 (dOf (B 24) ((B 5) t48) dc 0))) 21 yc2)) _ := hP
                                        have hD : va_D A (mW G h0 a (upd (upd (upd (upd (upd (upd (upd F 27 (nI nd)) 31 (nI wr)) 35 (nI dc)) 44 (nI fd)) 49 (nI md)) 69 ra72) 70 (nI rw71)) (updA (updA B 18 (upd nn2 n2 (dOf (B 24) ((B 5) t48) dc 0))) 21 yc2)) := mW_D hD
                                        exact ih_n (n2 + 1) rw71 ra72 (upd nn2 n2 (dOf (B 24) ((B 5) t48) dc 0)) _ _ _ (by omega) (by omega) (by omega) (by omega) (fun _ => hcd (by omega)) (fun _ => hyq (by omega)) (fun e => absurd e (by omega)) hP hD hS (lv_sub hl [0, 3] rfl)
                          have hP : va_P G.1 pCl (mW G h0 a (upd (upd (upd (upd (upd (upd (upd F 27 (nI nd)) 31 (nI wr)) 35 (nI dc)) 44 (nI fd)) 49 (nI md)) 69 ra2) 70 (nI rw2)) (updA (updA B 18 (B 18)) 21 yc2)) _ := mW_to (F := F) (l1 := [(27, (nI nd)), (31, (nI wr)), (35, (nI dc)), (44, (nI fd)), (49, (nI md)), (69, ra2), (70, (nI rw2))]) (l2 := [(27, (nI nd)), (31, (nI wr)), (35, (nI dc)), (44, (nI fd)), (49, (nI md)), (69, ra2), (70, (nI rw2))]) (V := [(nI nd), (nI wr), (nI dc), (nI fd), (nI md), ra2, (nI rw2), (nI nd), (nI wr), (nI dc), (nI fd), (nI md), ra2, (nI rw2)]) rfl rfl (show (updA B 21 yc2) = (updA (updA B 18 (B 18)) 21 yc2) from updsA_eq2 (F := B) (l1 := [(21, yc2)]) (l2 := [(18, (B 18)), (21, yc2)]) (V := [yc2, (B 18), yc2]) rfl rfl) hP
                          have hD : va_D A (mW G h0 a (upd (upd (upd (upd (upd (upd (upd F 27 (nI nd)) 31 (nI wr)) 35 (nI dc)) 44 (nI fd)) 49 (nI md)) 69 ra2) 70 (nI rw2)) (updA (updA B 18 (B 18)) 21 yc2)) := mW_D hD
                          exact loop_n (nd + 1) 0 rw2 ra2 (B 18) _ _ _ (by omega) (by omega) (by omega) (by omega) (fun _ => hcd (by omega)) (fun _ y h => hyq (by omega) y (by omega)) (fun _ n h => absurd h (by omega)) hP hD hS (lv_sub hl [0, 1] rfl)
                        · have n75 : ¬ (wr ≤ y2) := fun h9 => c7 ((nI_leI (a := wr) (b := y2) (by omega) (by omega)).mpr h9)
                          refine lv_aload_n hx hb dX12_firstRound_219 rfl (lv_at hl 1 rfl) ?_
                          refine r_get (v := .ref (a 2)) hx hb hown hq hE hP 5 16 tFX12_5 (by decide) pw_1432 rfl dX12_firstRound_220 ?_
                          refine lv_aload_n hx hb dX12_firstRound_223 rfl (lv_at hl 1 rfl) ?_
                          refine r_get (v := .ref (a 19)) hx hb hown hq hE hP 28 68 tFX12_28 (by decide) pw_1449 rfl dX12_firstRound_224 ?_
                          refine lv_iload_n hx hb dX12_firstRound_227 rfl (lv_at hl 0 rfl) ?_
                          refine r_ldi (f := (B 19)) (j := y2) hx hb hE hP 19 (ma_19 G a _) rfl (by omega) (by decide) dX12_firstRound_228 ?_
                          obtain ⟨t76, h77, e78⟩ := hy y2 (by omega)
                          refine lv_topi (fun x79 e80 => ?_)
                          obtain rfl : x79 = nI t76 := e80.trans e78
                          refine r_ldi (f := (B 2)) (j := t76) hx hb hE hP 2 (ma_2 G a _) rfl (by omega) (by decide) dX12_firstRound_229 ?_
                          refine lv_istore_n (lv' := [(2, .int ((B 2) t76)), (1, .int (nI y2)), (0, .ref h0)]) hx hb dX12_firstRound_230 rfl hl (by decide) rfl (fun ls hl => ?_)
                          refine lv_iload_n hx hb dX12_firstRound_231 rfl (lv_at hl 0 rfl) ?_
                          refine lv_sipush (v := 323) hx hb dX12_firstRound_232 (by decide) ?_
                          refine lv_icmp_ne (tgt := 242) hx hb dX12_firstRound_235 (by decide) (fun c81 => ?_) (fun c81 => ?_)
                          · refine lv_iload_n hx hb dX12_firstRound_242 rfl (lv_at hl 0 rfl) ?_
                            refine lv_sipush (v := 311) hx hb dX12_firstRound_243 (by decide) ?_
                            refine lv_icmp_ne (tgt := 253) hx hb dX12_firstRound_246 (by decide) (fun c82 => ?_) (fun c82 => ?_)
                            · refine lv_bipush (v := 10) hx hb dX12_firstRound_253 (by decide) ?_
                              refine lv_aload_n hx hb dX12_firstRound_255 rfl (lv_at hl 2 rfl) ?_
                              refine lv_aload_n hx hb dX12_firstRound_256 rfl (lv_at hl 2 rfl) ?_
                              refine r_get (v := .ref (a 19)) hx hb hown hq hE hP 28 68 tFX12_28 (by decide) pw_1449 rfl dX12_firstRound_257 ?_
                              refine lv_iload_n hx hb dX12_firstRound_260 rfl (lv_at hl 1 rfl) ?_
                              refine r_ldi (f := (B 19)) (j := y2) hx hb hE hP 19 (ma_19 G a _) rfl (by omega) (by decide) dX12_firstRound_261 ?_
                              obtain ⟨t83, h84, e85⟩ := hy y2 (by omega)
                              refine lv_topi (fun x86 e87 => ?_)
                              obtain rfl : x86 = nI t83 := e87.trans e85
                              have hP : va_P G.1 pCl (mW G h0 a (upd (upd (upd (upd (upd (upd (upd (upd (upd (upd F 27 (nI nd)) 31 (nI wr)) 35 (nI dc)) 44 (nI fd)) 49 (nI md)) 69 ra2) 70 (nI rw2)) 35 (nI dc)) 69 ra2) 70 (nI rw2)) (updA (updA (updA B 21 yc2) 5 (B 5)) 24 (B 24))) _ := mW_to (F := F) (l1 := [(27, (nI nd)), (31, (nI wr)), (35, (nI dc)), (44, (nI fd)), (49, (nI md)), (69, ra2), (70, (nI rw2))]) (l2 := [(27, (nI nd)), (31, (nI wr)), (35, (nI dc)), (44, (nI fd)), (49, (nI md)), (69, ra2), (70, (nI rw2)), (35, (nI dc)), (69, ra2), (70, (nI rw2))]) (V := [(nI nd), (nI wr), (nI dc), (nI fd), (nI md), ra2, (nI rw2), (nI nd), (nI wr), (nI dc), (nI fd), (nI md), ra2, (nI rw2), (nI dc), ra2, (nI rw2)]) rfl rfl (show (updA B 21 yc2) = (updA (updA (updA B 21 yc2) 5 (B 5)) 24 (B 24)) from updsA_eq2 (F := B) (l1 := [(21, yc2)]) (l2 := [(21, yc2), (5, (B 5)), (24, (B 24))]) (V := [yc2, yc2, (B 5), (B 24)]) rfl rfl) hP
                              have hD : va_D A (mW G h0 a (upd (upd (upd (upd (upd (upd (upd (upd (upd (upd F 27 (nI nd)) 31 (nI wr)) 35 (nI dc)) 44 (nI fd)) 49 (nI md)) 69 ra2) 70 (nI rw2)) 35 (nI dc)) 69 ra2) 70 (nI rw2)) (updA (updA (updA B 21 yc2) 5 (B 5)) 24 (B 24))) := mW_D hD
                              refine pc_V0 (G := G) (As := [.int (nI t83)]) (rest := [.int 10]) hx hb hml hown hq hE hX pX0_al hP hD hS hA hl.1 (R_known l G h0 a (upd (upd (upd (upd (upd (upd (upd F 27 (nI nd)) 31 (nI wr)) 35 (nI dc)) 44 (nI fd)) 49 (nI md)) 69 ra2) 70 (nI rw2)) (updA B 21 yc2) t83 dc rw2 ra2 (B 24) (B 5) (by omega) (by omega) (by omega)) (gV pw_1753 pw_1754 pw_1755 pw_1523 pw_1745) hV_X12_known 0 9 rfl rfl rfl rfl (Nat.le_of_ble_eq_true rfl) dX12_firstRound_262 ⟨Nat.le_of_ble_eq_true rfl, Nat.le_of_ble_eq_true rfl⟩ ⟨Nat.le_of_ble_eq_true rfl, Nat.le_of_ble_eq_true rfl⟩ (fun v90 u88 H locs hw89 hP hD hS => ?_)
                              obtain ⟨rw91, ra92⟩ := u88
                              obtain ⟨hw89, h93, h94, h95⟩ := hw89
                              replace h93 : rw2 ≤ 15 * rw91 := h93
                              replace h94 : rw91 ≤ 15 := h94
                              replace h95 : If (rw91 = 0) (¬ dOf (B 24) ((B 5) t83) dc 0 = -1) := h95
                              obtain rfl : v90 = some (.int (dOf (B 24) ((B 5) t83) dc 0)) := hw89
                              have hP : va_P G.1 pCl (mW G h0 a (upd (upd (upd (upd (upd (upd (upd F 27 (nI nd)) 31 (nI wr)) 35 (nI dc)) 44 (nI fd)) 49 (nI md)) 69 ra92) 70 (nI rw91)) (updA B 21 yc2)) _ := mW_to (F := F) (l1 := [(27, (nI nd)), (31, (nI wr)), (35, (nI dc)), (44, (nI fd)), (49, (nI md)), (69, ra2), (70, (nI rw2)), (35, (nI dc)), (69, ra92), (70, (nI rw91))]) (l2 := [(27, (nI nd)), (31, (nI wr)), (35, (nI dc)), (44, (nI fd)), (49, (nI md)), (69, ra92), (70, (nI rw91))]) (V := [(nI nd), (nI wr), (nI dc), (nI fd), (nI md), ra92, (nI rw91), (nI dc), ra92, (nI rw91), (nI nd), (nI wr), (nI dc), (nI fd), (nI md), ra92, (nI rw91)]) rfl rfl (show (updA (updA (updA B 21 yc2) 5 (B 5)) 24 (B 24)) = (updA B 21 yc2) from updsA_eq2 (F := B) (l1 := [(21, yc2), (5, (B 5)), (24, (B 24))]) (l2 := [(21, yc2)]) (V := [yc2, (B 5), (B 24), yc2]) rfl rfl) hP
                              have hD : va_D A (mW G h0 a (upd (upd (upd (upd (upd (upd (upd F 27 (nI nd)) 31 (nI wr)) 35 (nI dc)) 44 (nI fd)) 49 (nI md)) 69 ra92) 70 (nI rw91)) (updA B 21 yc2)) := mW_D hD
                              refine W.widen (k := 0) (n := 0) (Nat.le_of_ble_eq_true rfl) (Nat.le_of_ble_eq_true rfl) ?_
                              refine W.eq (g2 := F0 m 265 ls [.int (dOf (B 24) ((B 5) t83) dc 0), .int 10]) rfl ?_
                              refine lv_iadd hx hb dX12_firstRound_265 ?_
                              refine lv_topi (fun x96 e97 => ?_)
                              refine lv_istore_n (lv' := [(3, .int x96), (2, .int ((B 2) t76)), (1, .int (nI y2)), (0, .ref h0)]) hx hb dX12_firstRound_266 rfl hl (by decide) rfl (fun ls hl => ?_)
                              refine lv_aload_n hx hb dX12_firstRound_267 rfl (lv_at hl 3 rfl) ?_
                              refine r_get (v := .ref (a 21)) hx hb hown hq hE hP 30 75 tFX12_30 (by decide) pw_1452 rfl dX12_firstRound_268 ?_
                              refine lv_iload_n hx hb dX12_firstRound_271 rfl (lv_at hl 2 rfl) ?_
                              refine lv_aload_n hx hb dX12_firstRound_272 rfl (lv_at hl 3 rfl) ?_
                              refine r_get (v := .ref (a 20)) hx hb hown hq hE hP 29 71 tFX12_29 (by decide) pw_1451 rfl dX12_firstRound_273 ?_
                              refine lv_iload_n hx hb dX12_firstRound_276 rfl (lv_at hl 2 rfl) ?_
                              refine r_ldz (f := (B 20)) (j := y2) hx hb hE hP 20 (ma_20 G a _) rfl (by omega) (by decide) dX12_firstRound_277 ?_
                              refine lv_if_eq (tgt := 289) hx hb dX12_firstRound_278 (by decide) (fun c98 => ?_) (fun c98 => ?_)
                              · refine lv_iload_n hx hb dX12_firstRound_289 rfl (lv_at hl 0 rfl) ?_
                                refine r_sti (f := yc2) (j := y2) hx hb hE hP hD hS 21 (ma_21 G a _) rfl (mas_21 G a _) (by omega) (by decide) dX12_firstRound_290 (fun H locs hP hD hS => ?_)
                                refine lv_iinc (v := (nI (y2 + 1))) (lv' := [(1, .int (nI (y2 + 1))), (3, .int x96), (2, .int ((B 2) t76)), (0, .ref h0)]) hx hb dX12_firstRound_291 hl (k := 2) rfl (nI_1 y2) (by decide) rfl (fun ls hl => ?_)
                                refine lv_goto (tgt := 211) hx hb dX12_firstRound_294 (by decide) ?_
                                have hP : va_P G.1 pCl (mW G h0 a (upd (upd (upd (upd (upd (upd (upd F 27 (nI nd)) 31 (nI wr)) 35 (nI dc)) 44 (nI fd)) 49 (nI md)) 69 ra92) 70 (nI rw91)) (updA B 21 (upd yc2 y2 x96))) _ := mW_to (F := F) (l1 := [(27, (nI nd)), (31, (nI wr)), (35, (nI dc)), (44, (nI fd)), (49, (nI md)), (69, ra92), (70, (nI rw91))]) (l2 := [(27, (nI nd)), (31, (nI wr)), (35, (nI dc)), (44, (nI fd)), (49, (nI md)), (69, ra92), (70, (nI rw91))]) (V := [(nI nd), (nI wr), (nI dc), (nI fd), (nI md), ra92, (nI rw91), (nI nd), (nI wr), (nI dc), (nI fd), (nI md), ra92, (nI rw91)]) rfl rfl (show (updA (updA B 21 yc2) 21 (upd yc2 y2 x96)) = (updA B 21 (upd yc2 y2 x96)) from updsA_eq2 (F := B) (l1 := [(21, yc2), (21, (upd yc2 y2 x96))]) (l2 := [(21, (upd yc2 y2 x96))]) (V := [(upd yc2 y2 x96), (upd yc2 y2 x96), (upd yc2 y2 x96)]) rfl rfl) hP
                                have hD : va_D A (mW G h0 a (upd (upd (upd (upd (upd (upd (upd F 27 (nI nd)) 31 (nI wr)) 35 (nI dc)) 44 (nI fd)) 49 (nI md)) 69 ra92) 70 (nI rw91)) (updA B 21 (upd yc2 y2 x96))) := mW_D hD
                                exact ih_y (y2 + 1) rw91 ra92 (upd yc2 y2 x96) _ _ _ (by omega) (by omega) (by omega) (by omega) (fun _ => hcd (by omega)) (fun e => by obtain ⟨d, h1, h2, _⟩ := ten_of (h95 (by omega)); exact all_upd (p := fun _ z => tyOK dc z) (hyq (by omega)) (tyOK.base (e97.trans h2) (baN.cls h1))) hP hD hS (lv_sub hl [0, 3] rfl)
                              · refine lv_sipush (v := 1000) hx hb dX12_firstRound_281 (by decide) ?_
                                refine lv_iload_n hx hb dX12_firstRound_284 rfl (lv_at hl 0 rfl) ?_
                                refine lv_iadd hx hb dX12_firstRound_285 ?_
                                refine lv_topi (fun x99 e100 => ?_)
                                refine lv_goto (tgt := 290) hx hb dX12_firstRound_286 (by decide) ?_
                                refine r_sti (f := yc2) (j := y2) hx hb hE hP hD hS 21 (ma_21 G a _) rfl (mas_21 G a _) (by omega) (by decide) dX12_firstRound_290 (fun H locs hP hD hS => ?_)
                                refine lv_iinc (v := (nI (y2 + 1))) (lv' := [(1, .int (nI (y2 + 1))), (3, .int x96), (2, .int ((B 2) t76)), (0, .ref h0)]) hx hb dX12_firstRound_291 hl (k := 2) rfl (nI_1 y2) (by decide) rfl (fun ls hl => ?_)
                                refine lv_goto (tgt := 211) hx hb dX12_firstRound_294 (by decide) ?_
                                have hP : va_P G.1 pCl (mW G h0 a (upd (upd (upd (upd (upd (upd (upd F 27 (nI nd)) 31 (nI wr)) 35 (nI dc)) 44 (nI fd)) 49 (nI md)) 69 ra92) 70 (nI rw91)) (updA B 21 (upd yc2 y2 x99))) _ := mW_to (F := F) (l1 := [(27, (nI nd)), (31, (nI wr)), (35, (nI dc)), (44, (nI fd)), (49, (nI md)), (69, ra92), (70, (nI rw91))]) (l2 := [(27, (nI nd)), (31, (nI wr)), (35, (nI dc)), (44, (nI fd)), (49, (nI md)), (69, ra92), (70, (nI rw91))]) (V := [(nI nd), (nI wr), (nI dc), (nI fd), (nI md), ra92, (nI rw91), (nI nd), (nI wr), (nI dc), (nI fd), (nI md), ra92, (nI rw91)]) rfl rfl (show (updA (updA B 21 yc2) 21 (upd yc2 y2 x99)) = (updA B 21 (upd yc2 y2 x99)) from updsA_eq2 (F := B) (l1 := [(21, yc2), (21, (upd yc2 y2 x99))]) (l2 := [(21, (upd yc2 y2 x99))]) (V := [(upd yc2 y2 x99), (upd yc2 y2 x99), (upd yc2 y2 x99)]) rfl rfl) hP
                                have hD : va_D A (mW G h0 a (upd (upd (upd (upd (upd (upd (upd F 27 (nI nd)) 31 (nI wr)) 35 (nI dc)) 44 (nI fd)) 49 (nI md)) 69 ra92) 70 (nI rw91)) (updA B 21 (upd yc2 y2 x99))) := mW_D hD
                                exact ih_y (y2 + 1) rw91 ra92 (upd yc2 y2 x99) _ _ _ (by omega) (by omega) (by omega) (by omega) (fun _ => hcd (by omega)) (fun e => by obtain ⟨d, h1, h2, _⟩ := ten_of (h95 (by omega)); exact all_upd (p := fun _ z => tyOK dc z) (hyq (by omega)) (by rw [e100]; exact tyOK.row (e97.trans h2) (baN.cls h1))) hP hD hS (lv_sub hl [0, 3] rfl)
                            · refine lv_iconst (v := 2) hx hb dX12_firstRound_249 (by decide) ?_
                              refine lv_goto (tgt := 266) hx hb dX12_firstRound_250 (by decide) ?_
                              refine lv_istore_n (lv' := [(3, .int 2), (2, .int ((B 2) t76)), (1, .int (nI y2)), (0, .ref h0)]) hx hb dX12_firstRound_266 rfl hl (by decide) rfl (fun ls hl => ?_)
                              refine lv_aload_n hx hb dX12_firstRound_267 rfl (lv_at hl 3 rfl) ?_
                              refine r_get (v := .ref (a 21)) hx hb hown hq hE hP 30 75 tFX12_30 (by decide) pw_1452 rfl dX12_firstRound_268 ?_
                              refine lv_iload_n hx hb dX12_firstRound_271 rfl (lv_at hl 2 rfl) ?_
                              refine lv_aload_n hx hb dX12_firstRound_272 rfl (lv_at hl 3 rfl) ?_
                              refine r_get (v := .ref (a 20)) hx hb hown hq hE hP 29 71 tFX12_29 (by decide) pw_1451 rfl dX12_firstRound_273 ?_
                              refine lv_iload_n hx hb dX12_firstRound_276 rfl (lv_at hl 2 rfl) ?_
                              refine r_ldz (f := (B 20)) (j := y2) hx hb hE hP 20 (ma_20 G a _) rfl (by omega) (by decide) dX12_firstRound_277 ?_
                              refine lv_if_eq (tgt := 289) hx hb dX12_firstRound_278 (by decide) (fun c101 => ?_) (fun c101 => ?_)
                              · refine lv_iload_n hx hb dX12_firstRound_289 rfl (lv_at hl 0 rfl) ?_
                                refine r_sti (f := yc2) (j := y2) hx hb hE hP hD hS 21 (ma_21 G a _) rfl (mas_21 G a _) (by omega) (by decide) dX12_firstRound_290 (fun H locs hP hD hS => ?_)
                                refine lv_iinc (v := (nI (y2 + 1))) (lv' := [(1, .int (nI (y2 + 1))), (3, .int 2), (2, .int ((B 2) t76)), (0, .ref h0)]) hx hb dX12_firstRound_291 hl (k := 2) rfl (nI_1 y2) (by decide) rfl (fun ls hl => ?_)
                                refine lv_goto (tgt := 211) hx hb dX12_firstRound_294 (by decide) ?_
                                have hP : va_P G.1 pCl (mW G h0 a (upd (upd (upd (upd (upd (upd (upd F 27 (nI nd)) 31 (nI wr)) 35 (nI dc)) 44 (nI fd)) 49 (nI md)) 69 ra2) 70 (nI rw2)) (updA B 21 (upd yc2 y2 2))) _ := mW_to (F := F) (l1 := [(27, (nI nd)), (31, (nI wr)), (35, (nI dc)), (44, (nI fd)), (49, (nI md)), (69, ra2), (70, (nI rw2))]) (l2 := [(27, (nI nd)), (31, (nI wr)), (35, (nI dc)), (44, (nI fd)), (49, (nI md)), (69, ra2), (70, (nI rw2))]) (V := [(nI nd), (nI wr), (nI dc), (nI fd), (nI md), ra2, (nI rw2), (nI nd), (nI wr), (nI dc), (nI fd), (nI md), ra2, (nI rw2)]) rfl rfl (show (updA (updA B 21 yc2) 21 (upd yc2 y2 2)) = (updA B 21 (upd yc2 y2 2)) from updsA_eq2 (F := B) (l1 := [(21, yc2), (21, (upd yc2 y2 2))]) (l2 := [(21, (upd yc2 y2 2))]) (V := [(upd yc2 y2 2), (upd yc2 y2 2), (upd yc2 y2 2)]) rfl rfl) hP
                                have hD : va_D A (mW G h0 a (upd (upd (upd (upd (upd (upd (upd F 27 (nI nd)) 31 (nI wr)) 35 (nI dc)) 44 (nI fd)) 49 (nI md)) 69 ra2) 70 (nI rw2)) (updA B 21 (upd yc2 y2 2))) := mW_D hD
                                exact ih_y (y2 + 1) rw2 ra2 (upd yc2 y2 2) _ _ _ (by omega) (by omega) (by omega) (by omega) (fun _ => hcd (by omega)) (fun _ => all_upd (p := fun _ z => tyOK dc z) (hyq (by omega)) (tyOK.base (x := 2) rfl (Or.inr (Or.inl rfl)))) hP hD hS (lv_sub hl [0, 3] rfl)
                              · refine lv_sipush (v := 1000) hx hb dX12_firstRound_281 (by decide) ?_
                                refine lv_iload_n hx hb dX12_firstRound_284 rfl (lv_at hl 0 rfl) ?_
                                refine lv_iadd hx hb dX12_firstRound_285 ?_
                                refine lv_topi (fun x102 e103 => ?_)
                                obtain rfl : x102 = 1002 := e103.trans (by decide)
                                refine lv_goto (tgt := 290) hx hb dX12_firstRound_286 (by decide) ?_
                                refine r_sti (f := yc2) (j := y2) hx hb hE hP hD hS 21 (ma_21 G a _) rfl (mas_21 G a _) (by omega) (by decide) dX12_firstRound_290 (fun H locs hP hD hS => ?_)
                                refine lv_iinc (v := (nI (y2 + 1))) (lv' := [(1, .int (nI (y2 + 1))), (3, .int 2), (2, .int ((B 2) t76)), (0, .ref h0)]) hx hb dX12_firstRound_291 hl (k := 2) rfl (nI_1 y2) (by decide) rfl (fun ls hl => ?_)
                                refine lv_goto (tgt := 211) hx hb dX12_firstRound_294 (by decide) ?_
                                have hP : va_P G.1 pCl (mW G h0 a (upd (upd (upd (upd (upd (upd (upd F 27 (nI nd)) 31 (nI wr)) 35 (nI dc)) 44 (nI fd)) 49 (nI md)) 69 ra2) 70 (nI rw2)) (updA B 21 (upd yc2 y2 1002))) _ := mW_to (F := F) (l1 := [(27, (nI nd)), (31, (nI wr)), (35, (nI dc)), (44, (nI fd)), (49, (nI md)), (69, ra2), (70, (nI rw2))]) (l2 := [(27, (nI nd)), (31, (nI wr)), (35, (nI dc)), (44, (nI fd)), (49, (nI md)), (69, ra2), (70, (nI rw2))]) (V := [(nI nd), (nI wr), (nI dc), (nI fd), (nI md), ra2, (nI rw2), (nI nd), (nI wr), (nI dc), (nI fd), (nI md), ra2, (nI rw2)]) rfl rfl (show (updA (updA B 21 yc2) 21 (upd yc2 y2 1002)) = (updA B 21 (upd yc2 y2 1002)) from updsA_eq2 (F := B) (l1 := [(21, yc2), (21, (upd yc2 y2 1002))]) (l2 := [(21, (upd yc2 y2 1002))]) (V := [(upd yc2 y2 1002), (upd yc2 y2 1002), (upd yc2 y2 1002)]) rfl rfl) hP
                                have hD : va_D A (mW G h0 a (upd (upd (upd (upd (upd (upd (upd F 27 (nI nd)) 31 (nI wr)) 35 (nI dc)) 44 (nI fd)) 49 (nI md)) 69 ra2) 70 (nI rw2)) (updA B 21 (upd yc2 y2 1002))) := mW_D hD
                                exact ih_y (y2 + 1) rw2 ra2 (upd yc2 y2 1002) _ _ _ (by omega) (by omega) (by omega) (by omega) (fun _ => hcd (by omega)) (fun _ => all_upd (p := fun _ z => tyOK dc z) (hyq (by omega)) (⟨1002, rfl, Or.inr ⟨by omega, Or.inr (Or.inl rfl)⟩⟩)) hP hD hS (lv_sub hl [0, 3] rfl)
                          · refine lv_iconst (v := 1) hx hb dX12_firstRound_238 (by decide) ?_
                            refine lv_goto (tgt := 266) hx hb dX12_firstRound_239 (by decide) ?_
                            refine lv_istore_n (lv' := [(3, .int 1), (2, .int ((B 2) t76)), (1, .int (nI y2)), (0, .ref h0)]) hx hb dX12_firstRound_266 rfl hl (by decide) rfl (fun ls hl => ?_)
                            refine lv_aload_n hx hb dX12_firstRound_267 rfl (lv_at hl 3 rfl) ?_
                            refine r_get (v := .ref (a 21)) hx hb hown hq hE hP 30 75 tFX12_30 (by decide) pw_1452 rfl dX12_firstRound_268 ?_
                            refine lv_iload_n hx hb dX12_firstRound_271 rfl (lv_at hl 2 rfl) ?_
                            refine lv_aload_n hx hb dX12_firstRound_272 rfl (lv_at hl 3 rfl) ?_
                            refine r_get (v := .ref (a 20)) hx hb hown hq hE hP 29 71 tFX12_29 (by decide) pw_1451 rfl dX12_firstRound_273 ?_
                            refine lv_iload_n hx hb dX12_firstRound_276 rfl (lv_at hl 2 rfl) ?_
                            refine r_ldz (f := (B 20)) (j := y2) hx hb hE hP 20 (ma_20 G a _) rfl (by omega) (by decide) dX12_firstRound_277 ?_
                            refine lv_if_eq (tgt := 289) hx hb dX12_firstRound_278 (by decide) (fun c104 => ?_) (fun c104 => ?_)
                            · refine lv_iload_n hx hb dX12_firstRound_289 rfl (lv_at hl 0 rfl) ?_
                              refine r_sti (f := yc2) (j := y2) hx hb hE hP hD hS 21 (ma_21 G a _) rfl (mas_21 G a _) (by omega) (by decide) dX12_firstRound_290 (fun H locs hP hD hS => ?_)
                              refine lv_iinc (v := (nI (y2 + 1))) (lv' := [(1, .int (nI (y2 + 1))), (3, .int 1), (2, .int ((B 2) t76)), (0, .ref h0)]) hx hb dX12_firstRound_291 hl (k := 2) rfl (nI_1 y2) (by decide) rfl (fun ls hl => ?_)
                              refine lv_goto (tgt := 211) hx hb dX12_firstRound_294 (by decide) ?_
                              have hP : va_P G.1 pCl (mW G h0 a (upd (upd (upd (upd (upd (upd (upd F 27 (nI nd)) 31 (nI wr)) 35 (nI dc)) 44 (nI fd)) 49 (nI md)) 69 ra2) 70 (nI rw2)) (updA B 21 (upd yc2 y2 1))) _ := mW_to (F := F) (l1 := [(27, (nI nd)), (31, (nI wr)), (35, (nI dc)), (44, (nI fd)), (49, (nI md)), (69, ra2), (70, (nI rw2))]) (l2 := [(27, (nI nd)), (31, (nI wr)), (35, (nI dc)), (44, (nI fd)), (49, (nI md)), (69, ra2), (70, (nI rw2))]) (V := [(nI nd), (nI wr), (nI dc), (nI fd), (nI md), ra2, (nI rw2), (nI nd), (nI wr), (nI dc), (nI fd), (nI md), ra2, (nI rw2)]) rfl rfl (show (updA (updA B 21 yc2) 21 (upd yc2 y2 1)) = (updA B 21 (upd yc2 y2 1)) from updsA_eq2 (F := B) (l1 := [(21, yc2), (21, (upd yc2 y2 1))]) (l2 := [(21, (upd yc2 y2 1))]) (V := [(upd yc2 y2 1), (upd yc2 y2 1), (upd yc2 y2 1)]) rfl rfl) hP
                              have hD : va_D A (mW G h0 a (upd (upd (upd (upd (upd (upd (upd F 27 (nI nd)) 31 (nI wr)) 35 (nI dc)) 44 (nI fd)) 49 (nI md)) 69 ra2) 70 (nI rw2)) (updA B 21 (upd yc2 y2 1))) := mW_D hD
                              exact ih_y (y2 + 1) rw2 ra2 (upd yc2 y2 1) _ _ _ (by omega) (by omega) (by omega) (by omega) (fun _ => hcd (by omega)) (fun _ => all_upd (p := fun _ z => tyOK dc z) (hyq (by omega)) (tyOK.base (x := 1) rfl (Or.inl rfl))) hP hD hS (lv_sub hl [0, 3] rfl)
                            · refine lv_sipush (v := 1000) hx hb dX12_firstRound_281 (by decide) ?_
                              refine lv_iload_n hx hb dX12_firstRound_284 rfl (lv_at hl 0 rfl) ?_
                              refine lv_iadd hx hb dX12_firstRound_285 ?_
                              refine lv_topi (fun x105 e106 => ?_)
                              obtain rfl : x105 = 1001 := e106.trans (by decide)
                              refine lv_goto (tgt := 290) hx hb dX12_firstRound_286 (by decide) ?_
                              refine r_sti (f := yc2) (j := y2) hx hb hE hP hD hS 21 (ma_21 G a _) rfl (mas_21 G a _) (by omega) (by decide) dX12_firstRound_290 (fun H locs hP hD hS => ?_)
                              refine lv_iinc (v := (nI (y2 + 1))) (lv' := [(1, .int (nI (y2 + 1))), (3, .int 1), (2, .int ((B 2) t76)), (0, .ref h0)]) hx hb dX12_firstRound_291 hl (k := 2) rfl (nI_1 y2) (by decide) rfl (fun ls hl => ?_)
                              refine lv_goto (tgt := 211) hx hb dX12_firstRound_294 (by decide) ?_
                              have hP : va_P G.1 pCl (mW G h0 a (upd (upd (upd (upd (upd (upd (upd F 27 (nI nd)) 31 (nI wr)) 35 (nI dc)) 44 (nI fd)) 49 (nI md)) 69 ra2) 70 (nI rw2)) (updA B 21 (upd yc2 y2 1001))) _ := mW_to (F := F) (l1 := [(27, (nI nd)), (31, (nI wr)), (35, (nI dc)), (44, (nI fd)), (49, (nI md)), (69, ra2), (70, (nI rw2))]) (l2 := [(27, (nI nd)), (31, (nI wr)), (35, (nI dc)), (44, (nI fd)), (49, (nI md)), (69, ra2), (70, (nI rw2))]) (V := [(nI nd), (nI wr), (nI dc), (nI fd), (nI md), ra2, (nI rw2), (nI nd), (nI wr), (nI dc), (nI fd), (nI md), ra2, (nI rw2)]) rfl rfl (show (updA (updA B 21 yc2) 21 (upd yc2 y2 1001)) = (updA B 21 (upd yc2 y2 1001)) from updsA_eq2 (F := B) (l1 := [(21, yc2), (21, (upd yc2 y2 1001))]) (l2 := [(21, (upd yc2 y2 1001))]) (V := [(upd yc2 y2 1001), (upd yc2 y2 1001), (upd yc2 y2 1001)]) rfl rfl) hP
                              have hD : va_D A (mW G h0 a (upd (upd (upd (upd (upd (upd (upd F 27 (nI nd)) 31 (nI wr)) 35 (nI dc)) 44 (nI fd)) 49 (nI md)) 69 ra2) 70 (nI rw2)) (updA B 21 (upd yc2 y2 1001))) := mW_D hD
                              exact ih_y (y2 + 1) rw2 ra2 (upd yc2 y2 1001) _ _ _ (by omega) (by omega) (by omega) (by omega) (fun _ => hcd (by omega)) (fun _ => all_upd (p := fun _ z => tyOK dc z) (hyq (by omega)) (⟨1001, rfl, Or.inr ⟨by omega, Or.inl rfl⟩⟩)) hP hD hS (lv_sub hl [0, 3] rfl)
                    have hP : va_P G.1 pCl (mW G h0 a (upd (upd (upd (upd (upd (upd (upd F 27 (nI nd)) 31 (nI wr)) 35 (nI dc)) 44 (nI fd)) 49 (nI md)) 69 ra2) 70 (nI rw2)) (updA B 21 (B 21))) _ := mW_to (F := F) (l1 := [(27, (nI nd)), (31, (nI wr)), (35, (nI dc)), (44, (nI fd)), (49, (nI md)), (69, ra2), (70, (nI rw2))]) (l2 := [(27, (nI nd)), (31, (nI wr)), (35, (nI dc)), (44, (nI fd)), (49, (nI md)), (69, ra2), (70, (nI rw2))]) (V := [(nI nd), (nI wr), (nI dc), (nI fd), (nI md), ra2, (nI rw2), (nI nd), (nI wr), (nI dc), (nI fd), (nI md), ra2, (nI rw2)]) rfl rfl (show B = (updA B 21 (B 21)) from updsA_eq2 (F := B) (l1 := []) (l2 := [(21, (B 21))]) (V := [(B 21)]) rfl rfl) hP
                    have hD : va_D A (mW G h0 a (upd (upd (upd (upd (upd (upd (upd F 27 (nI nd)) 31 (nI wr)) 35 (nI dc)) 44 (nI fd)) 49 (nI md)) 69 ra2) 70 (nI rw2)) (updA B 21 (B 21))) := mW_D hD
                    exact loop_y (wr + 1) 0 rw2 ra2 (B 21) _ _ _ (by omega) (by omega) (by omega) (by omega) (fun _ => hcd (by omega)) (fun _ y h => absurd h (by omega)) hP hD hS (lv_sub hl [0, 1] rfl)
                  · have n107 : ¬ (md ≤ m2) := fun h9 => c5 ((nI_leI (a := md) (b := m2) (by omega) (by omega)).mpr h9)
                    refine lv_iconst (v := 0) hx hb dX12_firstRound_149 (by decide) ?_
                    refine lv_istore_n (lv' := [(2, .int 0), (1, .int (nI m2)), (0, .ref h0)]) hx hb dX12_firstRound_150 rfl hl (by decide) rfl (fun ls hl => ?_)
                    have loop_mi : ∀ (n_mi : Nat) (o2 : Nat) (rw2 : Nat) (ra2 : Int32) (H : Heap) (locs : List Loc) (ls : Array Slot), o2 ≤ m2 → m2 + 1 ≤ o2 + n_mi → (rw ≤ 15 * rw2) → (rw2 ≤ 15) → (If (rw2 = 0) (∀ d : Nat, d < dc → CnD B dc lz T d)) → va_P G.1 pCl (mW G h0 a (upd (upd (upd (upd (upd (upd (upd F 27 (nI nd)) 31 (nI wr)) 35 (nI dc)) 44 (nI fd)) 49 (nI md)) 69 ra2) 70 (nI rw2)) B) H → va_D A (mW G h0 a (upd (upd (upd (upd (upd (upd (upd F 27 (nI nd)) 31 (nI wr)) 35 (nI dc)) 44 (nI fd)) 49 (nI md)) 69 ra2) 70 (nI rw2)) B) → va_S A s.heap H locs → lv_has ls 4 [(2, .int (nI o2)), (1, .int (nI m2)), (0, .ref h0)] → W p l e (headSpec (Cond.code yX12_firstRound cX12_firstRound 4 none :: pw) ({ frames := 5, cells := 0, slots := 0, locals := 131 } : Room)).room s m ([.ref h0] : List Value).toArray below meth c H locs 0 0 (MQ below (pQ G A (fun (v : Option Value) (u : Nat × Int32 × (Nat → Int32) × (Nat → Int32)) => v = none ∧ (rw ≤ 15 * u.1) ∧ (u.1 ≤ 15) ∧ (If (u.1 = 0) (∀ d : Nat, d < dc → CnD B dc lz T d)) ∧ (If (u.1 = 0) (∀ y : Nat, y < wr → tyOK dc (u.2.2.1 y))) ∧ (If (u.1 = 0) (∀ n : Nat, n < nd → nwOK (B 9 n) (B 26) dc (u.2.2.2 n)))) (fun u => (mW G h0 a (upd (upd (upd (upd (upd (upd (upd F 27 (nI nd)) 31 (nI wr)) 35 (nI dc)) 44 (nI fd)) 49 (nI md)) 69 u.2.1) 70 (nI u.1)) (updA (updA B 18 u.2.2.2) 21 u.2.2.1)))) ([.ref h0] : List Value).toArray s ({ frames := 5, cells := 0, slots := 0, locals := 131 } : Room).cells ({ frames := 5, cells := 0, slots := 0, locals := 131 } : Room).slots A) (F0 m 151 ls []) := by
                      intro n_mi
                      induction n_mi with
                      | zero => intro o2 rw2 ra2 H locs ls hk_mi hn_mi; omega
                      | succ n_mi ih_mi =>
                        intro o2 rw2 ra2 H locs ls hk_mi hn_mi hw1 hw2 hcd hP hD hS hl
                        refine lv_iload_n hx hb dX12_firstRound_151 rfl (lv_at hl 0 rfl) ?_
                        refine lv_iload_n hx hb dX12_firstRound_152 rfl (lv_at hl 1 rfl) ?_
                        refine lv_icmp_ge (tgt := 203) hx hb dX12_firstRound_153 (by decide) (fun c108 => ?_) (fun c108 => ?_)
                        · have n109 : m2 ≤ o2 := (nI_leI (a := m2) (b := o2) (by omega) (by omega)).mp c108
                          refine lv_iinc (v := (nI (m2 + 1))) (lv' := [(1, .int (nI (m2 + 1))), (2, .int (nI o2)), (0, .ref h0)]) hx hb dX12_firstRound_203 hl (k := 1) rfl (nI_1 m2) (by decide) rfl (fun ls hl => ?_)
                          refine lv_goto (tgt := 141) hx hb dX12_firstRound_206 (by decide) ?_
                          have hP : va_P G.1 pCl (mW G h0 a (upd (upd (upd (upd (upd (upd (upd F 27 (nI nd)) 31 (nI wr)) 35 (nI dc)) 44 (nI fd)) 49 (nI md)) 69 ra2) 70 (nI rw2)) B) _ := hP
                          have hD : va_D A (mW G h0 a (upd (upd (upd (upd (upd (upd (upd F 27 (nI nd)) 31 (nI wr)) 35 (nI dc)) 44 (nI fd)) 49 (nI md)) 69 ra2) 70 (nI rw2)) B) := mW_D hD
                          exact ih_m (m2 + 1) rw2 ra2 _ _ _ (by omega) (by omega) (by omega) (by omega) (fun _ => hcd (by omega)) hP hD hS (lv_sub hl [0, 2] rfl)
                        · have n110 : ¬ (m2 ≤ o2) := fun h9 => c108 ((nI_leI (a := m2) (b := o2) (by omega) (by omega)).mpr h9)
                          refine lv_aload_n hx hb dX12_firstRound_156 rfl (lv_at hl 2 rfl) ?_
                          refine r_get (v := .ref (a 36)) hx hb hown hq hE hP 50 120 tFX12_50 (by decide) pw_1467 rfl dX12_firstRound_157 ?_
                          refine lv_iload_n hx hb dX12_firstRound_160 rfl (lv_at hl 0 rfl) ?_
                          refine r_ldi (f := (B 36)) (j := o2) hx hb hE hP 36 (ma_36 G a _) rfl (by omega) (by decide) dX12_firstRound_161 ?_
                          refine lv_aload_n hx hb dX12_firstRound_162 rfl (lv_at hl 2 rfl) ?_
                          refine r_get (v := .ref (a 36)) hx hb hown hq hE hP 50 120 tFX12_50 (by decide) pw_1467 rfl dX12_firstRound_163 ?_
                          refine lv_iload_n hx hb dX12_firstRound_166 rfl (lv_at hl 1 rfl) ?_
                          refine r_ldi (f := (B 36)) (j := m2) hx hb hE hP 36 (ma_36 G a _) rfl (by omega) (by decide) dX12_firstRound_167 ?_
                          refine lv_icmp_ne (tgt := 197) hx hb dX12_firstRound_168 (by decide) (fun c111 => ?_) (fun c111 => ?_)
                          · refine lv_iinc (v := (nI (o2 + 1))) (lv' := [(2, .int (nI (o2 + 1))), (1, .int (nI m2)), (0, .ref h0)]) hx hb dX12_firstRound_197 hl (k := 0) rfl (nI_1 o2) (by decide) rfl (fun ls hl => ?_)
                            refine lv_goto (tgt := 151) hx hb dX12_firstRound_200 (by decide) ?_
                            have hP : va_P G.1 pCl (mW G h0 a (upd (upd (upd (upd (upd (upd (upd F 27 (nI nd)) 31 (nI wr)) 35 (nI dc)) 44 (nI fd)) 49 (nI md)) 69 ra2) 70 (nI rw2)) B) _ := hP
                            have hD : va_D A (mW G h0 a (upd (upd (upd (upd (upd (upd (upd F 27 (nI nd)) 31 (nI wr)) 35 (nI dc)) 44 (nI fd)) 49 (nI md)) 69 ra2) 70 (nI rw2)) B) := mW_D hD
                            exact ih_mi (o2 + 1) rw2 ra2 _ _ _ (by omega) (by omega) (by omega) (by omega) (fun _ => hcd (by omega)) hP hD hS (lv_sub hl [0, 1, 2] rfl)
                          · refine lv_aload_n hx hb dX12_firstRound_171 rfl (lv_at hl 2 rfl) ?_
                            refine r_get (v := .ref (a 37)) hx hb hown hq hE hP 51 123 tFX12_51 (by decide) pw_1468 rfl dX12_firstRound_172 ?_
                            refine lv_iload_n hx hb dX12_firstRound_175 rfl (lv_at hl 0 rfl) ?_
                            refine r_ldi (f := (B 37)) (j := o2) hx hb hE hP 37 (ma_37 G a _) rfl (by omega) (by decide) dX12_firstRound_176 ?_
                            refine lv_aload_n hx hb dX12_firstRound_177 rfl (lv_at hl 2 rfl) ?_
                            refine r_get (v := .ref (a 37)) hx hb hown hq hE hP 51 123 tFX12_51 (by decide) pw_1468 rfl dX12_firstRound_178 ?_
                            refine lv_iload_n hx hb dX12_firstRound_181 rfl (lv_at hl 1 rfl) ?_
                            refine r_ldi (f := (B 37)) (j := m2) hx hb hE hP 37 (ma_37 G a _) rfl (by omega) (by decide) dX12_firstRound_182 ?_
                            refine lv_icmp_ne (tgt := 197) hx hb dX12_firstRound_183 (by decide) (fun c112 => ?_) (fun c112 => ?_)
                            · refine lv_iinc (v := (nI (o2 + 1))) (lv' := [(2, .int (nI (o2 + 1))), (1, .int (nI m2)), (0, .ref h0)]) hx hb dX12_firstRound_197 hl (k := 0) rfl (nI_1 o2) (by decide) rfl (fun ls hl => ?_)
                              refine lv_goto (tgt := 151) hx hb dX12_firstRound_200 (by decide) ?_
                              have hP : va_P G.1 pCl (mW G h0 a (upd (upd (upd (upd (upd (upd (upd F 27 (nI nd)) 31 (nI wr)) 35 (nI dc)) 44 (nI fd)) 49 (nI md)) 69 ra2) 70 (nI rw2)) B) _ := hP
                              have hD : va_D A (mW G h0 a (upd (upd (upd (upd (upd (upd (upd F 27 (nI nd)) 31 (nI wr)) 35 (nI dc)) 44 (nI fd)) 49 (nI md)) 69 ra2) 70 (nI rw2)) B) := mW_D hD
                              exact ih_mi (o2 + 1) rw2 ra2 _ _ _ (by omega) (by omega) (by omega) (by omega) (fun _ => hcd (by omega)) hP hD hS (lv_sub hl [0, 1, 2] rfl)
                            · refine lv_aload_n hx hb dX12_firstRound_186 rfl (lv_at hl 2 rfl) ?_
                              refine lv_iconst (v := 3) hx hb dX12_firstRound_187 (by decide) ?_
                              refine lv_aload_n hx hb dX12_firstRound_188 rfl (lv_at hl 2 rfl) ?_
                              refine r_get (v := .ref (a 38)) hx hb hown hq hE hP 52 126 tFX12_52 (by decide) pw_1469 rfl dX12_firstRound_189 ?_
                              refine lv_iload_n hx hb dX12_firstRound_192 rfl (lv_at hl 1 rfl) ?_
                              refine r_ldi (f := (B 38)) (j := m2) hx hb hE hP 38 (ma_38 G a _) rfl (by omega) (by decide) dX12_firstRound_193 ?_
                              obtain ⟨d116, -, -, -, -, ⟨t113, e115, h114⟩, -⟩ := hps.2.2.1 m2 (by omega)
                              refine lv_topi (fun x117 e118 => ?_)
                              obtain rfl : x117 = nI t113 := e118.trans e115
                              have hP : va_P G.1 pCl (mW G h0 a (upd (upd (upd (upd (upd (upd (upd (upd (upd F 27 (nI nd)) 31 (nI wr)) 35 (nI dc)) 44 (nI fd)) 49 (nI md)) 69 ra2) 70 (nI rw2)) 69 ra2) 70 (nI rw2)) B) _ := mW_to (F := F) (l1 := [(27, (nI nd)), (31, (nI wr)), (35, (nI dc)), (44, (nI fd)), (49, (nI md)), (69, ra2), (70, (nI rw2))]) (l2 := [(27, (nI nd)), (31, (nI wr)), (35, (nI dc)), (44, (nI fd)), (49, (nI md)), (69, ra2), (70, (nI rw2)), (69, ra2), (70, (nI rw2))]) (V := [(nI nd), (nI wr), (nI dc), (nI fd), (nI md), ra2, (nI rw2), (nI nd), (nI wr), (nI dc), (nI fd), (nI md), ra2, (nI rw2), ra2, (nI rw2)]) rfl rfl rfl hP
                              have hD : va_D A (mW G h0 a (upd (upd (upd (upd (upd (upd (upd (upd (upd F 27 (nI nd)) 31 (nI wr)) 35 (nI dc)) 44 (nI fd)) 49 (nI md)) 69 ra2) 70 (nI rw2)) 69 ra2) 70 (nI rw2)) B) := mW_D hD
                              refine pc_V0 (G := G) (As := [.int (nI 3), .int (nI t113)]) (rest := []) hx hb hml hown hq hE hX pX0_al hP hD hS hA hl.1 (R_note l G h0 a (upd (upd (upd (upd (upd (upd (upd F 27 (nI nd)) 31 (nI wr)) 35 (nI dc)) 44 (nI fd)) 49 (nI md)) 69 ra2) 70 (nI rw2)) B 3 t113 rw2 ra2 (by omega) (by omega) (by omega)) (gV pw_1749 pw_1750 pw_1751 pw_1523 pw_1740) hV_X12_note 0 9 rfl rfl rfl rfl (Nat.le_of_ble_eq_true rfl) dX12_firstRound_194 ⟨Nat.le_of_ble_eq_true rfl, Nat.le_of_ble_eq_true rfl⟩ ⟨Nat.le_of_ble_eq_true rfl, Nat.le_of_ble_eq_true rfl⟩ (fun v121 u119 H locs hw120 hP hD hS => ?_)
                              obtain ⟨rw122, ra123⟩ := u119
                              obtain ⟨hw120, h124, h125⟩ := hw120
                              replace h124 : 0 < rw122 := h124
                              replace h125 : rw122 ≤ 15 := h125
                              obtain rfl : v121 = none := hw120
                              have hP : va_P G.1 pCl (mW G h0 a (upd (upd (upd (upd (upd (upd (upd F 27 (nI nd)) 31 (nI wr)) 35 (nI dc)) 44 (nI fd)) 49 (nI md)) 69 ra123) 70 (nI rw122)) B) _ := mW_to (F := F) (l1 := [(27, (nI nd)), (31, (nI wr)), (35, (nI dc)), (44, (nI fd)), (49, (nI md)), (69, ra2), (70, (nI rw2)), (69, ra123), (70, (nI rw122))]) (l2 := [(27, (nI nd)), (31, (nI wr)), (35, (nI dc)), (44, (nI fd)), (49, (nI md)), (69, ra123), (70, (nI rw122))]) (V := [(nI nd), (nI wr), (nI dc), (nI fd), (nI md), ra123, (nI rw122), ra123, (nI rw122), (nI nd), (nI wr), (nI dc), (nI fd), (nI md), ra123, (nI rw122)]) rfl rfl rfl hP
                              have hD : va_D A (mW G h0 a (upd (upd (upd (upd (upd (upd (upd F 27 (nI nd)) 31 (nI wr)) 35 (nI dc)) 44 (nI fd)) 49 (nI md)) 69 ra123) 70 (nI rw122)) B) := mW_D hD
                              refine W.widen (k := 0) (n := 0) (Nat.le_of_ble_eq_true rfl) (Nat.le_of_ble_eq_true rfl) ?_
                              refine W.eq (g2 := F0 m 197 ls []) rfl ?_
                              refine lv_iinc (v := (nI (o2 + 1))) (lv' := [(2, .int (nI (o2 + 1))), (1, .int (nI m2)), (0, .ref h0)]) hx hb dX12_firstRound_197 hl (k := 0) rfl (nI_1 o2) (by decide) rfl (fun ls hl => ?_)
                              refine lv_goto (tgt := 151) hx hb dX12_firstRound_200 (by decide) ?_
                              have hP : va_P G.1 pCl (mW G h0 a (upd (upd (upd (upd (upd (upd (upd F 27 (nI nd)) 31 (nI wr)) 35 (nI dc)) 44 (nI fd)) 49 (nI md)) 69 ra123) 70 (nI rw122)) B) _ := hP
                              have hD : va_D A (mW G h0 a (upd (upd (upd (upd (upd (upd (upd F 27 (nI nd)) 31 (nI wr)) 35 (nI dc)) 44 (nI fd)) 49 (nI md)) 69 ra123) 70 (nI rw122)) B) := mW_D hD
                              exact ih_mi (o2 + 1) rw122 ra123 _ _ _ (by omega) (by omega) (by omega) (by omega) (fun _ => hcd (by omega)) hP hD hS (lv_sub hl [0, 1, 2] rfl)
                    have hP : va_P G.1 pCl (mW G h0 a (upd (upd (upd (upd (upd (upd (upd F 27 (nI nd)) 31 (nI wr)) 35 (nI dc)) 44 (nI fd)) 49 (nI md)) 69 ra2) 70 (nI rw2)) B) _ := hP
                    have hD : va_D A (mW G h0 a (upd (upd (upd (upd (upd (upd (upd F 27 (nI nd)) 31 (nI wr)) 35 (nI dc)) 44 (nI fd)) 49 (nI md)) 69 ra2) 70 (nI rw2)) B) := mW_D hD
                    exact loop_mi (m2 + 1) 0 rw2 ra2 _ _ _ (by omega) (by omega) (by omega) (by omega) (fun _ => hcd (by omega)) hP hD hS (lv_sub hl [0, 1, 2] rfl)
              have hP : va_P G.1 pCl (mW G h0 a (upd (upd (upd (upd (upd (upd (upd F 27 (nI nd)) 31 (nI wr)) 35 (nI dc)) 44 (nI fd)) 49 (nI md)) 69 ra2) 70 (nI rw2)) B) _ := hP
              have hD : va_D A (mW G h0 a (upd (upd (upd (upd (upd (upd (upd F 27 (nI nd)) 31 (nI wr)) 35 (nI dc)) 44 (nI fd)) 49 (nI md)) 69 ra2) 70 (nI rw2)) B) := mW_D hD
              exact loop_m (md + 1) 0 rw2 ra2 _ _ _ (by omega) (by omega) (by omega) (by omega) (fun _ d h => hcd (by omega) d (by omega)) hP hD hS (lv_sub hl [0, 1] rfl)
            · have n126 : ¬ (fd ≤ f2) := fun h9 => c3 ((nI_leI (a := fd) (b := f2) (by omega) (by omega)).mpr h9)
              refine lv_iconst (v := 0) hx hb dX12_firstRound_79 (by decide) ?_
              refine lv_istore_n (lv' := [(2, .int 0), (1, .int (nI f2)), (0, .ref h0)]) hx hb dX12_firstRound_80 rfl hl (by decide) rfl (fun ls hl => ?_)
              have loop_fi : ∀ (n_fi : Nat) (o2 : Nat) (rw2 : Nat) (ra2 : Int32) (H : Heap) (locs : List Loc) (ls : Array Slot), o2 ≤ f2 → f2 + 1 ≤ o2 + n_fi → (rw ≤ 15 * rw2) → (rw2 ≤ 15) → (If (rw2 = 0) (∀ d : Nat, d < dc → CnD B dc lz T d)) → va_P G.1 pCl (mW G h0 a (upd (upd (upd (upd (upd (upd (upd F 27 (nI nd)) 31 (nI wr)) 35 (nI dc)) 44 (nI fd)) 49 (nI md)) 69 ra2) 70 (nI rw2)) B) H → va_D A (mW G h0 a (upd (upd (upd (upd (upd (upd (upd F 27 (nI nd)) 31 (nI wr)) 35 (nI dc)) 44 (nI fd)) 49 (nI md)) 69 ra2) 70 (nI rw2)) B) → va_S A s.heap H locs → lv_has ls 4 [(2, .int (nI o2)), (1, .int (nI f2)), (0, .ref h0)] → W p l e (headSpec (Cond.code yX12_firstRound cX12_firstRound 4 none :: pw) ({ frames := 5, cells := 0, slots := 0, locals := 131 } : Room)).room s m ([.ref h0] : List Value).toArray below meth c H locs 0 0 (MQ below (pQ G A (fun (v : Option Value) (u : Nat × Int32 × (Nat → Int32) × (Nat → Int32)) => v = none ∧ (rw ≤ 15 * u.1) ∧ (u.1 ≤ 15) ∧ (If (u.1 = 0) (∀ d : Nat, d < dc → CnD B dc lz T d)) ∧ (If (u.1 = 0) (∀ y : Nat, y < wr → tyOK dc (u.2.2.1 y))) ∧ (If (u.1 = 0) (∀ n : Nat, n < nd → nwOK (B 9 n) (B 26) dc (u.2.2.2 n)))) (fun u => (mW G h0 a (upd (upd (upd (upd (upd (upd (upd F 27 (nI nd)) 31 (nI wr)) 35 (nI dc)) 44 (nI fd)) 49 (nI md)) 69 u.2.1) 70 (nI u.1)) (updA (updA B 18 u.2.2.2) 21 u.2.2.1)))) ([.ref h0] : List Value).toArray s ({ frames := 5, cells := 0, slots := 0, locals := 131 } : Room).cells ({ frames := 5, cells := 0, slots := 0, locals := 131 } : Room).slots A) (F0 m 81 ls []) := by
                intro n_fi
                induction n_fi with
                | zero => intro o2 rw2 ra2 H locs ls hk_fi hn_fi; omega
                | succ n_fi ih_fi =>
                  intro o2 rw2 ra2 H locs ls hk_fi hn_fi hw1 hw2 hcd hP hD hS hl
                  refine lv_iload_n hx hb dX12_firstRound_81 rfl (lv_at hl 0 rfl) ?_
                  refine lv_iload_n hx hb dX12_firstRound_82 rfl (lv_at hl 1 rfl) ?_
                  refine lv_icmp_ge (tgt := 133) hx hb dX12_firstRound_83 (by decide) (fun c127 => ?_) (fun c127 => ?_)
                  · have n128 : f2 ≤ o2 := (nI_leI (a := f2) (b := o2) (by omega) (by omega)).mp c127
                    refine lv_iinc (v := (nI (f2 + 1))) (lv' := [(1, .int (nI (f2 + 1))), (2, .int (nI o2)), (0, .ref h0)]) hx hb dX12_firstRound_133 hl (k := 1) rfl (nI_1 f2) (by decide) rfl (fun ls hl => ?_)
                    refine lv_goto (tgt := 71) hx hb dX12_firstRound_136 (by decide) ?_
                    have hP : va_P G.1 pCl (mW G h0 a (upd (upd (upd (upd (upd (upd (upd F 27 (nI nd)) 31 (nI wr)) 35 (nI dc)) 44 (nI fd)) 49 (nI md)) 69 ra2) 70 (nI rw2)) B) _ := hP
                    have hD : va_D A (mW G h0 a (upd (upd (upd (upd (upd (upd (upd F 27 (nI nd)) 31 (nI wr)) 35 (nI dc)) 44 (nI fd)) 49 (nI md)) 69 ra2) 70 (nI rw2)) B) := mW_D hD
                    exact ih_f (f2 + 1) rw2 ra2 _ _ _ (by omega) (by omega) (by omega) (by omega) (fun _ => hcd (by omega)) hP hD hS (lv_sub hl [0, 2] rfl)
                  · have n129 : ¬ (f2 ≤ o2) := fun h9 => c127 ((nI_leI (a := f2) (b := o2) (by omega) (by omega)).mpr h9)
                    refine lv_aload_n hx hb dX12_firstRound_86 rfl (lv_at hl 2 rfl) ?_
                    refine r_get (v := .ref (a 32)) hx hb hown hq hE hP 45 108 tFX12_45 (by decide) pw_1463 rfl dX12_firstRound_87 ?_
                    refine lv_iload_n hx hb dX12_firstRound_90 rfl (lv_at hl 0 rfl) ?_
                    refine r_ldi (f := (B 32)) (j := o2) hx hb hE hP 32 (ma_32 G a _) rfl (by omega) (by decide) dX12_firstRound_91 ?_
                    refine lv_aload_n hx hb dX12_firstRound_92 rfl (lv_at hl 2 rfl) ?_
                    refine r_get (v := .ref (a 32)) hx hb hown hq hE hP 45 108 tFX12_45 (by decide) pw_1463 rfl dX12_firstRound_93 ?_
                    refine lv_iload_n hx hb dX12_firstRound_96 rfl (lv_at hl 1 rfl) ?_
                    refine r_ldi (f := (B 32)) (j := f2) hx hb hE hP 32 (ma_32 G a _) rfl (by omega) (by decide) dX12_firstRound_97 ?_
                    refine lv_icmp_ne (tgt := 127) hx hb dX12_firstRound_98 (by decide) (fun c130 => ?_) (fun c130 => ?_)
                    · refine lv_iinc (v := (nI (o2 + 1))) (lv' := [(2, .int (nI (o2 + 1))), (1, .int (nI f2)), (0, .ref h0)]) hx hb dX12_firstRound_127 hl (k := 0) rfl (nI_1 o2) (by decide) rfl (fun ls hl => ?_)
                      refine lv_goto (tgt := 81) hx hb dX12_firstRound_130 (by decide) ?_
                      have hP : va_P G.1 pCl (mW G h0 a (upd (upd (upd (upd (upd (upd (upd F 27 (nI nd)) 31 (nI wr)) 35 (nI dc)) 44 (nI fd)) 49 (nI md)) 69 ra2) 70 (nI rw2)) B) _ := hP
                      have hD : va_D A (mW G h0 a (upd (upd (upd (upd (upd (upd (upd F 27 (nI nd)) 31 (nI wr)) 35 (nI dc)) 44 (nI fd)) 49 (nI md)) 69 ra2) 70 (nI rw2)) B) := mW_D hD
                      exact ih_fi (o2 + 1) rw2 ra2 _ _ _ (by omega) (by omega) (by omega) (by omega) (fun _ => hcd (by omega)) hP hD hS (lv_sub hl [0, 1, 2] rfl)
                    · refine lv_aload_n hx hb dX12_firstRound_101 rfl (lv_at hl 2 rfl) ?_
                      refine r_get (v := .ref (a 33)) hx hb hown hq hE hP 46 111 tFX12_46 (by decide) pw_1464 rfl dX12_firstRound_102 ?_
                      refine lv_iload_n hx hb dX12_firstRound_105 rfl (lv_at hl 0 rfl) ?_
                      refine r_ldi (f := (B 33)) (j := o2) hx hb hE hP 33 (ma_33 G a _) rfl (by omega) (by decide) dX12_firstRound_106 ?_
                      refine lv_aload_n hx hb dX12_firstRound_107 rfl (lv_at hl 2 rfl) ?_
                      refine r_get (v := .ref (a 33)) hx hb hown hq hE hP 46 111 tFX12_46 (by decide) pw_1464 rfl dX12_firstRound_108 ?_
                      refine lv_iload_n hx hb dX12_firstRound_111 rfl (lv_at hl 1 rfl) ?_
                      refine r_ldi (f := (B 33)) (j := f2) hx hb hE hP 33 (ma_33 G a _) rfl (by omega) (by decide) dX12_firstRound_112 ?_
                      refine lv_icmp_ne (tgt := 127) hx hb dX12_firstRound_113 (by decide) (fun c131 => ?_) (fun c131 => ?_)
                      · refine lv_iinc (v := (nI (o2 + 1))) (lv' := [(2, .int (nI (o2 + 1))), (1, .int (nI f2)), (0, .ref h0)]) hx hb dX12_firstRound_127 hl (k := 0) rfl (nI_1 o2) (by decide) rfl (fun ls hl => ?_)
                        refine lv_goto (tgt := 81) hx hb dX12_firstRound_130 (by decide) ?_
                        have hP : va_P G.1 pCl (mW G h0 a (upd (upd (upd (upd (upd (upd (upd F 27 (nI nd)) 31 (nI wr)) 35 (nI dc)) 44 (nI fd)) 49 (nI md)) 69 ra2) 70 (nI rw2)) B) _ := hP
                        have hD : va_D A (mW G h0 a (upd (upd (upd (upd (upd (upd (upd F 27 (nI nd)) 31 (nI wr)) 35 (nI dc)) 44 (nI fd)) 49 (nI md)) 69 ra2) 70 (nI rw2)) B) := mW_D hD
                        exact ih_fi (o2 + 1) rw2 ra2 _ _ _ (by omega) (by omega) (by omega) (by omega) (fun _ => hcd (by omega)) hP hD hS (lv_sub hl [0, 1, 2] rfl)
                      · refine lv_aload_n hx hb dX12_firstRound_116 rfl (lv_at hl 2 rfl) ?_
                        refine lv_iconst (v := 3) hx hb dX12_firstRound_117 (by decide) ?_
                        refine lv_aload_n hx hb dX12_firstRound_118 rfl (lv_at hl 2 rfl) ?_
                        refine r_get (v := .ref (a 34)) hx hb hown hq hE hP 47 114 tFX12_47 (by decide) pw_1465 rfl dX12_firstRound_119 ?_
                        refine lv_iload_n hx hb dX12_firstRound_122 rfl (lv_at hl 1 rfl) ?_
                        refine r_ldi (f := (B 34)) (j := f2) hx hb hE hP 34 (ma_34 G a _) rfl (by omega) (by decide) dX12_firstRound_123 ?_
                        obtain ⟨t132, e134, h133⟩ := (hps.2.1 f2 (by omega)).2.1
                        refine lv_topi (fun x135 e136 => ?_)
                        obtain rfl : x135 = nI t132 := e136.trans e134
                        have hP : va_P G.1 pCl (mW G h0 a (upd (upd (upd (upd (upd (upd (upd (upd (upd F 27 (nI nd)) 31 (nI wr)) 35 (nI dc)) 44 (nI fd)) 49 (nI md)) 69 ra2) 70 (nI rw2)) 69 ra2) 70 (nI rw2)) B) _ := mW_to (F := F) (l1 := [(27, (nI nd)), (31, (nI wr)), (35, (nI dc)), (44, (nI fd)), (49, (nI md)), (69, ra2), (70, (nI rw2))]) (l2 := [(27, (nI nd)), (31, (nI wr)), (35, (nI dc)), (44, (nI fd)), (49, (nI md)), (69, ra2), (70, (nI rw2)), (69, ra2), (70, (nI rw2))]) (V := [(nI nd), (nI wr), (nI dc), (nI fd), (nI md), ra2, (nI rw2), (nI nd), (nI wr), (nI dc), (nI fd), (nI md), ra2, (nI rw2), ra2, (nI rw2)]) rfl rfl rfl hP
                        have hD : va_D A (mW G h0 a (upd (upd (upd (upd (upd (upd (upd (upd (upd F 27 (nI nd)) 31 (nI wr)) 35 (nI dc)) 44 (nI fd)) 49 (nI md)) 69 ra2) 70 (nI rw2)) 69 ra2) 70 (nI rw2)) B) := mW_D hD
                        refine pc_V0 (G := G) (As := [.int (nI 3), .int (nI t132)]) (rest := []) hx hb hml hown hq hE hX pX0_al hP hD hS hA hl.1 (R_note l G h0 a (upd (upd (upd (upd (upd (upd (upd F 27 (nI nd)) 31 (nI wr)) 35 (nI dc)) 44 (nI fd)) 49 (nI md)) 69 ra2) 70 (nI rw2)) B 3 t132 rw2 ra2 (by omega) (by omega) (by omega)) (gV pw_1749 pw_1750 pw_1751 pw_1523 pw_1740) hV_X12_note 0 9 rfl rfl rfl rfl (Nat.le_of_ble_eq_true rfl) dX12_firstRound_124 ⟨Nat.le_of_ble_eq_true rfl, Nat.le_of_ble_eq_true rfl⟩ ⟨Nat.le_of_ble_eq_true rfl, Nat.le_of_ble_eq_true rfl⟩ (fun v139 u137 H locs hw138 hP hD hS => ?_)
                        obtain ⟨rw140, ra141⟩ := u137
                        obtain ⟨hw138, h142, h143⟩ := hw138
                        replace h142 : 0 < rw140 := h142
                        replace h143 : rw140 ≤ 15 := h143
                        obtain rfl : v139 = none := hw138
                        have hP : va_P G.1 pCl (mW G h0 a (upd (upd (upd (upd (upd (upd (upd F 27 (nI nd)) 31 (nI wr)) 35 (nI dc)) 44 (nI fd)) 49 (nI md)) 69 ra141) 70 (nI rw140)) B) _ := mW_to (F := F) (l1 := [(27, (nI nd)), (31, (nI wr)), (35, (nI dc)), (44, (nI fd)), (49, (nI md)), (69, ra2), (70, (nI rw2)), (69, ra141), (70, (nI rw140))]) (l2 := [(27, (nI nd)), (31, (nI wr)), (35, (nI dc)), (44, (nI fd)), (49, (nI md)), (69, ra141), (70, (nI rw140))]) (V := [(nI nd), (nI wr), (nI dc), (nI fd), (nI md), ra141, (nI rw140), ra141, (nI rw140), (nI nd), (nI wr), (nI dc), (nI fd), (nI md), ra141, (nI rw140)]) rfl rfl rfl hP
                        have hD : va_D A (mW G h0 a (upd (upd (upd (upd (upd (upd (upd F 27 (nI nd)) 31 (nI wr)) 35 (nI dc)) 44 (nI fd)) 49 (nI md)) 69 ra141) 70 (nI rw140)) B) := mW_D hD
                        refine W.widen (k := 0) (n := 0) (Nat.le_of_ble_eq_true rfl) (Nat.le_of_ble_eq_true rfl) ?_
                        refine W.eq (g2 := F0 m 127 ls []) rfl ?_
                        refine lv_iinc (v := (nI (o2 + 1))) (lv' := [(2, .int (nI (o2 + 1))), (1, .int (nI f2)), (0, .ref h0)]) hx hb dX12_firstRound_127 hl (k := 0) rfl (nI_1 o2) (by decide) rfl (fun ls hl => ?_)
                        refine lv_goto (tgt := 81) hx hb dX12_firstRound_130 (by decide) ?_
                        have hP : va_P G.1 pCl (mW G h0 a (upd (upd (upd (upd (upd (upd (upd F 27 (nI nd)) 31 (nI wr)) 35 (nI dc)) 44 (nI fd)) 49 (nI md)) 69 ra141) 70 (nI rw140)) B) _ := hP
                        have hD : va_D A (mW G h0 a (upd (upd (upd (upd (upd (upd (upd F 27 (nI nd)) 31 (nI wr)) 35 (nI dc)) 44 (nI fd)) 49 (nI md)) 69 ra141) 70 (nI rw140)) B) := mW_D hD
                        exact ih_fi (o2 + 1) rw140 ra141 _ _ _ (by omega) (by omega) (by omega) (by omega) (fun _ => hcd (by omega)) hP hD hS (lv_sub hl [0, 1, 2] rfl)
              have hP : va_P G.1 pCl (mW G h0 a (upd (upd (upd (upd (upd (upd (upd F 27 (nI nd)) 31 (nI wr)) 35 (nI dc)) 44 (nI fd)) 49 (nI md)) 69 ra2) 70 (nI rw2)) B) _ := hP
              have hD : va_D A (mW G h0 a (upd (upd (upd (upd (upd (upd (upd F 27 (nI nd)) 31 (nI wr)) 35 (nI dc)) 44 (nI fd)) 49 (nI md)) 69 ra2) 70 (nI rw2)) B) := mW_D hD
              exact loop_fi (f2 + 1) 0 rw2 ra2 _ _ _ (by omega) (by omega) (by omega) (by omega) (fun _ => hcd (by omega)) hP hD hS (lv_sub hl [0, 1, 2] rfl)
        have hP : va_P G.1 pCl (mW G h0 a (upd (upd (upd (upd (upd (upd (upd F 27 (nI nd)) 31 (nI wr)) 35 (nI dc)) 44 (nI fd)) 49 (nI md)) 69 ra2) 70 (nI rw2)) B) _ := hP
        have hD : va_D A (mW G h0 a (upd (upd (upd (upd (upd (upd (upd F 27 (nI nd)) 31 (nI wr)) 35 (nI dc)) 44 (nI fd)) 49 (nI md)) 69 ra2) 70 (nI rw2)) B) := mW_D hD
        exact loop_f (fd + 1) 0 rw2 ra2 _ _ _ (by omega) (by omega) (by omega) (by omega) (fun _ d h => hcd (by omega) d (by omega)) hP hD hS (lv_sub hl [0, 1] rfl)
      · have n144 : ¬ (dc ≤ d2) := fun h9 => c1 ((nI_leI (a := dc) (b := d2) (by omega) (by omega)).mpr h9)
        refine lv_aload_n hx hb dX12_firstRound_11 rfl (lv_at hl 1 rfl) ?_
        refine lv_aload_n hx hb dX12_firstRound_12 rfl (lv_at hl 1 rfl) ?_
        refine r_get (v := .ref (a 24)) hx hb hown hq hE hP 36 84 tFX12_36 (by decide) pw_1455 rfl dX12_firstRound_13 ?_
        refine lv_iload_n hx hb dX12_firstRound_16 rfl (lv_at hl 0 rfl) ?_
        refine r_ldi (f := (B 24)) (j := d2) hx hb hE hP 24 (ma_24 G a _) rfl (by omega) (by decide) dX12_firstRound_17 ?_
        have hP : va_P G.1 pCl (mW G h0 a (upd (upd (upd (upd (upd (upd (upd (upd F 27 (nI nd)) 31 (nI wr)) 35 (nI dc)) 44 (nI fd)) 49 (nI md)) 69 ra2) 70 (nI rw2)) 35 (nI dc)) (updA B 24 (B 24))) _ := mW_to (F := F) (l1 := [(27, (nI nd)), (31, (nI wr)), (35, (nI dc)), (44, (nI fd)), (49, (nI md)), (69, ra2), (70, (nI rw2))]) (l2 := [(27, (nI nd)), (31, (nI wr)), (35, (nI dc)), (44, (nI fd)), (49, (nI md)), (69, ra2), (70, (nI rw2)), (35, (nI dc))]) (V := [(nI nd), (nI wr), (nI dc), (nI fd), (nI md), ra2, (nI rw2), (nI nd), (nI wr), (nI dc), (nI fd), (nI md), ra2, (nI rw2), (nI dc)]) rfl rfl (show B = (updA B 24 (B 24)) from updsA_eq2 (F := B) (l1 := []) (l2 := [(24, (B 24))]) (V := [(B 24)]) rfl rfl) hP
        have hD : va_D A (mW G h0 a (upd (upd (upd (upd (upd (upd (upd (upd F 27 (nI nd)) 31 (nI wr)) 35 (nI dc)) 44 (nI fd)) 49 (nI md)) 69 ra2) 70 (nI rw2)) 35 (nI dc)) (updA B 24 (B 24))) := mW_D hD
        refine pc_V0 (G := G) (As := [.int ((B 24) d2)]) (rest := []) hx hb hml hown hq hE hX pX0_al hP hD hS hA hl.1 (R_declOf l G h0 a (upd (upd (upd (upd (upd (upd (upd F 27 (nI nd)) 31 (nI wr)) 35 (nI dc)) 44 (nI fd)) 49 (nI md)) 69 ra2) 70 (nI rw2)) B ((B 24) d2) dc (B 24) (by omega)) (gV pw_1746 pw_1747 pw_1748 pw_1523 pw_1744) hV_X12_declOf 0 9 rfl rfl rfl rfl (Nat.le_of_ble_eq_true rfl) dX12_firstRound_18 ⟨Nat.le_of_ble_eq_true rfl, Nat.le_of_ble_eq_true rfl⟩ ⟨Nat.le_of_ble_eq_true rfl, Nat.le_of_ble_eq_true rfl⟩ (fun v147 u145 H locs hw146 hP hD hS => ?_)
        obtain rfl : v147 = some (.int (dOf (B 24) ((B 24) d2) dc 0)) := hw146
        have hP : va_P G.1 pCl (mW G h0 a (upd (upd (upd (upd (upd (upd (upd F 27 (nI nd)) 31 (nI wr)) 35 (nI dc)) 44 (nI fd)) 49 (nI md)) 69 ra2) 70 (nI rw2)) B) _ := mW_to (F := F) (l1 := [(27, (nI nd)), (31, (nI wr)), (35, (nI dc)), (44, (nI fd)), (49, (nI md)), (69, ra2), (70, (nI rw2)), (35, (nI dc))]) (l2 := [(27, (nI nd)), (31, (nI wr)), (35, (nI dc)), (44, (nI fd)), (49, (nI md)), (69, ra2), (70, (nI rw2))]) (V := [(nI nd), (nI wr), (nI dc), (nI fd), (nI md), ra2, (nI rw2), (nI dc), (nI nd), (nI wr), (nI dc), (nI fd), (nI md), ra2, (nI rw2)]) rfl rfl (show (updA B 24 (B 24)) = B from updsA_eq2 (F := B) (l1 := [(24, (B 24))]) (l2 := []) (V := [(B 24)]) rfl rfl) hP
        have hD : va_D A (mW G h0 a (upd (upd (upd (upd (upd (upd (upd F 27 (nI nd)) 31 (nI wr)) 35 (nI dc)) 44 (nI fd)) 49 (nI md)) 69 ra2) 70 (nI rw2)) B) := mW_D hD
        refine W.widen (k := 0) (n := 0) (Nat.le_of_ble_eq_true rfl) (Nat.le_of_ble_eq_true rfl) ?_
        refine W.eq (g2 := F0 m 21 ls [.int (dOf (B 24) ((B 24) d2) dc 0)]) rfl ?_
        refine lv_iload_n hx hb dX12_firstRound_21 rfl (lv_at hl 0 rfl) ?_
        refine lv_icmp_eq (tgt := 36) hx hb dX12_firstRound_22 (by decide) (fun c148 => ?_) (fun c148 => ?_)
        · refine lv_aload_n hx hb dX12_firstRound_36 rfl (lv_at hl 1 rfl) ?_
          refine lv_aload_n hx hb dX12_firstRound_37 rfl (lv_at hl 1 rfl) ?_
          refine r_get (v := .ref (a 27)) hx hb hown hq hE hP 39 93 tFX12_39 (by decide) pw_1458 rfl dX12_firstRound_38 ?_
          refine lv_iload_n hx hb dX12_firstRound_41 rfl (lv_at hl 0 rfl) ?_
          refine r_ldi (f := (B 27)) (j := d2) hx hb hE hP 27 (ma_27 G a _) rfl (by omega) (by decide) dX12_firstRound_42 ?_
          refine lv_aload_n hx hb dX12_firstRound_43 rfl (lv_at hl 1 rfl) ?_
          refine r_get (v := .ref (a 26)) hx hb hown hq hE hP 38 90 tFX12_38 (by decide) pw_1457 rfl dX12_firstRound_44 ?_
          refine lv_iload_n hx hb dX12_firstRound_47 rfl (lv_at hl 0 rfl) ?_
          refine r_ldz (f := (B 26)) (j := d2) hx hb hE hP 26 (ma_26 G a _) rfl (by omega) (by decide) dX12_firstRound_48 ?_
          have hP : va_P G.1 pCl (mW G h0 a (upd (upd (upd (upd (upd (upd (upd (upd (upd (upd F 27 (nI nd)) 31 (nI wr)) 35 (nI dc)) 44 (nI fd)) 49 (nI md)) 69 ra2) 70 (nI rw2)) 35 (nI dc)) 69 ra2) 70 (nI rw2)) (updA (updA (updA (updA (updA B 5 (B 5)) 22 (B 22)) 23 (B 23)) 24 (B 24)) 26 (B 26))) _ := mW_to (F := F) (l1 := [(27, (nI nd)), (31, (nI wr)), (35, (nI dc)), (44, (nI fd)), (49, (nI md)), (69, ra2), (70, (nI rw2))]) (l2 := [(27, (nI nd)), (31, (nI wr)), (35, (nI dc)), (44, (nI fd)), (49, (nI md)), (69, ra2), (70, (nI rw2)), (35, (nI dc)), (69, ra2), (70, (nI rw2))]) (V := [(nI nd), (nI wr), (nI dc), (nI fd), (nI md), ra2, (nI rw2), (nI nd), (nI wr), (nI dc), (nI fd), (nI md), ra2, (nI rw2), (nI dc), ra2, (nI rw2)]) rfl rfl (show B = (updA (updA (updA (updA (updA B 5 (B 5)) 22 (B 22)) 23 (B 23)) 24 (B 24)) 26 (B 26)) from updsA_eq2 (F := B) (l1 := []) (l2 := [(5, (B 5)), (22, (B 22)), (23, (B 23)), (24, (B 24)), (26, (B 26))]) (V := [(B 5), (B 22), (B 23), (B 24), (B 26)]) rfl rfl) hP
          have hD : va_D A (mW G h0 a (upd (upd (upd (upd (upd (upd (upd (upd (upd (upd F 27 (nI nd)) 31 (nI wr)) 35 (nI dc)) 44 (nI fd)) 49 (nI md)) 69 ra2) 70 (nI rw2)) 35 (nI dc)) 69 ra2) 70 (nI rw2)) (updA (updA (updA (updA (updA B 5 (B 5)) 22 (B 22)) 23 (B 23)) 24 (B 24)) 26 (B 26))) := mW_D hD
          refine pc_V0 (G := G) (As := [.int ((B 27) d2), .int ((B 26) d2)]) (rest := []) hx hb hml hown hq hE hX pX0_al hP hD hS hA hl.1 (R_namesOf l G h0 a (upd (upd (upd (upd (upd (upd (upd F 27 (nI nd)) 31 (nI wr)) 35 (nI dc)) 44 (nI fd)) 49 (nI md)) 69 ra2) 70 (nI rw2)) B ((B 27) d2) ((B 26) d2) dc lz T rw2 ra2 (B 24) (B 5) (B 22) (B 23) (B 26) ((hps.1 d2 (by omega)).2.2.2.1) hlr (by omega) (by omega) (by omega) (by omega)) (gV pw_1756 pw_1757 pw_1758 pw_1523 pw_1752) hV_X12_namesOf 0 9 rfl rfl rfl rfl (Nat.le_of_ble_eq_true rfl) dX12_firstRound_49 ⟨Nat.le_of_ble_eq_true rfl, Nat.le_of_ble_eq_true rfl⟩ ⟨Nat.le_of_ble_eq_true rfl, Nat.le_of_ble_eq_true rfl⟩ (fun v151 u149 H locs hw150 hP hD hS => ?_)
          obtain ⟨rw152, ra153⟩ := u149
          obtain ⟨hw150, h154, h155, h156⟩ := hw150
          replace h154 : rw2 ≤ 15 * rw152 := h154
          replace h155 : rw152 ≤ 15 := h155
          replace h156 : If (rw152 = 0) (ChnA (B 24) (B 5) (B 22) (B 23) (B 26) dc lz T ((B 26) d2) ((B 27) d2)) := h156
          obtain rfl : v151 = none := hw150
          have hP : va_P G.1 pCl (mW G h0 a (upd (upd (upd (upd (upd (upd (upd F 27 (nI nd)) 31 (nI wr)) 35 (nI dc)) 44 (nI fd)) 49 (nI md)) 69 ra153) 70 (nI rw152)) B) _ := mW_to (F := F) (l1 := [(27, (nI nd)), (31, (nI wr)), (35, (nI dc)), (44, (nI fd)), (49, (nI md)), (69, ra2), (70, (nI rw2)), (35, (nI dc)), (69, ra153), (70, (nI rw152))]) (l2 := [(27, (nI nd)), (31, (nI wr)), (35, (nI dc)), (44, (nI fd)), (49, (nI md)), (69, ra153), (70, (nI rw152))]) (V := [(nI nd), (nI wr), (nI dc), (nI fd), (nI md), ra153, (nI rw152), (nI dc), ra153, (nI rw152), (nI nd), (nI wr), (nI dc), (nI fd), (nI md), ra153, (nI rw152)]) rfl rfl (show (updA (updA (updA (updA (updA B 5 (B 5)) 22 (B 22)) 23 (B 23)) 24 (B 24)) 26 (B 26)) = B from updsA_eq2 (F := B) (l1 := [(5, (B 5)), (22, (B 22)), (23, (B 23)), (24, (B 24)), (26, (B 26))]) (l2 := []) (V := [(B 5), (B 22), (B 23), (B 24), (B 26)]) rfl rfl) hP
          have hD : va_D A (mW G h0 a (upd (upd (upd (upd (upd (upd (upd F 27 (nI nd)) 31 (nI wr)) 35 (nI dc)) 44 (nI fd)) 49 (nI md)) 69 ra153) 70 (nI rw152)) B) := mW_D hD
          refine W.widen (k := 0) (n := 0) (Nat.le_of_ble_eq_true rfl) (Nat.le_of_ble_eq_true rfl) ?_
          refine W.eq (g2 := F0 m 52 ls []) rfl ?_
          refine lv_aload_n hx hb dX12_firstRound_52 rfl (lv_at hl 1 rfl) ?_
          refine lv_aload_n hx hb dX12_firstRound_53 rfl (lv_at hl 1 rfl) ?_
          refine r_get (v := .ref (a 28)) hx hb hown hq hE hP 40 96 tFX12_40 (by decide) pw_1459 rfl dX12_firstRound_54 ?_
          refine lv_iload_n hx hb dX12_firstRound_57 rfl (lv_at hl 0 rfl) ?_
          refine r_ldi (f := (B 28)) (j := d2) hx hb hE hP 28 (ma_28 G a _) rfl (by omega) (by decide) dX12_firstRound_58 ?_
          refine lv_iconst (v := 1) hx hb dX12_firstRound_59 (by decide) ?_
          have hP : va_P G.1 pCl (mW G h0 a (upd (upd (upd (upd (upd (upd (upd (upd (upd (upd F 27 (nI nd)) 31 (nI wr)) 35 (nI dc)) 44 (nI fd)) 49 (nI md)) 69 ra153) 70 (nI rw152)) 35 (nI dc)) 69 ra153) 70 (nI rw152)) (updA (updA (updA (updA (updA B 5 (B 5)) 22 (B 22)) 23 (B 23)) 24 (B 24)) 26 (B 26))) _ := mW_to (F := F) (l1 := [(27, (nI nd)), (31, (nI wr)), (35, (nI dc)), (44, (nI fd)), (49, (nI md)), (69, ra153), (70, (nI rw152))]) (l2 := [(27, (nI nd)), (31, (nI wr)), (35, (nI dc)), (44, (nI fd)), (49, (nI md)), (69, ra153), (70, (nI rw152)), (35, (nI dc)), (69, ra153), (70, (nI rw152))]) (V := [(nI nd), (nI wr), (nI dc), (nI fd), (nI md), ra153, (nI rw152), (nI nd), (nI wr), (nI dc), (nI fd), (nI md), ra153, (nI rw152), (nI dc), ra153, (nI rw152)]) rfl rfl (show B = (updA (updA (updA (updA (updA B 5 (B 5)) 22 (B 22)) 23 (B 23)) 24 (B 24)) 26 (B 26)) from updsA_eq2 (F := B) (l1 := []) (l2 := [(5, (B 5)), (22, (B 22)), (23, (B 23)), (24, (B 24)), (26, (B 26))]) (V := [(B 5), (B 22), (B 23), (B 24), (B 26)]) rfl rfl) hP
          have hD : va_D A (mW G h0 a (upd (upd (upd (upd (upd (upd (upd (upd (upd (upd F 27 (nI nd)) 31 (nI wr)) 35 (nI dc)) 44 (nI fd)) 49 (nI md)) 69 ra153) 70 (nI rw152)) 35 (nI dc)) 69 ra153) 70 (nI rw152)) (updA (updA (updA (updA (updA B 5 (B 5)) 22 (B 22)) 23 (B 23)) 24 (B 24)) 26 (B 26))) := mW_D hD
          refine pc_V0 (G := G) (As := [.int ((B 28) d2), .int 1]) (rest := []) hx hb hml hown hq hE hX pX0_al hP hD hS hA hl.1 (R_namesOf l G h0 a (upd (upd (upd (upd (upd (upd (upd F 27 (nI nd)) 31 (nI wr)) 35 (nI dc)) 44 (nI fd)) 49 (nI md)) 69 ra153) 70 (nI rw152)) B ((B 28) d2) 1 dc lz T rw152 ra153 (B 24) (B 5) (B 22) (B 23) (B 26) ((hps.1 d2 (by omega)).2.2.2.2.1) hlr (by omega) (by omega) (by omega) (by omega)) (gV pw_1756 pw_1757 pw_1758 pw_1523 pw_1752) hV_X12_namesOf 0 9 rfl rfl rfl rfl (Nat.le_of_ble_eq_true rfl) dX12_firstRound_60 ⟨Nat.le_of_ble_eq_true rfl, Nat.le_of_ble_eq_true rfl⟩ ⟨Nat.le_of_ble_eq_true rfl, Nat.le_of_ble_eq_true rfl⟩ (fun v159 u157 H locs hw158 hP hD hS => ?_)
          obtain ⟨rw160, ra161⟩ := u157
          obtain ⟨hw158, h162, h163, h164⟩ := hw158
          replace h162 : rw152 ≤ 15 * rw160 := h162
          replace h163 : rw160 ≤ 15 := h163
          replace h164 : If (rw160 = 0) (ChnA (B 24) (B 5) (B 22) (B 23) (B 26) dc lz T 1 ((B 28) d2)) := h164
          obtain rfl : v159 = none := hw158
          have hP : va_P G.1 pCl (mW G h0 a (upd (upd (upd (upd (upd (upd (upd F 27 (nI nd)) 31 (nI wr)) 35 (nI dc)) 44 (nI fd)) 49 (nI md)) 69 ra161) 70 (nI rw160)) B) _ := mW_to (F := F) (l1 := [(27, (nI nd)), (31, (nI wr)), (35, (nI dc)), (44, (nI fd)), (49, (nI md)), (69, ra153), (70, (nI rw152)), (35, (nI dc)), (69, ra161), (70, (nI rw160))]) (l2 := [(27, (nI nd)), (31, (nI wr)), (35, (nI dc)), (44, (nI fd)), (49, (nI md)), (69, ra161), (70, (nI rw160))]) (V := [(nI nd), (nI wr), (nI dc), (nI fd), (nI md), ra161, (nI rw160), (nI dc), ra161, (nI rw160), (nI nd), (nI wr), (nI dc), (nI fd), (nI md), ra161, (nI rw160)]) rfl rfl (show (updA (updA (updA (updA (updA B 5 (B 5)) 22 (B 22)) 23 (B 23)) 24 (B 24)) 26 (B 26)) = B from updsA_eq2 (F := B) (l1 := [(5, (B 5)), (22, (B 22)), (23, (B 23)), (24, (B 24)), (26, (B 26))]) (l2 := []) (V := [(B 5), (B 22), (B 23), (B 24), (B 26)]) rfl rfl) hP
          have hD : va_D A (mW G h0 a (upd (upd (upd (upd (upd (upd (upd F 27 (nI nd)) 31 (nI wr)) 35 (nI dc)) 44 (nI fd)) 49 (nI md)) 69 ra161) 70 (nI rw160)) B) := mW_D hD
          refine W.widen (k := 0) (n := 0) (Nat.le_of_ble_eq_true rfl) (Nat.le_of_ble_eq_true rfl) ?_
          refine W.eq (g2 := F0 m 63 ls []) rfl ?_
          refine lv_iinc (v := (nI (d2 + 1))) (lv' := [(1, .int (nI (d2 + 1))), (0, .ref h0)]) hx hb dX12_firstRound_63 hl (k := 0) rfl (nI_1 d2) (by decide) rfl (fun ls hl => ?_)
          refine lv_goto (tgt := 3) hx hb dX12_firstRound_66 (by decide) ?_
          have hP : va_P G.1 pCl (mW G h0 a (upd (upd (upd (upd (upd (upd (upd F 27 (nI nd)) 31 (nI wr)) 35 (nI dc)) 44 (nI fd)) 49 (nI md)) 69 ra161) 70 (nI rw160)) B) _ := hP
          have hD : va_D A (mW G h0 a (upd (upd (upd (upd (upd (upd (upd F 27 (nI nd)) 31 (nI wr)) 35 (nI dc)) 44 (nI fd)) 49 (nI md)) 69 ra161) 70 (nI rw160)) B) := mW_D hD
          exact ih_d (d2 + 1) rw160 ra161 _ _ _ (by omega) (by omega) (by omega) (by omega) (by omega) (fun _ => all_up (hcd (by omega)) ⟨h156 (by omega), h164 (by omega)⟩) hP hD hS (lv_sub hl [0, 1] rfl)
        · refine lv_aload_n hx hb dX12_firstRound_25 rfl (lv_at hl 1 rfl) ?_
          refine lv_iconst (v := 3) hx hb dX12_firstRound_26 (by decide) ?_
          refine lv_aload_n hx hb dX12_firstRound_27 rfl (lv_at hl 1 rfl) ?_
          refine r_get (v := .ref (a 25)) hx hb hown hq hE hP 37 87 tFX12_37 (by decide) pw_1456 rfl dX12_firstRound_28 ?_
          refine lv_iload_n hx hb dX12_firstRound_31 rfl (lv_at hl 0 rfl) ?_
          refine r_ldi (f := (B 25)) (j := d2) hx hb hE hP 25 (ma_25 G a _) rfl (by omega) (by decide) dX12_firstRound_32 ?_
          obtain ⟨t165, e167, h166⟩ := (hps.1 d2 (by omega)).1 (by omega)
          refine lv_topi (fun x168 e169 => ?_)
          obtain rfl : x168 = nI t165 := e169.trans e167
          have hP : va_P G.1 pCl (mW G h0 a (upd (upd (upd (upd (upd (upd (upd (upd (upd F 27 (nI nd)) 31 (nI wr)) 35 (nI dc)) 44 (nI fd)) 49 (nI md)) 69 ra2) 70 (nI rw2)) 69 ra2) 70 (nI rw2)) B) _ := mW_to (F := F) (l1 := [(27, (nI nd)), (31, (nI wr)), (35, (nI dc)), (44, (nI fd)), (49, (nI md)), (69, ra2), (70, (nI rw2))]) (l2 := [(27, (nI nd)), (31, (nI wr)), (35, (nI dc)), (44, (nI fd)), (49, (nI md)), (69, ra2), (70, (nI rw2)), (69, ra2), (70, (nI rw2))]) (V := [(nI nd), (nI wr), (nI dc), (nI fd), (nI md), ra2, (nI rw2), (nI nd), (nI wr), (nI dc), (nI fd), (nI md), ra2, (nI rw2), ra2, (nI rw2)]) rfl rfl rfl hP
          have hD : va_D A (mW G h0 a (upd (upd (upd (upd (upd (upd (upd (upd (upd F 27 (nI nd)) 31 (nI wr)) 35 (nI dc)) 44 (nI fd)) 49 (nI md)) 69 ra2) 70 (nI rw2)) 69 ra2) 70 (nI rw2)) B) := mW_D hD
          refine pc_V0 (G := G) (As := [.int (nI 3), .int (nI t165)]) (rest := []) hx hb hml hown hq hE hX pX0_al hP hD hS hA hl.1 (R_note l G h0 a (upd (upd (upd (upd (upd (upd (upd F 27 (nI nd)) 31 (nI wr)) 35 (nI dc)) 44 (nI fd)) 49 (nI md)) 69 ra2) 70 (nI rw2)) B 3 t165 rw2 ra2 (by omega) (by omega) (by omega)) (gV pw_1749 pw_1750 pw_1751 pw_1523 pw_1740) hV_X12_note 0 9 rfl rfl rfl rfl (Nat.le_of_ble_eq_true rfl) dX12_firstRound_33 ⟨Nat.le_of_ble_eq_true rfl, Nat.le_of_ble_eq_true rfl⟩ ⟨Nat.le_of_ble_eq_true rfl, Nat.le_of_ble_eq_true rfl⟩ (fun v172 u170 H locs hw171 hP hD hS => ?_)
          obtain ⟨rw173, ra174⟩ := u170
          obtain ⟨hw171, h175, h176⟩ := hw171
          replace h175 : 0 < rw173 := h175
          replace h176 : rw173 ≤ 15 := h176
          obtain rfl : v172 = none := hw171
          have hP : va_P G.1 pCl (mW G h0 a (upd (upd (upd (upd (upd (upd (upd F 27 (nI nd)) 31 (nI wr)) 35 (nI dc)) 44 (nI fd)) 49 (nI md)) 69 ra174) 70 (nI rw173)) B) _ := mW_to (F := F) (l1 := [(27, (nI nd)), (31, (nI wr)), (35, (nI dc)), (44, (nI fd)), (49, (nI md)), (69, ra2), (70, (nI rw2)), (69, ra174), (70, (nI rw173))]) (l2 := [(27, (nI nd)), (31, (nI wr)), (35, (nI dc)), (44, (nI fd)), (49, (nI md)), (69, ra174), (70, (nI rw173))]) (V := [(nI nd), (nI wr), (nI dc), (nI fd), (nI md), ra174, (nI rw173), ra174, (nI rw173), (nI nd), (nI wr), (nI dc), (nI fd), (nI md), ra174, (nI rw173)]) rfl rfl rfl hP
          have hD : va_D A (mW G h0 a (upd (upd (upd (upd (upd (upd (upd F 27 (nI nd)) 31 (nI wr)) 35 (nI dc)) 44 (nI fd)) 49 (nI md)) 69 ra174) 70 (nI rw173)) B) := mW_D hD
          refine W.widen (k := 0) (n := 0) (Nat.le_of_ble_eq_true rfl) (Nat.le_of_ble_eq_true rfl) ?_
          refine W.eq (g2 := F0 m 36 ls []) rfl ?_
          refine lv_aload_n hx hb dX12_firstRound_36 rfl (lv_at hl 1 rfl) ?_
          refine lv_aload_n hx hb dX12_firstRound_37 rfl (lv_at hl 1 rfl) ?_
          refine r_get (v := .ref (a 27)) hx hb hown hq hE hP 39 93 tFX12_39 (by decide) pw_1458 rfl dX12_firstRound_38 ?_
          refine lv_iload_n hx hb dX12_firstRound_41 rfl (lv_at hl 0 rfl) ?_
          refine r_ldi (f := (B 27)) (j := d2) hx hb hE hP 27 (ma_27 G a _) rfl (by omega) (by decide) dX12_firstRound_42 ?_
          refine lv_aload_n hx hb dX12_firstRound_43 rfl (lv_at hl 1 rfl) ?_
          refine r_get (v := .ref (a 26)) hx hb hown hq hE hP 38 90 tFX12_38 (by decide) pw_1457 rfl dX12_firstRound_44 ?_
          refine lv_iload_n hx hb dX12_firstRound_47 rfl (lv_at hl 0 rfl) ?_
          refine r_ldz (f := (B 26)) (j := d2) hx hb hE hP 26 (ma_26 G a _) rfl (by omega) (by decide) dX12_firstRound_48 ?_
          have hP : va_P G.1 pCl (mW G h0 a (upd (upd (upd (upd (upd (upd (upd (upd (upd (upd F 27 (nI nd)) 31 (nI wr)) 35 (nI dc)) 44 (nI fd)) 49 (nI md)) 69 ra174) 70 (nI rw173)) 35 (nI dc)) 69 ra174) 70 (nI rw173)) (updA (updA (updA (updA (updA B 5 (B 5)) 22 (B 22)) 23 (B 23)) 24 (B 24)) 26 (B 26))) _ := mW_to (F := F) (l1 := [(27, (nI nd)), (31, (nI wr)), (35, (nI dc)), (44, (nI fd)), (49, (nI md)), (69, ra174), (70, (nI rw173))]) (l2 := [(27, (nI nd)), (31, (nI wr)), (35, (nI dc)), (44, (nI fd)), (49, (nI md)), (69, ra174), (70, (nI rw173)), (35, (nI dc)), (69, ra174), (70, (nI rw173))]) (V := [(nI nd), (nI wr), (nI dc), (nI fd), (nI md), ra174, (nI rw173), (nI nd), (nI wr), (nI dc), (nI fd), (nI md), ra174, (nI rw173), (nI dc), ra174, (nI rw173)]) rfl rfl (show B = (updA (updA (updA (updA (updA B 5 (B 5)) 22 (B 22)) 23 (B 23)) 24 (B 24)) 26 (B 26)) from updsA_eq2 (F := B) (l1 := []) (l2 := [(5, (B 5)), (22, (B 22)), (23, (B 23)), (24, (B 24)), (26, (B 26))]) (V := [(B 5), (B 22), (B 23), (B 24), (B 26)]) rfl rfl) hP
          have hD : va_D A (mW G h0 a (upd (upd (upd (upd (upd (upd (upd (upd (upd (upd F 27 (nI nd)) 31 (nI wr)) 35 (nI dc)) 44 (nI fd)) 49 (nI md)) 69 ra174) 70 (nI rw173)) 35 (nI dc)) 69 ra174) 70 (nI rw173)) (updA (updA (updA (updA (updA B 5 (B 5)) 22 (B 22)) 23 (B 23)) 24 (B 24)) 26 (B 26))) := mW_D hD
          refine pc_V0 (G := G) (As := [.int ((B 27) d2), .int ((B 26) d2)]) (rest := []) hx hb hml hown hq hE hX pX0_al hP hD hS hA hl.1 (R_namesOf l G h0 a (upd (upd (upd (upd (upd (upd (upd F 27 (nI nd)) 31 (nI wr)) 35 (nI dc)) 44 (nI fd)) 49 (nI md)) 69 ra174) 70 (nI rw173)) B ((B 27) d2) ((B 26) d2) dc lz T rw173 ra174 (B 24) (B 5) (B 22) (B 23) (B 26) ((hps.1 d2 (by omega)).2.2.2.1) hlr (by omega) (by omega) (by omega) (by omega)) (gV pw_1756 pw_1757 pw_1758 pw_1523 pw_1752) hV_X12_namesOf 0 9 rfl rfl rfl rfl (Nat.le_of_ble_eq_true rfl) dX12_firstRound_49 ⟨Nat.le_of_ble_eq_true rfl, Nat.le_of_ble_eq_true rfl⟩ ⟨Nat.le_of_ble_eq_true rfl, Nat.le_of_ble_eq_true rfl⟩ (fun v179 u177 H locs hw178 hP hD hS => ?_)
          obtain ⟨rw180, ra181⟩ := u177
          obtain ⟨hw178, h182, h183, h184⟩ := hw178
          replace h182 : rw173 ≤ 15 * rw180 := h182
          replace h183 : rw180 ≤ 15 := h183
          replace h184 : If (rw180 = 0) (ChnA (B 24) (B 5) (B 22) (B 23) (B 26) dc lz T ((B 26) d2) ((B 27) d2)) := h184
          obtain rfl : v179 = none := hw178
          have hP : va_P G.1 pCl (mW G h0 a (upd (upd (upd (upd (upd (upd (upd F 27 (nI nd)) 31 (nI wr)) 35 (nI dc)) 44 (nI fd)) 49 (nI md)) 69 ra181) 70 (nI rw180)) B) _ := mW_to (F := F) (l1 := [(27, (nI nd)), (31, (nI wr)), (35, (nI dc)), (44, (nI fd)), (49, (nI md)), (69, ra174), (70, (nI rw173)), (35, (nI dc)), (69, ra181), (70, (nI rw180))]) (l2 := [(27, (nI nd)), (31, (nI wr)), (35, (nI dc)), (44, (nI fd)), (49, (nI md)), (69, ra181), (70, (nI rw180))]) (V := [(nI nd), (nI wr), (nI dc), (nI fd), (nI md), ra181, (nI rw180), (nI dc), ra181, (nI rw180), (nI nd), (nI wr), (nI dc), (nI fd), (nI md), ra181, (nI rw180)]) rfl rfl (show (updA (updA (updA (updA (updA B 5 (B 5)) 22 (B 22)) 23 (B 23)) 24 (B 24)) 26 (B 26)) = B from updsA_eq2 (F := B) (l1 := [(5, (B 5)), (22, (B 22)), (23, (B 23)), (24, (B 24)), (26, (B 26))]) (l2 := []) (V := [(B 5), (B 22), (B 23), (B 24), (B 26)]) rfl rfl) hP
          have hD : va_D A (mW G h0 a (upd (upd (upd (upd (upd (upd (upd F 27 (nI nd)) 31 (nI wr)) 35 (nI dc)) 44 (nI fd)) 49 (nI md)) 69 ra181) 70 (nI rw180)) B) := mW_D hD
          refine W.widen (k := 0) (n := 0) (Nat.le_of_ble_eq_true rfl) (Nat.le_of_ble_eq_true rfl) ?_
          refine W.eq (g2 := F0 m 52 ls []) rfl ?_
          refine lv_aload_n hx hb dX12_firstRound_52 rfl (lv_at hl 1 rfl) ?_
          refine lv_aload_n hx hb dX12_firstRound_53 rfl (lv_at hl 1 rfl) ?_
          refine r_get (v := .ref (a 28)) hx hb hown hq hE hP 40 96 tFX12_40 (by decide) pw_1459 rfl dX12_firstRound_54 ?_
          refine lv_iload_n hx hb dX12_firstRound_57 rfl (lv_at hl 0 rfl) ?_
          refine r_ldi (f := (B 28)) (j := d2) hx hb hE hP 28 (ma_28 G a _) rfl (by omega) (by decide) dX12_firstRound_58 ?_
          refine lv_iconst (v := 1) hx hb dX12_firstRound_59 (by decide) ?_
          have hP : va_P G.1 pCl (mW G h0 a (upd (upd (upd (upd (upd (upd (upd (upd (upd (upd F 27 (nI nd)) 31 (nI wr)) 35 (nI dc)) 44 (nI fd)) 49 (nI md)) 69 ra181) 70 (nI rw180)) 35 (nI dc)) 69 ra181) 70 (nI rw180)) (updA (updA (updA (updA (updA B 5 (B 5)) 22 (B 22)) 23 (B 23)) 24 (B 24)) 26 (B 26))) _ := mW_to (F := F) (l1 := [(27, (nI nd)), (31, (nI wr)), (35, (nI dc)), (44, (nI fd)), (49, (nI md)), (69, ra181), (70, (nI rw180))]) (l2 := [(27, (nI nd)), (31, (nI wr)), (35, (nI dc)), (44, (nI fd)), (49, (nI md)), (69, ra181), (70, (nI rw180)), (35, (nI dc)), (69, ra181), (70, (nI rw180))]) (V := [(nI nd), (nI wr), (nI dc), (nI fd), (nI md), ra181, (nI rw180), (nI nd), (nI wr), (nI dc), (nI fd), (nI md), ra181, (nI rw180), (nI dc), ra181, (nI rw180)]) rfl rfl (show B = (updA (updA (updA (updA (updA B 5 (B 5)) 22 (B 22)) 23 (B 23)) 24 (B 24)) 26 (B 26)) from updsA_eq2 (F := B) (l1 := []) (l2 := [(5, (B 5)), (22, (B 22)), (23, (B 23)), (24, (B 24)), (26, (B 26))]) (V := [(B 5), (B 22), (B 23), (B 24), (B 26)]) rfl rfl) hP
          have hD : va_D A (mW G h0 a (upd (upd (upd (upd (upd (upd (upd (upd (upd (upd F 27 (nI nd)) 31 (nI wr)) 35 (nI dc)) 44 (nI fd)) 49 (nI md)) 69 ra181) 70 (nI rw180)) 35 (nI dc)) 69 ra181) 70 (nI rw180)) (updA (updA (updA (updA (updA B 5 (B 5)) 22 (B 22)) 23 (B 23)) 24 (B 24)) 26 (B 26))) := mW_D hD
          refine pc_V0 (G := G) (As := [.int ((B 28) d2), .int 1]) (rest := []) hx hb hml hown hq hE hX pX0_al hP hD hS hA hl.1 (R_namesOf l G h0 a (upd (upd (upd (upd (upd (upd (upd F 27 (nI nd)) 31 (nI wr)) 35 (nI dc)) 44 (nI fd)) 49 (nI md)) 69 ra181) 70 (nI rw180)) B ((B 28) d2) 1 dc lz T rw180 ra181 (B 24) (B 5) (B 22) (B 23) (B 26) ((hps.1 d2 (by omega)).2.2.2.2.1) hlr (by omega) (by omega) (by omega) (by omega)) (gV pw_1756 pw_1757 pw_1758 pw_1523 pw_1752) hV_X12_namesOf 0 9 rfl rfl rfl rfl (Nat.le_of_ble_eq_true rfl) dX12_firstRound_60 ⟨Nat.le_of_ble_eq_true rfl, Nat.le_of_ble_eq_true rfl⟩ ⟨Nat.le_of_ble_eq_true rfl, Nat.le_of_ble_eq_true rfl⟩ (fun v187 u185 H locs hw186 hP hD hS => ?_)
          obtain ⟨rw188, ra189⟩ := u185
          obtain ⟨hw186, h190, h191, h192⟩ := hw186
          replace h190 : rw180 ≤ 15 * rw188 := h190
          replace h191 : rw188 ≤ 15 := h191
          replace h192 : If (rw188 = 0) (ChnA (B 24) (B 5) (B 22) (B 23) (B 26) dc lz T 1 ((B 28) d2)) := h192
          obtain rfl : v187 = none := hw186
          have hP : va_P G.1 pCl (mW G h0 a (upd (upd (upd (upd (upd (upd (upd F 27 (nI nd)) 31 (nI wr)) 35 (nI dc)) 44 (nI fd)) 49 (nI md)) 69 ra189) 70 (nI rw188)) B) _ := mW_to (F := F) (l1 := [(27, (nI nd)), (31, (nI wr)), (35, (nI dc)), (44, (nI fd)), (49, (nI md)), (69, ra181), (70, (nI rw180)), (35, (nI dc)), (69, ra189), (70, (nI rw188))]) (l2 := [(27, (nI nd)), (31, (nI wr)), (35, (nI dc)), (44, (nI fd)), (49, (nI md)), (69, ra189), (70, (nI rw188))]) (V := [(nI nd), (nI wr), (nI dc), (nI fd), (nI md), ra189, (nI rw188), (nI dc), ra189, (nI rw188), (nI nd), (nI wr), (nI dc), (nI fd), (nI md), ra189, (nI rw188)]) rfl rfl (show (updA (updA (updA (updA (updA B 5 (B 5)) 22 (B 22)) 23 (B 23)) 24 (B 24)) 26 (B 26)) = B from updsA_eq2 (F := B) (l1 := [(5, (B 5)), (22, (B 22)), (23, (B 23)), (24, (B 24)), (26, (B 26))]) (l2 := []) (V := [(B 5), (B 22), (B 23), (B 24), (B 26)]) rfl rfl) hP
          have hD : va_D A (mW G h0 a (upd (upd (upd (upd (upd (upd (upd F 27 (nI nd)) 31 (nI wr)) 35 (nI dc)) 44 (nI fd)) 49 (nI md)) 69 ra189) 70 (nI rw188)) B) := mW_D hD
          refine W.widen (k := 0) (n := 0) (Nat.le_of_ble_eq_true rfl) (Nat.le_of_ble_eq_true rfl) ?_
          refine W.eq (g2 := F0 m 63 ls []) rfl ?_
          refine lv_iinc (v := (nI (d2 + 1))) (lv' := [(1, .int (nI (d2 + 1))), (0, .ref h0)]) hx hb dX12_firstRound_63 hl (k := 0) rfl (nI_1 d2) (by decide) rfl (fun ls hl => ?_)
          refine lv_goto (tgt := 3) hx hb dX12_firstRound_66 (by decide) ?_
          have hP : va_P G.1 pCl (mW G h0 a (upd (upd (upd (upd (upd (upd (upd F 27 (nI nd)) 31 (nI wr)) 35 (nI dc)) 44 (nI fd)) 49 (nI md)) 69 ra189) 70 (nI rw188)) B) _ := hP
          have hD : va_D A (mW G h0 a (upd (upd (upd (upd (upd (upd (upd F 27 (nI nd)) 31 (nI wr)) 35 (nI dc)) 44 (nI fd)) 49 (nI md)) 69 ra189) 70 (nI rw188)) B) := mW_D hD
          exact ih_d (d2 + 1) rw188 ra189 _ _ _ (by omega) (by omega) (by omega) (by omega) (by omega) (fun _ => all_up (hcd (by omega)) ⟨h184 (by omega), h192 (by omega)⟩) hP hD hS (lv_sub hl [0, 1] rfl)
  have hP : va_P G.1 pCl (mW G h0 a (upd (upd (upd (upd (upd (upd (upd F 27 (nI nd)) 31 (nI wr)) 35 (nI dc)) 44 (nI fd)) 49 (nI md)) 69 ra) 70 (nI rw)) B) _ := hP
  have hD : va_D A (mW G h0 a (upd (upd (upd (upd (upd (upd (upd F 27 (nI nd)) 31 (nI wr)) 35 (nI dc)) 44 (nI fd)) 49 (nI md)) 69 ra) 70 (nI rw)) B) := mW_D hD
  exact loop_d (dc + 1) 7 rw ra _ _ _ (by omega) (by omega) (by omega) (by omega) (by omega) (fun _ d h => by obtain ⟨-, -, -, -, -, z⟩ := hps.1 d (by omega); obtain ⟨-, z2, z3⟩ := z h; unfold CnD; rw [z2, z3]; exact ⟨ChnA.nil, ChnA.nil⟩) hP hD hS (lv_sub hl [0, 1] rfl)

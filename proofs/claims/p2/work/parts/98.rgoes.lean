section GON
variable {X Y : Nat → Nat → Int32} {gh : Nat → Nat → Nat} {nd T nm wr lz dc fd md pr bk rmm op tp wn fu rd on idn fl ct n p kk : Nat} {M : MTb} {ov : Bool} {mt ps : Nat → Nat} {yy : Nat → Ps} {bf wf : Nat → Nat} {u : Ps} {uc : Int32}
theorem Rn.k15a (h : Rn X Y gh nd T nm wr lz dc fd md pr bk M rmm op tp wn fu rd on idn fl ct n true mt ps yy bf wf) (hp : Pv X (M.1 (mt (op - 1))) (rtP M (mt (op - 1))) p u) (hst : stq X p u n (yy (op - 1))) (ek : X 9 p = nI kk) (hk : kk = 15 ∨ kk = 18) (ns : X 12 p = nI n) : ∃ j1 : Nat, X 13 p = nI j1 ∧ j1 < nd ∧ Nx X Y gh nd T nm wr lz dc fd md pr bk M rmm fu (Phi gh ps op (rkN gh n true)) op tp wn fu rd on idn fl ct (-1) (nI j1) 1 uc := by
  have b := h.pg.bd
  have hk23 : kk ≤ 23 := by omega
  have key : ∀ kd : Nat, kd = kk → ((∀ s : Nat, s ≤ 4 → 1 ≤ s → nch kd s = false → (s = 1 ∨ s = 2) ∧ cdOf kd s = 101) ∧ nch kd 1 = false ∧ nch kd 2 = false) ∧ pnL X p u.2.1 kd 1 0 = u.2.1 ∧ pnL X p u.2.1 kd 2 0 = u.2.1 ++ [chN X 1 p] ∧ ¬ Y 17 (chN X 1 p) = 0 := fun kd e => by
    subst e
    rcases hk with w | w <;> subst w
    · refine ⟨by decide, rfl, rfl, ?_⟩
      obtain ⟨_, x, l2, l3, _⟩ := h.ltk hp ek (by omega)
      rw [l2]; intro w
      have := (nI_eq (a := 1000 + x) (b := 0) (by omega) (by omega)).mp w; omega
    · refine ⟨by decide, rfl, rfl, ?_⟩
      exact (h.ltk hp ek (by omega)).2.1
  obtain ⟨⟨d1, d2, d3⟩, p1, p2, p3⟩ := key kk rfl
  obtain ⟨⟨kc, c1, c2⟩, q⟩ := h.pl2 hp hst ek hk23 d1 d2 d3
  rcases q with ⟨_, a2, a3, j1, a4, a5, a6, a7, a8, kd, a9, a10⟩ | ⟨a1, _⟩
  · obtain ⟨x1, x2, _⟩ := hst.phr h.pg.fs (by omega) (h.pn hp) ek hk23
    obtain ⟨y1, y2, _⟩ := a7.phr h.pg.fs (by omega) (h.pn hp) ek hk23
    rw [a2] at p3
    refine ⟨j1, a4, a6, h.next hp hst a7 c1 c2 p3 (y1.trans x1.symm) ?_ (y2.trans x2.symm) (fun w => ?_) a8⟩
    · show pnL X p u.2.1 kk 2 0 = _
      rw [p2, a3, p1, a2]
    · have := (nI_eq (a := kd) (b := 44) (by omega) (by omega)).mp (a9.symm.trans w); omega
  · exact absurd ns a1
theorem Rn.upP (h : Rn X Y gh nd T nm wr lz dc fd md pr bk M rmm op tp wn fu rd on idn fl ct n ov mt ps yy bf wf) (hp : Pv X (M.1 (mt (op - 1))) (rtP M (mt (op - 1))) p u) : OrY (Y 52 p) nd := by
  have b := h.pg.bd
  have rt := h.rt
  obtain ⟨m1, mb, m3, _⟩ := h.pg.tbl _ rt.2.1.1 rt.2.1.2
  rcases hp.last with ⟨e1, _⟩ | ⟨q, u', q1, q2⟩
  · exact Or.inl (by rw [← e1]; exact h.pg.root _ _ m1 (by omega) mb)
  · exact Or.inr ⟨q, h.pg.up q p (h.pn q1) (h.pn hp) q2.stp.pch.1, h.pn q1⟩
theorem Rn.kid0 (h : Rn X Y gh nd T nm wr lz dc fd md pr bk M rmm op tp wn fu rd on idn fl ct n ov mt ps yy bf wf) (hp : Pv X (M.1 (mt (op - 1))) (rtP M (mt (op - 1))) p u) (hst : stq X p u n (yy (op - 1))) (ek : X 9 p = nI kk) (k4 : kk ≤ 44) (no : ∀ s : Nat, s ≤ 4 → 1 ≤ s → nch kk s = true) : False := by
  have b := h.pg.bd
  obtain ⟨s, i, a1, a2, a3, _⟩ := hst.inv h.pg.fs (by omega) (h.pn hp) ek k4
  rw [no s a2 a1] at a3; exact absurd a3 (by decide)
end GON
theorem dX12_goesOn_0 : decode cX12_goesOn 0 = .ok (.iload_n 2, 1) := by decide +kernel
theorem dX12_goesOn_1 : decode cX12_goesOn 1 = .ok (.aload_n 0, 1) := by decide +kernel
theorem dX12_goesOn_2 : decode cX12_goesOn 2 = .ok (.getfield 47, 3) := by decide +kernel
theorem dX12_goesOn_5 : decode cX12_goesOn 5 = .ok (.iload_n 1, 1) := by decide +kernel
theorem dX12_goesOn_6 : decode cX12_goesOn 6 = .ok (.iaload, 1) := by decide +kernel
theorem dX12_goesOn_7 : decode cX12_goesOn 7 = .ok (.if_icmp .ne 7, 3) := by decide +kernel
theorem dX12_goesOn_10 : decode cX12_goesOn 10 = .ok (.iconst 1, 1) := by decide +kernel
theorem dX12_goesOn_11 : decode cX12_goesOn 11 = .ok (.goto 4, 3) := by decide +kernel
theorem dX12_goesOn_15 : decode cX12_goesOn 15 = .ok (.istore_n 3, 1) := by decide +kernel
theorem dX12_goesOn_16 : decode cX12_goesOn 16 = .ok (.aload_n 0, 1) := by decide +kernel
theorem dX12_goesOn_17 : decode cX12_goesOn 17 = .ok (.getfield 38, 3) := by decide +kernel
theorem dX12_goesOn_20 : decode cX12_goesOn 20 = .ok (.iload_n 1, 1) := by decide +kernel
theorem dX12_goesOn_21 : decode cX12_goesOn 21 = .ok (.iaload, 1) := by decide +kernel
theorem dX12_goesOn_22 : decode cX12_goesOn 22 = .ok (.tableswitch 537 7 22 #[78, 78, 537, 161, 537, 169, 203, 109, 242, 153, 293, 351, 376, 376, 441, 485], 78) := by decide +kernel
theorem dX12_goesOn_100 : decode cX12_goesOn 100 = .ok (.aload_n 0, 1) := by decide +kernel
theorem dX12_goesOn_101 : decode cX12_goesOn 101 = .ok (.getfield 59, 3) := by decide +kernel
theorem dX12_goesOn_104 : decode cX12_goesOn 104 = .ok (.iload_n 2, 1) := by decide +kernel
theorem dX12_goesOn_105 : decode cX12_goesOn 105 = .ok (.iaload, 1) := by decide +kernel
theorem dX12_goesOn_106 : decode cX12_goesOn 106 = .ok (.iconst (-1), 1) := by decide +kernel
theorem dX12_goesOn_107 : decode cX12_goesOn 107 = .ok (.if_icmp .ne 11, 3) := by decide +kernel
theorem dX12_goesOn_110 : decode cX12_goesOn 110 = .ok (.aload_n 0, 1) := by decide +kernel
theorem dX12_goesOn_111 : decode cX12_goesOn 111 = .ok (.iload_n 1, 1) := by decide +kernel
theorem dX12_goesOn_112 : decode cX12_goesOn 112 = .ok (.invokevirtual 806, 3) := by decide +kernel
theorem dX12_goesOn_115 : decode cX12_goesOn 115 = .ok (.goto 504, 3) := by decide +kernel
theorem dX12_goesOn_619 : decode cX12_goesOn 619 = .ok (.return_, 1) := by decide +kernel
theorem dX12_goesOn_118 : decode cX12_goesOn 118 = .ok (.aload_n 0, 1) := by decide +kernel
theorem dX12_goesOn_119 : decode cX12_goesOn 119 = .ok (.aload_n 0, 1) := by decide +kernel
theorem dX12_goesOn_120 : decode cX12_goesOn 120 = .ok (.getfield 59, 3) := by decide +kernel
theorem dX12_goesOn_123 : decode cX12_goesOn 123 = .ok (.iload_n 2, 1) := by decide +kernel
theorem dX12_goesOn_124 : decode cX12_goesOn 124 = .ok (.iaload, 1) := by decide +kernel
theorem dX12_goesOn_125 : decode cX12_goesOn 125 = .ok (.invokevirtual 794, 3) := by decide +kernel
theorem dX12_goesOn_128 : decode cX12_goesOn 128 = .ok (.goto 491, 3) := by decide +kernel
theorem dX12_goesOn_14 : decode cX12_goesOn 14 = .ok (.iconst 0, 1) := by decide +kernel
theorem dX12_goesOn_183 : decode cX12_goesOn 183 = .ok (.aload_n 0, 1) := by decide +kernel
theorem dX12_goesOn_184 : decode cX12_goesOn 184 = .ok (.iload_n 1, 1) := by decide +kernel
theorem dX12_goesOn_185 : decode cX12_goesOn 185 = .ok (.invokevirtual 828, 3) := by decide +kernel
theorem dX12_goesOn_188 : decode cX12_goesOn 188 = .ok (.goto 431, 3) := by decide +kernel
theorem dX12_goesOn_191 : decode cX12_goesOn 191 = .ok (.aload_n 0, 1) := by decide +kernel
theorem dX12_goesOn_192 : decode cX12_goesOn 192 = .ok (.iload_n 1, 1) := by decide +kernel
theorem dX12_goesOn_193 : decode cX12_goesOn 193 = .ok (.invokevirtual 831, 3) := by decide +kernel
theorem dX12_goesOn_196 : decode cX12_goesOn 196 = .ok (.ifCond .eq 21, 3) := by decide +kernel
theorem dX12_goesOn_217 : decode cX12_goesOn 217 = .ok (.aload_n 0, 1) := by decide +kernel
theorem dX12_goesOn_218 : decode cX12_goesOn 218 = .ok (.iload_n 1, 1) := by decide +kernel
theorem dX12_goesOn_219 : decode cX12_goesOn 219 = .ok (.invokevirtual 834, 3) := by decide +kernel
theorem dX12_goesOn_222 : decode cX12_goesOn 222 = .ok (.goto 397, 3) := by decide +kernel
theorem dX12_goesOn_199 : decode cX12_goesOn 199 = .ok (.aload_n 0, 1) := by decide +kernel
theorem dX12_goesOn_200 : decode cX12_goesOn 200 = .ok (.aload_n 0, 1) := by decide +kernel
theorem dX12_goesOn_201 : decode cX12_goesOn 201 = .ok (.getfield 50, 3) := by decide +kernel
theorem dX12_goesOn_204 : decode cX12_goesOn 204 = .ok (.aload_n 0, 1) := by decide +kernel
theorem dX12_goesOn_205 : decode cX12_goesOn 205 = .ok (.getfield 168, 3) := by decide +kernel
theorem dX12_goesOn_208 : decode cX12_goesOn 208 = .ok (.iload_n 1, 1) := by decide +kernel
theorem dX12_goesOn_209 : decode cX12_goesOn 209 = .ok (.iaload, 1) := by decide +kernel
theorem dX12_goesOn_210 : decode cX12_goesOn 210 = .ok (.iaload, 1) := by decide +kernel
theorem dX12_goesOn_211 : decode cX12_goesOn 211 = .ok (.invokevirtual 794, 3) := by decide +kernel
theorem dX12_goesOn_214 : decode cX12_goesOn 214 = .ok (.goto 405, 3) := by decide +kernel
theorem dX12_goesOn_225 : decode cX12_goesOn 225 = .ok (.aload_n 0, 1) := by decide +kernel
theorem dX12_goesOn_226 : decode cX12_goesOn 226 = .ok (.invokevirtual 837, 3) := by decide +kernel
theorem dX12_goesOn_229 : decode cX12_goesOn 229 = .ok (.istore 4, 2) := by decide +kernel
theorem dX12_goesOn_231 : decode cX12_goesOn 231 = .ok (.iload 4, 2) := by decide +kernel
theorem dX12_goesOn_233 : decode cX12_goesOn 233 = .ok (.ifCond .ne 14, 3) := by decide +kernel
theorem dX12_goesOn_236 : decode cX12_goesOn 236 = .ok (.aload_n 0, 1) := by decide +kernel
theorem dX12_goesOn_237 : decode cX12_goesOn 237 = .ok (.iload_n 1, 1) := by decide +kernel
theorem dX12_goesOn_238 : decode cX12_goesOn 238 = .ok (.sipush 4001, 3) := by decide +kernel
theorem dX12_goesOn_241 : decode cX12_goesOn 241 = .ok (.invokevirtual 840, 3) := by decide +kernel
theorem dX12_goesOn_244 : decode cX12_goesOn 244 = .ok (.goto 375, 3) := by decide +kernel
theorem dX12_goesOn_247 : decode cX12_goesOn 247 = .ok (.aload_n 0, 1) := by decide +kernel
theorem dX12_goesOn_248 : decode cX12_goesOn 248 = .ok (.iload_n 1, 1) := by decide +kernel
theorem dX12_goesOn_249 : decode cX12_goesOn 249 = .ok (.aload_n 0, 1) := by decide +kernel
theorem dX12_goesOn_250 : decode cX12_goesOn 250 = .ok (.getfield 184, 3) := by decide +kernel
theorem dX12_goesOn_253 : decode cX12_goesOn 253 = .ok (.iload 4, 2) := by decide +kernel
theorem dX12_goesOn_255 : decode cX12_goesOn 255 = .ok (.iconst 1, 1) := by decide +kernel
theorem dX12_goesOn_256 : decode cX12_goesOn 256 = .ok (.isub, 1) := by decide +kernel
theorem dX12_goesOn_257 : decode cX12_goesOn 257 = .ok (.iaload, 1) := by decide +kernel
theorem dX12_goesOn_258 : decode cX12_goesOn 258 = .ok (.invokevirtual 800, 3) := by decide +kernel
theorem dX12_goesOn_261 : decode cX12_goesOn 261 = .ok (.goto 358, 3) := by decide +kernel
theorem dX12_goesOn_131 : decode cX12_goesOn 131 = .ok (.iload_n 3, 1) := by decide +kernel
theorem dX12_goesOn_132 : decode cX12_goesOn 132 = .ok (.ifCond .eq 12, 3) := by decide +kernel
theorem dX12_goesOn_135 : decode cX12_goesOn 135 = .ok (.aload_n 0, 1) := by decide +kernel
theorem dX12_goesOn_136 : decode cX12_goesOn 136 = .ok (.getfield 50, 3) := by decide +kernel
theorem dX12_goesOn_139 : decode cX12_goesOn 139 = .ok (.iload_n 1, 1) := by decide +kernel
theorem dX12_goesOn_140 : decode cX12_goesOn 140 = .ok (.iaload, 1) := by decide +kernel
theorem dX12_goesOn_141 : decode cX12_goesOn 141 = .ok (.goto 9, 3) := by decide +kernel
theorem dX12_goesOn_150 : decode cX12_goesOn 150 = .ok (.istore 4, 2) := by decide +kernel
theorem dX12_goesOn_152 : decode cX12_goesOn 152 = .ok (.iload 4, 2) := by decide +kernel
theorem dX12_goesOn_154 : decode cX12_goesOn 154 = .ok (.iconst (-1), 1) := by decide +kernel
theorem dX12_goesOn_155 : decode cX12_goesOn 155 = .ok (.if_icmp .ne 11, 3) := by decide +kernel
theorem dX12_goesOn_158 : decode cX12_goesOn 158 = .ok (.aload_n 0, 1) := by decide +kernel
theorem dX12_goesOn_159 : decode cX12_goesOn 159 = .ok (.iload_n 1, 1) := by decide +kernel
theorem dX12_goesOn_160 : decode cX12_goesOn 160 = .ok (.invokevirtual 806, 3) := by decide +kernel
theorem dX12_goesOn_163 : decode cX12_goesOn 163 = .ok (.goto 456, 3) := by decide +kernel
theorem dX12_goesOn_166 : decode cX12_goesOn 166 = .ok (.aload_n 0, 1) := by decide +kernel
theorem dX12_goesOn_167 : decode cX12_goesOn 167 = .ok (.iload 4, 2) := by decide +kernel
theorem dX12_goesOn_169 : decode cX12_goesOn 169 = .ok (.invokevirtual 794, 3) := by decide +kernel
theorem dX12_goesOn_172 : decode cX12_goesOn 172 = .ok (.goto 447, 3) := by decide +kernel
theorem dX12_goesOn_144 : decode cX12_goesOn 144 = .ok (.aload_n 0, 1) := by decide +kernel
theorem dX12_goesOn_145 : decode cX12_goesOn 145 = .ok (.getfield 59, 3) := by decide +kernel
theorem dX12_goesOn_148 : decode cX12_goesOn 148 = .ok (.iload_n 2, 1) := by decide +kernel
theorem dX12_goesOn_149 : decode cX12_goesOn 149 = .ok (.iaload, 1) := by decide +kernel
theorem dX12_goesOn_264 : decode cX12_goesOn 264 = .ok (.iload_n 3, 1) := by decide +kernel
theorem dX12_goesOn_265 : decode cX12_goesOn 265 = .ok (.ifCond .eq 16, 3) := by decide +kernel
theorem dX12_goesOn_268 : decode cX12_goesOn 268 = .ok (.aload_n 0, 1) := by decide +kernel
theorem dX12_goesOn_269 : decode cX12_goesOn 269 = .ok (.aload_n 0, 1) := by decide +kernel
theorem dX12_goesOn_270 : decode cX12_goesOn 270 = .ok (.getfield 50, 3) := by decide +kernel
theorem dX12_goesOn_273 : decode cX12_goesOn 273 = .ok (.iload_n 1, 1) := by decide +kernel
theorem dX12_goesOn_274 : decode cX12_goesOn 274 = .ok (.iaload, 1) := by decide +kernel
theorem dX12_goesOn_275 : decode cX12_goesOn 275 = .ok (.invokevirtual 794, 3) := by decide +kernel
theorem dX12_goesOn_278 : decode cX12_goesOn 278 = .ok (.goto 341, 3) := by decide +kernel
theorem dX12_goesOn_281 : decode cX12_goesOn 281 = .ok (.aload_n 0, 1) := by decide +kernel
theorem dX12_goesOn_282 : decode cX12_goesOn 282 = .ok (.iload_n 1, 1) := by decide +kernel
theorem dX12_goesOn_283 : decode cX12_goesOn 283 = .ok (.invokevirtual 831, 3) := by decide +kernel
theorem dX12_goesOn_286 : decode cX12_goesOn 286 = .ok (.ifCond .eq 21, 3) := by decide +kernel
theorem dX12_goesOn_307 : decode cX12_goesOn 307 = .ok (.aload_n 0, 1) := by decide +kernel
theorem dX12_goesOn_308 : decode cX12_goesOn 308 = .ok (.iload_n 1, 1) := by decide +kernel
theorem dX12_goesOn_309 : decode cX12_goesOn 309 = .ok (.invokevirtual 843, 3) := by decide +kernel
theorem dX12_goesOn_312 : decode cX12_goesOn 312 = .ok (.goto 307, 3) := by decide +kernel
theorem dX12_goesOn_289 : decode cX12_goesOn 289 = .ok (.aload_n 0, 1) := by decide +kernel
theorem dX12_goesOn_290 : decode cX12_goesOn 290 = .ok (.aload_n 0, 1) := by decide +kernel
theorem dX12_goesOn_291 : decode cX12_goesOn 291 = .ok (.getfield 50, 3) := by decide +kernel
theorem dX12_goesOn_294 : decode cX12_goesOn 294 = .ok (.aload_n 0, 1) := by decide +kernel
theorem dX12_goesOn_295 : decode cX12_goesOn 295 = .ok (.getfield 168, 3) := by decide +kernel
theorem dX12_goesOn_298 : decode cX12_goesOn 298 = .ok (.iload_n 1, 1) := by decide +kernel
theorem dX12_goesOn_299 : decode cX12_goesOn 299 = .ok (.iaload, 1) := by decide +kernel
theorem dX12_goesOn_300 : decode cX12_goesOn 300 = .ok (.iaload, 1) := by decide +kernel
theorem dX12_goesOn_301 : decode cX12_goesOn 301 = .ok (.invokevirtual 794, 3) := by decide +kernel
theorem dX12_goesOn_304 : decode cX12_goesOn 304 = .ok (.goto 315, 3) := by decide +kernel
theorem dX12_goesOn_175 : decode cX12_goesOn 175 = .ok (.aload_n 0, 1) := by decide +kernel
theorem dX12_goesOn_176 : decode cX12_goesOn 176 = .ok (.iload_n 1, 1) := by decide +kernel
theorem dX12_goesOn_177 : decode cX12_goesOn 177 = .ok (.invokevirtual 760, 3) := by decide +kernel
theorem dX12_goesOn_180 : decode cX12_goesOn 180 = .ok (.goto 439, 3) := by decide +kernel
theorem dX12_goesOn_315 : decode cX12_goesOn 315 = .ok (.aload_n 0, 1) := by decide +kernel
theorem dX12_goesOn_316 : decode cX12_goesOn 316 = .ok (.invokevirtual 837, 3) := by decide +kernel
theorem dX12_goesOn_319 : decode cX12_goesOn 319 = .ok (.istore 4, 2) := by decide +kernel
theorem dX12_goesOn_321 : decode cX12_goesOn 321 = .ok (.aload_n 0, 1) := by decide +kernel
theorem dX12_goesOn_322 : decode cX12_goesOn 322 = .ok (.getfield 16, 3) := by decide +kernel
theorem dX12_goesOn_325 : decode cX12_goesOn 325 = .ok (.aload_n 0, 1) := by decide +kernel
theorem dX12_goesOn_326 : decode cX12_goesOn 326 = .ok (.getfield 44, 3) := by decide +kernel
theorem dX12_goesOn_329 : decode cX12_goesOn 329 = .ok (.iload_n 1, 1) := by decide +kernel
theorem dX12_goesOn_330 : decode cX12_goesOn 330 = .ok (.iaload, 1) := by decide +kernel
theorem dX12_goesOn_331 : decode cX12_goesOn 331 = .ok (.iaload, 1) := by decide +kernel
theorem dX12_goesOn_332 : decode cX12_goesOn 332 = .ok (.istore 5, 2) := by decide +kernel
theorem dX12_goesOn_334 : decode cX12_goesOn 334 = .ok (.aload_n 0, 1) := by decide +kernel
theorem dX12_goesOn_335 : decode cX12_goesOn 335 = .ok (.iload_n 1, 1) := by decide +kernel
theorem dX12_goesOn_336 : decode cX12_goesOn 336 = .ok (.iload 5, 2) := by decide +kernel
theorem dX12_goesOn_338 : decode cX12_goesOn 338 = .ok (.bipush 45, 2) := by decide +kernel
theorem dX12_goesOn_340 : decode cX12_goesOn 340 = .ok (.if_icmp .ne 9, 3) := by decide +kernel
theorem dX12_goesOn_349 : decode cX12_goesOn 349 = .ok (.iload 5, 2) := by decide +kernel
theorem dX12_goesOn_351 : decode cX12_goesOn 351 = .ok (.bipush 126, 2) := by decide +kernel
theorem dX12_goesOn_353 : decode cX12_goesOn 353 = .ok (.if_icmp .ne 10, 3) := by decide +kernel
theorem dX12_goesOn_363 : decode cX12_goesOn 363 = .ok (.iconst 1, 1) := by decide +kernel
theorem dX12_goesOn_364 : decode cX12_goesOn 364 = .ok (.iload 4, 2) := by decide +kernel
theorem dX12_goesOn_366 : decode cX12_goesOn 366 = .ok (.isub, 1) := by decide +kernel
theorem dX12_goesOn_367 : decode cX12_goesOn 367 = .ok (.invokevirtual 800, 3) := by decide +kernel
theorem dX12_goesOn_370 : decode cX12_goesOn 370 = .ok (.goto 249, 3) := by decide +kernel
theorem dX12_goesOn_356 : decode cX12_goesOn 356 = .ok (.iload 4, 2) := by decide +kernel
theorem dX12_goesOn_358 : decode cX12_goesOn 358 = .ok (.iconst (-1), 1) := by decide +kernel
theorem dX12_goesOn_359 : decode cX12_goesOn 359 = .ok (.ixor, 1) := by decide +kernel
theorem dX12_goesOn_360 : decode cX12_goesOn 360 = .ok (.goto 7, 3) := by decide +kernel
theorem dX12_goesOn_343 : decode cX12_goesOn 343 = .ok (.iload 4, 2) := by decide +kernel
theorem dX12_goesOn_345 : decode cX12_goesOn 345 = .ok (.ineg, 1) := by decide +kernel
theorem dX12_goesOn_346 : decode cX12_goesOn 346 = .ok (.goto 21, 3) := by decide +kernel
theorem dX12_goesOn_373 : decode cX12_goesOn 373 = .ok (.iload_n 3, 1) := by decide +kernel
theorem dX12_goesOn_374 : decode cX12_goesOn 374 = .ok (.ifCond .eq 16, 3) := by decide +kernel
theorem dX12_goesOn_377 : decode cX12_goesOn 377 = .ok (.aload_n 0, 1) := by decide +kernel
theorem dX12_goesOn_378 : decode cX12_goesOn 378 = .ok (.aload_n 0, 1) := by decide +kernel
theorem dX12_goesOn_379 : decode cX12_goesOn 379 = .ok (.getfield 50, 3) := by decide +kernel
theorem dX12_goesOn_382 : decode cX12_goesOn 382 = .ok (.iload_n 1, 1) := by decide +kernel
theorem dX12_goesOn_383 : decode cX12_goesOn 383 = .ok (.iaload, 1) := by decide +kernel
theorem dX12_goesOn_384 : decode cX12_goesOn 384 = .ok (.invokevirtual 794, 3) := by decide +kernel
theorem dX12_goesOn_387 : decode cX12_goesOn 387 = .ok (.goto 232, 3) := by decide +kernel
theorem dX12_goesOn_390 : decode cX12_goesOn 390 = .ok (.aload_n 0, 1) := by decide +kernel
theorem dX12_goesOn_391 : decode cX12_goesOn 391 = .ok (.iload_n 1, 1) := by decide +kernel
theorem dX12_goesOn_392 : decode cX12_goesOn 392 = .ok (.invokevirtual 846, 3) := by decide +kernel
theorem dX12_goesOn_395 : decode cX12_goesOn 395 = .ok (.goto 224, 3) := by decide +kernel
theorem dX12_goesOn_398 : decode cX12_goesOn 398 = .ok (.iload_n 3, 1) := by decide +kernel
theorem dX12_goesOn_399 : decode cX12_goesOn 399 = .ok (.ifCond .eq 56, 3) := by decide +kernel
theorem dX12_goesOn_402 : decode cX12_goesOn 402 = .ok (.aload_n 0, 1) := by decide +kernel
theorem dX12_goesOn_403 : decode cX12_goesOn 403 = .ok (.getfield 218, 3) := by decide +kernel
theorem dX12_goesOn_406 : decode cX12_goesOn 406 = .ok (.aload_n 0, 1) := by decide +kernel
theorem dX12_goesOn_407 : decode cX12_goesOn 407 = .ok (.getfield 698, 3) := by decide +kernel
theorem dX12_goesOn_410 : decode cX12_goesOn 410 = .ok (.iconst 1, 1) := by decide +kernel
theorem dX12_goesOn_411 : decode cX12_goesOn 411 = .ok (.isub, 1) := by decide +kernel
theorem dX12_goesOn_412 : decode cX12_goesOn 412 = .ok (.iaload, 1) := by decide +kernel
theorem dX12_goesOn_413 : decode cX12_goesOn 413 = .ok (.aload_n 0, 1) := by decide +kernel
theorem dX12_goesOn_414 : decode cX12_goesOn 414 = .ok (.getfield 38, 3) := by decide +kernel
theorem dX12_goesOn_417 : decode cX12_goesOn 417 = .ok (.iload_n 1, 1) := by decide +kernel
theorem dX12_goesOn_418 : decode cX12_goesOn 418 = .ok (.iaload, 1) := by decide +kernel
theorem dX12_goesOn_419 : decode cX12_goesOn 419 = .ok (.bipush 19, 2) := by decide +kernel
theorem dX12_goesOn_421 : decode cX12_goesOn 421 = .ok (.if_icmp .ne 7, 3) := by decide +kernel
theorem dX12_goesOn_424 : decode cX12_goesOn 424 = .ok (.iconst 1, 1) := by decide +kernel
theorem dX12_goesOn_425 : decode cX12_goesOn 425 = .ok (.goto 4, 3) := by decide +kernel
theorem dX12_goesOn_429 : decode cX12_goesOn 429 = .ok (.if_icmp .ne 26, 3) := by decide +kernel
theorem dX12_goesOn_455 : decode cX12_goesOn 455 = .ok (.aload_n 0, 1) := by decide +kernel
theorem dX12_goesOn_456 : decode cX12_goesOn 456 = .ok (.iload_n 1, 1) := by decide +kernel
theorem dX12_goesOn_457 : decode cX12_goesOn 457 = .ok (.invokevirtual 760, 3) := by decide +kernel
theorem dX12_goesOn_460 : decode cX12_goesOn 460 = .ok (.goto 159, 3) := by decide +kernel
theorem dX12_goesOn_432 : decode cX12_goesOn 432 = .ok (.aload_n 0, 1) := by decide +kernel
theorem dX12_goesOn_433 : decode cX12_goesOn 433 = .ok (.dup, 1) := by decide +kernel
theorem dX12_goesOn_434 : decode cX12_goesOn 434 = .ok (.getfield 698, 3) := by decide +kernel
theorem dX12_goesOn_437 : decode cX12_goesOn 437 = .ok (.iconst 1, 1) := by decide +kernel
theorem dX12_goesOn_438 : decode cX12_goesOn 438 = .ok (.isub, 1) := by decide +kernel
theorem dX12_goesOn_439 : decode cX12_goesOn 439 = .ok (.putfield 698, 3) := by decide +kernel
theorem dX12_goesOn_442 : decode cX12_goesOn 442 = .ok (.aload_n 0, 1) := by decide +kernel
theorem dX12_goesOn_443 : decode cX12_goesOn 443 = .ok (.aload_n 0, 1) := by decide +kernel
theorem dX12_goesOn_444 : decode cX12_goesOn 444 = .ok (.getfield 50, 3) := by decide +kernel
theorem dX12_goesOn_447 : decode cX12_goesOn 447 = .ok (.iload_n 1, 1) := by decide +kernel
theorem dX12_goesOn_448 : decode cX12_goesOn 448 = .ok (.iaload, 1) := by decide +kernel
theorem dX12_goesOn_449 : decode cX12_goesOn 449 = .ok (.invokevirtual 794, 3) := by decide +kernel
theorem dX12_goesOn_452 : decode cX12_goesOn 452 = .ok (.goto 167, 3) := by decide +kernel
theorem dX12_goesOn_428 : decode cX12_goesOn 428 = .ok (.iconst 0, 1) := by decide +kernel
theorem dX12_goesOn_463 : decode cX12_goesOn 463 = .ok (.aload_n 0, 1) := by decide +kernel
theorem dX12_goesOn_464 : decode cX12_goesOn 464 = .ok (.invokevirtual 837, 3) := by decide +kernel
theorem dX12_goesOn_467 : decode cX12_goesOn 467 = .ok (.istore 4, 2) := by decide +kernel
theorem dX12_goesOn_469 : decode cX12_goesOn 469 = .ok (.aload_n 0, 1) := by decide +kernel
theorem dX12_goesOn_470 : decode cX12_goesOn 470 = .ok (.iload_n 1, 1) := by decide +kernel
theorem dX12_goesOn_471 : decode cX12_goesOn 471 = .ok (.iload 4, 2) := by decide +kernel
theorem dX12_goesOn_473 : decode cX12_goesOn 473 = .ok (.ifCond .eq 27, 3) := by decide +kernel
theorem dX12_goesOn_500 : decode cX12_goesOn 500 = .ok (.iconst 0, 1) := by decide +kernel
theorem dX12_goesOn_501 : decode cX12_goesOn 501 = .ok (.invokevirtual 800, 3) := by decide +kernel
theorem dX12_goesOn_504 : decode cX12_goesOn 504 = .ok (.goto 115, 3) := by decide +kernel
theorem dX12_goesOn_476 : decode cX12_goesOn 476 = .ok (.aload_n 0, 1) := by decide +kernel
theorem dX12_goesOn_477 : decode cX12_goesOn 477 = .ok (.iload 4, 2) := by decide +kernel
theorem dX12_goesOn_479 : decode cX12_goesOn 479 = .ok (.aload_n 0, 1) := by decide +kernel
theorem dX12_goesOn_480 : decode cX12_goesOn 480 = .ok (.getfield 75, 3) := by decide +kernel
theorem dX12_goesOn_483 : decode cX12_goesOn 483 = .ok (.aload_n 0, 1) := by decide +kernel
theorem dX12_goesOn_484 : decode cX12_goesOn 484 = .ok (.getfield 50, 3) := by decide +kernel
theorem dX12_goesOn_487 : decode cX12_goesOn 487 = .ok (.iload_n 1, 1) := by decide +kernel
theorem dX12_goesOn_488 : decode cX12_goesOn 488 = .ok (.iaload, 1) := by decide +kernel
theorem dX12_goesOn_489 : decode cX12_goesOn 489 = .ok (.iaload, 1) := by decide +kernel
theorem dX12_goesOn_490 : decode cX12_goesOn 490 = .ok (.invokevirtual 849, 3) := by decide +kernel
theorem dX12_goesOn_493 : decode cX12_goesOn 493 = .ok (.ifCond .eq 7, 3) := by decide +kernel
theorem dX12_goesOn_496 : decode cX12_goesOn 496 = .ok (.iconst 1, 1) := by decide +kernel
theorem dX12_goesOn_497 : decode cX12_goesOn 497 = .ok (.goto 4, 3) := by decide +kernel
theorem dX12_goesOn_507 : decode cX12_goesOn 507 = .ok (.aload_n 0, 1) := by decide +kernel
theorem dX12_goesOn_508 : decode cX12_goesOn 508 = .ok (.invokevirtual 837, 3) := by decide +kernel
theorem dX12_goesOn_511 : decode cX12_goesOn 511 = .ok (.istore 4, 2) := by decide +kernel
theorem dX12_goesOn_513 : decode cX12_goesOn 513 = .ok (.iload 4, 2) := by decide +kernel
theorem dX12_goesOn_515 : decode cX12_goesOn 515 = .ok (.ifCond .eq 34, 3) := by decide +kernel
theorem dX12_goesOn_549 : decode cX12_goesOn 549 = .ok (.aload_n 0, 1) := by decide +kernel
theorem dX12_goesOn_550 : decode cX12_goesOn 550 = .ok (.iload_n 1, 1) := by decide +kernel
theorem dX12_goesOn_551 : decode cX12_goesOn 551 = .ok (.iload 4, 2) := by decide +kernel
theorem dX12_goesOn_553 : decode cX12_goesOn 553 = .ok (.invokevirtual 800, 3) := by decide +kernel
theorem dX12_goesOn_556 : decode cX12_goesOn 556 = .ok (.goto 63, 3) := by decide +kernel
theorem dX12_goesOn_518 : decode cX12_goesOn 518 = .ok (.aload_n 0, 1) := by decide +kernel
theorem dX12_goesOn_519 : decode cX12_goesOn 519 = .ok (.iload 4, 2) := by decide +kernel
theorem dX12_goesOn_521 : decode cX12_goesOn 521 = .ok (.aload_n 0, 1) := by decide +kernel
theorem dX12_goesOn_522 : decode cX12_goesOn 522 = .ok (.getfield 75, 3) := by decide +kernel
theorem dX12_goesOn_525 : decode cX12_goesOn 525 = .ok (.aload_n 0, 1) := by decide +kernel
theorem dX12_goesOn_526 : decode cX12_goesOn 526 = .ok (.getfield 50, 3) := by decide +kernel
theorem dX12_goesOn_529 : decode cX12_goesOn 529 = .ok (.iload_n 1, 1) := by decide +kernel
theorem dX12_goesOn_530 : decode cX12_goesOn 530 = .ok (.iaload, 1) := by decide +kernel
theorem dX12_goesOn_531 : decode cX12_goesOn 531 = .ok (.iaload, 1) := by decide +kernel
theorem dX12_goesOn_532 : decode cX12_goesOn 532 = .ok (.invokevirtual 849, 3) := by decide +kernel
theorem dX12_goesOn_535 : decode cX12_goesOn 535 = .ok (.ifCond .ne 14, 3) := by decide +kernel
theorem dX12_goesOn_538 : decode cX12_goesOn 538 = .ok (.aload_n 0, 1) := by decide +kernel
theorem dX12_goesOn_539 : decode cX12_goesOn 539 = .ok (.iload_n 1, 1) := by decide +kernel
theorem dX12_goesOn_540 : decode cX12_goesOn 540 = .ok (.sipush 4002, 3) := by decide +kernel
theorem dX12_goesOn_543 : decode cX12_goesOn 543 = .ok (.invokevirtual 840, 3) := by decide +kernel
theorem dX12_goesOn_546 : decode cX12_goesOn 546 = .ok (.goto 73, 3) := by decide +kernel
theorem dX12_goesOn_559 : decode cX12_goesOn 559 = .ok (.iload_n 3, 1) := by decide +kernel
theorem dX12_goesOn_560 : decode cX12_goesOn 560 = .ok (.ifCond .eq 33, 3) := by decide +kernel
theorem dX12_goesOn_563 : decode cX12_goesOn 563 = .ok (.aload_n 0, 1) := by decide +kernel
theorem dX12_goesOn_564 : decode cX12_goesOn 564 = .ok (.aload_n 0, 1) := by decide +kernel
theorem dX12_goesOn_565 : decode cX12_goesOn 565 = .ok (.invokevirtual 837, 3) := by decide +kernel
theorem dX12_goesOn_568 : decode cX12_goesOn 568 = .ok (.iconst 1, 1) := by decide +kernel
theorem dX12_goesOn_569 : decode cX12_goesOn 569 = .ok (.if_icmp .ne 12, 3) := by decide +kernel
theorem dX12_goesOn_581 : decode cX12_goesOn 581 = .ok (.aload_n 0, 1) := by decide +kernel
theorem dX12_goesOn_582 : decode cX12_goesOn 582 = .ok (.getfield 53, 3) := by decide +kernel
theorem dX12_goesOn_585 : decode cX12_goesOn 585 = .ok (.iload_n 1, 1) := by decide +kernel
theorem dX12_goesOn_586 : decode cX12_goesOn 586 = .ok (.iaload, 1) := by decide +kernel
theorem dX12_goesOn_587 : decode cX12_goesOn 587 = .ok (.invokevirtual 794, 3) := by decide +kernel
theorem dX12_goesOn_590 : decode cX12_goesOn 590 = .ok (.goto 29, 3) := by decide +kernel
theorem dX12_goesOn_572 : decode cX12_goesOn 572 = .ok (.aload_n 0, 1) := by decide +kernel
theorem dX12_goesOn_573 : decode cX12_goesOn 573 = .ok (.getfield 50, 3) := by decide +kernel
theorem dX12_goesOn_576 : decode cX12_goesOn 576 = .ok (.iload_n 1, 1) := by decide +kernel
theorem dX12_goesOn_577 : decode cX12_goesOn 577 = .ok (.iaload, 1) := by decide +kernel
theorem dX12_goesOn_578 : decode cX12_goesOn 578 = .ok (.goto 9, 3) := by decide +kernel
theorem dX12_goesOn_593 : decode cX12_goesOn 593 = .ok (.aload_n 0, 1) := by decide +kernel
theorem dX12_goesOn_594 : decode cX12_goesOn 594 = .ok (.getfield 221, 3) := by decide +kernel
theorem dX12_goesOn_597 : decode cX12_goesOn 597 = .ok (.aload_n 0, 1) := by decide +kernel
theorem dX12_goesOn_598 : decode cX12_goesOn 598 = .ok (.getfield 698, 3) := by decide +kernel
theorem dX12_goesOn_601 : decode cX12_goesOn 601 = .ok (.iconst 1, 1) := by decide +kernel
theorem dX12_goesOn_602 : decode cX12_goesOn 602 = .ok (.isub, 1) := by decide +kernel
theorem dX12_goesOn_603 : decode cX12_goesOn 603 = .ok (.aload_n 0, 1) := by decide +kernel
theorem dX12_goesOn_604 : decode cX12_goesOn 604 = .ok (.aload_n 0, 1) := by decide +kernel
theorem dX12_goesOn_605 : decode cX12_goesOn 605 = .ok (.getfield 62, 3) := by decide +kernel
theorem dX12_goesOn_608 : decode cX12_goesOn 608 = .ok (.iload_n 1, 1) := by decide +kernel
theorem dX12_goesOn_609 : decode cX12_goesOn 609 = .ok (.iaload, 1) := by decide +kernel
theorem dX12_goesOn_610 : decode cX12_goesOn 610 = .ok (.invokevirtual 525, 3) := by decide +kernel
theorem dX12_goesOn_613 : decode cX12_goesOn 613 = .ok (.bastore, 1) := by decide +kernel
theorem dX12_goesOn_614 : decode cX12_goesOn 614 = .ok (.aload_n 0, 1) := by decide +kernel
theorem dX12_goesOn_615 : decode cX12_goesOn 615 = .ok (.iload_n 1, 1) := by decide +kernel
theorem dX12_goesOn_616 : decode cX12_goesOn 616 = .ok (.invokevirtual 760, 3) := by decide +kernel
theorem hV_X12_invokes : yX12_invokes.cls = RX12 ∧ yX12_invokes.cls ≠ "java/lang/invoke/MethodHandle" ∧ yX12_invokes.cls ≠ "java/lang/invoke/VarHandle" ∧ (parseMethodDescriptor yX12_invokes.desc).map (fun d => d.parameters.length) = some 1 := by decide +kernel
theorem hV_X12_rows : yX12_rows.cls = RX12 ∧ yX12_rows.cls ≠ "java/lang/invoke/MethodHandle" ∧ yX12_rows.cls ≠ "java/lang/invoke/VarHandle" ∧ (parseMethodDescriptor yX12_rows.desc).map (fun d => d.parameters.length) = some 1 := by decide +kernel
theorem hV_X12_isPlace : yX12_isPlace.cls = RX12 ∧ yX12_isPlace.cls ≠ "java/lang/invoke/MethodHandle" ∧ yX12_isPlace.cls ≠ "java/lang/invoke/VarHandle" ∧ (parseMethodDescriptor yX12_isPlace.desc).map (fun d => d.parameters.length) = some 1 := by decide +kernel
theorem hV_X12_field : yX12_field.cls = RX12 ∧ yX12_field.cls ≠ "java/lang/invoke/MethodHandle" ∧ yX12_field.cls ≠ "java/lang/invoke/VarHandle" ∧ (parseMethodDescriptor yX12_field.desc).map (fun d => d.parameters.length) = some 1 := by decide +kernel
theorem hV_X12_element : yX12_element.cls = RX12 ∧ yX12_element.cls ≠ "java/lang/invoke/MethodHandle" ∧ yX12_element.cls ≠ "java/lang/invoke/VarHandle" ∧ (parseMethodDescriptor yX12_element.desc).map (fun d => d.parameters.length) = some 1 := by decide +kernel
theorem hV_X12_works : yX12_works.cls = RX12 ∧ yX12_works.cls ≠ "java/lang/invoke/MethodHandle" ∧ yX12_works.cls ≠ "java/lang/invoke/VarHandle" ∧ (parseMethodDescriptor yX12_works.desc).map (fun d => d.parameters.length) = some 1 := by decide +kernel
theorem hV_X12_isOf : yX12_isOf.cls = RX12 ∧ yX12_isOf.cls ≠ "java/lang/invoke/MethodHandle" ∧ yX12_isOf.cls ≠ "java/lang/invoke/VarHandle" ∧ (parseMethodDescriptor yX12_isOf.desc).map (fun d => d.parameters.length) = some 2 := by decide +kernel
set_option maxHeartbeats 40000000 in
set_option maxRecDepth 100000 in
/-- goesOn(p, n) -/
theorem R_goesOn (l : Launch) (G : pT) (h0 : Nat) (a : Nat → Nat) (F : Nat → Int32) (B : Nat → Nat → Int32) (Xs : Nat → Nat → Int32) (gh : Nat → Nat → Nat) (nd : Nat) (T : Nat) (nm : Nat) (wr : Nat) (lz : Nat) (dc : Nat) (fd : Nat) (md : Nat) (pr : Nat) (bk : Nat) (M : MTb) (rmm : Nat) (op : Nat) (tp : Nat) (wn : Nat) (fu : Nat) (rd : Nat) (on : Nat) (idn : Nat) (fl : Nat) (ct : Nat) (n9 : Nat) (p9 : Nat) (u : Ps) (mt : Nat → Nat) (ps : Nat → Nat) (yy : Nat → Ps) (bf : Nat → Nat) (wf : Nat → Nat) (nw : Int32) (isn : Int32) (rs0 : Int32) (uc0 : Int32) (tds : Int32) (ma0 : Int32) (mc0 : Int32) (ca : Int32) (mo : Int32) (kk : Nat) (hR : Rn Xs B gh nd T nm wr lz dc fd md pr bk M rmm op tp wn fu rd on idn fl ct n9 true mt ps yy bf wf) (hp : Pv Xs (M.1 (mt (op - 1))) (rtP M (mt (op - 1))) p9 u) (hst : stq Xs p9 u n9 (yy (op - 1))) (hfu : fu ≤ 20000) (hkd : Xs 9 p9 = nI kk) (hk23 : 1 ≤ kk ∧ kk ≤ 23) : PM l G pX0 yX12_goesOn cX12_goesOn 6 none ({ frames := 7, cells := 0, slots := 0, locals := 181 }) [.ref h0, .int (nI p9), .int (nI n9)] (mW G h0 a (upd (upd (upd (upd (upd (upd (upd (upd (upd (upd (upd (upd (upd (upd (upd (upd (upd (upd (upd (upd F 49 (nI md)) 97 (nI ct)) 98 (nI fl)) 99 (nI rmm)) 101 tds) 102 (nI op)) 111 (nI tp)) 115 (nI wn)) 116 (-1)) 117 (nI fu)) 118 rs0) 119 uc0) 121 ma0) 122 mc0) 123 ca) 124 mo) 125 nw) 126 isn) 128 (nI on)) 130 (nI idn)) B) (fun (v : Option Value) (u : Nat × Nat × Nat × Nat × Int32 × Int32 × Int32 × Int32 × Int32 × Nat × Nat × Nat × Nat × Int32 × Int32 × Int32 × Int32 × Int32 × (Nat → Nat → Int32)) => v = none ∧ (Nx Xs u.2.2.2.2.2.2.2.2.2.2.2.2.2.2.2.2.2.2 gh nd T nm wr lz dc fd md pr bk M rmm fu (Phi gh ps op (rkN gh n9 true)) u.1 u.2.1 u.2.2.1 u.2.2.2.1 rd u.2.2.2.2.2.2.2.2.2.1 u.2.2.2.2.2.2.2.2.2.2.1 u.2.2.2.2.2.2.2.2.2.2.2.1 u.2.2.2.2.2.2.2.2.2.2.2.2.1 u.2.2.2.2.1 u.2.2.2.2.2.1 u.2.2.2.2.2.2.1 u.2.2.2.2.2.2.2.2.1)) (fun u => (mW G h0 a (upd (upd (upd (upd (upd (upd (upd (upd (upd (upd (upd (upd (upd (upd (upd (upd (upd (upd (upd (upd F 49 (nI md)) 97 (nI u.2.2.2.2.2.2.2.2.2.2.2.2.1)) 98 (nI u.2.2.2.2.2.2.2.2.2.2.2.1)) 99 (nI rmm)) 101 u.2.2.2.2.2.2.2.2.2.2.2.2.2.1) 102 (nI u.1)) 111 (nI u.2.1)) 115 (nI u.2.2.1)) 116 u.2.2.2.2.1) 117 (nI u.2.2.2.1)) 118 u.2.2.2.2.2.2.2.1) 119 u.2.2.2.2.2.2.2.2.1) 121 u.2.2.2.2.2.2.2.2.2.2.2.2.2.2.1) 122 u.2.2.2.2.2.2.2.2.2.2.2.2.2.2.2.1) 123 u.2.2.2.2.2.2.2.2.2.2.2.2.2.2.2.2.1) 124 u.2.2.2.2.2.2.2.2.2.2.2.2.2.2.2.2.2.1) 125 u.2.2.2.2.2.1) 126 u.2.2.2.2.2.2.1) 128 (nI u.2.2.2.2.2.2.2.2.2.1)) 130 (nI u.2.2.2.2.2.2.2.2.2.2.1)) u.2.2.2.2.2.2.2.2.2.2.2.2.2.2.2.2.2.2)) := by
  intro sz
  refine Met.ofW (cc := cX12_goesOn) (maxL := 6) (ret := none) (by decide) rfl ?_
  intro p e s m args below meth c s₁ B9 hml hv
  obtain ⟨rfl, hsz, hP, hD0, hE, hX⟩ := hv
  have hx := B9.exec
  have hb := B9.bytes
  have hr := B9.returns
  have hts := atoms_spec (ws := Cond.code yX12_goesOn cX12_goesOn 6 none :: pw) B9.pre
  have hq : ∀ w ∈ pw, w.before _ s = true := fun w h => hts w (List.mem_cons_of_mem _ h)
  have hown : s.vm.findClass RX12 = some m.cls := findClass_of_methodNamed B9.named
  have hlocks := B9.notSynchronized
  subst hsz
  have hD := hD0.self (sz := s.heap.size)
  have hA : ∀ q : Nat, s.heap.size ≤ q → va_A (mW G h0 a (upd (upd (upd (upd (upd (upd (upd (upd (upd (upd (upd (upd (upd (upd (upd (upd (upd (upd (upd (upd F 49 (nI md)) 97 (nI ct)) 98 (nI fl)) 99 (nI rmm)) 101 tds) 102 (nI op)) 111 (nI tp)) 115 (nI wn)) 116 (-1)) 117 (nI fu)) 118 rs0) 119 uc0) 121 ma0) 122 mc0) 123 ca) 124 mo) 125 nw) 126 isn) 128 (nI on)) 130 (nI idn)) B) s.heap.size q := fun q h => Or.inr h
  have hP : va_P G.1 pCl (mW G h0 a (upd (upd (upd (upd (upd (upd (upd (upd (upd (upd (upd (upd (upd (upd (upd (upd (upd (upd (upd (upd F 49 (nI md)) 97 (nI ct)) 98 (nI fl)) 99 (nI rmm)) 101 tds) 102 (nI op)) 111 (nI tp)) 115 (nI wn)) 116 (-1)) 117 (nI fu)) 118 rs0) 119 uc0) 121 ma0) 122 mc0) 123 ca) 124 mo) 125 nw) 126 isn) 128 (nI on)) 130 (nI idn)) B) s.heap := hP
  generalize va_A (mW G h0 a (upd (upd (upd (upd (upd (upd (upd (upd (upd (upd (upd (upd (upd (upd (upd (upd (upd (upd (upd (upd F 49 (nI md)) 97 (nI ct)) 98 (nI fl)) 99 (nI rmm)) 101 tds) 102 (nI op)) 111 (nI tp)) 115 (nI wn)) 116 (-1)) 117 (nI fu)) 118 rs0) 119 uc0) 121 ma0) 122 mc0) 123 ca) 124 mo) 125 nw) 126 isn) 128 (nI on)) 130 (nI idn)) B) s.heap.size = A at hD hE hA ⊢
  have hS : va_S A s.heap s.heap [] := va_S.rf
  have hl := lv_entry ([.ref h0, .int (nI p9), .int (nI n9)]) (n := 6) (Nat.le_of_ble_eq_true rfl)
  rw [lg_entry_eq]
  generalize (lg_sl ([.ref h0, .int (nI p9), .int (nI n9)]) ++ List.replicate (6 - (lg_sl ([.ref h0, .int (nI p9), .int (nI n9)])).length) Slot.unset).toArray = ls at hl ⊢
  have hl : lv_has ls 6 [(0, .ref h0), (1, .int (nI p9)), (2, .int (nI n9))] := hl
  have hPg := hR.pg
  have hbd := hPg.bd
  have hrm := hR.room
  have hpn := hR.pn hp
  have hw2 : B 2 = Xs 2 := hPg.row 2 (by omega) (by omega) (by omega) (by omega) (by omega)
  have hw9 : B 9 = Xs 9 := hPg.row 9 (by omega) (by omega) (by omega) (by omega) (by omega)
  have hw11 : B 11 = Xs 11 := hPg.row 11 (by omega) (by omega) (by omega) (by omega) (by omega)
  have hw12 : B 12 = Xs 12 := hPg.row 12 (by omega) (by omega) (by omega) (by omega) (by omega)
  have hw13 : B 13 = Xs 13 := hPg.row 13 (by omega) (by omega) (by omega) (by omega) (by omega)
  have hw16 : B 16 = Xs 16 := hPg.row 16 (by omega) (by omega) (by omega) (by omega) (by omega)
  have hw21 : B 21 = Xs 21 := hPg.row 21 (by omega) (by omega) (by omega) (by omega) (by omega)
  have hw31 : B 31 = Xs 31 := hPg.row 31 (by omega) (by omega) (by omega) (by omega) (by omega)
  rcases (show kk = 1 ∨ kk = 2 ∨ kk = 3 ∨ kk = 4 ∨ kk = 5 ∨ kk = 6 ∨ kk = 7 ∨ kk = 8 ∨ kk = 9 ∨ kk = 10 ∨ kk = 11 ∨ kk = 12 ∨ kk = 13 ∨ kk = 14 ∨ kk = 15 ∨ kk = 16 ∨ kk = 17 ∨ kk = 18 ∨ kk = 19 ∨ kk = 20 ∨ kk = 21 ∨ kk = 22 ∨ kk = 23 by omega) with rfl | rfl | rfl | rfl | rfl | rfl | rfl | rfl | rfl | rfl | rfl | rfl | rfl | rfl | rfl | rfl | rfl | rfl | rfl | rfl | rfl | rfl | rfl
  · exact (hR.kid0 hp hst hkd (by omega) (by decide)).elim
  · exact (hR.kid0 hp hst hkd (by omega) (by decide)).elim
  · exact (hR.kid0 hp hst hkd (by omega) (by decide)).elim
  · exact (hR.kid0 hp hst hkd (by omega) (by decide)).elim
  · exact (hR.kid0 hp hst hkd (by omega) (by decide)).elim
  · exact (hR.kid0 hp hst hkd (by omega) (by decide)).elim
  · by_cases hfi : Xs 12 p9 = nI n9
    · refine lv_iload_n hx hb dX12_goesOn_0 rfl (lv_at hl 2 rfl) ?_
      refine lv_aload_n hx hb dX12_goesOn_1 rfl (lv_at hl 0 rfl) ?_
      refine r_get (v := .ref (a 12)) hx hb hown hq hE hP 20 47 tFX12_20 (by decide) pw_1442 rfl dX12_goesOn_2 ?_
      refine lv_iload_n hx hb dX12_goesOn_5 rfl (lv_at hl 1 rfl) ?_
      refine r_ldi (f := (B 12)) (j := p9) hx hb hE hP 12 (ma_12 G a _) rfl (by omega) (by decide) dX12_goesOn_6 ?_
      refine lv_topi (fun x1 e2 => ?_)
      obtain rfl : x1 = nI n9 := e2.trans ((congrFun hw12 _).trans hfi)
      refine lv_icmp_ne (tgt := 14) hx hb dX12_goesOn_7 (by decide) (fun c3 => absurd rfl c3) (fun c3 => ?_)
      refine lv_iconst (v := 1) hx hb dX12_goesOn_10 (by decide) ?_
      refine lv_goto (tgt := 15) hx hb dX12_goesOn_11 (by decide) ?_
      refine lv_istore_n (lv' := [(3, .int 1), (0, .ref h0), (1, .int (nI p9)), (2, .int (nI n9))]) hx hb dX12_goesOn_15 rfl hl (by decide) rfl (fun ls hl => ?_)
      refine lv_aload_n hx hb dX12_goesOn_16 rfl (lv_at hl 1 rfl) ?_
      refine r_get (v := .ref (a 9)) hx hb hown hq hE hP 17 38 tFX12_17 (by decide) pw_1439 rfl dX12_goesOn_17 ?_
      refine lv_iload_n hx hb dX12_goesOn_20 rfl (lv_at hl 2 rfl) ?_
      refine r_ldi (f := (B 9)) (j := p9) hx hb hE hP 9 (ma_9 G a _) rfl (by omega) (by decide) dX12_goesOn_21 ?_
      refine lv_topi (fun x4 e5 => ?_)
      obtain rfl : x4 = 7 := e5.trans ((congrFun hw9 _).trans hkd)
      refine lv_tableIn (tgt := 100) (off := 78) hx hb dX12_goesOn_22 (by decide) (by decide) (by decide) (by decide) ?_
      refine lv_aload_n hx hb dX12_goesOn_100 rfl (lv_at hl 1 rfl) ?_
      refine r_get (v := .ref (a 16)) hx hb hown hq hE hP 24 59 tFX12_24 (by decide) pw_1446 rfl dX12_goesOn_101 ?_
      refine lv_iload_n hx hb dX12_goesOn_104 rfl (lv_at hl 3 rfl) ?_
      refine r_ldi (f := (B 16)) (j := n9) hx hb hE hP 16 (ma_16 G a _) rfl (by omega) (by decide) dX12_goesOn_105 ?_
      rcases hR.arg (uc := uc0) hp hst hkd (by omega) (fun h => absurd h (by omega)) with ⟨ha1, q9, ha2, ha3⟩ | ⟨j1, ha1, ha2, ha3⟩
      · refine lv_topi (fun x6 e7 => ?_)
        obtain rfl : x6 = (-1) := e7.trans ((congrFun hw16 _).trans ha1)
        refine lv_iconst (v := (-1)) hx hb dX12_goesOn_106 (by decide) ?_
        refine lv_icmp_ne (tgt := 118) hx hb dX12_goesOn_107 (by decide) (fun c8 => absurd c8 (by decide)) (fun c8 => ?_)
        refine lv_aload_n hx hb dX12_goesOn_110 rfl (lv_at hl 1 rfl) ?_
        refine lv_iload_n hx hb dX12_goesOn_111 rfl (lv_at hl 2 rfl) ?_
        have hP : va_P G.1 pCl (mW G h0 a (upd (upd (upd (upd (upd (upd (upd (upd (upd (upd (upd (upd (upd (upd (upd (upd (upd (upd (upd (upd (upd (upd (upd (upd (upd (upd (upd (upd (upd (upd (upd (upd F 49 (nI md)) 97 (nI ct)) 98 (nI fl)) 99 (nI rmm)) 101 tds) 102 (nI op)) 111 (nI tp)) 115 (nI wn)) 116 (-1)) 117 (nI fu)) 118 rs0) 119 uc0) 121 ma0) 122 mc0) 123 ca) 124 mo) 125 nw) 126 isn) 128 (nI on)) 130 (nI idn)) 49 (nI md)) 102 (nI op)) 111 (nI tp)) 115 (nI wn)) 116 (-1)) 117 (nI fu)) 118 rs0) 119 uc0) 123 ca) 124 mo) 125 nw) 126 isn) B) _ := hP
        have hD : va_D A (mW G h0 a (upd (upd (upd (upd (upd (upd (upd (upd (upd (upd (upd (upd (upd (upd (upd (upd (upd (upd (upd (upd (upd (upd (upd (upd (upd (upd (upd (upd (upd (upd (upd (upd F 49 (nI md)) 97 (nI ct)) 98 (nI fl)) 99 (nI rmm)) 101 tds) 102 (nI op)) 111 (nI tp)) 115 (nI wn)) 116 (-1)) 117 (nI fu)) 118 rs0) 119 uc0) 121 ma0) 122 mc0) 123 ca) 124 mo) 125 nw) 126 isn) 128 (nI on)) 130 (nI idn)) 49 (nI md)) 102 (nI op)) 111 (nI tp)) 115 (nI wn)) 116 (-1)) 117 (nI fu)) 118 rs0) 119 uc0) 123 ca) 124 mo) 125 nw) 126 isn) B) := hD
        refine pc_V0 (G := G) (As := [.int (nI p9)]) (rest := []) hx hb hml hown hq hE hX pX0_al hP hD hS hA hl.1 (R_invokes7 l G h0 a (upd (upd (upd (upd (upd (upd (upd (upd (upd (upd (upd (upd (upd (upd (upd (upd (upd (upd (upd (upd F 49 (nI md)) 97 (nI ct)) 98 (nI fl)) 99 (nI rmm)) 101 tds) 102 (nI op)) 111 (nI tp)) 115 (nI wn)) 116 (-1)) 117 (nI fu)) 118 rs0) 119 uc0) 121 ma0) 122 mc0) 123 ca) 124 mo) 125 nw) 126 isn) 128 (nI on)) 130 (nI idn)) B Xs gh nd T nm wr lz dc fd md pr bk M rmm (Phi gh ps op (rkN gh n9 true)) op tp wn fu rd on idn fl ct p9 q9 mt ps (yyU yy (op - 1) u) bf wf nw isn rs0 uc0 ca mo ha3 (by omega) hkd) (gV pw_2075 pw_2076 pw_2077 pw_1523 pw_2063) hV_X12_invokes 0 9 rfl rfl rfl rfl (Nat.le_of_ble_eq_true rfl) dX12_goesOn_112 ⟨Nat.le_of_ble_eq_true rfl, Nat.le_of_ble_eq_true rfl⟩ ⟨Nat.le_of_ble_eq_true rfl, Nat.le_of_ble_eq_true rfl⟩ (fun v11 u9 H locs hw10 hP hD hS => ?_)
        obtain ⟨op12, tp13, wn14, fu15, en16, nw17, is18, rs19, uc20, ca21, mo22, X23⟩ := u9
        obtain ⟨hw10, h24⟩ := hw10
        replace h24 : Nx Xs X23 gh nd T nm wr lz dc fd md pr bk M rmm fu (Phi gh ps op (rkN gh n9 true)) op12 tp13 wn14 fu15 rd on idn fl ct en16 nw17 is18 uc20 := h24
        obtain rfl : v11 = none := hw10
        have hP : va_P G.1 pCl (mW G h0 a (upd (upd (upd (upd (upd (upd (upd (upd (upd (upd (upd (upd (upd (upd (upd (upd (upd (upd (upd (upd F 49 (nI md)) 97 (nI ct)) 98 (nI fl)) 99 (nI rmm)) 101 tds) 102 (nI op12)) 111 (nI tp13)) 115 (nI wn14)) 116 en16) 117 (nI fu15)) 118 rs19) 119 uc20) 121 ma0) 122 mc0) 123 ca21) 124 mo22) 125 nw17) 126 is18) 128 (nI on)) 130 (nI idn)) X23) _ := hP
        have hD : va_D A (mW G h0 a (upd (upd (upd (upd (upd (upd (upd (upd (upd (upd (upd (upd (upd (upd (upd (upd (upd (upd (upd (upd F 49 (nI md)) 97 (nI ct)) 98 (nI fl)) 99 (nI rmm)) 101 tds) 102 (nI op12)) 111 (nI tp13)) 115 (nI wn14)) 116 en16) 117 (nI fu15)) 118 rs19) 119 uc20) 121 ma0) 122 mc0) 123 ca21) 124 mo22) 125 nw17) 126 is18) 128 (nI on)) 130 (nI idn)) X23) := hD
        refine W.widen (k := 0) (n := 0) (Nat.le_of_ble_eq_true rfl) (Nat.le_of_ble_eq_true rfl) ?_
        refine W.eq (g2 := F0 m 115 ls []) rfl ?_
        refine lv_goto (tgt := 619) hx hb dX12_goesOn_115 (by decide) ?_
        have hz25 : Nx Xs X23 gh nd T nm wr lz dc fd md pr bk M rmm fu (Phi gh ps op (rkN gh n9 true)) op12 tp13 wn14 fu15 rd on idn fl ct en16 nw17 is18 uc20 := h24
        have hP : va_P G.1 pCl (mW G h0 a (upd (upd (upd (upd (upd (upd (upd (upd (upd (upd (upd (upd (upd (upd (upd (upd (upd (upd (upd (upd F 49 (nI md)) 97 (nI ct)) 98 (nI fl)) 99 (nI rmm)) 101 tds) 102 (nI op12)) 111 (nI tp13)) 115 (nI wn14)) 116 en16) 117 (nI fu15)) 118 rs19) 119 uc20) 121 ma0) 122 mc0) 123 ca21) 124 mo22) 125 nw17) 126 is18) 128 (nI on)) 130 (nI idn)) X23) _ := hP
        have hD : va_D A (mW G h0 a (upd (upd (upd (upd (upd (upd (upd (upd (upd (upd (upd (upd (upd (upd (upd (upd (upd (upd (upd (upd F 49 (nI md)) 97 (nI ct)) 98 (nI fl)) 99 (nI rmm)) 101 tds) 102 (nI op12)) 111 (nI tp13)) 115 (nI wn14)) 116 en16) 117 (nI fu15)) 118 rs19) 119 uc20) 121 ma0) 122 mc0) 123 ca21) 124 mo22) 125 nw17) 126 is18) 128 (nI on)) 130 (nI idn)) X23) := hD
        exact W.vret hx hb hr (fun t9 ht9 hW9 => ⟨⟨_, (op12, tp13, wn14, fu15, en16, nw17, is18, rs19, uc20, on, idn, fl, ct, tds, ma0, mc0, ca21, mo22, X23), rfl, ⟨rfl, hz25⟩, by rw [ht9]; exact hP, hD⟩, hS.F ht9⟩) hS.2.2 dX12_goesOn_619
      · refine lv_topi (fun x26 e27 => ?_)
        obtain rfl : x26 = nI j1 := e27.trans ((congrFun hw16 _).trans ha1)
        refine lv_iconst (v := (-1)) hx hb dX12_goesOn_106 (by decide) ?_
        refine lv_icmp_ne (tgt := 118) hx hb dX12_goesOn_107 (by decide) (fun c28 => ?_) (fun c28 => absurd c28 (nI_m1 (by omega)))
        refine lv_aload_n hx hb dX12_goesOn_118 rfl (lv_at hl 1 rfl) ?_
        refine lv_aload_n hx hb dX12_goesOn_119 rfl (lv_at hl 1 rfl) ?_
        refine r_get (v := .ref (a 16)) hx hb hown hq hE hP 24 59 tFX12_24 (by decide) pw_1446 rfl dX12_goesOn_120 ?_
        refine lv_iload_n hx hb dX12_goesOn_123 rfl (lv_at hl 3 rfl) ?_
        refine r_ldi (f := (B 16)) (j := n9) hx hb hE hP 16 (ma_16 G a _) rfl (by omega) (by decide) dX12_goesOn_124 ?_
        refine lv_topi (fun x29 e30 => ?_)
        obtain rfl : x29 = nI j1 := e30.trans ((congrFun hw16 _).trans ha1)
        have hP : va_P G.1 pCl (mW G h0 a (upd (upd (upd (upd (upd (upd (upd (upd (upd (upd (upd (upd (upd (upd (upd (upd (upd (upd (upd (upd F 49 (nI md)) 97 (nI ct)) 98 (nI fl)) 99 (nI rmm)) 101 tds) 102 (nI op)) 111 (nI tp)) 115 (nI wn)) 116 (-1)) 117 (nI fu)) 118 rs0) 119 uc0) 121 ma0) 122 mc0) 123 ca) 124 mo) 125 nw) 126 isn) 128 (nI on)) 130 (nI idn)) B) _ := hP
        have hD : va_D A (mW G h0 a (upd (upd (upd (upd (upd (upd (upd (upd (upd (upd (upd (upd (upd (upd (upd (upd (upd (upd (upd (upd F 49 (nI md)) 97 (nI ct)) 98 (nI fl)) 99 (nI rmm)) 101 tds) 102 (nI op)) 111 (nI tp)) 115 (nI wn)) 116 (-1)) 117 (nI fu)) 118 rs0) 119 uc0) 121 ma0) 122 mc0) 123 ca) 124 mo) 125 nw) 126 isn) 128 (nI on)) 130 (nI idn)) B) := hD
        refine pc_V0 (G := G) (As := [.int (nI j1)]) (rest := []) hx hb hml hown hq hE hX pX0_al hP hD hS hA hl.1 (R_begin l G h0 a (upd (upd (upd (upd (upd (upd (upd (upd (upd (upd (upd (upd (upd (upd (upd (upd (upd (upd (upd (upd F 49 (nI md)) 97 (nI ct)) 98 (nI fl)) 99 (nI rmm)) 101 tds) 102 (nI op)) 111 (nI tp)) 115 (nI wn)) 116 (-1)) 117 (nI fu)) 118 rs0) 119 uc0) 121 ma0) 122 mc0) 123 ca) 124 mo) 125 nw) 126 isn) 128 (nI on)) 130 (nI idn)) B (nI j1)) (gV pw_2016 pw_2017 pw_2018 pw_1523 pw_2002) hV_X12_begin 0 9 rfl rfl rfl rfl (Nat.le_of_ble_eq_true rfl) dX12_goesOn_125 ⟨Nat.le_of_ble_eq_true rfl, Nat.le_of_ble_eq_true rfl⟩ ⟨Nat.le_of_ble_eq_true rfl, Nat.le_of_ble_eq_true rfl⟩ (fun v33 u31 H locs hw32 hP hD hS => ?_)
        obtain rfl : v33 = none := hw32
        have hP : va_P G.1 pCl (mW G h0 a (upd (upd (upd (upd (upd (upd (upd (upd (upd (upd (upd (upd (upd (upd (upd (upd (upd (upd (upd (upd F 49 (nI md)) 97 (nI ct)) 98 (nI fl)) 99 (nI rmm)) 101 tds) 102 (nI op)) 111 (nI tp)) 115 (nI wn)) 116 (-1)) 117 (nI fu)) 118 rs0) 119 uc0) 121 ma0) 122 mc0) 123 ca) 124 mo) 125 (nI j1)) 126 1) 128 (nI on)) 130 (nI idn)) B) _ := hP
        have hD : va_D A (mW G h0 a (upd (upd (upd (upd (upd (upd (upd (upd (upd (upd (upd (upd (upd (upd (upd (upd (upd (upd (upd (upd F 49 (nI md)) 97 (nI ct)) 98 (nI fl)) 99 (nI rmm)) 101 tds) 102 (nI op)) 111 (nI tp)) 115 (nI wn)) 116 (-1)) 117 (nI fu)) 118 rs0) 119 uc0) 121 ma0) 122 mc0) 123 ca) 124 mo) 125 (nI j1)) 126 1) 128 (nI on)) 130 (nI idn)) B) := hD
        refine W.widen (k := 0) (n := 0) (Nat.le_of_ble_eq_true rfl) (Nat.le_of_ble_eq_true rfl) ?_
        refine W.eq (g2 := F0 m 128 ls []) rfl ?_
        refine lv_goto (tgt := 619) hx hb dX12_goesOn_128 (by decide) ?_
        have hz34 : Nx Xs B gh nd T nm wr lz dc fd md pr bk M rmm fu (Phi gh ps op (rkN gh n9 true)) op tp wn fu rd on idn fl ct ((-1) : Int32) (nI j1) (1 : Int32) uc0 := ha3
        have hP : va_P G.1 pCl (mW G h0 a (upd (upd (upd (upd (upd (upd (upd (upd (upd (upd (upd (upd (upd (upd (upd (upd (upd (upd (upd (upd F 49 (nI md)) 97 (nI ct)) 98 (nI fl)) 99 (nI rmm)) 101 tds) 102 (nI op)) 111 (nI tp)) 115 (nI wn)) 116 ((-1) : Int32)) 117 (nI fu)) 118 rs0) 119 uc0) 121 ma0) 122 mc0) 123 ca) 124 mo) 125 (nI j1)) 126 (1 : Int32)) 128 (nI on)) 130 (nI idn)) B) _ := hP
        have hD : va_D A (mW G h0 a (upd (upd (upd (upd (upd (upd (upd (upd (upd (upd (upd (upd (upd (upd (upd (upd (upd (upd (upd (upd F 49 (nI md)) 97 (nI ct)) 98 (nI fl)) 99 (nI rmm)) 101 tds) 102 (nI op)) 111 (nI tp)) 115 (nI wn)) 116 ((-1) : Int32)) 117 (nI fu)) 118 rs0) 119 uc0) 121 ma0) 122 mc0) 123 ca) 124 mo) 125 (nI j1)) 126 (1 : Int32)) 128 (nI on)) 130 (nI idn)) B) := hD
        exact W.vret hx hb hr (fun t9 ht9 hW9 => ⟨⟨_, (op, tp, wn, fu, ((-1) : Int32), (nI j1), (1 : Int32), rs0, uc0, on, idn, fl, ct, tds, ma0, mc0, ca, mo, B), rfl, ⟨rfl, hz34⟩, by rw [ht9]; exact hP, hD⟩, hS.F ht9⟩) hS.2.2 dX12_goesOn_619
    · refine lv_iload_n hx hb dX12_goesOn_0 rfl (lv_at hl 2 rfl) ?_
      refine lv_aload_n hx hb dX12_goesOn_1 rfl (lv_at hl 0 rfl) ?_
      refine r_get (v := .ref (a 12)) hx hb hown hq hE hP 20 47 tFX12_20 (by decide) pw_1442 rfl dX12_goesOn_2 ?_
      refine lv_iload_n hx hb dX12_goesOn_5 rfl (lv_at hl 1 rfl) ?_
      refine r_ldi (f := (B 12)) (j := p9) hx hb hE hP 12 (ma_12 G a _) rfl (by omega) (by decide) dX12_goesOn_6 ?_
      refine lv_icmp_ne (tgt := 14) hx hb dX12_goesOn_7 (by decide) (fun c35 => ?_) (fun c35 => absurd ((congrFun hw12 _).symm.trans c35.symm) hfi)
      refine lv_iconst (v := 0) hx hb dX12_goesOn_14 (by decide) ?_
      refine lv_istore_n (lv' := [(3, .int 0), (0, .ref h0), (1, .int (nI p9)), (2, .int (nI n9))]) hx hb dX12_goesOn_15 rfl hl (by decide) rfl (fun ls hl => ?_)
      refine lv_aload_n hx hb dX12_goesOn_16 rfl (lv_at hl 1 rfl) ?_
      refine r_get (v := .ref (a 9)) hx hb hown hq hE hP 17 38 tFX12_17 (by decide) pw_1439 rfl dX12_goesOn_17 ?_
      refine lv_iload_n hx hb dX12_goesOn_20 rfl (lv_at hl 2 rfl) ?_
      refine r_ldi (f := (B 9)) (j := p9) hx hb hE hP 9 (ma_9 G a _) rfl (by omega) (by decide) dX12_goesOn_21 ?_
      refine lv_topi (fun x36 e37 => ?_)
      obtain rfl : x36 = 7 := e37.trans ((congrFun hw9 _).trans hkd)
      refine lv_tableIn (tgt := 100) (off := 78) hx hb dX12_goesOn_22 (by decide) (by decide) (by decide) (by decide) ?_
      refine lv_aload_n hx hb dX12_goesOn_100 rfl (lv_at hl 1 rfl) ?_
      refine r_get (v := .ref (a 16)) hx hb hown hq hE hP 24 59 tFX12_24 (by decide) pw_1446 rfl dX12_goesOn_101 ?_
      refine lv_iload_n hx hb dX12_goesOn_104 rfl (lv_at hl 3 rfl) ?_
      refine r_ldi (f := (B 16)) (j := n9) hx hb hE hP 16 (ma_16 G a _) rfl (by omega) (by decide) dX12_goesOn_105 ?_
      rcases hR.arg (uc := uc0) hp hst hkd (by omega) (fun h => absurd h (by omega)) with ⟨ha1, q9, ha2, ha3⟩ | ⟨j1, ha1, ha2, ha3⟩
      · refine lv_topi (fun x38 e39 => ?_)
        obtain rfl : x38 = (-1) := e39.trans ((congrFun hw16 _).trans ha1)
        refine lv_iconst (v := (-1)) hx hb dX12_goesOn_106 (by decide) ?_
        refine lv_icmp_ne (tgt := 118) hx hb dX12_goesOn_107 (by decide) (fun c40 => absurd c40 (by decide)) (fun c40 => ?_)
        refine lv_aload_n hx hb dX12_goesOn_110 rfl (lv_at hl 1 rfl) ?_
        refine lv_iload_n hx hb dX12_goesOn_111 rfl (lv_at hl 2 rfl) ?_
        have hP : va_P G.1 pCl (mW G h0 a (upd (upd (upd (upd (upd (upd (upd (upd (upd (upd (upd (upd (upd (upd (upd (upd (upd (upd (upd (upd (upd (upd (upd (upd (upd (upd (upd (upd (upd (upd (upd (upd F 49 (nI md)) 97 (nI ct)) 98 (nI fl)) 99 (nI rmm)) 101 tds) 102 (nI op)) 111 (nI tp)) 115 (nI wn)) 116 (-1)) 117 (nI fu)) 118 rs0) 119 uc0) 121 ma0) 122 mc0) 123 ca) 124 mo) 125 nw) 126 isn) 128 (nI on)) 130 (nI idn)) 49 (nI md)) 102 (nI op)) 111 (nI tp)) 115 (nI wn)) 116 (-1)) 117 (nI fu)) 118 rs0) 119 uc0) 123 ca) 124 mo) 125 nw) 126 isn) B) _ := hP
        have hD : va_D A (mW G h0 a (upd (upd (upd (upd (upd (upd (upd (upd (upd (upd (upd (upd (upd (upd (upd (upd (upd (upd (upd (upd (upd (upd (upd (upd (upd (upd (upd (upd (upd (upd (upd (upd F 49 (nI md)) 97 (nI ct)) 98 (nI fl)) 99 (nI rmm)) 101 tds) 102 (nI op)) 111 (nI tp)) 115 (nI wn)) 116 (-1)) 117 (nI fu)) 118 rs0) 119 uc0) 121 ma0) 122 mc0) 123 ca) 124 mo) 125 nw) 126 isn) 128 (nI on)) 130 (nI idn)) 49 (nI md)) 102 (nI op)) 111 (nI tp)) 115 (nI wn)) 116 (-1)) 117 (nI fu)) 118 rs0) 119 uc0) 123 ca) 124 mo) 125 nw) 126 isn) B) := hD
        refine pc_V0 (G := G) (As := [.int (nI p9)]) (rest := []) hx hb hml hown hq hE hX pX0_al hP hD hS hA hl.1 (R_invokes7 l G h0 a (upd (upd (upd (upd (upd (upd (upd (upd (upd (upd (upd (upd (upd (upd (upd (upd (upd (upd (upd (upd F 49 (nI md)) 97 (nI ct)) 98 (nI fl)) 99 (nI rmm)) 101 tds) 102 (nI op)) 111 (nI tp)) 115 (nI wn)) 116 (-1)) 117 (nI fu)) 118 rs0) 119 uc0) 121 ma0) 122 mc0) 123 ca) 124 mo) 125 nw) 126 isn) 128 (nI on)) 130 (nI idn)) B Xs gh nd T nm wr lz dc fd md pr bk M rmm (Phi gh ps op (rkN gh n9 true)) op tp wn fu rd on idn fl ct p9 q9 mt ps (yyU yy (op - 1) u) bf wf nw isn rs0 uc0 ca mo ha3 (by omega) hkd) (gV pw_2075 pw_2076 pw_2077 pw_1523 pw_2063) hV_X12_invokes 0 9 rfl rfl rfl rfl (Nat.le_of_ble_eq_true rfl) dX12_goesOn_112 ⟨Nat.le_of_ble_eq_true rfl, Nat.le_of_ble_eq_true rfl⟩ ⟨Nat.le_of_ble_eq_true rfl, Nat.le_of_ble_eq_true rfl⟩ (fun v43 u41 H locs hw42 hP hD hS => ?_)
        obtain ⟨op44, tp45, wn46, fu47, en48, nw49, is50, rs51, uc52, ca53, mo54, X55⟩ := u41
        obtain ⟨hw42, h56⟩ := hw42
        replace h56 : Nx Xs X55 gh nd T nm wr lz dc fd md pr bk M rmm fu (Phi gh ps op (rkN gh n9 true)) op44 tp45 wn46 fu47 rd on idn fl ct en48 nw49 is50 uc52 := h56
        obtain rfl : v43 = none := hw42
        have hP : va_P G.1 pCl (mW G h0 a (upd (upd (upd (upd (upd (upd (upd (upd (upd (upd (upd (upd (upd (upd (upd (upd (upd (upd (upd (upd F 49 (nI md)) 97 (nI ct)) 98 (nI fl)) 99 (nI rmm)) 101 tds) 102 (nI op44)) 111 (nI tp45)) 115 (nI wn46)) 116 en48) 117 (nI fu47)) 118 rs51) 119 uc52) 121 ma0) 122 mc0) 123 ca53) 124 mo54) 125 nw49) 126 is50) 128 (nI on)) 130 (nI idn)) X55) _ := hP
        have hD : va_D A (mW G h0 a (upd (upd (upd (upd (upd (upd (upd (upd (upd (upd (upd (upd (upd (upd (upd (upd (upd (upd (upd (upd F 49 (nI md)) 97 (nI ct)) 98 (nI fl)) 99 (nI rmm)) 101 tds) 102 (nI op44)) 111 (nI tp45)) 115 (nI wn46)) 116 en48) 117 (nI fu47)) 118 rs51) 119 uc52) 121 ma0) 122 mc0) 123 ca53) 124 mo54) 125 nw49) 126 is50) 128 (nI on)) 130 (nI idn)) X55) := hD
        refine W.widen (k := 0) (n := 0) (Nat.le_of_ble_eq_true rfl) (Nat.le_of_ble_eq_true rfl) ?_
        refine W.eq (g2 := F0 m 115 ls []) rfl ?_
        refine lv_goto (tgt := 619) hx hb dX12_goesOn_115 (by decide) ?_
        have hz57 : Nx Xs X55 gh nd T nm wr lz dc fd md pr bk M rmm fu (Phi gh ps op (rkN gh n9 true)) op44 tp45 wn46 fu47 rd on idn fl ct en48 nw49 is50 uc52 := h56
        have hP : va_P G.1 pCl (mW G h0 a (upd (upd (upd (upd (upd (upd (upd (upd (upd (upd (upd (upd (upd (upd (upd (upd (upd (upd (upd (upd F 49 (nI md)) 97 (nI ct)) 98 (nI fl)) 99 (nI rmm)) 101 tds) 102 (nI op44)) 111 (nI tp45)) 115 (nI wn46)) 116 en48) 117 (nI fu47)) 118 rs51) 119 uc52) 121 ma0) 122 mc0) 123 ca53) 124 mo54) 125 nw49) 126 is50) 128 (nI on)) 130 (nI idn)) X55) _ := hP
        have hD : va_D A (mW G h0 a (upd (upd (upd (upd (upd (upd (upd (upd (upd (upd (upd (upd (upd (upd (upd (upd (upd (upd (upd (upd F 49 (nI md)) 97 (nI ct)) 98 (nI fl)) 99 (nI rmm)) 101 tds) 102 (nI op44)) 111 (nI tp45)) 115 (nI wn46)) 116 en48) 117 (nI fu47)) 118 rs51) 119 uc52) 121 ma0) 122 mc0) 123 ca53) 124 mo54) 125 nw49) 126 is50) 128 (nI on)) 130 (nI idn)) X55) := hD
        exact W.vret hx hb hr (fun t9 ht9 hW9 => ⟨⟨_, (op44, tp45, wn46, fu47, en48, nw49, is50, rs51, uc52, on, idn, fl, ct, tds, ma0, mc0, ca53, mo54, X55), rfl, ⟨rfl, hz57⟩, by rw [ht9]; exact hP, hD⟩, hS.F ht9⟩) hS.2.2 dX12_goesOn_619
      · refine lv_topi (fun x58 e59 => ?_)
        obtain rfl : x58 = nI j1 := e59.trans ((congrFun hw16 _).trans ha1)
        refine lv_iconst (v := (-1)) hx hb dX12_goesOn_106 (by decide) ?_
        refine lv_icmp_ne (tgt := 118) hx hb dX12_goesOn_107 (by decide) (fun c60 => ?_) (fun c60 => absurd c60 (nI_m1 (by omega)))
        refine lv_aload_n hx hb dX12_goesOn_118 rfl (lv_at hl 1 rfl) ?_
        refine lv_aload_n hx hb dX12_goesOn_119 rfl (lv_at hl 1 rfl) ?_
        refine r_get (v := .ref (a 16)) hx hb hown hq hE hP 24 59 tFX12_24 (by decide) pw_1446 rfl dX12_goesOn_120 ?_
        refine lv_iload_n hx hb dX12_goesOn_123 rfl (lv_at hl 3 rfl) ?_
        refine r_ldi (f := (B 16)) (j := n9) hx hb hE hP 16 (ma_16 G a _) rfl (by omega) (by decide) dX12_goesOn_124 ?_
        refine lv_topi (fun x61 e62 => ?_)
        obtain rfl : x61 = nI j1 := e62.trans ((congrFun hw16 _).trans ha1)
        have hP : va_P G.1 pCl (mW G h0 a (upd (upd (upd (upd (upd (upd (upd (upd (upd (upd (upd (upd (upd (upd (upd (upd (upd (upd (upd (upd F 49 (nI md)) 97 (nI ct)) 98 (nI fl)) 99 (nI rmm)) 101 tds) 102 (nI op)) 111 (nI tp)) 115 (nI wn)) 116 (-1)) 117 (nI fu)) 118 rs0) 119 uc0) 121 ma0) 122 mc0) 123 ca) 124 mo) 125 nw) 126 isn) 128 (nI on)) 130 (nI idn)) B) _ := hP
        have hD : va_D A (mW G h0 a (upd (upd (upd (upd (upd (upd (upd (upd (upd (upd (upd (upd (upd (upd (upd (upd (upd (upd (upd (upd F 49 (nI md)) 97 (nI ct)) 98 (nI fl)) 99 (nI rmm)) 101 tds) 102 (nI op)) 111 (nI tp)) 115 (nI wn)) 116 (-1)) 117 (nI fu)) 118 rs0) 119 uc0) 121 ma0) 122 mc0) 123 ca) 124 mo) 125 nw) 126 isn) 128 (nI on)) 130 (nI idn)) B) := hD
        refine pc_V0 (G := G) (As := [.int (nI j1)]) (rest := []) hx hb hml hown hq hE hX pX0_al hP hD hS hA hl.1 (R_begin l G h0 a (upd (upd (upd (upd (upd (upd (upd (upd (upd (upd (upd (upd (upd (upd (upd (upd (upd (upd (upd (upd F 49 (nI md)) 97 (nI ct)) 98 (nI fl)) 99 (nI rmm)) 101 tds) 102 (nI op)) 111 (nI tp)) 115 (nI wn)) 116 (-1)) 117 (nI fu)) 118 rs0) 119 uc0) 121 ma0) 122 mc0) 123 ca) 124 mo) 125 nw) 126 isn) 128 (nI on)) 130 (nI idn)) B (nI j1)) (gV pw_2016 pw_2017 pw_2018 pw_1523 pw_2002) hV_X12_begin 0 9 rfl rfl rfl rfl (Nat.le_of_ble_eq_true rfl) dX12_goesOn_125 ⟨Nat.le_of_ble_eq_true rfl, Nat.le_of_ble_eq_true rfl⟩ ⟨Nat.le_of_ble_eq_true rfl, Nat.le_of_ble_eq_true rfl⟩ (fun v65 u63 H locs hw64 hP hD hS => ?_)
        obtain rfl : v65 = none := hw64
        have hP : va_P G.1 pCl (mW G h0 a (upd (upd (upd (upd (upd (upd (upd (upd (upd (upd (upd (upd (upd (upd (upd (upd (upd (upd (upd (upd F 49 (nI md)) 97 (nI ct)) 98 (nI fl)) 99 (nI rmm)) 101 tds) 102 (nI op)) 111 (nI tp)) 115 (nI wn)) 116 (-1)) 117 (nI fu)) 118 rs0) 119 uc0) 121 ma0) 122 mc0) 123 ca) 124 mo) 125 (nI j1)) 126 1) 128 (nI on)) 130 (nI idn)) B) _ := hP
        have hD : va_D A (mW G h0 a (upd (upd (upd (upd (upd (upd (upd (upd (upd (upd (upd (upd (upd (upd (upd (upd (upd (upd (upd (upd F 49 (nI md)) 97 (nI ct)) 98 (nI fl)) 99 (nI rmm)) 101 tds) 102 (nI op)) 111 (nI tp)) 115 (nI wn)) 116 (-1)) 117 (nI fu)) 118 rs0) 119 uc0) 121 ma0) 122 mc0) 123 ca) 124 mo) 125 (nI j1)) 126 1) 128 (nI on)) 130 (nI idn)) B) := hD
        refine W.widen (k := 0) (n := 0) (Nat.le_of_ble_eq_true rfl) (Nat.le_of_ble_eq_true rfl) ?_
        refine W.eq (g2 := F0 m 128 ls []) rfl ?_
        refine lv_goto (tgt := 619) hx hb dX12_goesOn_128 (by decide) ?_
        have hz66 : Nx Xs B gh nd T nm wr lz dc fd md pr bk M rmm fu (Phi gh ps op (rkN gh n9 true)) op tp wn fu rd on idn fl ct ((-1) : Int32) (nI j1) (1 : Int32) uc0 := ha3
        have hP : va_P G.1 pCl (mW G h0 a (upd (upd (upd (upd (upd (upd (upd (upd (upd (upd (upd (upd (upd (upd (upd (upd (upd (upd (upd (upd F 49 (nI md)) 97 (nI ct)) 98 (nI fl)) 99 (nI rmm)) 101 tds) 102 (nI op)) 111 (nI tp)) 115 (nI wn)) 116 ((-1) : Int32)) 117 (nI fu)) 118 rs0) 119 uc0) 121 ma0) 122 mc0) 123 ca) 124 mo) 125 (nI j1)) 126 (1 : Int32)) 128 (nI on)) 130 (nI idn)) B) _ := hP
        have hD : va_D A (mW G h0 a (upd (upd (upd (upd (upd (upd (upd (upd (upd (upd (upd (upd (upd (upd (upd (upd (upd (upd (upd (upd F 49 (nI md)) 97 (nI ct)) 98 (nI fl)) 99 (nI rmm)) 101 tds) 102 (nI op)) 111 (nI tp)) 115 (nI wn)) 116 ((-1) : Int32)) 117 (nI fu)) 118 rs0) 119 uc0) 121 ma0) 122 mc0) 123 ca) 124 mo) 125 (nI j1)) 126 (1 : Int32)) 128 (nI on)) 130 (nI idn)) B) := hD
        exact W.vret hx hb hr (fun t9 ht9 hW9 => ⟨⟨_, (op, tp, wn, fu, ((-1) : Int32), (nI j1), (1 : Int32), rs0, uc0, on, idn, fl, ct, tds, ma0, mc0, ca, mo, B), rfl, ⟨rfl, hz66⟩, by rw [ht9]; exact hP, hD⟩, hS.F ht9⟩) hS.2.2 dX12_goesOn_619
  · by_cases hfi : Xs 12 p9 = nI n9
    · refine lv_iload_n hx hb dX12_goesOn_0 rfl (lv_at hl 2 rfl) ?_
      refine lv_aload_n hx hb dX12_goesOn_1 rfl (lv_at hl 0 rfl) ?_
      refine r_get (v := .ref (a 12)) hx hb hown hq hE hP 20 47 tFX12_20 (by decide) pw_1442 rfl dX12_goesOn_2 ?_
      refine lv_iload_n hx hb dX12_goesOn_5 rfl (lv_at hl 1 rfl) ?_
      refine r_ldi (f := (B 12)) (j := p9) hx hb hE hP 12 (ma_12 G a _) rfl (by omega) (by decide) dX12_goesOn_6 ?_
      refine lv_topi (fun x67 e68 => ?_)
      obtain rfl : x67 = nI n9 := e68.trans ((congrFun hw12 _).trans hfi)
      refine lv_icmp_ne (tgt := 14) hx hb dX12_goesOn_7 (by decide) (fun c69 => absurd rfl c69) (fun c69 => ?_)
      refine lv_iconst (v := 1) hx hb dX12_goesOn_10 (by decide) ?_
      refine lv_goto (tgt := 15) hx hb dX12_goesOn_11 (by decide) ?_
      refine lv_istore_n (lv' := [(3, .int 1), (0, .ref h0), (1, .int (nI p9)), (2, .int (nI n9))]) hx hb dX12_goesOn_15 rfl hl (by decide) rfl (fun ls hl => ?_)
      refine lv_aload_n hx hb dX12_goesOn_16 rfl (lv_at hl 1 rfl) ?_
      refine r_get (v := .ref (a 9)) hx hb hown hq hE hP 17 38 tFX12_17 (by decide) pw_1439 rfl dX12_goesOn_17 ?_
      refine lv_iload_n hx hb dX12_goesOn_20 rfl (lv_at hl 2 rfl) ?_
      refine r_ldi (f := (B 9)) (j := p9) hx hb hE hP 9 (ma_9 G a _) rfl (by omega) (by decide) dX12_goesOn_21 ?_
      refine lv_topi (fun x70 e71 => ?_)
      obtain rfl : x70 = 8 := e71.trans ((congrFun hw9 _).trans hkd)
      refine lv_tableIn (tgt := 100) (off := 78) hx hb dX12_goesOn_22 (by decide) (by decide) (by decide) (by decide) ?_
      refine lv_aload_n hx hb dX12_goesOn_100 rfl (lv_at hl 1 rfl) ?_
      refine r_get (v := .ref (a 16)) hx hb hown hq hE hP 24 59 tFX12_24 (by decide) pw_1446 rfl dX12_goesOn_101 ?_
      refine lv_iload_n hx hb dX12_goesOn_104 rfl (lv_at hl 3 rfl) ?_
      refine r_ldi (f := (B 16)) (j := n9) hx hb hE hP 16 (ma_16 G a _) rfl (by omega) (by decide) dX12_goesOn_105 ?_
      rcases hR.arg (uc := uc0) hp hst hkd (by omega) (fun h => absurd h (by omega)) with ⟨ha1, q9, ha2, ha3⟩ | ⟨j1, ha1, ha2, ha3⟩
      · refine lv_topi (fun x72 e73 => ?_)
        obtain rfl : x72 = (-1) := e73.trans ((congrFun hw16 _).trans ha1)
        refine lv_iconst (v := (-1)) hx hb dX12_goesOn_106 (by decide) ?_
        refine lv_icmp_ne (tgt := 118) hx hb dX12_goesOn_107 (by decide) (fun c74 => absurd c74 (by decide)) (fun c74 => ?_)
        refine lv_aload_n hx hb dX12_goesOn_110 rfl (lv_at hl 1 rfl) ?_
        refine lv_iload_n hx hb dX12_goesOn_111 rfl (lv_at hl 2 rfl) ?_
        have hP : va_P G.1 pCl (mW G h0 a (upd (upd (upd (upd (upd (upd (upd (upd (upd (upd (upd (upd (upd (upd (upd (upd (upd (upd (upd (upd (upd (upd (upd (upd (upd (upd (upd (upd (upd (upd (upd (upd F 49 (nI md)) 97 (nI ct)) 98 (nI fl)) 99 (nI rmm)) 101 tds) 102 (nI op)) 111 (nI tp)) 115 (nI wn)) 116 (-1)) 117 (nI fu)) 118 rs0) 119 uc0) 121 ma0) 122 mc0) 123 ca) 124 mo) 125 nw) 126 isn) 128 (nI on)) 130 (nI idn)) 49 (nI md)) 102 (nI op)) 111 (nI tp)) 115 (nI wn)) 116 (-1)) 117 (nI fu)) 118 rs0) 119 uc0) 123 ca) 124 mo) 125 nw) 126 isn) B) _ := hP
        have hD : va_D A (mW G h0 a (upd (upd (upd (upd (upd (upd (upd (upd (upd (upd (upd (upd (upd (upd (upd (upd (upd (upd (upd (upd (upd (upd (upd (upd (upd (upd (upd (upd (upd (upd (upd (upd F 49 (nI md)) 97 (nI ct)) 98 (nI fl)) 99 (nI rmm)) 101 tds) 102 (nI op)) 111 (nI tp)) 115 (nI wn)) 116 (-1)) 117 (nI fu)) 118 rs0) 119 uc0) 121 ma0) 122 mc0) 123 ca) 124 mo) 125 nw) 126 isn) 128 (nI on)) 130 (nI idn)) 49 (nI md)) 102 (nI op)) 111 (nI tp)) 115 (nI wn)) 116 (-1)) 117 (nI fu)) 118 rs0) 119 uc0) 123 ca) 124 mo) 125 nw) 126 isn) B) := hD
        refine pc_V0 (G := G) (As := [.int (nI p9)]) (rest := []) hx hb hml hown hq hE hX pX0_al hP hD hS hA hl.1 (R_invokes8 l G h0 a (upd (upd (upd (upd (upd (upd (upd (upd (upd (upd (upd (upd (upd (upd (upd (upd (upd (upd (upd (upd F 49 (nI md)) 97 (nI ct)) 98 (nI fl)) 99 (nI rmm)) 101 tds) 102 (nI op)) 111 (nI tp)) 115 (nI wn)) 116 (-1)) 117 (nI fu)) 118 rs0) 119 uc0) 121 ma0) 122 mc0) 123 ca) 124 mo) 125 nw) 126 isn) 128 (nI on)) 130 (nI idn)) B Xs gh nd T nm wr lz dc fd md pr bk M rmm (Phi gh ps op (rkN gh n9 true)) op tp wn fu rd on idn fl ct p9 q9 mt ps (yyU yy (op - 1) u) bf wf nw isn rs0 uc0 ca mo ha3 (by omega) hkd) (gV pw_2075 pw_2076 pw_2077 pw_1523 pw_2063) hV_X12_invokes 0 9 rfl rfl rfl rfl (Nat.le_of_ble_eq_true rfl) dX12_goesOn_112 ⟨Nat.le_of_ble_eq_true rfl, Nat.le_of_ble_eq_true rfl⟩ ⟨Nat.le_of_ble_eq_true rfl, Nat.le_of_ble_eq_true rfl⟩ (fun v77 u75 H locs hw76 hP hD hS => ?_)
        obtain ⟨op78, tp79, wn80, fu81, en82, nw83, is84, rs85, uc86, ca87, mo88, X89⟩ := u75
        obtain ⟨hw76, h90⟩ := hw76
        replace h90 : Nx Xs X89 gh nd T nm wr lz dc fd md pr bk M rmm fu (Phi gh ps op (rkN gh n9 true)) op78 tp79 wn80 fu81 rd on idn fl ct en82 nw83 is84 uc86 := h90
        obtain rfl : v77 = none := hw76
        have hP : va_P G.1 pCl (mW G h0 a (upd (upd (upd (upd (upd (upd (upd (upd (upd (upd (upd (upd (upd (upd (upd (upd (upd (upd (upd (upd F 49 (nI md)) 97 (nI ct)) 98 (nI fl)) 99 (nI rmm)) 101 tds) 102 (nI op78)) 111 (nI tp79)) 115 (nI wn80)) 116 en82) 117 (nI fu81)) 118 rs85) 119 uc86) 121 ma0) 122 mc0) 123 ca87) 124 mo88) 125 nw83) 126 is84) 128 (nI on)) 130 (nI idn)) X89) _ := hP
        have hD : va_D A (mW G h0 a (upd (upd (upd (upd (upd (upd (upd (upd (upd (upd (upd (upd (upd (upd (upd (upd (upd (upd (upd (upd F 49 (nI md)) 97 (nI ct)) 98 (nI fl)) 99 (nI rmm)) 101 tds) 102 (nI op78)) 111 (nI tp79)) 115 (nI wn80)) 116 en82) 117 (nI fu81)) 118 rs85) 119 uc86) 121 ma0) 122 mc0) 123 ca87) 124 mo88) 125 nw83) 126 is84) 128 (nI on)) 130 (nI idn)) X89) := hD
        refine W.widen (k := 0) (n := 0) (Nat.le_of_ble_eq_true rfl) (Nat.le_of_ble_eq_true rfl) ?_
        refine W.eq (g2 := F0 m 115 ls []) rfl ?_
        refine lv_goto (tgt := 619) hx hb dX12_goesOn_115 (by decide) ?_
        have hz91 : Nx Xs X89 gh nd T nm wr lz dc fd md pr bk M rmm fu (Phi gh ps op (rkN gh n9 true)) op78 tp79 wn80 fu81 rd on idn fl ct en82 nw83 is84 uc86 := h90
        have hP : va_P G.1 pCl (mW G h0 a (upd (upd (upd (upd (upd (upd (upd (upd (upd (upd (upd (upd (upd (upd (upd (upd (upd (upd (upd (upd F 49 (nI md)) 97 (nI ct)) 98 (nI fl)) 99 (nI rmm)) 101 tds) 102 (nI op78)) 111 (nI tp79)) 115 (nI wn80)) 116 en82) 117 (nI fu81)) 118 rs85) 119 uc86) 121 ma0) 122 mc0) 123 ca87) 124 mo88) 125 nw83) 126 is84) 128 (nI on)) 130 (nI idn)) X89) _ := hP
        have hD : va_D A (mW G h0 a (upd (upd (upd (upd (upd (upd (upd (upd (upd (upd (upd (upd (upd (upd (upd (upd (upd (upd (upd (upd F 49 (nI md)) 97 (nI ct)) 98 (nI fl)) 99 (nI rmm)) 101 tds) 102 (nI op78)) 111 (nI tp79)) 115 (nI wn80)) 116 en82) 117 (nI fu81)) 118 rs85) 119 uc86) 121 ma0) 122 mc0) 123 ca87) 124 mo88) 125 nw83) 126 is84) 128 (nI on)) 130 (nI idn)) X89) := hD
        exact W.vret hx hb hr (fun t9 ht9 hW9 => ⟨⟨_, (op78, tp79, wn80, fu81, en82, nw83, is84, rs85, uc86, on, idn, fl, ct, tds, ma0, mc0, ca87, mo88, X89), rfl, ⟨rfl, hz91⟩, by rw [ht9]; exact hP, hD⟩, hS.F ht9⟩) hS.2.2 dX12_goesOn_619
      · refine lv_topi (fun x92 e93 => ?_)
        obtain rfl : x92 = nI j1 := e93.trans ((congrFun hw16 _).trans ha1)
        refine lv_iconst (v := (-1)) hx hb dX12_goesOn_106 (by decide) ?_
        refine lv_icmp_ne (tgt := 118) hx hb dX12_goesOn_107 (by decide) (fun c94 => ?_) (fun c94 => absurd c94 (nI_m1 (by omega)))
        refine lv_aload_n hx hb dX12_goesOn_118 rfl (lv_at hl 1 rfl) ?_
        refine lv_aload_n hx hb dX12_goesOn_119 rfl (lv_at hl 1 rfl) ?_
        refine r_get (v := .ref (a 16)) hx hb hown hq hE hP 24 59 tFX12_24 (by decide) pw_1446 rfl dX12_goesOn_120 ?_
        refine lv_iload_n hx hb dX12_goesOn_123 rfl (lv_at hl 3 rfl) ?_
        refine r_ldi (f := (B 16)) (j := n9) hx hb hE hP 16 (ma_16 G a _) rfl (by omega) (by decide) dX12_goesOn_124 ?_
        refine lv_topi (fun x95 e96 => ?_)
        obtain rfl : x95 = nI j1 := e96.trans ((congrFun hw16 _).trans ha1)
        have hP : va_P G.1 pCl (mW G h0 a (upd (upd (upd (upd (upd (upd (upd (upd (upd (upd (upd (upd (upd (upd (upd (upd (upd (upd (upd (upd F 49 (nI md)) 97 (nI ct)) 98 (nI fl)) 99 (nI rmm)) 101 tds) 102 (nI op)) 111 (nI tp)) 115 (nI wn)) 116 (-1)) 117 (nI fu)) 118 rs0) 119 uc0) 121 ma0) 122 mc0) 123 ca) 124 mo) 125 nw) 126 isn) 128 (nI on)) 130 (nI idn)) B) _ := hP
        have hD : va_D A (mW G h0 a (upd (upd (upd (upd (upd (upd (upd (upd (upd (upd (upd (upd (upd (upd (upd (upd (upd (upd (upd (upd F 49 (nI md)) 97 (nI ct)) 98 (nI fl)) 99 (nI rmm)) 101 tds) 102 (nI op)) 111 (nI tp)) 115 (nI wn)) 116 (-1)) 117 (nI fu)) 118 rs0) 119 uc0) 121 ma0) 122 mc0) 123 ca) 124 mo) 125 nw) 126 isn) 128 (nI on)) 130 (nI idn)) B) := hD
        refine pc_V0 (G := G) (As := [.int (nI j1)]) (rest := []) hx hb hml hown hq hE hX pX0_al hP hD hS hA hl.1 (R_begin l G h0 a (upd (upd (upd (upd (upd (upd (upd (upd (upd (upd (upd (upd (upd (upd (upd (upd (upd (upd (upd (upd F 49 (nI md)) 97 (nI ct)) 98 (nI fl)) 99 (nI rmm)) 101 tds) 102 (nI op)) 111 (nI tp)) 115 (nI wn)) 116 (-1)) 117 (nI fu)) 118 rs0) 119 uc0) 121 ma0) 122 mc0) 123 ca) 124 mo) 125 nw) 126 isn) 128 (nI on)) 130 (nI idn)) B (nI j1)) (gV pw_2016 pw_2017 pw_2018 pw_1523 pw_2002) hV_X12_begin 0 9 rfl rfl rfl rfl (Nat.le_of_ble_eq_true rfl) dX12_goesOn_125 ⟨Nat.le_of_ble_eq_true rfl, Nat.le_of_ble_eq_true rfl⟩ ⟨Nat.le_of_ble_eq_true rfl, Nat.le_of_ble_eq_true rfl⟩ (fun v99 u97 H locs hw98 hP hD hS => ?_)
        obtain rfl : v99 = none := hw98
        have hP : va_P G.1 pCl (mW G h0 a (upd (upd (upd (upd (upd (upd (upd (upd (upd (upd (upd (upd (upd (upd (upd (upd (upd (upd (upd (upd F 49 (nI md)) 97 (nI ct)) 98 (nI fl)) 99 (nI rmm)) 101 tds) 102 (nI op)) 111 (nI tp)) 115 (nI wn)) 116 (-1)) 117 (nI fu)) 118 rs0) 119 uc0) 121 ma0) 122 mc0) 123 ca) 124 mo) 125 (nI j1)) 126 1) 128 (nI on)) 130 (nI idn)) B) _ := hP
        have hD : va_D A (mW G h0 a (upd (upd (upd (upd (upd (upd (upd (upd (upd (upd (upd (upd (upd (upd (upd (upd (upd (upd (upd (upd F 49 (nI md)) 97 (nI ct)) 98 (nI fl)) 99 (nI rmm)) 101 tds) 102 (nI op)) 111 (nI tp)) 115 (nI wn)) 116 (-1)) 117 (nI fu)) 118 rs0) 119 uc0) 121 ma0) 122 mc0) 123 ca) 124 mo) 125 (nI j1)) 126 1) 128 (nI on)) 130 (nI idn)) B) := hD
        refine W.widen (k := 0) (n := 0) (Nat.le_of_ble_eq_true rfl) (Nat.le_of_ble_eq_true rfl) ?_
        refine W.eq (g2 := F0 m 128 ls []) rfl ?_
        refine lv_goto (tgt := 619) hx hb dX12_goesOn_128 (by decide) ?_
        have hz100 : Nx Xs B gh nd T nm wr lz dc fd md pr bk M rmm fu (Phi gh ps op (rkN gh n9 true)) op tp wn fu rd on idn fl ct ((-1) : Int32) (nI j1) (1 : Int32) uc0 := ha3
        have hP : va_P G.1 pCl (mW G h0 a (upd (upd (upd (upd (upd (upd (upd (upd (upd (upd (upd (upd (upd (upd (upd (upd (upd (upd (upd (upd F 49 (nI md)) 97 (nI ct)) 98 (nI fl)) 99 (nI rmm)) 101 tds) 102 (nI op)) 111 (nI tp)) 115 (nI wn)) 116 ((-1) : Int32)) 117 (nI fu)) 118 rs0) 119 uc0) 121 ma0) 122 mc0) 123 ca) 124 mo) 125 (nI j1)) 126 (1 : Int32)) 128 (nI on)) 130 (nI idn)) B) _ := hP
        have hD : va_D A (mW G h0 a (upd (upd (upd (upd (upd (upd (upd (upd (upd (upd (upd (upd (upd (upd (upd (upd (upd (upd (upd (upd F 49 (nI md)) 97 (nI ct)) 98 (nI fl)) 99 (nI rmm)) 101 tds) 102 (nI op)) 111 (nI tp)) 115 (nI wn)) 116 ((-1) : Int32)) 117 (nI fu)) 118 rs0) 119 uc0) 121 ma0) 122 mc0) 123 ca) 124 mo) 125 (nI j1)) 126 (1 : Int32)) 128 (nI on)) 130 (nI idn)) B) := hD
        exact W.vret hx hb hr (fun t9 ht9 hW9 => ⟨⟨_, (op, tp, wn, fu, ((-1) : Int32), (nI j1), (1 : Int32), rs0, uc0, on, idn, fl, ct, tds, ma0, mc0, ca, mo, B), rfl, ⟨rfl, hz100⟩, by rw [ht9]; exact hP, hD⟩, hS.F ht9⟩) hS.2.2 dX12_goesOn_619
    · refine lv_iload_n hx hb dX12_goesOn_0 rfl (lv_at hl 2 rfl) ?_
      refine lv_aload_n hx hb dX12_goesOn_1 rfl (lv_at hl 0 rfl) ?_
      refine r_get (v := .ref (a 12)) hx hb hown hq hE hP 20 47 tFX12_20 (by decide) pw_1442 rfl dX12_goesOn_2 ?_
      refine lv_iload_n hx hb dX12_goesOn_5 rfl (lv_at hl 1 rfl) ?_
      refine r_ldi (f := (B 12)) (j := p9) hx hb hE hP 12 (ma_12 G a _) rfl (by omega) (by decide) dX12_goesOn_6 ?_
      refine lv_icmp_ne (tgt := 14) hx hb dX12_goesOn_7 (by decide) (fun c101 => ?_) (fun c101 => absurd ((congrFun hw12 _).symm.trans c101.symm) hfi)
      refine lv_iconst (v := 0) hx hb dX12_goesOn_14 (by decide) ?_
      refine lv_istore_n (lv' := [(3, .int 0), (0, .ref h0), (1, .int (nI p9)), (2, .int (nI n9))]) hx hb dX12_goesOn_15 rfl hl (by decide) rfl (fun ls hl => ?_)
      refine lv_aload_n hx hb dX12_goesOn_16 rfl (lv_at hl 1 rfl) ?_
      refine r_get (v := .ref (a 9)) hx hb hown hq hE hP 17 38 tFX12_17 (by decide) pw_1439 rfl dX12_goesOn_17 ?_
      refine lv_iload_n hx hb dX12_goesOn_20 rfl (lv_at hl 2 rfl) ?_
      refine r_ldi (f := (B 9)) (j := p9) hx hb hE hP 9 (ma_9 G a _) rfl (by omega) (by decide) dX12_goesOn_21 ?_
      refine lv_topi (fun x102 e103 => ?_)
      obtain rfl : x102 = 8 := e103.trans ((congrFun hw9 _).trans hkd)
      refine lv_tableIn (tgt := 100) (off := 78) hx hb dX12_goesOn_22 (by decide) (by decide) (by decide) (by decide) ?_
      refine lv_aload_n hx hb dX12_goesOn_100 rfl (lv_at hl 1 rfl) ?_
      refine r_get (v := .ref (a 16)) hx hb hown hq hE hP 24 59 tFX12_24 (by decide) pw_1446 rfl dX12_goesOn_101 ?_
      refine lv_iload_n hx hb dX12_goesOn_104 rfl (lv_at hl 3 rfl) ?_
      refine r_ldi (f := (B 16)) (j := n9) hx hb hE hP 16 (ma_16 G a _) rfl (by omega) (by decide) dX12_goesOn_105 ?_
      rcases hR.arg (uc := uc0) hp hst hkd (by omega) (fun h => absurd h (by omega)) with ⟨ha1, q9, ha2, ha3⟩ | ⟨j1, ha1, ha2, ha3⟩
      · refine lv_topi (fun x104 e105 => ?_)
        obtain rfl : x104 = (-1) := e105.trans ((congrFun hw16 _).trans ha1)
        refine lv_iconst (v := (-1)) hx hb dX12_goesOn_106 (by decide) ?_
        refine lv_icmp_ne (tgt := 118) hx hb dX12_goesOn_107 (by decide) (fun c106 => absurd c106 (by decide)) (fun c106 => ?_)
        refine lv_aload_n hx hb dX12_goesOn_110 rfl (lv_at hl 1 rfl) ?_
        refine lv_iload_n hx hb dX12_goesOn_111 rfl (lv_at hl 2 rfl) ?_
        have hP : va_P G.1 pCl (mW G h0 a (upd (upd (upd (upd (upd (upd (upd (upd (upd (upd (upd (upd (upd (upd (upd (upd (upd (upd (upd (upd (upd (upd (upd (upd (upd (upd (upd (upd (upd (upd (upd (upd F 49 (nI md)) 97 (nI ct)) 98 (nI fl)) 99 (nI rmm)) 101 tds) 102 (nI op)) 111 (nI tp)) 115 (nI wn)) 116 (-1)) 117 (nI fu)) 118 rs0) 119 uc0) 121 ma0) 122 mc0) 123 ca) 124 mo) 125 nw) 126 isn) 128 (nI on)) 130 (nI idn)) 49 (nI md)) 102 (nI op)) 111 (nI tp)) 115 (nI wn)) 116 (-1)) 117 (nI fu)) 118 rs0) 119 uc0) 123 ca) 124 mo) 125 nw) 126 isn) B) _ := hP
        have hD : va_D A (mW G h0 a (upd (upd (upd (upd (upd (upd (upd (upd (upd (upd (upd (upd (upd (upd (upd (upd (upd (upd (upd (upd (upd (upd (upd (upd (upd (upd (upd (upd (upd (upd (upd (upd F 49 (nI md)) 97 (nI ct)) 98 (nI fl)) 99 (nI rmm)) 101 tds) 102 (nI op)) 111 (nI tp)) 115 (nI wn)) 116 (-1)) 117 (nI fu)) 118 rs0) 119 uc0) 121 ma0) 122 mc0) 123 ca) 124 mo) 125 nw) 126 isn) 128 (nI on)) 130 (nI idn)) 49 (nI md)) 102 (nI op)) 111 (nI tp)) 115 (nI wn)) 116 (-1)) 117 (nI fu)) 118 rs0) 119 uc0) 123 ca) 124 mo) 125 nw) 126 isn) B) := hD
        refine pc_V0 (G := G) (As := [.int (nI p9)]) (rest := []) hx hb hml hown hq hE hX pX0_al hP hD hS hA hl.1 (R_invokes8 l G h0 a (upd (upd (upd (upd (upd (upd (upd (upd (upd (upd (upd (upd (upd (upd (upd (upd (upd (upd (upd (upd F 49 (nI md)) 97 (nI ct)) 98 (nI fl)) 99 (nI rmm)) 101 tds) 102 (nI op)) 111 (nI tp)) 115 (nI wn)) 116 (-1)) 117 (nI fu)) 118 rs0) 119 uc0) 121 ma0) 122 mc0) 123 ca) 124 mo) 125 nw) 126 isn) 128 (nI on)) 130 (nI idn)) B Xs gh nd T nm wr lz dc fd md pr bk M rmm (Phi gh ps op (rkN gh n9 true)) op tp wn fu rd on idn fl ct p9 q9 mt ps (yyU yy (op - 1) u) bf wf nw isn rs0 uc0 ca mo ha3 (by omega) hkd) (gV pw_2075 pw_2076 pw_2077 pw_1523 pw_2063) hV_X12_invokes 0 9 rfl rfl rfl rfl (Nat.le_of_ble_eq_true rfl) dX12_goesOn_112 ⟨Nat.le_of_ble_eq_true rfl, Nat.le_of_ble_eq_true rfl⟩ ⟨Nat.le_of_ble_eq_true rfl, Nat.le_of_ble_eq_true rfl⟩ (fun v109 u107 H locs hw108 hP hD hS => ?_)
        obtain ⟨op110, tp111, wn112, fu113, en114, nw115, is116, rs117, uc118, ca119, mo120, X121⟩ := u107
        obtain ⟨hw108, h122⟩ := hw108
        replace h122 : Nx Xs X121 gh nd T nm wr lz dc fd md pr bk M rmm fu (Phi gh ps op (rkN gh n9 true)) op110 tp111 wn112 fu113 rd on idn fl ct en114 nw115 is116 uc118 := h122
        obtain rfl : v109 = none := hw108
        have hP : va_P G.1 pCl (mW G h0 a (upd (upd (upd (upd (upd (upd (upd (upd (upd (upd (upd (upd (upd (upd (upd (upd (upd (upd (upd (upd F 49 (nI md)) 97 (nI ct)) 98 (nI fl)) 99 (nI rmm)) 101 tds) 102 (nI op110)) 111 (nI tp111)) 115 (nI wn112)) 116 en114) 117 (nI fu113)) 118 rs117) 119 uc118) 121 ma0) 122 mc0) 123 ca119) 124 mo120) 125 nw115) 126 is116) 128 (nI on)) 130 (nI idn)) X121) _ := hP
        have hD : va_D A (mW G h0 a (upd (upd (upd (upd (upd (upd (upd (upd (upd (upd (upd (upd (upd (upd (upd (upd (upd (upd (upd (upd F 49 (nI md)) 97 (nI ct)) 98 (nI fl)) 99 (nI rmm)) 101 tds) 102 (nI op110)) 111 (nI tp111)) 115 (nI wn112)) 116 en114) 117 (nI fu113)) 118 rs117) 119 uc118) 121 ma0) 122 mc0) 123 ca119) 124 mo120) 125 nw115) 126 is116) 128 (nI on)) 130 (nI idn)) X121) := hD
        refine W.widen (k := 0) (n := 0) (Nat.le_of_ble_eq_true rfl) (Nat.le_of_ble_eq_true rfl) ?_
        refine W.eq (g2 := F0 m 115 ls []) rfl ?_
        refine lv_goto (tgt := 619) hx hb dX12_goesOn_115 (by decide) ?_
        have hz123 : Nx Xs X121 gh nd T nm wr lz dc fd md pr bk M rmm fu (Phi gh ps op (rkN gh n9 true)) op110 tp111 wn112 fu113 rd on idn fl ct en114 nw115 is116 uc118 := h122
        have hP : va_P G.1 pCl (mW G h0 a (upd (upd (upd (upd (upd (upd (upd (upd (upd (upd (upd (upd (upd (upd (upd (upd (upd (upd (upd (upd F 49 (nI md)) 97 (nI ct)) 98 (nI fl)) 99 (nI rmm)) 101 tds) 102 (nI op110)) 111 (nI tp111)) 115 (nI wn112)) 116 en114) 117 (nI fu113)) 118 rs117) 119 uc118) 121 ma0) 122 mc0) 123 ca119) 124 mo120) 125 nw115) 126 is116) 128 (nI on)) 130 (nI idn)) X121) _ := hP
        have hD : va_D A (mW G h0 a (upd (upd (upd (upd (upd (upd (upd (upd (upd (upd (upd (upd (upd (upd (upd (upd (upd (upd (upd (upd F 49 (nI md)) 97 (nI ct)) 98 (nI fl)) 99 (nI rmm)) 101 tds) 102 (nI op110)) 111 (nI tp111)) 115 (nI wn112)) 116 en114) 117 (nI fu113)) 118 rs117) 119 uc118) 121 ma0) 122 mc0) 123 ca119) 124 mo120) 125 nw115) 126 is116) 128 (nI on)) 130 (nI idn)) X121) := hD
        exact W.vret hx hb hr (fun t9 ht9 hW9 => ⟨⟨_, (op110, tp111, wn112, fu113, en114, nw115, is116, rs117, uc118, on, idn, fl, ct, tds, ma0, mc0, ca119, mo120, X121), rfl, ⟨rfl, hz123⟩, by rw [ht9]; exact hP, hD⟩, hS.F ht9⟩) hS.2.2 dX12_goesOn_619
      · refine lv_topi (fun x124 e125 => ?_)
        obtain rfl : x124 = nI j1 := e125.trans ((congrFun hw16 _).trans ha1)
        refine lv_iconst (v := (-1)) hx hb dX12_goesOn_106 (by decide) ?_
        refine lv_icmp_ne (tgt := 118) hx hb dX12_goesOn_107 (by decide) (fun c126 => ?_) (fun c126 => absurd c126 (nI_m1 (by omega)))
        refine lv_aload_n hx hb dX12_goesOn_118 rfl (lv_at hl 1 rfl) ?_
        refine lv_aload_n hx hb dX12_goesOn_119 rfl (lv_at hl 1 rfl) ?_
        refine r_get (v := .ref (a 16)) hx hb hown hq hE hP 24 59 tFX12_24 (by decide) pw_1446 rfl dX12_goesOn_120 ?_
        refine lv_iload_n hx hb dX12_goesOn_123 rfl (lv_at hl 3 rfl) ?_
        refine r_ldi (f := (B 16)) (j := n9) hx hb hE hP 16 (ma_16 G a _) rfl (by omega) (by decide) dX12_goesOn_124 ?_
        refine lv_topi (fun x127 e128 => ?_)
        obtain rfl : x127 = nI j1 := e128.trans ((congrFun hw16 _).trans ha1)
        have hP : va_P G.1 pCl (mW G h0 a (upd (upd (upd (upd (upd (upd (upd (upd (upd (upd (upd (upd (upd (upd (upd (upd (upd (upd (upd (upd F 49 (nI md)) 97 (nI ct)) 98 (nI fl)) 99 (nI rmm)) 101 tds) 102 (nI op)) 111 (nI tp)) 115 (nI wn)) 116 (-1)) 117 (nI fu)) 118 rs0) 119 uc0) 121 ma0) 122 mc0) 123 ca) 124 mo) 125 nw) 126 isn) 128 (nI on)) 130 (nI idn)) B) _ := hP
        have hD : va_D A (mW G h0 a (upd (upd (upd (upd (upd (upd (upd (upd (upd (upd (upd (upd (upd (upd (upd (upd (upd (upd (upd (upd F 49 (nI md)) 97 (nI ct)) 98 (nI fl)) 99 (nI rmm)) 101 tds) 102 (nI op)) 111 (nI tp)) 115 (nI wn)) 116 (-1)) 117 (nI fu)) 118 rs0) 119 uc0) 121 ma0) 122 mc0) 123 ca) 124 mo) 125 nw) 126 isn) 128 (nI on)) 130 (nI idn)) B) := hD
        refine pc_V0 (G := G) (As := [.int (nI j1)]) (rest := []) hx hb hml hown hq hE hX pX0_al hP hD hS hA hl.1 (R_begin l G h0 a (upd (upd (upd (upd (upd (upd (upd (upd (upd (upd (upd (upd (upd (upd (upd (upd (upd (upd (upd (upd F 49 (nI md)) 97 (nI ct)) 98 (nI fl)) 99 (nI rmm)) 101 tds) 102 (nI op)) 111 (nI tp)) 115 (nI wn)) 116 (-1)) 117 (nI fu)) 118 rs0) 119 uc0) 121 ma0) 122 mc0) 123 ca) 124 mo) 125 nw) 126 isn) 128 (nI on)) 130 (nI idn)) B (nI j1)) (gV pw_2016 pw_2017 pw_2018 pw_1523 pw_2002) hV_X12_begin 0 9 rfl rfl rfl rfl (Nat.le_of_ble_eq_true rfl) dX12_goesOn_125 ⟨Nat.le_of_ble_eq_true rfl, Nat.le_of_ble_eq_true rfl⟩ ⟨Nat.le_of_ble_eq_true rfl, Nat.le_of_ble_eq_true rfl⟩ (fun v131 u129 H locs hw130 hP hD hS => ?_)
        obtain rfl : v131 = none := hw130
        have hP : va_P G.1 pCl (mW G h0 a (upd (upd (upd (upd (upd (upd (upd (upd (upd (upd (upd (upd (upd (upd (upd (upd (upd (upd (upd (upd F 49 (nI md)) 97 (nI ct)) 98 (nI fl)) 99 (nI rmm)) 101 tds) 102 (nI op)) 111 (nI tp)) 115 (nI wn)) 116 (-1)) 117 (nI fu)) 118 rs0) 119 uc0) 121 ma0) 122 mc0) 123 ca) 124 mo) 125 (nI j1)) 126 1) 128 (nI on)) 130 (nI idn)) B) _ := hP
        have hD : va_D A (mW G h0 a (upd (upd (upd (upd (upd (upd (upd (upd (upd (upd (upd (upd (upd (upd (upd (upd (upd (upd (upd (upd F 49 (nI md)) 97 (nI ct)) 98 (nI fl)) 99 (nI rmm)) 101 tds) 102 (nI op)) 111 (nI tp)) 115 (nI wn)) 116 (-1)) 117 (nI fu)) 118 rs0) 119 uc0) 121 ma0) 122 mc0) 123 ca) 124 mo) 125 (nI j1)) 126 1) 128 (nI on)) 130 (nI idn)) B) := hD
        refine W.widen (k := 0) (n := 0) (Nat.le_of_ble_eq_true rfl) (Nat.le_of_ble_eq_true rfl) ?_
        refine W.eq (g2 := F0 m 128 ls []) rfl ?_
        refine lv_goto (tgt := 619) hx hb dX12_goesOn_128 (by decide) ?_
        have hz132 : Nx Xs B gh nd T nm wr lz dc fd md pr bk M rmm fu (Phi gh ps op (rkN gh n9 true)) op tp wn fu rd on idn fl ct ((-1) : Int32) (nI j1) (1 : Int32) uc0 := ha3
        have hP : va_P G.1 pCl (mW G h0 a (upd (upd (upd (upd (upd (upd (upd (upd (upd (upd (upd (upd (upd (upd (upd (upd (upd (upd (upd (upd F 49 (nI md)) 97 (nI ct)) 98 (nI fl)) 99 (nI rmm)) 101 tds) 102 (nI op)) 111 (nI tp)) 115 (nI wn)) 116 ((-1) : Int32)) 117 (nI fu)) 118 rs0) 119 uc0) 121 ma0) 122 mc0) 123 ca) 124 mo) 125 (nI j1)) 126 (1 : Int32)) 128 (nI on)) 130 (nI idn)) B) _ := hP
        have hD : va_D A (mW G h0 a (upd (upd (upd (upd (upd (upd (upd (upd (upd (upd (upd (upd (upd (upd (upd (upd (upd (upd (upd (upd F 49 (nI md)) 97 (nI ct)) 98 (nI fl)) 99 (nI rmm)) 101 tds) 102 (nI op)) 111 (nI tp)) 115 (nI wn)) 116 ((-1) : Int32)) 117 (nI fu)) 118 rs0) 119 uc0) 121 ma0) 122 mc0) 123 ca) 124 mo) 125 (nI j1)) 126 (1 : Int32)) 128 (nI on)) 130 (nI idn)) B) := hD
        exact W.vret hx hb hr (fun t9 ht9 hW9 => ⟨⟨_, (op, tp, wn, fu, ((-1) : Int32), (nI j1), (1 : Int32), rs0, uc0, on, idn, fl, ct, tds, ma0, mc0, ca, mo, B), rfl, ⟨rfl, hz132⟩, by rw [ht9]; exact hP, hD⟩, hS.F ht9⟩) hS.2.2 dX12_goesOn_619
  · exact (hR.kid0 hp hst hkd (by omega) (by decide)).elim
  · have hfi := (hR.pl1 hp hst hkd (by omega) (by decide) rfl).1
    refine lv_iload_n hx hb dX12_goesOn_0 rfl (lv_at hl 2 rfl) ?_
    refine lv_aload_n hx hb dX12_goesOn_1 rfl (lv_at hl 0 rfl) ?_
    refine r_get (v := .ref (a 12)) hx hb hown hq hE hP 20 47 tFX12_20 (by decide) pw_1442 rfl dX12_goesOn_2 ?_
    refine lv_iload_n hx hb dX12_goesOn_5 rfl (lv_at hl 1 rfl) ?_
    refine r_ldi (f := (B 12)) (j := p9) hx hb hE hP 12 (ma_12 G a _) rfl (by omega) (by decide) dX12_goesOn_6 ?_
    refine lv_topi (fun x133 e134 => ?_)
    obtain rfl : x133 = nI n9 := e134.trans ((congrFun hw12 _).trans hfi)
    refine lv_icmp_ne (tgt := 14) hx hb dX12_goesOn_7 (by decide) (fun c135 => absurd rfl c135) (fun c135 => ?_)
    refine lv_iconst (v := 1) hx hb dX12_goesOn_10 (by decide) ?_
    refine lv_goto (tgt := 15) hx hb dX12_goesOn_11 (by decide) ?_
    refine lv_istore_n (lv' := [(3, .int 1), (0, .ref h0), (1, .int (nI p9)), (2, .int (nI n9))]) hx hb dX12_goesOn_15 rfl hl (by decide) rfl (fun ls hl => ?_)
    refine lv_aload_n hx hb dX12_goesOn_16 rfl (lv_at hl 1 rfl) ?_
    refine r_get (v := .ref (a 9)) hx hb hown hq hE hP 17 38 tFX12_17 (by decide) pw_1439 rfl dX12_goesOn_17 ?_
    refine lv_iload_n hx hb dX12_goesOn_20 rfl (lv_at hl 2 rfl) ?_
    refine r_ldi (f := (B 9)) (j := p9) hx hb hE hP 9 (ma_9 G a _) rfl (by omega) (by decide) dX12_goesOn_21 ?_
    refine lv_topi (fun x136 e137 => ?_)
    obtain rfl : x136 = 10 := e137.trans ((congrFun hw9 _).trans hkd)
    refine lv_tableIn (tgt := 183) (off := 161) hx hb dX12_goesOn_22 (by decide) (by decide) (by decide) (by decide) ?_
    refine lv_aload_n hx hb dX12_goesOn_183 rfl (lv_at hl 1 rfl) ?_
    refine lv_iload_n hx hb dX12_goesOn_184 rfl (lv_at hl 2 rfl) ?_
    have hP : va_P G.1 pCl (mW G h0 a (upd (upd (upd (upd (upd (upd (upd (upd (upd (upd (upd (upd (upd (upd (upd (upd (upd (upd (upd (upd (upd (upd (upd (upd (upd (upd (upd (upd (upd (upd (upd (upd (upd (upd (upd (upd (upd F 49 (nI md)) 97 (nI ct)) 98 (nI fl)) 99 (nI rmm)) 101 tds) 102 (nI op)) 111 (nI tp)) 115 (nI wn)) 116 (-1)) 117 (nI fu)) 118 rs0) 119 uc0) 121 ma0) 122 mc0) 123 ca) 124 mo) 125 nw) 126 isn) 128 (nI on)) 130 (nI idn)) 97 (nI ct)) 98 (nI fl)) 99 (nI rmm)) 101 tds) 102 (nI op)) 111 (nI tp)) 115 (nI wn)) 116 (-1)) 117 (nI fu)) 118 rs0) 119 uc0) 121 ma0) 122 mc0) 125 nw) 126 isn) 128 (nI on)) 130 (nI idn)) B) _ := hP
    have hD : va_D A (mW G h0 a (upd (upd (upd (upd (upd (upd (upd (upd (upd (upd (upd (upd (upd (upd (upd (upd (upd (upd (upd (upd (upd (upd (upd (upd (upd (upd (upd (upd (upd (upd (upd (upd (upd (upd (upd (upd (upd F 49 (nI md)) 97 (nI ct)) 98 (nI fl)) 99 (nI rmm)) 101 tds) 102 (nI op)) 111 (nI tp)) 115 (nI wn)) 116 (-1)) 117 (nI fu)) 118 rs0) 119 uc0) 121 ma0) 122 mc0) 123 ca) 124 mo) 125 nw) 126 isn) 128 (nI on)) 130 (nI idn)) 97 (nI ct)) 98 (nI fl)) 99 (nI rmm)) 101 tds) 102 (nI op)) 111 (nI tp)) 115 (nI wn)) 116 (-1)) 117 (nI fu)) 118 rs0) 119 uc0) 121 ma0) 122 mc0) 125 nw) 126 isn) 128 (nI on)) 130 (nI idn)) B) := hD
    refine pc_V0 (G := G) (As := [.int (nI p9)]) (rest := []) hx hb hml hown hq hE hX pX0_al hP hD hS hA hl.1 (R_rows l G h0 a (upd (upd (upd (upd (upd (upd (upd (upd (upd (upd (upd (upd (upd (upd (upd (upd (upd (upd (upd (upd F 49 (nI md)) 97 (nI ct)) 98 (nI fl)) 99 (nI rmm)) 101 tds) 102 (nI op)) 111 (nI tp)) 115 (nI wn)) 116 (-1)) 117 (nI fu)) 118 rs0) 119 uc0) 121 ma0) 122 mc0) 123 ca) 124 mo) 125 nw) 126 isn) 128 (nI on)) 130 (nI idn)) B Xs gh nd T nm wr lz dc fd md pr bk M rmm op tp wn fu rd on idn fl ct n9 p9 u mt ps yy bf wf nw isn rs0 uc0 tds ma0 mc0 hR hp hst hfu hkd) (gV pw_2093 pw_2094 pw_2095 pw_1523 pw_2085) hV_X12_rows 0 9 rfl rfl rfl rfl (Nat.le_of_ble_eq_true rfl) dX12_goesOn_185 ⟨Nat.le_of_ble_eq_true rfl, Nat.le_of_ble_eq_true rfl⟩ ⟨Nat.le_of_ble_eq_true rfl, Nat.le_of_ble_eq_true rfl⟩ (fun v140 u138 H locs hw139 hP hD hS => ?_)
    obtain ⟨op141, tp142, wn143, fu144, en145, nw146, is147, rs148, uc149, on150, idn151, fl152, ct153, td154, ma155, mc156, X157⟩ := u138
    obtain ⟨hw139, h158⟩ := hw139
    replace h158 : Nx Xs X157 gh nd T nm wr lz dc fd md pr bk M rmm fu (Phi gh ps op (rkN gh n9 true)) op141 tp142 wn143 fu144 rd on150 idn151 fl152 ct153 en145 nw146 is147 uc149 := h158
    obtain rfl : v140 = none := hw139
    have hP : va_P G.1 pCl (mW G h0 a (upd (upd (upd (upd (upd (upd (upd (upd (upd (upd (upd (upd (upd (upd (upd (upd (upd (upd (upd (upd F 49 (nI md)) 97 (nI ct153)) 98 (nI fl152)) 99 (nI rmm)) 101 td154) 102 (nI op141)) 111 (nI tp142)) 115 (nI wn143)) 116 en145) 117 (nI fu144)) 118 rs148) 119 uc149) 121 ma155) 122 mc156) 123 ca) 124 mo) 125 nw146) 126 is147) 128 (nI on150)) 130 (nI idn151)) X157) _ := hP
    have hD : va_D A (mW G h0 a (upd (upd (upd (upd (upd (upd (upd (upd (upd (upd (upd (upd (upd (upd (upd (upd (upd (upd (upd (upd F 49 (nI md)) 97 (nI ct153)) 98 (nI fl152)) 99 (nI rmm)) 101 td154) 102 (nI op141)) 111 (nI tp142)) 115 (nI wn143)) 116 en145) 117 (nI fu144)) 118 rs148) 119 uc149) 121 ma155) 122 mc156) 123 ca) 124 mo) 125 nw146) 126 is147) 128 (nI on150)) 130 (nI idn151)) X157) := hD
    refine W.widen (k := 0) (n := 0) (Nat.le_of_ble_eq_true rfl) (Nat.le_of_ble_eq_true rfl) ?_
    refine W.eq (g2 := F0 m 188 ls []) rfl ?_
    refine lv_goto (tgt := 619) hx hb dX12_goesOn_188 (by decide) ?_
    have hz159 : Nx Xs X157 gh nd T nm wr lz dc fd md pr bk M rmm fu (Phi gh ps op (rkN gh n9 true)) op141 tp142 wn143 fu144 rd on150 idn151 fl152 ct153 en145 nw146 is147 uc149 := h158
    have hP : va_P G.1 pCl (mW G h0 a (upd (upd (upd (upd (upd (upd (upd (upd (upd (upd (upd (upd (upd (upd (upd (upd (upd (upd (upd (upd F 49 (nI md)) 97 (nI ct153)) 98 (nI fl152)) 99 (nI rmm)) 101 td154) 102 (nI op141)) 111 (nI tp142)) 115 (nI wn143)) 116 en145) 117 (nI fu144)) 118 rs148) 119 uc149) 121 ma155) 122 mc156) 123 ca) 124 mo) 125 nw146) 126 is147) 128 (nI on150)) 130 (nI idn151)) X157) _ := hP
    have hD : va_D A (mW G h0 a (upd (upd (upd (upd (upd (upd (upd (upd (upd (upd (upd (upd (upd (upd (upd (upd (upd (upd (upd (upd F 49 (nI md)) 97 (nI ct153)) 98 (nI fl152)) 99 (nI rmm)) 101 td154) 102 (nI op141)) 111 (nI tp142)) 115 (nI wn143)) 116 en145) 117 (nI fu144)) 118 rs148) 119 uc149) 121 ma155) 122 mc156) 123 ca) 124 mo) 125 nw146) 126 is147) 128 (nI on150)) 130 (nI idn151)) X157) := hD
    exact W.vret hx hb hr (fun t9 ht9 hW9 => ⟨⟨_, (op141, tp142, wn143, fu144, en145, nw146, is147, rs148, uc149, on150, idn151, fl152, ct153, td154, ma155, mc156, ca, mo, X157), rfl, ⟨rfl, hz159⟩, by rw [ht9]; exact hP, hD⟩, hS.F ht9⟩) hS.2.2 dX12_goesOn_619
  · exact (hR.kid0 hp hst hkd (by omega) (by decide)).elim
  · have hfi := (hR.pl1 hp hst hkd (by omega) (by decide) rfl).1
    refine lv_iload_n hx hb dX12_goesOn_0 rfl (lv_at hl 2 rfl) ?_
    refine lv_aload_n hx hb dX12_goesOn_1 rfl (lv_at hl 0 rfl) ?_
    refine r_get (v := .ref (a 12)) hx hb hown hq hE hP 20 47 tFX12_20 (by decide) pw_1442 rfl dX12_goesOn_2 ?_
    refine lv_iload_n hx hb dX12_goesOn_5 rfl (lv_at hl 1 rfl) ?_
    refine r_ldi (f := (B 12)) (j := p9) hx hb hE hP 12 (ma_12 G a _) rfl (by omega) (by decide) dX12_goesOn_6 ?_
    refine lv_topi (fun x160 e161 => ?_)
    obtain rfl : x160 = nI n9 := e161.trans ((congrFun hw12 _).trans hfi)
    refine lv_icmp_ne (tgt := 14) hx hb dX12_goesOn_7 (by decide) (fun c162 => absurd rfl c162) (fun c162 => ?_)
    refine lv_iconst (v := 1) hx hb dX12_goesOn_10 (by decide) ?_
    refine lv_goto (tgt := 15) hx hb dX12_goesOn_11 (by decide) ?_
    refine lv_istore_n (lv' := [(3, .int 1), (0, .ref h0), (1, .int (nI p9)), (2, .int (nI n9))]) hx hb dX12_goesOn_15 rfl hl (by decide) rfl (fun ls hl => ?_)
    refine lv_aload_n hx hb dX12_goesOn_16 rfl (lv_at hl 1 rfl) ?_
    refine r_get (v := .ref (a 9)) hx hb hown hq hE hP 17 38 tFX12_17 (by decide) pw_1439 rfl dX12_goesOn_17 ?_
    refine lv_iload_n hx hb dX12_goesOn_20 rfl (lv_at hl 2 rfl) ?_
    refine r_ldi (f := (B 9)) (j := p9) hx hb hE hP 9 (ma_9 G a _) rfl (by omega) (by decide) dX12_goesOn_21 ?_
    refine lv_topi (fun x163 e164 => ?_)
    obtain rfl : x163 = 12 := e164.trans ((congrFun hw9 _).trans hkd)
    refine lv_tableIn (tgt := 191) (off := 169) hx hb dX12_goesOn_22 (by decide) (by decide) (by decide) (by decide) ?_
    refine lv_aload_n hx hb dX12_goesOn_191 rfl (lv_at hl 1 rfl) ?_
    refine lv_iload_n hx hb dX12_goesOn_192 rfl (lv_at hl 2 rfl) ?_
    have hP : va_P G.1 pCl (mW G h0 a (upd (upd (upd (upd (upd (upd (upd (upd (upd (upd (upd (upd (upd (upd (upd (upd (upd (upd (upd (upd F 49 (nI md)) 97 (nI ct)) 98 (nI fl)) 99 (nI rmm)) 101 tds) 102 (nI op)) 111 (nI tp)) 115 (nI wn)) 116 (-1)) 117 (nI fu)) 118 rs0) 119 uc0) 121 ma0) 122 mc0) 123 ca) 124 mo) 125 nw) 126 isn) 128 (nI on)) 130 (nI idn)) B) _ := hP
    have hD : va_D A (mW G h0 a (upd (upd (upd (upd (upd (upd (upd (upd (upd (upd (upd (upd (upd (upd (upd (upd (upd (upd (upd (upd F 49 (nI md)) 97 (nI ct)) 98 (nI fl)) 99 (nI rmm)) 101 tds) 102 (nI op)) 111 (nI tp)) 115 (nI wn)) 116 (-1)) 117 (nI fu)) 118 rs0) 119 uc0) 121 ma0) 122 mc0) 123 ca) 124 mo) 125 nw) 126 isn) 128 (nI on)) 130 (nI idn)) B) := hD
    refine pc_V0 (G := G) (As := [.int (nI p9)]) (rest := []) hx hb hml hown hq hE hX pX0_al hP hD hS hA hl.1 (R_isPlace l G h0 a (upd (upd (upd (upd (upd (upd (upd (upd (upd (upd (upd (upd (upd (upd (upd (upd (upd (upd (upd (upd F 49 (nI md)) 97 (nI ct)) 98 (nI fl)) 99 (nI rmm)) 101 tds) 102 (nI op)) 111 (nI tp)) 115 (nI wn)) 116 (-1)) 117 (nI fu)) 118 rs0) 119 uc0) 121 ma0) 122 mc0) 123 ca) 124 mo) 125 nw) 126 isn) 128 (nI on)) 130 (nI idn)) B p9 nd (by omega) (by omega) (hR.upP hp)) (gV pw_2096 pw_2097 pw_2098 pw_1523 pw_2086) hV_X12_isPlace 0 9 rfl rfl rfl rfl (Nat.le_of_ble_eq_true rfl) dX12_goesOn_193 ⟨Nat.le_of_ble_eq_true rfl, Nat.le_of_ble_eq_true rfl⟩ ⟨Nat.le_of_ble_eq_true rfl, Nat.le_of_ble_eq_true rfl⟩ (fun v167 u165 H locs hw166 hP hD hS => ?_)
    obtain ⟨r168, rfl⟩ : ∃ z, z = u165 := ⟨_, rfl⟩
    obtain ⟨hw166, h169, h170, h171⟩ := hw166
    replace h169 : r168 ≤ 1 := h169
    replace h170 : If (r168 = 1) (PlcP B p9) := h170
    replace h171 : If (r168 = 0) (¬ PlcP B p9) := h171
    obtain rfl : v167 = some (.int (nI r168)) := hw166
    have hP : va_P G.1 pCl (mW G h0 a (upd (upd (upd (upd (upd (upd (upd (upd (upd (upd (upd (upd (upd (upd (upd (upd (upd (upd (upd (upd F 49 (nI md)) 97 (nI ct)) 98 (nI fl)) 99 (nI rmm)) 101 tds) 102 (nI op)) 111 (nI tp)) 115 (nI wn)) 116 (-1)) 117 (nI fu)) 118 rs0) 119 uc0) 121 ma0) 122 mc0) 123 ca) 124 mo) 125 nw) 126 isn) 128 (nI on)) 130 (nI idn)) B) _ := hP
    have hD : va_D A (mW G h0 a (upd (upd (upd (upd (upd (upd (upd (upd (upd (upd (upd (upd (upd (upd (upd (upd (upd (upd (upd (upd F 49 (nI md)) 97 (nI ct)) 98 (nI fl)) 99 (nI rmm)) 101 tds) 102 (nI op)) 111 (nI tp)) 115 (nI wn)) 116 (-1)) 117 (nI fu)) 118 rs0) 119 uc0) 121 ma0) 122 mc0) 123 ca) 124 mo) 125 nw) 126 isn) 128 (nI on)) 130 (nI idn)) B) := hD
    refine W.widen (k := 0) (n := 0) (Nat.le_of_ble_eq_true rfl) (Nat.le_of_ble_eq_true rfl) ?_
    refine W.eq (g2 := F0 m 196 ls [.int (nI r168)]) rfl ?_
    refine lv_if_eq (tgt := 217) hx hb dX12_goesOn_196 (by decide) (fun c172 => ?_) (fun c172 => ?_)
    · have n173 : r168 = 0 := (nI_eq (a := r168) (b := 0) (by omega) (by omega)).mp c172
      refine lv_aload_n hx hb dX12_goesOn_217 rfl (lv_at hl 1 rfl) ?_
      refine lv_iload_n hx hb dX12_goesOn_218 rfl (lv_at hl 2 rfl) ?_
      have hP : va_P G.1 pCl (mW G h0 a (upd (upd (upd (upd (upd (upd (upd (upd (upd (upd (upd (upd (upd (upd (upd (upd (upd (upd (upd (upd (upd (upd (upd (upd (upd (upd (upd (upd (upd F 49 (nI md)) 97 (nI ct)) 98 (nI fl)) 99 (nI rmm)) 101 tds) 102 (nI op)) 111 (nI tp)) 115 (nI wn)) 116 (-1)) 117 (nI fu)) 118 rs0) 119 uc0) 121 ma0) 122 mc0) 123 ca) 124 mo) 125 nw) 126 isn) 128 (nI on)) 130 (nI idn)) 102 (nI op)) 111 (nI tp)) 115 (nI wn)) 116 (-1)) 117 (nI fu)) 118 rs0) 119 uc0) 125 nw) 126 isn) B) _ := hP
      have hD : va_D A (mW G h0 a (upd (upd (upd (upd (upd (upd (upd (upd (upd (upd (upd (upd (upd (upd (upd (upd (upd (upd (upd (upd (upd (upd (upd (upd (upd (upd (upd (upd (upd F 49 (nI md)) 97 (nI ct)) 98 (nI fl)) 99 (nI rmm)) 101 tds) 102 (nI op)) 111 (nI tp)) 115 (nI wn)) 116 (-1)) 117 (nI fu)) 118 rs0) 119 uc0) 121 ma0) 122 mc0) 123 ca) 124 mo) 125 nw) 126 isn) 128 (nI on)) 130 (nI idn)) 102 (nI op)) 111 (nI tp)) 115 (nI wn)) 116 (-1)) 117 (nI fu)) 118 rs0) 119 uc0) 125 nw) 126 isn) B) := hD
      refine pc_V0 (G := G) (As := [.int (nI p9)]) (rest := []) hx hb hml hown hq hE hX pX0_al hP hD hS hA hl.1 (R_field l G h0 a (upd (upd (upd (upd (upd (upd (upd (upd (upd (upd (upd (upd (upd (upd (upd (upd (upd (upd (upd (upd F 49 (nI md)) 97 (nI ct)) 98 (nI fl)) 99 (nI rmm)) 101 tds) 102 (nI op)) 111 (nI tp)) 115 (nI wn)) 116 (-1)) 117 (nI fu)) 118 rs0) 119 uc0) 121 ma0) 122 mc0) 123 ca) 124 mo) 125 nw) 126 isn) 128 (nI on)) 130 (nI idn)) B Xs gh nd T nm wr lz dc fd md pr bk M rmm op tp wn fu rd on idn fl ct n9 p9 u mt ps yy bf wf nw isn rs0 uc0 hR hp hst hfu hkd (h171 (by omega))) (gV pw_2099 pw_2100 pw_2101 pw_1523 pw_2087) hV_X12_field 0 9 rfl rfl rfl rfl (Nat.le_of_ble_eq_true rfl) dX12_goesOn_219 ⟨Nat.le_of_ble_eq_true rfl, Nat.le_of_ble_eq_true rfl⟩ ⟨Nat.le_of_ble_eq_true rfl, Nat.le_of_ble_eq_true rfl⟩ (fun v176 u174 H locs hw175 hP hD hS => ?_)
      obtain ⟨op177, tp178, wn179, fu180, en181, nw182, is183, rs184, uc185, X186⟩ := u174
      obtain ⟨hw175, h187⟩ := hw175
      replace h187 : Nx Xs X186 gh nd T nm wr lz dc fd md pr bk M rmm fu (Phi gh ps op (rkN gh n9 true)) op177 tp178 wn179 fu180 rd on idn fl ct en181 nw182 is183 uc185 := h187
      obtain rfl : v176 = none := hw175
      have hP : va_P G.1 pCl (mW G h0 a (upd (upd (upd (upd (upd (upd (upd (upd (upd (upd (upd (upd (upd (upd (upd (upd (upd (upd (upd (upd F 49 (nI md)) 97 (nI ct)) 98 (nI fl)) 99 (nI rmm)) 101 tds) 102 (nI op177)) 111 (nI tp178)) 115 (nI wn179)) 116 en181) 117 (nI fu180)) 118 rs184) 119 uc185) 121 ma0) 122 mc0) 123 ca) 124 mo) 125 nw182) 126 is183) 128 (nI on)) 130 (nI idn)) X186) _ := hP
      have hD : va_D A (mW G h0 a (upd (upd (upd (upd (upd (upd (upd (upd (upd (upd (upd (upd (upd (upd (upd (upd (upd (upd (upd (upd F 49 (nI md)) 97 (nI ct)) 98 (nI fl)) 99 (nI rmm)) 101 tds) 102 (nI op177)) 111 (nI tp178)) 115 (nI wn179)) 116 en181) 117 (nI fu180)) 118 rs184) 119 uc185) 121 ma0) 122 mc0) 123 ca) 124 mo) 125 nw182) 126 is183) 128 (nI on)) 130 (nI idn)) X186) := hD
      refine W.widen (k := 0) (n := 0) (Nat.le_of_ble_eq_true rfl) (Nat.le_of_ble_eq_true rfl) ?_
      refine W.eq (g2 := F0 m 222 ls []) rfl ?_
      refine lv_goto (tgt := 619) hx hb dX12_goesOn_222 (by decide) ?_
      have hz188 : Nx Xs X186 gh nd T nm wr lz dc fd md pr bk M rmm fu (Phi gh ps op (rkN gh n9 true)) op177 tp178 wn179 fu180 rd on idn fl ct en181 nw182 is183 uc185 := h187
      have hP : va_P G.1 pCl (mW G h0 a (upd (upd (upd (upd (upd (upd (upd (upd (upd (upd (upd (upd (upd (upd (upd (upd (upd (upd (upd (upd F 49 (nI md)) 97 (nI ct)) 98 (nI fl)) 99 (nI rmm)) 101 tds) 102 (nI op177)) 111 (nI tp178)) 115 (nI wn179)) 116 en181) 117 (nI fu180)) 118 rs184) 119 uc185) 121 ma0) 122 mc0) 123 ca) 124 mo) 125 nw182) 126 is183) 128 (nI on)) 130 (nI idn)) X186) _ := hP
      have hD : va_D A (mW G h0 a (upd (upd (upd (upd (upd (upd (upd (upd (upd (upd (upd (upd (upd (upd (upd (upd (upd (upd (upd (upd F 49 (nI md)) 97 (nI ct)) 98 (nI fl)) 99 (nI rmm)) 101 tds) 102 (nI op177)) 111 (nI tp178)) 115 (nI wn179)) 116 en181) 117 (nI fu180)) 118 rs184) 119 uc185) 121 ma0) 122 mc0) 123 ca) 124 mo) 125 nw182) 126 is183) 128 (nI on)) 130 (nI idn)) X186) := hD
      exact W.vret hx hb hr (fun t9 ht9 hW9 => ⟨⟨_, (op177, tp178, wn179, fu180, en181, nw182, is183, rs184, uc185, on, idn, fl, ct, tds, ma0, mc0, ca, mo, X186), rfl, ⟨rfl, hz188⟩, by rw [ht9]; exact hP, hD⟩, hS.F ht9⟩) hS.2.2 dX12_goesOn_619
    · have n189 : ¬ (r168 = 0) := fun h9 => c172 ((nI_eq (a := r168) (b := 0) (by omega) (by omega)).mpr h9)
      obtain ⟨q9, j1, hl1, hl2, hl3, hl4, hl5⟩ := hR.place (uc := uc0) hp hst hkd (Or.inl rfl) (h170 (by omega))
      refine lv_aload_n hx hb dX12_goesOn_199 rfl (lv_at hl 1 rfl) ?_
      refine lv_aload_n hx hb dX12_goesOn_200 rfl (lv_at hl 1 rfl) ?_
      refine r_get (v := .ref (a 13)) hx hb hown hq hE hP 21 50 tFX12_21 (by decide) pw_1443 rfl dX12_goesOn_201 ?_
      refine lv_aload_n hx hb dX12_goesOn_204 rfl (lv_at hl 1 rfl) ?_
      refine r_get (v := .ref (a 52)) hx hb hown hq hE hP 88 168 tFX12_88 (by decide) pw_1483 rfl dX12_goesOn_205 ?_
      refine lv_iload_n hx hb dX12_goesOn_208 rfl (lv_at hl 2 rfl) ?_
      refine r_ldi (f := (B 52)) (j := p9) hx hb hE hP 52 (ma_52 G a _) rfl (by omega) (by decide) dX12_goesOn_209 ?_
      refine lv_topi (fun x190 e191 => ?_)
      obtain rfl : x190 = nI q9 := e191.trans hl1
      refine r_ldi (f := (B 13)) (j := q9) hx hb hE hP 13 (ma_13 G a _) rfl (by omega) (by decide) dX12_goesOn_210 ?_
      refine lv_topi (fun x192 e193 => ?_)
      obtain rfl : x192 = nI j1 := e193.trans ((congrFun hw13 _).trans hl3)
      have hP : va_P G.1 pCl (mW G h0 a (upd (upd (upd (upd (upd (upd (upd (upd (upd (upd (upd (upd (upd (upd (upd (upd (upd (upd (upd (upd F 49 (nI md)) 97 (nI ct)) 98 (nI fl)) 99 (nI rmm)) 101 tds) 102 (nI op)) 111 (nI tp)) 115 (nI wn)) 116 (-1)) 117 (nI fu)) 118 rs0) 119 uc0) 121 ma0) 122 mc0) 123 ca) 124 mo) 125 nw) 126 isn) 128 (nI on)) 130 (nI idn)) B) _ := hP
      have hD : va_D A (mW G h0 a (upd (upd (upd (upd (upd (upd (upd (upd (upd (upd (upd (upd (upd (upd (upd (upd (upd (upd (upd (upd F 49 (nI md)) 97 (nI ct)) 98 (nI fl)) 99 (nI rmm)) 101 tds) 102 (nI op)) 111 (nI tp)) 115 (nI wn)) 116 (-1)) 117 (nI fu)) 118 rs0) 119 uc0) 121 ma0) 122 mc0) 123 ca) 124 mo) 125 nw) 126 isn) 128 (nI on)) 130 (nI idn)) B) := hD
      refine pc_V0 (G := G) (As := [.int (nI j1)]) (rest := []) hx hb hml hown hq hE hX pX0_al hP hD hS hA hl.1 (R_begin l G h0 a (upd (upd (upd (upd (upd (upd (upd (upd (upd (upd (upd (upd (upd (upd (upd (upd (upd (upd (upd (upd F 49 (nI md)) 97 (nI ct)) 98 (nI fl)) 99 (nI rmm)) 101 tds) 102 (nI op)) 111 (nI tp)) 115 (nI wn)) 116 (-1)) 117 (nI fu)) 118 rs0) 119 uc0) 121 ma0) 122 mc0) 123 ca) 124 mo) 125 nw) 126 isn) 128 (nI on)) 130 (nI idn)) B (nI j1)) (gV pw_2016 pw_2017 pw_2018 pw_1523 pw_2002) hV_X12_begin 0 9 rfl rfl rfl rfl (Nat.le_of_ble_eq_true rfl) dX12_goesOn_211 ⟨Nat.le_of_ble_eq_true rfl, Nat.le_of_ble_eq_true rfl⟩ ⟨Nat.le_of_ble_eq_true rfl, Nat.le_of_ble_eq_true rfl⟩ (fun v196 u194 H locs hw195 hP hD hS => ?_)
      obtain rfl : v196 = none := hw195
      have hP : va_P G.1 pCl (mW G h0 a (upd (upd (upd (upd (upd (upd (upd (upd (upd (upd (upd (upd (upd (upd (upd (upd (upd (upd (upd (upd F 49 (nI md)) 97 (nI ct)) 98 (nI fl)) 99 (nI rmm)) 101 tds) 102 (nI op)) 111 (nI tp)) 115 (nI wn)) 116 (-1)) 117 (nI fu)) 118 rs0) 119 uc0) 121 ma0) 122 mc0) 123 ca) 124 mo) 125 (nI j1)) 126 1) 128 (nI on)) 130 (nI idn)) B) _ := hP
      have hD : va_D A (mW G h0 a (upd (upd (upd (upd (upd (upd (upd (upd (upd (upd (upd (upd (upd (upd (upd (upd (upd (upd (upd (upd F 49 (nI md)) 97 (nI ct)) 98 (nI fl)) 99 (nI rmm)) 101 tds) 102 (nI op)) 111 (nI tp)) 115 (nI wn)) 116 (-1)) 117 (nI fu)) 118 rs0) 119 uc0) 121 ma0) 122 mc0) 123 ca) 124 mo) 125 (nI j1)) 126 1) 128 (nI on)) 130 (nI idn)) B) := hD
      refine W.widen (k := 0) (n := 0) (Nat.le_of_ble_eq_true rfl) (Nat.le_of_ble_eq_true rfl) ?_
      refine W.eq (g2 := F0 m 214 ls []) rfl ?_
      refine lv_goto (tgt := 619) hx hb dX12_goesOn_214 (by decide) ?_
      have hz197 : Nx Xs B gh nd T nm wr lz dc fd md pr bk M rmm fu (Phi gh ps op (rkN gh n9 true)) op tp wn fu rd on idn fl ct ((-1) : Int32) (nI j1) (1 : Int32) uc0 := hl5
      have hP : va_P G.1 pCl (mW G h0 a (upd (upd (upd (upd (upd (upd (upd (upd (upd (upd (upd (upd (upd (upd (upd (upd (upd (upd (upd (upd F 49 (nI md)) 97 (nI ct)) 98 (nI fl)) 99 (nI rmm)) 101 tds) 102 (nI op)) 111 (nI tp)) 115 (nI wn)) 116 ((-1) : Int32)) 117 (nI fu)) 118 rs0) 119 uc0) 121 ma0) 122 mc0) 123 ca) 124 mo) 125 (nI j1)) 126 (1 : Int32)) 128 (nI on)) 130 (nI idn)) B) _ := hP
      have hD : va_D A (mW G h0 a (upd (upd (upd (upd (upd (upd (upd (upd (upd (upd (upd (upd (upd (upd (upd (upd (upd (upd (upd (upd F 49 (nI md)) 97 (nI ct)) 98 (nI fl)) 99 (nI rmm)) 101 tds) 102 (nI op)) 111 (nI tp)) 115 (nI wn)) 116 ((-1) : Int32)) 117 (nI fu)) 118 rs0) 119 uc0) 121 ma0) 122 mc0) 123 ca) 124 mo) 125 (nI j1)) 126 (1 : Int32)) 128 (nI on)) 130 (nI idn)) B) := hD
      exact W.vret hx hb hr (fun t9 ht9 hW9 => ⟨⟨_, (op, tp, wn, fu, ((-1) : Int32), (nI j1), (1 : Int32), rs0, uc0, on, idn, fl, ct, tds, ma0, mc0, ca, mo, B), rfl, ⟨rfl, hz197⟩, by rw [ht9]; exact hP, hD⟩, hS.F ht9⟩) hS.2.2 dX12_goesOn_619
  · have hfi := (hR.pl1 hp hst hkd (by omega) (by decide) rfl).1
    refine lv_iload_n hx hb dX12_goesOn_0 rfl (lv_at hl 2 rfl) ?_
    refine lv_aload_n hx hb dX12_goesOn_1 rfl (lv_at hl 0 rfl) ?_
    refine r_get (v := .ref (a 12)) hx hb hown hq hE hP 20 47 tFX12_20 (by decide) pw_1442 rfl dX12_goesOn_2 ?_
    refine lv_iload_n hx hb dX12_goesOn_5 rfl (lv_at hl 1 rfl) ?_
    refine r_ldi (f := (B 12)) (j := p9) hx hb hE hP 12 (ma_12 G a _) rfl (by omega) (by decide) dX12_goesOn_6 ?_
    refine lv_topi (fun x198 e199 => ?_)
    obtain rfl : x198 = nI n9 := e199.trans ((congrFun hw12 _).trans hfi)
    refine lv_icmp_ne (tgt := 14) hx hb dX12_goesOn_7 (by decide) (fun c200 => absurd rfl c200) (fun c200 => ?_)
    refine lv_iconst (v := 1) hx hb dX12_goesOn_10 (by decide) ?_
    refine lv_goto (tgt := 15) hx hb dX12_goesOn_11 (by decide) ?_
    refine lv_istore_n (lv' := [(3, .int 1), (0, .ref h0), (1, .int (nI p9)), (2, .int (nI n9))]) hx hb dX12_goesOn_15 rfl hl (by decide) rfl (fun ls hl => ?_)
    refine lv_aload_n hx hb dX12_goesOn_16 rfl (lv_at hl 1 rfl) ?_
    refine r_get (v := .ref (a 9)) hx hb hown hq hE hP 17 38 tFX12_17 (by decide) pw_1439 rfl dX12_goesOn_17 ?_
    refine lv_iload_n hx hb dX12_goesOn_20 rfl (lv_at hl 2 rfl) ?_
    refine r_ldi (f := (B 9)) (j := p9) hx hb hE hP 9 (ma_9 G a _) rfl (by omega) (by decide) dX12_goesOn_21 ?_
    refine lv_topi (fun x201 e202 => ?_)
    obtain rfl : x201 = 13 := e202.trans ((congrFun hw9 _).trans hkd)
    refine lv_tableIn (tgt := 225) (off := 203) hx hb dX12_goesOn_22 (by decide) (by decide) (by decide) (by decide) ?_
    refine lv_aload_n hx hb dX12_goesOn_225 rfl (lv_at hl 1 rfl) ?_
    obtain ⟨ht1, hm3, hm6⟩ := hR.k13 hp hst hkd
    have hP : va_P G.1 pCl (mW G h0 a (upd (upd (upd (upd (upd (upd (upd (upd (upd (upd (upd (upd (upd (upd (upd (upd (upd (upd (upd (upd (upd F 49 (nI md)) 97 (nI ct)) 98 (nI fl)) 99 (nI rmm)) 101 tds) 102 (nI op)) 111 (nI tp)) 115 (nI wn)) 116 (-1)) 117 (nI fu)) 118 rs0) 119 uc0) 121 ma0) 122 mc0) 123 ca) 124 mo) 125 nw) 126 isn) 128 (nI on)) 130 (nI idn)) 111 (nI tp)) (updA B 68 (B 68))) _ := hP
    have hD : va_D A (mW G h0 a (upd (upd (upd (upd (upd (upd (upd (upd (upd (upd (upd (upd (upd (upd (upd (upd (upd (upd (upd (upd (upd F 49 (nI md)) 97 (nI ct)) 98 (nI fl)) 99 (nI rmm)) 101 tds) 102 (nI op)) 111 (nI tp)) 115 (nI wn)) 116 (-1)) 117 (nI fu)) 118 rs0) 119 uc0) 121 ma0) 122 mc0) 123 ca) 124 mo) 125 nw) 126 isn) 128 (nI on)) 130 (nI idn)) 111 (nI tp)) (updA B 68 (B 68))) := hD
    refine pc_V0 (G := G) (As := []) (rest := []) hx hb hml hown hq hE hX pX0_al hP hD hS hA hl.1 (R_pop l G h0 a (upd (upd (upd (upd (upd (upd (upd (upd (upd (upd (upd (upd (upd (upd (upd (upd (upd (upd (upd (upd F 49 (nI md)) 97 (nI ct)) 98 (nI fl)) 99 (nI rmm)) 101 tds) 102 (nI op)) 111 (nI tp)) 115 (nI wn)) 116 (-1)) 117 (nI fu)) 118 rs0) 119 uc0) 121 ma0) 122 mc0) 123 ca) 124 mo) 125 nw) 126 isn) 128 (nI on)) 130 (nI idn)) B tp (B 68) (by omega)) (gV pw_2082 pw_2083 pw_2084 pw_1523 pw_1965) hV_X12_pop 0 9 rfl rfl rfl rfl (Nat.le_of_ble_eq_true rfl) dX12_goesOn_226 ⟨Nat.le_of_ble_eq_true rfl, Nat.le_of_ble_eq_true rfl⟩ ⟨Nat.le_of_ble_eq_true rfl, Nat.le_of_ble_eq_true rfl⟩ (fun v205 u203 H locs hw204 hP hD hS => ?_)
    obtain rfl : v205 = some (.int ((B 68) (tp - 1))) := hw204
    have hP : va_P G.1 pCl (mW G h0 a (upd (upd (upd (upd (upd (upd (upd (upd (upd (upd (upd (upd (upd (upd (upd (upd (upd (upd (upd (upd F 49 (nI md)) 97 (nI ct)) 98 (nI fl)) 99 (nI rmm)) 101 tds) 102 (nI op)) 111 (nI (tp - 1))) 115 (nI wn)) 116 (-1)) 117 (nI fu)) 118 rs0) 119 uc0) 121 ma0) 122 mc0) 123 ca) 124 mo) 125 nw) 126 isn) 128 (nI on)) 130 (nI idn)) B) _ := hP
    have hD : va_D A (mW G h0 a (upd (upd (upd (upd (upd (upd (upd (upd (upd (upd (upd (upd (upd (upd (upd (upd (upd (upd (upd (upd F 49 (nI md)) 97 (nI ct)) 98 (nI fl)) 99 (nI rmm)) 101 tds) 102 (nI op)) 111 (nI (tp - 1))) 115 (nI wn)) 116 (-1)) 117 (nI fu)) 118 rs0) 119 uc0) 121 ma0) 122 mc0) 123 ca) 124 mo) 125 nw) 126 isn) 128 (nI on)) 130 (nI idn)) B) := hD
    refine W.widen (k := 0) (n := 0) (Nat.le_of_ble_eq_true rfl) (Nat.le_of_ble_eq_true rfl) ?_
    refine W.eq (g2 := F0 m 229 ls [.int ((B 68) (tp - 1))]) rfl ?_
    rcases hm6 with hz | ⟨o9, q9, hv1, hv2, hv3, hv4⟩
    · refine lv_topi (fun x206 e207 => ?_)
      obtain rfl : x206 = 0 := e207.trans hz
      refine lv_istore (lv' := [(4, .int 0), (3, .int 1), (0, .ref h0), (1, .int (nI p9)), (2, .int (nI n9))]) hx hb dX12_goesOn_229 hl (by decide) rfl (fun ls hl => ?_)
      refine lv_iload hx hb dX12_goesOn_231 (lv_at hl 0 rfl) ?_
      refine lv_if_ne (tgt := 247) hx hb dX12_goesOn_233 (by decide) (fun c208 => absurd c208 (by decide)) (fun c208 => ?_)
      refine lv_aload_n hx hb dX12_goesOn_236 rfl (lv_at hl 2 rfl) ?_
      refine lv_iload_n hx hb dX12_goesOn_237 rfl (lv_at hl 3 rfl) ?_
      refine lv_sipush (v := 4001) hx hb dX12_goesOn_238 (by decide) ?_
      have hln209 := (Rn.lnP hR hp hst hkd (by omega) (by omega)).1
      have hP : va_P G.1 pCl (mW G h0 a (upd (upd (upd (upd (upd (upd (upd (upd (upd (upd (upd (upd (upd (upd (upd (upd (upd (upd (upd (upd (upd (upd (upd (upd (upd (upd (upd (upd (upd F 49 (nI md)) 97 (nI ct)) 98 (nI fl)) 99 (nI rmm)) 101 tds) 102 (nI op)) 111 (nI (tp - 1))) 115 (nI wn)) 116 (-1)) 117 (nI fu)) 118 rs0) 119 uc0) 121 ma0) 122 mc0) 123 ca) 124 mo) 125 nw) 126 isn) 128 (nI on)) 130 (nI idn)) 102 (nI op)) 111 (nI (tp - 1))) 115 (nI wn)) 116 (-1)) 117 (nI fu)) 118 rs0) 119 uc0) 125 nw) 126 isn) B) _ := hP
      have hD : va_D A (mW G h0 a (upd (upd (upd (upd (upd (upd (upd (upd (upd (upd (upd (upd (upd (upd (upd (upd (upd (upd (upd (upd (upd (upd (upd (upd (upd (upd (upd (upd (upd F 49 (nI md)) 97 (nI ct)) 98 (nI fl)) 99 (nI rmm)) 101 tds) 102 (nI op)) 111 (nI (tp - 1))) 115 (nI wn)) 116 (-1)) 117 (nI fu)) 118 rs0) 119 uc0) 121 ma0) 122 mc0) 123 ca) 124 mo) 125 nw) 126 isn) 128 (nI on)) 130 (nI idn)) 102 (nI op)) 111 (nI (tp - 1))) 115 (nI wn)) 116 (-1)) 117 (nI fu)) 118 rs0) 119 uc0) 125 nw) 126 isn) B) := hD
      refine pc_V0 (G := G) (As := [.int (nI p9), .int (nI 4001)]) (rest := []) hx hb hml hown hq hE hX pX0_al hP hD hS hA hl.1 (R_raises l G h0 a (upd (upd (upd (upd (upd (upd (upd (upd (upd (upd (upd (upd (upd (upd (upd (upd (upd (upd (upd (upd F 49 (nI md)) 97 (nI ct)) 98 (nI fl)) 99 (nI rmm)) 101 tds) 102 (nI op)) 111 (nI (tp - 1))) 115 (nI wn)) 116 (-1)) 117 (nI fu)) 118 rs0) 119 uc0) 121 ma0) 122 mc0) 123 ca) 124 mo) 125 nw) 126 isn) 128 (nI on)) 130 (nI idn)) B Xs gh nd T nm wr lz dc fd md pr bk M rmm (Phi gh ps op (rkN gh n9 true)) op wn fu rd on idn fl ct p9 4001 (4001 - 4000) mt ps (yyU yy (op - 1) u) bf wf (nI (tp - 1)) nw isn rs0 uc0 hln209 (by omega) (by omega) (Or.inr (by omega)) (clF_1 (by omega)) (by omega)) (gV pw_2054 pw_2055 pw_2056 pw_1523 pw_2053) hV_X12_raises 0 9 rfl rfl rfl rfl (Nat.le_of_ble_eq_true rfl) dX12_goesOn_241 ⟨Nat.le_of_ble_eq_true rfl, Nat.le_of_ble_eq_true rfl⟩ ⟨Nat.le_of_ble_eq_true rfl, Nat.le_of_ble_eq_true rfl⟩ (fun v212 u210 H locs hw211 hP hD hS => ?_)
      obtain ⟨op213, tp214, wn215, fu216, en217, nw218, is219, rs220, uc221, X222⟩ := u210
      obtain ⟨hw211, h223⟩ := hw211
      replace h223 : Nx Xs X222 gh nd T nm wr lz dc fd md pr bk M rmm fu (Phi gh ps op (rkN gh n9 true)) op213 tp214 wn215 fu216 rd on idn fl ct en217 nw218 is219 uc221 := h223
      obtain rfl : v212 = none := hw211
      have hP : va_P G.1 pCl (mW G h0 a (upd (upd (upd (upd (upd (upd (upd (upd (upd (upd (upd (upd (upd (upd (upd (upd (upd (upd (upd (upd F 49 (nI md)) 97 (nI ct)) 98 (nI fl)) 99 (nI rmm)) 101 tds) 102 (nI op213)) 111 (nI tp214)) 115 (nI wn215)) 116 en217) 117 (nI fu216)) 118 rs220) 119 uc221) 121 ma0) 122 mc0) 123 ca) 124 mo) 125 nw218) 126 is219) 128 (nI on)) 130 (nI idn)) X222) _ := hP
      have hD : va_D A (mW G h0 a (upd (upd (upd (upd (upd (upd (upd (upd (upd (upd (upd (upd (upd (upd (upd (upd (upd (upd (upd (upd F 49 (nI md)) 97 (nI ct)) 98 (nI fl)) 99 (nI rmm)) 101 tds) 102 (nI op213)) 111 (nI tp214)) 115 (nI wn215)) 116 en217) 117 (nI fu216)) 118 rs220) 119 uc221) 121 ma0) 122 mc0) 123 ca) 124 mo) 125 nw218) 126 is219) 128 (nI on)) 130 (nI idn)) X222) := hD
      refine W.widen (k := 0) (n := 0) (Nat.le_of_ble_eq_true rfl) (Nat.le_of_ble_eq_true rfl) ?_
      refine W.eq (g2 := F0 m 244 ls []) rfl ?_
      refine lv_goto (tgt := 619) hx hb dX12_goesOn_244 (by decide) ?_
      have hz224 : Nx Xs X222 gh nd T nm wr lz dc fd md pr bk M rmm fu (Phi gh ps op (rkN gh n9 true)) op213 tp214 wn215 fu216 rd on idn fl ct en217 nw218 is219 uc221 := h223
      have hP : va_P G.1 pCl (mW G h0 a (upd (upd (upd (upd (upd (upd (upd (upd (upd (upd (upd (upd (upd (upd (upd (upd (upd (upd (upd (upd F 49 (nI md)) 97 (nI ct)) 98 (nI fl)) 99 (nI rmm)) 101 tds) 102 (nI op213)) 111 (nI tp214)) 115 (nI wn215)) 116 en217) 117 (nI fu216)) 118 rs220) 119 uc221) 121 ma0) 122 mc0) 123 ca) 124 mo) 125 nw218) 126 is219) 128 (nI on)) 130 (nI idn)) X222) _ := hP
      have hD : va_D A (mW G h0 a (upd (upd (upd (upd (upd (upd (upd (upd (upd (upd (upd (upd (upd (upd (upd (upd (upd (upd (upd (upd F 49 (nI md)) 97 (nI ct)) 98 (nI fl)) 99 (nI rmm)) 101 tds) 102 (nI op213)) 111 (nI tp214)) 115 (nI wn215)) 116 en217) 117 (nI fu216)) 118 rs220) 119 uc221) 121 ma0) 122 mc0) 123 ca) 124 mo) 125 nw218) 126 is219) 128 (nI on)) 130 (nI idn)) X222) := hD
      exact W.vret hx hb hr (fun t9 ht9 hW9 => ⟨⟨_, (op213, tp214, wn215, fu216, en217, nw218, is219, rs220, uc221, on, idn, fl, ct, tds, ma0, mc0, ca, mo, X222), rfl, ⟨rfl, hz224⟩, by rw [ht9]; exact hP, hD⟩, hS.F ht9⟩) hS.2.2 dX12_goesOn_619
    · refine lv_topi (fun x225 e226 => ?_)
      obtain rfl : x225 = nI (o9 + 1) := e226.trans hv1
      refine lv_istore (lv' := [(4, .int (nI (o9 + 1))), (3, .int 1), (0, .ref h0), (1, .int (nI p9)), (2, .int (nI n9))]) hx hb dX12_goesOn_229 hl (by decide) rfl (fun ls hl => ?_)
      refine lv_iload hx hb dX12_goesOn_231 (lv_at hl 0 rfl) ?_
      refine lv_if_ne (tgt := 247) hx hb dX12_goesOn_233 (by decide) (fun c227 => ?_) (fun c227 => (by have n228 : (o9 + 1) = 0 := (nI_eq (a := (o9 + 1)) (b := 0) (by omega) (by omega)).mp c227; omega))
      refine lv_aload_n hx hb dX12_goesOn_247 rfl (lv_at hl 2 rfl) ?_
      refine lv_iload_n hx hb dX12_goesOn_248 rfl (lv_at hl 3 rfl) ?_
      refine lv_aload_n hx hb dX12_goesOn_249 rfl (lv_at hl 2 rfl) ?_
      refine r_get (v := .ref (a 57)) hx hb hown hq hE hP 93 184 tFX12_93 (by decide) pw_1489 rfl dX12_goesOn_250 ?_
      refine lv_iload hx hb dX12_goesOn_253 (lv_at hl 0 rfl) ?_
      refine lv_iconst (v := 1) hx hb dX12_goesOn_255 (by decide) ?_
      refine lv_isub hx hb dX12_goesOn_256 ?_
      refine lv_topi (fun x229 e230 => ?_)
      obtain rfl : x229 = nI ((o9 + 1) - 1) := e230.trans (nI_subN (a := 1) (b := (o9 + 1)) (by omega))
      refine r_ldi (f := (B 57)) (j := ((o9 + 1) - 1)) hx hb hE hP 57 (ma_57 G a _) rfl (by omega) (by decide) dX12_goesOn_257 ?_
      refine lv_topi (fun x231 e232 => ?_)
      obtain rfl : x231 = nI q9 := e232.trans (by rw [show ((o9 + 1) - 1) = o9 by omega]; exact hv3)
      have hP : va_P G.1 pCl (mW G h0 a (upd (upd (upd (upd (upd (upd (upd (upd (upd (upd (upd (upd (upd (upd (upd (upd (upd (upd (upd (upd (upd F 49 (nI md)) 97 (nI ct)) 98 (nI fl)) 99 (nI rmm)) 101 tds) 102 (nI op)) 111 (nI (tp - 1))) 115 (nI wn)) 116 (-1)) 117 (nI fu)) 118 rs0) 119 uc0) 121 ma0) 122 mc0) 123 ca) 124 mo) 125 nw) 126 isn) 128 (nI on)) 130 (nI idn)) 111 (nI (tp - 1))) (updA (updA B 68 (B 68)) 69 (B 69))) _ := hP
      have hD : va_D A (mW G h0 a (upd (upd (upd (upd (upd (upd (upd (upd (upd (upd (upd (upd (upd (upd (upd (upd (upd (upd (upd (upd (upd F 49 (nI md)) 97 (nI ct)) 98 (nI fl)) 99 (nI rmm)) 101 tds) 102 (nI op)) 111 (nI (tp - 1))) 115 (nI wn)) 116 (-1)) 117 (nI fu)) 118 rs0) 119 uc0) 121 ma0) 122 mc0) 123 ca) 124 mo) 125 nw) 126 isn) 128 (nI on)) 130 (nI idn)) 111 (nI (tp - 1))) (updA (updA B 68 (B 68)) 69 (B 69))) := hD
      refine pc_V0 (G := G) (As := [.int (nI p9), .int (nI q9)]) (rest := []) hx hb hml hown hq hE hX pX0_al hP hD hS hA hl.1 (R_gives l G h0 a (upd (upd (upd (upd (upd (upd (upd (upd (upd (upd (upd (upd (upd (upd (upd (upd (upd (upd (upd (upd F 49 (nI md)) 97 (nI ct)) 98 (nI fl)) 99 (nI rmm)) 101 tds) 102 (nI op)) 111 (nI (tp - 1))) 115 (nI wn)) 116 (-1)) 117 (nI fu)) 118 rs0) 119 uc0) 121 ma0) 122 mc0) 123 ca) 124 mo) 125 nw) 126 isn) 128 (nI on)) 130 (nI idn)) B p9 1 (tp - 1) (nI q9) (B 68) (B 69) (by omega) hm3 (by omega) (by omega)) (gV pw_2069 pw_2070 pw_2071 pw_1523 pw_2006) hV_X12_gives 0 9 rfl rfl rfl rfl (Nat.le_of_ble_eq_true rfl) dX12_goesOn_258 ⟨Nat.le_of_ble_eq_true rfl, Nat.le_of_ble_eq_true rfl⟩ ⟨Nat.le_of_ble_eq_true rfl, Nat.le_of_ble_eq_true rfl⟩ (fun v235 u233 H locs hw234 hP hD hS => ?_)
      obtain ⟨b236, rf237⟩ := u233
      obtain ⟨hw234, h238, h239⟩ := hw234
      replace h238 : rf237 = upd (B 69) (tp - 1) (nI b236) := h238
      replace h239 : b236 ≤ 1 ∧ 3 * b236 ≤ 1 ∧ 1 ≤ 2 + 9000 * b236 := h239
      obtain rfl : v235 = none := hw234
      have hP : va_P G.1 pCl (mW G h0 a (upd (upd (upd (upd (upd (upd (upd (upd (upd (upd (upd (upd (upd (upd (upd (upd (upd (upd (upd (upd F 49 (nI md)) 97 (nI ct)) 98 (nI fl)) 99 (nI rmm)) 101 tds) 102 (nI op)) 111 (nI ((tp - 1) + 1))) 115 (nI wn)) 116 (-1)) 117 (nI fu)) 118 rs0) 119 uc0) 121 ma0) 122 mc0) 123 ca) 124 mo) 125 (nI p9)) 126 0) 128 (nI on)) 130 (nI idn)) (updA (updA B 68 (upd (B 68) (tp - 1) (nI q9))) 69 rf237)) _ := hP
      have hD : va_D A (mW G h0 a (upd (upd (upd (upd (upd (upd (upd (upd (upd (upd (upd (upd (upd (upd (upd (upd (upd (upd (upd (upd F 49 (nI md)) 97 (nI ct)) 98 (nI fl)) 99 (nI rmm)) 101 tds) 102 (nI op)) 111 (nI ((tp - 1) + 1))) 115 (nI wn)) 116 (-1)) 117 (nI fu)) 118 rs0) 119 uc0) 121 ma0) 122 mc0) 123 ca) 124 mo) 125 (nI p9)) 126 0) 128 (nI on)) 130 (nI idn)) (updA (updA B 68 (upd (B 68) (tp - 1) (nI q9))) 69 rf237)) := hD
      refine W.widen (k := 0) (n := 0) (Nat.le_of_ble_eq_true rfl) (Nat.le_of_ble_eq_true rfl) ?_
      refine W.eq (g2 := F0 m 261 ls []) rfl ?_
      obtain rfl : rf237 = _ := h238
      have hP : va_P G.1 pCl (mW G h0 a (upd (upd (upd (upd (upd (upd (upd (upd (upd (upd (upd (upd (upd (upd (upd (upd (upd (upd (upd (upd F 49 (nI md)) 97 (nI ct)) 98 (nI fl)) 99 (nI rmm)) 101 tds) 102 (nI op)) 111 (nI ((tp - 1) + 1))) 115 (nI wn)) 116 (-1)) 117 (nI fu)) 118 rs0) 119 uc0) 121 ma0) 122 mc0) 123 ca) 124 mo) 125 (nI p9)) 126 0) 128 (nI on)) 130 (nI idn)) (updA (updA B 68 (upd (B 68) (tp - 1) (nI q9))) 69 (upd (B 69) (tp - 1) (nI b236)))) _ := hP
      have hD : va_D A (mW G h0 a (upd (upd (upd (upd (upd (upd (upd (upd (upd (upd (upd (upd (upd (upd (upd (upd (upd (upd (upd (upd F 49 (nI md)) 97 (nI ct)) 98 (nI fl)) 99 (nI rmm)) 101 tds) 102 (nI op)) 111 (nI ((tp - 1) + 1))) 115 (nI wn)) 116 (-1)) 117 (nI fu)) 118 rs0) 119 uc0) 121 ma0) 122 mc0) 123 ca) 124 mo) 125 (nI p9)) 126 0) 128 (nI on)) 130 (nI idn)) (updA (updA B 68 (upd (B 68) (tp - 1) (nI q9))) 69 (upd (B 69) (tp - 1) (nI b236)))) := hD
      refine lv_goto (tgt := 619) hx hb dX12_goesOn_261 (by decide) ?_
      have hz240 : Nx Xs (updA (updA B 68 (upd (B 68) (tp - 1) (nI q9))) 69 (upd (B 69) (tp - 1) (nI b236))) gh nd T nm wr lz dc fd md pr bk M rmm fu (Phi gh ps op (rkN gh n9 true)) op ((tp - 1) + 1) wn fu rd on idn fl ct ((-1) : Int32) (nI p9) (0 : Int32) uc0 := (hR.givesUp hp hst hkd (by omega) (fun h => absurd h (by omega)) hm3 (by unfold TyC; omega) (by omega) (VTd.num (by omega)) h239 (by omega))
      have hP : va_P G.1 pCl (mW G h0 a (upd (upd (upd (upd (upd (upd (upd (upd (upd (upd (upd (upd (upd (upd (upd (upd (upd (upd (upd (upd F 49 (nI md)) 97 (nI ct)) 98 (nI fl)) 99 (nI rmm)) 101 tds) 102 (nI op)) 111 (nI ((tp - 1) + 1))) 115 (nI wn)) 116 ((-1) : Int32)) 117 (nI fu)) 118 rs0) 119 uc0) 121 ma0) 122 mc0) 123 ca) 124 mo) 125 (nI p9)) 126 (0 : Int32)) 128 (nI on)) 130 (nI idn)) (updA (updA B 68 (upd (B 68) (tp - 1) (nI q9))) 69 (upd (B 69) (tp - 1) (nI b236)))) _ := hP
      have hD : va_D A (mW G h0 a (upd (upd (upd (upd (upd (upd (upd (upd (upd (upd (upd (upd (upd (upd (upd (upd (upd (upd (upd (upd F 49 (nI md)) 97 (nI ct)) 98 (nI fl)) 99 (nI rmm)) 101 tds) 102 (nI op)) 111 (nI ((tp - 1) + 1))) 115 (nI wn)) 116 ((-1) : Int32)) 117 (nI fu)) 118 rs0) 119 uc0) 121 ma0) 122 mc0) 123 ca) 124 mo) 125 (nI p9)) 126 (0 : Int32)) 128 (nI on)) 130 (nI idn)) (updA (updA B 68 (upd (B 68) (tp - 1) (nI q9))) 69 (upd (B 69) (tp - 1) (nI b236)))) := hD
      exact W.vret hx hb hr (fun t9 ht9 hW9 => ⟨⟨_, (op, ((tp - 1) + 1), wn, fu, ((-1) : Int32), (nI p9), (0 : Int32), rs0, uc0, on, idn, fl, ct, tds, ma0, mc0, ca, mo, (updA (updA B 68 (upd (B 68) (tp - 1) (nI q9))) 69 (upd (B 69) (tp - 1) (nI b236)))), rfl, ⟨rfl, hz240⟩, by rw [ht9]; exact hP, hD⟩, hS.F ht9⟩) hS.2.2 dX12_goesOn_619
  · by_cases hfi : Xs 12 p9 = nI n9
    · refine lv_iload_n hx hb dX12_goesOn_0 rfl (lv_at hl 2 rfl) ?_
      refine lv_aload_n hx hb dX12_goesOn_1 rfl (lv_at hl 0 rfl) ?_
      refine r_get (v := .ref (a 12)) hx hb hown hq hE hP 20 47 tFX12_20 (by decide) pw_1442 rfl dX12_goesOn_2 ?_
      refine lv_iload_n hx hb dX12_goesOn_5 rfl (lv_at hl 1 rfl) ?_
      refine r_ldi (f := (B 12)) (j := p9) hx hb hE hP 12 (ma_12 G a _) rfl (by omega) (by decide) dX12_goesOn_6 ?_
      refine lv_topi (fun x241 e242 => ?_)
      obtain rfl : x241 = nI n9 := e242.trans ((congrFun hw12 _).trans hfi)
      refine lv_icmp_ne (tgt := 14) hx hb dX12_goesOn_7 (by decide) (fun c243 => absurd rfl c243) (fun c243 => ?_)
      refine lv_iconst (v := 1) hx hb dX12_goesOn_10 (by decide) ?_
      refine lv_goto (tgt := 15) hx hb dX12_goesOn_11 (by decide) ?_
      refine lv_istore_n (lv' := [(3, .int 1), (0, .ref h0), (1, .int (nI p9)), (2, .int (nI n9))]) hx hb dX12_goesOn_15 rfl hl (by decide) rfl (fun ls hl => ?_)
      refine lv_aload_n hx hb dX12_goesOn_16 rfl (lv_at hl 1 rfl) ?_
      refine r_get (v := .ref (a 9)) hx hb hown hq hE hP 17 38 tFX12_17 (by decide) pw_1439 rfl dX12_goesOn_17 ?_
      refine lv_iload_n hx hb dX12_goesOn_20 rfl (lv_at hl 2 rfl) ?_
      refine r_ldi (f := (B 9)) (j := p9) hx hb hE hP 9 (ma_9 G a _) rfl (by omega) (by decide) dX12_goesOn_21 ?_
      refine lv_topi (fun x244 e245 => ?_)
      obtain rfl : x244 = 14 := e245.trans ((congrFun hw9 _).trans hkd)
      refine lv_tableIn (tgt := 131) (off := 109) hx hb dX12_goesOn_22 (by decide) (by decide) (by decide) (by decide) ?_
      refine lv_iload_n hx hb dX12_goesOn_131 rfl (lv_at hl 0 rfl) ?_
      refine lv_if_eq (tgt := 144) hx hb dX12_goesOn_132 (by decide) (fun c246 => absurd c246 (by decide)) (fun c246 => ?_)
      refine lv_aload_n hx hb dX12_goesOn_135 rfl (lv_at hl 1 rfl) ?_
      refine r_get (v := .ref (a 13)) hx hb hown hq hE hP 21 50 tFX12_21 (by decide) pw_1443 rfl dX12_goesOn_136 ?_
      refine lv_iload_n hx hb dX12_goesOn_139 rfl (lv_at hl 2 rfl) ?_
      refine r_ldi (f := (B 13)) (j := p9) hx hb hE hP 13 (ma_13 G a _) rfl (by omega) (by decide) dX12_goesOn_140 ?_
      rcases hR.k14a (uc := uc0) hp hst hkd hfi with ⟨ha1, ha3⟩ | ⟨j1, ha1, ha2, ha3⟩
      · refine lv_topi (fun x247 e248 => ?_)
        obtain rfl : x247 = (-1) := e248.trans ((congrFun hw13 _).trans ha1)
        refine lv_goto (tgt := 150) hx hb dX12_goesOn_141 (by decide) ?_
        refine lv_istore (lv' := [(4, .int (-1)), (3, .int 1), (0, .ref h0), (1, .int (nI p9)), (2, .int (nI n9))]) hx hb dX12_goesOn_150 hl (by decide) rfl (fun ls hl => ?_)
        refine lv_iload hx hb dX12_goesOn_152 (lv_at hl 0 rfl) ?_
        refine lv_iconst (v := (-1)) hx hb dX12_goesOn_154 (by decide) ?_
        refine lv_icmp_ne (tgt := 166) hx hb dX12_goesOn_155 (by decide) (fun c249 => absurd c249 (by decide)) (fun c249 => ?_)
        refine lv_aload_n hx hb dX12_goesOn_158 rfl (lv_at hl 2 rfl) ?_
        refine lv_iload_n hx hb dX12_goesOn_159 rfl (lv_at hl 3 rfl) ?_
        have hP : va_P G.1 pCl (mW G h0 a (upd (upd (upd (upd (upd (upd (upd (upd (upd (upd (upd (upd (upd (upd (upd (upd (upd (upd (upd (upd (upd (upd (upd (upd (upd (upd (upd (upd (upd (upd (upd (upd F 49 (nI md)) 97 (nI ct)) 98 (nI fl)) 99 (nI rmm)) 101 tds) 102 (nI op)) 111 (nI tp)) 115 (nI wn)) 116 (-1)) 117 (nI fu)) 118 rs0) 119 uc0) 121 ma0) 122 mc0) 123 ca) 124 mo) 125 nw) 126 isn) 128 (nI on)) 130 (nI idn)) 49 (nI md)) 102 (nI op)) 111 (nI tp)) 115 (nI wn)) 116 (-1)) 117 (nI fu)) 118 rs0) 119 uc0) 123 ca) 124 mo) 125 nw) 126 isn) B) _ := hP
        have hD : va_D A (mW G h0 a (upd (upd (upd (upd (upd (upd (upd (upd (upd (upd (upd (upd (upd (upd (upd (upd (upd (upd (upd (upd (upd (upd (upd (upd (upd (upd (upd (upd (upd (upd (upd (upd F 49 (nI md)) 97 (nI ct)) 98 (nI fl)) 99 (nI rmm)) 101 tds) 102 (nI op)) 111 (nI tp)) 115 (nI wn)) 116 (-1)) 117 (nI fu)) 118 rs0) 119 uc0) 121 ma0) 122 mc0) 123 ca) 124 mo) 125 nw) 126 isn) 128 (nI on)) 130 (nI idn)) 49 (nI md)) 102 (nI op)) 111 (nI tp)) 115 (nI wn)) 116 (-1)) 117 (nI fu)) 118 rs0) 119 uc0) 123 ca) 124 mo) 125 nw) 126 isn) B) := hD
        refine pc_V0 (G := G) (As := [.int (nI p9)]) (rest := []) hx hb hml hown hq hE hX pX0_al hP hD hS hA hl.1 (R_invokes14 l G h0 a (upd (upd (upd (upd (upd (upd (upd (upd (upd (upd (upd (upd (upd (upd (upd (upd (upd (upd (upd (upd F 49 (nI md)) 97 (nI ct)) 98 (nI fl)) 99 (nI rmm)) 101 tds) 102 (nI op)) 111 (nI tp)) 115 (nI wn)) 116 (-1)) 117 (nI fu)) 118 rs0) 119 uc0) 121 ma0) 122 mc0) 123 ca) 124 mo) 125 nw) 126 isn) 128 (nI on)) 130 (nI idn)) B Xs gh nd T nm wr lz dc fd md pr bk M rmm (Phi gh ps op (rkN gh n9 true)) op tp wn fu rd on idn fl ct p9 0 mt ps (yyU yy (op - 1) u) bf wf nw isn rs0 uc0 ca mo ha3 (by omega) hkd) (gV pw_2075 pw_2076 pw_2077 pw_1523 pw_2063) hV_X12_invokes 0 9 rfl rfl rfl rfl (Nat.le_of_ble_eq_true rfl) dX12_goesOn_160 ⟨Nat.le_of_ble_eq_true rfl, Nat.le_of_ble_eq_true rfl⟩ ⟨Nat.le_of_ble_eq_true rfl, Nat.le_of_ble_eq_true rfl⟩ (fun v252 u250 H locs hw251 hP hD hS => ?_)
        obtain ⟨op253, tp254, wn255, fu256, en257, nw258, is259, rs260, uc261, ca262, mo263, X264⟩ := u250
        obtain ⟨hw251, h265⟩ := hw251
        replace h265 : Nx Xs X264 gh nd T nm wr lz dc fd md pr bk M rmm fu (Phi gh ps op (rkN gh n9 true)) op253 tp254 wn255 fu256 rd on idn fl ct en257 nw258 is259 uc261 := h265
        obtain rfl : v252 = none := hw251
        have hP : va_P G.1 pCl (mW G h0 a (upd (upd (upd (upd (upd (upd (upd (upd (upd (upd (upd (upd (upd (upd (upd (upd (upd (upd (upd (upd F 49 (nI md)) 97 (nI ct)) 98 (nI fl)) 99 (nI rmm)) 101 tds) 102 (nI op253)) 111 (nI tp254)) 115 (nI wn255)) 116 en257) 117 (nI fu256)) 118 rs260) 119 uc261) 121 ma0) 122 mc0) 123 ca262) 124 mo263) 125 nw258) 126 is259) 128 (nI on)) 130 (nI idn)) X264) _ := hP
        have hD : va_D A (mW G h0 a (upd (upd (upd (upd (upd (upd (upd (upd (upd (upd (upd (upd (upd (upd (upd (upd (upd (upd (upd (upd F 49 (nI md)) 97 (nI ct)) 98 (nI fl)) 99 (nI rmm)) 101 tds) 102 (nI op253)) 111 (nI tp254)) 115 (nI wn255)) 116 en257) 117 (nI fu256)) 118 rs260) 119 uc261) 121 ma0) 122 mc0) 123 ca262) 124 mo263) 125 nw258) 126 is259) 128 (nI on)) 130 (nI idn)) X264) := hD
        refine W.widen (k := 0) (n := 0) (Nat.le_of_ble_eq_true rfl) (Nat.le_of_ble_eq_true rfl) ?_
        refine W.eq (g2 := F0 m 163 ls []) rfl ?_
        refine lv_goto (tgt := 619) hx hb dX12_goesOn_163 (by decide) ?_
        have hz266 : Nx Xs X264 gh nd T nm wr lz dc fd md pr bk M rmm fu (Phi gh ps op (rkN gh n9 true)) op253 tp254 wn255 fu256 rd on idn fl ct en257 nw258 is259 uc261 := h265
        have hP : va_P G.1 pCl (mW G h0 a (upd (upd (upd (upd (upd (upd (upd (upd (upd (upd (upd (upd (upd (upd (upd (upd (upd (upd (upd (upd F 49 (nI md)) 97 (nI ct)) 98 (nI fl)) 99 (nI rmm)) 101 tds) 102 (nI op253)) 111 (nI tp254)) 115 (nI wn255)) 116 en257) 117 (nI fu256)) 118 rs260) 119 uc261) 121 ma0) 122 mc0) 123 ca262) 124 mo263) 125 nw258) 126 is259) 128 (nI on)) 130 (nI idn)) X264) _ := hP
        have hD : va_D A (mW G h0 a (upd (upd (upd (upd (upd (upd (upd (upd (upd (upd (upd (upd (upd (upd (upd (upd (upd (upd (upd (upd F 49 (nI md)) 97 (nI ct)) 98 (nI fl)) 99 (nI rmm)) 101 tds) 102 (nI op253)) 111 (nI tp254)) 115 (nI wn255)) 116 en257) 117 (nI fu256)) 118 rs260) 119 uc261) 121 ma0) 122 mc0) 123 ca262) 124 mo263) 125 nw258) 126 is259) 128 (nI on)) 130 (nI idn)) X264) := hD
        exact W.vret hx hb hr (fun t9 ht9 hW9 => ⟨⟨_, (op253, tp254, wn255, fu256, en257, nw258, is259, rs260, uc261, on, idn, fl, ct, tds, ma0, mc0, ca262, mo263, X264), rfl, ⟨rfl, hz266⟩, by rw [ht9]; exact hP, hD⟩, hS.F ht9⟩) hS.2.2 dX12_goesOn_619
      · refine lv_topi (fun x267 e268 => ?_)
        obtain rfl : x267 = nI j1 := e268.trans ((congrFun hw13 _).trans ha1)
        refine lv_goto (tgt := 150) hx hb dX12_goesOn_141 (by decide) ?_
        refine lv_istore (lv' := [(4, .int (nI j1)), (3, .int 1), (0, .ref h0), (1, .int (nI p9)), (2, .int (nI n9))]) hx hb dX12_goesOn_150 hl (by decide) rfl (fun ls hl => ?_)
        refine lv_iload hx hb dX12_goesOn_152 (lv_at hl 0 rfl) ?_
        refine lv_iconst (v := (-1)) hx hb dX12_goesOn_154 (by decide) ?_
        refine lv_icmp_ne (tgt := 166) hx hb dX12_goesOn_155 (by decide) (fun c269 => ?_) (fun c269 => absurd c269 (nI_m1 (by omega)))
        refine lv_aload_n hx hb dX12_goesOn_166 rfl (lv_at hl 2 rfl) ?_
        refine lv_iload hx hb dX12_goesOn_167 (lv_at hl 0 rfl) ?_
        have hP : va_P G.1 pCl (mW G h0 a (upd (upd (upd (upd (upd (upd (upd (upd (upd (upd (upd (upd (upd (upd (upd (upd (upd (upd (upd (upd F 49 (nI md)) 97 (nI ct)) 98 (nI fl)) 99 (nI rmm)) 101 tds) 102 (nI op)) 111 (nI tp)) 115 (nI wn)) 116 (-1)) 117 (nI fu)) 118 rs0) 119 uc0) 121 ma0) 122 mc0) 123 ca) 124 mo) 125 nw) 126 isn) 128 (nI on)) 130 (nI idn)) B) _ := hP
        have hD : va_D A (mW G h0 a (upd (upd (upd (upd (upd (upd (upd (upd (upd (upd (upd (upd (upd (upd (upd (upd (upd (upd (upd (upd F 49 (nI md)) 97 (nI ct)) 98 (nI fl)) 99 (nI rmm)) 101 tds) 102 (nI op)) 111 (nI tp)) 115 (nI wn)) 116 (-1)) 117 (nI fu)) 118 rs0) 119 uc0) 121 ma0) 122 mc0) 123 ca) 124 mo) 125 nw) 126 isn) 128 (nI on)) 130 (nI idn)) B) := hD
        refine pc_V0 (G := G) (As := [.int (nI j1)]) (rest := []) hx hb hml hown hq hE hX pX0_al hP hD hS hA hl.1 (R_begin l G h0 a (upd (upd (upd (upd (upd (upd (upd (upd (upd (upd (upd (upd (upd (upd (upd (upd (upd (upd (upd (upd F 49 (nI md)) 97 (nI ct)) 98 (nI fl)) 99 (nI rmm)) 101 tds) 102 (nI op)) 111 (nI tp)) 115 (nI wn)) 116 (-1)) 117 (nI fu)) 118 rs0) 119 uc0) 121 ma0) 122 mc0) 123 ca) 124 mo) 125 nw) 126 isn) 128 (nI on)) 130 (nI idn)) B (nI j1)) (gV pw_2016 pw_2017 pw_2018 pw_1523 pw_2002) hV_X12_begin 0 9 rfl rfl rfl rfl (Nat.le_of_ble_eq_true rfl) dX12_goesOn_169 ⟨Nat.le_of_ble_eq_true rfl, Nat.le_of_ble_eq_true rfl⟩ ⟨Nat.le_of_ble_eq_true rfl, Nat.le_of_ble_eq_true rfl⟩ (fun v272 u270 H locs hw271 hP hD hS => ?_)
        obtain rfl : v272 = none := hw271
        have hP : va_P G.1 pCl (mW G h0 a (upd (upd (upd (upd (upd (upd (upd (upd (upd (upd (upd (upd (upd (upd (upd (upd (upd (upd (upd (upd F 49 (nI md)) 97 (nI ct)) 98 (nI fl)) 99 (nI rmm)) 101 tds) 102 (nI op)) 111 (nI tp)) 115 (nI wn)) 116 (-1)) 117 (nI fu)) 118 rs0) 119 uc0) 121 ma0) 122 mc0) 123 ca) 124 mo) 125 (nI j1)) 126 1) 128 (nI on)) 130 (nI idn)) B) _ := hP
        have hD : va_D A (mW G h0 a (upd (upd (upd (upd (upd (upd (upd (upd (upd (upd (upd (upd (upd (upd (upd (upd (upd (upd (upd (upd F 49 (nI md)) 97 (nI ct)) 98 (nI fl)) 99 (nI rmm)) 101 tds) 102 (nI op)) 111 (nI tp)) 115 (nI wn)) 116 (-1)) 117 (nI fu)) 118 rs0) 119 uc0) 121 ma0) 122 mc0) 123 ca) 124 mo) 125 (nI j1)) 126 1) 128 (nI on)) 130 (nI idn)) B) := hD
        refine W.widen (k := 0) (n := 0) (Nat.le_of_ble_eq_true rfl) (Nat.le_of_ble_eq_true rfl) ?_
        refine W.eq (g2 := F0 m 172 ls []) rfl ?_
        refine lv_goto (tgt := 619) hx hb dX12_goesOn_172 (by decide) ?_
        have hz273 : Nx Xs B gh nd T nm wr lz dc fd md pr bk M rmm fu (Phi gh ps op (rkN gh n9 true)) op tp wn fu rd on idn fl ct ((-1) : Int32) (nI j1) (1 : Int32) uc0 := ha3
        have hP : va_P G.1 pCl (mW G h0 a (upd (upd (upd (upd (upd (upd (upd (upd (upd (upd (upd (upd (upd (upd (upd (upd (upd (upd (upd (upd F 49 (nI md)) 97 (nI ct)) 98 (nI fl)) 99 (nI rmm)) 101 tds) 102 (nI op)) 111 (nI tp)) 115 (nI wn)) 116 ((-1) : Int32)) 117 (nI fu)) 118 rs0) 119 uc0) 121 ma0) 122 mc0) 123 ca) 124 mo) 125 (nI j1)) 126 (1 : Int32)) 128 (nI on)) 130 (nI idn)) B) _ := hP
        have hD : va_D A (mW G h0 a (upd (upd (upd (upd (upd (upd (upd (upd (upd (upd (upd (upd (upd (upd (upd (upd (upd (upd (upd (upd F 49 (nI md)) 97 (nI ct)) 98 (nI fl)) 99 (nI rmm)) 101 tds) 102 (nI op)) 111 (nI tp)) 115 (nI wn)) 116 ((-1) : Int32)) 117 (nI fu)) 118 rs0) 119 uc0) 121 ma0) 122 mc0) 123 ca) 124 mo) 125 (nI j1)) 126 (1 : Int32)) 128 (nI on)) 130 (nI idn)) B) := hD
        exact W.vret hx hb hr (fun t9 ht9 hW9 => ⟨⟨_, (op, tp, wn, fu, ((-1) : Int32), (nI j1), (1 : Int32), rs0, uc0, on, idn, fl, ct, tds, ma0, mc0, ca, mo, B), rfl, ⟨rfl, hz273⟩, by rw [ht9]; exact hP, hD⟩, hS.F ht9⟩) hS.2.2 dX12_goesOn_619
    · refine lv_iload_n hx hb dX12_goesOn_0 rfl (lv_at hl 2 rfl) ?_
      refine lv_aload_n hx hb dX12_goesOn_1 rfl (lv_at hl 0 rfl) ?_
      refine r_get (v := .ref (a 12)) hx hb hown hq hE hP 20 47 tFX12_20 (by decide) pw_1442 rfl dX12_goesOn_2 ?_
      refine lv_iload_n hx hb dX12_goesOn_5 rfl (lv_at hl 1 rfl) ?_
      refine r_ldi (f := (B 12)) (j := p9) hx hb hE hP 12 (ma_12 G a _) rfl (by omega) (by decide) dX12_goesOn_6 ?_
      refine lv_icmp_ne (tgt := 14) hx hb dX12_goesOn_7 (by decide) (fun c274 => ?_) (fun c274 => absurd ((congrFun hw12 _).symm.trans c274.symm) hfi)
      refine lv_iconst (v := 0) hx hb dX12_goesOn_14 (by decide) ?_
      refine lv_istore_n (lv' := [(3, .int 0), (0, .ref h0), (1, .int (nI p9)), (2, .int (nI n9))]) hx hb dX12_goesOn_15 rfl hl (by decide) rfl (fun ls hl => ?_)
      refine lv_aload_n hx hb dX12_goesOn_16 rfl (lv_at hl 1 rfl) ?_
      refine r_get (v := .ref (a 9)) hx hb hown hq hE hP 17 38 tFX12_17 (by decide) pw_1439 rfl dX12_goesOn_17 ?_
      refine lv_iload_n hx hb dX12_goesOn_20 rfl (lv_at hl 2 rfl) ?_
      refine r_ldi (f := (B 9)) (j := p9) hx hb hE hP 9 (ma_9 G a _) rfl (by omega) (by decide) dX12_goesOn_21 ?_
      refine lv_topi (fun x275 e276 => ?_)
      obtain rfl : x275 = 14 := e276.trans ((congrFun hw9 _).trans hkd)
      refine lv_tableIn (tgt := 131) (off := 109) hx hb dX12_goesOn_22 (by decide) (by decide) (by decide) (by decide) ?_
      refine lv_iload_n hx hb dX12_goesOn_131 rfl (lv_at hl 0 rfl) ?_
      refine lv_if_eq (tgt := 144) hx hb dX12_goesOn_132 (by decide) (fun c277 => ?_) (fun c277 => absurd c277 (by decide))
      refine lv_aload_n hx hb dX12_goesOn_144 rfl (lv_at hl 1 rfl) ?_
      refine r_get (v := .ref (a 16)) hx hb hown hq hE hP 24 59 tFX12_24 (by decide) pw_1446 rfl dX12_goesOn_145 ?_
      refine lv_iload_n hx hb dX12_goesOn_148 rfl (lv_at hl 3 rfl) ?_
      refine r_ldi (f := (B 16)) (j := n9) hx hb hE hP 16 (ma_16 G a _) rfl (by omega) (by decide) dX12_goesOn_149 ?_
      rcases hR.arg (uc := uc0) hp hst hkd (by omega) (fun _ => hfi) with ⟨ha1, q9, ha2, ha3⟩ | ⟨j1, ha1, ha2, ha3⟩
      · refine lv_topi (fun x278 e279 => ?_)
        obtain rfl : x278 = (-1) := e279.trans ((congrFun hw16 _).trans ha1)
        refine lv_istore (lv' := [(4, .int (-1)), (3, .int 0), (0, .ref h0), (1, .int (nI p9)), (2, .int (nI n9))]) hx hb dX12_goesOn_150 hl (by decide) rfl (fun ls hl => ?_)
        refine lv_iload hx hb dX12_goesOn_152 (lv_at hl 0 rfl) ?_
        refine lv_iconst (v := (-1)) hx hb dX12_goesOn_154 (by decide) ?_
        refine lv_icmp_ne (tgt := 166) hx hb dX12_goesOn_155 (by decide) (fun c280 => absurd c280 (by decide)) (fun c280 => ?_)
        refine lv_aload_n hx hb dX12_goesOn_158 rfl (lv_at hl 2 rfl) ?_
        refine lv_iload_n hx hb dX12_goesOn_159 rfl (lv_at hl 3 rfl) ?_
        have hP : va_P G.1 pCl (mW G h0 a (upd (upd (upd (upd (upd (upd (upd (upd (upd (upd (upd (upd (upd (upd (upd (upd (upd (upd (upd (upd (upd (upd (upd (upd (upd (upd (upd (upd (upd (upd (upd (upd F 49 (nI md)) 97 (nI ct)) 98 (nI fl)) 99 (nI rmm)) 101 tds) 102 (nI op)) 111 (nI tp)) 115 (nI wn)) 116 (-1)) 117 (nI fu)) 118 rs0) 119 uc0) 121 ma0) 122 mc0) 123 ca) 124 mo) 125 nw) 126 isn) 128 (nI on)) 130 (nI idn)) 49 (nI md)) 102 (nI op)) 111 (nI tp)) 115 (nI wn)) 116 (-1)) 117 (nI fu)) 118 rs0) 119 uc0) 123 ca) 124 mo) 125 nw) 126 isn) B) _ := hP
        have hD : va_D A (mW G h0 a (upd (upd (upd (upd (upd (upd (upd (upd (upd (upd (upd (upd (upd (upd (upd (upd (upd (upd (upd (upd (upd (upd (upd (upd (upd (upd (upd (upd (upd (upd (upd (upd F 49 (nI md)) 97 (nI ct)) 98 (nI fl)) 99 (nI rmm)) 101 tds) 102 (nI op)) 111 (nI tp)) 115 (nI wn)) 116 (-1)) 117 (nI fu)) 118 rs0) 119 uc0) 121 ma0) 122 mc0) 123 ca) 124 mo) 125 nw) 126 isn) 128 (nI on)) 130 (nI idn)) 49 (nI md)) 102 (nI op)) 111 (nI tp)) 115 (nI wn)) 116 (-1)) 117 (nI fu)) 118 rs0) 119 uc0) 123 ca) 124 mo) 125 nw) 126 isn) B) := hD
        refine pc_V0 (G := G) (As := [.int (nI p9)]) (rest := []) hx hb hml hown hq hE hX pX0_al hP hD hS hA hl.1 (R_invokes14 l G h0 a (upd (upd (upd (upd (upd (upd (upd (upd (upd (upd (upd (upd (upd (upd (upd (upd (upd (upd (upd (upd F 49 (nI md)) 97 (nI ct)) 98 (nI fl)) 99 (nI rmm)) 101 tds) 102 (nI op)) 111 (nI tp)) 115 (nI wn)) 116 (-1)) 117 (nI fu)) 118 rs0) 119 uc0) 121 ma0) 122 mc0) 123 ca) 124 mo) 125 nw) 126 isn) 128 (nI on)) 130 (nI idn)) B Xs gh nd T nm wr lz dc fd md pr bk M rmm (Phi gh ps op (rkN gh n9 true)) op tp wn fu rd on idn fl ct p9 q9 mt ps (yyU yy (op - 1) u) bf wf nw isn rs0 uc0 ca mo ha3 (by omega) hkd) (gV pw_2075 pw_2076 pw_2077 pw_1523 pw_2063) hV_X12_invokes 0 9 rfl rfl rfl rfl (Nat.le_of_ble_eq_true rfl) dX12_goesOn_160 ⟨Nat.le_of_ble_eq_true rfl, Nat.le_of_ble_eq_true rfl⟩ ⟨Nat.le_of_ble_eq_true rfl, Nat.le_of_ble_eq_true rfl⟩ (fun v283 u281 H locs hw282 hP hD hS => ?_)
        obtain ⟨op284, tp285, wn286, fu287, en288, nw289, is290, rs291, uc292, ca293, mo294, X295⟩ := u281
        obtain ⟨hw282, h296⟩ := hw282
        replace h296 : Nx Xs X295 gh nd T nm wr lz dc fd md pr bk M rmm fu (Phi gh ps op (rkN gh n9 true)) op284 tp285 wn286 fu287 rd on idn fl ct en288 nw289 is290 uc292 := h296
        obtain rfl : v283 = none := hw282
        have hP : va_P G.1 pCl (mW G h0 a (upd (upd (upd (upd (upd (upd (upd (upd (upd (upd (upd (upd (upd (upd (upd (upd (upd (upd (upd (upd F 49 (nI md)) 97 (nI ct)) 98 (nI fl)) 99 (nI rmm)) 101 tds) 102 (nI op284)) 111 (nI tp285)) 115 (nI wn286)) 116 en288) 117 (nI fu287)) 118 rs291) 119 uc292) 121 ma0) 122 mc0) 123 ca293) 124 mo294) 125 nw289) 126 is290) 128 (nI on)) 130 (nI idn)) X295) _ := hP
        have hD : va_D A (mW G h0 a (upd (upd (upd (upd (upd (upd (upd (upd (upd (upd (upd (upd (upd (upd (upd (upd (upd (upd (upd (upd F 49 (nI md)) 97 (nI ct)) 98 (nI fl)) 99 (nI rmm)) 101 tds) 102 (nI op284)) 111 (nI tp285)) 115 (nI wn286)) 116 en288) 117 (nI fu287)) 118 rs291) 119 uc292) 121 ma0) 122 mc0) 123 ca293) 124 mo294) 125 nw289) 126 is290) 128 (nI on)) 130 (nI idn)) X295) := hD
        refine W.widen (k := 0) (n := 0) (Nat.le_of_ble_eq_true rfl) (Nat.le_of_ble_eq_true rfl) ?_
        refine W.eq (g2 := F0 m 163 ls []) rfl ?_
        refine lv_goto (tgt := 619) hx hb dX12_goesOn_163 (by decide) ?_
        have hz297 : Nx Xs X295 gh nd T nm wr lz dc fd md pr bk M rmm fu (Phi gh ps op (rkN gh n9 true)) op284 tp285 wn286 fu287 rd on idn fl ct en288 nw289 is290 uc292 := h296
        have hP : va_P G.1 pCl (mW G h0 a (upd (upd (upd (upd (upd (upd (upd (upd (upd (upd (upd (upd (upd (upd (upd (upd (upd (upd (upd (upd F 49 (nI md)) 97 (nI ct)) 98 (nI fl)) 99 (nI rmm)) 101 tds) 102 (nI op284)) 111 (nI tp285)) 115 (nI wn286)) 116 en288) 117 (nI fu287)) 118 rs291) 119 uc292) 121 ma0) 122 mc0) 123 ca293) 124 mo294) 125 nw289) 126 is290) 128 (nI on)) 130 (nI idn)) X295) _ := hP
        have hD : va_D A (mW G h0 a (upd (upd (upd (upd (upd (upd (upd (upd (upd (upd (upd (upd (upd (upd (upd (upd (upd (upd (upd (upd F 49 (nI md)) 97 (nI ct)) 98 (nI fl)) 99 (nI rmm)) 101 tds) 102 (nI op284)) 111 (nI tp285)) 115 (nI wn286)) 116 en288) 117 (nI fu287)) 118 rs291) 119 uc292) 121 ma0) 122 mc0) 123 ca293) 124 mo294) 125 nw289) 126 is290) 128 (nI on)) 130 (nI idn)) X295) := hD
        exact W.vret hx hb hr (fun t9 ht9 hW9 => ⟨⟨_, (op284, tp285, wn286, fu287, en288, nw289, is290, rs291, uc292, on, idn, fl, ct, tds, ma0, mc0, ca293, mo294, X295), rfl, ⟨rfl, hz297⟩, by rw [ht9]; exact hP, hD⟩, hS.F ht9⟩) hS.2.2 dX12_goesOn_619
      · refine lv_topi (fun x298 e299 => ?_)
        obtain rfl : x298 = nI j1 := e299.trans ((congrFun hw16 _).trans ha1)
        refine lv_istore (lv' := [(4, .int (nI j1)), (3, .int 0), (0, .ref h0), (1, .int (nI p9)), (2, .int (nI n9))]) hx hb dX12_goesOn_150 hl (by decide) rfl (fun ls hl => ?_)
        refine lv_iload hx hb dX12_goesOn_152 (lv_at hl 0 rfl) ?_
        refine lv_iconst (v := (-1)) hx hb dX12_goesOn_154 (by decide) ?_
        refine lv_icmp_ne (tgt := 166) hx hb dX12_goesOn_155 (by decide) (fun c300 => ?_) (fun c300 => absurd c300 (nI_m1 (by omega)))
        refine lv_aload_n hx hb dX12_goesOn_166 rfl (lv_at hl 2 rfl) ?_
        refine lv_iload hx hb dX12_goesOn_167 (lv_at hl 0 rfl) ?_
        have hP : va_P G.1 pCl (mW G h0 a (upd (upd (upd (upd (upd (upd (upd (upd (upd (upd (upd (upd (upd (upd (upd (upd (upd (upd (upd (upd F 49 (nI md)) 97 (nI ct)) 98 (nI fl)) 99 (nI rmm)) 101 tds) 102 (nI op)) 111 (nI tp)) 115 (nI wn)) 116 (-1)) 117 (nI fu)) 118 rs0) 119 uc0) 121 ma0) 122 mc0) 123 ca) 124 mo) 125 nw) 126 isn) 128 (nI on)) 130 (nI idn)) B) _ := hP
        have hD : va_D A (mW G h0 a (upd (upd (upd (upd (upd (upd (upd (upd (upd (upd (upd (upd (upd (upd (upd (upd (upd (upd (upd (upd F 49 (nI md)) 97 (nI ct)) 98 (nI fl)) 99 (nI rmm)) 101 tds) 102 (nI op)) 111 (nI tp)) 115 (nI wn)) 116 (-1)) 117 (nI fu)) 118 rs0) 119 uc0) 121 ma0) 122 mc0) 123 ca) 124 mo) 125 nw) 126 isn) 128 (nI on)) 130 (nI idn)) B) := hD
        refine pc_V0 (G := G) (As := [.int (nI j1)]) (rest := []) hx hb hml hown hq hE hX pX0_al hP hD hS hA hl.1 (R_begin l G h0 a (upd (upd (upd (upd (upd (upd (upd (upd (upd (upd (upd (upd (upd (upd (upd (upd (upd (upd (upd (upd F 49 (nI md)) 97 (nI ct)) 98 (nI fl)) 99 (nI rmm)) 101 tds) 102 (nI op)) 111 (nI tp)) 115 (nI wn)) 116 (-1)) 117 (nI fu)) 118 rs0) 119 uc0) 121 ma0) 122 mc0) 123 ca) 124 mo) 125 nw) 126 isn) 128 (nI on)) 130 (nI idn)) B (nI j1)) (gV pw_2016 pw_2017 pw_2018 pw_1523 pw_2002) hV_X12_begin 0 9 rfl rfl rfl rfl (Nat.le_of_ble_eq_true rfl) dX12_goesOn_169 ⟨Nat.le_of_ble_eq_true rfl, Nat.le_of_ble_eq_true rfl⟩ ⟨Nat.le_of_ble_eq_true rfl, Nat.le_of_ble_eq_true rfl⟩ (fun v303 u301 H locs hw302 hP hD hS => ?_)
        obtain rfl : v303 = none := hw302
        have hP : va_P G.1 pCl (mW G h0 a (upd (upd (upd (upd (upd (upd (upd (upd (upd (upd (upd (upd (upd (upd (upd (upd (upd (upd (upd (upd F 49 (nI md)) 97 (nI ct)) 98 (nI fl)) 99 (nI rmm)) 101 tds) 102 (nI op)) 111 (nI tp)) 115 (nI wn)) 116 (-1)) 117 (nI fu)) 118 rs0) 119 uc0) 121 ma0) 122 mc0) 123 ca) 124 mo) 125 (nI j1)) 126 1) 128 (nI on)) 130 (nI idn)) B) _ := hP
        have hD : va_D A (mW G h0 a (upd (upd (upd (upd (upd (upd (upd (upd (upd (upd (upd (upd (upd (upd (upd (upd (upd (upd (upd (upd F 49 (nI md)) 97 (nI ct)) 98 (nI fl)) 99 (nI rmm)) 101 tds) 102 (nI op)) 111 (nI tp)) 115 (nI wn)) 116 (-1)) 117 (nI fu)) 118 rs0) 119 uc0) 121 ma0) 122 mc0) 123 ca) 124 mo) 125 (nI j1)) 126 1) 128 (nI on)) 130 (nI idn)) B) := hD
        refine W.widen (k := 0) (n := 0) (Nat.le_of_ble_eq_true rfl) (Nat.le_of_ble_eq_true rfl) ?_
        refine W.eq (g2 := F0 m 172 ls []) rfl ?_
        refine lv_goto (tgt := 619) hx hb dX12_goesOn_172 (by decide) ?_
        have hz304 : Nx Xs B gh nd T nm wr lz dc fd md pr bk M rmm fu (Phi gh ps op (rkN gh n9 true)) op tp wn fu rd on idn fl ct ((-1) : Int32) (nI j1) (1 : Int32) uc0 := ha3
        have hP : va_P G.1 pCl (mW G h0 a (upd (upd (upd (upd (upd (upd (upd (upd (upd (upd (upd (upd (upd (upd (upd (upd (upd (upd (upd (upd F 49 (nI md)) 97 (nI ct)) 98 (nI fl)) 99 (nI rmm)) 101 tds) 102 (nI op)) 111 (nI tp)) 115 (nI wn)) 116 ((-1) : Int32)) 117 (nI fu)) 118 rs0) 119 uc0) 121 ma0) 122 mc0) 123 ca) 124 mo) 125 (nI j1)) 126 (1 : Int32)) 128 (nI on)) 130 (nI idn)) B) _ := hP
        have hD : va_D A (mW G h0 a (upd (upd (upd (upd (upd (upd (upd (upd (upd (upd (upd (upd (upd (upd (upd (upd (upd (upd (upd (upd F 49 (nI md)) 97 (nI ct)) 98 (nI fl)) 99 (nI rmm)) 101 tds) 102 (nI op)) 111 (nI tp)) 115 (nI wn)) 116 ((-1) : Int32)) 117 (nI fu)) 118 rs0) 119 uc0) 121 ma0) 122 mc0) 123 ca) 124 mo) 125 (nI j1)) 126 (1 : Int32)) 128 (nI on)) 130 (nI idn)) B) := hD
        exact W.vret hx hb hr (fun t9 ht9 hW9 => ⟨⟨_, (op, tp, wn, fu, ((-1) : Int32), (nI j1), (1 : Int32), rs0, uc0, on, idn, fl, ct, tds, ma0, mc0, ca, mo, B), rfl, ⟨rfl, hz304⟩, by rw [ht9]; exact hP, hD⟩, hS.F ht9⟩) hS.2.2 dX12_goesOn_619
  · by_cases hfi : Xs 12 p9 = nI n9
    · refine lv_iload_n hx hb dX12_goesOn_0 rfl (lv_at hl 2 rfl) ?_
      refine lv_aload_n hx hb dX12_goesOn_1 rfl (lv_at hl 0 rfl) ?_
      refine r_get (v := .ref (a 12)) hx hb hown hq hE hP 20 47 tFX12_20 (by decide) pw_1442 rfl dX12_goesOn_2 ?_
      refine lv_iload_n hx hb dX12_goesOn_5 rfl (lv_at hl 1 rfl) ?_
      refine r_ldi (f := (B 12)) (j := p9) hx hb hE hP 12 (ma_12 G a _) rfl (by omega) (by decide) dX12_goesOn_6 ?_
      refine lv_topi (fun x305 e306 => ?_)
      obtain rfl : x305 = nI n9 := e306.trans ((congrFun hw12 _).trans hfi)
      refine lv_icmp_ne (tgt := 14) hx hb dX12_goesOn_7 (by decide) (fun c307 => absurd rfl c307) (fun c307 => ?_)
      refine lv_iconst (v := 1) hx hb dX12_goesOn_10 (by decide) ?_
      refine lv_goto (tgt := 15) hx hb dX12_goesOn_11 (by decide) ?_
      refine lv_istore_n (lv' := [(3, .int 1), (0, .ref h0), (1, .int (nI p9)), (2, .int (nI n9))]) hx hb dX12_goesOn_15 rfl hl (by decide) rfl (fun ls hl => ?_)
      refine lv_aload_n hx hb dX12_goesOn_16 rfl (lv_at hl 1 rfl) ?_
      refine r_get (v := .ref (a 9)) hx hb hown hq hE hP 17 38 tFX12_17 (by decide) pw_1439 rfl dX12_goesOn_17 ?_
      refine lv_iload_n hx hb dX12_goesOn_20 rfl (lv_at hl 2 rfl) ?_
      refine r_ldi (f := (B 9)) (j := p9) hx hb hE hP 9 (ma_9 G a _) rfl (by omega) (by decide) dX12_goesOn_21 ?_
      refine lv_topi (fun x308 e309 => ?_)
      obtain rfl : x308 = 15 := e309.trans ((congrFun hw9 _).trans hkd)
      refine lv_tableIn (tgt := 264) (off := 242) hx hb dX12_goesOn_22 (by decide) (by decide) (by decide) (by decide) ?_
      refine lv_iload_n hx hb dX12_goesOn_264 rfl (lv_at hl 0 rfl) ?_
      refine lv_if_eq (tgt := 281) hx hb dX12_goesOn_265 (by decide) (fun c310 => absurd c310 (by decide)) (fun c310 => ?_)
      refine lv_aload_n hx hb dX12_goesOn_268 rfl (lv_at hl 1 rfl) ?_
      refine lv_aload_n hx hb dX12_goesOn_269 rfl (lv_at hl 1 rfl) ?_
      refine r_get (v := .ref (a 13)) hx hb hown hq hE hP 21 50 tFX12_21 (by decide) pw_1443 rfl dX12_goesOn_270 ?_
      refine lv_iload_n hx hb dX12_goesOn_273 rfl (lv_at hl 2 rfl) ?_
      refine r_ldi (f := (B 13)) (j := p9) hx hb hE hP 13 (ma_13 G a _) rfl (by omega) (by decide) dX12_goesOn_274 ?_
      obtain ⟨j1, ha1, ha2, ha3⟩ := hR.k15a (uc := uc0) hp hst hkd (by omega) hfi
      refine lv_topi (fun x311 e312 => ?_)
      obtain rfl : x311 = nI j1 := e312.trans ((congrFun hw13 _).trans ha1)
      have hP : va_P G.1 pCl (mW G h0 a (upd (upd (upd (upd (upd (upd (upd (upd (upd (upd (upd (upd (upd (upd (upd (upd (upd (upd (upd (upd F 49 (nI md)) 97 (nI ct)) 98 (nI fl)) 99 (nI rmm)) 101 tds) 102 (nI op)) 111 (nI tp)) 115 (nI wn)) 116 (-1)) 117 (nI fu)) 118 rs0) 119 uc0) 121 ma0) 122 mc0) 123 ca) 124 mo) 125 nw) 126 isn) 128 (nI on)) 130 (nI idn)) B) _ := hP
      have hD : va_D A (mW G h0 a (upd (upd (upd (upd (upd (upd (upd (upd (upd (upd (upd (upd (upd (upd (upd (upd (upd (upd (upd (upd F 49 (nI md)) 97 (nI ct)) 98 (nI fl)) 99 (nI rmm)) 101 tds) 102 (nI op)) 111 (nI tp)) 115 (nI wn)) 116 (-1)) 117 (nI fu)) 118 rs0) 119 uc0) 121 ma0) 122 mc0) 123 ca) 124 mo) 125 nw) 126 isn) 128 (nI on)) 130 (nI idn)) B) := hD
      refine pc_V0 (G := G) (As := [.int (nI j1)]) (rest := []) hx hb hml hown hq hE hX pX0_al hP hD hS hA hl.1 (R_begin l G h0 a (upd (upd (upd (upd (upd (upd (upd (upd (upd (upd (upd (upd (upd (upd (upd (upd (upd (upd (upd (upd F 49 (nI md)) 97 (nI ct)) 98 (nI fl)) 99 (nI rmm)) 101 tds) 102 (nI op)) 111 (nI tp)) 115 (nI wn)) 116 (-1)) 117 (nI fu)) 118 rs0) 119 uc0) 121 ma0) 122 mc0) 123 ca) 124 mo) 125 nw) 126 isn) 128 (nI on)) 130 (nI idn)) B (nI j1)) (gV pw_2016 pw_2017 pw_2018 pw_1523 pw_2002) hV_X12_begin 0 9 rfl rfl rfl rfl (Nat.le_of_ble_eq_true rfl) dX12_goesOn_275 ⟨Nat.le_of_ble_eq_true rfl, Nat.le_of_ble_eq_true rfl⟩ ⟨Nat.le_of_ble_eq_true rfl, Nat.le_of_ble_eq_true rfl⟩ (fun v315 u313 H locs hw314 hP hD hS => ?_)
      obtain rfl : v315 = none := hw314
      have hP : va_P G.1 pCl (mW G h0 a (upd (upd (upd (upd (upd (upd (upd (upd (upd (upd (upd (upd (upd (upd (upd (upd (upd (upd (upd (upd F 49 (nI md)) 97 (nI ct)) 98 (nI fl)) 99 (nI rmm)) 101 tds) 102 (nI op)) 111 (nI tp)) 115 (nI wn)) 116 (-1)) 117 (nI fu)) 118 rs0) 119 uc0) 121 ma0) 122 mc0) 123 ca) 124 mo) 125 (nI j1)) 126 1) 128 (nI on)) 130 (nI idn)) B) _ := hP
      have hD : va_D A (mW G h0 a (upd (upd (upd (upd (upd (upd (upd (upd (upd (upd (upd (upd (upd (upd (upd (upd (upd (upd (upd (upd F 49 (nI md)) 97 (nI ct)) 98 (nI fl)) 99 (nI rmm)) 101 tds) 102 (nI op)) 111 (nI tp)) 115 (nI wn)) 116 (-1)) 117 (nI fu)) 118 rs0) 119 uc0) 121 ma0) 122 mc0) 123 ca) 124 mo) 125 (nI j1)) 126 1) 128 (nI on)) 130 (nI idn)) B) := hD
      refine W.widen (k := 0) (n := 0) (Nat.le_of_ble_eq_true rfl) (Nat.le_of_ble_eq_true rfl) ?_
      refine W.eq (g2 := F0 m 278 ls []) rfl ?_
      refine lv_goto (tgt := 619) hx hb dX12_goesOn_278 (by decide) ?_
      have hz316 : Nx Xs B gh nd T nm wr lz dc fd md pr bk M rmm fu (Phi gh ps op (rkN gh n9 true)) op tp wn fu rd on idn fl ct ((-1) : Int32) (nI j1) (1 : Int32) uc0 := ha3
      have hP : va_P G.1 pCl (mW G h0 a (upd (upd (upd (upd (upd (upd (upd (upd (upd (upd (upd (upd (upd (upd (upd (upd (upd (upd (upd (upd F 49 (nI md)) 97 (nI ct)) 98 (nI fl)) 99 (nI rmm)) 101 tds) 102 (nI op)) 111 (nI tp)) 115 (nI wn)) 116 ((-1) : Int32)) 117 (nI fu)) 118 rs0) 119 uc0) 121 ma0) 122 mc0) 123 ca) 124 mo) 125 (nI j1)) 126 (1 : Int32)) 128 (nI on)) 130 (nI idn)) B) _ := hP
      have hD : va_D A (mW G h0 a (upd (upd (upd (upd (upd (upd (upd (upd (upd (upd (upd (upd (upd (upd (upd (upd (upd (upd (upd (upd F 49 (nI md)) 97 (nI ct)) 98 (nI fl)) 99 (nI rmm)) 101 tds) 102 (nI op)) 111 (nI tp)) 115 (nI wn)) 116 ((-1) : Int32)) 117 (nI fu)) 118 rs0) 119 uc0) 121 ma0) 122 mc0) 123 ca) 124 mo) 125 (nI j1)) 126 (1 : Int32)) 128 (nI on)) 130 (nI idn)) B) := hD
      exact W.vret hx hb hr (fun t9 ht9 hW9 => ⟨⟨_, (op, tp, wn, fu, ((-1) : Int32), (nI j1), (1 : Int32), rs0, uc0, on, idn, fl, ct, tds, ma0, mc0, ca, mo, B), rfl, ⟨rfl, hz316⟩, by rw [ht9]; exact hP, hD⟩, hS.F ht9⟩) hS.2.2 dX12_goesOn_619
    · refine lv_iload_n hx hb dX12_goesOn_0 rfl (lv_at hl 2 rfl) ?_
      refine lv_aload_n hx hb dX12_goesOn_1 rfl (lv_at hl 0 rfl) ?_
      refine r_get (v := .ref (a 12)) hx hb hown hq hE hP 20 47 tFX12_20 (by decide) pw_1442 rfl dX12_goesOn_2 ?_
      refine lv_iload_n hx hb dX12_goesOn_5 rfl (lv_at hl 1 rfl) ?_
      refine r_ldi (f := (B 12)) (j := p9) hx hb hE hP 12 (ma_12 G a _) rfl (by omega) (by decide) dX12_goesOn_6 ?_
      refine lv_icmp_ne (tgt := 14) hx hb dX12_goesOn_7 (by decide) (fun c317 => ?_) (fun c317 => absurd ((congrFun hw12 _).symm.trans c317.symm) hfi)
      refine lv_iconst (v := 0) hx hb dX12_goesOn_14 (by decide) ?_
      refine lv_istore_n (lv' := [(3, .int 0), (0, .ref h0), (1, .int (nI p9)), (2, .int (nI n9))]) hx hb dX12_goesOn_15 rfl hl (by decide) rfl (fun ls hl => ?_)
      refine lv_aload_n hx hb dX12_goesOn_16 rfl (lv_at hl 1 rfl) ?_
      refine r_get (v := .ref (a 9)) hx hb hown hq hE hP 17 38 tFX12_17 (by decide) pw_1439 rfl dX12_goesOn_17 ?_
      refine lv_iload_n hx hb dX12_goesOn_20 rfl (lv_at hl 2 rfl) ?_
      refine r_ldi (f := (B 9)) (j := p9) hx hb hE hP 9 (ma_9 G a _) rfl (by omega) (by decide) dX12_goesOn_21 ?_
      refine lv_topi (fun x318 e319 => ?_)
      obtain rfl : x318 = 15 := e319.trans ((congrFun hw9 _).trans hkd)
      refine lv_tableIn (tgt := 264) (off := 242) hx hb dX12_goesOn_22 (by decide) (by decide) (by decide) (by decide) ?_
      refine lv_iload_n hx hb dX12_goesOn_264 rfl (lv_at hl 0 rfl) ?_
      refine lv_if_eq (tgt := 281) hx hb dX12_goesOn_265 (by decide) (fun c320 => ?_) (fun c320 => absurd c320 (by decide))
      refine lv_aload_n hx hb dX12_goesOn_281 rfl (lv_at hl 1 rfl) ?_
      refine lv_iload_n hx hb dX12_goesOn_282 rfl (lv_at hl 2 rfl) ?_
      have hP : va_P G.1 pCl (mW G h0 a (upd (upd (upd (upd (upd (upd (upd (upd (upd (upd (upd (upd (upd (upd (upd (upd (upd (upd (upd (upd F 49 (nI md)) 97 (nI ct)) 98 (nI fl)) 99 (nI rmm)) 101 tds) 102 (nI op)) 111 (nI tp)) 115 (nI wn)) 116 (-1)) 117 (nI fu)) 118 rs0) 119 uc0) 121 ma0) 122 mc0) 123 ca) 124 mo) 125 nw) 126 isn) 128 (nI on)) 130 (nI idn)) B) _ := hP
      have hD : va_D A (mW G h0 a (upd (upd (upd (upd (upd (upd (upd (upd (upd (upd (upd (upd (upd (upd (upd (upd (upd (upd (upd (upd F 49 (nI md)) 97 (nI ct)) 98 (nI fl)) 99 (nI rmm)) 101 tds) 102 (nI op)) 111 (nI tp)) 115 (nI wn)) 116 (-1)) 117 (nI fu)) 118 rs0) 119 uc0) 121 ma0) 122 mc0) 123 ca) 124 mo) 125 nw) 126 isn) 128 (nI on)) 130 (nI idn)) B) := hD
      refine pc_V0 (G := G) (As := [.int (nI p9)]) (rest := []) hx hb hml hown hq hE hX pX0_al hP hD hS hA hl.1 (R_isPlace l G h0 a (upd (upd (upd (upd (upd (upd (upd (upd (upd (upd (upd (upd (upd (upd (upd (upd (upd (upd (upd (upd F 49 (nI md)) 97 (nI ct)) 98 (nI fl)) 99 (nI rmm)) 101 tds) 102 (nI op)) 111 (nI tp)) 115 (nI wn)) 116 (-1)) 117 (nI fu)) 118 rs0) 119 uc0) 121 ma0) 122 mc0) 123 ca) 124 mo) 125 nw) 126 isn) 128 (nI on)) 130 (nI idn)) B p9 nd (by omega) (by omega) (hR.upP hp)) (gV pw_2096 pw_2097 pw_2098 pw_1523 pw_2086) hV_X12_isPlace 0 9 rfl rfl rfl rfl (Nat.le_of_ble_eq_true rfl) dX12_goesOn_283 ⟨Nat.le_of_ble_eq_true rfl, Nat.le_of_ble_eq_true rfl⟩ ⟨Nat.le_of_ble_eq_true rfl, Nat.le_of_ble_eq_true rfl⟩ (fun v323 u321 H locs hw322 hP hD hS => ?_)
      obtain ⟨r324, rfl⟩ : ∃ z, z = u321 := ⟨_, rfl⟩
      obtain ⟨hw322, h325, h326, h327⟩ := hw322
      replace h325 : r324 ≤ 1 := h325
      replace h326 : If (r324 = 1) (PlcP B p9) := h326
      replace h327 : If (r324 = 0) (¬ PlcP B p9) := h327
      obtain rfl : v323 = some (.int (nI r324)) := hw322
      have hP : va_P G.1 pCl (mW G h0 a (upd (upd (upd (upd (upd (upd (upd (upd (upd (upd (upd (upd (upd (upd (upd (upd (upd (upd (upd (upd F 49 (nI md)) 97 (nI ct)) 98 (nI fl)) 99 (nI rmm)) 101 tds) 102 (nI op)) 111 (nI tp)) 115 (nI wn)) 116 (-1)) 117 (nI fu)) 118 rs0) 119 uc0) 121 ma0) 122 mc0) 123 ca) 124 mo) 125 nw) 126 isn) 128 (nI on)) 130 (nI idn)) B) _ := hP
      have hD : va_D A (mW G h0 a (upd (upd (upd (upd (upd (upd (upd (upd (upd (upd (upd (upd (upd (upd (upd (upd (upd (upd (upd (upd F 49 (nI md)) 97 (nI ct)) 98 (nI fl)) 99 (nI rmm)) 101 tds) 102 (nI op)) 111 (nI tp)) 115 (nI wn)) 116 (-1)) 117 (nI fu)) 118 rs0) 119 uc0) 121 ma0) 122 mc0) 123 ca) 124 mo) 125 nw) 126 isn) 128 (nI on)) 130 (nI idn)) B) := hD
      refine W.widen (k := 0) (n := 0) (Nat.le_of_ble_eq_true rfl) (Nat.le_of_ble_eq_true rfl) ?_
      refine W.eq (g2 := F0 m 286 ls [.int (nI r324)]) rfl ?_
      refine lv_if_eq (tgt := 307) hx hb dX12_goesOn_286 (by decide) (fun c328 => ?_) (fun c328 => ?_)
      · have n329 : r324 = 0 := (nI_eq (a := r324) (b := 0) (by omega) (by omega)).mp c328
        refine lv_aload_n hx hb dX12_goesOn_307 rfl (lv_at hl 1 rfl) ?_
        refine lv_iload_n hx hb dX12_goesOn_308 rfl (lv_at hl 2 rfl) ?_
        have hP : va_P G.1 pCl (mW G h0 a (upd (upd (upd (upd (upd (upd (upd (upd (upd (upd (upd (upd (upd (upd (upd (upd (upd (upd (upd (upd (upd (upd (upd (upd (upd (upd (upd (upd (upd F 49 (nI md)) 97 (nI ct)) 98 (nI fl)) 99 (nI rmm)) 101 tds) 102 (nI op)) 111 (nI tp)) 115 (nI wn)) 116 (-1)) 117 (nI fu)) 118 rs0) 119 uc0) 121 ma0) 122 mc0) 123 ca) 124 mo) 125 nw) 126 isn) 128 (nI on)) 130 (nI idn)) 102 (nI op)) 111 (nI tp)) 115 (nI wn)) 116 (-1)) 117 (nI fu)) 118 rs0) 119 uc0) 125 nw) 126 isn) B) _ := hP
        have hD : va_D A (mW G h0 a (upd (upd (upd (upd (upd (upd (upd (upd (upd (upd (upd (upd (upd (upd (upd (upd (upd (upd (upd (upd (upd (upd (upd (upd (upd (upd (upd (upd (upd F 49 (nI md)) 97 (nI ct)) 98 (nI fl)) 99 (nI rmm)) 101 tds) 102 (nI op)) 111 (nI tp)) 115 (nI wn)) 116 (-1)) 117 (nI fu)) 118 rs0) 119 uc0) 121 ma0) 122 mc0) 123 ca) 124 mo) 125 nw) 126 isn) 128 (nI on)) 130 (nI idn)) 102 (nI op)) 111 (nI tp)) 115 (nI wn)) 116 (-1)) 117 (nI fu)) 118 rs0) 119 uc0) 125 nw) 126 isn) B) := hD
        refine pc_V0 (G := G) (As := [.int (nI p9)]) (rest := []) hx hb hml hown hq hE hX pX0_al hP hD hS hA hl.1 (R_element l G h0 a (upd (upd (upd (upd (upd (upd (upd (upd (upd (upd (upd (upd (upd (upd (upd (upd (upd (upd (upd (upd F 49 (nI md)) 97 (nI ct)) 98 (nI fl)) 99 (nI rmm)) 101 tds) 102 (nI op)) 111 (nI tp)) 115 (nI wn)) 116 (-1)) 117 (nI fu)) 118 rs0) 119 uc0) 121 ma0) 122 mc0) 123 ca) 124 mo) 125 nw) 126 isn) 128 (nI on)) 130 (nI idn)) B Xs gh nd T nm wr lz dc fd md pr bk M rmm op tp wn fu rd on idn fl ct n9 p9 u mt ps yy bf wf nw isn rs0 uc0 hR hp hst hfu hkd (h327 (by omega)) hfi) (gV pw_2102 pw_2103 pw_2104 pw_1523 pw_2088) hV_X12_element 0 9 rfl rfl rfl rfl (Nat.le_of_ble_eq_true rfl) dX12_goesOn_309 ⟨Nat.le_of_ble_eq_true rfl, Nat.le_of_ble_eq_true rfl⟩ ⟨Nat.le_of_ble_eq_true rfl, Nat.le_of_ble_eq_true rfl⟩ (fun v332 u330 H locs hw331 hP hD hS => ?_)
        obtain ⟨op333, tp334, wn335, fu336, en337, nw338, is339, rs340, uc341, X342⟩ := u330
        obtain ⟨hw331, h343⟩ := hw331
        replace h343 : Nx Xs X342 gh nd T nm wr lz dc fd md pr bk M rmm fu (Phi gh ps op (rkN gh n9 true)) op333 tp334 wn335 fu336 rd on idn fl ct en337 nw338 is339 uc341 := h343
        obtain rfl : v332 = none := hw331
        have hP : va_P G.1 pCl (mW G h0 a (upd (upd (upd (upd (upd (upd (upd (upd (upd (upd (upd (upd (upd (upd (upd (upd (upd (upd (upd (upd F 49 (nI md)) 97 (nI ct)) 98 (nI fl)) 99 (nI rmm)) 101 tds) 102 (nI op333)) 111 (nI tp334)) 115 (nI wn335)) 116 en337) 117 (nI fu336)) 118 rs340) 119 uc341) 121 ma0) 122 mc0) 123 ca) 124 mo) 125 nw338) 126 is339) 128 (nI on)) 130 (nI idn)) X342) _ := hP
        have hD : va_D A (mW G h0 a (upd (upd (upd (upd (upd (upd (upd (upd (upd (upd (upd (upd (upd (upd (upd (upd (upd (upd (upd (upd F 49 (nI md)) 97 (nI ct)) 98 (nI fl)) 99 (nI rmm)) 101 tds) 102 (nI op333)) 111 (nI tp334)) 115 (nI wn335)) 116 en337) 117 (nI fu336)) 118 rs340) 119 uc341) 121 ma0) 122 mc0) 123 ca) 124 mo) 125 nw338) 126 is339) 128 (nI on)) 130 (nI idn)) X342) := hD
        refine W.widen (k := 0) (n := 0) (Nat.le_of_ble_eq_true rfl) (Nat.le_of_ble_eq_true rfl) ?_
        refine W.eq (g2 := F0 m 312 ls []) rfl ?_
        refine lv_goto (tgt := 619) hx hb dX12_goesOn_312 (by decide) ?_
        have hz344 : Nx Xs X342 gh nd T nm wr lz dc fd md pr bk M rmm fu (Phi gh ps op (rkN gh n9 true)) op333 tp334 wn335 fu336 rd on idn fl ct en337 nw338 is339 uc341 := h343
        have hP : va_P G.1 pCl (mW G h0 a (upd (upd (upd (upd (upd (upd (upd (upd (upd (upd (upd (upd (upd (upd (upd (upd (upd (upd (upd (upd F 49 (nI md)) 97 (nI ct)) 98 (nI fl)) 99 (nI rmm)) 101 tds) 102 (nI op333)) 111 (nI tp334)) 115 (nI wn335)) 116 en337) 117 (nI fu336)) 118 rs340) 119 uc341) 121 ma0) 122 mc0) 123 ca) 124 mo) 125 nw338) 126 is339) 128 (nI on)) 130 (nI idn)) X342) _ := hP
        have hD : va_D A (mW G h0 a (upd (upd (upd (upd (upd (upd (upd (upd (upd (upd (upd (upd (upd (upd (upd (upd (upd (upd (upd (upd F 49 (nI md)) 97 (nI ct)) 98 (nI fl)) 99 (nI rmm)) 101 tds) 102 (nI op333)) 111 (nI tp334)) 115 (nI wn335)) 116 en337) 117 (nI fu336)) 118 rs340) 119 uc341) 121 ma0) 122 mc0) 123 ca) 124 mo) 125 nw338) 126 is339) 128 (nI on)) 130 (nI idn)) X342) := hD
        exact W.vret hx hb hr (fun t9 ht9 hW9 => ⟨⟨_, (op333, tp334, wn335, fu336, en337, nw338, is339, rs340, uc341, on, idn, fl, ct, tds, ma0, mc0, ca, mo, X342), rfl, ⟨rfl, hz344⟩, by rw [ht9]; exact hP, hD⟩, hS.F ht9⟩) hS.2.2 dX12_goesOn_619
      · have n345 : ¬ (r324 = 0) := fun h9 => c328 ((nI_eq (a := r324) (b := 0) (by omega) (by omega)).mpr h9)
        obtain ⟨q9, j1, hl1, hl2, hl3, hl4, hl5⟩ := hR.place (uc := uc0) hp hst hkd (Or.inr ⟨rfl, hfi⟩) (h326 (by omega))
        refine lv_aload_n hx hb dX12_goesOn_289 rfl (lv_at hl 1 rfl) ?_
        refine lv_aload_n hx hb dX12_goesOn_290 rfl (lv_at hl 1 rfl) ?_
        refine r_get (v := .ref (a 13)) hx hb hown hq hE hP 21 50 tFX12_21 (by decide) pw_1443 rfl dX12_goesOn_291 ?_
        refine lv_aload_n hx hb dX12_goesOn_294 rfl (lv_at hl 1 rfl) ?_
        refine r_get (v := .ref (a 52)) hx hb hown hq hE hP 88 168 tFX12_88 (by decide) pw_1483 rfl dX12_goesOn_295 ?_
        refine lv_iload_n hx hb dX12_goesOn_298 rfl (lv_at hl 2 rfl) ?_
        refine r_ldi (f := (B 52)) (j := p9) hx hb hE hP 52 (ma_52 G a _) rfl (by omega) (by decide) dX12_goesOn_299 ?_
        refine lv_topi (fun x346 e347 => ?_)
        obtain rfl : x346 = nI q9 := e347.trans hl1
        refine r_ldi (f := (B 13)) (j := q9) hx hb hE hP 13 (ma_13 G a _) rfl (by omega) (by decide) dX12_goesOn_300 ?_
        refine lv_topi (fun x348 e349 => ?_)
        obtain rfl : x348 = nI j1 := e349.trans ((congrFun hw13 _).trans hl3)
        have hP : va_P G.1 pCl (mW G h0 a (upd (upd (upd (upd (upd (upd (upd (upd (upd (upd (upd (upd (upd (upd (upd (upd (upd (upd (upd (upd F 49 (nI md)) 97 (nI ct)) 98 (nI fl)) 99 (nI rmm)) 101 tds) 102 (nI op)) 111 (nI tp)) 115 (nI wn)) 116 (-1)) 117 (nI fu)) 118 rs0) 119 uc0) 121 ma0) 122 mc0) 123 ca) 124 mo) 125 nw) 126 isn) 128 (nI on)) 130 (nI idn)) B) _ := hP
        have hD : va_D A (mW G h0 a (upd (upd (upd (upd (upd (upd (upd (upd (upd (upd (upd (upd (upd (upd (upd (upd (upd (upd (upd (upd F 49 (nI md)) 97 (nI ct)) 98 (nI fl)) 99 (nI rmm)) 101 tds) 102 (nI op)) 111 (nI tp)) 115 (nI wn)) 116 (-1)) 117 (nI fu)) 118 rs0) 119 uc0) 121 ma0) 122 mc0) 123 ca) 124 mo) 125 nw) 126 isn) 128 (nI on)) 130 (nI idn)) B) := hD
        refine pc_V0 (G := G) (As := [.int (nI j1)]) (rest := []) hx hb hml hown hq hE hX pX0_al hP hD hS hA hl.1 (R_begin l G h0 a (upd (upd (upd (upd (upd (upd (upd (upd (upd (upd (upd (upd (upd (upd (upd (upd (upd (upd (upd (upd F 49 (nI md)) 97 (nI ct)) 98 (nI fl)) 99 (nI rmm)) 101 tds) 102 (nI op)) 111 (nI tp)) 115 (nI wn)) 116 (-1)) 117 (nI fu)) 118 rs0) 119 uc0) 121 ma0) 122 mc0) 123 ca) 124 mo) 125 nw) 126 isn) 128 (nI on)) 130 (nI idn)) B (nI j1)) (gV pw_2016 pw_2017 pw_2018 pw_1523 pw_2002) hV_X12_begin 0 9 rfl rfl rfl rfl (Nat.le_of_ble_eq_true rfl) dX12_goesOn_301 ⟨Nat.le_of_ble_eq_true rfl, Nat.le_of_ble_eq_true rfl⟩ ⟨Nat.le_of_ble_eq_true rfl, Nat.le_of_ble_eq_true rfl⟩ (fun v352 u350 H locs hw351 hP hD hS => ?_)
        obtain rfl : v352 = none := hw351
        have hP : va_P G.1 pCl (mW G h0 a (upd (upd (upd (upd (upd (upd (upd (upd (upd (upd (upd (upd (upd (upd (upd (upd (upd (upd (upd (upd F 49 (nI md)) 97 (nI ct)) 98 (nI fl)) 99 (nI rmm)) 101 tds) 102 (nI op)) 111 (nI tp)) 115 (nI wn)) 116 (-1)) 117 (nI fu)) 118 rs0) 119 uc0) 121 ma0) 122 mc0) 123 ca) 124 mo) 125 (nI j1)) 126 1) 128 (nI on)) 130 (nI idn)) B) _ := hP
        have hD : va_D A (mW G h0 a (upd (upd (upd (upd (upd (upd (upd (upd (upd (upd (upd (upd (upd (upd (upd (upd (upd (upd (upd (upd F 49 (nI md)) 97 (nI ct)) 98 (nI fl)) 99 (nI rmm)) 101 tds) 102 (nI op)) 111 (nI tp)) 115 (nI wn)) 116 (-1)) 117 (nI fu)) 118 rs0) 119 uc0) 121 ma0) 122 mc0) 123 ca) 124 mo) 125 (nI j1)) 126 1) 128 (nI on)) 130 (nI idn)) B) := hD
        refine W.widen (k := 0) (n := 0) (Nat.le_of_ble_eq_true rfl) (Nat.le_of_ble_eq_true rfl) ?_
        refine W.eq (g2 := F0 m 304 ls []) rfl ?_
        refine lv_goto (tgt := 619) hx hb dX12_goesOn_304 (by decide) ?_
        have hz353 : Nx Xs B gh nd T nm wr lz dc fd md pr bk M rmm fu (Phi gh ps op (rkN gh n9 true)) op tp wn fu rd on idn fl ct ((-1) : Int32) (nI j1) (1 : Int32) uc0 := hl5
        have hP : va_P G.1 pCl (mW G h0 a (upd (upd (upd (upd (upd (upd (upd (upd (upd (upd (upd (upd (upd (upd (upd (upd (upd (upd (upd (upd F 49 (nI md)) 97 (nI ct)) 98 (nI fl)) 99 (nI rmm)) 101 tds) 102 (nI op)) 111 (nI tp)) 115 (nI wn)) 116 ((-1) : Int32)) 117 (nI fu)) 118 rs0) 119 uc0) 121 ma0) 122 mc0) 123 ca) 124 mo) 125 (nI j1)) 126 (1 : Int32)) 128 (nI on)) 130 (nI idn)) B) _ := hP
        have hD : va_D A (mW G h0 a (upd (upd (upd (upd (upd (upd (upd (upd (upd (upd (upd (upd (upd (upd (upd (upd (upd (upd (upd (upd F 49 (nI md)) 97 (nI ct)) 98 (nI fl)) 99 (nI rmm)) 101 tds) 102 (nI op)) 111 (nI tp)) 115 (nI wn)) 116 ((-1) : Int32)) 117 (nI fu)) 118 rs0) 119 uc0) 121 ma0) 122 mc0) 123 ca) 124 mo) 125 (nI j1)) 126 (1 : Int32)) 128 (nI on)) 130 (nI idn)) B) := hD
        exact W.vret hx hb hr (fun t9 ht9 hW9 => ⟨⟨_, (op, tp, wn, fu, ((-1) : Int32), (nI j1), (1 : Int32), rs0, uc0, on, idn, fl, ct, tds, ma0, mc0, ca, mo, B), rfl, ⟨rfl, hz353⟩, by rw [ht9]; exact hP, hD⟩, hS.F ht9⟩) hS.2.2 dX12_goesOn_619
  · have hfi := (hR.pl1 hp hst hkd (by omega) (by decide) rfl).1
    refine lv_iload_n hx hb dX12_goesOn_0 rfl (lv_at hl 2 rfl) ?_
    refine lv_aload_n hx hb dX12_goesOn_1 rfl (lv_at hl 0 rfl) ?_
    refine r_get (v := .ref (a 12)) hx hb hown hq hE hP 20 47 tFX12_20 (by decide) pw_1442 rfl dX12_goesOn_2 ?_
    refine lv_iload_n hx hb dX12_goesOn_5 rfl (lv_at hl 1 rfl) ?_
    refine r_ldi (f := (B 12)) (j := p9) hx hb hE hP 12 (ma_12 G a _) rfl (by omega) (by decide) dX12_goesOn_6 ?_
    refine lv_topi (fun x354 e355 => ?_)
    obtain rfl : x354 = nI n9 := e355.trans ((congrFun hw12 _).trans hfi)
    refine lv_icmp_ne (tgt := 14) hx hb dX12_goesOn_7 (by decide) (fun c356 => absurd rfl c356) (fun c356 => ?_)
    refine lv_iconst (v := 1) hx hb dX12_goesOn_10 (by decide) ?_
    refine lv_goto (tgt := 15) hx hb dX12_goesOn_11 (by decide) ?_
    refine lv_istore_n (lv' := [(3, .int 1), (0, .ref h0), (1, .int (nI p9)), (2, .int (nI n9))]) hx hb dX12_goesOn_15 rfl hl (by decide) rfl (fun ls hl => ?_)
    refine lv_aload_n hx hb dX12_goesOn_16 rfl (lv_at hl 1 rfl) ?_
    refine r_get (v := .ref (a 9)) hx hb hown hq hE hP 17 38 tFX12_17 (by decide) pw_1439 rfl dX12_goesOn_17 ?_
    refine lv_iload_n hx hb dX12_goesOn_20 rfl (lv_at hl 2 rfl) ?_
    refine r_ldi (f := (B 9)) (j := p9) hx hb hE hP 9 (ma_9 G a _) rfl (by omega) (by decide) dX12_goesOn_21 ?_
    refine lv_topi (fun x357 e358 => ?_)
    obtain rfl : x357 = 16 := e358.trans ((congrFun hw9 _).trans hkd)
    refine lv_tableIn (tgt := 175) (off := 153) hx hb dX12_goesOn_22 (by decide) (by decide) (by decide) (by decide) ?_
    refine lv_aload_n hx hb dX12_goesOn_175 rfl (lv_at hl 1 rfl) ?_
    refine lv_iload_n hx hb dX12_goesOn_176 rfl (lv_at hl 2 rfl) ?_
    have hP : va_P G.1 pCl (mW G h0 a (upd (upd (upd (upd (upd (upd (upd (upd (upd (upd (upd (upd (upd (upd (upd (upd (upd (upd (upd (upd F 49 (nI md)) 97 (nI ct)) 98 (nI fl)) 99 (nI rmm)) 101 tds) 102 (nI op)) 111 (nI tp)) 115 (nI wn)) 116 (-1)) 117 (nI fu)) 118 rs0) 119 uc0) 121 ma0) 122 mc0) 123 ca) 124 mo) 125 nw) 126 isn) 128 (nI on)) 130 (nI idn)) B) _ := hP
    have hD : va_D A (mW G h0 a (upd (upd (upd (upd (upd (upd (upd (upd (upd (upd (upd (upd (upd (upd (upd (upd (upd (upd (upd (upd F 49 (nI md)) 97 (nI ct)) 98 (nI fl)) 99 (nI rmm)) 101 tds) 102 (nI op)) 111 (nI tp)) 115 (nI wn)) 116 (-1)) 117 (nI fu)) 118 rs0) 119 uc0) 121 ma0) 122 mc0) 123 ca) 124 mo) 125 nw) 126 isn) 128 (nI on)) 130 (nI idn)) B) := hD
    refine pc_V0 (G := G) (As := [.int (nI p9)]) (rest := []) hx hb hml hown hq hE hX pX0_al hP hD hS hA hl.1 (R_comesToEnd l G h0 a (upd (upd (upd (upd (upd (upd (upd (upd (upd (upd (upd (upd (upd (upd (upd (upd (upd (upd (upd (upd F 49 (nI md)) 97 (nI ct)) 98 (nI fl)) 99 (nI rmm)) 101 tds) 102 (nI op)) 111 (nI tp)) 115 (nI wn)) 116 (-1)) 117 (nI fu)) 118 rs0) 119 uc0) 121 ma0) 122 mc0) 123 ca) 124 mo) 125 nw) 126 isn) 128 (nI on)) 130 (nI idn)) B (nI p9)) (gV pw_2010 pw_2011 pw_2012 pw_1523 pw_2005) hV_X12_comesToEnd 0 9 rfl rfl rfl rfl (Nat.le_of_ble_eq_true rfl) dX12_goesOn_177 ⟨Nat.le_of_ble_eq_true rfl, Nat.le_of_ble_eq_true rfl⟩ ⟨Nat.le_of_ble_eq_true rfl, Nat.le_of_ble_eq_true rfl⟩ (fun v361 u359 H locs hw360 hP hD hS => ?_)
    obtain rfl : v361 = none := hw360
    have hP : va_P G.1 pCl (mW G h0 a (upd (upd (upd (upd (upd (upd (upd (upd (upd (upd (upd (upd (upd (upd (upd (upd (upd (upd (upd (upd F 49 (nI md)) 97 (nI ct)) 98 (nI fl)) 99 (nI rmm)) 101 tds) 102 (nI op)) 111 (nI tp)) 115 (nI wn)) 116 (-1)) 117 (nI fu)) 118 rs0) 119 uc0) 121 ma0) 122 mc0) 123 ca) 124 mo) 125 (nI p9)) 126 0) 128 (nI on)) 130 (nI idn)) B) _ := hP
    have hD : va_D A (mW G h0 a (upd (upd (upd (upd (upd (upd (upd (upd (upd (upd (upd (upd (upd (upd (upd (upd (upd (upd (upd (upd F 49 (nI md)) 97 (nI ct)) 98 (nI fl)) 99 (nI rmm)) 101 tds) 102 (nI op)) 111 (nI tp)) 115 (nI wn)) 116 (-1)) 117 (nI fu)) 118 rs0) 119 uc0) 121 ma0) 122 mc0) 123 ca) 124 mo) 125 (nI p9)) 126 0) 128 (nI on)) 130 (nI idn)) B) := hD
    refine W.widen (k := 0) (n := 0) (Nat.le_of_ble_eq_true rfl) (Nat.le_of_ble_eq_true rfl) ?_
    refine W.eq (g2 := F0 m 180 ls []) rfl ?_
    refine lv_goto (tgt := 619) hx hb dX12_goesOn_180 (by decide) ?_
    have hz362 : Nx Xs B gh nd T nm wr lz dc fd md pr bk M rmm fu (Phi gh ps op (rkN gh n9 true)) op tp wn fu rd on idn fl ct ((-1) : Int32) (nI p9) (0 : Int32) uc0 := (hR.k16 hp hst hkd)
    have hP : va_P G.1 pCl (mW G h0 a (upd (upd (upd (upd (upd (upd (upd (upd (upd (upd (upd (upd (upd (upd (upd (upd (upd (upd (upd (upd F 49 (nI md)) 97 (nI ct)) 98 (nI fl)) 99 (nI rmm)) 101 tds) 102 (nI op)) 111 (nI tp)) 115 (nI wn)) 116 ((-1) : Int32)) 117 (nI fu)) 118 rs0) 119 uc0) 121 ma0) 122 mc0) 123 ca) 124 mo) 125 (nI p9)) 126 (0 : Int32)) 128 (nI on)) 130 (nI idn)) B) _ := hP
    have hD : va_D A (mW G h0 a (upd (upd (upd (upd (upd (upd (upd (upd (upd (upd (upd (upd (upd (upd (upd (upd (upd (upd (upd (upd F 49 (nI md)) 97 (nI ct)) 98 (nI fl)) 99 (nI rmm)) 101 tds) 102 (nI op)) 111 (nI tp)) 115 (nI wn)) 116 ((-1) : Int32)) 117 (nI fu)) 118 rs0) 119 uc0) 121 ma0) 122 mc0) 123 ca) 124 mo) 125 (nI p9)) 126 (0 : Int32)) 128 (nI on)) 130 (nI idn)) B) := hD
    exact W.vret hx hb hr (fun t9 ht9 hW9 => ⟨⟨_, (op, tp, wn, fu, ((-1) : Int32), (nI p9), (0 : Int32), rs0, uc0, on, idn, fl, ct, tds, ma0, mc0, ca, mo, B), rfl, ⟨rfl, hz362⟩, by rw [ht9]; exact hP, hD⟩, hS.F ht9⟩) hS.2.2 dX12_goesOn_619
  · have hfi := (hR.pl1 hp hst hkd (by omega) (by decide) rfl).1
    refine lv_iload_n hx hb dX12_goesOn_0 rfl (lv_at hl 2 rfl) ?_
    refine lv_aload_n hx hb dX12_goesOn_1 rfl (lv_at hl 0 rfl) ?_
    refine r_get (v := .ref (a 12)) hx hb hown hq hE hP 20 47 tFX12_20 (by decide) pw_1442 rfl dX12_goesOn_2 ?_
    refine lv_iload_n hx hb dX12_goesOn_5 rfl (lv_at hl 1 rfl) ?_
    refine r_ldi (f := (B 12)) (j := p9) hx hb hE hP 12 (ma_12 G a _) rfl (by omega) (by decide) dX12_goesOn_6 ?_
    refine lv_topi (fun x363 e364 => ?_)
    obtain rfl : x363 = nI n9 := e364.trans ((congrFun hw12 _).trans hfi)
    refine lv_icmp_ne (tgt := 14) hx hb dX12_goesOn_7 (by decide) (fun c365 => absurd rfl c365) (fun c365 => ?_)
    refine lv_iconst (v := 1) hx hb dX12_goesOn_10 (by decide) ?_
    refine lv_goto (tgt := 15) hx hb dX12_goesOn_11 (by decide) ?_
    refine lv_istore_n (lv' := [(3, .int 1), (0, .ref h0), (1, .int (nI p9)), (2, .int (nI n9))]) hx hb dX12_goesOn_15 rfl hl (by decide) rfl (fun ls hl => ?_)
    refine lv_aload_n hx hb dX12_goesOn_16 rfl (lv_at hl 1 rfl) ?_
    refine r_get (v := .ref (a 9)) hx hb hown hq hE hP 17 38 tFX12_17 (by decide) pw_1439 rfl dX12_goesOn_17 ?_
    refine lv_iload_n hx hb dX12_goesOn_20 rfl (lv_at hl 2 rfl) ?_
    refine r_ldi (f := (B 9)) (j := p9) hx hb hE hP 9 (ma_9 G a _) rfl (by omega) (by decide) dX12_goesOn_21 ?_
    refine lv_topi (fun x366 e367 => ?_)
    obtain rfl : x366 = 17 := e367.trans ((congrFun hw9 _).trans hkd)
    refine lv_tableIn (tgt := 315) (off := 293) hx hb dX12_goesOn_22 (by decide) (by decide) (by decide) (by decide) ?_
    refine lv_aload_n hx hb dX12_goesOn_315 rfl (lv_at hl 1 rfl) ?_
    obtain ⟨ht1, t9, tk9, hm3, hm4, hm5, hm6⟩ := hR.k17 hp hst hkd
    have hP : va_P G.1 pCl (mW G h0 a (upd (upd (upd (upd (upd (upd (upd (upd (upd (upd (upd (upd (upd (upd (upd (upd (upd (upd (upd (upd (upd F 49 (nI md)) 97 (nI ct)) 98 (nI fl)) 99 (nI rmm)) 101 tds) 102 (nI op)) 111 (nI tp)) 115 (nI wn)) 116 (-1)) 117 (nI fu)) 118 rs0) 119 uc0) 121 ma0) 122 mc0) 123 ca) 124 mo) 125 nw) 126 isn) 128 (nI on)) 130 (nI idn)) 111 (nI tp)) (updA B 68 (B 68))) _ := hP
    have hD : va_D A (mW G h0 a (upd (upd (upd (upd (upd (upd (upd (upd (upd (upd (upd (upd (upd (upd (upd (upd (upd (upd (upd (upd (upd F 49 (nI md)) 97 (nI ct)) 98 (nI fl)) 99 (nI rmm)) 101 tds) 102 (nI op)) 111 (nI tp)) 115 (nI wn)) 116 (-1)) 117 (nI fu)) 118 rs0) 119 uc0) 121 ma0) 122 mc0) 123 ca) 124 mo) 125 nw) 126 isn) 128 (nI on)) 130 (nI idn)) 111 (nI tp)) (updA B 68 (B 68))) := hD
    refine pc_V0 (G := G) (As := []) (rest := []) hx hb hml hown hq hE hX pX0_al hP hD hS hA hl.1 (R_pop l G h0 a (upd (upd (upd (upd (upd (upd (upd (upd (upd (upd (upd (upd (upd (upd (upd (upd (upd (upd (upd (upd F 49 (nI md)) 97 (nI ct)) 98 (nI fl)) 99 (nI rmm)) 101 tds) 102 (nI op)) 111 (nI tp)) 115 (nI wn)) 116 (-1)) 117 (nI fu)) 118 rs0) 119 uc0) 121 ma0) 122 mc0) 123 ca) 124 mo) 125 nw) 126 isn) 128 (nI on)) 130 (nI idn)) B tp (B 68) (by omega)) (gV pw_2082 pw_2083 pw_2084 pw_1523 pw_1965) hV_X12_pop 0 9 rfl rfl rfl rfl (Nat.le_of_ble_eq_true rfl) dX12_goesOn_316 ⟨Nat.le_of_ble_eq_true rfl, Nat.le_of_ble_eq_true rfl⟩ ⟨Nat.le_of_ble_eq_true rfl, Nat.le_of_ble_eq_true rfl⟩ (fun v370 u368 H locs hw369 hP hD hS => ?_)
    obtain rfl : v370 = some (.int ((B 68) (tp - 1))) := hw369
    have hP : va_P G.1 pCl (mW G h0 a (upd (upd (upd (upd (upd (upd (upd (upd (upd (upd (upd (upd (upd (upd (upd (upd (upd (upd (upd (upd F 49 (nI md)) 97 (nI ct)) 98 (nI fl)) 99 (nI rmm)) 101 tds) 102 (nI op)) 111 (nI (tp - 1))) 115 (nI wn)) 116 (-1)) 117 (nI fu)) 118 rs0) 119 uc0) 121 ma0) 122 mc0) 123 ca) 124 mo) 125 nw) 126 isn) 128 (nI on)) 130 (nI idn)) B) _ := hP
    have hD : va_D A (mW G h0 a (upd (upd (upd (upd (upd (upd (upd (upd (upd (upd (upd (upd (upd (upd (upd (upd (upd (upd (upd (upd F 49 (nI md)) 97 (nI ct)) 98 (nI fl)) 99 (nI rmm)) 101 tds) 102 (nI op)) 111 (nI (tp - 1))) 115 (nI wn)) 116 (-1)) 117 (nI fu)) 118 rs0) 119 uc0) 121 ma0) 122 mc0) 123 ca) 124 mo) 125 nw) 126 isn) 128 (nI on)) 130 (nI idn)) B) := hD
    refine W.widen (k := 0) (n := 0) (Nat.le_of_ble_eq_true rfl) (Nat.le_of_ble_eq_true rfl) ?_
    refine W.eq (g2 := F0 m 319 ls [.int ((B 68) (tp - 1))]) rfl ?_
    refine lv_istore (lv' := [(4, .int ((B 68) (tp - 1))), (3, .int 1), (0, .ref h0), (1, .int (nI p9)), (2, .int (nI n9))]) hx hb dX12_goesOn_319 hl (by decide) rfl (fun ls hl => ?_)
    refine lv_aload_n hx hb dX12_goesOn_321 rfl (lv_at hl 2 rfl) ?_
    refine r_get (v := .ref (a 2)) hx hb hown hq hE hP 5 16 tFX12_5 (by decide) pw_1432 rfl dX12_goesOn_322 ?_
    refine lv_aload_n hx hb dX12_goesOn_325 rfl (lv_at hl 2 rfl) ?_
    refine r_get (v := .ref (a 11)) hx hb hown hq hE hP 19 44 tFX12_19 (by decide) pw_1441 rfl dX12_goesOn_326 ?_
    refine lv_iload_n hx hb dX12_goesOn_329 rfl (lv_at hl 3 rfl) ?_
    refine r_ldi (f := (B 11)) (j := p9) hx hb hE hP 11 (ma_11 G a _) rfl (by omega) (by decide) dX12_goesOn_330 ?_
    refine lv_topi (fun x371 e372 => ?_)
    obtain rfl : x371 = nI tk9 := e372.trans ((congrFun hw11 _).trans hm5)
    refine r_ldi (f := (B 2)) (j := tk9) hx hb hE hP 2 (ma_2 G a _) rfl (by omega) (by decide) dX12_goesOn_331 ?_
    refine lv_istore (lv' := [(5, .int ((B 2) tk9)), (4, .int ((B 68) (tp - 1))), (3, .int 1), (0, .ref h0), (1, .int (nI p9)), (2, .int (nI n9))]) hx hb dX12_goesOn_332 hl (by decide) rfl (fun ls hl => ?_)
    refine lv_aload_n hx hb dX12_goesOn_334 rfl (lv_at hl 3 rfl) ?_
    refine lv_iload_n hx hb dX12_goesOn_335 rfl (lv_at hl 4 rfl) ?_
    refine lv_iload hx hb dX12_goesOn_336 (lv_at hl 0 rfl) ?_
    refine lv_bipush (v := 45) hx hb dX12_goesOn_338 (by decide) ?_
    refine lv_icmp_ne (tgt := 349) hx hb dX12_goesOn_340 (by decide) (fun c373 => ?_) (fun c373 => ?_)
    · refine lv_iload hx hb dX12_goesOn_349 (lv_at hl 0 rfl) ?_
      refine lv_bipush (v := 126) hx hb dX12_goesOn_351 (by decide) ?_
      refine lv_icmp_ne (tgt := 363) hx hb dX12_goesOn_353 (by decide) (fun c374 => ?_) (fun c374 => ?_)
      · refine lv_iconst (v := 1) hx hb dX12_goesOn_363 (by decide) ?_
        refine lv_iload hx hb dX12_goesOn_364 (lv_at hl 1 rfl) ?_
        refine lv_isub hx hb dX12_goesOn_366 ?_
        refine lv_topi (fun x375 e376 => ?_)
        have hP : va_P G.1 pCl (mW G h0 a (upd (upd (upd (upd (upd (upd (upd (upd (upd (upd (upd (upd (upd (upd (upd (upd (upd (upd (upd (upd (upd F 49 (nI md)) 97 (nI ct)) 98 (nI fl)) 99 (nI rmm)) 101 tds) 102 (nI op)) 111 (nI (tp - 1))) 115 (nI wn)) 116 (-1)) 117 (nI fu)) 118 rs0) 119 uc0) 121 ma0) 122 mc0) 123 ca) 124 mo) 125 nw) 126 isn) 128 (nI on)) 130 (nI idn)) 111 (nI (tp - 1))) (updA (updA B 68 (B 68)) 69 (B 69))) _ := hP
        have hD : va_D A (mW G h0 a (upd (upd (upd (upd (upd (upd (upd (upd (upd (upd (upd (upd (upd (upd (upd (upd (upd (upd (upd (upd (upd F 49 (nI md)) 97 (nI ct)) 98 (nI fl)) 99 (nI rmm)) 101 tds) 102 (nI op)) 111 (nI (tp - 1))) 115 (nI wn)) 116 (-1)) 117 (nI fu)) 118 rs0) 119 uc0) 121 ma0) 122 mc0) 123 ca) 124 mo) 125 nw) 126 isn) 128 (nI on)) 130 (nI idn)) 111 (nI (tp - 1))) (updA (updA B 68 (B 68)) 69 (B 69))) := hD
        refine pc_V0 (G := G) (As := [.int (nI p9), .int x375]) (rest := []) hx hb hml hown hq hE hX pX0_al hP hD hS hA hl.1 (R_gives l G h0 a (upd (upd (upd (upd (upd (upd (upd (upd (upd (upd (upd (upd (upd (upd (upd (upd (upd (upd (upd (upd F 49 (nI md)) 97 (nI ct)) 98 (nI fl)) 99 (nI rmm)) 101 tds) 102 (nI op)) 111 (nI (tp - 1))) 115 (nI wn)) 116 (-1)) 117 (nI fu)) 118 rs0) 119 uc0) 121 ma0) 122 mc0) 123 ca) 124 mo) 125 nw) 126 isn) 128 (nI on)) 130 (nI idn)) B p9 t9 (tp - 1) x375 (B 68) (B 69) (by omega) hm3 (by omega) (by omega)) (gV pw_2069 pw_2070 pw_2071 pw_1523 pw_2006) hV_X12_gives 0 9 rfl rfl rfl rfl (Nat.le_of_ble_eq_true rfl) dX12_goesOn_367 ⟨Nat.le_of_ble_eq_true rfl, Nat.le_of_ble_eq_true rfl⟩ ⟨Nat.le_of_ble_eq_true rfl, Nat.le_of_ble_eq_true rfl⟩ (fun v379 u377 H locs hw378 hP hD hS => ?_)
        obtain ⟨b380, rf381⟩ := u377
        obtain ⟨hw378, h382, h383⟩ := hw378
        replace h382 : rf381 = upd (B 69) (tp - 1) (nI b380) := h382
        replace h383 : b380 ≤ 1 ∧ 3 * b380 ≤ t9 ∧ t9 ≤ 2 + 9000 * b380 := h383
        obtain rfl : v379 = none := hw378
        have hP : va_P G.1 pCl (mW G h0 a (upd (upd (upd (upd (upd (upd (upd (upd (upd (upd (upd (upd (upd (upd (upd (upd (upd (upd (upd (upd F 49 (nI md)) 97 (nI ct)) 98 (nI fl)) 99 (nI rmm)) 101 tds) 102 (nI op)) 111 (nI ((tp - 1) + 1))) 115 (nI wn)) 116 (-1)) 117 (nI fu)) 118 rs0) 119 uc0) 121 ma0) 122 mc0) 123 ca) 124 mo) 125 (nI p9)) 126 0) 128 (nI on)) 130 (nI idn)) (updA (updA B 68 (upd (B 68) (tp - 1) x375)) 69 rf381)) _ := hP
        have hD : va_D A (mW G h0 a (upd (upd (upd (upd (upd (upd (upd (upd (upd (upd (upd (upd (upd (upd (upd (upd (upd (upd (upd (upd F 49 (nI md)) 97 (nI ct)) 98 (nI fl)) 99 (nI rmm)) 101 tds) 102 (nI op)) 111 (nI ((tp - 1) + 1))) 115 (nI wn)) 116 (-1)) 117 (nI fu)) 118 rs0) 119 uc0) 121 ma0) 122 mc0) 123 ca) 124 mo) 125 (nI p9)) 126 0) 128 (nI on)) 130 (nI idn)) (updA (updA B 68 (upd (B 68) (tp - 1) x375)) 69 rf381)) := hD
        refine W.widen (k := 0) (n := 0) (Nat.le_of_ble_eq_true rfl) (Nat.le_of_ble_eq_true rfl) ?_
        refine W.eq (g2 := F0 m 370 ls []) rfl ?_
        obtain rfl : rf381 = _ := h382
        have hP : va_P G.1 pCl (mW G h0 a (upd (upd (upd (upd (upd (upd (upd (upd (upd (upd (upd (upd (upd (upd (upd (upd (upd (upd (upd (upd F 49 (nI md)) 97 (nI ct)) 98 (nI fl)) 99 (nI rmm)) 101 tds) 102 (nI op)) 111 (nI ((tp - 1) + 1))) 115 (nI wn)) 116 (-1)) 117 (nI fu)) 118 rs0) 119 uc0) 121 ma0) 122 mc0) 123 ca) 124 mo) 125 (nI p9)) 126 0) 128 (nI on)) 130 (nI idn)) (updA (updA B 68 (upd (B 68) (tp - 1) x375)) 69 (upd (B 69) (tp - 1) (nI b380)))) _ := hP
        have hD : va_D A (mW G h0 a (upd (upd (upd (upd (upd (upd (upd (upd (upd (upd (upd (upd (upd (upd (upd (upd (upd (upd (upd (upd F 49 (nI md)) 97 (nI ct)) 98 (nI fl)) 99 (nI rmm)) 101 tds) 102 (nI op)) 111 (nI ((tp - 1) + 1))) 115 (nI wn)) 116 (-1)) 117 (nI fu)) 118 rs0) 119 uc0) 121 ma0) 122 mc0) 123 ca) 124 mo) 125 (nI p9)) 126 0) 128 (nI on)) 130 (nI idn)) (updA (updA B 68 (upd (B 68) (tp - 1) x375)) 69 (upd (B 69) (tp - 1) (nI b380)))) := hD
        refine lv_goto (tgt := 619) hx hb dX12_goesOn_370 (by decide) ?_
        have hz384 : Nx Xs (updA (updA B 68 (upd (B 68) (tp - 1) x375)) 69 (upd (B 69) (tp - 1) (nI b380))) gh nd T nm wr lz dc fd md pr bk M rmm fu (Phi gh ps op (rkN gh n9 true)) op ((tp - 1) + 1) wn fu rd on idn fl ct ((-1) : Int32) (nI p9) (0 : Int32) uc0 := (hR.givesUp hp hst hkd (by omega) (fun h => absurd h (by omega)) hm3 (by unfold TyC; omega) (by omega) (VTd.num (by omega)) h383 (by omega))
        have hP : va_P G.1 pCl (mW G h0 a (upd (upd (upd (upd (upd (upd (upd (upd (upd (upd (upd (upd (upd (upd (upd (upd (upd (upd (upd (upd F 49 (nI md)) 97 (nI ct)) 98 (nI fl)) 99 (nI rmm)) 101 tds) 102 (nI op)) 111 (nI ((tp - 1) + 1))) 115 (nI wn)) 116 ((-1) : Int32)) 117 (nI fu)) 118 rs0) 119 uc0) 121 ma0) 122 mc0) 123 ca) 124 mo) 125 (nI p9)) 126 (0 : Int32)) 128 (nI on)) 130 (nI idn)) (updA (updA B 68 (upd (B 68) (tp - 1) x375)) 69 (upd (B 69) (tp - 1) (nI b380)))) _ := hP
        have hD : va_D A (mW G h0 a (upd (upd (upd (upd (upd (upd (upd (upd (upd (upd (upd (upd (upd (upd (upd (upd (upd (upd (upd (upd F 49 (nI md)) 97 (nI ct)) 98 (nI fl)) 99 (nI rmm)) 101 tds) 102 (nI op)) 111 (nI ((tp - 1) + 1))) 115 (nI wn)) 116 ((-1) : Int32)) 117 (nI fu)) 118 rs0) 119 uc0) 121 ma0) 122 mc0) 123 ca) 124 mo) 125 (nI p9)) 126 (0 : Int32)) 128 (nI on)) 130 (nI idn)) (updA (updA B 68 (upd (B 68) (tp - 1) x375)) 69 (upd (B 69) (tp - 1) (nI b380)))) := hD
        exact W.vret hx hb hr (fun t9 ht9 hW9 => ⟨⟨_, (op, ((tp - 1) + 1), wn, fu, ((-1) : Int32), (nI p9), (0 : Int32), rs0, uc0, on, idn, fl, ct, tds, ma0, mc0, ca, mo, (updA (updA B 68 (upd (B 68) (tp - 1) x375)) 69 (upd (B 69) (tp - 1) (nI b380)))), rfl, ⟨rfl, hz384⟩, by rw [ht9]; exact hP, hD⟩, hS.F ht9⟩) hS.2.2 dX12_goesOn_619
      · refine lv_iload hx hb dX12_goesOn_356 (lv_at hl 1 rfl) ?_
        refine lv_iconst (v := (-1)) hx hb dX12_goesOn_358 (by decide) ?_
        refine lv_ixor hx hb dX12_goesOn_359 ?_
        refine lv_topi (fun x385 e386 => ?_)
        refine lv_goto (tgt := 367) hx hb dX12_goesOn_360 (by decide) ?_
        have hP : va_P G.1 pCl (mW G h0 a (upd (upd (upd (upd (upd (upd (upd (upd (upd (upd (upd (upd (upd (upd (upd (upd (upd (upd (upd (upd (upd F 49 (nI md)) 97 (nI ct)) 98 (nI fl)) 99 (nI rmm)) 101 tds) 102 (nI op)) 111 (nI (tp - 1))) 115 (nI wn)) 116 (-1)) 117 (nI fu)) 118 rs0) 119 uc0) 121 ma0) 122 mc0) 123 ca) 124 mo) 125 nw) 126 isn) 128 (nI on)) 130 (nI idn)) 111 (nI (tp - 1))) (updA (updA B 68 (B 68)) 69 (B 69))) _ := hP
        have hD : va_D A (mW G h0 a (upd (upd (upd (upd (upd (upd (upd (upd (upd (upd (upd (upd (upd (upd (upd (upd (upd (upd (upd (upd (upd F 49 (nI md)) 97 (nI ct)) 98 (nI fl)) 99 (nI rmm)) 101 tds) 102 (nI op)) 111 (nI (tp - 1))) 115 (nI wn)) 116 (-1)) 117 (nI fu)) 118 rs0) 119 uc0) 121 ma0) 122 mc0) 123 ca) 124 mo) 125 nw) 126 isn) 128 (nI on)) 130 (nI idn)) 111 (nI (tp - 1))) (updA (updA B 68 (B 68)) 69 (B 69))) := hD
        refine pc_V0 (G := G) (As := [.int (nI p9), .int x385]) (rest := []) hx hb hml hown hq hE hX pX0_al hP hD hS hA hl.1 (R_gives l G h0 a (upd (upd (upd (upd (upd (upd (upd (upd (upd (upd (upd (upd (upd (upd (upd (upd (upd (upd (upd (upd F 49 (nI md)) 97 (nI ct)) 98 (nI fl)) 99 (nI rmm)) 101 tds) 102 (nI op)) 111 (nI (tp - 1))) 115 (nI wn)) 116 (-1)) 117 (nI fu)) 118 rs0) 119 uc0) 121 ma0) 122 mc0) 123 ca) 124 mo) 125 nw) 126 isn) 128 (nI on)) 130 (nI idn)) B p9 t9 (tp - 1) x385 (B 68) (B 69) (by omega) hm3 (by omega) (by omega)) (gV pw_2069 pw_2070 pw_2071 pw_1523 pw_2006) hV_X12_gives 0 9 rfl rfl rfl rfl (Nat.le_of_ble_eq_true rfl) dX12_goesOn_367 ⟨Nat.le_of_ble_eq_true rfl, Nat.le_of_ble_eq_true rfl⟩ ⟨Nat.le_of_ble_eq_true rfl, Nat.le_of_ble_eq_true rfl⟩ (fun v389 u387 H locs hw388 hP hD hS => ?_)
        obtain ⟨b390, rf391⟩ := u387
        obtain ⟨hw388, h392, h393⟩ := hw388
        replace h392 : rf391 = upd (B 69) (tp - 1) (nI b390) := h392
        replace h393 : b390 ≤ 1 ∧ 3 * b390 ≤ t9 ∧ t9 ≤ 2 + 9000 * b390 := h393
        obtain rfl : v389 = none := hw388
        have hP : va_P G.1 pCl (mW G h0 a (upd (upd (upd (upd (upd (upd (upd (upd (upd (upd (upd (upd (upd (upd (upd (upd (upd (upd (upd (upd F 49 (nI md)) 97 (nI ct)) 98 (nI fl)) 99 (nI rmm)) 101 tds) 102 (nI op)) 111 (nI ((tp - 1) + 1))) 115 (nI wn)) 116 (-1)) 117 (nI fu)) 118 rs0) 119 uc0) 121 ma0) 122 mc0) 123 ca) 124 mo) 125 (nI p9)) 126 0) 128 (nI on)) 130 (nI idn)) (updA (updA B 68 (upd (B 68) (tp - 1) x385)) 69 rf391)) _ := hP
        have hD : va_D A (mW G h0 a (upd (upd (upd (upd (upd (upd (upd (upd (upd (upd (upd (upd (upd (upd (upd (upd (upd (upd (upd (upd F 49 (nI md)) 97 (nI ct)) 98 (nI fl)) 99 (nI rmm)) 101 tds) 102 (nI op)) 111 (nI ((tp - 1) + 1))) 115 (nI wn)) 116 (-1)) 117 (nI fu)) 118 rs0) 119 uc0) 121 ma0) 122 mc0) 123 ca) 124 mo) 125 (nI p9)) 126 0) 128 (nI on)) 130 (nI idn)) (updA (updA B 68 (upd (B 68) (tp - 1) x385)) 69 rf391)) := hD
        refine W.widen (k := 0) (n := 0) (Nat.le_of_ble_eq_true rfl) (Nat.le_of_ble_eq_true rfl) ?_
        refine W.eq (g2 := F0 m 370 ls []) rfl ?_
        obtain rfl : rf391 = _ := h392
        have hP : va_P G.1 pCl (mW G h0 a (upd (upd (upd (upd (upd (upd (upd (upd (upd (upd (upd (upd (upd (upd (upd (upd (upd (upd (upd (upd F 49 (nI md)) 97 (nI ct)) 98 (nI fl)) 99 (nI rmm)) 101 tds) 102 (nI op)) 111 (nI ((tp - 1) + 1))) 115 (nI wn)) 116 (-1)) 117 (nI fu)) 118 rs0) 119 uc0) 121 ma0) 122 mc0) 123 ca) 124 mo) 125 (nI p9)) 126 0) 128 (nI on)) 130 (nI idn)) (updA (updA B 68 (upd (B 68) (tp - 1) x385)) 69 (upd (B 69) (tp - 1) (nI b390)))) _ := hP
        have hD : va_D A (mW G h0 a (upd (upd (upd (upd (upd (upd (upd (upd (upd (upd (upd (upd (upd (upd (upd (upd (upd (upd (upd (upd F 49 (nI md)) 97 (nI ct)) 98 (nI fl)) 99 (nI rmm)) 101 tds) 102 (nI op)) 111 (nI ((tp - 1) + 1))) 115 (nI wn)) 116 (-1)) 117 (nI fu)) 118 rs0) 119 uc0) 121 ma0) 122 mc0) 123 ca) 124 mo) 125 (nI p9)) 126 0) 128 (nI on)) 130 (nI idn)) (updA (updA B 68 (upd (B 68) (tp - 1) x385)) 69 (upd (B 69) (tp - 1) (nI b390)))) := hD
        refine lv_goto (tgt := 619) hx hb dX12_goesOn_370 (by decide) ?_
        have hz394 : Nx Xs (updA (updA B 68 (upd (B 68) (tp - 1) x385)) 69 (upd (B 69) (tp - 1) (nI b390))) gh nd T nm wr lz dc fd md pr bk M rmm fu (Phi gh ps op (rkN gh n9 true)) op ((tp - 1) + 1) wn fu rd on idn fl ct ((-1) : Int32) (nI p9) (0 : Int32) uc0 := (hR.givesUp hp hst hkd (by omega) (fun h => absurd h (by omega)) hm3 (by unfold TyC; omega) (by omega) (VTd.num (by omega)) h393 (by omega))
        have hP : va_P G.1 pCl (mW G h0 a (upd (upd (upd (upd (upd (upd (upd (upd (upd (upd (upd (upd (upd (upd (upd (upd (upd (upd (upd (upd F 49 (nI md)) 97 (nI ct)) 98 (nI fl)) 99 (nI rmm)) 101 tds) 102 (nI op)) 111 (nI ((tp - 1) + 1))) 115 (nI wn)) 116 ((-1) : Int32)) 117 (nI fu)) 118 rs0) 119 uc0) 121 ma0) 122 mc0) 123 ca) 124 mo) 125 (nI p9)) 126 (0 : Int32)) 128 (nI on)) 130 (nI idn)) (updA (updA B 68 (upd (B 68) (tp - 1) x385)) 69 (upd (B 69) (tp - 1) (nI b390)))) _ := hP
        have hD : va_D A (mW G h0 a (upd (upd (upd (upd (upd (upd (upd (upd (upd (upd (upd (upd (upd (upd (upd (upd (upd (upd (upd (upd F 49 (nI md)) 97 (nI ct)) 98 (nI fl)) 99 (nI rmm)) 101 tds) 102 (nI op)) 111 (nI ((tp - 1) + 1))) 115 (nI wn)) 116 ((-1) : Int32)) 117 (nI fu)) 118 rs0) 119 uc0) 121 ma0) 122 mc0) 123 ca) 124 mo) 125 (nI p9)) 126 (0 : Int32)) 128 (nI on)) 130 (nI idn)) (updA (updA B 68 (upd (B 68) (tp - 1) x385)) 69 (upd (B 69) (tp - 1) (nI b390)))) := hD
        exact W.vret hx hb hr (fun t9 ht9 hW9 => ⟨⟨_, (op, ((tp - 1) + 1), wn, fu, ((-1) : Int32), (nI p9), (0 : Int32), rs0, uc0, on, idn, fl, ct, tds, ma0, mc0, ca, mo, (updA (updA B 68 (upd (B 68) (tp - 1) x385)) 69 (upd (B 69) (tp - 1) (nI b390)))), rfl, ⟨rfl, hz394⟩, by rw [ht9]; exact hP, hD⟩, hS.F ht9⟩) hS.2.2 dX12_goesOn_619
    · refine lv_iload hx hb dX12_goesOn_343 (lv_at hl 1 rfl) ?_
      refine lv_ineg hx hb dX12_goesOn_345 ?_
      refine lv_topi (fun x395 e396 => ?_)
      refine lv_goto (tgt := 367) hx hb dX12_goesOn_346 (by decide) ?_
      have hP : va_P G.1 pCl (mW G h0 a (upd (upd (upd (upd (upd (upd (upd (upd (upd (upd (upd (upd (upd (upd (upd (upd (upd (upd (upd (upd (upd F 49 (nI md)) 97 (nI ct)) 98 (nI fl)) 99 (nI rmm)) 101 tds) 102 (nI op)) 111 (nI (tp - 1))) 115 (nI wn)) 116 (-1)) 117 (nI fu)) 118 rs0) 119 uc0) 121 ma0) 122 mc0) 123 ca) 124 mo) 125 nw) 126 isn) 128 (nI on)) 130 (nI idn)) 111 (nI (tp - 1))) (updA (updA B 68 (B 68)) 69 (B 69))) _ := hP
      have hD : va_D A (mW G h0 a (upd (upd (upd (upd (upd (upd (upd (upd (upd (upd (upd (upd (upd (upd (upd (upd (upd (upd (upd (upd (upd F 49 (nI md)) 97 (nI ct)) 98 (nI fl)) 99 (nI rmm)) 101 tds) 102 (nI op)) 111 (nI (tp - 1))) 115 (nI wn)) 116 (-1)) 117 (nI fu)) 118 rs0) 119 uc0) 121 ma0) 122 mc0) 123 ca) 124 mo) 125 nw) 126 isn) 128 (nI on)) 130 (nI idn)) 111 (nI (tp - 1))) (updA (updA B 68 (B 68)) 69 (B 69))) := hD
      refine pc_V0 (G := G) (As := [.int (nI p9), .int x395]) (rest := []) hx hb hml hown hq hE hX pX0_al hP hD hS hA hl.1 (R_gives l G h0 a (upd (upd (upd (upd (upd (upd (upd (upd (upd (upd (upd (upd (upd (upd (upd (upd (upd (upd (upd (upd F 49 (nI md)) 97 (nI ct)) 98 (nI fl)) 99 (nI rmm)) 101 tds) 102 (nI op)) 111 (nI (tp - 1))) 115 (nI wn)) 116 (-1)) 117 (nI fu)) 118 rs0) 119 uc0) 121 ma0) 122 mc0) 123 ca) 124 mo) 125 nw) 126 isn) 128 (nI on)) 130 (nI idn)) B p9 t9 (tp - 1) x395 (B 68) (B 69) (by omega) hm3 (by omega) (by omega)) (gV pw_2069 pw_2070 pw_2071 pw_1523 pw_2006) hV_X12_gives 0 9 rfl rfl rfl rfl (Nat.le_of_ble_eq_true rfl) dX12_goesOn_367 ⟨Nat.le_of_ble_eq_true rfl, Nat.le_of_ble_eq_true rfl⟩ ⟨Nat.le_of_ble_eq_true rfl, Nat.le_of_ble_eq_true rfl⟩ (fun v399 u397 H locs hw398 hP hD hS => ?_)
      obtain ⟨b400, rf401⟩ := u397
      obtain ⟨hw398, h402, h403⟩ := hw398
      replace h402 : rf401 = upd (B 69) (tp - 1) (nI b400) := h402
      replace h403 : b400 ≤ 1 ∧ 3 * b400 ≤ t9 ∧ t9 ≤ 2 + 9000 * b400 := h403
      obtain rfl : v399 = none := hw398
      have hP : va_P G.1 pCl (mW G h0 a (upd (upd (upd (upd (upd (upd (upd (upd (upd (upd (upd (upd (upd (upd (upd (upd (upd (upd (upd (upd F 49 (nI md)) 97 (nI ct)) 98 (nI fl)) 99 (nI rmm)) 101 tds) 102 (nI op)) 111 (nI ((tp - 1) + 1))) 115 (nI wn)) 116 (-1)) 117 (nI fu)) 118 rs0) 119 uc0) 121 ma0) 122 mc0) 123 ca) 124 mo) 125 (nI p9)) 126 0) 128 (nI on)) 130 (nI idn)) (updA (updA B 68 (upd (B 68) (tp - 1) x395)) 69 rf401)) _ := hP
      have hD : va_D A (mW G h0 a (upd (upd (upd (upd (upd (upd (upd (upd (upd (upd (upd (upd (upd (upd (upd (upd (upd (upd (upd (upd F 49 (nI md)) 97 (nI ct)) 98 (nI fl)) 99 (nI rmm)) 101 tds) 102 (nI op)) 111 (nI ((tp - 1) + 1))) 115 (nI wn)) 116 (-1)) 117 (nI fu)) 118 rs0) 119 uc0) 121 ma0) 122 mc0) 123 ca) 124 mo) 125 (nI p9)) 126 0) 128 (nI on)) 130 (nI idn)) (updA (updA B 68 (upd (B 68) (tp - 1) x395)) 69 rf401)) := hD
      refine W.widen (k := 0) (n := 0) (Nat.le_of_ble_eq_true rfl) (Nat.le_of_ble_eq_true rfl) ?_
      refine W.eq (g2 := F0 m 370 ls []) rfl ?_
      obtain rfl : rf401 = _ := h402
      have hP : va_P G.1 pCl (mW G h0 a (upd (upd (upd (upd (upd (upd (upd (upd (upd (upd (upd (upd (upd (upd (upd (upd (upd (upd (upd (upd F 49 (nI md)) 97 (nI ct)) 98 (nI fl)) 99 (nI rmm)) 101 tds) 102 (nI op)) 111 (nI ((tp - 1) + 1))) 115 (nI wn)) 116 (-1)) 117 (nI fu)) 118 rs0) 119 uc0) 121 ma0) 122 mc0) 123 ca) 124 mo) 125 (nI p9)) 126 0) 128 (nI on)) 130 (nI idn)) (updA (updA B 68 (upd (B 68) (tp - 1) x395)) 69 (upd (B 69) (tp - 1) (nI b400)))) _ := hP
      have hD : va_D A (mW G h0 a (upd (upd (upd (upd (upd (upd (upd (upd (upd (upd (upd (upd (upd (upd (upd (upd (upd (upd (upd (upd F 49 (nI md)) 97 (nI ct)) 98 (nI fl)) 99 (nI rmm)) 101 tds) 102 (nI op)) 111 (nI ((tp - 1) + 1))) 115 (nI wn)) 116 (-1)) 117 (nI fu)) 118 rs0) 119 uc0) 121 ma0) 122 mc0) 123 ca) 124 mo) 125 (nI p9)) 126 0) 128 (nI on)) 130 (nI idn)) (updA (updA B 68 (upd (B 68) (tp - 1) x395)) 69 (upd (B 69) (tp - 1) (nI b400)))) := hD
      refine lv_goto (tgt := 619) hx hb dX12_goesOn_370 (by decide) ?_
      have hz404 : Nx Xs (updA (updA B 68 (upd (B 68) (tp - 1) x395)) 69 (upd (B 69) (tp - 1) (nI b400))) gh nd T nm wr lz dc fd md pr bk M rmm fu (Phi gh ps op (rkN gh n9 true)) op ((tp - 1) + 1) wn fu rd on idn fl ct ((-1) : Int32) (nI p9) (0 : Int32) uc0 := (hR.givesUp hp hst hkd (by omega) (fun h => absurd h (by omega)) hm3 (by unfold TyC; omega) (by omega) (VTd.num (by omega)) h403 (by omega))
      have hP : va_P G.1 pCl (mW G h0 a (upd (upd (upd (upd (upd (upd (upd (upd (upd (upd (upd (upd (upd (upd (upd (upd (upd (upd (upd (upd F 49 (nI md)) 97 (nI ct)) 98 (nI fl)) 99 (nI rmm)) 101 tds) 102 (nI op)) 111 (nI ((tp - 1) + 1))) 115 (nI wn)) 116 ((-1) : Int32)) 117 (nI fu)) 118 rs0) 119 uc0) 121 ma0) 122 mc0) 123 ca) 124 mo) 125 (nI p9)) 126 (0 : Int32)) 128 (nI on)) 130 (nI idn)) (updA (updA B 68 (upd (B 68) (tp - 1) x395)) 69 (upd (B 69) (tp - 1) (nI b400)))) _ := hP
      have hD : va_D A (mW G h0 a (upd (upd (upd (upd (upd (upd (upd (upd (upd (upd (upd (upd (upd (upd (upd (upd (upd (upd (upd (upd F 49 (nI md)) 97 (nI ct)) 98 (nI fl)) 99 (nI rmm)) 101 tds) 102 (nI op)) 111 (nI ((tp - 1) + 1))) 115 (nI wn)) 116 ((-1) : Int32)) 117 (nI fu)) 118 rs0) 119 uc0) 121 ma0) 122 mc0) 123 ca) 124 mo) 125 (nI p9)) 126 (0 : Int32)) 128 (nI on)) 130 (nI idn)) (updA (updA B 68 (upd (B 68) (tp - 1) x395)) 69 (upd (B 69) (tp - 1) (nI b400)))) := hD
      exact W.vret hx hb hr (fun t9 ht9 hW9 => ⟨⟨_, (op, ((tp - 1) + 1), wn, fu, ((-1) : Int32), (nI p9), (0 : Int32), rs0, uc0, on, idn, fl, ct, tds, ma0, mc0, ca, mo, (updA (updA B 68 (upd (B 68) (tp - 1) x395)) 69 (upd (B 69) (tp - 1) (nI b400)))), rfl, ⟨rfl, hz404⟩, by rw [ht9]; exact hP, hD⟩, hS.F ht9⟩) hS.2.2 dX12_goesOn_619
  · by_cases hfi : Xs 12 p9 = nI n9
    · refine lv_iload_n hx hb dX12_goesOn_0 rfl (lv_at hl 2 rfl) ?_
      refine lv_aload_n hx hb dX12_goesOn_1 rfl (lv_at hl 0 rfl) ?_
      refine r_get (v := .ref (a 12)) hx hb hown hq hE hP 20 47 tFX12_20 (by decide) pw_1442 rfl dX12_goesOn_2 ?_
      refine lv_iload_n hx hb dX12_goesOn_5 rfl (lv_at hl 1 rfl) ?_
      refine r_ldi (f := (B 12)) (j := p9) hx hb hE hP 12 (ma_12 G a _) rfl (by omega) (by decide) dX12_goesOn_6 ?_
      refine lv_topi (fun x405 e406 => ?_)
      obtain rfl : x405 = nI n9 := e406.trans ((congrFun hw12 _).trans hfi)
      refine lv_icmp_ne (tgt := 14) hx hb dX12_goesOn_7 (by decide) (fun c407 => absurd rfl c407) (fun c407 => ?_)
      refine lv_iconst (v := 1) hx hb dX12_goesOn_10 (by decide) ?_
      refine lv_goto (tgt := 15) hx hb dX12_goesOn_11 (by decide) ?_
      refine lv_istore_n (lv' := [(3, .int 1), (0, .ref h0), (1, .int (nI p9)), (2, .int (nI n9))]) hx hb dX12_goesOn_15 rfl hl (by decide) rfl (fun ls hl => ?_)
      refine lv_aload_n hx hb dX12_goesOn_16 rfl (lv_at hl 1 rfl) ?_
      refine r_get (v := .ref (a 9)) hx hb hown hq hE hP 17 38 tFX12_17 (by decide) pw_1439 rfl dX12_goesOn_17 ?_
      refine lv_iload_n hx hb dX12_goesOn_20 rfl (lv_at hl 2 rfl) ?_
      refine r_ldi (f := (B 9)) (j := p9) hx hb hE hP 9 (ma_9 G a _) rfl (by omega) (by decide) dX12_goesOn_21 ?_
      refine lv_topi (fun x408 e409 => ?_)
      obtain rfl : x408 = 18 := e409.trans ((congrFun hw9 _).trans hkd)
      refine lv_tableIn (tgt := 373) (off := 351) hx hb dX12_goesOn_22 (by decide) (by decide) (by decide) (by decide) ?_
      refine lv_iload_n hx hb dX12_goesOn_373 rfl (lv_at hl 0 rfl) ?_
      refine lv_if_eq (tgt := 390) hx hb dX12_goesOn_374 (by decide) (fun c410 => absurd c410 (by decide)) (fun c410 => ?_)
      refine lv_aload_n hx hb dX12_goesOn_377 rfl (lv_at hl 1 rfl) ?_
      refine lv_aload_n hx hb dX12_goesOn_378 rfl (lv_at hl 1 rfl) ?_
      refine r_get (v := .ref (a 13)) hx hb hown hq hE hP 21 50 tFX12_21 (by decide) pw_1443 rfl dX12_goesOn_379 ?_
      refine lv_iload_n hx hb dX12_goesOn_382 rfl (lv_at hl 2 rfl) ?_
      refine r_ldi (f := (B 13)) (j := p9) hx hb hE hP 13 (ma_13 G a _) rfl (by omega) (by decide) dX12_goesOn_383 ?_
      obtain ⟨j1, ha1, ha2, ha3⟩ := hR.k15a (uc := uc0) hp hst hkd (by omega) hfi
      refine lv_topi (fun x411 e412 => ?_)
      obtain rfl : x411 = nI j1 := e412.trans ((congrFun hw13 _).trans ha1)
      have hP : va_P G.1 pCl (mW G h0 a (upd (upd (upd (upd (upd (upd (upd (upd (upd (upd (upd (upd (upd (upd (upd (upd (upd (upd (upd (upd F 49 (nI md)) 97 (nI ct)) 98 (nI fl)) 99 (nI rmm)) 101 tds) 102 (nI op)) 111 (nI tp)) 115 (nI wn)) 116 (-1)) 117 (nI fu)) 118 rs0) 119 uc0) 121 ma0) 122 mc0) 123 ca) 124 mo) 125 nw) 126 isn) 128 (nI on)) 130 (nI idn)) B) _ := hP
      have hD : va_D A (mW G h0 a (upd (upd (upd (upd (upd (upd (upd (upd (upd (upd (upd (upd (upd (upd (upd (upd (upd (upd (upd (upd F 49 (nI md)) 97 (nI ct)) 98 (nI fl)) 99 (nI rmm)) 101 tds) 102 (nI op)) 111 (nI tp)) 115 (nI wn)) 116 (-1)) 117 (nI fu)) 118 rs0) 119 uc0) 121 ma0) 122 mc0) 123 ca) 124 mo) 125 nw) 126 isn) 128 (nI on)) 130 (nI idn)) B) := hD
      refine pc_V0 (G := G) (As := [.int (nI j1)]) (rest := []) hx hb hml hown hq hE hX pX0_al hP hD hS hA hl.1 (R_begin l G h0 a (upd (upd (upd (upd (upd (upd (upd (upd (upd (upd (upd (upd (upd (upd (upd (upd (upd (upd (upd (upd F 49 (nI md)) 97 (nI ct)) 98 (nI fl)) 99 (nI rmm)) 101 tds) 102 (nI op)) 111 (nI tp)) 115 (nI wn)) 116 (-1)) 117 (nI fu)) 118 rs0) 119 uc0) 121 ma0) 122 mc0) 123 ca) 124 mo) 125 nw) 126 isn) 128 (nI on)) 130 (nI idn)) B (nI j1)) (gV pw_2016 pw_2017 pw_2018 pw_1523 pw_2002) hV_X12_begin 0 9 rfl rfl rfl rfl (Nat.le_of_ble_eq_true rfl) dX12_goesOn_384 ⟨Nat.le_of_ble_eq_true rfl, Nat.le_of_ble_eq_true rfl⟩ ⟨Nat.le_of_ble_eq_true rfl, Nat.le_of_ble_eq_true rfl⟩ (fun v415 u413 H locs hw414 hP hD hS => ?_)
      obtain rfl : v415 = none := hw414
      have hP : va_P G.1 pCl (mW G h0 a (upd (upd (upd (upd (upd (upd (upd (upd (upd (upd (upd (upd (upd (upd (upd (upd (upd (upd (upd (upd F 49 (nI md)) 97 (nI ct)) 98 (nI fl)) 99 (nI rmm)) 101 tds) 102 (nI op)) 111 (nI tp)) 115 (nI wn)) 116 (-1)) 117 (nI fu)) 118 rs0) 119 uc0) 121 ma0) 122 mc0) 123 ca) 124 mo) 125 (nI j1)) 126 1) 128 (nI on)) 130 (nI idn)) B) _ := hP
      have hD : va_D A (mW G h0 a (upd (upd (upd (upd (upd (upd (upd (upd (upd (upd (upd (upd (upd (upd (upd (upd (upd (upd (upd (upd F 49 (nI md)) 97 (nI ct)) 98 (nI fl)) 99 (nI rmm)) 101 tds) 102 (nI op)) 111 (nI tp)) 115 (nI wn)) 116 (-1)) 117 (nI fu)) 118 rs0) 119 uc0) 121 ma0) 122 mc0) 123 ca) 124 mo) 125 (nI j1)) 126 1) 128 (nI on)) 130 (nI idn)) B) := hD
      refine W.widen (k := 0) (n := 0) (Nat.le_of_ble_eq_true rfl) (Nat.le_of_ble_eq_true rfl) ?_
      refine W.eq (g2 := F0 m 387 ls []) rfl ?_
      refine lv_goto (tgt := 619) hx hb dX12_goesOn_387 (by decide) ?_
      have hz416 : Nx Xs B gh nd T nm wr lz dc fd md pr bk M rmm fu (Phi gh ps op (rkN gh n9 true)) op tp wn fu rd on idn fl ct ((-1) : Int32) (nI j1) (1 : Int32) uc0 := ha3
      have hP : va_P G.1 pCl (mW G h0 a (upd (upd (upd (upd (upd (upd (upd (upd (upd (upd (upd (upd (upd (upd (upd (upd (upd (upd (upd (upd F 49 (nI md)) 97 (nI ct)) 98 (nI fl)) 99 (nI rmm)) 101 tds) 102 (nI op)) 111 (nI tp)) 115 (nI wn)) 116 ((-1) : Int32)) 117 (nI fu)) 118 rs0) 119 uc0) 121 ma0) 122 mc0) 123 ca) 124 mo) 125 (nI j1)) 126 (1 : Int32)) 128 (nI on)) 130 (nI idn)) B) _ := hP
      have hD : va_D A (mW G h0 a (upd (upd (upd (upd (upd (upd (upd (upd (upd (upd (upd (upd (upd (upd (upd (upd (upd (upd (upd (upd F 49 (nI md)) 97 (nI ct)) 98 (nI fl)) 99 (nI rmm)) 101 tds) 102 (nI op)) 111 (nI tp)) 115 (nI wn)) 116 ((-1) : Int32)) 117 (nI fu)) 118 rs0) 119 uc0) 121 ma0) 122 mc0) 123 ca) 124 mo) 125 (nI j1)) 126 (1 : Int32)) 128 (nI on)) 130 (nI idn)) B) := hD
      exact W.vret hx hb hr (fun t9 ht9 hW9 => ⟨⟨_, (op, tp, wn, fu, ((-1) : Int32), (nI j1), (1 : Int32), rs0, uc0, on, idn, fl, ct, tds, ma0, mc0, ca, mo, B), rfl, ⟨rfl, hz416⟩, by rw [ht9]; exact hP, hD⟩, hS.F ht9⟩) hS.2.2 dX12_goesOn_619
    · refine lv_iload_n hx hb dX12_goesOn_0 rfl (lv_at hl 2 rfl) ?_
      refine lv_aload_n hx hb dX12_goesOn_1 rfl (lv_at hl 0 rfl) ?_
      refine r_get (v := .ref (a 12)) hx hb hown hq hE hP 20 47 tFX12_20 (by decide) pw_1442 rfl dX12_goesOn_2 ?_
      refine lv_iload_n hx hb dX12_goesOn_5 rfl (lv_at hl 1 rfl) ?_
      refine r_ldi (f := (B 12)) (j := p9) hx hb hE hP 12 (ma_12 G a _) rfl (by omega) (by decide) dX12_goesOn_6 ?_
      refine lv_icmp_ne (tgt := 14) hx hb dX12_goesOn_7 (by decide) (fun c417 => ?_) (fun c417 => absurd ((congrFun hw12 _).symm.trans c417.symm) hfi)
      refine lv_iconst (v := 0) hx hb dX12_goesOn_14 (by decide) ?_
      refine lv_istore_n (lv' := [(3, .int 0), (0, .ref h0), (1, .int (nI p9)), (2, .int (nI n9))]) hx hb dX12_goesOn_15 rfl hl (by decide) rfl (fun ls hl => ?_)
      refine lv_aload_n hx hb dX12_goesOn_16 rfl (lv_at hl 1 rfl) ?_
      refine r_get (v := .ref (a 9)) hx hb hown hq hE hP 17 38 tFX12_17 (by decide) pw_1439 rfl dX12_goesOn_17 ?_
      refine lv_iload_n hx hb dX12_goesOn_20 rfl (lv_at hl 2 rfl) ?_
      refine r_ldi (f := (B 9)) (j := p9) hx hb hE hP 9 (ma_9 G a _) rfl (by omega) (by decide) dX12_goesOn_21 ?_
      refine lv_topi (fun x418 e419 => ?_)
      obtain rfl : x418 = 18 := e419.trans ((congrFun hw9 _).trans hkd)
      refine lv_tableIn (tgt := 373) (off := 351) hx hb dX12_goesOn_22 (by decide) (by decide) (by decide) (by decide) ?_
      refine lv_iload_n hx hb dX12_goesOn_373 rfl (lv_at hl 0 rfl) ?_
      refine lv_if_eq (tgt := 390) hx hb dX12_goesOn_374 (by decide) (fun c420 => ?_) (fun c420 => absurd c420 (by decide))
      refine lv_aload_n hx hb dX12_goesOn_390 rfl (lv_at hl 1 rfl) ?_
      refine lv_iload_n hx hb dX12_goesOn_391 rfl (lv_at hl 2 rfl) ?_
      have hP : va_P G.1 pCl (mW G h0 a (upd (upd (upd (upd (upd (upd (upd (upd (upd (upd (upd (upd (upd (upd (upd (upd (upd (upd (upd (upd (upd (upd (upd (upd (upd (upd (upd (upd (upd F 49 (nI md)) 97 (nI ct)) 98 (nI fl)) 99 (nI rmm)) 101 tds) 102 (nI op)) 111 (nI tp)) 115 (nI wn)) 116 (-1)) 117 (nI fu)) 118 rs0) 119 uc0) 121 ma0) 122 mc0) 123 ca) 124 mo) 125 nw) 126 isn) 128 (nI on)) 130 (nI idn)) 102 (nI op)) 111 (nI tp)) 115 (nI wn)) 116 (-1)) 117 (nI fu)) 118 rs0) 119 uc0) 125 nw) 126 isn) B) _ := hP
      have hD : va_D A (mW G h0 a (upd (upd (upd (upd (upd (upd (upd (upd (upd (upd (upd (upd (upd (upd (upd (upd (upd (upd (upd (upd (upd (upd (upd (upd (upd (upd (upd (upd (upd F 49 (nI md)) 97 (nI ct)) 98 (nI fl)) 99 (nI rmm)) 101 tds) 102 (nI op)) 111 (nI tp)) 115 (nI wn)) 116 (-1)) 117 (nI fu)) 118 rs0) 119 uc0) 121 ma0) 122 mc0) 123 ca) 124 mo) 125 nw) 126 isn) 128 (nI on)) 130 (nI idn)) 102 (nI op)) 111 (nI tp)) 115 (nI wn)) 116 (-1)) 117 (nI fu)) 118 rs0) 119 uc0) 125 nw) 126 isn) B) := hD
      refine pc_V0 (G := G) (As := [.int (nI p9)]) (rest := []) hx hb hml hown hq hE hX pX0_al hP hD hS hA hl.1 (R_works l G h0 a (upd (upd (upd (upd (upd (upd (upd (upd (upd (upd (upd (upd (upd (upd (upd (upd (upd (upd (upd (upd F 49 (nI md)) 97 (nI ct)) 98 (nI fl)) 99 (nI rmm)) 101 tds) 102 (nI op)) 111 (nI tp)) 115 (nI wn)) 116 (-1)) 117 (nI fu)) 118 rs0) 119 uc0) 121 ma0) 122 mc0) 123 ca) 124 mo) 125 nw) 126 isn) 128 (nI on)) 130 (nI idn)) B Xs gh nd T nm wr lz dc fd md pr bk M rmm op tp wn fu rd on idn fl ct n9 p9 u mt ps yy bf wf nw isn rs0 uc0 hR hp hst hfu hkd hfi) (gV pw_2105 pw_2106 pw_2107 pw_1523 pw_2092) hV_X12_works 0 9 rfl rfl rfl rfl (Nat.le_of_ble_eq_true rfl) dX12_goesOn_392 ⟨Nat.le_of_ble_eq_true rfl, Nat.le_of_ble_eq_true rfl⟩ ⟨Nat.le_of_ble_eq_true rfl, Nat.le_of_ble_eq_true rfl⟩ (fun v423 u421 H locs hw422 hP hD hS => ?_)
      obtain ⟨op424, tp425, wn426, fu427, en428, nw429, is430, rs431, uc432, X433⟩ := u421
      obtain ⟨hw422, h434⟩ := hw422
      replace h434 : Nx Xs X433 gh nd T nm wr lz dc fd md pr bk M rmm fu (Phi gh ps op (rkN gh n9 true)) op424 tp425 wn426 fu427 rd on idn fl ct en428 nw429 is430 uc432 := h434
      obtain rfl : v423 = none := hw422
      have hP : va_P G.1 pCl (mW G h0 a (upd (upd (upd (upd (upd (upd (upd (upd (upd (upd (upd (upd (upd (upd (upd (upd (upd (upd (upd (upd F 49 (nI md)) 97 (nI ct)) 98 (nI fl)) 99 (nI rmm)) 101 tds) 102 (nI op424)) 111 (nI tp425)) 115 (nI wn426)) 116 en428) 117 (nI fu427)) 118 rs431) 119 uc432) 121 ma0) 122 mc0) 123 ca) 124 mo) 125 nw429) 126 is430) 128 (nI on)) 130 (nI idn)) X433) _ := hP
      have hD : va_D A (mW G h0 a (upd (upd (upd (upd (upd (upd (upd (upd (upd (upd (upd (upd (upd (upd (upd (upd (upd (upd (upd (upd F 49 (nI md)) 97 (nI ct)) 98 (nI fl)) 99 (nI rmm)) 101 tds) 102 (nI op424)) 111 (nI tp425)) 115 (nI wn426)) 116 en428) 117 (nI fu427)) 118 rs431) 119 uc432) 121 ma0) 122 mc0) 123 ca) 124 mo) 125 nw429) 126 is430) 128 (nI on)) 130 (nI idn)) X433) := hD
      refine W.widen (k := 0) (n := 0) (Nat.le_of_ble_eq_true rfl) (Nat.le_of_ble_eq_true rfl) ?_
      refine W.eq (g2 := F0 m 395 ls []) rfl ?_
      refine lv_goto (tgt := 619) hx hb dX12_goesOn_395 (by decide) ?_
      have hz435 : Nx Xs X433 gh nd T nm wr lz dc fd md pr bk M rmm fu (Phi gh ps op (rkN gh n9 true)) op424 tp425 wn426 fu427 rd on idn fl ct en428 nw429 is430 uc432 := h434
      have hP : va_P G.1 pCl (mW G h0 a (upd (upd (upd (upd (upd (upd (upd (upd (upd (upd (upd (upd (upd (upd (upd (upd (upd (upd (upd (upd F 49 (nI md)) 97 (nI ct)) 98 (nI fl)) 99 (nI rmm)) 101 tds) 102 (nI op424)) 111 (nI tp425)) 115 (nI wn426)) 116 en428) 117 (nI fu427)) 118 rs431) 119 uc432) 121 ma0) 122 mc0) 123 ca) 124 mo) 125 nw429) 126 is430) 128 (nI on)) 130 (nI idn)) X433) _ := hP
      have hD : va_D A (mW G h0 a (upd (upd (upd (upd (upd (upd (upd (upd (upd (upd (upd (upd (upd (upd (upd (upd (upd (upd (upd (upd F 49 (nI md)) 97 (nI ct)) 98 (nI fl)) 99 (nI rmm)) 101 tds) 102 (nI op424)) 111 (nI tp425)) 115 (nI wn426)) 116 en428) 117 (nI fu427)) 118 rs431) 119 uc432) 121 ma0) 122 mc0) 123 ca) 124 mo) 125 nw429) 126 is430) 128 (nI on)) 130 (nI idn)) X433) := hD
      exact W.vret hx hb hr (fun t9 ht9 hW9 => ⟨⟨_, (op424, tp425, wn426, fu427, en428, nw429, is430, rs431, uc432, on, idn, fl, ct, tds, ma0, mc0, ca, mo, X433), rfl, ⟨rfl, hz435⟩, by rw [ht9]; exact hP, hD⟩, hS.F ht9⟩) hS.2.2 dX12_goesOn_619
  · by_cases hfi : Xs 12 p9 = nI n9
    · refine lv_iload_n hx hb dX12_goesOn_0 rfl (lv_at hl 2 rfl) ?_
      refine lv_aload_n hx hb dX12_goesOn_1 rfl (lv_at hl 0 rfl) ?_
      refine r_get (v := .ref (a 12)) hx hb hown hq hE hP 20 47 tFX12_20 (by decide) pw_1442 rfl dX12_goesOn_2 ?_
      refine lv_iload_n hx hb dX12_goesOn_5 rfl (lv_at hl 1 rfl) ?_
      refine r_ldi (f := (B 12)) (j := p9) hx hb hE hP 12 (ma_12 G a _) rfl (by omega) (by decide) dX12_goesOn_6 ?_
      refine lv_topi (fun x436 e437 => ?_)
      obtain rfl : x436 = nI n9 := e437.trans ((congrFun hw12 _).trans hfi)
      refine lv_icmp_ne (tgt := 14) hx hb dX12_goesOn_7 (by decide) (fun c438 => absurd rfl c438) (fun c438 => ?_)
      refine lv_iconst (v := 1) hx hb dX12_goesOn_10 (by decide) ?_
      refine lv_goto (tgt := 15) hx hb dX12_goesOn_11 (by decide) ?_
      refine lv_istore_n (lv' := [(3, .int 1), (0, .ref h0), (1, .int (nI p9)), (2, .int (nI n9))]) hx hb dX12_goesOn_15 rfl hl (by decide) rfl (fun ls hl => ?_)
      refine lv_aload_n hx hb dX12_goesOn_16 rfl (lv_at hl 1 rfl) ?_
      refine r_get (v := .ref (a 9)) hx hb hown hq hE hP 17 38 tFX12_17 (by decide) pw_1439 rfl dX12_goesOn_17 ?_
      refine lv_iload_n hx hb dX12_goesOn_20 rfl (lv_at hl 2 rfl) ?_
      refine r_ldi (f := (B 9)) (j := p9) hx hb hE hP 9 (ma_9 G a _) rfl (by omega) (by decide) dX12_goesOn_21 ?_
      refine lv_topi (fun x439 e440 => ?_)
      obtain rfl : x439 = 19 := e440.trans ((congrFun hw9 _).trans hkd)
      refine lv_tableIn (tgt := 398) (off := 376) hx hb dX12_goesOn_22 (by decide) (by decide) (by decide) (by decide) ?_
      refine lv_iload_n hx hb dX12_goesOn_398 rfl (lv_at hl 0 rfl) ?_
      refine lv_if_eq (tgt := 455) hx hb dX12_goesOn_399 (by decide) (fun c441 => absurd c441 (by decide)) (fun c441 => ?_)
      have hk19 := (hR.k19k (uc := uc0) hp hst hkd (by omega)).2.2
      have ht1 := (hR.k19k (uc := uc0) hp hst hkd (by omega)).1
      refine lv_aload_n hx hb dX12_goesOn_402 rfl (lv_at hl 1 rfl) ?_
      refine r_get (v := .ref (a 68)) hx hb hown hq hE hP 109 218 tFX12_109 (by decide) pw_1501 rfl dX12_goesOn_403 ?_
      refine lv_aload_n hx hb dX12_goesOn_406 rfl (lv_at hl 1 rfl) ?_
      refine r_get (v := .int (nI tp)) hx hb hown hq hE hP 111 698 tFX12_111 (by decide) pw_1964 rfl dX12_goesOn_407 ?_
      refine lv_iconst (v := 1) hx hb dX12_goesOn_410 (by decide) ?_
      refine lv_isub hx hb dX12_goesOn_411 ?_
      refine lv_topi (fun x442 e443 => ?_)
      obtain rfl : x442 = nI (tp - 1) := e443.trans (nI_subN (a := 1) (b := tp) (by omega))
      refine r_ldi (f := (B 68)) (j := (tp - 1)) hx hb hE hP 68 (ma_68 G a _) rfl (by omega) (by decide) dX12_goesOn_412 ?_
      refine lv_aload_n hx hb dX12_goesOn_413 rfl (lv_at hl 1 rfl) ?_
      refine r_get (v := .ref (a 9)) hx hb hown hq hE hP 17 38 tFX12_17 (by decide) pw_1439 rfl dX12_goesOn_414 ?_
      refine lv_iload_n hx hb dX12_goesOn_417 rfl (lv_at hl 2 rfl) ?_
      refine r_ldi (f := (B 9)) (j := p9) hx hb hE hP 9 (ma_9 G a _) rfl (by omega) (by decide) dX12_goesOn_418 ?_
      refine lv_topi (fun x444 e445 => ?_)
      obtain rfl : x444 = 19 := e445.trans ((congrFun hw9 _).trans hkd)
      refine lv_bipush (v := 19) hx hb dX12_goesOn_419 (by decide) ?_
      refine lv_icmp_ne (tgt := 428) hx hb dX12_goesOn_421 (by decide) (fun c446 => absurd c446 (by decide)) (fun c446 => ?_)
      refine lv_iconst (v := 1) hx hb dX12_goesOn_424 (by decide) ?_
      refine lv_goto (tgt := 429) hx hb dX12_goesOn_425 (by decide) ?_
      refine lv_icmp_ne (tgt := 455) hx hb dX12_goesOn_429 (by decide) (fun c447 => ?_) (fun c447 => ?_)
      · clear hk19
        refine lv_aload_n hx hb dX12_goesOn_455 rfl (lv_at hl 1 rfl) ?_
        refine lv_iload_n hx hb dX12_goesOn_456 rfl (lv_at hl 2 rfl) ?_
        have hP : va_P G.1 pCl (mW G h0 a (upd (upd (upd (upd (upd (upd (upd (upd (upd (upd (upd (upd (upd (upd (upd (upd (upd (upd (upd (upd F 49 (nI md)) 97 (nI ct)) 98 (nI fl)) 99 (nI rmm)) 101 tds) 102 (nI op)) 111 (nI tp)) 115 (nI wn)) 116 (-1)) 117 (nI fu)) 118 rs0) 119 uc0) 121 ma0) 122 mc0) 123 ca) 124 mo) 125 nw) 126 isn) 128 (nI on)) 130 (nI idn)) B) _ := hP
        have hD : va_D A (mW G h0 a (upd (upd (upd (upd (upd (upd (upd (upd (upd (upd (upd (upd (upd (upd (upd (upd (upd (upd (upd (upd F 49 (nI md)) 97 (nI ct)) 98 (nI fl)) 99 (nI rmm)) 101 tds) 102 (nI op)) 111 (nI tp)) 115 (nI wn)) 116 (-1)) 117 (nI fu)) 118 rs0) 119 uc0) 121 ma0) 122 mc0) 123 ca) 124 mo) 125 nw) 126 isn) 128 (nI on)) 130 (nI idn)) B) := hD
        refine pc_V0 (G := G) (As := [.int (nI p9)]) (rest := []) hx hb hml hown hq hE hX pX0_al hP hD hS hA hl.1 (R_comesToEnd l G h0 a (upd (upd (upd (upd (upd (upd (upd (upd (upd (upd (upd (upd (upd (upd (upd (upd (upd (upd (upd (upd F 49 (nI md)) 97 (nI ct)) 98 (nI fl)) 99 (nI rmm)) 101 tds) 102 (nI op)) 111 (nI tp)) 115 (nI wn)) 116 (-1)) 117 (nI fu)) 118 rs0) 119 uc0) 121 ma0) 122 mc0) 123 ca) 124 mo) 125 nw) 126 isn) 128 (nI on)) 130 (nI idn)) B (nI p9)) (gV pw_2010 pw_2011 pw_2012 pw_1523 pw_2005) hV_X12_comesToEnd 0 9 rfl rfl rfl rfl (Nat.le_of_ble_eq_true rfl) dX12_goesOn_457 ⟨Nat.le_of_ble_eq_true rfl, Nat.le_of_ble_eq_true rfl⟩ ⟨Nat.le_of_ble_eq_true rfl, Nat.le_of_ble_eq_true rfl⟩ (fun v450 u448 H locs hw449 hP hD hS => ?_)
        obtain rfl : v450 = none := hw449
        have hP : va_P G.1 pCl (mW G h0 a (upd (upd (upd (upd (upd (upd (upd (upd (upd (upd (upd (upd (upd (upd (upd (upd (upd (upd (upd (upd F 49 (nI md)) 97 (nI ct)) 98 (nI fl)) 99 (nI rmm)) 101 tds) 102 (nI op)) 111 (nI tp)) 115 (nI wn)) 116 (-1)) 117 (nI fu)) 118 rs0) 119 uc0) 121 ma0) 122 mc0) 123 ca) 124 mo) 125 (nI p9)) 126 0) 128 (nI on)) 130 (nI idn)) B) _ := hP
        have hD : va_D A (mW G h0 a (upd (upd (upd (upd (upd (upd (upd (upd (upd (upd (upd (upd (upd (upd (upd (upd (upd (upd (upd (upd F 49 (nI md)) 97 (nI ct)) 98 (nI fl)) 99 (nI rmm)) 101 tds) 102 (nI op)) 111 (nI tp)) 115 (nI wn)) 116 (-1)) 117 (nI fu)) 118 rs0) 119 uc0) 121 ma0) 122 mc0) 123 ca) 124 mo) 125 (nI p9)) 126 0) 128 (nI on)) 130 (nI idn)) B) := hD
        refine W.widen (k := 0) (n := 0) (Nat.le_of_ble_eq_true rfl) (Nat.le_of_ble_eq_true rfl) ?_
        refine W.eq (g2 := F0 m 460 ls []) rfl ?_
        refine lv_goto (tgt := 619) hx hb dX12_goesOn_460 (by decide) ?_
        have hz451 : Nx Xs B gh nd T nm wr lz dc fd md pr bk M rmm fu (Phi gh ps op (rkN gh n9 true)) op tp wn fu rd on idn fl ct ((-1) : Int32) (nI p9) (0 : Int32) uc0 := (hR.k19k (uc := uc0) hp hst hkd (by omega)).2.1
        have hP : va_P G.1 pCl (mW G h0 a (upd (upd (upd (upd (upd (upd (upd (upd (upd (upd (upd (upd (upd (upd (upd (upd (upd (upd (upd (upd F 49 (nI md)) 97 (nI ct)) 98 (nI fl)) 99 (nI rmm)) 101 tds) 102 (nI op)) 111 (nI tp)) 115 (nI wn)) 116 ((-1) : Int32)) 117 (nI fu)) 118 rs0) 119 uc0) 121 ma0) 122 mc0) 123 ca) 124 mo) 125 (nI p9)) 126 (0 : Int32)) 128 (nI on)) 130 (nI idn)) B) _ := hP
        have hD : va_D A (mW G h0 a (upd (upd (upd (upd (upd (upd (upd (upd (upd (upd (upd (upd (upd (upd (upd (upd (upd (upd (upd (upd F 49 (nI md)) 97 (nI ct)) 98 (nI fl)) 99 (nI rmm)) 101 tds) 102 (nI op)) 111 (nI tp)) 115 (nI wn)) 116 ((-1) : Int32)) 117 (nI fu)) 118 rs0) 119 uc0) 121 ma0) 122 mc0) 123 ca) 124 mo) 125 (nI p9)) 126 (0 : Int32)) 128 (nI on)) 130 (nI idn)) B) := hD
        exact W.vret hx hb hr (fun t9 ht9 hW9 => ⟨⟨_, (op, tp, wn, fu, ((-1) : Int32), (nI p9), (0 : Int32), rs0, uc0, on, idn, fl, ct, tds, ma0, mc0, ca, mo, B), rfl, ⟨rfl, hz451⟩, by rw [ht9]; exact hP, hD⟩, hS.F ht9⟩) hS.2.2 dX12_goesOn_619
      · refine lv_aload_n hx hb dX12_goesOn_432 rfl (lv_at hl 1 rfl) ?_
        refine lv_dup hx hb dX12_goesOn_433 rfl ?_
        refine r_get (v := .int (nI tp)) hx hb hown hq hE hP 111 698 tFX12_111 (by decide) pw_1964 rfl dX12_goesOn_434 ?_
        refine lv_iconst (v := 1) hx hb dX12_goesOn_437 (by decide) ?_
        refine lv_isub hx hb dX12_goesOn_438 ?_
        refine lv_topi (fun x452 e453 => ?_)
        obtain rfl : x452 = nI (tp - 1) := e453.trans (nI_subN (a := 1) (b := tp) (by omega))
        refine r_put (v := (nI (tp - 1))) (ty := .int) hx hb hown hq hE hP hD hS 111 698 tFX12_111 (by decide) pw_1964 (by decide) rfl rfl (ms_111 a _ _) dX12_goesOn_439 (fun H locs hP hD hS => ?_)
        refine lv_aload_n hx hb dX12_goesOn_442 rfl (lv_at hl 1 rfl) ?_
        refine lv_aload_n hx hb dX12_goesOn_443 rfl (lv_at hl 1 rfl) ?_
        refine r_get (v := .ref (a 13)) hx hb hown hq hE hP 21 50 tFX12_21 (by decide) pw_1443 rfl dX12_goesOn_444 ?_
        refine lv_iload_n hx hb dX12_goesOn_447 rfl (lv_at hl 2 rfl) ?_
        refine r_ldi (f := (B 13)) (j := p9) hx hb hE hP 13 (ma_13 G a _) rfl (by omega) (by decide) dX12_goesOn_448 ?_
        obtain ⟨j1, hl1, hl2, hl3⟩ := hk19 hfi
        refine lv_topi (fun x454 e455 => ?_)
        obtain rfl : x454 = nI j1 := e455.trans ((congrFun hw13 _).trans hl1)
        have hP : va_P G.1 pCl (mW G h0 a (upd (upd (upd (upd (upd (upd (upd (upd (upd (upd (upd (upd (upd (upd (upd (upd (upd (upd (upd (upd F 49 (nI md)) 97 (nI ct)) 98 (nI fl)) 99 (nI rmm)) 101 tds) 102 (nI op)) 111 (nI (tp - 1))) 115 (nI wn)) 116 (-1)) 117 (nI fu)) 118 rs0) 119 uc0) 121 ma0) 122 mc0) 123 ca) 124 mo) 125 nw) 126 isn) 128 (nI on)) 130 (nI idn)) B) _ := hP
        have hD : va_D A (mW G h0 a (upd (upd (upd (upd (upd (upd (upd (upd (upd (upd (upd (upd (upd (upd (upd (upd (upd (upd (upd (upd F 49 (nI md)) 97 (nI ct)) 98 (nI fl)) 99 (nI rmm)) 101 tds) 102 (nI op)) 111 (nI (tp - 1))) 115 (nI wn)) 116 (-1)) 117 (nI fu)) 118 rs0) 119 uc0) 121 ma0) 122 mc0) 123 ca) 124 mo) 125 nw) 126 isn) 128 (nI on)) 130 (nI idn)) B) := hD
        refine pc_V0 (G := G) (As := [.int (nI j1)]) (rest := []) hx hb hml hown hq hE hX pX0_al hP hD hS hA hl.1 (R_begin l G h0 a (upd (upd (upd (upd (upd (upd (upd (upd (upd (upd (upd (upd (upd (upd (upd (upd (upd (upd (upd (upd F 49 (nI md)) 97 (nI ct)) 98 (nI fl)) 99 (nI rmm)) 101 tds) 102 (nI op)) 111 (nI (tp - 1))) 115 (nI wn)) 116 (-1)) 117 (nI fu)) 118 rs0) 119 uc0) 121 ma0) 122 mc0) 123 ca) 124 mo) 125 nw) 126 isn) 128 (nI on)) 130 (nI idn)) B (nI j1)) (gV pw_2016 pw_2017 pw_2018 pw_1523 pw_2002) hV_X12_begin 0 9 rfl rfl rfl rfl (Nat.le_of_ble_eq_true rfl) dX12_goesOn_449 ⟨Nat.le_of_ble_eq_true rfl, Nat.le_of_ble_eq_true rfl⟩ ⟨Nat.le_of_ble_eq_true rfl, Nat.le_of_ble_eq_true rfl⟩ (fun v458 u456 H locs hw457 hP hD hS => ?_)
        obtain rfl : v458 = none := hw457
        have hP : va_P G.1 pCl (mW G h0 a (upd (upd (upd (upd (upd (upd (upd (upd (upd (upd (upd (upd (upd (upd (upd (upd (upd (upd (upd (upd F 49 (nI md)) 97 (nI ct)) 98 (nI fl)) 99 (nI rmm)) 101 tds) 102 (nI op)) 111 (nI (tp - 1))) 115 (nI wn)) 116 (-1)) 117 (nI fu)) 118 rs0) 119 uc0) 121 ma0) 122 mc0) 123 ca) 124 mo) 125 (nI j1)) 126 1) 128 (nI on)) 130 (nI idn)) B) _ := hP
        have hD : va_D A (mW G h0 a (upd (upd (upd (upd (upd (upd (upd (upd (upd (upd (upd (upd (upd (upd (upd (upd (upd (upd (upd (upd F 49 (nI md)) 97 (nI ct)) 98 (nI fl)) 99 (nI rmm)) 101 tds) 102 (nI op)) 111 (nI (tp - 1))) 115 (nI wn)) 116 (-1)) 117 (nI fu)) 118 rs0) 119 uc0) 121 ma0) 122 mc0) 123 ca) 124 mo) 125 (nI j1)) 126 1) 128 (nI on)) 130 (nI idn)) B) := hD
        refine W.widen (k := 0) (n := 0) (Nat.le_of_ble_eq_true rfl) (Nat.le_of_ble_eq_true rfl) ?_
        refine W.eq (g2 := F0 m 452 ls []) rfl ?_
        refine lv_goto (tgt := 619) hx hb dX12_goesOn_452 (by decide) ?_
        have hz459 : Nx Xs B gh nd T nm wr lz dc fd md pr bk M rmm fu (Phi gh ps op (rkN gh n9 true)) op (tp - 1) wn fu rd on idn fl ct ((-1) : Int32) (nI j1) (1 : Int32) uc0 := hl3
        have hP : va_P G.1 pCl (mW G h0 a (upd (upd (upd (upd (upd (upd (upd (upd (upd (upd (upd (upd (upd (upd (upd (upd (upd (upd (upd (upd F 49 (nI md)) 97 (nI ct)) 98 (nI fl)) 99 (nI rmm)) 101 tds) 102 (nI op)) 111 (nI (tp - 1))) 115 (nI wn)) 116 ((-1) : Int32)) 117 (nI fu)) 118 rs0) 119 uc0) 121 ma0) 122 mc0) 123 ca) 124 mo) 125 (nI j1)) 126 (1 : Int32)) 128 (nI on)) 130 (nI idn)) B) _ := hP
        have hD : va_D A (mW G h0 a (upd (upd (upd (upd (upd (upd (upd (upd (upd (upd (upd (upd (upd (upd (upd (upd (upd (upd (upd (upd F 49 (nI md)) 97 (nI ct)) 98 (nI fl)) 99 (nI rmm)) 101 tds) 102 (nI op)) 111 (nI (tp - 1))) 115 (nI wn)) 116 ((-1) : Int32)) 117 (nI fu)) 118 rs0) 119 uc0) 121 ma0) 122 mc0) 123 ca) 124 mo) 125 (nI j1)) 126 (1 : Int32)) 128 (nI on)) 130 (nI idn)) B) := hD
        exact W.vret hx hb hr (fun t9 ht9 hW9 => ⟨⟨_, (op, (tp - 1), wn, fu, ((-1) : Int32), (nI j1), (1 : Int32), rs0, uc0, on, idn, fl, ct, tds, ma0, mc0, ca, mo, B), rfl, ⟨rfl, hz459⟩, by rw [ht9]; exact hP, hD⟩, hS.F ht9⟩) hS.2.2 dX12_goesOn_619
    · refine lv_iload_n hx hb dX12_goesOn_0 rfl (lv_at hl 2 rfl) ?_
      refine lv_aload_n hx hb dX12_goesOn_1 rfl (lv_at hl 0 rfl) ?_
      refine r_get (v := .ref (a 12)) hx hb hown hq hE hP 20 47 tFX12_20 (by decide) pw_1442 rfl dX12_goesOn_2 ?_
      refine lv_iload_n hx hb dX12_goesOn_5 rfl (lv_at hl 1 rfl) ?_
      refine r_ldi (f := (B 12)) (j := p9) hx hb hE hP 12 (ma_12 G a _) rfl (by omega) (by decide) dX12_goesOn_6 ?_
      refine lv_icmp_ne (tgt := 14) hx hb dX12_goesOn_7 (by decide) (fun c460 => ?_) (fun c460 => absurd ((congrFun hw12 _).symm.trans c460.symm) hfi)
      refine lv_iconst (v := 0) hx hb dX12_goesOn_14 (by decide) ?_
      refine lv_istore_n (lv' := [(3, .int 0), (0, .ref h0), (1, .int (nI p9)), (2, .int (nI n9))]) hx hb dX12_goesOn_15 rfl hl (by decide) rfl (fun ls hl => ?_)
      refine lv_aload_n hx hb dX12_goesOn_16 rfl (lv_at hl 1 rfl) ?_
      refine r_get (v := .ref (a 9)) hx hb hown hq hE hP 17 38 tFX12_17 (by decide) pw_1439 rfl dX12_goesOn_17 ?_
      refine lv_iload_n hx hb dX12_goesOn_20 rfl (lv_at hl 2 rfl) ?_
      refine r_ldi (f := (B 9)) (j := p9) hx hb hE hP 9 (ma_9 G a _) rfl (by omega) (by decide) dX12_goesOn_21 ?_
      refine lv_topi (fun x461 e462 => ?_)
      obtain rfl : x461 = 19 := e462.trans ((congrFun hw9 _).trans hkd)
      refine lv_tableIn (tgt := 398) (off := 376) hx hb dX12_goesOn_22 (by decide) (by decide) (by decide) (by decide) ?_
      refine lv_iload_n hx hb dX12_goesOn_398 rfl (lv_at hl 0 rfl) ?_
      refine lv_if_eq (tgt := 455) hx hb dX12_goesOn_399 (by decide) (fun c463 => ?_) (fun c463 => absurd c463 (by decide))
      refine lv_aload_n hx hb dX12_goesOn_455 rfl (lv_at hl 1 rfl) ?_
      refine lv_iload_n hx hb dX12_goesOn_456 rfl (lv_at hl 2 rfl) ?_
      have hP : va_P G.1 pCl (mW G h0 a (upd (upd (upd (upd (upd (upd (upd (upd (upd (upd (upd (upd (upd (upd (upd (upd (upd (upd (upd (upd F 49 (nI md)) 97 (nI ct)) 98 (nI fl)) 99 (nI rmm)) 101 tds) 102 (nI op)) 111 (nI tp)) 115 (nI wn)) 116 (-1)) 117 (nI fu)) 118 rs0) 119 uc0) 121 ma0) 122 mc0) 123 ca) 124 mo) 125 nw) 126 isn) 128 (nI on)) 130 (nI idn)) B) _ := hP
      have hD : va_D A (mW G h0 a (upd (upd (upd (upd (upd (upd (upd (upd (upd (upd (upd (upd (upd (upd (upd (upd (upd (upd (upd (upd F 49 (nI md)) 97 (nI ct)) 98 (nI fl)) 99 (nI rmm)) 101 tds) 102 (nI op)) 111 (nI tp)) 115 (nI wn)) 116 (-1)) 117 (nI fu)) 118 rs0) 119 uc0) 121 ma0) 122 mc0) 123 ca) 124 mo) 125 nw) 126 isn) 128 (nI on)) 130 (nI idn)) B) := hD
      refine pc_V0 (G := G) (As := [.int (nI p9)]) (rest := []) hx hb hml hown hq hE hX pX0_al hP hD hS hA hl.1 (R_comesToEnd l G h0 a (upd (upd (upd (upd (upd (upd (upd (upd (upd (upd (upd (upd (upd (upd (upd (upd (upd (upd (upd (upd F 49 (nI md)) 97 (nI ct)) 98 (nI fl)) 99 (nI rmm)) 101 tds) 102 (nI op)) 111 (nI tp)) 115 (nI wn)) 116 (-1)) 117 (nI fu)) 118 rs0) 119 uc0) 121 ma0) 122 mc0) 123 ca) 124 mo) 125 nw) 126 isn) 128 (nI on)) 130 (nI idn)) B (nI p9)) (gV pw_2010 pw_2011 pw_2012 pw_1523 pw_2005) hV_X12_comesToEnd 0 9 rfl rfl rfl rfl (Nat.le_of_ble_eq_true rfl) dX12_goesOn_457 ⟨Nat.le_of_ble_eq_true rfl, Nat.le_of_ble_eq_true rfl⟩ ⟨Nat.le_of_ble_eq_true rfl, Nat.le_of_ble_eq_true rfl⟩ (fun v466 u464 H locs hw465 hP hD hS => ?_)
      obtain rfl : v466 = none := hw465
      have hP : va_P G.1 pCl (mW G h0 a (upd (upd (upd (upd (upd (upd (upd (upd (upd (upd (upd (upd (upd (upd (upd (upd (upd (upd (upd (upd F 49 (nI md)) 97 (nI ct)) 98 (nI fl)) 99 (nI rmm)) 101 tds) 102 (nI op)) 111 (nI tp)) 115 (nI wn)) 116 (-1)) 117 (nI fu)) 118 rs0) 119 uc0) 121 ma0) 122 mc0) 123 ca) 124 mo) 125 (nI p9)) 126 0) 128 (nI on)) 130 (nI idn)) B) _ := hP
      have hD : va_D A (mW G h0 a (upd (upd (upd (upd (upd (upd (upd (upd (upd (upd (upd (upd (upd (upd (upd (upd (upd (upd (upd (upd F 49 (nI md)) 97 (nI ct)) 98 (nI fl)) 99 (nI rmm)) 101 tds) 102 (nI op)) 111 (nI tp)) 115 (nI wn)) 116 (-1)) 117 (nI fu)) 118 rs0) 119 uc0) 121 ma0) 122 mc0) 123 ca) 124 mo) 125 (nI p9)) 126 0) 128 (nI on)) 130 (nI idn)) B) := hD
      refine W.widen (k := 0) (n := 0) (Nat.le_of_ble_eq_true rfl) (Nat.le_of_ble_eq_true rfl) ?_
      refine W.eq (g2 := F0 m 460 ls []) rfl ?_
      refine lv_goto (tgt := 619) hx hb dX12_goesOn_460 (by decide) ?_
      have hz467 : Nx Xs B gh nd T nm wr lz dc fd md pr bk M rmm fu (Phi gh ps op (rkN gh n9 true)) op tp wn fu rd on idn fl ct ((-1) : Int32) (nI p9) (0 : Int32) uc0 := (hR.k19k (uc := uc0) hp hst hkd (by omega)).2.1
      have hP : va_P G.1 pCl (mW G h0 a (upd (upd (upd (upd (upd (upd (upd (upd (upd (upd (upd (upd (upd (upd (upd (upd (upd (upd (upd (upd F 49 (nI md)) 97 (nI ct)) 98 (nI fl)) 99 (nI rmm)) 101 tds) 102 (nI op)) 111 (nI tp)) 115 (nI wn)) 116 ((-1) : Int32)) 117 (nI fu)) 118 rs0) 119 uc0) 121 ma0) 122 mc0) 123 ca) 124 mo) 125 (nI p9)) 126 (0 : Int32)) 128 (nI on)) 130 (nI idn)) B) _ := hP
      have hD : va_D A (mW G h0 a (upd (upd (upd (upd (upd (upd (upd (upd (upd (upd (upd (upd (upd (upd (upd (upd (upd (upd (upd (upd F 49 (nI md)) 97 (nI ct)) 98 (nI fl)) 99 (nI rmm)) 101 tds) 102 (nI op)) 111 (nI tp)) 115 (nI wn)) 116 ((-1) : Int32)) 117 (nI fu)) 118 rs0) 119 uc0) 121 ma0) 122 mc0) 123 ca) 124 mo) 125 (nI p9)) 126 (0 : Int32)) 128 (nI on)) 130 (nI idn)) B) := hD
      exact W.vret hx hb hr (fun t9 ht9 hW9 => ⟨⟨_, (op, tp, wn, fu, ((-1) : Int32), (nI p9), (0 : Int32), rs0, uc0, on, idn, fl, ct, tds, ma0, mc0, ca, mo, B), rfl, ⟨rfl, hz467⟩, by rw [ht9]; exact hP, hD⟩, hS.F ht9⟩) hS.2.2 dX12_goesOn_619
  · by_cases hfi : Xs 12 p9 = nI n9
    · refine lv_iload_n hx hb dX12_goesOn_0 rfl (lv_at hl 2 rfl) ?_
      refine lv_aload_n hx hb dX12_goesOn_1 rfl (lv_at hl 0 rfl) ?_
      refine r_get (v := .ref (a 12)) hx hb hown hq hE hP 20 47 tFX12_20 (by decide) pw_1442 rfl dX12_goesOn_2 ?_
      refine lv_iload_n hx hb dX12_goesOn_5 rfl (lv_at hl 1 rfl) ?_
      refine r_ldi (f := (B 12)) (j := p9) hx hb hE hP 12 (ma_12 G a _) rfl (by omega) (by decide) dX12_goesOn_6 ?_
      refine lv_topi (fun x468 e469 => ?_)
      obtain rfl : x468 = nI n9 := e469.trans ((congrFun hw12 _).trans hfi)
      refine lv_icmp_ne (tgt := 14) hx hb dX12_goesOn_7 (by decide) (fun c470 => absurd rfl c470) (fun c470 => ?_)
      refine lv_iconst (v := 1) hx hb dX12_goesOn_10 (by decide) ?_
      refine lv_goto (tgt := 15) hx hb dX12_goesOn_11 (by decide) ?_
      refine lv_istore_n (lv' := [(3, .int 1), (0, .ref h0), (1, .int (nI p9)), (2, .int (nI n9))]) hx hb dX12_goesOn_15 rfl hl (by decide) rfl (fun ls hl => ?_)
      refine lv_aload_n hx hb dX12_goesOn_16 rfl (lv_at hl 1 rfl) ?_
      refine r_get (v := .ref (a 9)) hx hb hown hq hE hP 17 38 tFX12_17 (by decide) pw_1439 rfl dX12_goesOn_17 ?_
      refine lv_iload_n hx hb dX12_goesOn_20 rfl (lv_at hl 2 rfl) ?_
      refine r_ldi (f := (B 9)) (j := p9) hx hb hE hP 9 (ma_9 G a _) rfl (by omega) (by decide) dX12_goesOn_21 ?_
      refine lv_topi (fun x471 e472 => ?_)
      obtain rfl : x471 = 20 := e472.trans ((congrFun hw9 _).trans hkd)
      refine lv_tableIn (tgt := 398) (off := 376) hx hb dX12_goesOn_22 (by decide) (by decide) (by decide) (by decide) ?_
      refine lv_iload_n hx hb dX12_goesOn_398 rfl (lv_at hl 0 rfl) ?_
      refine lv_if_eq (tgt := 455) hx hb dX12_goesOn_399 (by decide) (fun c473 => absurd c473 (by decide)) (fun c473 => ?_)
      have hk19 := (hR.k19k (uc := uc0) hp hst hkd (by omega)).2.2
      have ht1 := (hR.k19k (uc := uc0) hp hst hkd (by omega)).1
      refine lv_aload_n hx hb dX12_goesOn_402 rfl (lv_at hl 1 rfl) ?_
      refine r_get (v := .ref (a 68)) hx hb hown hq hE hP 109 218 tFX12_109 (by decide) pw_1501 rfl dX12_goesOn_403 ?_
      refine lv_aload_n hx hb dX12_goesOn_406 rfl (lv_at hl 1 rfl) ?_
      refine r_get (v := .int (nI tp)) hx hb hown hq hE hP 111 698 tFX12_111 (by decide) pw_1964 rfl dX12_goesOn_407 ?_
      refine lv_iconst (v := 1) hx hb dX12_goesOn_410 (by decide) ?_
      refine lv_isub hx hb dX12_goesOn_411 ?_
      refine lv_topi (fun x474 e475 => ?_)
      obtain rfl : x474 = nI (tp - 1) := e475.trans (nI_subN (a := 1) (b := tp) (by omega))
      refine r_ldi (f := (B 68)) (j := (tp - 1)) hx hb hE hP 68 (ma_68 G a _) rfl (by omega) (by decide) dX12_goesOn_412 ?_
      refine lv_aload_n hx hb dX12_goesOn_413 rfl (lv_at hl 1 rfl) ?_
      refine r_get (v := .ref (a 9)) hx hb hown hq hE hP 17 38 tFX12_17 (by decide) pw_1439 rfl dX12_goesOn_414 ?_
      refine lv_iload_n hx hb dX12_goesOn_417 rfl (lv_at hl 2 rfl) ?_
      refine r_ldi (f := (B 9)) (j := p9) hx hb hE hP 9 (ma_9 G a _) rfl (by omega) (by decide) dX12_goesOn_418 ?_
      refine lv_topi (fun x476 e477 => ?_)
      obtain rfl : x476 = 20 := e477.trans ((congrFun hw9 _).trans hkd)
      refine lv_bipush (v := 19) hx hb dX12_goesOn_419 (by decide) ?_
      refine lv_icmp_ne (tgt := 428) hx hb dX12_goesOn_421 (by decide) (fun c478 => ?_) (fun c478 => absurd c478 (by decide))
      refine lv_iconst (v := 0) hx hb dX12_goesOn_428 (by decide) ?_
      refine lv_icmp_ne (tgt := 455) hx hb dX12_goesOn_429 (by decide) (fun c479 => ?_) (fun c479 => ?_)
      · clear hk19
        refine lv_aload_n hx hb dX12_goesOn_455 rfl (lv_at hl 1 rfl) ?_
        refine lv_iload_n hx hb dX12_goesOn_456 rfl (lv_at hl 2 rfl) ?_
        have hP : va_P G.1 pCl (mW G h0 a (upd (upd (upd (upd (upd (upd (upd (upd (upd (upd (upd (upd (upd (upd (upd (upd (upd (upd (upd (upd F 49 (nI md)) 97 (nI ct)) 98 (nI fl)) 99 (nI rmm)) 101 tds) 102 (nI op)) 111 (nI tp)) 115 (nI wn)) 116 (-1)) 117 (nI fu)) 118 rs0) 119 uc0) 121 ma0) 122 mc0) 123 ca) 124 mo) 125 nw) 126 isn) 128 (nI on)) 130 (nI idn)) B) _ := hP
        have hD : va_D A (mW G h0 a (upd (upd (upd (upd (upd (upd (upd (upd (upd (upd (upd (upd (upd (upd (upd (upd (upd (upd (upd (upd F 49 (nI md)) 97 (nI ct)) 98 (nI fl)) 99 (nI rmm)) 101 tds) 102 (nI op)) 111 (nI tp)) 115 (nI wn)) 116 (-1)) 117 (nI fu)) 118 rs0) 119 uc0) 121 ma0) 122 mc0) 123 ca) 124 mo) 125 nw) 126 isn) 128 (nI on)) 130 (nI idn)) B) := hD
        refine pc_V0 (G := G) (As := [.int (nI p9)]) (rest := []) hx hb hml hown hq hE hX pX0_al hP hD hS hA hl.1 (R_comesToEnd l G h0 a (upd (upd (upd (upd (upd (upd (upd (upd (upd (upd (upd (upd (upd (upd (upd (upd (upd (upd (upd (upd F 49 (nI md)) 97 (nI ct)) 98 (nI fl)) 99 (nI rmm)) 101 tds) 102 (nI op)) 111 (nI tp)) 115 (nI wn)) 116 (-1)) 117 (nI fu)) 118 rs0) 119 uc0) 121 ma0) 122 mc0) 123 ca) 124 mo) 125 nw) 126 isn) 128 (nI on)) 130 (nI idn)) B (nI p9)) (gV pw_2010 pw_2011 pw_2012 pw_1523 pw_2005) hV_X12_comesToEnd 0 9 rfl rfl rfl rfl (Nat.le_of_ble_eq_true rfl) dX12_goesOn_457 ⟨Nat.le_of_ble_eq_true rfl, Nat.le_of_ble_eq_true rfl⟩ ⟨Nat.le_of_ble_eq_true rfl, Nat.le_of_ble_eq_true rfl⟩ (fun v482 u480 H locs hw481 hP hD hS => ?_)
        obtain rfl : v482 = none := hw481
        have hP : va_P G.1 pCl (mW G h0 a (upd (upd (upd (upd (upd (upd (upd (upd (upd (upd (upd (upd (upd (upd (upd (upd (upd (upd (upd (upd F 49 (nI md)) 97 (nI ct)) 98 (nI fl)) 99 (nI rmm)) 101 tds) 102 (nI op)) 111 (nI tp)) 115 (nI wn)) 116 (-1)) 117 (nI fu)) 118 rs0) 119 uc0) 121 ma0) 122 mc0) 123 ca) 124 mo) 125 (nI p9)) 126 0) 128 (nI on)) 130 (nI idn)) B) _ := hP
        have hD : va_D A (mW G h0 a (upd (upd (upd (upd (upd (upd (upd (upd (upd (upd (upd (upd (upd (upd (upd (upd (upd (upd (upd (upd F 49 (nI md)) 97 (nI ct)) 98 (nI fl)) 99 (nI rmm)) 101 tds) 102 (nI op)) 111 (nI tp)) 115 (nI wn)) 116 (-1)) 117 (nI fu)) 118 rs0) 119 uc0) 121 ma0) 122 mc0) 123 ca) 124 mo) 125 (nI p9)) 126 0) 128 (nI on)) 130 (nI idn)) B) := hD
        refine W.widen (k := 0) (n := 0) (Nat.le_of_ble_eq_true rfl) (Nat.le_of_ble_eq_true rfl) ?_
        refine W.eq (g2 := F0 m 460 ls []) rfl ?_
        refine lv_goto (tgt := 619) hx hb dX12_goesOn_460 (by decide) ?_
        have hz483 : Nx Xs B gh nd T nm wr lz dc fd md pr bk M rmm fu (Phi gh ps op (rkN gh n9 true)) op tp wn fu rd on idn fl ct ((-1) : Int32) (nI p9) (0 : Int32) uc0 := (hR.k19k (uc := uc0) hp hst hkd (by omega)).2.1
        have hP : va_P G.1 pCl (mW G h0 a (upd (upd (upd (upd (upd (upd (upd (upd (upd (upd (upd (upd (upd (upd (upd (upd (upd (upd (upd (upd F 49 (nI md)) 97 (nI ct)) 98 (nI fl)) 99 (nI rmm)) 101 tds) 102 (nI op)) 111 (nI tp)) 115 (nI wn)) 116 ((-1) : Int32)) 117 (nI fu)) 118 rs0) 119 uc0) 121 ma0) 122 mc0) 123 ca) 124 mo) 125 (nI p9)) 126 (0 : Int32)) 128 (nI on)) 130 (nI idn)) B) _ := hP
        have hD : va_D A (mW G h0 a (upd (upd (upd (upd (upd (upd (upd (upd (upd (upd (upd (upd (upd (upd (upd (upd (upd (upd (upd (upd F 49 (nI md)) 97 (nI ct)) 98 (nI fl)) 99 (nI rmm)) 101 tds) 102 (nI op)) 111 (nI tp)) 115 (nI wn)) 116 ((-1) : Int32)) 117 (nI fu)) 118 rs0) 119 uc0) 121 ma0) 122 mc0) 123 ca) 124 mo) 125 (nI p9)) 126 (0 : Int32)) 128 (nI on)) 130 (nI idn)) B) := hD
        exact W.vret hx hb hr (fun t9 ht9 hW9 => ⟨⟨_, (op, tp, wn, fu, ((-1) : Int32), (nI p9), (0 : Int32), rs0, uc0, on, idn, fl, ct, tds, ma0, mc0, ca, mo, B), rfl, ⟨rfl, hz483⟩, by rw [ht9]; exact hP, hD⟩, hS.F ht9⟩) hS.2.2 dX12_goesOn_619
      · refine lv_aload_n hx hb dX12_goesOn_432 rfl (lv_at hl 1 rfl) ?_
        refine lv_dup hx hb dX12_goesOn_433 rfl ?_
        refine r_get (v := .int (nI tp)) hx hb hown hq hE hP 111 698 tFX12_111 (by decide) pw_1964 rfl dX12_goesOn_434 ?_
        refine lv_iconst (v := 1) hx hb dX12_goesOn_437 (by decide) ?_
        refine lv_isub hx hb dX12_goesOn_438 ?_
        refine lv_topi (fun x484 e485 => ?_)
        obtain rfl : x484 = nI (tp - 1) := e485.trans (nI_subN (a := 1) (b := tp) (by omega))
        refine r_put (v := (nI (tp - 1))) (ty := .int) hx hb hown hq hE hP hD hS 111 698 tFX12_111 (by decide) pw_1964 (by decide) rfl rfl (ms_111 a _ _) dX12_goesOn_439 (fun H locs hP hD hS => ?_)
        refine lv_aload_n hx hb dX12_goesOn_442 rfl (lv_at hl 1 rfl) ?_
        refine lv_aload_n hx hb dX12_goesOn_443 rfl (lv_at hl 1 rfl) ?_
        refine r_get (v := .ref (a 13)) hx hb hown hq hE hP 21 50 tFX12_21 (by decide) pw_1443 rfl dX12_goesOn_444 ?_
        refine lv_iload_n hx hb dX12_goesOn_447 rfl (lv_at hl 2 rfl) ?_
        refine r_ldi (f := (B 13)) (j := p9) hx hb hE hP 13 (ma_13 G a _) rfl (by omega) (by decide) dX12_goesOn_448 ?_
        obtain ⟨j1, hl1, hl2, hl3⟩ := hk19 hfi
        refine lv_topi (fun x486 e487 => ?_)
        obtain rfl : x486 = nI j1 := e487.trans ((congrFun hw13 _).trans hl1)
        have hP : va_P G.1 pCl (mW G h0 a (upd (upd (upd (upd (upd (upd (upd (upd (upd (upd (upd (upd (upd (upd (upd (upd (upd (upd (upd (upd F 49 (nI md)) 97 (nI ct)) 98 (nI fl)) 99 (nI rmm)) 101 tds) 102 (nI op)) 111 (nI (tp - 1))) 115 (nI wn)) 116 (-1)) 117 (nI fu)) 118 rs0) 119 uc0) 121 ma0) 122 mc0) 123 ca) 124 mo) 125 nw) 126 isn) 128 (nI on)) 130 (nI idn)) B) _ := hP
        have hD : va_D A (mW G h0 a (upd (upd (upd (upd (upd (upd (upd (upd (upd (upd (upd (upd (upd (upd (upd (upd (upd (upd (upd (upd F 49 (nI md)) 97 (nI ct)) 98 (nI fl)) 99 (nI rmm)) 101 tds) 102 (nI op)) 111 (nI (tp - 1))) 115 (nI wn)) 116 (-1)) 117 (nI fu)) 118 rs0) 119 uc0) 121 ma0) 122 mc0) 123 ca) 124 mo) 125 nw) 126 isn) 128 (nI on)) 130 (nI idn)) B) := hD
        refine pc_V0 (G := G) (As := [.int (nI j1)]) (rest := []) hx hb hml hown hq hE hX pX0_al hP hD hS hA hl.1 (R_begin l G h0 a (upd (upd (upd (upd (upd (upd (upd (upd (upd (upd (upd (upd (upd (upd (upd (upd (upd (upd (upd (upd F 49 (nI md)) 97 (nI ct)) 98 (nI fl)) 99 (nI rmm)) 101 tds) 102 (nI op)) 111 (nI (tp - 1))) 115 (nI wn)) 116 (-1)) 117 (nI fu)) 118 rs0) 119 uc0) 121 ma0) 122 mc0) 123 ca) 124 mo) 125 nw) 126 isn) 128 (nI on)) 130 (nI idn)) B (nI j1)) (gV pw_2016 pw_2017 pw_2018 pw_1523 pw_2002) hV_X12_begin 0 9 rfl rfl rfl rfl (Nat.le_of_ble_eq_true rfl) dX12_goesOn_449 ⟨Nat.le_of_ble_eq_true rfl, Nat.le_of_ble_eq_true rfl⟩ ⟨Nat.le_of_ble_eq_true rfl, Nat.le_of_ble_eq_true rfl⟩ (fun v490 u488 H locs hw489 hP hD hS => ?_)
        obtain rfl : v490 = none := hw489
        have hP : va_P G.1 pCl (mW G h0 a (upd (upd (upd (upd (upd (upd (upd (upd (upd (upd (upd (upd (upd (upd (upd (upd (upd (upd (upd (upd F 49 (nI md)) 97 (nI ct)) 98 (nI fl)) 99 (nI rmm)) 101 tds) 102 (nI op)) 111 (nI (tp - 1))) 115 (nI wn)) 116 (-1)) 117 (nI fu)) 118 rs0) 119 uc0) 121 ma0) 122 mc0) 123 ca) 124 mo) 125 (nI j1)) 126 1) 128 (nI on)) 130 (nI idn)) B) _ := hP
        have hD : va_D A (mW G h0 a (upd (upd (upd (upd (upd (upd (upd (upd (upd (upd (upd (upd (upd (upd (upd (upd (upd (upd (upd (upd F 49 (nI md)) 97 (nI ct)) 98 (nI fl)) 99 (nI rmm)) 101 tds) 102 (nI op)) 111 (nI (tp - 1))) 115 (nI wn)) 116 (-1)) 117 (nI fu)) 118 rs0) 119 uc0) 121 ma0) 122 mc0) 123 ca) 124 mo) 125 (nI j1)) 126 1) 128 (nI on)) 130 (nI idn)) B) := hD
        refine W.widen (k := 0) (n := 0) (Nat.le_of_ble_eq_true rfl) (Nat.le_of_ble_eq_true rfl) ?_
        refine W.eq (g2 := F0 m 452 ls []) rfl ?_
        refine lv_goto (tgt := 619) hx hb dX12_goesOn_452 (by decide) ?_
        have hz491 : Nx Xs B gh nd T nm wr lz dc fd md pr bk M rmm fu (Phi gh ps op (rkN gh n9 true)) op (tp - 1) wn fu rd on idn fl ct ((-1) : Int32) (nI j1) (1 : Int32) uc0 := hl3
        have hP : va_P G.1 pCl (mW G h0 a (upd (upd (upd (upd (upd (upd (upd (upd (upd (upd (upd (upd (upd (upd (upd (upd (upd (upd (upd (upd F 49 (nI md)) 97 (nI ct)) 98 (nI fl)) 99 (nI rmm)) 101 tds) 102 (nI op)) 111 (nI (tp - 1))) 115 (nI wn)) 116 ((-1) : Int32)) 117 (nI fu)) 118 rs0) 119 uc0) 121 ma0) 122 mc0) 123 ca) 124 mo) 125 (nI j1)) 126 (1 : Int32)) 128 (nI on)) 130 (nI idn)) B) _ := hP
        have hD : va_D A (mW G h0 a (upd (upd (upd (upd (upd (upd (upd (upd (upd (upd (upd (upd (upd (upd (upd (upd (upd (upd (upd (upd F 49 (nI md)) 97 (nI ct)) 98 (nI fl)) 99 (nI rmm)) 101 tds) 102 (nI op)) 111 (nI (tp - 1))) 115 (nI wn)) 116 ((-1) : Int32)) 117 (nI fu)) 118 rs0) 119 uc0) 121 ma0) 122 mc0) 123 ca) 124 mo) 125 (nI j1)) 126 (1 : Int32)) 128 (nI on)) 130 (nI idn)) B) := hD
        exact W.vret hx hb hr (fun t9 ht9 hW9 => ⟨⟨_, (op, (tp - 1), wn, fu, ((-1) : Int32), (nI j1), (1 : Int32), rs0, uc0, on, idn, fl, ct, tds, ma0, mc0, ca, mo, B), rfl, ⟨rfl, hz491⟩, by rw [ht9]; exact hP, hD⟩, hS.F ht9⟩) hS.2.2 dX12_goesOn_619
    · refine lv_iload_n hx hb dX12_goesOn_0 rfl (lv_at hl 2 rfl) ?_
      refine lv_aload_n hx hb dX12_goesOn_1 rfl (lv_at hl 0 rfl) ?_
      refine r_get (v := .ref (a 12)) hx hb hown hq hE hP 20 47 tFX12_20 (by decide) pw_1442 rfl dX12_goesOn_2 ?_
      refine lv_iload_n hx hb dX12_goesOn_5 rfl (lv_at hl 1 rfl) ?_
      refine r_ldi (f := (B 12)) (j := p9) hx hb hE hP 12 (ma_12 G a _) rfl (by omega) (by decide) dX12_goesOn_6 ?_
      refine lv_icmp_ne (tgt := 14) hx hb dX12_goesOn_7 (by decide) (fun c492 => ?_) (fun c492 => absurd ((congrFun hw12 _).symm.trans c492.symm) hfi)
      refine lv_iconst (v := 0) hx hb dX12_goesOn_14 (by decide) ?_
      refine lv_istore_n (lv' := [(3, .int 0), (0, .ref h0), (1, .int (nI p9)), (2, .int (nI n9))]) hx hb dX12_goesOn_15 rfl hl (by decide) rfl (fun ls hl => ?_)
      refine lv_aload_n hx hb dX12_goesOn_16 rfl (lv_at hl 1 rfl) ?_
      refine r_get (v := .ref (a 9)) hx hb hown hq hE hP 17 38 tFX12_17 (by decide) pw_1439 rfl dX12_goesOn_17 ?_
      refine lv_iload_n hx hb dX12_goesOn_20 rfl (lv_at hl 2 rfl) ?_
      refine r_ldi (f := (B 9)) (j := p9) hx hb hE hP 9 (ma_9 G a _) rfl (by omega) (by decide) dX12_goesOn_21 ?_
      refine lv_topi (fun x493 e494 => ?_)
      obtain rfl : x493 = 20 := e494.trans ((congrFun hw9 _).trans hkd)
      refine lv_tableIn (tgt := 398) (off := 376) hx hb dX12_goesOn_22 (by decide) (by decide) (by decide) (by decide) ?_
      refine lv_iload_n hx hb dX12_goesOn_398 rfl (lv_at hl 0 rfl) ?_
      refine lv_if_eq (tgt := 455) hx hb dX12_goesOn_399 (by decide) (fun c495 => ?_) (fun c495 => absurd c495 (by decide))
      refine lv_aload_n hx hb dX12_goesOn_455 rfl (lv_at hl 1 rfl) ?_
      refine lv_iload_n hx hb dX12_goesOn_456 rfl (lv_at hl 2 rfl) ?_
      have hP : va_P G.1 pCl (mW G h0 a (upd (upd (upd (upd (upd (upd (upd (upd (upd (upd (upd (upd (upd (upd (upd (upd (upd (upd (upd (upd F 49 (nI md)) 97 (nI ct)) 98 (nI fl)) 99 (nI rmm)) 101 tds) 102 (nI op)) 111 (nI tp)) 115 (nI wn)) 116 (-1)) 117 (nI fu)) 118 rs0) 119 uc0) 121 ma0) 122 mc0) 123 ca) 124 mo) 125 nw) 126 isn) 128 (nI on)) 130 (nI idn)) B) _ := hP
      have hD : va_D A (mW G h0 a (upd (upd (upd (upd (upd (upd (upd (upd (upd (upd (upd (upd (upd (upd (upd (upd (upd (upd (upd (upd F 49 (nI md)) 97 (nI ct)) 98 (nI fl)) 99 (nI rmm)) 101 tds) 102 (nI op)) 111 (nI tp)) 115 (nI wn)) 116 (-1)) 117 (nI fu)) 118 rs0) 119 uc0) 121 ma0) 122 mc0) 123 ca) 124 mo) 125 nw) 126 isn) 128 (nI on)) 130 (nI idn)) B) := hD
      refine pc_V0 (G := G) (As := [.int (nI p9)]) (rest := []) hx hb hml hown hq hE hX pX0_al hP hD hS hA hl.1 (R_comesToEnd l G h0 a (upd (upd (upd (upd (upd (upd (upd (upd (upd (upd (upd (upd (upd (upd (upd (upd (upd (upd (upd (upd F 49 (nI md)) 97 (nI ct)) 98 (nI fl)) 99 (nI rmm)) 101 tds) 102 (nI op)) 111 (nI tp)) 115 (nI wn)) 116 (-1)) 117 (nI fu)) 118 rs0) 119 uc0) 121 ma0) 122 mc0) 123 ca) 124 mo) 125 nw) 126 isn) 128 (nI on)) 130 (nI idn)) B (nI p9)) (gV pw_2010 pw_2011 pw_2012 pw_1523 pw_2005) hV_X12_comesToEnd 0 9 rfl rfl rfl rfl (Nat.le_of_ble_eq_true rfl) dX12_goesOn_457 ⟨Nat.le_of_ble_eq_true rfl, Nat.le_of_ble_eq_true rfl⟩ ⟨Nat.le_of_ble_eq_true rfl, Nat.le_of_ble_eq_true rfl⟩ (fun v498 u496 H locs hw497 hP hD hS => ?_)
      obtain rfl : v498 = none := hw497
      have hP : va_P G.1 pCl (mW G h0 a (upd (upd (upd (upd (upd (upd (upd (upd (upd (upd (upd (upd (upd (upd (upd (upd (upd (upd (upd (upd F 49 (nI md)) 97 (nI ct)) 98 (nI fl)) 99 (nI rmm)) 101 tds) 102 (nI op)) 111 (nI tp)) 115 (nI wn)) 116 (-1)) 117 (nI fu)) 118 rs0) 119 uc0) 121 ma0) 122 mc0) 123 ca) 124 mo) 125 (nI p9)) 126 0) 128 (nI on)) 130 (nI idn)) B) _ := hP
      have hD : va_D A (mW G h0 a (upd (upd (upd (upd (upd (upd (upd (upd (upd (upd (upd (upd (upd (upd (upd (upd (upd (upd (upd (upd F 49 (nI md)) 97 (nI ct)) 98 (nI fl)) 99 (nI rmm)) 101 tds) 102 (nI op)) 111 (nI tp)) 115 (nI wn)) 116 (-1)) 117 (nI fu)) 118 rs0) 119 uc0) 121 ma0) 122 mc0) 123 ca) 124 mo) 125 (nI p9)) 126 0) 128 (nI on)) 130 (nI idn)) B) := hD
      refine W.widen (k := 0) (n := 0) (Nat.le_of_ble_eq_true rfl) (Nat.le_of_ble_eq_true rfl) ?_
      refine W.eq (g2 := F0 m 460 ls []) rfl ?_
      refine lv_goto (tgt := 619) hx hb dX12_goesOn_460 (by decide) ?_
      have hz499 : Nx Xs B gh nd T nm wr lz dc fd md pr bk M rmm fu (Phi gh ps op (rkN gh n9 true)) op tp wn fu rd on idn fl ct ((-1) : Int32) (nI p9) (0 : Int32) uc0 := (hR.k19k (uc := uc0) hp hst hkd (by omega)).2.1
      have hP : va_P G.1 pCl (mW G h0 a (upd (upd (upd (upd (upd (upd (upd (upd (upd (upd (upd (upd (upd (upd (upd (upd (upd (upd (upd (upd F 49 (nI md)) 97 (nI ct)) 98 (nI fl)) 99 (nI rmm)) 101 tds) 102 (nI op)) 111 (nI tp)) 115 (nI wn)) 116 ((-1) : Int32)) 117 (nI fu)) 118 rs0) 119 uc0) 121 ma0) 122 mc0) 123 ca) 124 mo) 125 (nI p9)) 126 (0 : Int32)) 128 (nI on)) 130 (nI idn)) B) _ := hP
      have hD : va_D A (mW G h0 a (upd (upd (upd (upd (upd (upd (upd (upd (upd (upd (upd (upd (upd (upd (upd (upd (upd (upd (upd (upd F 49 (nI md)) 97 (nI ct)) 98 (nI fl)) 99 (nI rmm)) 101 tds) 102 (nI op)) 111 (nI tp)) 115 (nI wn)) 116 ((-1) : Int32)) 117 (nI fu)) 118 rs0) 119 uc0) 121 ma0) 122 mc0) 123 ca) 124 mo) 125 (nI p9)) 126 (0 : Int32)) 128 (nI on)) 130 (nI idn)) B) := hD
      exact W.vret hx hb hr (fun t9 ht9 hW9 => ⟨⟨_, (op, tp, wn, fu, ((-1) : Int32), (nI p9), (0 : Int32), rs0, uc0, on, idn, fl, ct, tds, ma0, mc0, ca, mo, B), rfl, ⟨rfl, hz499⟩, by rw [ht9]; exact hP, hD⟩, hS.F ht9⟩) hS.2.2 dX12_goesOn_619
  · have hfi := (hR.pl1 hp hst hkd (by omega) (by decide) rfl).1
    refine lv_iload_n hx hb dX12_goesOn_0 rfl (lv_at hl 2 rfl) ?_
    refine lv_aload_n hx hb dX12_goesOn_1 rfl (lv_at hl 0 rfl) ?_
    refine r_get (v := .ref (a 12)) hx hb hown hq hE hP 20 47 tFX12_20 (by decide) pw_1442 rfl dX12_goesOn_2 ?_
    refine lv_iload_n hx hb dX12_goesOn_5 rfl (lv_at hl 1 rfl) ?_
    refine r_ldi (f := (B 12)) (j := p9) hx hb hE hP 12 (ma_12 G a _) rfl (by omega) (by decide) dX12_goesOn_6 ?_
    refine lv_topi (fun x500 e501 => ?_)
    obtain rfl : x500 = nI n9 := e501.trans ((congrFun hw12 _).trans hfi)
    refine lv_icmp_ne (tgt := 14) hx hb dX12_goesOn_7 (by decide) (fun c502 => absurd rfl c502) (fun c502 => ?_)
    refine lv_iconst (v := 1) hx hb dX12_goesOn_10 (by decide) ?_
    refine lv_goto (tgt := 15) hx hb dX12_goesOn_11 (by decide) ?_
    refine lv_istore_n (lv' := [(3, .int 1), (0, .ref h0), (1, .int (nI p9)), (2, .int (nI n9))]) hx hb dX12_goesOn_15 rfl hl (by decide) rfl (fun ls hl => ?_)
    refine lv_aload_n hx hb dX12_goesOn_16 rfl (lv_at hl 1 rfl) ?_
    refine r_get (v := .ref (a 9)) hx hb hown hq hE hP 17 38 tFX12_17 (by decide) pw_1439 rfl dX12_goesOn_17 ?_
    refine lv_iload_n hx hb dX12_goesOn_20 rfl (lv_at hl 2 rfl) ?_
    refine r_ldi (f := (B 9)) (j := p9) hx hb hE hP 9 (ma_9 G a _) rfl (by omega) (by decide) dX12_goesOn_21 ?_
    refine lv_topi (fun x503 e504 => ?_)
    obtain rfl : x503 = 21 := e504.trans ((congrFun hw9 _).trans hkd)
    refine lv_tableIn (tgt := 463) (off := 441) hx hb dX12_goesOn_22 (by decide) (by decide) (by decide) (by decide) ?_
    refine lv_aload_n hx hb dX12_goesOn_463 rfl (lv_at hl 1 rfl) ?_
    obtain ⟨ht1, y9, x9, tn9, t9, hm1, hm2, hm3, hm4, hm5, hm6, hm7, hm8, hm9, hm10, hm11⟩ := hR.k21 hp hst hkd (by omega)
    have hm12 : t9 = 2 := hm10 rfl
    clear hm10 hm11
    have hP : va_P G.1 pCl (mW G h0 a (upd (upd (upd (upd (upd (upd (upd (upd (upd (upd (upd (upd (upd (upd (upd (upd (upd (upd (upd (upd (upd F 49 (nI md)) 97 (nI ct)) 98 (nI fl)) 99 (nI rmm)) 101 tds) 102 (nI op)) 111 (nI tp)) 115 (nI wn)) 116 (-1)) 117 (nI fu)) 118 rs0) 119 uc0) 121 ma0) 122 mc0) 123 ca) 124 mo) 125 nw) 126 isn) 128 (nI on)) 130 (nI idn)) 111 (nI tp)) (updA B 68 (B 68))) _ := hP
    have hD : va_D A (mW G h0 a (upd (upd (upd (upd (upd (upd (upd (upd (upd (upd (upd (upd (upd (upd (upd (upd (upd (upd (upd (upd (upd F 49 (nI md)) 97 (nI ct)) 98 (nI fl)) 99 (nI rmm)) 101 tds) 102 (nI op)) 111 (nI tp)) 115 (nI wn)) 116 (-1)) 117 (nI fu)) 118 rs0) 119 uc0) 121 ma0) 122 mc0) 123 ca) 124 mo) 125 nw) 126 isn) 128 (nI on)) 130 (nI idn)) 111 (nI tp)) (updA B 68 (B 68))) := hD
    refine pc_V0 (G := G) (As := []) (rest := []) hx hb hml hown hq hE hX pX0_al hP hD hS hA hl.1 (R_pop l G h0 a (upd (upd (upd (upd (upd (upd (upd (upd (upd (upd (upd (upd (upd (upd (upd (upd (upd (upd (upd (upd F 49 (nI md)) 97 (nI ct)) 98 (nI fl)) 99 (nI rmm)) 101 tds) 102 (nI op)) 111 (nI tp)) 115 (nI wn)) 116 (-1)) 117 (nI fu)) 118 rs0) 119 uc0) 121 ma0) 122 mc0) 123 ca) 124 mo) 125 nw) 126 isn) 128 (nI on)) 130 (nI idn)) B tp (B 68) (by omega)) (gV pw_2082 pw_2083 pw_2084 pw_1523 pw_1965) hV_X12_pop 0 9 rfl rfl rfl rfl (Nat.le_of_ble_eq_true rfl) dX12_goesOn_464 ⟨Nat.le_of_ble_eq_true rfl, Nat.le_of_ble_eq_true rfl⟩ ⟨Nat.le_of_ble_eq_true rfl, Nat.le_of_ble_eq_true rfl⟩ (fun v507 u505 H locs hw506 hP hD hS => ?_)
    obtain rfl : v507 = some (.int ((B 68) (tp - 1))) := hw506
    have hP : va_P G.1 pCl (mW G h0 a (upd (upd (upd (upd (upd (upd (upd (upd (upd (upd (upd (upd (upd (upd (upd (upd (upd (upd (upd (upd F 49 (nI md)) 97 (nI ct)) 98 (nI fl)) 99 (nI rmm)) 101 tds) 102 (nI op)) 111 (nI (tp - 1))) 115 (nI wn)) 116 (-1)) 117 (nI fu)) 118 rs0) 119 uc0) 121 ma0) 122 mc0) 123 ca) 124 mo) 125 nw) 126 isn) 128 (nI on)) 130 (nI idn)) B) _ := hP
    have hD : va_D A (mW G h0 a (upd (upd (upd (upd (upd (upd (upd (upd (upd (upd (upd (upd (upd (upd (upd (upd (upd (upd (upd (upd F 49 (nI md)) 97 (nI ct)) 98 (nI fl)) 99 (nI rmm)) 101 tds) 102 (nI op)) 111 (nI (tp - 1))) 115 (nI wn)) 116 (-1)) 117 (nI fu)) 118 rs0) 119 uc0) 121 ma0) 122 mc0) 123 ca) 124 mo) 125 nw) 126 isn) 128 (nI on)) 130 (nI idn)) B) := hD
    refine W.widen (k := 0) (n := 0) (Nat.le_of_ble_eq_true rfl) (Nat.le_of_ble_eq_true rfl) ?_
    refine W.eq (g2 := F0 m 467 ls [.int ((B 68) (tp - 1))]) rfl ?_
    rcases Hp.ref hPg hR.hp hm6 hm7 hm8 with hz | ⟨v9, k9, hv1, hv2, hv3, hv4, hv5, hv6, hv7⟩ | ⟨v9, so9, hv1, hv2, hv3, hv4, hv5, hv6, hv7, hv8⟩
    · refine lv_topi (fun x508 e509 => ?_)
      obtain rfl : x508 = 0 := e509.trans hz
      refine lv_istore (lv' := [(4, .int 0), (3, .int 1), (0, .ref h0), (1, .int (nI p9)), (2, .int (nI n9))]) hx hb dX12_goesOn_467 hl (by decide) rfl (fun ls hl => ?_)
      refine lv_aload_n hx hb dX12_goesOn_469 rfl (lv_at hl 2 rfl) ?_
      refine lv_iload_n hx hb dX12_goesOn_470 rfl (lv_at hl 3 rfl) ?_
      refine lv_iload hx hb dX12_goesOn_471 (lv_at hl 0 rfl) ?_
      refine lv_if_eq (tgt := 500) hx hb dX12_goesOn_473 (by decide) (fun c510 => ?_) (fun c510 => absurd c510 (by decide))
      refine lv_iconst (v := 0) hx hb dX12_goesOn_500 (by decide) ?_
      have hP : va_P G.1 pCl (mW G h0 a (upd (upd (upd (upd (upd (upd (upd (upd (upd (upd (upd (upd (upd (upd (upd (upd (upd (upd (upd (upd (upd F 49 (nI md)) 97 (nI ct)) 98 (nI fl)) 99 (nI rmm)) 101 tds) 102 (nI op)) 111 (nI (tp - 1))) 115 (nI wn)) 116 (-1)) 117 (nI fu)) 118 rs0) 119 uc0) 121 ma0) 122 mc0) 123 ca) 124 mo) 125 nw) 126 isn) 128 (nI on)) 130 (nI idn)) 111 (nI (tp - 1))) (updA (updA B 68 (B 68)) 69 (B 69))) _ := hP
      have hD : va_D A (mW G h0 a (upd (upd (upd (upd (upd (upd (upd (upd (upd (upd (upd (upd (upd (upd (upd (upd (upd (upd (upd (upd (upd F 49 (nI md)) 97 (nI ct)) 98 (nI fl)) 99 (nI rmm)) 101 tds) 102 (nI op)) 111 (nI (tp - 1))) 115 (nI wn)) 116 (-1)) 117 (nI fu)) 118 rs0) 119 uc0) 121 ma0) 122 mc0) 123 ca) 124 mo) 125 nw) 126 isn) 128 (nI on)) 130 (nI idn)) 111 (nI (tp - 1))) (updA (updA B 68 (B 68)) 69 (B 69))) := hD
      refine pc_V0 (G := G) (As := [.int (nI p9), .int 0]) (rest := []) hx hb hml hown hq hE hX pX0_al hP hD hS hA hl.1 (R_gives l G h0 a (upd (upd (upd (upd (upd (upd (upd (upd (upd (upd (upd (upd (upd (upd (upd (upd (upd (upd (upd (upd F 49 (nI md)) 97 (nI ct)) 98 (nI fl)) 99 (nI rmm)) 101 tds) 102 (nI op)) 111 (nI (tp - 1))) 115 (nI wn)) 116 (-1)) 117 (nI fu)) 118 rs0) 119 uc0) 121 ma0) 122 mc0) 123 ca) 124 mo) 125 nw) 126 isn) 128 (nI on)) 130 (nI idn)) B p9 t9 (tp - 1) 0 (B 68) (B 69) (by omega) hm9 (by omega) (by omega)) (gV pw_2069 pw_2070 pw_2071 pw_1523 pw_2006) hV_X12_gives 0 9 rfl rfl rfl rfl (Nat.le_of_ble_eq_true rfl) dX12_goesOn_501 ⟨Nat.le_of_ble_eq_true rfl, Nat.le_of_ble_eq_true rfl⟩ ⟨Nat.le_of_ble_eq_true rfl, Nat.le_of_ble_eq_true rfl⟩ (fun v513 u511 H locs hw512 hP hD hS => ?_)
      obtain ⟨b514, rf515⟩ := u511
      obtain ⟨hw512, h516, h517⟩ := hw512
      replace h516 : rf515 = upd (B 69) (tp - 1) (nI b514) := h516
      replace h517 : b514 ≤ 1 ∧ 3 * b514 ≤ t9 ∧ t9 ≤ 2 + 9000 * b514 := h517
      obtain rfl : v513 = none := hw512
      have hP : va_P G.1 pCl (mW G h0 a (upd (upd (upd (upd (upd (upd (upd (upd (upd (upd (upd (upd (upd (upd (upd (upd (upd (upd (upd (upd F 49 (nI md)) 97 (nI ct)) 98 (nI fl)) 99 (nI rmm)) 101 tds) 102 (nI op)) 111 (nI ((tp - 1) + 1))) 115 (nI wn)) 116 (-1)) 117 (nI fu)) 118 rs0) 119 uc0) 121 ma0) 122 mc0) 123 ca) 124 mo) 125 (nI p9)) 126 0) 128 (nI on)) 130 (nI idn)) (updA (updA B 68 (upd (B 68) (tp - 1) 0)) 69 rf515)) _ := hP
      have hD : va_D A (mW G h0 a (upd (upd (upd (upd (upd (upd (upd (upd (upd (upd (upd (upd (upd (upd (upd (upd (upd (upd (upd (upd F 49 (nI md)) 97 (nI ct)) 98 (nI fl)) 99 (nI rmm)) 101 tds) 102 (nI op)) 111 (nI ((tp - 1) + 1))) 115 (nI wn)) 116 (-1)) 117 (nI fu)) 118 rs0) 119 uc0) 121 ma0) 122 mc0) 123 ca) 124 mo) 125 (nI p9)) 126 0) 128 (nI on)) 130 (nI idn)) (updA (updA B 68 (upd (B 68) (tp - 1) 0)) 69 rf515)) := hD
      refine W.widen (k := 0) (n := 0) (Nat.le_of_ble_eq_true rfl) (Nat.le_of_ble_eq_true rfl) ?_
      refine W.eq (g2 := F0 m 504 ls []) rfl ?_
      obtain rfl : rf515 = _ := h516
      have hP : va_P G.1 pCl (mW G h0 a (upd (upd (upd (upd (upd (upd (upd (upd (upd (upd (upd (upd (upd (upd (upd (upd (upd (upd (upd (upd F 49 (nI md)) 97 (nI ct)) 98 (nI fl)) 99 (nI rmm)) 101 tds) 102 (nI op)) 111 (nI ((tp - 1) + 1))) 115 (nI wn)) 116 (-1)) 117 (nI fu)) 118 rs0) 119 uc0) 121 ma0) 122 mc0) 123 ca) 124 mo) 125 (nI p9)) 126 0) 128 (nI on)) 130 (nI idn)) (updA (updA B 68 (upd (B 68) (tp - 1) 0)) 69 (upd (B 69) (tp - 1) (nI b514)))) _ := hP
      have hD : va_D A (mW G h0 a (upd (upd (upd (upd (upd (upd (upd (upd (upd (upd (upd (upd (upd (upd (upd (upd (upd (upd (upd (upd F 49 (nI md)) 97 (nI ct)) 98 (nI fl)) 99 (nI rmm)) 101 tds) 102 (nI op)) 111 (nI ((tp - 1) + 1))) 115 (nI wn)) 116 (-1)) 117 (nI fu)) 118 rs0) 119 uc0) 121 ma0) 122 mc0) 123 ca) 124 mo) 125 (nI p9)) 126 0) 128 (nI on)) 130 (nI idn)) (updA (updA B 68 (upd (B 68) (tp - 1) 0)) 69 (upd (B 69) (tp - 1) (nI b514)))) := hD
      refine lv_goto (tgt := 619) hx hb dX12_goesOn_504 (by decide) ?_
      have hz518 : Nx Xs (updA (updA B 68 (upd (B 68) (tp - 1) 0)) 69 (upd (B 69) (tp - 1) (nI b514))) gh nd T nm wr lz dc fd md pr bk M rmm fu (Phi gh ps op (rkN gh n9 true)) op ((tp - 1) + 1) wn fu rd on idn fl ct ((-1) : Int32) (nI p9) (0 : Int32) uc0 := (hR.givesUp hp hst hkd (by omega) (fun h => absurd h (by omega)) hm9 (by unfold TyC; omega) (by omega) (VTd.num (by omega)) h517 (by omega))
      have hP : va_P G.1 pCl (mW G h0 a (upd (upd (upd (upd (upd (upd (upd (upd (upd (upd (upd (upd (upd (upd (upd (upd (upd (upd (upd (upd F 49 (nI md)) 97 (nI ct)) 98 (nI fl)) 99 (nI rmm)) 101 tds) 102 (nI op)) 111 (nI ((tp - 1) + 1))) 115 (nI wn)) 116 ((-1) : Int32)) 117 (nI fu)) 118 rs0) 119 uc0) 121 ma0) 122 mc0) 123 ca) 124 mo) 125 (nI p9)) 126 (0 : Int32)) 128 (nI on)) 130 (nI idn)) (updA (updA B 68 (upd (B 68) (tp - 1) 0)) 69 (upd (B 69) (tp - 1) (nI b514)))) _ := hP
      have hD : va_D A (mW G h0 a (upd (upd (upd (upd (upd (upd (upd (upd (upd (upd (upd (upd (upd (upd (upd (upd (upd (upd (upd (upd F 49 (nI md)) 97 (nI ct)) 98 (nI fl)) 99 (nI rmm)) 101 tds) 102 (nI op)) 111 (nI ((tp - 1) + 1))) 115 (nI wn)) 116 ((-1) : Int32)) 117 (nI fu)) 118 rs0) 119 uc0) 121 ma0) 122 mc0) 123 ca) 124 mo) 125 (nI p9)) 126 (0 : Int32)) 128 (nI on)) 130 (nI idn)) (updA (updA B 68 (upd (B 68) (tp - 1) 0)) 69 (upd (B 69) (tp - 1) (nI b514)))) := hD
      exact W.vret hx hb hr (fun t9 ht9 hW9 => ⟨⟨_, (op, ((tp - 1) + 1), wn, fu, ((-1) : Int32), (nI p9), (0 : Int32), rs0, uc0, on, idn, fl, ct, tds, ma0, mc0, ca, mo, (updA (updA B 68 (upd (B 68) (tp - 1) 0)) 69 (upd (B 69) (tp - 1) (nI b514)))), rfl, ⟨rfl, hz518⟩, by rw [ht9]; exact hP, hD⟩, hS.F ht9⟩) hS.2.2 dX12_goesOn_619
    · refine lv_topi (fun x519 e520 => ?_)
      obtain rfl : x519 = nI v9 := e520.trans hv1
      refine lv_istore (lv' := [(4, .int (nI v9)), (3, .int 1), (0, .ref h0), (1, .int (nI p9)), (2, .int (nI n9))]) hx hb dX12_goesOn_467 hl (by decide) rfl (fun ls hl => ?_)
      refine lv_aload_n hx hb dX12_goesOn_469 rfl (lv_at hl 2 rfl) ?_
      refine lv_iload_n hx hb dX12_goesOn_470 rfl (lv_at hl 3 rfl) ?_
      refine lv_iload hx hb dX12_goesOn_471 (lv_at hl 0 rfl) ?_
      refine lv_if_eq (tgt := 500) hx hb dX12_goesOn_473 (by decide) (fun c521 => (by have n522 : v9 = 0 := (nI_eq (a := v9) (b := 0) (by omega) (by omega)).mp c521; omega)) (fun c521 => ?_)
      refine lv_aload_n hx hb dX12_goesOn_476 rfl (lv_at hl 2 rfl) ?_
      refine lv_iload hx hb dX12_goesOn_477 (lv_at hl 0 rfl) ?_
      refine lv_aload_n hx hb dX12_goesOn_479 rfl (lv_at hl 2 rfl) ?_
      refine r_get (v := .ref (a 21)) hx hb hown hq hE hP 30 75 tFX12_30 (by decide) pw_1452 rfl dX12_goesOn_480 ?_
      refine lv_aload_n hx hb dX12_goesOn_483 rfl (lv_at hl 2 rfl) ?_
      refine r_get (v := .ref (a 13)) hx hb hown hq hE hP 21 50 tFX12_21 (by decide) pw_1443 rfl dX12_goesOn_484 ?_
      refine lv_iload_n hx hb dX12_goesOn_487 rfl (lv_at hl 3 rfl) ?_
      refine r_ldi (f := (B 13)) (j := p9) hx hb hE hP 13 (ma_13 G a _) rfl (by omega) (by decide) dX12_goesOn_488 ?_
      refine lv_topi (fun x523 e524 => ?_)
      obtain rfl : x523 = nI y9 := e524.trans ((congrFun hw13 _).trans hm1)
      refine r_ldi (f := (B 21)) (j := y9) hx hb hE hP 21 (ma_21 G a _) rfl (by omega) (by decide) dX12_goesOn_489 ?_
      refine lv_topi (fun x525 e526 => ?_)
      obtain rfl : x525 = nI x9 := e526.trans ((congrFun hw21 _).trans hm3)
      have hbi9 : ∀ i : Nat, i < 1600 → B 31 i = 0 ∨ B 31 i = 1 := by rw [hw31]; exact hPg.1.1.2.2.1
      have hP : va_P G.1 pCl (mW G h0 a (upd (upd (upd (upd (upd (upd (upd (upd (upd (upd (upd (upd (upd (upd (upd (upd (upd (upd (upd (upd F 49 (nI md)) 97 (nI ct)) 98 (nI fl)) 99 (nI rmm)) 101 tds) 102 (nI op)) 111 (nI (tp - 1))) 115 (nI wn)) 116 (-1)) 117 (nI fu)) 118 rs0) 119 uc0) 121 ma0) 122 mc0) 123 ca) 124 mo) 125 nw) 126 isn) 128 (nI on)) 130 (nI idn)) (updA (updA (updA B 31 (B 31)) 55 (B 55)) 56 (B 56))) _ := hP
      have hD : va_D A (mW G h0 a (upd (upd (upd (upd (upd (upd (upd (upd (upd (upd (upd (upd (upd (upd (upd (upd (upd (upd (upd (upd F 49 (nI md)) 97 (nI ct)) 98 (nI fl)) 99 (nI rmm)) 101 tds) 102 (nI op)) 111 (nI (tp - 1))) 115 (nI wn)) 116 (-1)) 117 (nI fu)) 118 rs0) 119 uc0) 121 ma0) 122 mc0) 123 ca) 124 mo) 125 nw) 126 isn) 128 (nI on)) 130 (nI idn)) (updA (updA (updA B 31 (B 31)) 55 (B 55)) 56 (B 56))) := hD
      refine pc_V0 (G := G) (As := [.int (nI v9), .int (nI x9)]) (rest := [.int (nI p9), .ref h0]) hx hb hml hown hq hE hX pX0_al hP hD hS hA hl.1 (R_isOfC l G h0 a (upd (upd (upd (upd (upd (upd (upd (upd (upd (upd (upd (upd (upd (upd (upd (upd (upd (upd (upd (upd F 49 (nI md)) 97 (nI ct)) 98 (nI fl)) 99 (nI rmm)) 101 tds) 102 (nI op)) 111 (nI (tp - 1))) 115 (nI wn)) 116 (-1)) 117 (nI fu)) 118 rs0) 119 uc0) 121 ma0) 122 mc0) 123 ca) 124 mo) 125 nw) 126 isn) 128 (nI on)) 130 (nI idn)) B v9 x9 dc k9 (B 55) (B 56) (B 31) ⟨hv2, hv3⟩ hm4 (by omega) (by omega) hbi9 hv5 hv6) (gV pw_2108 pw_2109 pw_2110 pw_1523 pw_1998) hV_X12_isOf 0 9 rfl rfl rfl rfl (Nat.le_of_ble_eq_true rfl) dX12_goesOn_490 ⟨Nat.le_of_ble_eq_true rfl, Nat.le_of_ble_eq_true rfl⟩ ⟨Nat.le_of_ble_eq_true rfl, Nat.le_of_ble_eq_true rfl⟩ (fun v529 u527 H locs hw528 hP hD hS => ?_)
      obtain ⟨r530, rfl⟩ : ∃ z, z = u527 := ⟨_, rfl⟩
      obtain ⟨hw528, h531, h532⟩ := hw528
      replace h531 : r530 ≤ 1 := h531
      replace h532 : If (r530 = 1) (fitF (B 31) (10 + k9) x9 = 1) := h532
      obtain rfl : v529 = some (.int (nI r530)) := hw528
      have hP : va_P G.1 pCl (mW G h0 a (upd (upd (upd (upd (upd (upd (upd (upd (upd (upd (upd (upd (upd (upd (upd (upd (upd (upd (upd (upd F 49 (nI md)) 97 (nI ct)) 98 (nI fl)) 99 (nI rmm)) 101 tds) 102 (nI op)) 111 (nI (tp - 1))) 115 (nI wn)) 116 (-1)) 117 (nI fu)) 118 rs0) 119 uc0) 121 ma0) 122 mc0) 123 ca) 124 mo) 125 nw) 126 isn) 128 (nI on)) 130 (nI idn)) B) _ := hP
      have hD : va_D A (mW G h0 a (upd (upd (upd (upd (upd (upd (upd (upd (upd (upd (upd (upd (upd (upd (upd (upd (upd (upd (upd (upd F 49 (nI md)) 97 (nI ct)) 98 (nI fl)) 99 (nI rmm)) 101 tds) 102 (nI op)) 111 (nI (tp - 1))) 115 (nI wn)) 116 (-1)) 117 (nI fu)) 118 rs0) 119 uc0) 121 ma0) 122 mc0) 123 ca) 124 mo) 125 nw) 126 isn) 128 (nI on)) 130 (nI idn)) B) := hD
      refine W.widen (k := 0) (n := 0) (Nat.le_of_ble_eq_true rfl) (Nat.le_of_ble_eq_true rfl) ?_
      refine W.eq (g2 := F0 m 493 ls [.int (nI r530), .int (nI p9), .ref h0]) rfl ?_
      refine lv_if_eq (tgt := 500) hx hb dX12_goesOn_493 (by decide) (fun c533 => ?_) (fun c533 => ?_)
      · have n534 : r530 = 0 := (nI_eq (a := r530) (b := 0) (by omega) (by omega)).mp c533
        refine lv_iconst (v := 0) hx hb dX12_goesOn_500 (by decide) ?_
        have hP : va_P G.1 pCl (mW G h0 a (upd (upd (upd (upd (upd (upd (upd (upd (upd (upd (upd (upd (upd (upd (upd (upd (upd (upd (upd (upd (upd F 49 (nI md)) 97 (nI ct)) 98 (nI fl)) 99 (nI rmm)) 101 tds) 102 (nI op)) 111 (nI (tp - 1))) 115 (nI wn)) 116 (-1)) 117 (nI fu)) 118 rs0) 119 uc0) 121 ma0) 122 mc0) 123 ca) 124 mo) 125 nw) 126 isn) 128 (nI on)) 130 (nI idn)) 111 (nI (tp - 1))) (updA (updA B 68 (B 68)) 69 (B 69))) _ := hP
        have hD : va_D A (mW G h0 a (upd (upd (upd (upd (upd (upd (upd (upd (upd (upd (upd (upd (upd (upd (upd (upd (upd (upd (upd (upd (upd F 49 (nI md)) 97 (nI ct)) 98 (nI fl)) 99 (nI rmm)) 101 tds) 102 (nI op)) 111 (nI (tp - 1))) 115 (nI wn)) 116 (-1)) 117 (nI fu)) 118 rs0) 119 uc0) 121 ma0) 122 mc0) 123 ca) 124 mo) 125 nw) 126 isn) 128 (nI on)) 130 (nI idn)) 111 (nI (tp - 1))) (updA (updA B 68 (B 68)) 69 (B 69))) := hD
        refine pc_V0 (G := G) (As := [.int (nI p9), .int 0]) (rest := []) hx hb hml hown hq hE hX pX0_al hP hD hS hA hl.1 (R_gives l G h0 a (upd (upd (upd (upd (upd (upd (upd (upd (upd (upd (upd (upd (upd (upd (upd (upd (upd (upd (upd (upd F 49 (nI md)) 97 (nI ct)) 98 (nI fl)) 99 (nI rmm)) 101 tds) 102 (nI op)) 111 (nI (tp - 1))) 115 (nI wn)) 116 (-1)) 117 (nI fu)) 118 rs0) 119 uc0) 121 ma0) 122 mc0) 123 ca) 124 mo) 125 nw) 126 isn) 128 (nI on)) 130 (nI idn)) B p9 t9 (tp - 1) 0 (B 68) (B 69) (by omega) hm9 (by omega) (by omega)) (gV pw_2069 pw_2070 pw_2071 pw_1523 pw_2006) hV_X12_gives 0 9 rfl rfl rfl rfl (Nat.le_of_ble_eq_true rfl) dX12_goesOn_501 ⟨Nat.le_of_ble_eq_true rfl, Nat.le_of_ble_eq_true rfl⟩ ⟨Nat.le_of_ble_eq_true rfl, Nat.le_of_ble_eq_true rfl⟩ (fun v537 u535 H locs hw536 hP hD hS => ?_)
        obtain ⟨b538, rf539⟩ := u535
        obtain ⟨hw536, h540, h541⟩ := hw536
        replace h540 : rf539 = upd (B 69) (tp - 1) (nI b538) := h540
        replace h541 : b538 ≤ 1 ∧ 3 * b538 ≤ t9 ∧ t9 ≤ 2 + 9000 * b538 := h541
        obtain rfl : v537 = none := hw536
        have hP : va_P G.1 pCl (mW G h0 a (upd (upd (upd (upd (upd (upd (upd (upd (upd (upd (upd (upd (upd (upd (upd (upd (upd (upd (upd (upd F 49 (nI md)) 97 (nI ct)) 98 (nI fl)) 99 (nI rmm)) 101 tds) 102 (nI op)) 111 (nI ((tp - 1) + 1))) 115 (nI wn)) 116 (-1)) 117 (nI fu)) 118 rs0) 119 uc0) 121 ma0) 122 mc0) 123 ca) 124 mo) 125 (nI p9)) 126 0) 128 (nI on)) 130 (nI idn)) (updA (updA B 68 (upd (B 68) (tp - 1) 0)) 69 rf539)) _ := hP
        have hD : va_D A (mW G h0 a (upd (upd (upd (upd (upd (upd (upd (upd (upd (upd (upd (upd (upd (upd (upd (upd (upd (upd (upd (upd F 49 (nI md)) 97 (nI ct)) 98 (nI fl)) 99 (nI rmm)) 101 tds) 102 (nI op)) 111 (nI ((tp - 1) + 1))) 115 (nI wn)) 116 (-1)) 117 (nI fu)) 118 rs0) 119 uc0) 121 ma0) 122 mc0) 123 ca) 124 mo) 125 (nI p9)) 126 0) 128 (nI on)) 130 (nI idn)) (updA (updA B 68 (upd (B 68) (tp - 1) 0)) 69 rf539)) := hD
        refine W.widen (k := 0) (n := 0) (Nat.le_of_ble_eq_true rfl) (Nat.le_of_ble_eq_true rfl) ?_
        refine W.eq (g2 := F0 m 504 ls []) rfl ?_
        obtain rfl : rf539 = _ := h540
        have hP : va_P G.1 pCl (mW G h0 a (upd (upd (upd (upd (upd (upd (upd (upd (upd (upd (upd (upd (upd (upd (upd (upd (upd (upd (upd (upd F 49 (nI md)) 97 (nI ct)) 98 (nI fl)) 99 (nI rmm)) 101 tds) 102 (nI op)) 111 (nI ((tp - 1) + 1))) 115 (nI wn)) 116 (-1)) 117 (nI fu)) 118 rs0) 119 uc0) 121 ma0) 122 mc0) 123 ca) 124 mo) 125 (nI p9)) 126 0) 128 (nI on)) 130 (nI idn)) (updA (updA B 68 (upd (B 68) (tp - 1) 0)) 69 (upd (B 69) (tp - 1) (nI b538)))) _ := hP
        have hD : va_D A (mW G h0 a (upd (upd (upd (upd (upd (upd (upd (upd (upd (upd (upd (upd (upd (upd (upd (upd (upd (upd (upd (upd F 49 (nI md)) 97 (nI ct)) 98 (nI fl)) 99 (nI rmm)) 101 tds) 102 (nI op)) 111 (nI ((tp - 1) + 1))) 115 (nI wn)) 116 (-1)) 117 (nI fu)) 118 rs0) 119 uc0) 121 ma0) 122 mc0) 123 ca) 124 mo) 125 (nI p9)) 126 0) 128 (nI on)) 130 (nI idn)) (updA (updA B 68 (upd (B 68) (tp - 1) 0)) 69 (upd (B 69) (tp - 1) (nI b538)))) := hD
        refine lv_goto (tgt := 619) hx hb dX12_goesOn_504 (by decide) ?_
        have hz542 : Nx Xs (updA (updA B 68 (upd (B 68) (tp - 1) 0)) 69 (upd (B 69) (tp - 1) (nI b538))) gh nd T nm wr lz dc fd md pr bk M rmm fu (Phi gh ps op (rkN gh n9 true)) op ((tp - 1) + 1) wn fu rd on idn fl ct ((-1) : Int32) (nI p9) (0 : Int32) uc0 := (hR.givesUp hp hst hkd (by omega) (fun h => absurd h (by omega)) hm9 (by unfold TyC; omega) (by omega) (VTd.num (by omega)) h541 (by omega))
        have hP : va_P G.1 pCl (mW G h0 a (upd (upd (upd (upd (upd (upd (upd (upd (upd (upd (upd (upd (upd (upd (upd (upd (upd (upd (upd (upd F 49 (nI md)) 97 (nI ct)) 98 (nI fl)) 99 (nI rmm)) 101 tds) 102 (nI op)) 111 (nI ((tp - 1) + 1))) 115 (nI wn)) 116 ((-1) : Int32)) 117 (nI fu)) 118 rs0) 119 uc0) 121 ma0) 122 mc0) 123 ca) 124 mo) 125 (nI p9)) 126 (0 : Int32)) 128 (nI on)) 130 (nI idn)) (updA (updA B 68 (upd (B 68) (tp - 1) 0)) 69 (upd (B 69) (tp - 1) (nI b538)))) _ := hP
        have hD : va_D A (mW G h0 a (upd (upd (upd (upd (upd (upd (upd (upd (upd (upd (upd (upd (upd (upd (upd (upd (upd (upd (upd (upd F 49 (nI md)) 97 (nI ct)) 98 (nI fl)) 99 (nI rmm)) 101 tds) 102 (nI op)) 111 (nI ((tp - 1) + 1))) 115 (nI wn)) 116 ((-1) : Int32)) 117 (nI fu)) 118 rs0) 119 uc0) 121 ma0) 122 mc0) 123 ca) 124 mo) 125 (nI p9)) 126 (0 : Int32)) 128 (nI on)) 130 (nI idn)) (updA (updA B 68 (upd (B 68) (tp - 1) 0)) 69 (upd (B 69) (tp - 1) (nI b538)))) := hD
        exact W.vret hx hb hr (fun t9 ht9 hW9 => ⟨⟨_, (op, ((tp - 1) + 1), wn, fu, ((-1) : Int32), (nI p9), (0 : Int32), rs0, uc0, on, idn, fl, ct, tds, ma0, mc0, ca, mo, (updA (updA B 68 (upd (B 68) (tp - 1) 0)) 69 (upd (B 69) (tp - 1) (nI b538)))), rfl, ⟨rfl, hz542⟩, by rw [ht9]; exact hP, hD⟩, hS.F ht9⟩) hS.2.2 dX12_goesOn_619
      · have n543 : ¬ (r530 = 0) := fun h9 => c533 ((nI_eq (a := r530) (b := 0) (by omega) (by omega)).mpr h9)
        refine lv_iconst (v := 1) hx hb dX12_goesOn_496 (by decide) ?_
        refine lv_goto (tgt := 501) hx hb dX12_goesOn_497 (by decide) ?_
        have hP : va_P G.1 pCl (mW G h0 a (upd (upd (upd (upd (upd (upd (upd (upd (upd (upd (upd (upd (upd (upd (upd (upd (upd (upd (upd (upd (upd F 49 (nI md)) 97 (nI ct)) 98 (nI fl)) 99 (nI rmm)) 101 tds) 102 (nI op)) 111 (nI (tp - 1))) 115 (nI wn)) 116 (-1)) 117 (nI fu)) 118 rs0) 119 uc0) 121 ma0) 122 mc0) 123 ca) 124 mo) 125 nw) 126 isn) 128 (nI on)) 130 (nI idn)) 111 (nI (tp - 1))) (updA (updA B 68 (B 68)) 69 (B 69))) _ := hP
        have hD : va_D A (mW G h0 a (upd (upd (upd (upd (upd (upd (upd (upd (upd (upd (upd (upd (upd (upd (upd (upd (upd (upd (upd (upd (upd F 49 (nI md)) 97 (nI ct)) 98 (nI fl)) 99 (nI rmm)) 101 tds) 102 (nI op)) 111 (nI (tp - 1))) 115 (nI wn)) 116 (-1)) 117 (nI fu)) 118 rs0) 119 uc0) 121 ma0) 122 mc0) 123 ca) 124 mo) 125 nw) 126 isn) 128 (nI on)) 130 (nI idn)) 111 (nI (tp - 1))) (updA (updA B 68 (B 68)) 69 (B 69))) := hD
        refine pc_V0 (G := G) (As := [.int (nI p9), .int 1]) (rest := []) hx hb hml hown hq hE hX pX0_al hP hD hS hA hl.1 (R_gives l G h0 a (upd (upd (upd (upd (upd (upd (upd (upd (upd (upd (upd (upd (upd (upd (upd (upd (upd (upd (upd (upd F 49 (nI md)) 97 (nI ct)) 98 (nI fl)) 99 (nI rmm)) 101 tds) 102 (nI op)) 111 (nI (tp - 1))) 115 (nI wn)) 116 (-1)) 117 (nI fu)) 118 rs0) 119 uc0) 121 ma0) 122 mc0) 123 ca) 124 mo) 125 nw) 126 isn) 128 (nI on)) 130 (nI idn)) B p9 t9 (tp - 1) 1 (B 68) (B 69) (by omega) hm9 (by omega) (by omega)) (gV pw_2069 pw_2070 pw_2071 pw_1523 pw_2006) hV_X12_gives 0 9 rfl rfl rfl rfl (Nat.le_of_ble_eq_true rfl) dX12_goesOn_501 ⟨Nat.le_of_ble_eq_true rfl, Nat.le_of_ble_eq_true rfl⟩ ⟨Nat.le_of_ble_eq_true rfl, Nat.le_of_ble_eq_true rfl⟩ (fun v546 u544 H locs hw545 hP hD hS => ?_)
        obtain ⟨b547, rf548⟩ := u544
        obtain ⟨hw545, h549, h550⟩ := hw545
        replace h549 : rf548 = upd (B 69) (tp - 1) (nI b547) := h549
        replace h550 : b547 ≤ 1 ∧ 3 * b547 ≤ t9 ∧ t9 ≤ 2 + 9000 * b547 := h550
        obtain rfl : v546 = none := hw545
        have hP : va_P G.1 pCl (mW G h0 a (upd (upd (upd (upd (upd (upd (upd (upd (upd (upd (upd (upd (upd (upd (upd (upd (upd (upd (upd (upd F 49 (nI md)) 97 (nI ct)) 98 (nI fl)) 99 (nI rmm)) 101 tds) 102 (nI op)) 111 (nI ((tp - 1) + 1))) 115 (nI wn)) 116 (-1)) 117 (nI fu)) 118 rs0) 119 uc0) 121 ma0) 122 mc0) 123 ca) 124 mo) 125 (nI p9)) 126 0) 128 (nI on)) 130 (nI idn)) (updA (updA B 68 (upd (B 68) (tp - 1) 1)) 69 rf548)) _ := hP
        have hD : va_D A (mW G h0 a (upd (upd (upd (upd (upd (upd (upd (upd (upd (upd (upd (upd (upd (upd (upd (upd (upd (upd (upd (upd F 49 (nI md)) 97 (nI ct)) 98 (nI fl)) 99 (nI rmm)) 101 tds) 102 (nI op)) 111 (nI ((tp - 1) + 1))) 115 (nI wn)) 116 (-1)) 117 (nI fu)) 118 rs0) 119 uc0) 121 ma0) 122 mc0) 123 ca) 124 mo) 125 (nI p9)) 126 0) 128 (nI on)) 130 (nI idn)) (updA (updA B 68 (upd (B 68) (tp - 1) 1)) 69 rf548)) := hD
        refine W.widen (k := 0) (n := 0) (Nat.le_of_ble_eq_true rfl) (Nat.le_of_ble_eq_true rfl) ?_
        refine W.eq (g2 := F0 m 504 ls []) rfl ?_
        obtain rfl : rf548 = _ := h549
        have hP : va_P G.1 pCl (mW G h0 a (upd (upd (upd (upd (upd (upd (upd (upd (upd (upd (upd (upd (upd (upd (upd (upd (upd (upd (upd (upd F 49 (nI md)) 97 (nI ct)) 98 (nI fl)) 99 (nI rmm)) 101 tds) 102 (nI op)) 111 (nI ((tp - 1) + 1))) 115 (nI wn)) 116 (-1)) 117 (nI fu)) 118 rs0) 119 uc0) 121 ma0) 122 mc0) 123 ca) 124 mo) 125 (nI p9)) 126 0) 128 (nI on)) 130 (nI idn)) (updA (updA B 68 (upd (B 68) (tp - 1) 1)) 69 (upd (B 69) (tp - 1) (nI b547)))) _ := hP
        have hD : va_D A (mW G h0 a (upd (upd (upd (upd (upd (upd (upd (upd (upd (upd (upd (upd (upd (upd (upd (upd (upd (upd (upd (upd F 49 (nI md)) 97 (nI ct)) 98 (nI fl)) 99 (nI rmm)) 101 tds) 102 (nI op)) 111 (nI ((tp - 1) + 1))) 115 (nI wn)) 116 (-1)) 117 (nI fu)) 118 rs0) 119 uc0) 121 ma0) 122 mc0) 123 ca) 124 mo) 125 (nI p9)) 126 0) 128 (nI on)) 130 (nI idn)) (updA (updA B 68 (upd (B 68) (tp - 1) 1)) 69 (upd (B 69) (tp - 1) (nI b547)))) := hD
        refine lv_goto (tgt := 619) hx hb dX12_goesOn_504 (by decide) ?_
        have hz551 : Nx Xs (updA (updA B 68 (upd (B 68) (tp - 1) 1)) 69 (upd (B 69) (tp - 1) (nI b547))) gh nd T nm wr lz dc fd md pr bk M rmm fu (Phi gh ps op (rkN gh n9 true)) op ((tp - 1) + 1) wn fu rd on idn fl ct ((-1) : Int32) (nI p9) (0 : Int32) uc0 := (hR.givesUp hp hst hkd (by omega) (fun h => absurd h (by omega)) hm9 (by unfold TyC; omega) (by omega) (VTd.num (by omega)) h550 (by omega))
        have hP : va_P G.1 pCl (mW G h0 a (upd (upd (upd (upd (upd (upd (upd (upd (upd (upd (upd (upd (upd (upd (upd (upd (upd (upd (upd (upd F 49 (nI md)) 97 (nI ct)) 98 (nI fl)) 99 (nI rmm)) 101 tds) 102 (nI op)) 111 (nI ((tp - 1) + 1))) 115 (nI wn)) 116 ((-1) : Int32)) 117 (nI fu)) 118 rs0) 119 uc0) 121 ma0) 122 mc0) 123 ca) 124 mo) 125 (nI p9)) 126 (0 : Int32)) 128 (nI on)) 130 (nI idn)) (updA (updA B 68 (upd (B 68) (tp - 1) 1)) 69 (upd (B 69) (tp - 1) (nI b547)))) _ := hP
        have hD : va_D A (mW G h0 a (upd (upd (upd (upd (upd (upd (upd (upd (upd (upd (upd (upd (upd (upd (upd (upd (upd (upd (upd (upd F 49 (nI md)) 97 (nI ct)) 98 (nI fl)) 99 (nI rmm)) 101 tds) 102 (nI op)) 111 (nI ((tp - 1) + 1))) 115 (nI wn)) 116 ((-1) : Int32)) 117 (nI fu)) 118 rs0) 119 uc0) 121 ma0) 122 mc0) 123 ca) 124 mo) 125 (nI p9)) 126 (0 : Int32)) 128 (nI on)) 130 (nI idn)) (updA (updA B 68 (upd (B 68) (tp - 1) 1)) 69 (upd (B 69) (tp - 1) (nI b547)))) := hD
        exact W.vret hx hb hr (fun t9 ht9 hW9 => ⟨⟨_, (op, ((tp - 1) + 1), wn, fu, ((-1) : Int32), (nI p9), (0 : Int32), rs0, uc0, on, idn, fl, ct, tds, ma0, mc0, ca, mo, (updA (updA B 68 (upd (B 68) (tp - 1) 1)) 69 (upd (B 69) (tp - 1) (nI b547)))), rfl, ⟨rfl, hz551⟩, by rw [ht9]; exact hP, hD⟩, hS.F ht9⟩) hS.2.2 dX12_goesOn_619
    · refine lv_topi (fun x552 e553 => ?_)
      obtain rfl : x552 = nI v9 := e553.trans hv1
      refine lv_istore (lv' := [(4, .int (nI v9)), (3, .int 1), (0, .ref h0), (1, .int (nI p9)), (2, .int (nI n9))]) hx hb dX12_goesOn_467 hl (by decide) rfl (fun ls hl => ?_)
      refine lv_aload_n hx hb dX12_goesOn_469 rfl (lv_at hl 2 rfl) ?_
      refine lv_iload_n hx hb dX12_goesOn_470 rfl (lv_at hl 3 rfl) ?_
      refine lv_iload hx hb dX12_goesOn_471 (lv_at hl 0 rfl) ?_
      refine lv_if_eq (tgt := 500) hx hb dX12_goesOn_473 (by decide) (fun c554 => (by have n555 : v9 = 0 := (nI_eq (a := v9) (b := 0) (by omega) (by omega)).mp c554; omega)) (fun c554 => ?_)
      refine lv_aload_n hx hb dX12_goesOn_476 rfl (lv_at hl 2 rfl) ?_
      refine lv_iload hx hb dX12_goesOn_477 (lv_at hl 0 rfl) ?_
      refine lv_aload_n hx hb dX12_goesOn_479 rfl (lv_at hl 2 rfl) ?_
      refine r_get (v := .ref (a 21)) hx hb hown hq hE hP 30 75 tFX12_30 (by decide) pw_1452 rfl dX12_goesOn_480 ?_
      refine lv_aload_n hx hb dX12_goesOn_483 rfl (lv_at hl 2 rfl) ?_
      refine r_get (v := .ref (a 13)) hx hb hown hq hE hP 21 50 tFX12_21 (by decide) pw_1443 rfl dX12_goesOn_484 ?_
      refine lv_iload_n hx hb dX12_goesOn_487 rfl (lv_at hl 3 rfl) ?_
      refine r_ldi (f := (B 13)) (j := p9) hx hb hE hP 13 (ma_13 G a _) rfl (by omega) (by decide) dX12_goesOn_488 ?_
      refine lv_topi (fun x556 e557 => ?_)
      obtain rfl : x556 = nI y9 := e557.trans ((congrFun hw13 _).trans hm1)
      refine r_ldi (f := (B 21)) (j := y9) hx hb hE hP 21 (ma_21 G a _) rfl (by omega) (by decide) dX12_goesOn_489 ?_
      refine lv_topi (fun x558 e559 => ?_)
      obtain rfl : x558 = nI x9 := e559.trans ((congrFun hw21 _).trans hm3)
      have hbi9 : ∀ i : Nat, i < 1600 → B 31 i = 0 ∨ B 31 i = 1 := by rw [hw31]; exact hPg.1.1.2.2.1
      have hP : va_P G.1 pCl (mW G h0 a (upd (upd (upd (upd (upd (upd (upd (upd (upd (upd (upd (upd (upd (upd (upd (upd (upd (upd (upd (upd F 49 (nI md)) 97 (nI ct)) 98 (nI fl)) 99 (nI rmm)) 101 tds) 102 (nI op)) 111 (nI (tp - 1))) 115 (nI wn)) 116 (-1)) 117 (nI fu)) 118 rs0) 119 uc0) 121 ma0) 122 mc0) 123 ca) 124 mo) 125 nw) 126 isn) 128 (nI on)) 130 (nI idn)) (updA (updA (updA B 31 (B 31)) 55 (B 55)) 56 (B 56))) _ := hP
      have hD : va_D A (mW G h0 a (upd (upd (upd (upd (upd (upd (upd (upd (upd (upd (upd (upd (upd (upd (upd (upd (upd (upd (upd (upd F 49 (nI md)) 97 (nI ct)) 98 (nI fl)) 99 (nI rmm)) 101 tds) 102 (nI op)) 111 (nI (tp - 1))) 115 (nI wn)) 116 (-1)) 117 (nI fu)) 118 rs0) 119 uc0) 121 ma0) 122 mc0) 123 ca) 124 mo) 125 nw) 126 isn) 128 (nI on)) 130 (nI idn)) (updA (updA (updA B 31 (B 31)) 55 (B 55)) 56 (B 56))) := hD
      refine pc_V0 (G := G) (As := [.int (nI v9), .int (nI x9)]) (rest := [.int (nI p9), .ref h0]) hx hb hml hown hq hE hX pX0_al hP hD hS hA hl.1 (R_isOfR l G h0 a (upd (upd (upd (upd (upd (upd (upd (upd (upd (upd (upd (upd (upd (upd (upd (upd (upd (upd (upd (upd F 49 (nI md)) 97 (nI ct)) 98 (nI fl)) 99 (nI rmm)) 101 tds) 102 (nI op)) 111 (nI (tp - 1))) 115 (nI wn)) 116 (-1)) 117 (nI fu)) 118 rs0) 119 uc0) 121 ma0) 122 mc0) 123 ca) 124 mo) 125 nw) 126 isn) 128 (nI on)) 130 (nI idn)) B v9 x9 dc so9 (B 55) (B 56) (B 31) ⟨hv2, Or.inl hv3⟩ hm4 (by omega) (by omega) hbi9 hv5 hv3 hv6 hv7) (gV pw_2108 pw_2109 pw_2110 pw_1523 pw_1998) hV_X12_isOf 0 9 rfl rfl rfl rfl (Nat.le_of_ble_eq_true rfl) dX12_goesOn_490 ⟨Nat.le_of_ble_eq_true rfl, Nat.le_of_ble_eq_true rfl⟩ ⟨Nat.le_of_ble_eq_true rfl, Nat.le_of_ble_eq_true rfl⟩ (fun v562 u560 H locs hw561 hP hD hS => ?_)
      obtain ⟨r563, rfl⟩ : ∃ z, z = u560 := ⟨_, rfl⟩
      obtain ⟨hw561, h564, h565⟩ := hw561
      replace h564 : r563 ≤ 1 := h564
      replace h565 : If (r563 = 1) (fitF (B 31) (1000 + so9) x9 = 1) := h565
      obtain rfl : v562 = some (.int (nI r563)) := hw561
      have hP : va_P G.1 pCl (mW G h0 a (upd (upd (upd (upd (upd (upd (upd (upd (upd (upd (upd (upd (upd (upd (upd (upd (upd (upd (upd (upd F 49 (nI md)) 97 (nI ct)) 98 (nI fl)) 99 (nI rmm)) 101 tds) 102 (nI op)) 111 (nI (tp - 1))) 115 (nI wn)) 116 (-1)) 117 (nI fu)) 118 rs0) 119 uc0) 121 ma0) 122 mc0) 123 ca) 124 mo) 125 nw) 126 isn) 128 (nI on)) 130 (nI idn)) B) _ := hP
      have hD : va_D A (mW G h0 a (upd (upd (upd (upd (upd (upd (upd (upd (upd (upd (upd (upd (upd (upd (upd (upd (upd (upd (upd (upd F 49 (nI md)) 97 (nI ct)) 98 (nI fl)) 99 (nI rmm)) 101 tds) 102 (nI op)) 111 (nI (tp - 1))) 115 (nI wn)) 116 (-1)) 117 (nI fu)) 118 rs0) 119 uc0) 121 ma0) 122 mc0) 123 ca) 124 mo) 125 nw) 126 isn) 128 (nI on)) 130 (nI idn)) B) := hD
      refine W.widen (k := 0) (n := 0) (Nat.le_of_ble_eq_true rfl) (Nat.le_of_ble_eq_true rfl) ?_
      refine W.eq (g2 := F0 m 493 ls [.int (nI r563), .int (nI p9), .ref h0]) rfl ?_
      refine lv_if_eq (tgt := 500) hx hb dX12_goesOn_493 (by decide) (fun c566 => ?_) (fun c566 => ?_)
      · have n567 : r563 = 0 := (nI_eq (a := r563) (b := 0) (by omega) (by omega)).mp c566
        refine lv_iconst (v := 0) hx hb dX12_goesOn_500 (by decide) ?_
        have hP : va_P G.1 pCl (mW G h0 a (upd (upd (upd (upd (upd (upd (upd (upd (upd (upd (upd (upd (upd (upd (upd (upd (upd (upd (upd (upd (upd F 49 (nI md)) 97 (nI ct)) 98 (nI fl)) 99 (nI rmm)) 101 tds) 102 (nI op)) 111 (nI (tp - 1))) 115 (nI wn)) 116 (-1)) 117 (nI fu)) 118 rs0) 119 uc0) 121 ma0) 122 mc0) 123 ca) 124 mo) 125 nw) 126 isn) 128 (nI on)) 130 (nI idn)) 111 (nI (tp - 1))) (updA (updA B 68 (B 68)) 69 (B 69))) _ := hP
        have hD : va_D A (mW G h0 a (upd (upd (upd (upd (upd (upd (upd (upd (upd (upd (upd (upd (upd (upd (upd (upd (upd (upd (upd (upd (upd F 49 (nI md)) 97 (nI ct)) 98 (nI fl)) 99 (nI rmm)) 101 tds) 102 (nI op)) 111 (nI (tp - 1))) 115 (nI wn)) 116 (-1)) 117 (nI fu)) 118 rs0) 119 uc0) 121 ma0) 122 mc0) 123 ca) 124 mo) 125 nw) 126 isn) 128 (nI on)) 130 (nI idn)) 111 (nI (tp - 1))) (updA (updA B 68 (B 68)) 69 (B 69))) := hD
        refine pc_V0 (G := G) (As := [.int (nI p9), .int 0]) (rest := []) hx hb hml hown hq hE hX pX0_al hP hD hS hA hl.1 (R_gives l G h0 a (upd (upd (upd (upd (upd (upd (upd (upd (upd (upd (upd (upd (upd (upd (upd (upd (upd (upd (upd (upd F 49 (nI md)) 97 (nI ct)) 98 (nI fl)) 99 (nI rmm)) 101 tds) 102 (nI op)) 111 (nI (tp - 1))) 115 (nI wn)) 116 (-1)) 117 (nI fu)) 118 rs0) 119 uc0) 121 ma0) 122 mc0) 123 ca) 124 mo) 125 nw) 126 isn) 128 (nI on)) 130 (nI idn)) B p9 t9 (tp - 1) 0 (B 68) (B 69) (by omega) hm9 (by omega) (by omega)) (gV pw_2069 pw_2070 pw_2071 pw_1523 pw_2006) hV_X12_gives 0 9 rfl rfl rfl rfl (Nat.le_of_ble_eq_true rfl) dX12_goesOn_501 ⟨Nat.le_of_ble_eq_true rfl, Nat.le_of_ble_eq_true rfl⟩ ⟨Nat.le_of_ble_eq_true rfl, Nat.le_of_ble_eq_true rfl⟩ (fun v570 u568 H locs hw569 hP hD hS => ?_)
        obtain ⟨b571, rf572⟩ := u568
        obtain ⟨hw569, h573, h574⟩ := hw569
        replace h573 : rf572 = upd (B 69) (tp - 1) (nI b571) := h573
        replace h574 : b571 ≤ 1 ∧ 3 * b571 ≤ t9 ∧ t9 ≤ 2 + 9000 * b571 := h574
        obtain rfl : v570 = none := hw569
        have hP : va_P G.1 pCl (mW G h0 a (upd (upd (upd (upd (upd (upd (upd (upd (upd (upd (upd (upd (upd (upd (upd (upd (upd (upd (upd (upd F 49 (nI md)) 97 (nI ct)) 98 (nI fl)) 99 (nI rmm)) 101 tds) 102 (nI op)) 111 (nI ((tp - 1) + 1))) 115 (nI wn)) 116 (-1)) 117 (nI fu)) 118 rs0) 119 uc0) 121 ma0) 122 mc0) 123 ca) 124 mo) 125 (nI p9)) 126 0) 128 (nI on)) 130 (nI idn)) (updA (updA B 68 (upd (B 68) (tp - 1) 0)) 69 rf572)) _ := hP
        have hD : va_D A (mW G h0 a (upd (upd (upd (upd (upd (upd (upd (upd (upd (upd (upd (upd (upd (upd (upd (upd (upd (upd (upd (upd F 49 (nI md)) 97 (nI ct)) 98 (nI fl)) 99 (nI rmm)) 101 tds) 102 (nI op)) 111 (nI ((tp - 1) + 1))) 115 (nI wn)) 116 (-1)) 117 (nI fu)) 118 rs0) 119 uc0) 121 ma0) 122 mc0) 123 ca) 124 mo) 125 (nI p9)) 126 0) 128 (nI on)) 130 (nI idn)) (updA (updA B 68 (upd (B 68) (tp - 1) 0)) 69 rf572)) := hD
        refine W.widen (k := 0) (n := 0) (Nat.le_of_ble_eq_true rfl) (Nat.le_of_ble_eq_true rfl) ?_
        refine W.eq (g2 := F0 m 504 ls []) rfl ?_
        obtain rfl : rf572 = _ := h573
        have hP : va_P G.1 pCl (mW G h0 a (upd (upd (upd (upd (upd (upd (upd (upd (upd (upd (upd (upd (upd (upd (upd (upd (upd (upd (upd (upd F 49 (nI md)) 97 (nI ct)) 98 (nI fl)) 99 (nI rmm)) 101 tds) 102 (nI op)) 111 (nI ((tp - 1) + 1))) 115 (nI wn)) 116 (-1)) 117 (nI fu)) 118 rs0) 119 uc0) 121 ma0) 122 mc0) 123 ca) 124 mo) 125 (nI p9)) 126 0) 128 (nI on)) 130 (nI idn)) (updA (updA B 68 (upd (B 68) (tp - 1) 0)) 69 (upd (B 69) (tp - 1) (nI b571)))) _ := hP
        have hD : va_D A (mW G h0 a (upd (upd (upd (upd (upd (upd (upd (upd (upd (upd (upd (upd (upd (upd (upd (upd (upd (upd (upd (upd F 49 (nI md)) 97 (nI ct)) 98 (nI fl)) 99 (nI rmm)) 101 tds) 102 (nI op)) 111 (nI ((tp - 1) + 1))) 115 (nI wn)) 116 (-1)) 117 (nI fu)) 118 rs0) 119 uc0) 121 ma0) 122 mc0) 123 ca) 124 mo) 125 (nI p9)) 126 0) 128 (nI on)) 130 (nI idn)) (updA (updA B 68 (upd (B 68) (tp - 1) 0)) 69 (upd (B 69) (tp - 1) (nI b571)))) := hD
        refine lv_goto (tgt := 619) hx hb dX12_goesOn_504 (by decide) ?_
        have hz575 : Nx Xs (updA (updA B 68 (upd (B 68) (tp - 1) 0)) 69 (upd (B 69) (tp - 1) (nI b571))) gh nd T nm wr lz dc fd md pr bk M rmm fu (Phi gh ps op (rkN gh n9 true)) op ((tp - 1) + 1) wn fu rd on idn fl ct ((-1) : Int32) (nI p9) (0 : Int32) uc0 := (hR.givesUp hp hst hkd (by omega) (fun h => absurd h (by omega)) hm9 (by unfold TyC; omega) (by omega) (VTd.num (by omega)) h574 (by omega))
        have hP : va_P G.1 pCl (mW G h0 a (upd (upd (upd (upd (upd (upd (upd (upd (upd (upd (upd (upd (upd (upd (upd (upd (upd (upd (upd (upd F 49 (nI md)) 97 (nI ct)) 98 (nI fl)) 99 (nI rmm)) 101 tds) 102 (nI op)) 111 (nI ((tp - 1) + 1))) 115 (nI wn)) 116 ((-1) : Int32)) 117 (nI fu)) 118 rs0) 119 uc0) 121 ma0) 122 mc0) 123 ca) 124 mo) 125 (nI p9)) 126 (0 : Int32)) 128 (nI on)) 130 (nI idn)) (updA (updA B 68 (upd (B 68) (tp - 1) 0)) 69 (upd (B 69) (tp - 1) (nI b571)))) _ := hP
        have hD : va_D A (mW G h0 a (upd (upd (upd (upd (upd (upd (upd (upd (upd (upd (upd (upd (upd (upd (upd (upd (upd (upd (upd (upd F 49 (nI md)) 97 (nI ct)) 98 (nI fl)) 99 (nI rmm)) 101 tds) 102 (nI op)) 111 (nI ((tp - 1) + 1))) 115 (nI wn)) 116 ((-1) : Int32)) 117 (nI fu)) 118 rs0) 119 uc0) 121 ma0) 122 mc0) 123 ca) 124 mo) 125 (nI p9)) 126 (0 : Int32)) 128 (nI on)) 130 (nI idn)) (updA (updA B 68 (upd (B 68) (tp - 1) 0)) 69 (upd (B 69) (tp - 1) (nI b571)))) := hD
        exact W.vret hx hb hr (fun t9 ht9 hW9 => ⟨⟨_, (op, ((tp - 1) + 1), wn, fu, ((-1) : Int32), (nI p9), (0 : Int32), rs0, uc0, on, idn, fl, ct, tds, ma0, mc0, ca, mo, (updA (updA B 68 (upd (B 68) (tp - 1) 0)) 69 (upd (B 69) (tp - 1) (nI b571)))), rfl, ⟨rfl, hz575⟩, by rw [ht9]; exact hP, hD⟩, hS.F ht9⟩) hS.2.2 dX12_goesOn_619
      · have n576 : ¬ (r563 = 0) := fun h9 => c566 ((nI_eq (a := r563) (b := 0) (by omega) (by omega)).mpr h9)
        refine lv_iconst (v := 1) hx hb dX12_goesOn_496 (by decide) ?_
        refine lv_goto (tgt := 501) hx hb dX12_goesOn_497 (by decide) ?_
        have hP : va_P G.1 pCl (mW G h0 a (upd (upd (upd (upd (upd (upd (upd (upd (upd (upd (upd (upd (upd (upd (upd (upd (upd (upd (upd (upd (upd F 49 (nI md)) 97 (nI ct)) 98 (nI fl)) 99 (nI rmm)) 101 tds) 102 (nI op)) 111 (nI (tp - 1))) 115 (nI wn)) 116 (-1)) 117 (nI fu)) 118 rs0) 119 uc0) 121 ma0) 122 mc0) 123 ca) 124 mo) 125 nw) 126 isn) 128 (nI on)) 130 (nI idn)) 111 (nI (tp - 1))) (updA (updA B 68 (B 68)) 69 (B 69))) _ := hP
        have hD : va_D A (mW G h0 a (upd (upd (upd (upd (upd (upd (upd (upd (upd (upd (upd (upd (upd (upd (upd (upd (upd (upd (upd (upd (upd F 49 (nI md)) 97 (nI ct)) 98 (nI fl)) 99 (nI rmm)) 101 tds) 102 (nI op)) 111 (nI (tp - 1))) 115 (nI wn)) 116 (-1)) 117 (nI fu)) 118 rs0) 119 uc0) 121 ma0) 122 mc0) 123 ca) 124 mo) 125 nw) 126 isn) 128 (nI on)) 130 (nI idn)) 111 (nI (tp - 1))) (updA (updA B 68 (B 68)) 69 (B 69))) := hD
        refine pc_V0 (G := G) (As := [.int (nI p9), .int 1]) (rest := []) hx hb hml hown hq hE hX pX0_al hP hD hS hA hl.1 (R_gives l G h0 a (upd (upd (upd (upd (upd (upd (upd (upd (upd (upd (upd (upd (upd (upd (upd (upd (upd (upd (upd (upd F 49 (nI md)) 97 (nI ct)) 98 (nI fl)) 99 (nI rmm)) 101 tds) 102 (nI op)) 111 (nI (tp - 1))) 115 (nI wn)) 116 (-1)) 117 (nI fu)) 118 rs0) 119 uc0) 121 ma0) 122 mc0) 123 ca) 124 mo) 125 nw) 126 isn) 128 (nI on)) 130 (nI idn)) B p9 t9 (tp - 1) 1 (B 68) (B 69) (by omega) hm9 (by omega) (by omega)) (gV pw_2069 pw_2070 pw_2071 pw_1523 pw_2006) hV_X12_gives 0 9 rfl rfl rfl rfl (Nat.le_of_ble_eq_true rfl) dX12_goesOn_501 ⟨Nat.le_of_ble_eq_true rfl, Nat.le_of_ble_eq_true rfl⟩ ⟨Nat.le_of_ble_eq_true rfl, Nat.le_of_ble_eq_true rfl⟩ (fun v579 u577 H locs hw578 hP hD hS => ?_)
        obtain ⟨b580, rf581⟩ := u577
        obtain ⟨hw578, h582, h583⟩ := hw578
        replace h582 : rf581 = upd (B 69) (tp - 1) (nI b580) := h582
        replace h583 : b580 ≤ 1 ∧ 3 * b580 ≤ t9 ∧ t9 ≤ 2 + 9000 * b580 := h583
        obtain rfl : v579 = none := hw578
        have hP : va_P G.1 pCl (mW G h0 a (upd (upd (upd (upd (upd (upd (upd (upd (upd (upd (upd (upd (upd (upd (upd (upd (upd (upd (upd (upd F 49 (nI md)) 97 (nI ct)) 98 (nI fl)) 99 (nI rmm)) 101 tds) 102 (nI op)) 111 (nI ((tp - 1) + 1))) 115 (nI wn)) 116 (-1)) 117 (nI fu)) 118 rs0) 119 uc0) 121 ma0) 122 mc0) 123 ca) 124 mo) 125 (nI p9)) 126 0) 128 (nI on)) 130 (nI idn)) (updA (updA B 68 (upd (B 68) (tp - 1) 1)) 69 rf581)) _ := hP
        have hD : va_D A (mW G h0 a (upd (upd (upd (upd (upd (upd (upd (upd (upd (upd (upd (upd (upd (upd (upd (upd (upd (upd (upd (upd F 49 (nI md)) 97 (nI ct)) 98 (nI fl)) 99 (nI rmm)) 101 tds) 102 (nI op)) 111 (nI ((tp - 1) + 1))) 115 (nI wn)) 116 (-1)) 117 (nI fu)) 118 rs0) 119 uc0) 121 ma0) 122 mc0) 123 ca) 124 mo) 125 (nI p9)) 126 0) 128 (nI on)) 130 (nI idn)) (updA (updA B 68 (upd (B 68) (tp - 1) 1)) 69 rf581)) := hD
        refine W.widen (k := 0) (n := 0) (Nat.le_of_ble_eq_true rfl) (Nat.le_of_ble_eq_true rfl) ?_
        refine W.eq (g2 := F0 m 504 ls []) rfl ?_
        obtain rfl : rf581 = _ := h582
        have hP : va_P G.1 pCl (mW G h0 a (upd (upd (upd (upd (upd (upd (upd (upd (upd (upd (upd (upd (upd (upd (upd (upd (upd (upd (upd (upd F 49 (nI md)) 97 (nI ct)) 98 (nI fl)) 99 (nI rmm)) 101 tds) 102 (nI op)) 111 (nI ((tp - 1) + 1))) 115 (nI wn)) 116 (-1)) 117 (nI fu)) 118 rs0) 119 uc0) 121 ma0) 122 mc0) 123 ca) 124 mo) 125 (nI p9)) 126 0) 128 (nI on)) 130 (nI idn)) (updA (updA B 68 (upd (B 68) (tp - 1) 1)) 69 (upd (B 69) (tp - 1) (nI b580)))) _ := hP
        have hD : va_D A (mW G h0 a (upd (upd (upd (upd (upd (upd (upd (upd (upd (upd (upd (upd (upd (upd (upd (upd (upd (upd (upd (upd F 49 (nI md)) 97 (nI ct)) 98 (nI fl)) 99 (nI rmm)) 101 tds) 102 (nI op)) 111 (nI ((tp - 1) + 1))) 115 (nI wn)) 116 (-1)) 117 (nI fu)) 118 rs0) 119 uc0) 121 ma0) 122 mc0) 123 ca) 124 mo) 125 (nI p9)) 126 0) 128 (nI on)) 130 (nI idn)) (updA (updA B 68 (upd (B 68) (tp - 1) 1)) 69 (upd (B 69) (tp - 1) (nI b580)))) := hD
        refine lv_goto (tgt := 619) hx hb dX12_goesOn_504 (by decide) ?_
        have hz584 : Nx Xs (updA (updA B 68 (upd (B 68) (tp - 1) 1)) 69 (upd (B 69) (tp - 1) (nI b580))) gh nd T nm wr lz dc fd md pr bk M rmm fu (Phi gh ps op (rkN gh n9 true)) op ((tp - 1) + 1) wn fu rd on idn fl ct ((-1) : Int32) (nI p9) (0 : Int32) uc0 := (hR.givesUp hp hst hkd (by omega) (fun h => absurd h (by omega)) hm9 (by unfold TyC; omega) (by omega) (VTd.num (by omega)) h583 (by omega))
        have hP : va_P G.1 pCl (mW G h0 a (upd (upd (upd (upd (upd (upd (upd (upd (upd (upd (upd (upd (upd (upd (upd (upd (upd (upd (upd (upd F 49 (nI md)) 97 (nI ct)) 98 (nI fl)) 99 (nI rmm)) 101 tds) 102 (nI op)) 111 (nI ((tp - 1) + 1))) 115 (nI wn)) 116 ((-1) : Int32)) 117 (nI fu)) 118 rs0) 119 uc0) 121 ma0) 122 mc0) 123 ca) 124 mo) 125 (nI p9)) 126 (0 : Int32)) 128 (nI on)) 130 (nI idn)) (updA (updA B 68 (upd (B 68) (tp - 1) 1)) 69 (upd (B 69) (tp - 1) (nI b580)))) _ := hP
        have hD : va_D A (mW G h0 a (upd (upd (upd (upd (upd (upd (upd (upd (upd (upd (upd (upd (upd (upd (upd (upd (upd (upd (upd (upd F 49 (nI md)) 97 (nI ct)) 98 (nI fl)) 99 (nI rmm)) 101 tds) 102 (nI op)) 111 (nI ((tp - 1) + 1))) 115 (nI wn)) 116 ((-1) : Int32)) 117 (nI fu)) 118 rs0) 119 uc0) 121 ma0) 122 mc0) 123 ca) 124 mo) 125 (nI p9)) 126 (0 : Int32)) 128 (nI on)) 130 (nI idn)) (updA (updA B 68 (upd (B 68) (tp - 1) 1)) 69 (upd (B 69) (tp - 1) (nI b580)))) := hD
        exact W.vret hx hb hr (fun t9 ht9 hW9 => ⟨⟨_, (op, ((tp - 1) + 1), wn, fu, ((-1) : Int32), (nI p9), (0 : Int32), rs0, uc0, on, idn, fl, ct, tds, ma0, mc0, ca, mo, (updA (updA B 68 (upd (B 68) (tp - 1) 1)) 69 (upd (B 69) (tp - 1) (nI b580)))), rfl, ⟨rfl, hz584⟩, by rw [ht9]; exact hP, hD⟩, hS.F ht9⟩) hS.2.2 dX12_goesOn_619
  · have hfi := (hR.pl1 hp hst hkd (by omega) (by decide) rfl).1
    refine lv_iload_n hx hb dX12_goesOn_0 rfl (lv_at hl 2 rfl) ?_
    refine lv_aload_n hx hb dX12_goesOn_1 rfl (lv_at hl 0 rfl) ?_
    refine r_get (v := .ref (a 12)) hx hb hown hq hE hP 20 47 tFX12_20 (by decide) pw_1442 rfl dX12_goesOn_2 ?_
    refine lv_iload_n hx hb dX12_goesOn_5 rfl (lv_at hl 1 rfl) ?_
    refine r_ldi (f := (B 12)) (j := p9) hx hb hE hP 12 (ma_12 G a _) rfl (by omega) (by decide) dX12_goesOn_6 ?_
    refine lv_topi (fun x585 e586 => ?_)
    obtain rfl : x585 = nI n9 := e586.trans ((congrFun hw12 _).trans hfi)
    refine lv_icmp_ne (tgt := 14) hx hb dX12_goesOn_7 (by decide) (fun c587 => absurd rfl c587) (fun c587 => ?_)
    refine lv_iconst (v := 1) hx hb dX12_goesOn_10 (by decide) ?_
    refine lv_goto (tgt := 15) hx hb dX12_goesOn_11 (by decide) ?_
    refine lv_istore_n (lv' := [(3, .int 1), (0, .ref h0), (1, .int (nI p9)), (2, .int (nI n9))]) hx hb dX12_goesOn_15 rfl hl (by decide) rfl (fun ls hl => ?_)
    refine lv_aload_n hx hb dX12_goesOn_16 rfl (lv_at hl 1 rfl) ?_
    refine r_get (v := .ref (a 9)) hx hb hown hq hE hP 17 38 tFX12_17 (by decide) pw_1439 rfl dX12_goesOn_17 ?_
    refine lv_iload_n hx hb dX12_goesOn_20 rfl (lv_at hl 2 rfl) ?_
    refine r_ldi (f := (B 9)) (j := p9) hx hb hE hP 9 (ma_9 G a _) rfl (by omega) (by decide) dX12_goesOn_21 ?_
    refine lv_topi (fun x588 e589 => ?_)
    obtain rfl : x588 = 22 := e589.trans ((congrFun hw9 _).trans hkd)
    refine lv_tableIn (tgt := 507) (off := 485) hx hb dX12_goesOn_22 (by decide) (by decide) (by decide) (by decide) ?_
    refine lv_aload_n hx hb dX12_goesOn_507 rfl (lv_at hl 1 rfl) ?_
    obtain ⟨ht1, y9, x9, tn9, t9, hm1, hm2, hm3, hm4, hm5, hm6, hm7, hm8, hm9, hm10, hm11⟩ := hR.k21 hp hst hkd (by omega)
    have hm12 : t9 = x9 := hm11 rfl
    clear hm10 hm11
    have hP : va_P G.1 pCl (mW G h0 a (upd (upd (upd (upd (upd (upd (upd (upd (upd (upd (upd (upd (upd (upd (upd (upd (upd (upd (upd (upd (upd F 49 (nI md)) 97 (nI ct)) 98 (nI fl)) 99 (nI rmm)) 101 tds) 102 (nI op)) 111 (nI tp)) 115 (nI wn)) 116 (-1)) 117 (nI fu)) 118 rs0) 119 uc0) 121 ma0) 122 mc0) 123 ca) 124 mo) 125 nw) 126 isn) 128 (nI on)) 130 (nI idn)) 111 (nI tp)) (updA B 68 (B 68))) _ := hP
    have hD : va_D A (mW G h0 a (upd (upd (upd (upd (upd (upd (upd (upd (upd (upd (upd (upd (upd (upd (upd (upd (upd (upd (upd (upd (upd F 49 (nI md)) 97 (nI ct)) 98 (nI fl)) 99 (nI rmm)) 101 tds) 102 (nI op)) 111 (nI tp)) 115 (nI wn)) 116 (-1)) 117 (nI fu)) 118 rs0) 119 uc0) 121 ma0) 122 mc0) 123 ca) 124 mo) 125 nw) 126 isn) 128 (nI on)) 130 (nI idn)) 111 (nI tp)) (updA B 68 (B 68))) := hD
    refine pc_V0 (G := G) (As := []) (rest := []) hx hb hml hown hq hE hX pX0_al hP hD hS hA hl.1 (R_pop l G h0 a (upd (upd (upd (upd (upd (upd (upd (upd (upd (upd (upd (upd (upd (upd (upd (upd (upd (upd (upd (upd F 49 (nI md)) 97 (nI ct)) 98 (nI fl)) 99 (nI rmm)) 101 tds) 102 (nI op)) 111 (nI tp)) 115 (nI wn)) 116 (-1)) 117 (nI fu)) 118 rs0) 119 uc0) 121 ma0) 122 mc0) 123 ca) 124 mo) 125 nw) 126 isn) 128 (nI on)) 130 (nI idn)) B tp (B 68) (by omega)) (gV pw_2082 pw_2083 pw_2084 pw_1523 pw_1965) hV_X12_pop 0 9 rfl rfl rfl rfl (Nat.le_of_ble_eq_true rfl) dX12_goesOn_508 ⟨Nat.le_of_ble_eq_true rfl, Nat.le_of_ble_eq_true rfl⟩ ⟨Nat.le_of_ble_eq_true rfl, Nat.le_of_ble_eq_true rfl⟩ (fun v592 u590 H locs hw591 hP hD hS => ?_)
    obtain rfl : v592 = some (.int ((B 68) (tp - 1))) := hw591
    have hP : va_P G.1 pCl (mW G h0 a (upd (upd (upd (upd (upd (upd (upd (upd (upd (upd (upd (upd (upd (upd (upd (upd (upd (upd (upd (upd F 49 (nI md)) 97 (nI ct)) 98 (nI fl)) 99 (nI rmm)) 101 tds) 102 (nI op)) 111 (nI (tp - 1))) 115 (nI wn)) 116 (-1)) 117 (nI fu)) 118 rs0) 119 uc0) 121 ma0) 122 mc0) 123 ca) 124 mo) 125 nw) 126 isn) 128 (nI on)) 130 (nI idn)) B) _ := hP
    have hD : va_D A (mW G h0 a (upd (upd (upd (upd (upd (upd (upd (upd (upd (upd (upd (upd (upd (upd (upd (upd (upd (upd (upd (upd F 49 (nI md)) 97 (nI ct)) 98 (nI fl)) 99 (nI rmm)) 101 tds) 102 (nI op)) 111 (nI (tp - 1))) 115 (nI wn)) 116 (-1)) 117 (nI fu)) 118 rs0) 119 uc0) 121 ma0) 122 mc0) 123 ca) 124 mo) 125 nw) 126 isn) 128 (nI on)) 130 (nI idn)) B) := hD
    refine W.widen (k := 0) (n := 0) (Nat.le_of_ble_eq_true rfl) (Nat.le_of_ble_eq_true rfl) ?_
    refine W.eq (g2 := F0 m 511 ls [.int ((B 68) (tp - 1))]) rfl ?_
    rcases Hp.ref hPg hR.hp hm6 hm7 hm8 with hz | ⟨v9, k9, hv1, hv2, hv3, hv4, hv5, hv6, hv7⟩ | ⟨v9, so9, hv1, hv2, hv3, hv4, hv5, hv6, hv7, hv8⟩
    · refine lv_topi (fun x593 e594 => ?_)
      obtain rfl : x593 = 0 := e594.trans hz
      refine lv_istore (lv' := [(4, .int 0), (3, .int 1), (0, .ref h0), (1, .int (nI p9)), (2, .int (nI n9))]) hx hb dX12_goesOn_511 hl (by decide) rfl (fun ls hl => ?_)
      refine lv_iload hx hb dX12_goesOn_513 (lv_at hl 0 rfl) ?_
      refine lv_if_eq (tgt := 549) hx hb dX12_goesOn_515 (by decide) (fun c595 => ?_) (fun c595 => absurd c595 (by decide))
      refine lv_aload_n hx hb dX12_goesOn_549 rfl (lv_at hl 2 rfl) ?_
      refine lv_iload_n hx hb dX12_goesOn_550 rfl (lv_at hl 3 rfl) ?_
      refine lv_iload hx hb dX12_goesOn_551 (lv_at hl 0 rfl) ?_
      have hP : va_P G.1 pCl (mW G h0 a (upd (upd (upd (upd (upd (upd (upd (upd (upd (upd (upd (upd (upd (upd (upd (upd (upd (upd (upd (upd (upd F 49 (nI md)) 97 (nI ct)) 98 (nI fl)) 99 (nI rmm)) 101 tds) 102 (nI op)) 111 (nI (tp - 1))) 115 (nI wn)) 116 (-1)) 117 (nI fu)) 118 rs0) 119 uc0) 121 ma0) 122 mc0) 123 ca) 124 mo) 125 nw) 126 isn) 128 (nI on)) 130 (nI idn)) 111 (nI (tp - 1))) (updA (updA B 68 (B 68)) 69 (B 69))) _ := hP
      have hD : va_D A (mW G h0 a (upd (upd (upd (upd (upd (upd (upd (upd (upd (upd (upd (upd (upd (upd (upd (upd (upd (upd (upd (upd (upd F 49 (nI md)) 97 (nI ct)) 98 (nI fl)) 99 (nI rmm)) 101 tds) 102 (nI op)) 111 (nI (tp - 1))) 115 (nI wn)) 116 (-1)) 117 (nI fu)) 118 rs0) 119 uc0) 121 ma0) 122 mc0) 123 ca) 124 mo) 125 nw) 126 isn) 128 (nI on)) 130 (nI idn)) 111 (nI (tp - 1))) (updA (updA B 68 (B 68)) 69 (B 69))) := hD
      refine pc_V0 (G := G) (As := [.int (nI p9), .int 0]) (rest := []) hx hb hml hown hq hE hX pX0_al hP hD hS hA hl.1 (R_gives l G h0 a (upd (upd (upd (upd (upd (upd (upd (upd (upd (upd (upd (upd (upd (upd (upd (upd (upd (upd (upd (upd F 49 (nI md)) 97 (nI ct)) 98 (nI fl)) 99 (nI rmm)) 101 tds) 102 (nI op)) 111 (nI (tp - 1))) 115 (nI wn)) 116 (-1)) 117 (nI fu)) 118 rs0) 119 uc0) 121 ma0) 122 mc0) 123 ca) 124 mo) 125 nw) 126 isn) 128 (nI on)) 130 (nI idn)) B p9 t9 (tp - 1) 0 (B 68) (B 69) (by omega) hm9 (by omega) (by omega)) (gV pw_2069 pw_2070 pw_2071 pw_1523 pw_2006) hV_X12_gives 0 9 rfl rfl rfl rfl (Nat.le_of_ble_eq_true rfl) dX12_goesOn_553 ⟨Nat.le_of_ble_eq_true rfl, Nat.le_of_ble_eq_true rfl⟩ ⟨Nat.le_of_ble_eq_true rfl, Nat.le_of_ble_eq_true rfl⟩ (fun v598 u596 H locs hw597 hP hD hS => ?_)
      obtain ⟨b599, rf600⟩ := u596
      obtain ⟨hw597, h601, h602⟩ := hw597
      replace h601 : rf600 = upd (B 69) (tp - 1) (nI b599) := h601
      replace h602 : b599 ≤ 1 ∧ 3 * b599 ≤ t9 ∧ t9 ≤ 2 + 9000 * b599 := h602
      obtain rfl : v598 = none := hw597
      have hP : va_P G.1 pCl (mW G h0 a (upd (upd (upd (upd (upd (upd (upd (upd (upd (upd (upd (upd (upd (upd (upd (upd (upd (upd (upd (upd F 49 (nI md)) 97 (nI ct)) 98 (nI fl)) 99 (nI rmm)) 101 tds) 102 (nI op)) 111 (nI ((tp - 1) + 1))) 115 (nI wn)) 116 (-1)) 117 (nI fu)) 118 rs0) 119 uc0) 121 ma0) 122 mc0) 123 ca) 124 mo) 125 (nI p9)) 126 0) 128 (nI on)) 130 (nI idn)) (updA (updA B 68 (upd (B 68) (tp - 1) 0)) 69 rf600)) _ := hP
      have hD : va_D A (mW G h0 a (upd (upd (upd (upd (upd (upd (upd (upd (upd (upd (upd (upd (upd (upd (upd (upd (upd (upd (upd (upd F 49 (nI md)) 97 (nI ct)) 98 (nI fl)) 99 (nI rmm)) 101 tds) 102 (nI op)) 111 (nI ((tp - 1) + 1))) 115 (nI wn)) 116 (-1)) 117 (nI fu)) 118 rs0) 119 uc0) 121 ma0) 122 mc0) 123 ca) 124 mo) 125 (nI p9)) 126 0) 128 (nI on)) 130 (nI idn)) (updA (updA B 68 (upd (B 68) (tp - 1) 0)) 69 rf600)) := hD
      refine W.widen (k := 0) (n := 0) (Nat.le_of_ble_eq_true rfl) (Nat.le_of_ble_eq_true rfl) ?_
      refine W.eq (g2 := F0 m 556 ls []) rfl ?_
      obtain rfl : rf600 = _ := h601
      have hP : va_P G.1 pCl (mW G h0 a (upd (upd (upd (upd (upd (upd (upd (upd (upd (upd (upd (upd (upd (upd (upd (upd (upd (upd (upd (upd F 49 (nI md)) 97 (nI ct)) 98 (nI fl)) 99 (nI rmm)) 101 tds) 102 (nI op)) 111 (nI ((tp - 1) + 1))) 115 (nI wn)) 116 (-1)) 117 (nI fu)) 118 rs0) 119 uc0) 121 ma0) 122 mc0) 123 ca) 124 mo) 125 (nI p9)) 126 0) 128 (nI on)) 130 (nI idn)) (updA (updA B 68 (upd (B 68) (tp - 1) 0)) 69 (upd (B 69) (tp - 1) (nI b599)))) _ := hP
      have hD : va_D A (mW G h0 a (upd (upd (upd (upd (upd (upd (upd (upd (upd (upd (upd (upd (upd (upd (upd (upd (upd (upd (upd (upd F 49 (nI md)) 97 (nI ct)) 98 (nI fl)) 99 (nI rmm)) 101 tds) 102 (nI op)) 111 (nI ((tp - 1) + 1))) 115 (nI wn)) 116 (-1)) 117 (nI fu)) 118 rs0) 119 uc0) 121 ma0) 122 mc0) 123 ca) 124 mo) 125 (nI p9)) 126 0) 128 (nI on)) 130 (nI idn)) (updA (updA B 68 (upd (B 68) (tp - 1) 0)) 69 (upd (B 69) (tp - 1) (nI b599)))) := hD
      refine lv_goto (tgt := 619) hx hb dX12_goesOn_556 (by decide) ?_
      have hz603 : Nx Xs (updA (updA B 68 (upd (B 68) (tp - 1) 0)) 69 (upd (B 69) (tp - 1) (nI b599))) gh nd T nm wr lz dc fd md pr bk M rmm fu (Phi gh ps op (rkN gh n9 true)) op ((tp - 1) + 1) wn fu rd on idn fl ct ((-1) : Int32) (nI p9) (0 : Int32) uc0 := (hR.givesUp hp hst hkd (by omega) (fun h => absurd h (by omega)) hm9 (by rw [hm12]; exact hm4) (by omega) VTd.zero h602 (by omega))
      have hP : va_P G.1 pCl (mW G h0 a (upd (upd (upd (upd (upd (upd (upd (upd (upd (upd (upd (upd (upd (upd (upd (upd (upd (upd (upd (upd F 49 (nI md)) 97 (nI ct)) 98 (nI fl)) 99 (nI rmm)) 101 tds) 102 (nI op)) 111 (nI ((tp - 1) + 1))) 115 (nI wn)) 116 ((-1) : Int32)) 117 (nI fu)) 118 rs0) 119 uc0) 121 ma0) 122 mc0) 123 ca) 124 mo) 125 (nI p9)) 126 (0 : Int32)) 128 (nI on)) 130 (nI idn)) (updA (updA B 68 (upd (B 68) (tp - 1) 0)) 69 (upd (B 69) (tp - 1) (nI b599)))) _ := hP
      have hD : va_D A (mW G h0 a (upd (upd (upd (upd (upd (upd (upd (upd (upd (upd (upd (upd (upd (upd (upd (upd (upd (upd (upd (upd F 49 (nI md)) 97 (nI ct)) 98 (nI fl)) 99 (nI rmm)) 101 tds) 102 (nI op)) 111 (nI ((tp - 1) + 1))) 115 (nI wn)) 116 ((-1) : Int32)) 117 (nI fu)) 118 rs0) 119 uc0) 121 ma0) 122 mc0) 123 ca) 124 mo) 125 (nI p9)) 126 (0 : Int32)) 128 (nI on)) 130 (nI idn)) (updA (updA B 68 (upd (B 68) (tp - 1) 0)) 69 (upd (B 69) (tp - 1) (nI b599)))) := hD
      exact W.vret hx hb hr (fun t9 ht9 hW9 => ⟨⟨_, (op, ((tp - 1) + 1), wn, fu, ((-1) : Int32), (nI p9), (0 : Int32), rs0, uc0, on, idn, fl, ct, tds, ma0, mc0, ca, mo, (updA (updA B 68 (upd (B 68) (tp - 1) 0)) 69 (upd (B 69) (tp - 1) (nI b599)))), rfl, ⟨rfl, hz603⟩, by rw [ht9]; exact hP, hD⟩, hS.F ht9⟩) hS.2.2 dX12_goesOn_619
    · refine lv_topi (fun x604 e605 => ?_)
      obtain rfl : x604 = nI v9 := e605.trans hv1
      refine lv_istore (lv' := [(4, .int (nI v9)), (3, .int 1), (0, .ref h0), (1, .int (nI p9)), (2, .int (nI n9))]) hx hb dX12_goesOn_511 hl (by decide) rfl (fun ls hl => ?_)
      refine lv_iload hx hb dX12_goesOn_513 (lv_at hl 0 rfl) ?_
      refine lv_if_eq (tgt := 549) hx hb dX12_goesOn_515 (by decide) (fun c606 => (by have n607 : v9 = 0 := (nI_eq (a := v9) (b := 0) (by omega) (by omega)).mp c606; omega)) (fun c606 => ?_)
      refine lv_aload_n hx hb dX12_goesOn_518 rfl (lv_at hl 2 rfl) ?_
      refine lv_iload hx hb dX12_goesOn_519 (lv_at hl 0 rfl) ?_
      refine lv_aload_n hx hb dX12_goesOn_521 rfl (lv_at hl 2 rfl) ?_
      refine r_get (v := .ref (a 21)) hx hb hown hq hE hP 30 75 tFX12_30 (by decide) pw_1452 rfl dX12_goesOn_522 ?_
      refine lv_aload_n hx hb dX12_goesOn_525 rfl (lv_at hl 2 rfl) ?_
      refine r_get (v := .ref (a 13)) hx hb hown hq hE hP 21 50 tFX12_21 (by decide) pw_1443 rfl dX12_goesOn_526 ?_
      refine lv_iload_n hx hb dX12_goesOn_529 rfl (lv_at hl 3 rfl) ?_
      refine r_ldi (f := (B 13)) (j := p9) hx hb hE hP 13 (ma_13 G a _) rfl (by omega) (by decide) dX12_goesOn_530 ?_
      refine lv_topi (fun x608 e609 => ?_)
      obtain rfl : x608 = nI y9 := e609.trans ((congrFun hw13 _).trans hm1)
      refine r_ldi (f := (B 21)) (j := y9) hx hb hE hP 21 (ma_21 G a _) rfl (by omega) (by decide) dX12_goesOn_531 ?_
      refine lv_topi (fun x610 e611 => ?_)
      obtain rfl : x610 = nI x9 := e611.trans ((congrFun hw21 _).trans hm3)
      have hbi9 : ∀ i : Nat, i < 1600 → B 31 i = 0 ∨ B 31 i = 1 := by rw [hw31]; exact hPg.1.1.2.2.1
      have hP : va_P G.1 pCl (mW G h0 a (upd (upd (upd (upd (upd (upd (upd (upd (upd (upd (upd (upd (upd (upd (upd (upd (upd (upd (upd (upd F 49 (nI md)) 97 (nI ct)) 98 (nI fl)) 99 (nI rmm)) 101 tds) 102 (nI op)) 111 (nI (tp - 1))) 115 (nI wn)) 116 (-1)) 117 (nI fu)) 118 rs0) 119 uc0) 121 ma0) 122 mc0) 123 ca) 124 mo) 125 nw) 126 isn) 128 (nI on)) 130 (nI idn)) (updA (updA (updA B 31 (B 31)) 55 (B 55)) 56 (B 56))) _ := hP
      have hD : va_D A (mW G h0 a (upd (upd (upd (upd (upd (upd (upd (upd (upd (upd (upd (upd (upd (upd (upd (upd (upd (upd (upd (upd F 49 (nI md)) 97 (nI ct)) 98 (nI fl)) 99 (nI rmm)) 101 tds) 102 (nI op)) 111 (nI (tp - 1))) 115 (nI wn)) 116 (-1)) 117 (nI fu)) 118 rs0) 119 uc0) 121 ma0) 122 mc0) 123 ca) 124 mo) 125 nw) 126 isn) 128 (nI on)) 130 (nI idn)) (updA (updA (updA B 31 (B 31)) 55 (B 55)) 56 (B 56))) := hD
      refine pc_V0 (G := G) (As := [.int (nI v9), .int (nI x9)]) (rest := []) hx hb hml hown hq hE hX pX0_al hP hD hS hA hl.1 (R_isOfC l G h0 a (upd (upd (upd (upd (upd (upd (upd (upd (upd (upd (upd (upd (upd (upd (upd (upd (upd (upd (upd (upd F 49 (nI md)) 97 (nI ct)) 98 (nI fl)) 99 (nI rmm)) 101 tds) 102 (nI op)) 111 (nI (tp - 1))) 115 (nI wn)) 116 (-1)) 117 (nI fu)) 118 rs0) 119 uc0) 121 ma0) 122 mc0) 123 ca) 124 mo) 125 nw) 126 isn) 128 (nI on)) 130 (nI idn)) B v9 x9 dc k9 (B 55) (B 56) (B 31) ⟨hv2, hv3⟩ hm4 (by omega) (by omega) hbi9 hv5 hv6) (gV pw_2108 pw_2109 pw_2110 pw_1523 pw_1998) hV_X12_isOf 0 9 rfl rfl rfl rfl (Nat.le_of_ble_eq_true rfl) dX12_goesOn_532 ⟨Nat.le_of_ble_eq_true rfl, Nat.le_of_ble_eq_true rfl⟩ ⟨Nat.le_of_ble_eq_true rfl, Nat.le_of_ble_eq_true rfl⟩ (fun v614 u612 H locs hw613 hP hD hS => ?_)
      obtain ⟨r615, rfl⟩ : ∃ z, z = u612 := ⟨_, rfl⟩
      obtain ⟨hw613, h616, h617⟩ := hw613
      replace h616 : r615 ≤ 1 := h616
      replace h617 : If (r615 = 1) (fitF (B 31) (10 + k9) x9 = 1) := h617
      obtain rfl : v614 = some (.int (nI r615)) := hw613
      have hP : va_P G.1 pCl (mW G h0 a (upd (upd (upd (upd (upd (upd (upd (upd (upd (upd (upd (upd (upd (upd (upd (upd (upd (upd (upd (upd F 49 (nI md)) 97 (nI ct)) 98 (nI fl)) 99 (nI rmm)) 101 tds) 102 (nI op)) 111 (nI (tp - 1))) 115 (nI wn)) 116 (-1)) 117 (nI fu)) 118 rs0) 119 uc0) 121 ma0) 122 mc0) 123 ca) 124 mo) 125 nw) 126 isn) 128 (nI on)) 130 (nI idn)) B) _ := hP
      have hD : va_D A (mW G h0 a (upd (upd (upd (upd (upd (upd (upd (upd (upd (upd (upd (upd (upd (upd (upd (upd (upd (upd (upd (upd F 49 (nI md)) 97 (nI ct)) 98 (nI fl)) 99 (nI rmm)) 101 tds) 102 (nI op)) 111 (nI (tp - 1))) 115 (nI wn)) 116 (-1)) 117 (nI fu)) 118 rs0) 119 uc0) 121 ma0) 122 mc0) 123 ca) 124 mo) 125 nw) 126 isn) 128 (nI on)) 130 (nI idn)) B) := hD
      refine W.widen (k := 0) (n := 0) (Nat.le_of_ble_eq_true rfl) (Nat.le_of_ble_eq_true rfl) ?_
      refine W.eq (g2 := F0 m 535 ls [.int (nI r615)]) rfl ?_
      refine lv_if_ne (tgt := 549) hx hb dX12_goesOn_535 (by decide) (fun c618 => ?_) (fun c618 => ?_)
      · have n619 : ¬ (r615 = 0) := fun h9 => c618 ((nI_eq (a := r615) (b := 0) (by omega) (by omega)).mpr h9)
        refine lv_aload_n hx hb dX12_goesOn_549 rfl (lv_at hl 2 rfl) ?_
        refine lv_iload_n hx hb dX12_goesOn_550 rfl (lv_at hl 3 rfl) ?_
        refine lv_iload hx hb dX12_goesOn_551 (lv_at hl 0 rfl) ?_
        have hP : va_P G.1 pCl (mW G h0 a (upd (upd (upd (upd (upd (upd (upd (upd (upd (upd (upd (upd (upd (upd (upd (upd (upd (upd (upd (upd (upd F 49 (nI md)) 97 (nI ct)) 98 (nI fl)) 99 (nI rmm)) 101 tds) 102 (nI op)) 111 (nI (tp - 1))) 115 (nI wn)) 116 (-1)) 117 (nI fu)) 118 rs0) 119 uc0) 121 ma0) 122 mc0) 123 ca) 124 mo) 125 nw) 126 isn) 128 (nI on)) 130 (nI idn)) 111 (nI (tp - 1))) (updA (updA B 68 (B 68)) 69 (B 69))) _ := hP
        have hD : va_D A (mW G h0 a (upd (upd (upd (upd (upd (upd (upd (upd (upd (upd (upd (upd (upd (upd (upd (upd (upd (upd (upd (upd (upd F 49 (nI md)) 97 (nI ct)) 98 (nI fl)) 99 (nI rmm)) 101 tds) 102 (nI op)) 111 (nI (tp - 1))) 115 (nI wn)) 116 (-1)) 117 (nI fu)) 118 rs0) 119 uc0) 121 ma0) 122 mc0) 123 ca) 124 mo) 125 nw) 126 isn) 128 (nI on)) 130 (nI idn)) 111 (nI (tp - 1))) (updA (updA B 68 (B 68)) 69 (B 69))) := hD
        refine pc_V0 (G := G) (As := [.int (nI p9), .int (nI v9)]) (rest := []) hx hb hml hown hq hE hX pX0_al hP hD hS hA hl.1 (R_gives l G h0 a (upd (upd (upd (upd (upd (upd (upd (upd (upd (upd (upd (upd (upd (upd (upd (upd (upd (upd (upd (upd F 49 (nI md)) 97 (nI ct)) 98 (nI fl)) 99 (nI rmm)) 101 tds) 102 (nI op)) 111 (nI (tp - 1))) 115 (nI wn)) 116 (-1)) 117 (nI fu)) 118 rs0) 119 uc0) 121 ma0) 122 mc0) 123 ca) 124 mo) 125 nw) 126 isn) 128 (nI on)) 130 (nI idn)) B p9 t9 (tp - 1) (nI v9) (B 68) (B 69) (by omega) hm9 (by omega) (by omega)) (gV pw_2069 pw_2070 pw_2071 pw_1523 pw_2006) hV_X12_gives 0 9 rfl rfl rfl rfl (Nat.le_of_ble_eq_true rfl) dX12_goesOn_553 ⟨Nat.le_of_ble_eq_true rfl, Nat.le_of_ble_eq_true rfl⟩ ⟨Nat.le_of_ble_eq_true rfl, Nat.le_of_ble_eq_true rfl⟩ (fun v622 u620 H locs hw621 hP hD hS => ?_)
        obtain ⟨b623, rf624⟩ := u620
        obtain ⟨hw621, h625, h626⟩ := hw621
        replace h625 : rf624 = upd (B 69) (tp - 1) (nI b623) := h625
        replace h626 : b623 ≤ 1 ∧ 3 * b623 ≤ t9 ∧ t9 ≤ 2 + 9000 * b623 := h626
        obtain rfl : v622 = none := hw621
        have hP : va_P G.1 pCl (mW G h0 a (upd (upd (upd (upd (upd (upd (upd (upd (upd (upd (upd (upd (upd (upd (upd (upd (upd (upd (upd (upd F 49 (nI md)) 97 (nI ct)) 98 (nI fl)) 99 (nI rmm)) 101 tds) 102 (nI op)) 111 (nI ((tp - 1) + 1))) 115 (nI wn)) 116 (-1)) 117 (nI fu)) 118 rs0) 119 uc0) 121 ma0) 122 mc0) 123 ca) 124 mo) 125 (nI p9)) 126 0) 128 (nI on)) 130 (nI idn)) (updA (updA B 68 (upd (B 68) (tp - 1) (nI v9))) 69 rf624)) _ := hP
        have hD : va_D A (mW G h0 a (upd (upd (upd (upd (upd (upd (upd (upd (upd (upd (upd (upd (upd (upd (upd (upd (upd (upd (upd (upd F 49 (nI md)) 97 (nI ct)) 98 (nI fl)) 99 (nI rmm)) 101 tds) 102 (nI op)) 111 (nI ((tp - 1) + 1))) 115 (nI wn)) 116 (-1)) 117 (nI fu)) 118 rs0) 119 uc0) 121 ma0) 122 mc0) 123 ca) 124 mo) 125 (nI p9)) 126 0) 128 (nI on)) 130 (nI idn)) (updA (updA B 68 (upd (B 68) (tp - 1) (nI v9))) 69 rf624)) := hD
        refine W.widen (k := 0) (n := 0) (Nat.le_of_ble_eq_true rfl) (Nat.le_of_ble_eq_true rfl) ?_
        refine W.eq (g2 := F0 m 556 ls []) rfl ?_
        obtain rfl : rf624 = _ := h625
        have hP : va_P G.1 pCl (mW G h0 a (upd (upd (upd (upd (upd (upd (upd (upd (upd (upd (upd (upd (upd (upd (upd (upd (upd (upd (upd (upd F 49 (nI md)) 97 (nI ct)) 98 (nI fl)) 99 (nI rmm)) 101 tds) 102 (nI op)) 111 (nI ((tp - 1) + 1))) 115 (nI wn)) 116 (-1)) 117 (nI fu)) 118 rs0) 119 uc0) 121 ma0) 122 mc0) 123 ca) 124 mo) 125 (nI p9)) 126 0) 128 (nI on)) 130 (nI idn)) (updA (updA B 68 (upd (B 68) (tp - 1) (nI v9))) 69 (upd (B 69) (tp - 1) (nI b623)))) _ := hP
        have hD : va_D A (mW G h0 a (upd (upd (upd (upd (upd (upd (upd (upd (upd (upd (upd (upd (upd (upd (upd (upd (upd (upd (upd (upd F 49 (nI md)) 97 (nI ct)) 98 (nI fl)) 99 (nI rmm)) 101 tds) 102 (nI op)) 111 (nI ((tp - 1) + 1))) 115 (nI wn)) 116 (-1)) 117 (nI fu)) 118 rs0) 119 uc0) 121 ma0) 122 mc0) 123 ca) 124 mo) 125 (nI p9)) 126 0) 128 (nI on)) 130 (nI idn)) (updA (updA B 68 (upd (B 68) (tp - 1) (nI v9))) 69 (upd (B 69) (tp - 1) (nI b623)))) := hD
        refine lv_goto (tgt := 619) hx hb dX12_goesOn_556 (by decide) ?_
        have hz627 : Nx Xs (updA (updA B 68 (upd (B 68) (tp - 1) (nI v9))) 69 (upd (B 69) (tp - 1) (nI b623))) gh nd T nm wr lz dc fd md pr bk M rmm fu (Phi gh ps op (rkN gh n9 true)) op ((tp - 1) + 1) wn fu rd on idn fl ct ((-1) : Int32) (nI p9) (0 : Int32) uc0 := (hR.givesUp hp hst hkd (by omega) (fun h => absurd h (by omega)) hm9 (by rw [hm12]; exact hm4) (by omega) (by rw [← hv1, hm12]; exact VTd.isC hPg hv1 hv2 hv4 hv5 hv6 (by rw [← hw31]; exact h617 (by omega))) h626 (by omega))
        have hP : va_P G.1 pCl (mW G h0 a (upd (upd (upd (upd (upd (upd (upd (upd (upd (upd (upd (upd (upd (upd (upd (upd (upd (upd (upd (upd F 49 (nI md)) 97 (nI ct)) 98 (nI fl)) 99 (nI rmm)) 101 tds) 102 (nI op)) 111 (nI ((tp - 1) + 1))) 115 (nI wn)) 116 ((-1) : Int32)) 117 (nI fu)) 118 rs0) 119 uc0) 121 ma0) 122 mc0) 123 ca) 124 mo) 125 (nI p9)) 126 (0 : Int32)) 128 (nI on)) 130 (nI idn)) (updA (updA B 68 (upd (B 68) (tp - 1) (nI v9))) 69 (upd (B 69) (tp - 1) (nI b623)))) _ := hP
        have hD : va_D A (mW G h0 a (upd (upd (upd (upd (upd (upd (upd (upd (upd (upd (upd (upd (upd (upd (upd (upd (upd (upd (upd (upd F 49 (nI md)) 97 (nI ct)) 98 (nI fl)) 99 (nI rmm)) 101 tds) 102 (nI op)) 111 (nI ((tp - 1) + 1))) 115 (nI wn)) 116 ((-1) : Int32)) 117 (nI fu)) 118 rs0) 119 uc0) 121 ma0) 122 mc0) 123 ca) 124 mo) 125 (nI p9)) 126 (0 : Int32)) 128 (nI on)) 130 (nI idn)) (updA (updA B 68 (upd (B 68) (tp - 1) (nI v9))) 69 (upd (B 69) (tp - 1) (nI b623)))) := hD
        exact W.vret hx hb hr (fun t9 ht9 hW9 => ⟨⟨_, (op, ((tp - 1) + 1), wn, fu, ((-1) : Int32), (nI p9), (0 : Int32), rs0, uc0, on, idn, fl, ct, tds, ma0, mc0, ca, mo, (updA (updA B 68 (upd (B 68) (tp - 1) (nI v9))) 69 (upd (B 69) (tp - 1) (nI b623)))), rfl, ⟨rfl, hz627⟩, by rw [ht9]; exact hP, hD⟩, hS.F ht9⟩) hS.2.2 dX12_goesOn_619
      · have n628 : r615 = 0 := (nI_eq (a := r615) (b := 0) (by omega) (by omega)).mp c618
        refine lv_aload_n hx hb dX12_goesOn_538 rfl (lv_at hl 2 rfl) ?_
        refine lv_iload_n hx hb dX12_goesOn_539 rfl (lv_at hl 3 rfl) ?_
        refine lv_sipush (v := 4002) hx hb dX12_goesOn_540 (by decide) ?_
        have hln629 := (Rn.lnP hR hp hst hkd (by omega) (by omega)).1
        have hP : va_P G.1 pCl (mW G h0 a (upd (upd (upd (upd (upd (upd (upd (upd (upd (upd (upd (upd (upd (upd (upd (upd (upd (upd (upd (upd (upd (upd (upd (upd (upd (upd (upd (upd (upd F 49 (nI md)) 97 (nI ct)) 98 (nI fl)) 99 (nI rmm)) 101 tds) 102 (nI op)) 111 (nI (tp - 1))) 115 (nI wn)) 116 (-1)) 117 (nI fu)) 118 rs0) 119 uc0) 121 ma0) 122 mc0) 123 ca) 124 mo) 125 nw) 126 isn) 128 (nI on)) 130 (nI idn)) 102 (nI op)) 111 (nI (tp - 1))) 115 (nI wn)) 116 (-1)) 117 (nI fu)) 118 rs0) 119 uc0) 125 nw) 126 isn) B) _ := hP
        have hD : va_D A (mW G h0 a (upd (upd (upd (upd (upd (upd (upd (upd (upd (upd (upd (upd (upd (upd (upd (upd (upd (upd (upd (upd (upd (upd (upd (upd (upd (upd (upd (upd (upd F 49 (nI md)) 97 (nI ct)) 98 (nI fl)) 99 (nI rmm)) 101 tds) 102 (nI op)) 111 (nI (tp - 1))) 115 (nI wn)) 116 (-1)) 117 (nI fu)) 118 rs0) 119 uc0) 121 ma0) 122 mc0) 123 ca) 124 mo) 125 nw) 126 isn) 128 (nI on)) 130 (nI idn)) 102 (nI op)) 111 (nI (tp - 1))) 115 (nI wn)) 116 (-1)) 117 (nI fu)) 118 rs0) 119 uc0) 125 nw) 126 isn) B) := hD
        refine pc_V0 (G := G) (As := [.int (nI p9), .int (nI 4002)]) (rest := []) hx hb hml hown hq hE hX pX0_al hP hD hS hA hl.1 (R_raises l G h0 a (upd (upd (upd (upd (upd (upd (upd (upd (upd (upd (upd (upd (upd (upd (upd (upd (upd (upd (upd (upd F 49 (nI md)) 97 (nI ct)) 98 (nI fl)) 99 (nI rmm)) 101 tds) 102 (nI op)) 111 (nI (tp - 1))) 115 (nI wn)) 116 (-1)) 117 (nI fu)) 118 rs0) 119 uc0) 121 ma0) 122 mc0) 123 ca) 124 mo) 125 nw) 126 isn) 128 (nI on)) 130 (nI idn)) B Xs gh nd T nm wr lz dc fd md pr bk M rmm (Phi gh ps op (rkN gh n9 true)) op wn fu rd on idn fl ct p9 4002 (4002 - 4000) mt ps (yyU yy (op - 1) u) bf wf (nI (tp - 1)) nw isn rs0 uc0 hln629 (by omega) (by omega) (Or.inr (by omega)) (clF_1 (by omega)) (by omega)) (gV pw_2054 pw_2055 pw_2056 pw_1523 pw_2053) hV_X12_raises 0 9 rfl rfl rfl rfl (Nat.le_of_ble_eq_true rfl) dX12_goesOn_543 ⟨Nat.le_of_ble_eq_true rfl, Nat.le_of_ble_eq_true rfl⟩ ⟨Nat.le_of_ble_eq_true rfl, Nat.le_of_ble_eq_true rfl⟩ (fun v632 u630 H locs hw631 hP hD hS => ?_)
        obtain ⟨op633, tp634, wn635, fu636, en637, nw638, is639, rs640, uc641, X642⟩ := u630
        obtain ⟨hw631, h643⟩ := hw631
        replace h643 : Nx Xs X642 gh nd T nm wr lz dc fd md pr bk M rmm fu (Phi gh ps op (rkN gh n9 true)) op633 tp634 wn635 fu636 rd on idn fl ct en637 nw638 is639 uc641 := h643
        obtain rfl : v632 = none := hw631
        have hP : va_P G.1 pCl (mW G h0 a (upd (upd (upd (upd (upd (upd (upd (upd (upd (upd (upd (upd (upd (upd (upd (upd (upd (upd (upd (upd F 49 (nI md)) 97 (nI ct)) 98 (nI fl)) 99 (nI rmm)) 101 tds) 102 (nI op633)) 111 (nI tp634)) 115 (nI wn635)) 116 en637) 117 (nI fu636)) 118 rs640) 119 uc641) 121 ma0) 122 mc0) 123 ca) 124 mo) 125 nw638) 126 is639) 128 (nI on)) 130 (nI idn)) X642) _ := hP
        have hD : va_D A (mW G h0 a (upd (upd (upd (upd (upd (upd (upd (upd (upd (upd (upd (upd (upd (upd (upd (upd (upd (upd (upd (upd F 49 (nI md)) 97 (nI ct)) 98 (nI fl)) 99 (nI rmm)) 101 tds) 102 (nI op633)) 111 (nI tp634)) 115 (nI wn635)) 116 en637) 117 (nI fu636)) 118 rs640) 119 uc641) 121 ma0) 122 mc0) 123 ca) 124 mo) 125 nw638) 126 is639) 128 (nI on)) 130 (nI idn)) X642) := hD
        refine W.widen (k := 0) (n := 0) (Nat.le_of_ble_eq_true rfl) (Nat.le_of_ble_eq_true rfl) ?_
        refine W.eq (g2 := F0 m 546 ls []) rfl ?_
        refine lv_goto (tgt := 619) hx hb dX12_goesOn_546 (by decide) ?_
        have hz644 : Nx Xs X642 gh nd T nm wr lz dc fd md pr bk M rmm fu (Phi gh ps op (rkN gh n9 true)) op633 tp634 wn635 fu636 rd on idn fl ct en637 nw638 is639 uc641 := h643
        have hP : va_P G.1 pCl (mW G h0 a (upd (upd (upd (upd (upd (upd (upd (upd (upd (upd (upd (upd (upd (upd (upd (upd (upd (upd (upd (upd F 49 (nI md)) 97 (nI ct)) 98 (nI fl)) 99 (nI rmm)) 101 tds) 102 (nI op633)) 111 (nI tp634)) 115 (nI wn635)) 116 en637) 117 (nI fu636)) 118 rs640) 119 uc641) 121 ma0) 122 mc0) 123 ca) 124 mo) 125 nw638) 126 is639) 128 (nI on)) 130 (nI idn)) X642) _ := hP
        have hD : va_D A (mW G h0 a (upd (upd (upd (upd (upd (upd (upd (upd (upd (upd (upd (upd (upd (upd (upd (upd (upd (upd (upd (upd F 49 (nI md)) 97 (nI ct)) 98 (nI fl)) 99 (nI rmm)) 101 tds) 102 (nI op633)) 111 (nI tp634)) 115 (nI wn635)) 116 en637) 117 (nI fu636)) 118 rs640) 119 uc641) 121 ma0) 122 mc0) 123 ca) 124 mo) 125 nw638) 126 is639) 128 (nI on)) 130 (nI idn)) X642) := hD
        exact W.vret hx hb hr (fun t9 ht9 hW9 => ⟨⟨_, (op633, tp634, wn635, fu636, en637, nw638, is639, rs640, uc641, on, idn, fl, ct, tds, ma0, mc0, ca, mo, X642), rfl, ⟨rfl, hz644⟩, by rw [ht9]; exact hP, hD⟩, hS.F ht9⟩) hS.2.2 dX12_goesOn_619
    · refine lv_topi (fun x645 e646 => ?_)
      obtain rfl : x645 = nI v9 := e646.trans hv1
      refine lv_istore (lv' := [(4, .int (nI v9)), (3, .int 1), (0, .ref h0), (1, .int (nI p9)), (2, .int (nI n9))]) hx hb dX12_goesOn_511 hl (by decide) rfl (fun ls hl => ?_)
      refine lv_iload hx hb dX12_goesOn_513 (lv_at hl 0 rfl) ?_
      refine lv_if_eq (tgt := 549) hx hb dX12_goesOn_515 (by decide) (fun c647 => (by have n648 : v9 = 0 := (nI_eq (a := v9) (b := 0) (by omega) (by omega)).mp c647; omega)) (fun c647 => ?_)
      refine lv_aload_n hx hb dX12_goesOn_518 rfl (lv_at hl 2 rfl) ?_
      refine lv_iload hx hb dX12_goesOn_519 (lv_at hl 0 rfl) ?_
      refine lv_aload_n hx hb dX12_goesOn_521 rfl (lv_at hl 2 rfl) ?_
      refine r_get (v := .ref (a 21)) hx hb hown hq hE hP 30 75 tFX12_30 (by decide) pw_1452 rfl dX12_goesOn_522 ?_
      refine lv_aload_n hx hb dX12_goesOn_525 rfl (lv_at hl 2 rfl) ?_
      refine r_get (v := .ref (a 13)) hx hb hown hq hE hP 21 50 tFX12_21 (by decide) pw_1443 rfl dX12_goesOn_526 ?_
      refine lv_iload_n hx hb dX12_goesOn_529 rfl (lv_at hl 3 rfl) ?_
      refine r_ldi (f := (B 13)) (j := p9) hx hb hE hP 13 (ma_13 G a _) rfl (by omega) (by decide) dX12_goesOn_530 ?_
      refine lv_topi (fun x649 e650 => ?_)
      obtain rfl : x649 = nI y9 := e650.trans ((congrFun hw13 _).trans hm1)
      refine r_ldi (f := (B 21)) (j := y9) hx hb hE hP 21 (ma_21 G a _) rfl (by omega) (by decide) dX12_goesOn_531 ?_
      refine lv_topi (fun x651 e652 => ?_)
      obtain rfl : x651 = nI x9 := e652.trans ((congrFun hw21 _).trans hm3)
      have hbi9 : ∀ i : Nat, i < 1600 → B 31 i = 0 ∨ B 31 i = 1 := by rw [hw31]; exact hPg.1.1.2.2.1
      have hP : va_P G.1 pCl (mW G h0 a (upd (upd (upd (upd (upd (upd (upd (upd (upd (upd (upd (upd (upd (upd (upd (upd (upd (upd (upd (upd F 49 (nI md)) 97 (nI ct)) 98 (nI fl)) 99 (nI rmm)) 101 tds) 102 (nI op)) 111 (nI (tp - 1))) 115 (nI wn)) 116 (-1)) 117 (nI fu)) 118 rs0) 119 uc0) 121 ma0) 122 mc0) 123 ca) 124 mo) 125 nw) 126 isn) 128 (nI on)) 130 (nI idn)) (updA (updA (updA B 31 (B 31)) 55 (B 55)) 56 (B 56))) _ := hP
      have hD : va_D A (mW G h0 a (upd (upd (upd (upd (upd (upd (upd (upd (upd (upd (upd (upd (upd (upd (upd (upd (upd (upd (upd (upd F 49 (nI md)) 97 (nI ct)) 98 (nI fl)) 99 (nI rmm)) 101 tds) 102 (nI op)) 111 (nI (tp - 1))) 115 (nI wn)) 116 (-1)) 117 (nI fu)) 118 rs0) 119 uc0) 121 ma0) 122 mc0) 123 ca) 124 mo) 125 nw) 126 isn) 128 (nI on)) 130 (nI idn)) (updA (updA (updA B 31 (B 31)) 55 (B 55)) 56 (B 56))) := hD
      refine pc_V0 (G := G) (As := [.int (nI v9), .int (nI x9)]) (rest := []) hx hb hml hown hq hE hX pX0_al hP hD hS hA hl.1 (R_isOfR l G h0 a (upd (upd (upd (upd (upd (upd (upd (upd (upd (upd (upd (upd (upd (upd (upd (upd (upd (upd (upd (upd F 49 (nI md)) 97 (nI ct)) 98 (nI fl)) 99 (nI rmm)) 101 tds) 102 (nI op)) 111 (nI (tp - 1))) 115 (nI wn)) 116 (-1)) 117 (nI fu)) 118 rs0) 119 uc0) 121 ma0) 122 mc0) 123 ca) 124 mo) 125 nw) 126 isn) 128 (nI on)) 130 (nI idn)) B v9 x9 dc so9 (B 55) (B 56) (B 31) ⟨hv2, Or.inl hv3⟩ hm4 (by omega) (by omega) hbi9 hv5 hv3 hv6 hv7) (gV pw_2108 pw_2109 pw_2110 pw_1523 pw_1998) hV_X12_isOf 0 9 rfl rfl rfl rfl (Nat.le_of_ble_eq_true rfl) dX12_goesOn_532 ⟨Nat.le_of_ble_eq_true rfl, Nat.le_of_ble_eq_true rfl⟩ ⟨Nat.le_of_ble_eq_true rfl, Nat.le_of_ble_eq_true rfl⟩ (fun v655 u653 H locs hw654 hP hD hS => ?_)
      obtain ⟨r656, rfl⟩ : ∃ z, z = u653 := ⟨_, rfl⟩
      obtain ⟨hw654, h657, h658⟩ := hw654
      replace h657 : r656 ≤ 1 := h657
      replace h658 : If (r656 = 1) (fitF (B 31) (1000 + so9) x9 = 1) := h658
      obtain rfl : v655 = some (.int (nI r656)) := hw654
      have hP : va_P G.1 pCl (mW G h0 a (upd (upd (upd (upd (upd (upd (upd (upd (upd (upd (upd (upd (upd (upd (upd (upd (upd (upd (upd (upd F 49 (nI md)) 97 (nI ct)) 98 (nI fl)) 99 (nI rmm)) 101 tds) 102 (nI op)) 111 (nI (tp - 1))) 115 (nI wn)) 116 (-1)) 117 (nI fu)) 118 rs0) 119 uc0) 121 ma0) 122 mc0) 123 ca) 124 mo) 125 nw) 126 isn) 128 (nI on)) 130 (nI idn)) B) _ := hP
      have hD : va_D A (mW G h0 a (upd (upd (upd (upd (upd (upd (upd (upd (upd (upd (upd (upd (upd (upd (upd (upd (upd (upd (upd (upd F 49 (nI md)) 97 (nI ct)) 98 (nI fl)) 99 (nI rmm)) 101 tds) 102 (nI op)) 111 (nI (tp - 1))) 115 (nI wn)) 116 (-1)) 117 (nI fu)) 118 rs0) 119 uc0) 121 ma0) 122 mc0) 123 ca) 124 mo) 125 nw) 126 isn) 128 (nI on)) 130 (nI idn)) B) := hD
      refine W.widen (k := 0) (n := 0) (Nat.le_of_ble_eq_true rfl) (Nat.le_of_ble_eq_true rfl) ?_
      refine W.eq (g2 := F0 m 535 ls [.int (nI r656)]) rfl ?_
      refine lv_if_ne (tgt := 549) hx hb dX12_goesOn_535 (by decide) (fun c659 => ?_) (fun c659 => ?_)
      · have n660 : ¬ (r656 = 0) := fun h9 => c659 ((nI_eq (a := r656) (b := 0) (by omega) (by omega)).mpr h9)
        refine lv_aload_n hx hb dX12_goesOn_549 rfl (lv_at hl 2 rfl) ?_
        refine lv_iload_n hx hb dX12_goesOn_550 rfl (lv_at hl 3 rfl) ?_
        refine lv_iload hx hb dX12_goesOn_551 (lv_at hl 0 rfl) ?_
        have hP : va_P G.1 pCl (mW G h0 a (upd (upd (upd (upd (upd (upd (upd (upd (upd (upd (upd (upd (upd (upd (upd (upd (upd (upd (upd (upd (upd F 49 (nI md)) 97 (nI ct)) 98 (nI fl)) 99 (nI rmm)) 101 tds) 102 (nI op)) 111 (nI (tp - 1))) 115 (nI wn)) 116 (-1)) 117 (nI fu)) 118 rs0) 119 uc0) 121 ma0) 122 mc0) 123 ca) 124 mo) 125 nw) 126 isn) 128 (nI on)) 130 (nI idn)) 111 (nI (tp - 1))) (updA (updA B 68 (B 68)) 69 (B 69))) _ := hP
        have hD : va_D A (mW G h0 a (upd (upd (upd (upd (upd (upd (upd (upd (upd (upd (upd (upd (upd (upd (upd (upd (upd (upd (upd (upd (upd F 49 (nI md)) 97 (nI ct)) 98 (nI fl)) 99 (nI rmm)) 101 tds) 102 (nI op)) 111 (nI (tp - 1))) 115 (nI wn)) 116 (-1)) 117 (nI fu)) 118 rs0) 119 uc0) 121 ma0) 122 mc0) 123 ca) 124 mo) 125 nw) 126 isn) 128 (nI on)) 130 (nI idn)) 111 (nI (tp - 1))) (updA (updA B 68 (B 68)) 69 (B 69))) := hD
        refine pc_V0 (G := G) (As := [.int (nI p9), .int (nI v9)]) (rest := []) hx hb hml hown hq hE hX pX0_al hP hD hS hA hl.1 (R_gives l G h0 a (upd (upd (upd (upd (upd (upd (upd (upd (upd (upd (upd (upd (upd (upd (upd (upd (upd (upd (upd (upd F 49 (nI md)) 97 (nI ct)) 98 (nI fl)) 99 (nI rmm)) 101 tds) 102 (nI op)) 111 (nI (tp - 1))) 115 (nI wn)) 116 (-1)) 117 (nI fu)) 118 rs0) 119 uc0) 121 ma0) 122 mc0) 123 ca) 124 mo) 125 nw) 126 isn) 128 (nI on)) 130 (nI idn)) B p9 t9 (tp - 1) (nI v9) (B 68) (B 69) (by omega) hm9 (by omega) (by omega)) (gV pw_2069 pw_2070 pw_2071 pw_1523 pw_2006) hV_X12_gives 0 9 rfl rfl rfl rfl (Nat.le_of_ble_eq_true rfl) dX12_goesOn_553 ⟨Nat.le_of_ble_eq_true rfl, Nat.le_of_ble_eq_true rfl⟩ ⟨Nat.le_of_ble_eq_true rfl, Nat.le_of_ble_eq_true rfl⟩ (fun v663 u661 H locs hw662 hP hD hS => ?_)
        obtain ⟨b664, rf665⟩ := u661
        obtain ⟨hw662, h666, h667⟩ := hw662
        replace h666 : rf665 = upd (B 69) (tp - 1) (nI b664) := h666
        replace h667 : b664 ≤ 1 ∧ 3 * b664 ≤ t9 ∧ t9 ≤ 2 + 9000 * b664 := h667
        obtain rfl : v663 = none := hw662
        have hP : va_P G.1 pCl (mW G h0 a (upd (upd (upd (upd (upd (upd (upd (upd (upd (upd (upd (upd (upd (upd (upd (upd (upd (upd (upd (upd F 49 (nI md)) 97 (nI ct)) 98 (nI fl)) 99 (nI rmm)) 101 tds) 102 (nI op)) 111 (nI ((tp - 1) + 1))) 115 (nI wn)) 116 (-1)) 117 (nI fu)) 118 rs0) 119 uc0) 121 ma0) 122 mc0) 123 ca) 124 mo) 125 (nI p9)) 126 0) 128 (nI on)) 130 (nI idn)) (updA (updA B 68 (upd (B 68) (tp - 1) (nI v9))) 69 rf665)) _ := hP
        have hD : va_D A (mW G h0 a (upd (upd (upd (upd (upd (upd (upd (upd (upd (upd (upd (upd (upd (upd (upd (upd (upd (upd (upd (upd F 49 (nI md)) 97 (nI ct)) 98 (nI fl)) 99 (nI rmm)) 101 tds) 102 (nI op)) 111 (nI ((tp - 1) + 1))) 115 (nI wn)) 116 (-1)) 117 (nI fu)) 118 rs0) 119 uc0) 121 ma0) 122 mc0) 123 ca) 124 mo) 125 (nI p9)) 126 0) 128 (nI on)) 130 (nI idn)) (updA (updA B 68 (upd (B 68) (tp - 1) (nI v9))) 69 rf665)) := hD
        refine W.widen (k := 0) (n := 0) (Nat.le_of_ble_eq_true rfl) (Nat.le_of_ble_eq_true rfl) ?_
        refine W.eq (g2 := F0 m 556 ls []) rfl ?_
        obtain rfl : rf665 = _ := h666
        have hP : va_P G.1 pCl (mW G h0 a (upd (upd (upd (upd (upd (upd (upd (upd (upd (upd (upd (upd (upd (upd (upd (upd (upd (upd (upd (upd F 49 (nI md)) 97 (nI ct)) 98 (nI fl)) 99 (nI rmm)) 101 tds) 102 (nI op)) 111 (nI ((tp - 1) + 1))) 115 (nI wn)) 116 (-1)) 117 (nI fu)) 118 rs0) 119 uc0) 121 ma0) 122 mc0) 123 ca) 124 mo) 125 (nI p9)) 126 0) 128 (nI on)) 130 (nI idn)) (updA (updA B 68 (upd (B 68) (tp - 1) (nI v9))) 69 (upd (B 69) (tp - 1) (nI b664)))) _ := hP
        have hD : va_D A (mW G h0 a (upd (upd (upd (upd (upd (upd (upd (upd (upd (upd (upd (upd (upd (upd (upd (upd (upd (upd (upd (upd F 49 (nI md)) 97 (nI ct)) 98 (nI fl)) 99 (nI rmm)) 101 tds) 102 (nI op)) 111 (nI ((tp - 1) + 1))) 115 (nI wn)) 116 (-1)) 117 (nI fu)) 118 rs0) 119 uc0) 121 ma0) 122 mc0) 123 ca) 124 mo) 125 (nI p9)) 126 0) 128 (nI on)) 130 (nI idn)) (updA (updA B 68 (upd (B 68) (tp - 1) (nI v9))) 69 (upd (B 69) (tp - 1) (nI b664)))) := hD
        refine lv_goto (tgt := 619) hx hb dX12_goesOn_556 (by decide) ?_
        have hz668 : Nx Xs (updA (updA B 68 (upd (B 68) (tp - 1) (nI v9))) 69 (upd (B 69) (tp - 1) (nI b664))) gh nd T nm wr lz dc fd md pr bk M rmm fu (Phi gh ps op (rkN gh n9 true)) op ((tp - 1) + 1) wn fu rd on idn fl ct ((-1) : Int32) (nI p9) (0 : Int32) uc0 := (hR.givesUp hp hst hkd (by omega) (fun h => absurd h (by omega)) hm9 (by rw [hm12]; exact hm4) (by omega) (by rw [← hv1, hm12]; exact VTd.isR hPg hv1 hv2 ⟨hv3, hv4⟩ hv5 hv6 hv7 (by rw [← hw31]; exact h658 (by omega))) h667 (by omega))
        have hP : va_P G.1 pCl (mW G h0 a (upd (upd (upd (upd (upd (upd (upd (upd (upd (upd (upd (upd (upd (upd (upd (upd (upd (upd (upd (upd F 49 (nI md)) 97 (nI ct)) 98 (nI fl)) 99 (nI rmm)) 101 tds) 102 (nI op)) 111 (nI ((tp - 1) + 1))) 115 (nI wn)) 116 ((-1) : Int32)) 117 (nI fu)) 118 rs0) 119 uc0) 121 ma0) 122 mc0) 123 ca) 124 mo) 125 (nI p9)) 126 (0 : Int32)) 128 (nI on)) 130 (nI idn)) (updA (updA B 68 (upd (B 68) (tp - 1) (nI v9))) 69 (upd (B 69) (tp - 1) (nI b664)))) _ := hP
        have hD : va_D A (mW G h0 a (upd (upd (upd (upd (upd (upd (upd (upd (upd (upd (upd (upd (upd (upd (upd (upd (upd (upd (upd (upd F 49 (nI md)) 97 (nI ct)) 98 (nI fl)) 99 (nI rmm)) 101 tds) 102 (nI op)) 111 (nI ((tp - 1) + 1))) 115 (nI wn)) 116 ((-1) : Int32)) 117 (nI fu)) 118 rs0) 119 uc0) 121 ma0) 122 mc0) 123 ca) 124 mo) 125 (nI p9)) 126 (0 : Int32)) 128 (nI on)) 130 (nI idn)) (updA (updA B 68 (upd (B 68) (tp - 1) (nI v9))) 69 (upd (B 69) (tp - 1) (nI b664)))) := hD
        exact W.vret hx hb hr (fun t9 ht9 hW9 => ⟨⟨_, (op, ((tp - 1) + 1), wn, fu, ((-1) : Int32), (nI p9), (0 : Int32), rs0, uc0, on, idn, fl, ct, tds, ma0, mc0, ca, mo, (updA (updA B 68 (upd (B 68) (tp - 1) (nI v9))) 69 (upd (B 69) (tp - 1) (nI b664)))), rfl, ⟨rfl, hz668⟩, by rw [ht9]; exact hP, hD⟩, hS.F ht9⟩) hS.2.2 dX12_goesOn_619
      · have n669 : r656 = 0 := (nI_eq (a := r656) (b := 0) (by omega) (by omega)).mp c659
        refine lv_aload_n hx hb dX12_goesOn_538 rfl (lv_at hl 2 rfl) ?_
        refine lv_iload_n hx hb dX12_goesOn_539 rfl (lv_at hl 3 rfl) ?_
        refine lv_sipush (v := 4002) hx hb dX12_goesOn_540 (by decide) ?_
        have hln670 := (Rn.lnP hR hp hst hkd (by omega) (by omega)).1
        have hP : va_P G.1 pCl (mW G h0 a (upd (upd (upd (upd (upd (upd (upd (upd (upd (upd (upd (upd (upd (upd (upd (upd (upd (upd (upd (upd (upd (upd (upd (upd (upd (upd (upd (upd (upd F 49 (nI md)) 97 (nI ct)) 98 (nI fl)) 99 (nI rmm)) 101 tds) 102 (nI op)) 111 (nI (tp - 1))) 115 (nI wn)) 116 (-1)) 117 (nI fu)) 118 rs0) 119 uc0) 121 ma0) 122 mc0) 123 ca) 124 mo) 125 nw) 126 isn) 128 (nI on)) 130 (nI idn)) 102 (nI op)) 111 (nI (tp - 1))) 115 (nI wn)) 116 (-1)) 117 (nI fu)) 118 rs0) 119 uc0) 125 nw) 126 isn) B) _ := hP
        have hD : va_D A (mW G h0 a (upd (upd (upd (upd (upd (upd (upd (upd (upd (upd (upd (upd (upd (upd (upd (upd (upd (upd (upd (upd (upd (upd (upd (upd (upd (upd (upd (upd (upd F 49 (nI md)) 97 (nI ct)) 98 (nI fl)) 99 (nI rmm)) 101 tds) 102 (nI op)) 111 (nI (tp - 1))) 115 (nI wn)) 116 (-1)) 117 (nI fu)) 118 rs0) 119 uc0) 121 ma0) 122 mc0) 123 ca) 124 mo) 125 nw) 126 isn) 128 (nI on)) 130 (nI idn)) 102 (nI op)) 111 (nI (tp - 1))) 115 (nI wn)) 116 (-1)) 117 (nI fu)) 118 rs0) 119 uc0) 125 nw) 126 isn) B) := hD
        refine pc_V0 (G := G) (As := [.int (nI p9), .int (nI 4002)]) (rest := []) hx hb hml hown hq hE hX pX0_al hP hD hS hA hl.1 (R_raises l G h0 a (upd (upd (upd (upd (upd (upd (upd (upd (upd (upd (upd (upd (upd (upd (upd (upd (upd (upd (upd (upd F 49 (nI md)) 97 (nI ct)) 98 (nI fl)) 99 (nI rmm)) 101 tds) 102 (nI op)) 111 (nI (tp - 1))) 115 (nI wn)) 116 (-1)) 117 (nI fu)) 118 rs0) 119 uc0) 121 ma0) 122 mc0) 123 ca) 124 mo) 125 nw) 126 isn) 128 (nI on)) 130 (nI idn)) B Xs gh nd T nm wr lz dc fd md pr bk M rmm (Phi gh ps op (rkN gh n9 true)) op wn fu rd on idn fl ct p9 4002 (4002 - 4000) mt ps (yyU yy (op - 1) u) bf wf (nI (tp - 1)) nw isn rs0 uc0 hln670 (by omega) (by omega) (Or.inr (by omega)) (clF_1 (by omega)) (by omega)) (gV pw_2054 pw_2055 pw_2056 pw_1523 pw_2053) hV_X12_raises 0 9 rfl rfl rfl rfl (Nat.le_of_ble_eq_true rfl) dX12_goesOn_543 ⟨Nat.le_of_ble_eq_true rfl, Nat.le_of_ble_eq_true rfl⟩ ⟨Nat.le_of_ble_eq_true rfl, Nat.le_of_ble_eq_true rfl⟩ (fun v673 u671 H locs hw672 hP hD hS => ?_)
        obtain ⟨op674, tp675, wn676, fu677, en678, nw679, is680, rs681, uc682, X683⟩ := u671
        obtain ⟨hw672, h684⟩ := hw672
        replace h684 : Nx Xs X683 gh nd T nm wr lz dc fd md pr bk M rmm fu (Phi gh ps op (rkN gh n9 true)) op674 tp675 wn676 fu677 rd on idn fl ct en678 nw679 is680 uc682 := h684
        obtain rfl : v673 = none := hw672
        have hP : va_P G.1 pCl (mW G h0 a (upd (upd (upd (upd (upd (upd (upd (upd (upd (upd (upd (upd (upd (upd (upd (upd (upd (upd (upd (upd F 49 (nI md)) 97 (nI ct)) 98 (nI fl)) 99 (nI rmm)) 101 tds) 102 (nI op674)) 111 (nI tp675)) 115 (nI wn676)) 116 en678) 117 (nI fu677)) 118 rs681) 119 uc682) 121 ma0) 122 mc0) 123 ca) 124 mo) 125 nw679) 126 is680) 128 (nI on)) 130 (nI idn)) X683) _ := hP
        have hD : va_D A (mW G h0 a (upd (upd (upd (upd (upd (upd (upd (upd (upd (upd (upd (upd (upd (upd (upd (upd (upd (upd (upd (upd F 49 (nI md)) 97 (nI ct)) 98 (nI fl)) 99 (nI rmm)) 101 tds) 102 (nI op674)) 111 (nI tp675)) 115 (nI wn676)) 116 en678) 117 (nI fu677)) 118 rs681) 119 uc682) 121 ma0) 122 mc0) 123 ca) 124 mo) 125 nw679) 126 is680) 128 (nI on)) 130 (nI idn)) X683) := hD
        refine W.widen (k := 0) (n := 0) (Nat.le_of_ble_eq_true rfl) (Nat.le_of_ble_eq_true rfl) ?_
        refine W.eq (g2 := F0 m 546 ls []) rfl ?_
        refine lv_goto (tgt := 619) hx hb dX12_goesOn_546 (by decide) ?_
        have hz685 : Nx Xs X683 gh nd T nm wr lz dc fd md pr bk M rmm fu (Phi gh ps op (rkN gh n9 true)) op674 tp675 wn676 fu677 rd on idn fl ct en678 nw679 is680 uc682 := h684
        have hP : va_P G.1 pCl (mW G h0 a (upd (upd (upd (upd (upd (upd (upd (upd (upd (upd (upd (upd (upd (upd (upd (upd (upd (upd (upd (upd F 49 (nI md)) 97 (nI ct)) 98 (nI fl)) 99 (nI rmm)) 101 tds) 102 (nI op674)) 111 (nI tp675)) 115 (nI wn676)) 116 en678) 117 (nI fu677)) 118 rs681) 119 uc682) 121 ma0) 122 mc0) 123 ca) 124 mo) 125 nw679) 126 is680) 128 (nI on)) 130 (nI idn)) X683) _ := hP
        have hD : va_D A (mW G h0 a (upd (upd (upd (upd (upd (upd (upd (upd (upd (upd (upd (upd (upd (upd (upd (upd (upd (upd (upd (upd F 49 (nI md)) 97 (nI ct)) 98 (nI fl)) 99 (nI rmm)) 101 tds) 102 (nI op674)) 111 (nI tp675)) 115 (nI wn676)) 116 en678) 117 (nI fu677)) 118 rs681) 119 uc682) 121 ma0) 122 mc0) 123 ca) 124 mo) 125 nw679) 126 is680) 128 (nI on)) 130 (nI idn)) X683) := hD
        exact W.vret hx hb hr (fun t9 ht9 hW9 => ⟨⟨_, (op674, tp675, wn676, fu677, en678, nw679, is680, rs681, uc682, on, idn, fl, ct, tds, ma0, mc0, ca, mo, X683), rfl, ⟨rfl, hz685⟩, by rw [ht9]; exact hP, hD⟩, hS.F ht9⟩) hS.2.2 dX12_goesOn_619
  · by_cases hfi : Xs 12 p9 = nI n9
    · refine lv_iload_n hx hb dX12_goesOn_0 rfl (lv_at hl 2 rfl) ?_
      refine lv_aload_n hx hb dX12_goesOn_1 rfl (lv_at hl 0 rfl) ?_
      refine r_get (v := .ref (a 12)) hx hb hown hq hE hP 20 47 tFX12_20 (by decide) pw_1442 rfl dX12_goesOn_2 ?_
      refine lv_iload_n hx hb dX12_goesOn_5 rfl (lv_at hl 1 rfl) ?_
      refine r_ldi (f := (B 12)) (j := p9) hx hb hE hP 12 (ma_12 G a _) rfl (by omega) (by decide) dX12_goesOn_6 ?_
      refine lv_topi (fun x686 e687 => ?_)
      obtain rfl : x686 = nI n9 := e687.trans ((congrFun hw12 _).trans hfi)
      refine lv_icmp_ne (tgt := 14) hx hb dX12_goesOn_7 (by decide) (fun c688 => absurd rfl c688) (fun c688 => ?_)
      refine lv_iconst (v := 1) hx hb dX12_goesOn_10 (by decide) ?_
      refine lv_goto (tgt := 15) hx hb dX12_goesOn_11 (by decide) ?_
      refine lv_istore_n (lv' := [(3, .int 1), (0, .ref h0), (1, .int (nI p9)), (2, .int (nI n9))]) hx hb dX12_goesOn_15 rfl hl (by decide) rfl (fun ls hl => ?_)
      refine lv_aload_n hx hb dX12_goesOn_16 rfl (lv_at hl 1 rfl) ?_
      refine r_get (v := .ref (a 9)) hx hb hown hq hE hP 17 38 tFX12_17 (by decide) pw_1439 rfl dX12_goesOn_17 ?_
      refine lv_iload_n hx hb dX12_goesOn_20 rfl (lv_at hl 2 rfl) ?_
      refine r_ldi (f := (B 9)) (j := p9) hx hb hE hP 9 (ma_9 G a _) rfl (by omega) (by decide) dX12_goesOn_21 ?_
      refine lv_topi (fun x689 e690 => ?_)
      obtain rfl : x689 = 23 := e690.trans ((congrFun hw9 _).trans hkd)
      refine lv_tableOut (tgt := 559) hx hb dX12_goesOn_22 (by decide) (by decide) ?_
      refine lv_iload_n hx hb dX12_goesOn_559 rfl (lv_at hl 0 rfl) ?_
      refine lv_if_eq (tgt := 593) hx hb dX12_goesOn_560 (by decide) (fun c691 => absurd c691 (by decide)) (fun c691 => ?_)
      refine lv_aload_n hx hb dX12_goesOn_563 rfl (lv_at hl 1 rfl) ?_
      refine lv_aload_n hx hb dX12_goesOn_564 rfl (lv_at hl 1 rfl) ?_
      obtain ⟨ht1, hm2⟩ := hR.k23a (uc := uc0) hp hst hkd hfi
      have hP : va_P G.1 pCl (mW G h0 a (upd (upd (upd (upd (upd (upd (upd (upd (upd (upd (upd (upd (upd (upd (upd (upd (upd (upd (upd (upd (upd F 49 (nI md)) 97 (nI ct)) 98 (nI fl)) 99 (nI rmm)) 101 tds) 102 (nI op)) 111 (nI tp)) 115 (nI wn)) 116 (-1)) 117 (nI fu)) 118 rs0) 119 uc0) 121 ma0) 122 mc0) 123 ca) 124 mo) 125 nw) 126 isn) 128 (nI on)) 130 (nI idn)) 111 (nI tp)) (updA B 68 (B 68))) _ := hP
      have hD : va_D A (mW G h0 a (upd (upd (upd (upd (upd (upd (upd (upd (upd (upd (upd (upd (upd (upd (upd (upd (upd (upd (upd (upd (upd F 49 (nI md)) 97 (nI ct)) 98 (nI fl)) 99 (nI rmm)) 101 tds) 102 (nI op)) 111 (nI tp)) 115 (nI wn)) 116 (-1)) 117 (nI fu)) 118 rs0) 119 uc0) 121 ma0) 122 mc0) 123 ca) 124 mo) 125 nw) 126 isn) 128 (nI on)) 130 (nI idn)) 111 (nI tp)) (updA B 68 (B 68))) := hD
      refine pc_V0 (G := G) (As := []) (rest := [.ref h0]) hx hb hml hown hq hE hX pX0_al hP hD hS hA hl.1 (R_pop l G h0 a (upd (upd (upd (upd (upd (upd (upd (upd (upd (upd (upd (upd (upd (upd (upd (upd (upd (upd (upd (upd F 49 (nI md)) 97 (nI ct)) 98 (nI fl)) 99 (nI rmm)) 101 tds) 102 (nI op)) 111 (nI tp)) 115 (nI wn)) 116 (-1)) 117 (nI fu)) 118 rs0) 119 uc0) 121 ma0) 122 mc0) 123 ca) 124 mo) 125 nw) 126 isn) 128 (nI on)) 130 (nI idn)) B tp (B 68) (by omega)) (gV pw_2082 pw_2083 pw_2084 pw_1523 pw_1965) hV_X12_pop 0 9 rfl rfl rfl rfl (Nat.le_of_ble_eq_true rfl) dX12_goesOn_565 ⟨Nat.le_of_ble_eq_true rfl, Nat.le_of_ble_eq_true rfl⟩ ⟨Nat.le_of_ble_eq_true rfl, Nat.le_of_ble_eq_true rfl⟩ (fun v694 u692 H locs hw693 hP hD hS => ?_)
      obtain rfl : v694 = some (.int ((B 68) (tp - 1))) := hw693
      have hP : va_P G.1 pCl (mW G h0 a (upd (upd (upd (upd (upd (upd (upd (upd (upd (upd (upd (upd (upd (upd (upd (upd (upd (upd (upd (upd F 49 (nI md)) 97 (nI ct)) 98 (nI fl)) 99 (nI rmm)) 101 tds) 102 (nI op)) 111 (nI (tp - 1))) 115 (nI wn)) 116 (-1)) 117 (nI fu)) 118 rs0) 119 uc0) 121 ma0) 122 mc0) 123 ca) 124 mo) 125 nw) 126 isn) 128 (nI on)) 130 (nI idn)) B) _ := hP
      have hD : va_D A (mW G h0 a (upd (upd (upd (upd (upd (upd (upd (upd (upd (upd (upd (upd (upd (upd (upd (upd (upd (upd (upd (upd F 49 (nI md)) 97 (nI ct)) 98 (nI fl)) 99 (nI rmm)) 101 tds) 102 (nI op)) 111 (nI (tp - 1))) 115 (nI wn)) 116 (-1)) 117 (nI fu)) 118 rs0) 119 uc0) 121 ma0) 122 mc0) 123 ca) 124 mo) 125 nw) 126 isn) 128 (nI on)) 130 (nI idn)) B) := hD
      refine W.widen (k := 0) (n := 0) (Nat.le_of_ble_eq_true rfl) (Nat.le_of_ble_eq_true rfl) ?_
      refine W.eq (g2 := F0 m 568 ls [.int ((B 68) (tp - 1)), .ref h0]) rfl ?_
      refine lv_iconst (v := 1) hx hb dX12_goesOn_568 (by decide) ?_
      refine lv_icmp_ne (tgt := 581) hx hb dX12_goesOn_569 (by decide) (fun c695 => ?_) (fun c695 => ?_)
      · refine lv_aload_n hx hb dX12_goesOn_581 rfl (lv_at hl 1 rfl) ?_
        refine r_get (v := .ref (a 14)) hx hb hown hq hE hP 22 53 tFX12_22 (by decide) pw_1444 rfl dX12_goesOn_582 ?_
        refine lv_iload_n hx hb dX12_goesOn_585 rfl (lv_at hl 2 rfl) ?_
        refine r_ldi (f := (B 14)) (j := p9) hx hb hE hP 14 (ma_14 G a _) rfl (by omega) (by decide) dX12_goesOn_586 ?_
        obtain ⟨j1, hl1, hl2, hl3⟩ := hm2 3 (Or.inr rfl)
        refine lv_topi (fun x696 e697 => ?_)
        obtain rfl : x696 = nI j1 := e697.trans ((hR.y14 hp hkd (by omega)).trans hl1)
        have hP : va_P G.1 pCl (mW G h0 a (upd (upd (upd (upd (upd (upd (upd (upd (upd (upd (upd (upd (upd (upd (upd (upd (upd (upd (upd (upd F 49 (nI md)) 97 (nI ct)) 98 (nI fl)) 99 (nI rmm)) 101 tds) 102 (nI op)) 111 (nI (tp - 1))) 115 (nI wn)) 116 (-1)) 117 (nI fu)) 118 rs0) 119 uc0) 121 ma0) 122 mc0) 123 ca) 124 mo) 125 nw) 126 isn) 128 (nI on)) 130 (nI idn)) B) _ := hP
        have hD : va_D A (mW G h0 a (upd (upd (upd (upd (upd (upd (upd (upd (upd (upd (upd (upd (upd (upd (upd (upd (upd (upd (upd (upd F 49 (nI md)) 97 (nI ct)) 98 (nI fl)) 99 (nI rmm)) 101 tds) 102 (nI op)) 111 (nI (tp - 1))) 115 (nI wn)) 116 (-1)) 117 (nI fu)) 118 rs0) 119 uc0) 121 ma0) 122 mc0) 123 ca) 124 mo) 125 nw) 126 isn) 128 (nI on)) 130 (nI idn)) B) := hD
        refine pc_V0 (G := G) (As := [.int (nI j1)]) (rest := []) hx hb hml hown hq hE hX pX0_al hP hD hS hA hl.1 (R_begin l G h0 a (upd (upd (upd (upd (upd (upd (upd (upd (upd (upd (upd (upd (upd (upd (upd (upd (upd (upd (upd (upd F 49 (nI md)) 97 (nI ct)) 98 (nI fl)) 99 (nI rmm)) 101 tds) 102 (nI op)) 111 (nI (tp - 1))) 115 (nI wn)) 116 (-1)) 117 (nI fu)) 118 rs0) 119 uc0) 121 ma0) 122 mc0) 123 ca) 124 mo) 125 nw) 126 isn) 128 (nI on)) 130 (nI idn)) B (nI j1)) (gV pw_2016 pw_2017 pw_2018 pw_1523 pw_2002) hV_X12_begin 0 9 rfl rfl rfl rfl (Nat.le_of_ble_eq_true rfl) dX12_goesOn_587 ⟨Nat.le_of_ble_eq_true rfl, Nat.le_of_ble_eq_true rfl⟩ ⟨Nat.le_of_ble_eq_true rfl, Nat.le_of_ble_eq_true rfl⟩ (fun v700 u698 H locs hw699 hP hD hS => ?_)
        obtain rfl : v700 = none := hw699
        have hP : va_P G.1 pCl (mW G h0 a (upd (upd (upd (upd (upd (upd (upd (upd (upd (upd (upd (upd (upd (upd (upd (upd (upd (upd (upd (upd F 49 (nI md)) 97 (nI ct)) 98 (nI fl)) 99 (nI rmm)) 101 tds) 102 (nI op)) 111 (nI (tp - 1))) 115 (nI wn)) 116 (-1)) 117 (nI fu)) 118 rs0) 119 uc0) 121 ma0) 122 mc0) 123 ca) 124 mo) 125 (nI j1)) 126 1) 128 (nI on)) 130 (nI idn)) B) _ := hP
        have hD : va_D A (mW G h0 a (upd (upd (upd (upd (upd (upd (upd (upd (upd (upd (upd (upd (upd (upd (upd (upd (upd (upd (upd (upd F 49 (nI md)) 97 (nI ct)) 98 (nI fl)) 99 (nI rmm)) 101 tds) 102 (nI op)) 111 (nI (tp - 1))) 115 (nI wn)) 116 (-1)) 117 (nI fu)) 118 rs0) 119 uc0) 121 ma0) 122 mc0) 123 ca) 124 mo) 125 (nI j1)) 126 1) 128 (nI on)) 130 (nI idn)) B) := hD
        refine W.widen (k := 0) (n := 0) (Nat.le_of_ble_eq_true rfl) (Nat.le_of_ble_eq_true rfl) ?_
        refine W.eq (g2 := F0 m 590 ls []) rfl ?_
        refine lv_goto (tgt := 619) hx hb dX12_goesOn_590 (by decide) ?_
        have hz701 : Nx Xs B gh nd T nm wr lz dc fd md pr bk M rmm fu (Phi gh ps op (rkN gh n9 true)) op (tp - 1) wn fu rd on idn fl ct ((-1) : Int32) (nI j1) (1 : Int32) uc0 := hl3
        have hP : va_P G.1 pCl (mW G h0 a (upd (upd (upd (upd (upd (upd (upd (upd (upd (upd (upd (upd (upd (upd (upd (upd (upd (upd (upd (upd F 49 (nI md)) 97 (nI ct)) 98 (nI fl)) 99 (nI rmm)) 101 tds) 102 (nI op)) 111 (nI (tp - 1))) 115 (nI wn)) 116 ((-1) : Int32)) 117 (nI fu)) 118 rs0) 119 uc0) 121 ma0) 122 mc0) 123 ca) 124 mo) 125 (nI j1)) 126 (1 : Int32)) 128 (nI on)) 130 (nI idn)) B) _ := hP
        have hD : va_D A (mW G h0 a (upd (upd (upd (upd (upd (upd (upd (upd (upd (upd (upd (upd (upd (upd (upd (upd (upd (upd (upd (upd F 49 (nI md)) 97 (nI ct)) 98 (nI fl)) 99 (nI rmm)) 101 tds) 102 (nI op)) 111 (nI (tp - 1))) 115 (nI wn)) 116 ((-1) : Int32)) 117 (nI fu)) 118 rs0) 119 uc0) 121 ma0) 122 mc0) 123 ca) 124 mo) 125 (nI j1)) 126 (1 : Int32)) 128 (nI on)) 130 (nI idn)) B) := hD
        exact W.vret hx hb hr (fun t9 ht9 hW9 => ⟨⟨_, (op, (tp - 1), wn, fu, ((-1) : Int32), (nI j1), (1 : Int32), rs0, uc0, on, idn, fl, ct, tds, ma0, mc0, ca, mo, B), rfl, ⟨rfl, hz701⟩, by rw [ht9]; exact hP, hD⟩, hS.F ht9⟩) hS.2.2 dX12_goesOn_619
      · refine lv_aload_n hx hb dX12_goesOn_572 rfl (lv_at hl 1 rfl) ?_
        refine r_get (v := .ref (a 13)) hx hb hown hq hE hP 21 50 tFX12_21 (by decide) pw_1443 rfl dX12_goesOn_573 ?_
        refine lv_iload_n hx hb dX12_goesOn_576 rfl (lv_at hl 2 rfl) ?_
        refine r_ldi (f := (B 13)) (j := p9) hx hb hE hP 13 (ma_13 G a _) rfl (by omega) (by decide) dX12_goesOn_577 ?_
        obtain ⟨j1, hl1, hl2, hl3⟩ := hm2 2 (Or.inl rfl)
        refine lv_topi (fun x702 e703 => ?_)
        obtain rfl : x702 = nI j1 := e703.trans ((congrFun hw13 _).trans hl1)
        refine lv_goto (tgt := 587) hx hb dX12_goesOn_578 (by decide) ?_
        have hP : va_P G.1 pCl (mW G h0 a (upd (upd (upd (upd (upd (upd (upd (upd (upd (upd (upd (upd (upd (upd (upd (upd (upd (upd (upd (upd F 49 (nI md)) 97 (nI ct)) 98 (nI fl)) 99 (nI rmm)) 101 tds) 102 (nI op)) 111 (nI (tp - 1))) 115 (nI wn)) 116 (-1)) 117 (nI fu)) 118 rs0) 119 uc0) 121 ma0) 122 mc0) 123 ca) 124 mo) 125 nw) 126 isn) 128 (nI on)) 130 (nI idn)) B) _ := hP
        have hD : va_D A (mW G h0 a (upd (upd (upd (upd (upd (upd (upd (upd (upd (upd (upd (upd (upd (upd (upd (upd (upd (upd (upd (upd F 49 (nI md)) 97 (nI ct)) 98 (nI fl)) 99 (nI rmm)) 101 tds) 102 (nI op)) 111 (nI (tp - 1))) 115 (nI wn)) 116 (-1)) 117 (nI fu)) 118 rs0) 119 uc0) 121 ma0) 122 mc0) 123 ca) 124 mo) 125 nw) 126 isn) 128 (nI on)) 130 (nI idn)) B) := hD
        refine pc_V0 (G := G) (As := [.int (nI j1)]) (rest := []) hx hb hml hown hq hE hX pX0_al hP hD hS hA hl.1 (R_begin l G h0 a (upd (upd (upd (upd (upd (upd (upd (upd (upd (upd (upd (upd (upd (upd (upd (upd (upd (upd (upd (upd F 49 (nI md)) 97 (nI ct)) 98 (nI fl)) 99 (nI rmm)) 101 tds) 102 (nI op)) 111 (nI (tp - 1))) 115 (nI wn)) 116 (-1)) 117 (nI fu)) 118 rs0) 119 uc0) 121 ma0) 122 mc0) 123 ca) 124 mo) 125 nw) 126 isn) 128 (nI on)) 130 (nI idn)) B (nI j1)) (gV pw_2016 pw_2017 pw_2018 pw_1523 pw_2002) hV_X12_begin 0 9 rfl rfl rfl rfl (Nat.le_of_ble_eq_true rfl) dX12_goesOn_587 ⟨Nat.le_of_ble_eq_true rfl, Nat.le_of_ble_eq_true rfl⟩ ⟨Nat.le_of_ble_eq_true rfl, Nat.le_of_ble_eq_true rfl⟩ (fun v706 u704 H locs hw705 hP hD hS => ?_)
        obtain rfl : v706 = none := hw705
        have hP : va_P G.1 pCl (mW G h0 a (upd (upd (upd (upd (upd (upd (upd (upd (upd (upd (upd (upd (upd (upd (upd (upd (upd (upd (upd (upd F 49 (nI md)) 97 (nI ct)) 98 (nI fl)) 99 (nI rmm)) 101 tds) 102 (nI op)) 111 (nI (tp - 1))) 115 (nI wn)) 116 (-1)) 117 (nI fu)) 118 rs0) 119 uc0) 121 ma0) 122 mc0) 123 ca) 124 mo) 125 (nI j1)) 126 1) 128 (nI on)) 130 (nI idn)) B) _ := hP
        have hD : va_D A (mW G h0 a (upd (upd (upd (upd (upd (upd (upd (upd (upd (upd (upd (upd (upd (upd (upd (upd (upd (upd (upd (upd F 49 (nI md)) 97 (nI ct)) 98 (nI fl)) 99 (nI rmm)) 101 tds) 102 (nI op)) 111 (nI (tp - 1))) 115 (nI wn)) 116 (-1)) 117 (nI fu)) 118 rs0) 119 uc0) 121 ma0) 122 mc0) 123 ca) 124 mo) 125 (nI j1)) 126 1) 128 (nI on)) 130 (nI idn)) B) := hD
        refine W.widen (k := 0) (n := 0) (Nat.le_of_ble_eq_true rfl) (Nat.le_of_ble_eq_true rfl) ?_
        refine W.eq (g2 := F0 m 590 ls []) rfl ?_
        refine lv_goto (tgt := 619) hx hb dX12_goesOn_590 (by decide) ?_
        have hz707 : Nx Xs B gh nd T nm wr lz dc fd md pr bk M rmm fu (Phi gh ps op (rkN gh n9 true)) op (tp - 1) wn fu rd on idn fl ct ((-1) : Int32) (nI j1) (1 : Int32) uc0 := hl3
        have hP : va_P G.1 pCl (mW G h0 a (upd (upd (upd (upd (upd (upd (upd (upd (upd (upd (upd (upd (upd (upd (upd (upd (upd (upd (upd (upd F 49 (nI md)) 97 (nI ct)) 98 (nI fl)) 99 (nI rmm)) 101 tds) 102 (nI op)) 111 (nI (tp - 1))) 115 (nI wn)) 116 ((-1) : Int32)) 117 (nI fu)) 118 rs0) 119 uc0) 121 ma0) 122 mc0) 123 ca) 124 mo) 125 (nI j1)) 126 (1 : Int32)) 128 (nI on)) 130 (nI idn)) B) _ := hP
        have hD : va_D A (mW G h0 a (upd (upd (upd (upd (upd (upd (upd (upd (upd (upd (upd (upd (upd (upd (upd (upd (upd (upd (upd (upd F 49 (nI md)) 97 (nI ct)) 98 (nI fl)) 99 (nI rmm)) 101 tds) 102 (nI op)) 111 (nI (tp - 1))) 115 (nI wn)) 116 ((-1) : Int32)) 117 (nI fu)) 118 rs0) 119 uc0) 121 ma0) 122 mc0) 123 ca) 124 mo) 125 (nI j1)) 126 (1 : Int32)) 128 (nI on)) 130 (nI idn)) B) := hD
        exact W.vret hx hb hr (fun t9 ht9 hW9 => ⟨⟨_, (op, (tp - 1), wn, fu, ((-1) : Int32), (nI j1), (1 : Int32), rs0, uc0, on, idn, fl, ct, tds, ma0, mc0, ca, mo, B), rfl, ⟨rfl, hz707⟩, by rw [ht9]; exact hP, hD⟩, hS.F ht9⟩) hS.2.2 dX12_goesOn_619
    · refine lv_iload_n hx hb dX12_goesOn_0 rfl (lv_at hl 2 rfl) ?_
      refine lv_aload_n hx hb dX12_goesOn_1 rfl (lv_at hl 0 rfl) ?_
      refine r_get (v := .ref (a 12)) hx hb hown hq hE hP 20 47 tFX12_20 (by decide) pw_1442 rfl dX12_goesOn_2 ?_
      refine lv_iload_n hx hb dX12_goesOn_5 rfl (lv_at hl 1 rfl) ?_
      refine r_ldi (f := (B 12)) (j := p9) hx hb hE hP 12 (ma_12 G a _) rfl (by omega) (by decide) dX12_goesOn_6 ?_
      refine lv_icmp_ne (tgt := 14) hx hb dX12_goesOn_7 (by decide) (fun c708 => ?_) (fun c708 => absurd ((congrFun hw12 _).symm.trans c708.symm) hfi)
      refine lv_iconst (v := 0) hx hb dX12_goesOn_14 (by decide) ?_
      refine lv_istore_n (lv' := [(3, .int 0), (0, .ref h0), (1, .int (nI p9)), (2, .int (nI n9))]) hx hb dX12_goesOn_15 rfl hl (by decide) rfl (fun ls hl => ?_)
      refine lv_aload_n hx hb dX12_goesOn_16 rfl (lv_at hl 1 rfl) ?_
      refine r_get (v := .ref (a 9)) hx hb hown hq hE hP 17 38 tFX12_17 (by decide) pw_1439 rfl dX12_goesOn_17 ?_
      refine lv_iload_n hx hb dX12_goesOn_20 rfl (lv_at hl 2 rfl) ?_
      refine r_ldi (f := (B 9)) (j := p9) hx hb hE hP 9 (ma_9 G a _) rfl (by omega) (by decide) dX12_goesOn_21 ?_
      refine lv_topi (fun x709 e710 => ?_)
      obtain rfl : x709 = 23 := e710.trans ((congrFun hw9 _).trans hkd)
      refine lv_tableOut (tgt := 559) hx hb dX12_goesOn_22 (by decide) (by decide) ?_
      refine lv_iload_n hx hb dX12_goesOn_559 rfl (lv_at hl 0 rfl) ?_
      refine lv_if_eq (tgt := 593) hx hb dX12_goesOn_560 (by decide) (fun c711 => ?_) (fun c711 => absurd c711 (by decide))
      obtain ⟨ht1, t9, hm1, hm4, hm3⟩ := hR.k23b (uc := uc0) hp hst hkd hfi
      refine lv_aload_n hx hb dX12_goesOn_593 rfl (lv_at hl 1 rfl) ?_
      refine r_get (v := .ref (a 69)) hx hb hown hq hE hP 110 221 tFX12_110 (by decide) pw_1502 rfl dX12_goesOn_594 ?_
      refine lv_aload_n hx hb dX12_goesOn_597 rfl (lv_at hl 1 rfl) ?_
      refine r_get (v := .int (nI tp)) hx hb hown hq hE hP 111 698 tFX12_111 (by decide) pw_1964 rfl dX12_goesOn_598 ?_
      refine lv_iconst (v := 1) hx hb dX12_goesOn_601 (by decide) ?_
      refine lv_isub hx hb dX12_goesOn_602 ?_
      refine lv_topi (fun x712 e713 => ?_)
      obtain rfl : x712 = nI (tp - 1) := e713.trans (nI_subN (a := 1) (b := tp) (by omega))
      refine lv_aload_n hx hb dX12_goesOn_603 rfl (lv_at hl 1 rfl) ?_
      refine lv_aload_n hx hb dX12_goesOn_604 rfl (lv_at hl 1 rfl) ?_
      refine r_get (v := .ref (a 17)) hx hb hown hq hE hP 25 62 tFX12_25 (by decide) pw_1447 rfl dX12_goesOn_605 ?_
      refine lv_iload_n hx hb dX12_goesOn_608 rfl (lv_at hl 2 rfl) ?_
      refine r_ldi (f := (B 17)) (j := p9) hx hb hE hP 17 (ma_17 G a _) rfl (by omega) (by decide) dX12_goesOn_609 ?_
      refine lv_topi (fun x714 e715 => ?_)
      obtain rfl : x714 = nI t9 := e715.trans hm1
      have hP : va_P G.1 pCl (mW G h0 a (upd (upd (upd (upd (upd (upd (upd (upd (upd (upd (upd (upd (upd (upd (upd (upd (upd (upd (upd (upd F 49 (nI md)) 97 (nI ct)) 98 (nI fl)) 99 (nI rmm)) 101 tds) 102 (nI op)) 111 (nI tp)) 115 (nI wn)) 116 (-1)) 117 (nI fu)) 118 rs0) 119 uc0) 121 ma0) 122 mc0) 123 ca) 124 mo) 125 nw) 126 isn) 128 (nI on)) 130 (nI idn)) B) _ := hP
      have hD : va_D A (mW G h0 a (upd (upd (upd (upd (upd (upd (upd (upd (upd (upd (upd (upd (upd (upd (upd (upd (upd (upd (upd (upd F 49 (nI md)) 97 (nI ct)) 98 (nI fl)) 99 (nI rmm)) 101 tds) 102 (nI op)) 111 (nI tp)) 115 (nI wn)) 116 (-1)) 117 (nI fu)) 118 rs0) 119 uc0) 121 ma0) 122 mc0) 123 ca) 124 mo) 125 nw) 126 isn) 128 (nI on)) 130 (nI idn)) B) := hD
      refine pc_V0 (G := G) (As := [.int (nI t9)]) (rest := [.int (nI (tp - 1)), .ref (a 69)]) hx hb hml hown hq hE hX pX0_al hP hD hS hA hl.1 (R_isReference l G h0 a (upd (upd (upd (upd (upd (upd (upd (upd (upd (upd (upd (upd (upd (upd (upd (upd (upd (upd (upd (upd F 49 (nI md)) 97 (nI ct)) 98 (nI fl)) 99 (nI rmm)) 101 tds) 102 (nI op)) 111 (nI tp)) 115 (nI wn)) 116 (-1)) 117 (nI fu)) 118 rs0) 119 uc0) 121 ma0) 122 mc0) 123 ca) 124 mo) 125 nw) 126 isn) 128 (nI on)) 130 (nI idn)) B t9 (by omega)) (gV pw_1783 pw_1784 pw_1785 pw_1523 pw_1779) hV_X12_isReference 0 9 rfl rfl rfl rfl (Nat.le_of_ble_eq_true rfl) dX12_goesOn_610 ⟨Nat.le_of_ble_eq_true rfl, Nat.le_of_ble_eq_true rfl⟩ ⟨Nat.le_of_ble_eq_true rfl, Nat.le_of_ble_eq_true rfl⟩ (fun v718 u716 H locs hw717 hP hD hS => ?_)
      obtain ⟨r719, rfl⟩ : ∃ z, z = u716 := ⟨_, rfl⟩
      obtain ⟨hw717, h720, h721, h722⟩ := hw717
      replace h720 : r719 ≤ 1 := h720
      replace h721 : 3 * r719 ≤ t9 := h721
      replace h722 : t9 ≤ 2 + 9000 * r719 := h722
      obtain rfl : v718 = some (.int (nI r719)) := hw717
      have hP : va_P G.1 pCl (mW G h0 a (upd (upd (upd (upd (upd (upd (upd (upd (upd (upd (upd (upd (upd (upd (upd (upd (upd (upd (upd (upd F 49 (nI md)) 97 (nI ct)) 98 (nI fl)) 99 (nI rmm)) 101 tds) 102 (nI op)) 111 (nI tp)) 115 (nI wn)) 116 (-1)) 117 (nI fu)) 118 rs0) 119 uc0) 121 ma0) 122 mc0) 123 ca) 124 mo) 125 nw) 126 isn) 128 (nI on)) 130 (nI idn)) B) _ := hP
      have hD : va_D A (mW G h0 a (upd (upd (upd (upd (upd (upd (upd (upd (upd (upd (upd (upd (upd (upd (upd (upd (upd (upd (upd (upd F 49 (nI md)) 97 (nI ct)) 98 (nI fl)) 99 (nI rmm)) 101 tds) 102 (nI op)) 111 (nI tp)) 115 (nI wn)) 116 (-1)) 117 (nI fu)) 118 rs0) 119 uc0) 121 ma0) 122 mc0) 123 ca) 124 mo) 125 nw) 126 isn) 128 (nI on)) 130 (nI idn)) B) := hD
      refine W.widen (k := 0) (n := 0) (Nat.le_of_ble_eq_true rfl) (Nat.le_of_ble_eq_true rfl) ?_
      refine W.eq (g2 := F0 m 613 ls [.int (nI r719), .int (nI (tp - 1)), .ref (a 69)]) rfl ?_
      refine r_stz (f := (B 69)) (j := (tp - 1)) hx hb hE hP hD hS 69 (ma_69 G a _) rfl (mas_69 G a _) (by omega) (by decide) dX12_goesOn_613 (fun H locs hP hD hS => ?_)
      have hbt723 : vp_nar .boolean (nI r719) = nI r719 := vp_bit (by omega)
      rw [hbt723] at hP hD
      have hP : va_P G.1 pCl (mW G h0 a (upd (upd (upd (upd (upd (upd (upd (upd (upd (upd (upd (upd (upd (upd (upd (upd (upd (upd (upd (upd F 49 (nI md)) 97 (nI ct)) 98 (nI fl)) 99 (nI rmm)) 101 tds) 102 (nI op)) 111 (nI tp)) 115 (nI wn)) 116 (-1)) 117 (nI fu)) 118 rs0) 119 uc0) 121 ma0) 122 mc0) 123 ca) 124 mo) 125 nw) 126 isn) 128 (nI on)) 130 (nI idn)) (updA B 69 (upd (B 69) (tp - 1) (nI r719)))) _ := hP
      have hD : va_D A (mW G h0 a (upd (upd (upd (upd (upd (upd (upd (upd (upd (upd (upd (upd (upd (upd (upd (upd (upd (upd (upd (upd F 49 (nI md)) 97 (nI ct)) 98 (nI fl)) 99 (nI rmm)) 101 tds) 102 (nI op)) 111 (nI tp)) 115 (nI wn)) 116 (-1)) 117 (nI fu)) 118 rs0) 119 uc0) 121 ma0) 122 mc0) 123 ca) 124 mo) 125 nw) 126 isn) 128 (nI on)) 130 (nI idn)) (updA B 69 (upd (B 69) (tp - 1) (nI r719)))) := hD
      refine lv_aload_n hx hb dX12_goesOn_614 rfl (lv_at hl 1 rfl) ?_
      refine lv_iload_n hx hb dX12_goesOn_615 rfl (lv_at hl 2 rfl) ?_
      have hP : va_P G.1 pCl (mW G h0 a (upd (upd (upd (upd (upd (upd (upd (upd (upd (upd (upd (upd (upd (upd (upd (upd (upd (upd (upd (upd F 49 (nI md)) 97 (nI ct)) 98 (nI fl)) 99 (nI rmm)) 101 tds) 102 (nI op)) 111 (nI tp)) 115 (nI wn)) 116 (-1)) 117 (nI fu)) 118 rs0) 119 uc0) 121 ma0) 122 mc0) 123 ca) 124 mo) 125 nw) 126 isn) 128 (nI on)) 130 (nI idn)) (updA B 69 (upd (B 69) (tp - 1) (nI r719)))) _ := hP
      have hD : va_D A (mW G h0 a (upd (upd (upd (upd (upd (upd (upd (upd (upd (upd (upd (upd (upd (upd (upd (upd (upd (upd (upd (upd F 49 (nI md)) 97 (nI ct)) 98 (nI fl)) 99 (nI rmm)) 101 tds) 102 (nI op)) 111 (nI tp)) 115 (nI wn)) 116 (-1)) 117 (nI fu)) 118 rs0) 119 uc0) 121 ma0) 122 mc0) 123 ca) 124 mo) 125 nw) 126 isn) 128 (nI on)) 130 (nI idn)) (updA B 69 (upd (B 69) (tp - 1) (nI r719)))) := hD
      refine pc_V0 (G := G) (As := [.int (nI p9)]) (rest := []) hx hb hml hown hq hE hX pX0_al hP hD hS hA hl.1 (R_comesToEnd l G h0 a (upd (upd (upd (upd (upd (upd (upd (upd (upd (upd (upd (upd (upd (upd (upd (upd (upd (upd (upd (upd F 49 (nI md)) 97 (nI ct)) 98 (nI fl)) 99 (nI rmm)) 101 tds) 102 (nI op)) 111 (nI tp)) 115 (nI wn)) 116 (-1)) 117 (nI fu)) 118 rs0) 119 uc0) 121 ma0) 122 mc0) 123 ca) 124 mo) 125 nw) 126 isn) 128 (nI on)) 130 (nI idn)) (updA B 69 (upd (B 69) (tp - 1) (nI r719))) (nI p9)) (gV pw_2010 pw_2011 pw_2012 pw_1523 pw_2005) hV_X12_comesToEnd 0 9 rfl rfl rfl rfl (Nat.le_of_ble_eq_true rfl) dX12_goesOn_616 ⟨Nat.le_of_ble_eq_true rfl, Nat.le_of_ble_eq_true rfl⟩ ⟨Nat.le_of_ble_eq_true rfl, Nat.le_of_ble_eq_true rfl⟩ (fun v726 u724 H locs hw725 hP hD hS => ?_)
      obtain rfl : v726 = none := hw725
      have hP : va_P G.1 pCl (mW G h0 a (upd (upd (upd (upd (upd (upd (upd (upd (upd (upd (upd (upd (upd (upd (upd (upd (upd (upd (upd (upd F 49 (nI md)) 97 (nI ct)) 98 (nI fl)) 99 (nI rmm)) 101 tds) 102 (nI op)) 111 (nI tp)) 115 (nI wn)) 116 (-1)) 117 (nI fu)) 118 rs0) 119 uc0) 121 ma0) 122 mc0) 123 ca) 124 mo) 125 (nI p9)) 126 0) 128 (nI on)) 130 (nI idn)) (updA B 69 (upd (B 69) (tp - 1) (nI r719)))) _ := hP
      have hD : va_D A (mW G h0 a (upd (upd (upd (upd (upd (upd (upd (upd (upd (upd (upd (upd (upd (upd (upd (upd (upd (upd (upd (upd F 49 (nI md)) 97 (nI ct)) 98 (nI fl)) 99 (nI rmm)) 101 tds) 102 (nI op)) 111 (nI tp)) 115 (nI wn)) 116 (-1)) 117 (nI fu)) 118 rs0) 119 uc0) 121 ma0) 122 mc0) 123 ca) 124 mo) 125 (nI p9)) 126 0) 128 (nI on)) 130 (nI idn)) (updA B 69 (upd (B 69) (tp - 1) (nI r719)))) := hD
      refine W.widen (k := 0) (n := 0) (Nat.le_of_ble_eq_true rfl) (Nat.le_of_ble_eq_true rfl) ?_
      refine W.eq (g2 := F0 m 619 ls []) rfl ?_
      have hz727 : Nx Xs (updA B 69 (upd (B 69) (tp - 1) (nI r719))) gh nd T nm wr lz dc fd md pr bk M rmm fu (Phi gh ps op (rkN gh n9 true)) op tp wn fu rd on idn fl ct ((-1) : Int32) (nI p9) (0 : Int32) uc0 := (hm3 _ ⟨h720, h721, h722⟩)
      have hP : va_P G.1 pCl (mW G h0 a (upd (upd (upd (upd (upd (upd (upd (upd (upd (upd (upd (upd (upd (upd (upd (upd (upd (upd (upd (upd F 49 (nI md)) 97 (nI ct)) 98 (nI fl)) 99 (nI rmm)) 101 tds) 102 (nI op)) 111 (nI tp)) 115 (nI wn)) 116 ((-1) : Int32)) 117 (nI fu)) 118 rs0) 119 uc0) 121 ma0) 122 mc0) 123 ca) 124 mo) 125 (nI p9)) 126 (0 : Int32)) 128 (nI on)) 130 (nI idn)) (updA B 69 (upd (B 69) (tp - 1) (nI r719)))) _ := hP
      have hD : va_D A (mW G h0 a (upd (upd (upd (upd (upd (upd (upd (upd (upd (upd (upd (upd (upd (upd (upd (upd (upd (upd (upd (upd F 49 (nI md)) 97 (nI ct)) 98 (nI fl)) 99 (nI rmm)) 101 tds) 102 (nI op)) 111 (nI tp)) 115 (nI wn)) 116 ((-1) : Int32)) 117 (nI fu)) 118 rs0) 119 uc0) 121 ma0) 122 mc0) 123 ca) 124 mo) 125 (nI p9)) 126 (0 : Int32)) 128 (nI on)) 130 (nI idn)) (updA B 69 (upd (B 69) (tp - 1) (nI r719)))) := hD
      exact W.vret hx hb hr (fun t9 ht9 hW9 => ⟨⟨_, (op, tp, wn, fu, ((-1) : Int32), (nI p9), (0 : Int32), rs0, uc0, on, idn, fl, ct, tds, ma0, mc0, ca, mo, (updA B 69 (upd (B 69) (tp - 1) (nI r719)))), rfl, ⟨rfl, hz727⟩, by rw [ht9]; exact hP, hD⟩, hS.F ht9⟩) hS.2.2 dX12_goesOn_619

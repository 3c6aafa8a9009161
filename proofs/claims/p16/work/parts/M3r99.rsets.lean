theorem neg2a {f : Nat} (h : f < 620) : (-2 - nI f : Int32).toInt = -2 - f := by
  rw [Int32.toInt_sub, nI_toInt (by omega)]
  exact Int.bmod_eq_of_le (by show -(_ : Int) ≤ -2 - (f : Int); omega) (by show -2 - (f : Int) < _; omega)
theorem neg2 {f : Nat} (h : f < 620) : (-2 - nI f : Int32) < 0 := by
  rw [Int32.lt_iff_toInt_lt, neg2a h]; show (-2 - (f : Int)) < 0; omega
theorem neg2b {f : Nat} (h : f < 620) : (-2 - (-2 - nI f) : Int32) = nI f := by
  apply Int32.toInt_inj.mp
  rw [Int32.toInt_sub, neg2a h, nI_toInt (by omega)]
  have e : ((-2 : Int32).toInt - (-2 - (f : Int))) = f := by show (-2 : Int) - (-2 - (f : Int)) = f; omega
  rw [e]
  exact Int.bmod_eq_of_le (by show -(_ : Int) ≤ (f : Int); omega) (by show (f : Int) < _; omega)
theorem Sta.out {Y Z : Nat → Nat → Int32} {f : Nat → Int32} (h : Sta Y Z) : Sta Y (updA Z 51 f) := by
  obtain ⟨h1, h2, h3, h4⟩ := h
  unfold updA
  exact ⟨fun q a1 a2 => (if_neg a2).trans (h1 q a1 a2), (if_neg (by omega)).trans h2, (if_neg (by omega)).trans h3, (if_neg (by omega)).trans h4⟩
theorem dX12_sets_0 : decode cX12_sets 0 = .ok (.aload_n 0, 1) := by decide +kernel
theorem dX12_sets_1 : decode cX12_sets 1 = .ok (.getfield 47, 3) := by decide +kernel
theorem dX12_sets_4 : decode cX12_sets 4 = .ok (.iload_n 1, 1) := by decide +kernel
theorem dX12_sets_5 : decode cX12_sets 5 = .ok (.iaload, 1) := by decide +kernel
theorem dX12_sets_6 : decode cX12_sets 6 = .ok (.istore_n 2, 1) := by decide +kernel
theorem dX12_sets_7 : decode cX12_sets 7 = .ok (.aload_n 0, 1) := by decide +kernel
theorem dX12_sets_8 : decode cX12_sets 8 = .ok (.invokevirtual 837, 3) := by decide +kernel
theorem dX12_sets_11 : decode cX12_sets 11 = .ok (.istore_n 3, 1) := by decide +kernel
theorem dX12_sets_12 : decode cX12_sets 12 = .ok (.aload_n 0, 1) := by decide +kernel
theorem dX12_sets_13 : decode cX12_sets 13 = .ok (.getfield 38, 3) := by decide +kernel
theorem dX12_sets_16 : decode cX12_sets 16 = .ok (.iload_n 2, 1) := by decide +kernel
theorem dX12_sets_17 : decode cX12_sets 17 = .ok (.iaload, 1) := by decide +kernel
theorem dX12_sets_18 : decode cX12_sets 18 = .ok (.bipush 6, 2) := by decide +kernel
theorem dX12_sets_20 : decode cX12_sets 20 = .ok (.if_icmp .ne 34, 3) := by decide +kernel
theorem dX12_sets_23 : decode cX12_sets 23 = .ok (.aload_n 0, 1) := by decide +kernel
theorem dX12_sets_24 : decode cX12_sets 24 = .ok (.getfield 65, 3) := by decide +kernel
theorem dX12_sets_27 : decode cX12_sets 27 = .ok (.iload_n 2, 1) := by decide +kernel
theorem dX12_sets_28 : decode cX12_sets 28 = .ok (.iaload, 1) := by decide +kernel
theorem dX12_sets_29 : decode cX12_sets 29 = .ok (.ifCond .lt 25, 3) := by decide +kernel
theorem dX12_sets_32 : decode cX12_sets 32 = .ok (.aload_n 0, 1) := by decide +kernel
theorem dX12_sets_33 : decode cX12_sets 33 = .ok (.getfield 211, 3) := by decide +kernel
theorem dX12_sets_36 : decode cX12_sets 36 = .ok (.aload_n 0, 1) := by decide +kernel
theorem dX12_sets_37 : decode cX12_sets 37 = .ok (.aload_n 0, 1) := by decide +kernel
theorem dX12_sets_38 : decode cX12_sets 38 = .ok (.getfield 65, 3) := by decide +kernel
theorem dX12_sets_41 : decode cX12_sets 41 = .ok (.iload_n 2, 1) := by decide +kernel
theorem dX12_sets_42 : decode cX12_sets 42 = .ok (.iaload, 1) := by decide +kernel
theorem dX12_sets_43 : decode cX12_sets 43 = .ok (.invokevirtual 803, 3) := by decide +kernel
theorem dX12_sets_46 : decode cX12_sets 46 = .ok (.iload_n 3, 1) := by decide +kernel
theorem dX12_sets_47 : decode cX12_sets 47 = .ok (.iastore, 1) := by decide +kernel
theorem dX12_sets_48 : decode cX12_sets 48 = .ok (.aload_n 0, 1) := by decide +kernel
theorem dX12_sets_49 : decode cX12_sets 49 = .ok (.iload_n 1, 1) := by decide +kernel
theorem dX12_sets_50 : decode cX12_sets 50 = .ok (.invokevirtual 760, 3) := by decide +kernel
theorem dX12_sets_53 : decode cX12_sets 53 = .ok (.return_, 1) := by decide +kernel
theorem dX12_sets_54 : decode cX12_sets 54 = .ok (.aload_n 0, 1) := by decide +kernel
theorem dX12_sets_55 : decode cX12_sets 55 = .ok (.getfield 38, 3) := by decide +kernel
theorem dX12_sets_58 : decode cX12_sets 58 = .ok (.iload_n 2, 1) := by decide +kernel
theorem dX12_sets_59 : decode cX12_sets 59 = .ok (.iaload, 1) := by decide +kernel
theorem dX12_sets_60 : decode cX12_sets 60 = .ok (.bipush 15, 2) := by decide +kernel
theorem dX12_sets_62 : decode cX12_sets 62 = .ok (.if_icmp .ne 133, 3) := by decide +kernel
theorem dX12_sets_195 : decode cX12_sets 195 = .ok (.aload_n 0, 1) := by decide +kernel
theorem dX12_sets_196 : decode cX12_sets 196 = .ok (.getfield 38, 3) := by decide +kernel
theorem dX12_sets_199 : decode cX12_sets 199 = .ok (.iload_n 2, 1) := by decide +kernel
theorem dX12_sets_200 : decode cX12_sets 200 = .ok (.iaload, 1) := by decide +kernel
theorem dX12_sets_201 : decode cX12_sets 201 = .ok (.bipush 6, 2) := by decide +kernel
theorem dX12_sets_203 : decode cX12_sets 203 = .ok (.if_icmp .ne 7, 3) := by decide +kernel
theorem dX12_sets_206 : decode cX12_sets 206 = .ok (.iconst 1, 1) := by decide +kernel
theorem dX12_sets_207 : decode cX12_sets 207 = .ok (.goto 4, 3) := by decide +kernel
theorem dX12_sets_211 : decode cX12_sets 211 = .ok (.istore 4, 2) := by decide +kernel
theorem dX12_sets_213 : decode cX12_sets 213 = .ok (.iload 4, 2) := by decide +kernel
theorem dX12_sets_215 : decode cX12_sets 215 = .ok (.ifCond .eq 17, 3) := by decide +kernel
theorem dX12_sets_218 : decode cX12_sets 218 = .ok (.aload_n 0, 1) := by decide +kernel
theorem dX12_sets_219 : decode cX12_sets 219 = .ok (.getfield 199, 3) := by decide +kernel
theorem dX12_sets_222 : decode cX12_sets 222 = .ok (.aload_n 0, 1) := by decide +kernel
theorem dX12_sets_223 : decode cX12_sets 223 = .ok (.getfield 707, 3) := by decide +kernel
theorem dX12_sets_226 : decode cX12_sets 226 = .ok (.iconst 1, 1) := by decide +kernel
theorem dX12_sets_227 : decode cX12_sets 227 = .ok (.isub, 1) := by decide +kernel
theorem dX12_sets_228 : decode cX12_sets 228 = .ok (.iaload, 1) := by decide +kernel
theorem dX12_sets_229 : decode cX12_sets 229 = .ok (.goto 7, 3) := by decide +kernel
theorem dX12_sets_236 : decode cX12_sets 236 = .ok (.istore 5, 2) := by decide +kernel
theorem dX12_sets_238 : decode cX12_sets 238 = .ok (.iload 4, 2) := by decide +kernel
theorem dX12_sets_240 : decode cX12_sets 240 = .ok (.ifCond .eq 15, 3) := by decide +kernel
theorem dX12_sets_243 : decode cX12_sets 243 = .ok (.bipush (-2), 2) := by decide +kernel
theorem dX12_sets_245 : decode cX12_sets 245 = .ok (.aload_n 0, 1) := by decide +kernel
theorem dX12_sets_246 : decode cX12_sets 246 = .ok (.getfield 65, 3) := by decide +kernel
theorem dX12_sets_249 : decode cX12_sets 249 = .ok (.iload_n 2, 1) := by decide +kernel
theorem dX12_sets_250 : decode cX12_sets 250 = .ok (.iaload, 1) := by decide +kernel
theorem dX12_sets_251 : decode cX12_sets 251 = .ok (.isub, 1) := by decide +kernel
theorem dX12_sets_252 : decode cX12_sets 252 = .ok (.goto 9, 3) := by decide +kernel
theorem dX12_sets_261 : decode cX12_sets 261 = .ok (.istore 6, 2) := by decide +kernel
theorem dX12_sets_263 : decode cX12_sets 263 = .ok (.iload 5, 2) := by decide +kernel
theorem dX12_sets_265 : decode cX12_sets 265 = .ok (.ifCond .ne 14, 3) := by decide +kernel
theorem dX12_sets_279 : decode cX12_sets 279 = .ok (.aload_n 0, 1) := by decide +kernel
theorem dX12_sets_280 : decode cX12_sets 280 = .ok (.getfield 193, 3) := by decide +kernel
theorem dX12_sets_283 : decode cX12_sets 283 = .ok (.aload_n 0, 1) := by decide +kernel
theorem dX12_sets_284 : decode cX12_sets 284 = .ok (.getfield 187, 3) := by decide +kernel
theorem dX12_sets_287 : decode cX12_sets 287 = .ok (.iload 5, 2) := by decide +kernel
theorem dX12_sets_289 : decode cX12_sets 289 = .ok (.iconst 1, 1) := by decide +kernel
theorem dX12_sets_290 : decode cX12_sets 290 = .ok (.isub, 1) := by decide +kernel
theorem dX12_sets_291 : decode cX12_sets 291 = .ok (.iaload, 1) := by decide +kernel
theorem dX12_sets_292 : decode cX12_sets 292 = .ok (.aload_n 0, 1) := by decide +kernel
theorem dX12_sets_293 : decode cX12_sets 293 = .ok (.getfield 171, 3) := by decide +kernel
theorem dX12_sets_296 : decode cX12_sets 296 = .ok (.iload 6, 2) := by decide +kernel
theorem dX12_sets_298 : decode cX12_sets 298 = .ok (.iaload, 1) := by decide +kernel
theorem dX12_sets_299 : decode cX12_sets 299 = .ok (.iadd, 1) := by decide +kernel
theorem dX12_sets_300 : decode cX12_sets 300 = .ok (.iload_n 3, 1) := by decide +kernel
theorem dX12_sets_301 : decode cX12_sets 301 = .ok (.iastore, 1) := by decide +kernel
theorem dX12_sets_302 : decode cX12_sets 302 = .ok (.aload_n 0, 1) := by decide +kernel
theorem dX12_sets_303 : decode cX12_sets 303 = .ok (.iload_n 1, 1) := by decide +kernel
theorem dX12_sets_304 : decode cX12_sets 304 = .ok (.invokevirtual 760, 3) := by decide +kernel
theorem dX12_sets_307 : decode cX12_sets 307 = .ok (.return_, 1) := by decide +kernel
theorem dX12_sets_210 : decode cX12_sets 210 = .ok (.iconst 0, 1) := by decide +kernel
theorem dX12_sets_232 : decode cX12_sets 232 = .ok (.aload_n 0, 1) := by decide +kernel
theorem dX12_sets_233 : decode cX12_sets 233 = .ok (.invokevirtual 837, 3) := by decide +kernel
theorem dX12_sets_255 : decode cX12_sets 255 = .ok (.aload_n 0, 1) := by decide +kernel
theorem dX12_sets_256 : decode cX12_sets 256 = .ok (.getfield 65, 3) := by decide +kernel
theorem dX12_sets_259 : decode cX12_sets 259 = .ok (.iload_n 2, 1) := by decide +kernel
theorem dX12_sets_260 : decode cX12_sets 260 = .ok (.iaload, 1) := by decide +kernel
theorem dX12_sets_268 : decode cX12_sets 268 = .ok (.aload_n 0, 1) := by decide +kernel
theorem dX12_sets_269 : decode cX12_sets 269 = .ok (.iload_n 1, 1) := by decide +kernel
theorem dX12_sets_270 : decode cX12_sets 270 = .ok (.sipush 4001, 3) := by decide +kernel
theorem dX12_sets_273 : decode cX12_sets 273 = .ok (.invokevirtual 840, 3) := by decide +kernel
theorem dX12_sets_276 : decode cX12_sets 276 = .ok (.goto 31, 3) := by decide +kernel
theorem dX12_sets_65 : decode cX12_sets 65 = .ok (.aload_n 0, 1) := by decide +kernel
theorem dX12_sets_66 : decode cX12_sets 66 = .ok (.invokevirtual 837, 3) := by decide +kernel
theorem dX12_sets_69 : decode cX12_sets 69 = .ok (.istore 4, 2) := by decide +kernel
theorem dX12_sets_71 : decode cX12_sets 71 = .ok (.aload_n 0, 1) := by decide +kernel
theorem dX12_sets_72 : decode cX12_sets 72 = .ok (.invokevirtual 837, 3) := by decide +kernel
theorem dX12_sets_75 : decode cX12_sets 75 = .ok (.istore 5, 2) := by decide +kernel
theorem dX12_sets_77 : decode cX12_sets 77 = .ok (.iload 5, 2) := by decide +kernel
theorem dX12_sets_79 : decode cX12_sets 79 = .ok (.ifCond .ne 14, 3) := by decide +kernel
theorem dX12_sets_82 : decode cX12_sets 82 = .ok (.aload_n 0, 1) := by decide +kernel
theorem dX12_sets_83 : decode cX12_sets 83 = .ok (.iload_n 1, 1) := by decide +kernel
theorem dX12_sets_84 : decode cX12_sets 84 = .ok (.sipush 4001, 3) := by decide +kernel
theorem dX12_sets_87 : decode cX12_sets 87 = .ok (.invokevirtual 840, 3) := by decide +kernel
theorem dX12_sets_90 : decode cX12_sets 90 = .ok (.goto 104, 3) := by decide +kernel
theorem dX12_sets_194 : decode cX12_sets 194 = .ok (.return_, 1) := by decide +kernel
theorem dX12_sets_93 : decode cX12_sets 93 = .ok (.iload 4, 2) := by decide +kernel
theorem dX12_sets_95 : decode cX12_sets 95 = .ok (.ifCond .lt 17, 3) := by decide +kernel
theorem dX12_sets_112 : decode cX12_sets 112 = .ok (.aload_n 0, 1) := by decide +kernel
theorem dX12_sets_113 : decode cX12_sets 113 = .ok (.iload_n 1, 1) := by decide +kernel
theorem dX12_sets_114 : decode cX12_sets 114 = .ok (.sipush 4004, 3) := by decide +kernel
theorem dX12_sets_117 : decode cX12_sets 117 = .ok (.invokevirtual 840, 3) := by decide +kernel
theorem dX12_sets_120 : decode cX12_sets 120 = .ok (.goto 74, 3) := by decide +kernel
theorem dX12_sets_98 : decode cX12_sets 98 = .ok (.iload 4, 2) := by decide +kernel
theorem dX12_sets_100 : decode cX12_sets 100 = .ok (.aload_n 0, 1) := by decide +kernel
theorem dX12_sets_101 : decode cX12_sets 101 = .ok (.getfield 184, 3) := by decide +kernel
theorem dX12_sets_104 : decode cX12_sets 104 = .ok (.iload 5, 2) := by decide +kernel
theorem dX12_sets_106 : decode cX12_sets 106 = .ok (.iconst 1, 1) := by decide +kernel
theorem dX12_sets_107 : decode cX12_sets 107 = .ok (.isub, 1) := by decide +kernel
theorem dX12_sets_108 : decode cX12_sets 108 = .ok (.iaload, 1) := by decide +kernel
theorem dX12_sets_109 : decode cX12_sets 109 = .ok (.if_icmp .lt 14, 3) := by decide +kernel
theorem dX12_sets_123 : decode cX12_sets 123 = .ok (.aload_n 0, 1) := by decide +kernel
theorem dX12_sets_124 : decode cX12_sets 124 = .ok (.aload_n 0, 1) := by decide +kernel
theorem dX12_sets_125 : decode cX12_sets 125 = .ok (.getfield 181, 3) := by decide +kernel
theorem dX12_sets_128 : decode cX12_sets 128 = .ok (.iload 5, 2) := by decide +kernel
theorem dX12_sets_130 : decode cX12_sets 130 = .ok (.iconst 1, 1) := by decide +kernel
theorem dX12_sets_131 : decode cX12_sets 131 = .ok (.isub, 1) := by decide +kernel
theorem dX12_sets_132 : decode cX12_sets 132 = .ok (.iaload, 1) := by decide +kernel
theorem dX12_sets_133 : decode cX12_sets 133 = .ok (.invokevirtual 525, 3) := by decide +kernel
theorem dX12_sets_136 : decode cX12_sets 136 = .ok (.ifCond .eq 35, 3) := by decide +kernel
theorem dX12_sets_171 : decode cX12_sets 171 = .ok (.aload_n 0, 1) := by decide +kernel
theorem dX12_sets_172 : decode cX12_sets 172 = .ok (.getfield 193, 3) := by decide +kernel
theorem dX12_sets_175 : decode cX12_sets 175 = .ok (.aload_n 0, 1) := by decide +kernel
theorem dX12_sets_176 : decode cX12_sets 176 = .ok (.getfield 187, 3) := by decide +kernel
theorem dX12_sets_179 : decode cX12_sets 179 = .ok (.iload 5, 2) := by decide +kernel
theorem dX12_sets_181 : decode cX12_sets 181 = .ok (.iconst 1, 1) := by decide +kernel
theorem dX12_sets_182 : decode cX12_sets 182 = .ok (.isub, 1) := by decide +kernel
theorem dX12_sets_183 : decode cX12_sets 183 = .ok (.iaload, 1) := by decide +kernel
theorem dX12_sets_184 : decode cX12_sets 184 = .ok (.iload 4, 2) := by decide +kernel
theorem dX12_sets_186 : decode cX12_sets 186 = .ok (.iadd, 1) := by decide +kernel
theorem dX12_sets_187 : decode cX12_sets 187 = .ok (.iload_n 3, 1) := by decide +kernel
theorem dX12_sets_188 : decode cX12_sets 188 = .ok (.iastore, 1) := by decide +kernel
theorem dX12_sets_189 : decode cX12_sets 189 = .ok (.aload_n 0, 1) := by decide +kernel
theorem dX12_sets_190 : decode cX12_sets 190 = .ok (.iload_n 1, 1) := by decide +kernel
theorem dX12_sets_191 : decode cX12_sets 191 = .ok (.invokevirtual 760, 3) := by decide +kernel
theorem dX12_sets_139 : decode cX12_sets 139 = .ok (.iload_n 3, 1) := by decide +kernel
theorem dX12_sets_140 : decode cX12_sets 140 = .ok (.ifCond .eq 31, 3) := by decide +kernel
theorem dX12_sets_143 : decode cX12_sets 143 = .ok (.aload_n 0, 1) := by decide +kernel
theorem dX12_sets_144 : decode cX12_sets 144 = .ok (.iload_n 3, 1) := by decide +kernel
theorem dX12_sets_145 : decode cX12_sets 145 = .ok (.aload_n 0, 1) := by decide +kernel
theorem dX12_sets_146 : decode cX12_sets 146 = .ok (.getfield 181, 3) := by decide +kernel
theorem dX12_sets_149 : decode cX12_sets 149 = .ok (.iload 5, 2) := by decide +kernel
theorem dX12_sets_151 : decode cX12_sets 151 = .ok (.iconst 1, 1) := by decide +kernel
theorem dX12_sets_152 : decode cX12_sets 152 = .ok (.isub, 1) := by decide +kernel
theorem dX12_sets_153 : decode cX12_sets 153 = .ok (.iaload, 1) := by decide +kernel
theorem dX12_sets_154 : decode cX12_sets 154 = .ok (.invokevirtual 849, 3) := by decide +kernel
theorem dX12_sets_157 : decode cX12_sets 157 = .ok (.ifCond .ne 14, 3) := by decide +kernel
theorem dX12_sets_160 : decode cX12_sets 160 = .ok (.aload_n 0, 1) := by decide +kernel
theorem dX12_sets_161 : decode cX12_sets 161 = .ok (.iload_n 1, 1) := by decide +kernel
theorem dX12_sets_162 : decode cX12_sets 162 = .ok (.sipush 4005, 3) := by decide +kernel
theorem dX12_sets_165 : decode cX12_sets 165 = .ok (.invokevirtual 840, 3) := by decide +kernel
theorem dX12_sets_168 : decode cX12_sets 168 = .ok (.goto 26, 3) := by decide +kernel
set_option maxHeartbeats 40000000 in
set_option maxRecDepth 100000 in
/-- sets(p) -/
theorem R_sets (l : Launch) (G : pT) (h0 : Nat) (a : Nat → Nat) (F : Nat → Int32) (B : Nat → Nat → Int32) (Xs : Nat → Nat → Int32) (gh : Nat → Nat → Nat) (nd : Nat) (T : Nat) (nm : Nat) (wr : Nat) (lz : Nat) (dc : Nat) (fd : Nat) (md : Nat) (pr : Nat) (bk : Nat) (M : MTb) (rmm : Nat) (op : Nat) (tp : Nat) (wn : Nat) (fu : Nat) (rd : Nat) (on : Nat) (idn : Nat) (fl : Nat) (ct : Nat) (n9 : Nat) (p9 : Nat) (u : Ps) (mt : Nat → Nat) (ps : Nat → Nat) (yy : Nat → Ps) (bf : Nat → Nat) (wf : Nat → Nat) (nw : Int32) (isn : Int32) (rs0 : Int32) (uc0 : Int32) (hR : Rn Xs B gh nd T nm wr lz dc fd md pr bk M rmm op tp wn fu rd on idn fl ct n9 true mt ps yy bf wf) (hp : Pv Xs (M.1 (mt (op - 1))) (rtP M (mt (op - 1))) p9 u) (hst : stq Xs p9 u n9 (yy (op - 1))) (hfu : fu ≤ 20000) (hkd : Xs 9 p9 = nI 32) : PM l G pX0 yX12_sets cX12_sets 7 none ({ frames := 6, cells := 0, slots := 0, locals := 156 }) [.ref h0, .int (nI p9)] (mW G h0 a (upd (upd (upd (upd (upd (upd (upd (upd (upd F 102 (nI op)) 111 (nI tp)) 115 (nI wn)) 116 (-1)) 117 (nI fu)) 118 rs0) 119 uc0) 125 nw) 126 isn) B) (fun (v : Option Value) (u : Nat × Nat × Nat × Nat × Int32 × Int32 × Int32 × Int32 × Int32 × (Nat → Nat → Int32)) => v = none ∧ (Nx Xs u.2.2.2.2.2.2.2.2.2 gh nd T nm wr lz dc fd md pr bk M rmm fu (Phi gh ps op (rkN gh n9 true)) u.1 u.2.1 u.2.2.1 u.2.2.2.1 rd on idn fl ct u.2.2.2.2.1 u.2.2.2.2.2.1 u.2.2.2.2.2.2.1 u.2.2.2.2.2.2.2.2.1)) (fun u => (mW G h0 a (upd (upd (upd (upd (upd (upd (upd (upd (upd F 102 (nI u.1)) 111 (nI u.2.1)) 115 (nI u.2.2.1)) 116 u.2.2.2.2.1) 117 (nI u.2.2.2.1)) 118 u.2.2.2.2.2.2.2.1) 119 u.2.2.2.2.2.2.2.2.1) 125 u.2.2.2.2.2.1) 126 u.2.2.2.2.2.2.1) u.2.2.2.2.2.2.2.2.2)) := by
  intro sz
  refine Met.ofW (cc := cX12_sets) (maxL := 7) (ret := none) (by decide) rfl ?_
  intro p e s m args below meth c s₁ B9 hml hv
  obtain ⟨rfl, hsz, hP, hD0, hE, hX⟩ := hv
  have hx := B9.exec
  have hb := B9.bytes
  have hr := B9.returns
  have hts := atoms_spec (ws := Cond.code yX12_sets cX12_sets 7 none :: pw) B9.pre
  have hq : ∀ w ∈ pw, w.before _ s = true := fun w h => hts w (List.mem_cons_of_mem _ h)
  have hown : s.vm.findClass RX12 = some m.cls := findClass_of_methodNamed B9.named
  have hlocks := B9.notSynchronized
  subst hsz
  have hD := hD0.self (sz := s.heap.size)
  have hA : ∀ q : Nat, s.heap.size ≤ q → va_A (mW G h0 a (upd (upd (upd (upd (upd (upd (upd (upd (upd F 102 (nI op)) 111 (nI tp)) 115 (nI wn)) 116 (-1)) 117 (nI fu)) 118 rs0) 119 uc0) 125 nw) 126 isn) B) s.heap.size q := fun q h => Or.inr h
  have hP : va_P G.1 pCl (mW G h0 a (upd (upd (upd (upd (upd (upd (upd (upd (upd F 102 (nI op)) 111 (nI tp)) 115 (nI wn)) 116 (-1)) 117 (nI fu)) 118 rs0) 119 uc0) 125 nw) 126 isn) B) s.heap := hP
  generalize va_A (mW G h0 a (upd (upd (upd (upd (upd (upd (upd (upd (upd F 102 (nI op)) 111 (nI tp)) 115 (nI wn)) 116 (-1)) 117 (nI fu)) 118 rs0) 119 uc0) 125 nw) 126 isn) B) s.heap.size = A at hD hE hA ⊢
  have hS : va_S A s.heap s.heap [] := va_S.rf
  have hl := lv_entry ([.ref h0, .int (nI p9)]) (n := 7) (Nat.le_of_ble_eq_true rfl)
  rw [lg_entry_eq]
  generalize (lg_sl ([.ref h0, .int (nI p9)]) ++ List.replicate (7 - (lg_sl ([.ref h0, .int (nI p9)])).length) Slot.unset).toArray = ls at hl ⊢
  have hl : lv_has ls 7 [(0, .ref h0), (1, .int (nI p9))] := hl
  have hPg := hR.pg
  have hbd := hPg.bd
  have hrm := hR.room
  have hpn := hR.pn hp
  obtain ⟨a9, ka, ta9, hx1, hx2, hx3, hx4, -⟩ := hR.g32 hp hst hkd
  have hw9 : B 9 = Xs 9 := hPg.row 9 (by omega) (by omega) (by omega) (by omega) (by omega)
  have hw12 : B 12 = Xs 12 := hPg.row 12 (by omega) (by omega) (by omega) (by omega) (by omega)
  have hw31 : B 31 = Xs 31 := hPg.row 31 (by omega) (by omega) (by omega) (by omega) (by omega)
  rcases hx4 with rfl | rfl | rfl
  · obtain ⟨ht1, hs9⟩ := hR.g32n (uc := uc0) hp hst hkd hx1 hx2 hx3
    rcases hs9 with ⟨v9, hs1, hs2, hs3⟩ | ⟨f9, o9, a8, g9, hs1, hs2, hs4, hs5, hs6, hs7, hs8, hs3⟩
    · refine lv_aload_n hx hb dX12_sets_0 rfl (lv_at hl 0 rfl) ?_
      refine r_get (v := .ref (a 12)) hx hb hown hq hE hP 20 47 tFX12_20 (by decide) pw_1442 rfl dX12_sets_1 ?_
      refine lv_iload_n hx hb dX12_sets_4 rfl (lv_at hl 1 rfl) ?_
      refine r_ldi (f := (B 12)) (j := p9) hx hb hE hP 12 (ma_12 G a _) rfl (by omega) (by decide) dX12_sets_5 ?_
      refine lv_topi (fun x1 e2 => ?_)
      obtain rfl : x1 = nI a9 := e2.trans ((congrFun hw12 _).trans hx1)
      refine lv_istore_n (lv' := [(2, .int (nI a9)), (0, .ref h0), (1, .int (nI p9))]) hx hb dX12_sets_6 rfl hl (by decide) rfl (fun ls hl => ?_)
      refine lv_aload_n hx hb dX12_sets_7 rfl (lv_at hl 1 rfl) ?_
      have hP : va_P G.1 pCl (mW G h0 a (upd (upd (upd (upd (upd (upd (upd (upd (upd (upd F 102 (nI op)) 111 (nI tp)) 115 (nI wn)) 116 (-1)) 117 (nI fu)) 118 rs0) 119 uc0) 125 nw) 126 isn) 111 (nI tp)) (updA B 68 (B 68))) _ := hP
      have hD : va_D A (mW G h0 a (upd (upd (upd (upd (upd (upd (upd (upd (upd (upd F 102 (nI op)) 111 (nI tp)) 115 (nI wn)) 116 (-1)) 117 (nI fu)) 118 rs0) 119 uc0) 125 nw) 126 isn) 111 (nI tp)) (updA B 68 (B 68))) := mW_D hD
      refine pc_V0 (G := G) (As := []) (rest := []) hx hb hml hown hq hE hX pX0_al hP hD hS hA hl.1 (R_pop l G h0 a (upd (upd (upd (upd (upd (upd (upd (upd (upd F 102 (nI op)) 111 (nI tp)) 115 (nI wn)) 116 (-1)) 117 (nI fu)) 118 rs0) 119 uc0) 125 nw) 126 isn) B tp (B 68) (by omega)) (gV pw_2082 pw_2083 pw_2084 pw_1523 pw_1965) hV_X12_pop 0 9 rfl rfl rfl rfl (Nat.le_of_ble_eq_true rfl) dX12_sets_8 ⟨Nat.le_of_ble_eq_true rfl, Nat.le_of_ble_eq_true rfl⟩ ⟨Nat.le_of_ble_eq_true rfl, Nat.le_of_ble_eq_true rfl⟩ (fun v5 u3 H locs hw4 hP hD hS => ?_)
      obtain rfl : v5 = some (.int ((B 68) (tp - 1))) := hw4
      have hP : va_P G.1 pCl (mW G h0 a (upd (upd (upd (upd (upd (upd (upd (upd (upd F 102 (nI op)) 111 (nI (tp - 1))) 115 (nI wn)) 116 (-1)) 117 (nI fu)) 118 rs0) 119 uc0) 125 nw) 126 isn) B) _ := mW_to (F := F) (l1 := [(102, (nI op)), (111, (nI tp)), (115, (nI wn)), (116, (-1)), (117, (nI fu)), (118, rs0), (119, uc0), (125, nw), (126, isn), (111, (nI (tp - 1)))]) (l2 := [(102, (nI op)), (111, (nI (tp - 1))), (115, (nI wn)), (116, (-1)), (117, (nI fu)), (118, rs0), (119, uc0), (125, nw), (126, isn)]) (V := [(nI op), (nI (tp - 1)), (nI wn), (-1), (nI fu), rs0, uc0, nw, isn, (nI (tp - 1)), (nI op), (nI (tp - 1)), (nI wn), (-1), (nI fu), rs0, uc0, nw, isn]) rfl rfl (show (updA B 68 (B 68)) = B from updsA_eq2 (F := B) (l1 := [(68, (B 68))]) (l2 := []) (V := [(B 68)]) rfl rfl) hP
      have hD : va_D A (mW G h0 a (upd (upd (upd (upd (upd (upd (upd (upd (upd F 102 (nI op)) 111 (nI (tp - 1))) 115 (nI wn)) 116 (-1)) 117 (nI fu)) 118 rs0) 119 uc0) 125 nw) 126 isn) B) := mW_D hD
      refine W.widen (k := 0) (n := 0) (Nat.le_of_ble_eq_true rfl) (Nat.le_of_ble_eq_true rfl) ?_
      refine W.eq (g2 := F0 m 11 ls [.int ((B 68) (tp - 1))]) rfl ?_
      refine lv_istore_n (lv' := [(3, .int ((B 68) (tp - 1))), (2, .int (nI a9)), (0, .ref h0), (1, .int (nI p9))]) hx hb dX12_sets_11 rfl hl (by decide) rfl (fun ls hl => ?_)
      refine lv_aload_n hx hb dX12_sets_12 rfl (lv_at hl 2 rfl) ?_
      refine r_get (v := .ref (a 9)) hx hb hown hq hE hP 17 38 tFX12_17 (by decide) pw_1439 rfl dX12_sets_13 ?_
      refine lv_iload_n hx hb dX12_sets_16 rfl (lv_at hl 1 rfl) ?_
      refine r_ldi (f := (B 9)) (j := a9) hx hb hE hP 9 (ma_9 G a _) rfl (by omega) (by decide) dX12_sets_17 ?_
      refine lv_topi (fun x6 e7 => ?_)
      obtain rfl : x6 = 6 := e7.trans ((congrFun hw9 _).trans hx3)
      refine lv_bipush (v := 6) hx hb dX12_sets_18 (by decide) ?_
      refine lv_icmp_ne (tgt := 54) hx hb dX12_sets_20 (by decide) (fun c8 => absurd c8 (by decide)) (fun c8 => ?_)
      refine lv_aload_n hx hb dX12_sets_23 rfl (lv_at hl 2 rfl) ?_
      refine r_get (v := .ref (a 18)) hx hb hown hq hE hP 26 65 tFX12_26 (by decide) pw_1448 rfl dX12_sets_24 ?_
      refine lv_iload_n hx hb dX12_sets_27 rfl (lv_at hl 1 rfl) ?_
      refine r_ldi (f := (B 18)) (j := a9) hx hb hE hP 18 (ma_18 G a _) rfl (by omega) (by decide) dX12_sets_28 ?_
      refine lv_topi (fun x9 e10 => ?_)
      obtain rfl : x9 = nI v9 := e10.trans hs1
      refine lv_if_lt (tgt := 54) hx hb dX12_sets_29 (by decide) (fun c11 => (by have n12 : v9 < 0 := (nI_ltI (a := v9) (b := 0) (by omega) (by omega)).mp c11; omega)) (fun c11 => ?_)
      refine lv_aload_n hx hb dX12_sets_32 rfl (lv_at hl 2 rfl) ?_
      refine r_get (v := .ref (a 66)) hx hb hown hq hE hP 107 211 tFX12_107 (by decide) pw_1498 rfl dX12_sets_33 ?_
      refine lv_aload_n hx hb dX12_sets_36 rfl (lv_at hl 2 rfl) ?_
      refine lv_aload_n hx hb dX12_sets_37 rfl (lv_at hl 2 rfl) ?_
      refine r_get (v := .ref (a 18)) hx hb hown hq hE hP 26 65 tFX12_26 (by decide) pw_1448 rfl dX12_sets_38 ?_
      refine lv_iload_n hx hb dX12_sets_41 rfl (lv_at hl 1 rfl) ?_
      refine r_ldi (f := (B 18)) (j := a9) hx hb hE hP 18 (ma_18 G a _) rfl (by omega) (by decide) dX12_sets_42 ?_
      refine lv_topi (fun x13 e14 => ?_)
      obtain rfl : x13 = nI v9 := e14.trans hs1
      have hP : va_P G.1 pCl (mW G h0 a (upd (upd (upd (upd (upd (upd (upd (upd (upd (upd F 102 (nI op)) 111 (nI (tp - 1))) 115 (nI wn)) 116 (-1)) 117 (nI fu)) 118 rs0) 119 uc0) 125 nw) 126 isn) 102 (nI op)) B) _ := mW_to (F := F) (l1 := [(102, (nI op)), (111, (nI (tp - 1))), (115, (nI wn)), (116, (-1)), (117, (nI fu)), (118, rs0), (119, uc0), (125, nw), (126, isn)]) (l2 := [(102, (nI op)), (111, (nI (tp - 1))), (115, (nI wn)), (116, (-1)), (117, (nI fu)), (118, rs0), (119, uc0), (125, nw), (126, isn), (102, (nI op))]) (V := [(nI op), (nI (tp - 1)), (nI wn), (-1), (nI fu), rs0, uc0, nw, isn, (nI op), (nI (tp - 1)), (nI wn), (-1), (nI fu), rs0, uc0, nw, isn, (nI op)]) rfl rfl rfl hP
      have hD : va_D A (mW G h0 a (upd (upd (upd (upd (upd (upd (upd (upd (upd (upd F 102 (nI op)) 111 (nI (tp - 1))) 115 (nI wn)) 116 (-1)) 117 (nI fu)) 118 rs0) 119 uc0) 125 nw) 126 isn) 102 (nI op)) B) := mW_D hD
      refine pc_V0 (G := G) (As := [.int (nI v9)]) (rest := [.ref (a 66)]) hx hb hml hown hq hE hX pX0_al hP hD hS hA hl.1 (R_at32 l G h0 a (upd (upd (upd (upd (upd (upd (upd (upd (upd F 102 (nI op)) 111 (nI (tp - 1))) 115 (nI wn)) 116 (-1)) 117 (nI fu)) 118 rs0) 119 uc0) 125 nw) 126 isn) B v9 op (by omega) (by omega)) (gV pw_2040 pw_2041 pw_2042 pw_1523 pw_2013) hV_X12_at32 0 9 rfl rfl rfl rfl (Nat.le_of_ble_eq_true rfl) dX12_sets_43 ⟨Nat.le_of_ble_eq_true rfl, Nat.le_of_ble_eq_true rfl⟩ ⟨Nat.le_of_ble_eq_true rfl, Nat.le_of_ble_eq_true rfl⟩ (fun v17 u15 H locs hw16 hP hD hS => ?_)
      obtain rfl : v17 = some (.int (nI (32 * (op - 1) + v9))) := hw16
      have hP : va_P G.1 pCl (mW G h0 a (upd (upd (upd (upd (upd (upd (upd (upd (upd F 102 (nI op)) 111 (nI (tp - 1))) 115 (nI wn)) 116 (-1)) 117 (nI fu)) 118 rs0) 119 uc0) 125 nw) 126 isn) B) _ := mW_to (F := F) (l1 := [(102, (nI op)), (111, (nI (tp - 1))), (115, (nI wn)), (116, (-1)), (117, (nI fu)), (118, rs0), (119, uc0), (125, nw), (126, isn), (102, (nI op))]) (l2 := [(102, (nI op)), (111, (nI (tp - 1))), (115, (nI wn)), (116, (-1)), (117, (nI fu)), (118, rs0), (119, uc0), (125, nw), (126, isn)]) (V := [(nI op), (nI (tp - 1)), (nI wn), (-1), (nI fu), rs0, uc0, nw, isn, (nI op), (nI op), (nI (tp - 1)), (nI wn), (-1), (nI fu), rs0, uc0, nw, isn]) rfl rfl rfl hP
      have hD : va_D A (mW G h0 a (upd (upd (upd (upd (upd (upd (upd (upd (upd F 102 (nI op)) 111 (nI (tp - 1))) 115 (nI wn)) 116 (-1)) 117 (nI fu)) 118 rs0) 119 uc0) 125 nw) 126 isn) B) := mW_D hD
      refine W.widen (k := 0) (n := 0) (Nat.le_of_ble_eq_true rfl) (Nat.le_of_ble_eq_true rfl) ?_
      refine W.eq (g2 := F0 m 46 ls [.int (nI (32 * (op - 1) + v9)), .ref (a 66)]) rfl ?_
      refine lv_iload_n hx hb dX12_sets_46 rfl (lv_at hl 0 rfl) ?_
      refine r_sti (f := (B 66)) (j := (32 * (op - 1) + v9)) hx hb hE hP hD hS 66 (ma_66 G a _) rfl (mas_66 G a _) (by omega) (by decide) dX12_sets_47 (fun H locs hP hD hS => ?_)
      refine lv_aload_n hx hb dX12_sets_48 rfl (lv_at hl 2 rfl) ?_
      refine lv_iload_n hx hb dX12_sets_49 rfl (lv_at hl 3 rfl) ?_
      have hP : va_P G.1 pCl (mW G h0 a (upd (upd (upd (upd (upd (upd (upd (upd (upd F 102 (nI op)) 111 (nI (tp - 1))) 115 (nI wn)) 116 (-1)) 117 (nI fu)) 118 rs0) 119 uc0) 125 nw) 126 isn) (updA B 66 (upd (B 66) (32 * (op - 1) + v9) ((B 68) (tp - 1))))) _ := hP
      have hD : va_D A (mW G h0 a (upd (upd (upd (upd (upd (upd (upd (upd (upd F 102 (nI op)) 111 (nI (tp - 1))) 115 (nI wn)) 116 (-1)) 117 (nI fu)) 118 rs0) 119 uc0) 125 nw) 126 isn) (updA B 66 (upd (B 66) (32 * (op - 1) + v9) ((B 68) (tp - 1))))) := mW_D hD
      refine pc_V0 (G := G) (As := [.int (nI p9)]) (rest := []) hx hb hml hown hq hE hX pX0_al hP hD hS hA hl.1 (R_comesToEnd l G h0 a (upd (upd (upd (upd (upd (upd (upd (upd (upd F 102 (nI op)) 111 (nI (tp - 1))) 115 (nI wn)) 116 (-1)) 117 (nI fu)) 118 rs0) 119 uc0) 125 nw) 126 isn) (updA B 66 (upd (B 66) (32 * (op - 1) + v9) ((B 68) (tp - 1)))) (nI p9)) (gV pw_2010 pw_2011 pw_2012 pw_1523 pw_2005) hV_X12_comesToEnd 0 9 rfl rfl rfl rfl (Nat.le_of_ble_eq_true rfl) dX12_sets_50 ⟨Nat.le_of_ble_eq_true rfl, Nat.le_of_ble_eq_true rfl⟩ ⟨Nat.le_of_ble_eq_true rfl, Nat.le_of_ble_eq_true rfl⟩ (fun v20 u18 H locs hw19 hP hD hS => ?_)
      obtain rfl : v20 = none := hw19
      have hP : va_P G.1 pCl (mW G h0 a (upd (upd (upd (upd (upd (upd (upd (upd (upd F 102 (nI op)) 111 (nI (tp - 1))) 115 (nI wn)) 116 (-1)) 117 (nI fu)) 118 rs0) 119 uc0) 125 (nI p9)) 126 0) (updA B 66 (upd (B 66) (32 * (op - 1) + v9) ((B 68) (tp - 1))))) _ := mW_to (F := F) (l1 := [(102, (nI op)), (111, (nI (tp - 1))), (115, (nI wn)), (116, (-1)), (117, (nI fu)), (118, rs0), (119, uc0), (125, nw), (126, isn), (125, (nI p9)), (126, 0)]) (l2 := [(102, (nI op)), (111, (nI (tp - 1))), (115, (nI wn)), (116, (-1)), (117, (nI fu)), (118, rs0), (119, uc0), (125, (nI p9)), (126, 0)]) (V := [(nI op), (nI (tp - 1)), (nI wn), (-1), (nI fu), rs0, uc0, (nI p9), 0, (nI p9), 0, (nI op), (nI (tp - 1)), (nI wn), (-1), (nI fu), rs0, uc0, (nI p9), 0]) rfl rfl rfl hP
      have hD : va_D A (mW G h0 a (upd (upd (upd (upd (upd (upd (upd (upd (upd F 102 (nI op)) 111 (nI (tp - 1))) 115 (nI wn)) 116 (-1)) 117 (nI fu)) 118 rs0) 119 uc0) 125 (nI p9)) 126 0) (updA B 66 (upd (B 66) (32 * (op - 1) + v9) ((B 68) (tp - 1))))) := mW_D hD
      refine W.widen (k := 0) (n := 0) (Nat.le_of_ble_eq_true rfl) (Nat.le_of_ble_eq_true rfl) ?_
      refine W.eq (g2 := F0 m 53 ls []) rfl ?_
      have hz21 : Nx Xs (updA B 66 (upd (B 66) (32 * (op - 1) + v9) ((B 68) (tp - 1)))) gh nd T nm wr lz dc fd md pr bk M rmm fu (Phi gh ps op (rkN gh n9 true)) op (tp - 1) wn fu rd on idn fl ct ((-1) : Int32) (nI p9) (0 : Int32) uc0 := hs3
      have hP : va_P G.1 pCl (mW G h0 a (upd (upd (upd (upd (upd (upd (upd (upd (upd F 102 (nI op)) 111 (nI (tp - 1))) 115 (nI wn)) 116 ((-1) : Int32)) 117 (nI fu)) 118 rs0) 119 uc0) 125 (nI p9)) 126 (0 : Int32)) (updA B 66 (upd (B 66) (32 * (op - 1) + v9) ((B 68) (tp - 1))))) _ := mW_to (F := F) (l1 := [(102, (nI op)), (111, (nI (tp - 1))), (115, (nI wn)), (116, (-1)), (117, (nI fu)), (118, rs0), (119, uc0), (125, (nI p9)), (126, 0)]) (l2 := [(102, (nI op)), (111, (nI (tp - 1))), (115, (nI wn)), (116, ((-1) : Int32)), (117, (nI fu)), (118, rs0), (119, uc0), (125, (nI p9)), (126, (0 : Int32))]) (V := [(nI op), (nI (tp - 1)), (nI wn), ((-1) : Int32), (nI fu), rs0, uc0, (nI p9), (0 : Int32), (nI op), (nI (tp - 1)), (nI wn), ((-1) : Int32), (nI fu), rs0, uc0, (nI p9), (0 : Int32)]) rfl rfl rfl hP
      have hD : va_D A (mW G h0 a (upd (upd (upd (upd (upd (upd (upd (upd (upd F 102 (nI op)) 111 (nI (tp - 1))) 115 (nI wn)) 116 ((-1) : Int32)) 117 (nI fu)) 118 rs0) 119 uc0) 125 (nI p9)) 126 (0 : Int32)) (updA B 66 (upd (B 66) (32 * (op - 1) + v9) ((B 68) (tp - 1))))) := mW_D hD
      exact W.vret hx hb hr (fun t9 ht9 hW9 => ⟨⟨_, (op, (tp - 1), wn, fu, ((-1) : Int32), (nI p9), (0 : Int32), rs0, uc0, (updA B 66 (upd (B 66) (32 * (op - 1) + v9) ((B 68) (tp - 1))))), rfl, ⟨rfl, hz21⟩, by rw [ht9]; exact hP, hD⟩, hS.F ht9⟩) hS.2.2 dX12_sets_53
    · refine lv_aload_n hx hb dX12_sets_0 rfl (lv_at hl 0 rfl) ?_
      refine r_get (v := .ref (a 12)) hx hb hown hq hE hP 20 47 tFX12_20 (by decide) pw_1442 rfl dX12_sets_1 ?_
      refine lv_iload_n hx hb dX12_sets_4 rfl (lv_at hl 1 rfl) ?_
      refine r_ldi (f := (B 12)) (j := p9) hx hb hE hP 12 (ma_12 G a _) rfl (by omega) (by decide) dX12_sets_5 ?_
      refine lv_topi (fun x22 e23 => ?_)
      obtain rfl : x22 = nI a9 := e23.trans ((congrFun hw12 _).trans hx1)
      refine lv_istore_n (lv' := [(2, .int (nI a9)), (0, .ref h0), (1, .int (nI p9))]) hx hb dX12_sets_6 rfl hl (by decide) rfl (fun ls hl => ?_)
      refine lv_aload_n hx hb dX12_sets_7 rfl (lv_at hl 1 rfl) ?_
      have hP : va_P G.1 pCl (mW G h0 a (upd (upd (upd (upd (upd (upd (upd (upd (upd (upd F 102 (nI op)) 111 (nI tp)) 115 (nI wn)) 116 (-1)) 117 (nI fu)) 118 rs0) 119 uc0) 125 nw) 126 isn) 111 (nI tp)) (updA B 68 (B 68))) _ := hP
      have hD : va_D A (mW G h0 a (upd (upd (upd (upd (upd (upd (upd (upd (upd (upd F 102 (nI op)) 111 (nI tp)) 115 (nI wn)) 116 (-1)) 117 (nI fu)) 118 rs0) 119 uc0) 125 nw) 126 isn) 111 (nI tp)) (updA B 68 (B 68))) := mW_D hD
      refine pc_V0 (G := G) (As := []) (rest := []) hx hb hml hown hq hE hX pX0_al hP hD hS hA hl.1 (R_pop l G h0 a (upd (upd (upd (upd (upd (upd (upd (upd (upd F 102 (nI op)) 111 (nI tp)) 115 (nI wn)) 116 (-1)) 117 (nI fu)) 118 rs0) 119 uc0) 125 nw) 126 isn) B tp (B 68) (by omega)) (gV pw_2082 pw_2083 pw_2084 pw_1523 pw_1965) hV_X12_pop 0 9 rfl rfl rfl rfl (Nat.le_of_ble_eq_true rfl) dX12_sets_8 ⟨Nat.le_of_ble_eq_true rfl, Nat.le_of_ble_eq_true rfl⟩ ⟨Nat.le_of_ble_eq_true rfl, Nat.le_of_ble_eq_true rfl⟩ (fun v26 u24 H locs hw25 hP hD hS => ?_)
      obtain rfl : v26 = some (.int ((B 68) (tp - 1))) := hw25
      have hP : va_P G.1 pCl (mW G h0 a (upd (upd (upd (upd (upd (upd (upd (upd (upd F 102 (nI op)) 111 (nI (tp - 1))) 115 (nI wn)) 116 (-1)) 117 (nI fu)) 118 rs0) 119 uc0) 125 nw) 126 isn) B) _ := mW_to (F := F) (l1 := [(102, (nI op)), (111, (nI tp)), (115, (nI wn)), (116, (-1)), (117, (nI fu)), (118, rs0), (119, uc0), (125, nw), (126, isn), (111, (nI (tp - 1)))]) (l2 := [(102, (nI op)), (111, (nI (tp - 1))), (115, (nI wn)), (116, (-1)), (117, (nI fu)), (118, rs0), (119, uc0), (125, nw), (126, isn)]) (V := [(nI op), (nI (tp - 1)), (nI wn), (-1), (nI fu), rs0, uc0, nw, isn, (nI (tp - 1)), (nI op), (nI (tp - 1)), (nI wn), (-1), (nI fu), rs0, uc0, nw, isn]) rfl rfl (show (updA B 68 (B 68)) = B from updsA_eq2 (F := B) (l1 := [(68, (B 68))]) (l2 := []) (V := [(B 68)]) rfl rfl) hP
      have hD : va_D A (mW G h0 a (upd (upd (upd (upd (upd (upd (upd (upd (upd F 102 (nI op)) 111 (nI (tp - 1))) 115 (nI wn)) 116 (-1)) 117 (nI fu)) 118 rs0) 119 uc0) 125 nw) 126 isn) B) := mW_D hD
      refine W.widen (k := 0) (n := 0) (Nat.le_of_ble_eq_true rfl) (Nat.le_of_ble_eq_true rfl) ?_
      refine W.eq (g2 := F0 m 11 ls [.int ((B 68) (tp - 1))]) rfl ?_
      refine lv_istore_n (lv' := [(3, .int ((B 68) (tp - 1))), (2, .int (nI a9)), (0, .ref h0), (1, .int (nI p9))]) hx hb dX12_sets_11 rfl hl (by decide) rfl (fun ls hl => ?_)
      refine lv_aload_n hx hb dX12_sets_12 rfl (lv_at hl 2 rfl) ?_
      refine r_get (v := .ref (a 9)) hx hb hown hq hE hP 17 38 tFX12_17 (by decide) pw_1439 rfl dX12_sets_13 ?_
      refine lv_iload_n hx hb dX12_sets_16 rfl (lv_at hl 1 rfl) ?_
      refine r_ldi (f := (B 9)) (j := a9) hx hb hE hP 9 (ma_9 G a _) rfl (by omega) (by decide) dX12_sets_17 ?_
      refine lv_topi (fun x27 e28 => ?_)
      obtain rfl : x27 = 6 := e28.trans ((congrFun hw9 _).trans hx3)
      refine lv_bipush (v := 6) hx hb dX12_sets_18 (by decide) ?_
      refine lv_icmp_ne (tgt := 54) hx hb dX12_sets_20 (by decide) (fun c29 => absurd c29 (by decide)) (fun c29 => ?_)
      refine lv_aload_n hx hb dX12_sets_23 rfl (lv_at hl 2 rfl) ?_
      refine r_get (v := .ref (a 18)) hx hb hown hq hE hP 26 65 tFX12_26 (by decide) pw_1448 rfl dX12_sets_24 ?_
      refine lv_iload_n hx hb dX12_sets_27 rfl (lv_at hl 1 rfl) ?_
      refine r_ldi (f := (B 18)) (j := a9) hx hb hE hP 18 (ma_18 G a _) rfl (by omega) (by decide) dX12_sets_28 ?_
      refine lv_if_lt (tgt := 54) hx hb dX12_sets_29 (by decide) (fun c30 => ?_) (fun c30 => absurd (by rw [hs2]; exact neg2 (by omega)) c30)
      refine lv_aload_n hx hb dX12_sets_54 rfl (lv_at hl 2 rfl) ?_
      refine r_get (v := .ref (a 9)) hx hb hown hq hE hP 17 38 tFX12_17 (by decide) pw_1439 rfl dX12_sets_55 ?_
      refine lv_iload_n hx hb dX12_sets_58 rfl (lv_at hl 1 rfl) ?_
      refine r_ldi (f := (B 9)) (j := a9) hx hb hE hP 9 (ma_9 G a _) rfl (by omega) (by decide) dX12_sets_59 ?_
      refine lv_topi (fun x31 e32 => ?_)
      obtain rfl : x31 = 6 := e32.trans ((congrFun hw9 _).trans hx3)
      refine lv_bipush (v := 15) hx hb dX12_sets_60 (by decide) ?_
      refine lv_icmp_ne (tgt := 195) hx hb dX12_sets_62 (by decide) (fun c33 => ?_) (fun c33 => absurd c33 (by decide))
      refine lv_aload_n hx hb dX12_sets_195 rfl (lv_at hl 2 rfl) ?_
      refine r_get (v := .ref (a 9)) hx hb hown hq hE hP 17 38 tFX12_17 (by decide) pw_1439 rfl dX12_sets_196 ?_
      refine lv_iload_n hx hb dX12_sets_199 rfl (lv_at hl 1 rfl) ?_
      refine r_ldi (f := (B 9)) (j := a9) hx hb hE hP 9 (ma_9 G a _) rfl (by omega) (by decide) dX12_sets_200 ?_
      refine lv_topi (fun x34 e35 => ?_)
      obtain rfl : x34 = 6 := e35.trans ((congrFun hw9 _).trans hx3)
      refine lv_bipush (v := 6) hx hb dX12_sets_201 (by decide) ?_
      refine lv_icmp_ne (tgt := 210) hx hb dX12_sets_203 (by decide) (fun c36 => absurd c36 (by decide)) (fun c36 => ?_)
      refine lv_iconst (v := 1) hx hb dX12_sets_206 (by decide) ?_
      refine lv_goto (tgt := 211) hx hb dX12_sets_207 (by decide) ?_
      refine lv_istore (lv' := [(4, .int 1), (3, .int ((B 68) (tp - 1))), (2, .int (nI a9)), (0, .ref h0), (1, .int (nI p9))]) hx hb dX12_sets_211 hl (by decide) rfl (fun ls hl => ?_)
      refine lv_iload hx hb dX12_sets_213 (lv_at hl 0 rfl) ?_
      refine lv_if_eq (tgt := 232) hx hb dX12_sets_215 (by decide) (fun c37 => absurd c37 (by decide)) (fun c37 => ?_)
      refine lv_aload_n hx hb dX12_sets_218 rfl (lv_at hl 3 rfl) ?_
      refine r_get (v := .ref (a 62)) hx hb hown hq hE hP 103 199 tFX12_103 (by decide) pw_1494 rfl dX12_sets_219 ?_
      refine lv_aload_n hx hb dX12_sets_222 rfl (lv_at hl 3 rfl) ?_
      refine r_get (v := .int (nI op)) hx hb hown hq hE hP 102 707 tFX12_102 (by decide) pw_1969 rfl dX12_sets_223 ?_
      refine lv_iconst (v := 1) hx hb dX12_sets_226 (by decide) ?_
      refine lv_isub hx hb dX12_sets_227 ?_
      refine lv_topi (fun x38 e39 => ?_)
      obtain rfl : x38 = nI (op - 1) := e39.trans (nI_subN (a := 1) (b := op) (by omega))
      refine r_ldi (f := (B 62)) (j := (op - 1)) hx hb hE hP 62 (ma_62 G a _) rfl (by omega) (by decide) dX12_sets_228 ?_
      refine lv_topi (fun x40 e41 => ?_)
      obtain rfl : x40 = nI (o9 + 1) := e41.trans hs4
      refine lv_goto (tgt := 236) hx hb dX12_sets_229 (by decide) ?_
      refine lv_istore (lv' := [(5, .int (nI (o9 + 1))), (4, .int 1), (3, .int ((B 68) (tp - 1))), (2, .int (nI a9)), (0, .ref h0), (1, .int (nI p9))]) hx hb dX12_sets_236 hl (by decide) rfl (fun ls hl => ?_)
      refine lv_iload hx hb dX12_sets_238 (lv_at hl 1 rfl) ?_
      refine lv_if_eq (tgt := 255) hx hb dX12_sets_240 (by decide) (fun c42 => absurd c42 (by decide)) (fun c42 => ?_)
      refine lv_bipush (v := (-2)) hx hb dX12_sets_243 (by decide) ?_
      refine lv_aload_n hx hb dX12_sets_245 rfl (lv_at hl 4 rfl) ?_
      refine r_get (v := .ref (a 18)) hx hb hown hq hE hP 26 65 tFX12_26 (by decide) pw_1448 rfl dX12_sets_246 ?_
      refine lv_iload_n hx hb dX12_sets_249 rfl (lv_at hl 3 rfl) ?_
      refine r_ldi (f := (B 18)) (j := a9) hx hb hE hP 18 (ma_18 G a _) rfl (by omega) (by decide) dX12_sets_250 ?_
      refine lv_isub hx hb dX12_sets_251 ?_
      refine lv_topi (fun x43 e44 => ?_)
      obtain rfl : x43 = nI f9 := e44.trans (by rw [hs2]; exact neg2b (by omega))
      refine lv_goto (tgt := 261) hx hb dX12_sets_252 (by decide) ?_
      refine lv_istore (lv' := [(6, .int (nI f9)), (5, .int (nI (o9 + 1))), (4, .int 1), (3, .int ((B 68) (tp - 1))), (2, .int (nI a9)), (0, .ref h0), (1, .int (nI p9))]) hx hb dX12_sets_261 hl (by decide) rfl (fun ls hl => ?_)
      refine lv_iload hx hb dX12_sets_263 (lv_at hl 1 rfl) ?_
      refine lv_if_ne (tgt := 279) hx hb dX12_sets_265 (by decide) (fun c45 => ?_) (fun c45 => (by have n46 : (o9 + 1) = 0 := (nI_eq (a := (o9 + 1)) (b := 0) (by omega) (by omega)).mp c45; omega))
      refine lv_aload_n hx hb dX12_sets_279 rfl (lv_at hl 5 rfl) ?_
      refine r_get (v := .ref (a 60)) hx hb hown hq hE hP 96 193 tFX12_96 (by decide) pw_1492 rfl dX12_sets_280 ?_
      refine lv_aload_n hx hb dX12_sets_283 rfl (lv_at hl 5 rfl) ?_
      refine r_get (v := .ref (a 58)) hx hb hown hq hE hP 94 187 tFX12_94 (by decide) pw_1490 rfl dX12_sets_284 ?_
      refine lv_iload hx hb dX12_sets_287 (lv_at hl 1 rfl) ?_
      refine lv_iconst (v := 1) hx hb dX12_sets_289 (by decide) ?_
      refine lv_isub hx hb dX12_sets_290 ?_
      refine lv_topi (fun x47 e48 => ?_)
      obtain rfl : x47 = nI ((o9 + 1) - 1) := e48.trans (nI_subN (a := 1) (b := (o9 + 1)) (by omega))
      refine r_ldi (f := (B 58)) (j := ((o9 + 1) - 1)) hx hb hE hP 58 (ma_58 G a _) rfl (by omega) (by decide) dX12_sets_291 ?_
      refine lv_topi (fun x49 e50 => ?_)
      obtain rfl : x49 = nI a8 := e50.trans (by rw [show ((o9 + 1) - 1) = o9 by omega]; exact hs6)
      refine lv_aload_n hx hb dX12_sets_292 rfl (lv_at hl 5 rfl) ?_
      refine r_get (v := .ref (a 53)) hx hb hown hq hE hP 89 171 tFX12_89 (by decide) pw_1484 rfl dX12_sets_293 ?_
      refine lv_iload hx hb dX12_sets_296 (lv_at hl 0 rfl) ?_
      refine r_ldi (f := (B 53)) (j := f9) hx hb hE hP 53 (ma_53 G a _) rfl (by omega) (by decide) dX12_sets_298 ?_
      refine lv_topi (fun x51 e52 => ?_)
      obtain rfl : x51 = nI g9 := e52.trans hs7
      refine lv_iadd hx hb dX12_sets_299 ?_
      refine lv_topi (fun x53 e54 => ?_)
      obtain rfl : x53 = nI (a8 + g9) := e54.trans (nI_add (a8) (g9))
      refine lv_iload_n hx hb dX12_sets_300 rfl (lv_at hl 3 rfl) ?_
      refine r_sti (f := (B 60)) (j := (a8 + g9)) hx hb hE hP hD hS 60 (ma_60 G a _) rfl (mas_60 G a _) (by omega) (by decide) dX12_sets_301 (fun H locs hP hD hS => ?_)
      refine lv_aload_n hx hb dX12_sets_302 rfl (lv_at hl 5 rfl) ?_
      refine lv_iload_n hx hb dX12_sets_303 rfl (lv_at hl 6 rfl) ?_
      have hP : va_P G.1 pCl (mW G h0 a (upd (upd (upd (upd (upd (upd (upd (upd (upd F 102 (nI op)) 111 (nI (tp - 1))) 115 (nI wn)) 116 (-1)) 117 (nI fu)) 118 rs0) 119 uc0) 125 nw) 126 isn) (updA B 60 (upd (B 60) (a8 + g9) ((B 68) (tp - 1))))) _ := hP
      have hD : va_D A (mW G h0 a (upd (upd (upd (upd (upd (upd (upd (upd (upd F 102 (nI op)) 111 (nI (tp - 1))) 115 (nI wn)) 116 (-1)) 117 (nI fu)) 118 rs0) 119 uc0) 125 nw) 126 isn) (updA B 60 (upd (B 60) (a8 + g9) ((B 68) (tp - 1))))) := mW_D hD
      refine pc_V0 (G := G) (As := [.int (nI p9)]) (rest := []) hx hb hml hown hq hE hX pX0_al hP hD hS hA hl.1 (R_comesToEnd l G h0 a (upd (upd (upd (upd (upd (upd (upd (upd (upd F 102 (nI op)) 111 (nI (tp - 1))) 115 (nI wn)) 116 (-1)) 117 (nI fu)) 118 rs0) 119 uc0) 125 nw) 126 isn) (updA B 60 (upd (B 60) (a8 + g9) ((B 68) (tp - 1)))) (nI p9)) (gV pw_2010 pw_2011 pw_2012 pw_1523 pw_2005) hV_X12_comesToEnd 0 9 rfl rfl rfl rfl (Nat.le_of_ble_eq_true rfl) dX12_sets_304 ⟨Nat.le_of_ble_eq_true rfl, Nat.le_of_ble_eq_true rfl⟩ ⟨Nat.le_of_ble_eq_true rfl, Nat.le_of_ble_eq_true rfl⟩ (fun v57 u55 H locs hw56 hP hD hS => ?_)
      obtain rfl : v57 = none := hw56
      have hP : va_P G.1 pCl (mW G h0 a (upd (upd (upd (upd (upd (upd (upd (upd (upd F 102 (nI op)) 111 (nI (tp - 1))) 115 (nI wn)) 116 (-1)) 117 (nI fu)) 118 rs0) 119 uc0) 125 (nI p9)) 126 0) (updA B 60 (upd (B 60) (a8 + g9) ((B 68) (tp - 1))))) _ := mW_to (F := F) (l1 := [(102, (nI op)), (111, (nI (tp - 1))), (115, (nI wn)), (116, (-1)), (117, (nI fu)), (118, rs0), (119, uc0), (125, nw), (126, isn), (125, (nI p9)), (126, 0)]) (l2 := [(102, (nI op)), (111, (nI (tp - 1))), (115, (nI wn)), (116, (-1)), (117, (nI fu)), (118, rs0), (119, uc0), (125, (nI p9)), (126, 0)]) (V := [(nI op), (nI (tp - 1)), (nI wn), (-1), (nI fu), rs0, uc0, (nI p9), 0, (nI p9), 0, (nI op), (nI (tp - 1)), (nI wn), (-1), (nI fu), rs0, uc0, (nI p9), 0]) rfl rfl rfl hP
      have hD : va_D A (mW G h0 a (upd (upd (upd (upd (upd (upd (upd (upd (upd F 102 (nI op)) 111 (nI (tp - 1))) 115 (nI wn)) 116 (-1)) 117 (nI fu)) 118 rs0) 119 uc0) 125 (nI p9)) 126 0) (updA B 60 (upd (B 60) (a8 + g9) ((B 68) (tp - 1))))) := mW_D hD
      refine W.widen (k := 0) (n := 0) (Nat.le_of_ble_eq_true rfl) (Nat.le_of_ble_eq_true rfl) ?_
      refine W.eq (g2 := F0 m 307 ls []) rfl ?_
      have hz58 : Nx Xs (updA B 60 (upd (B 60) (a8 + g9) ((B 68) (tp - 1)))) gh nd T nm wr lz dc fd md pr bk M rmm fu (Phi gh ps op (rkN gh n9 true)) op (tp - 1) wn fu rd on idn fl ct ((-1) : Int32) (nI p9) (0 : Int32) uc0 := hs3
      have hP : va_P G.1 pCl (mW G h0 a (upd (upd (upd (upd (upd (upd (upd (upd (upd F 102 (nI op)) 111 (nI (tp - 1))) 115 (nI wn)) 116 ((-1) : Int32)) 117 (nI fu)) 118 rs0) 119 uc0) 125 (nI p9)) 126 (0 : Int32)) (updA B 60 (upd (B 60) (a8 + g9) ((B 68) (tp - 1))))) _ := mW_to (F := F) (l1 := [(102, (nI op)), (111, (nI (tp - 1))), (115, (nI wn)), (116, (-1)), (117, (nI fu)), (118, rs0), (119, uc0), (125, (nI p9)), (126, 0)]) (l2 := [(102, (nI op)), (111, (nI (tp - 1))), (115, (nI wn)), (116, ((-1) : Int32)), (117, (nI fu)), (118, rs0), (119, uc0), (125, (nI p9)), (126, (0 : Int32))]) (V := [(nI op), (nI (tp - 1)), (nI wn), ((-1) : Int32), (nI fu), rs0, uc0, (nI p9), (0 : Int32), (nI op), (nI (tp - 1)), (nI wn), ((-1) : Int32), (nI fu), rs0, uc0, (nI p9), (0 : Int32)]) rfl rfl rfl hP
      have hD : va_D A (mW G h0 a (upd (upd (upd (upd (upd (upd (upd (upd (upd F 102 (nI op)) 111 (nI (tp - 1))) 115 (nI wn)) 116 ((-1) : Int32)) 117 (nI fu)) 118 rs0) 119 uc0) 125 (nI p9)) 126 (0 : Int32)) (updA B 60 (upd (B 60) (a8 + g9) ((B 68) (tp - 1))))) := mW_D hD
      exact W.vret hx hb hr (fun t9 ht9 hW9 => ⟨⟨_, (op, (tp - 1), wn, fu, ((-1) : Int32), (nI p9), (0 : Int32), rs0, uc0, (updA B 60 (upd (B 60) (a8 + g9) ((B 68) (tp - 1))))), rfl, ⟨rfl, hz58⟩, by rw [ht9]; exact hP, hD⟩, hS.F ht9⟩) hS.2.2 dX12_sets_307
  · obtain ⟨ht1, f9, hs1, hs2, hs9⟩ := hR.g32f (uc := uc0) hp hst hkd hx1 hx2 hx3
    refine lv_aload_n hx hb dX12_sets_0 rfl (lv_at hl 0 rfl) ?_
    refine r_get (v := .ref (a 12)) hx hb hown hq hE hP 20 47 tFX12_20 (by decide) pw_1442 rfl dX12_sets_1 ?_
    refine lv_iload_n hx hb dX12_sets_4 rfl (lv_at hl 1 rfl) ?_
    refine r_ldi (f := (B 12)) (j := p9) hx hb hE hP 12 (ma_12 G a _) rfl (by omega) (by decide) dX12_sets_5 ?_
    refine lv_topi (fun x59 e60 => ?_)
    obtain rfl : x59 = nI a9 := e60.trans ((congrFun hw12 _).trans hx1)
    refine lv_istore_n (lv' := [(2, .int (nI a9)), (0, .ref h0), (1, .int (nI p9))]) hx hb dX12_sets_6 rfl hl (by decide) rfl (fun ls hl => ?_)
    refine lv_aload_n hx hb dX12_sets_7 rfl (lv_at hl 1 rfl) ?_
    have hP : va_P G.1 pCl (mW G h0 a (upd (upd (upd (upd (upd (upd (upd (upd (upd (upd F 102 (nI op)) 111 (nI tp)) 115 (nI wn)) 116 (-1)) 117 (nI fu)) 118 rs0) 119 uc0) 125 nw) 126 isn) 111 (nI tp)) (updA B 68 (B 68))) _ := hP
    have hD : va_D A (mW G h0 a (upd (upd (upd (upd (upd (upd (upd (upd (upd (upd F 102 (nI op)) 111 (nI tp)) 115 (nI wn)) 116 (-1)) 117 (nI fu)) 118 rs0) 119 uc0) 125 nw) 126 isn) 111 (nI tp)) (updA B 68 (B 68))) := mW_D hD
    refine pc_V0 (G := G) (As := []) (rest := []) hx hb hml hown hq hE hX pX0_al hP hD hS hA hl.1 (R_pop l G h0 a (upd (upd (upd (upd (upd (upd (upd (upd (upd F 102 (nI op)) 111 (nI tp)) 115 (nI wn)) 116 (-1)) 117 (nI fu)) 118 rs0) 119 uc0) 125 nw) 126 isn) B tp (B 68) (by omega)) (gV pw_2082 pw_2083 pw_2084 pw_1523 pw_1965) hV_X12_pop 0 9 rfl rfl rfl rfl (Nat.le_of_ble_eq_true rfl) dX12_sets_8 ⟨Nat.le_of_ble_eq_true rfl, Nat.le_of_ble_eq_true rfl⟩ ⟨Nat.le_of_ble_eq_true rfl, Nat.le_of_ble_eq_true rfl⟩ (fun v63 u61 H locs hw62 hP hD hS => ?_)
    obtain rfl : v63 = some (.int ((B 68) (tp - 1))) := hw62
    have hP : va_P G.1 pCl (mW G h0 a (upd (upd (upd (upd (upd (upd (upd (upd (upd F 102 (nI op)) 111 (nI (tp - 1))) 115 (nI wn)) 116 (-1)) 117 (nI fu)) 118 rs0) 119 uc0) 125 nw) 126 isn) B) _ := mW_to (F := F) (l1 := [(102, (nI op)), (111, (nI tp)), (115, (nI wn)), (116, (-1)), (117, (nI fu)), (118, rs0), (119, uc0), (125, nw), (126, isn), (111, (nI (tp - 1)))]) (l2 := [(102, (nI op)), (111, (nI (tp - 1))), (115, (nI wn)), (116, (-1)), (117, (nI fu)), (118, rs0), (119, uc0), (125, nw), (126, isn)]) (V := [(nI op), (nI (tp - 1)), (nI wn), (-1), (nI fu), rs0, uc0, nw, isn, (nI (tp - 1)), (nI op), (nI (tp - 1)), (nI wn), (-1), (nI fu), rs0, uc0, nw, isn]) rfl rfl (show (updA B 68 (B 68)) = B from updsA_eq2 (F := B) (l1 := [(68, (B 68))]) (l2 := []) (V := [(B 68)]) rfl rfl) hP
    have hD : va_D A (mW G h0 a (upd (upd (upd (upd (upd (upd (upd (upd (upd F 102 (nI op)) 111 (nI (tp - 1))) 115 (nI wn)) 116 (-1)) 117 (nI fu)) 118 rs0) 119 uc0) 125 nw) 126 isn) B) := mW_D hD
    refine W.widen (k := 0) (n := 0) (Nat.le_of_ble_eq_true rfl) (Nat.le_of_ble_eq_true rfl) ?_
    refine W.eq (g2 := F0 m 11 ls [.int ((B 68) (tp - 1))]) rfl ?_
    refine lv_istore_n (lv' := [(3, .int ((B 68) (tp - 1))), (2, .int (nI a9)), (0, .ref h0), (1, .int (nI p9))]) hx hb dX12_sets_11 rfl hl (by decide) rfl (fun ls hl => ?_)
    refine lv_aload_n hx hb dX12_sets_12 rfl (lv_at hl 2 rfl) ?_
    refine r_get (v := .ref (a 9)) hx hb hown hq hE hP 17 38 tFX12_17 (by decide) pw_1439 rfl dX12_sets_13 ?_
    refine lv_iload_n hx hb dX12_sets_16 rfl (lv_at hl 1 rfl) ?_
    refine r_ldi (f := (B 9)) (j := a9) hx hb hE hP 9 (ma_9 G a _) rfl (by omega) (by decide) dX12_sets_17 ?_
    refine lv_topi (fun x64 e65 => ?_)
    obtain rfl : x64 = 12 := e65.trans ((congrFun hw9 _).trans hx3)
    refine lv_bipush (v := 6) hx hb dX12_sets_18 (by decide) ?_
    refine lv_icmp_ne (tgt := 54) hx hb dX12_sets_20 (by decide) (fun c66 => ?_) (fun c66 => absurd c66 (by decide))
    refine lv_aload_n hx hb dX12_sets_54 rfl (lv_at hl 2 rfl) ?_
    refine r_get (v := .ref (a 9)) hx hb hown hq hE hP 17 38 tFX12_17 (by decide) pw_1439 rfl dX12_sets_55 ?_
    refine lv_iload_n hx hb dX12_sets_58 rfl (lv_at hl 1 rfl) ?_
    refine r_ldi (f := (B 9)) (j := a9) hx hb hE hP 9 (ma_9 G a _) rfl (by omega) (by decide) dX12_sets_59 ?_
    refine lv_topi (fun x67 e68 => ?_)
    obtain rfl : x67 = 12 := e68.trans ((congrFun hw9 _).trans hx3)
    refine lv_bipush (v := 15) hx hb dX12_sets_60 (by decide) ?_
    refine lv_icmp_ne (tgt := 195) hx hb dX12_sets_62 (by decide) (fun c69 => ?_) (fun c69 => absurd c69 (by decide))
    refine lv_aload_n hx hb dX12_sets_195 rfl (lv_at hl 2 rfl) ?_
    refine r_get (v := .ref (a 9)) hx hb hown hq hE hP 17 38 tFX12_17 (by decide) pw_1439 rfl dX12_sets_196 ?_
    refine lv_iload_n hx hb dX12_sets_199 rfl (lv_at hl 1 rfl) ?_
    refine r_ldi (f := (B 9)) (j := a9) hx hb hE hP 9 (ma_9 G a _) rfl (by omega) (by decide) dX12_sets_200 ?_
    refine lv_topi (fun x70 e71 => ?_)
    obtain rfl : x70 = 12 := e71.trans ((congrFun hw9 _).trans hx3)
    refine lv_bipush (v := 6) hx hb dX12_sets_201 (by decide) ?_
    refine lv_icmp_ne (tgt := 210) hx hb dX12_sets_203 (by decide) (fun c72 => ?_) (fun c72 => absurd c72 (by decide))
    refine lv_iconst (v := 0) hx hb dX12_sets_210 (by decide) ?_
    refine lv_istore (lv' := [(4, .int 0), (3, .int ((B 68) (tp - 1))), (2, .int (nI a9)), (0, .ref h0), (1, .int (nI p9))]) hx hb dX12_sets_211 hl (by decide) rfl (fun ls hl => ?_)
    refine lv_iload hx hb dX12_sets_213 (lv_at hl 0 rfl) ?_
    refine lv_if_eq (tgt := 232) hx hb dX12_sets_215 (by decide) (fun c73 => ?_) (fun c73 => absurd c73 (by decide))
    refine lv_aload_n hx hb dX12_sets_232 rfl (lv_at hl 3 rfl) ?_
    have hP : va_P G.1 pCl (mW G h0 a (upd (upd (upd (upd (upd (upd (upd (upd (upd (upd F 102 (nI op)) 111 (nI (tp - 1))) 115 (nI wn)) 116 (-1)) 117 (nI fu)) 118 rs0) 119 uc0) 125 nw) 126 isn) 111 (nI (tp - 1))) (updA B 68 (B 68))) _ := mW_to (F := F) (l1 := [(102, (nI op)), (111, (nI (tp - 1))), (115, (nI wn)), (116, (-1)), (117, (nI fu)), (118, rs0), (119, uc0), (125, nw), (126, isn)]) (l2 := [(102, (nI op)), (111, (nI (tp - 1))), (115, (nI wn)), (116, (-1)), (117, (nI fu)), (118, rs0), (119, uc0), (125, nw), (126, isn), (111, (nI (tp - 1)))]) (V := [(nI op), (nI (tp - 1)), (nI wn), (-1), (nI fu), rs0, uc0, nw, isn, (nI op), (nI (tp - 1)), (nI wn), (-1), (nI fu), rs0, uc0, nw, isn, (nI (tp - 1))]) rfl rfl (show B = (updA B 68 (B 68)) from updsA_eq2 (F := B) (l1 := []) (l2 := [(68, (B 68))]) (V := [(B 68)]) rfl rfl) hP
    have hD : va_D A (mW G h0 a (upd (upd (upd (upd (upd (upd (upd (upd (upd (upd F 102 (nI op)) 111 (nI (tp - 1))) 115 (nI wn)) 116 (-1)) 117 (nI fu)) 118 rs0) 119 uc0) 125 nw) 126 isn) 111 (nI (tp - 1))) (updA B 68 (B 68))) := mW_D hD
    refine pc_V0 (G := G) (As := []) (rest := []) hx hb hml hown hq hE hX pX0_al hP hD hS hA hl.1 (R_pop l G h0 a (upd (upd (upd (upd (upd (upd (upd (upd (upd F 102 (nI op)) 111 (nI (tp - 1))) 115 (nI wn)) 116 (-1)) 117 (nI fu)) 118 rs0) 119 uc0) 125 nw) 126 isn) B (tp - 1) (B 68) (by omega)) (gV pw_2082 pw_2083 pw_2084 pw_1523 pw_1965) hV_X12_pop 0 9 rfl rfl rfl rfl (Nat.le_of_ble_eq_true rfl) dX12_sets_233 ⟨Nat.le_of_ble_eq_true rfl, Nat.le_of_ble_eq_true rfl⟩ ⟨Nat.le_of_ble_eq_true rfl, Nat.le_of_ble_eq_true rfl⟩ (fun v76 u74 H locs hw75 hP hD hS => ?_)
    obtain rfl : v76 = some (.int ((B 68) ((tp - 1) - 1))) := hw75
    have hP : va_P G.1 pCl (mW G h0 a (upd (upd (upd (upd (upd (upd (upd (upd (upd F 102 (nI op)) 111 (nI ((tp - 1) - 1))) 115 (nI wn)) 116 (-1)) 117 (nI fu)) 118 rs0) 119 uc0) 125 nw) 126 isn) B) _ := mW_to (F := F) (l1 := [(102, (nI op)), (111, (nI (tp - 1))), (115, (nI wn)), (116, (-1)), (117, (nI fu)), (118, rs0), (119, uc0), (125, nw), (126, isn), (111, (nI ((tp - 1) - 1)))]) (l2 := [(102, (nI op)), (111, (nI ((tp - 1) - 1))), (115, (nI wn)), (116, (-1)), (117, (nI fu)), (118, rs0), (119, uc0), (125, nw), (126, isn)]) (V := [(nI op), (nI ((tp - 1) - 1)), (nI wn), (-1), (nI fu), rs0, uc0, nw, isn, (nI ((tp - 1) - 1)), (nI op), (nI ((tp - 1) - 1)), (nI wn), (-1), (nI fu), rs0, uc0, nw, isn]) rfl rfl (show (updA B 68 (B 68)) = B from updsA_eq2 (F := B) (l1 := [(68, (B 68))]) (l2 := []) (V := [(B 68)]) rfl rfl) hP
    have hD : va_D A (mW G h0 a (upd (upd (upd (upd (upd (upd (upd (upd (upd F 102 (nI op)) 111 (nI ((tp - 1) - 1))) 115 (nI wn)) 116 (-1)) 117 (nI fu)) 118 rs0) 119 uc0) 125 nw) 126 isn) B) := mW_D hD
    refine W.widen (k := 0) (n := 0) (Nat.le_of_ble_eq_true rfl) (Nat.le_of_ble_eq_true rfl) ?_
    refine W.eq (g2 := F0 m 236 ls [.int ((B 68) ((tp - 1) - 1))]) rfl ?_
    rcases hs9 with hz | ⟨o9, a8, g9, hv1, hs5, hs6, hs7, hs8, hs3⟩
    · refine lv_topi (fun x77 e78 => ?_)
      obtain rfl : x77 = 0 := e78.trans hz
      refine lv_istore (lv' := [(5, .int 0), (4, .int 0), (3, .int ((B 68) (tp - 1))), (2, .int (nI a9)), (0, .ref h0), (1, .int (nI p9))]) hx hb dX12_sets_236 hl (by decide) rfl (fun ls hl => ?_)
      refine lv_iload hx hb dX12_sets_238 (lv_at hl 1 rfl) ?_
      refine lv_if_eq (tgt := 255) hx hb dX12_sets_240 (by decide) (fun c79 => ?_) (fun c79 => absurd c79 (by decide))
      refine lv_aload_n hx hb dX12_sets_255 rfl (lv_at hl 4 rfl) ?_
      refine r_get (v := .ref (a 18)) hx hb hown hq hE hP 26 65 tFX12_26 (by decide) pw_1448 rfl dX12_sets_256 ?_
      refine lv_iload_n hx hb dX12_sets_259 rfl (lv_at hl 3 rfl) ?_
      refine r_ldi (f := (B 18)) (j := a9) hx hb hE hP 18 (ma_18 G a _) rfl (by omega) (by decide) dX12_sets_260 ?_
      refine lv_topi (fun x80 e81 => ?_)
      obtain rfl : x80 = nI f9 := e81.trans hs1
      refine lv_istore (lv' := [(6, .int (nI f9)), (5, .int 0), (4, .int 0), (3, .int ((B 68) (tp - 1))), (2, .int (nI a9)), (0, .ref h0), (1, .int (nI p9))]) hx hb dX12_sets_261 hl (by decide) rfl (fun ls hl => ?_)
      refine lv_iload hx hb dX12_sets_263 (lv_at hl 1 rfl) ?_
      refine lv_if_ne (tgt := 279) hx hb dX12_sets_265 (by decide) (fun c82 => absurd c82 (by decide)) (fun c82 => ?_)
      refine lv_aload_n hx hb dX12_sets_268 rfl (lv_at hl 5 rfl) ?_
      refine lv_iload_n hx hb dX12_sets_269 rfl (lv_at hl 6 rfl) ?_
      refine lv_sipush (v := 4001) hx hb dX12_sets_270 (by decide) ?_
      have hln83 := (Rn.lnP hR hp hst hkd (by omega) (by omega)).1
      have hP : va_P G.1 pCl (mW G h0 a (upd (upd (upd (upd (upd (upd (upd (upd (upd (upd (upd (upd (upd (upd (upd (upd (upd (upd F 102 (nI op)) 111 (nI ((tp - 1) - 1))) 115 (nI wn)) 116 (-1)) 117 (nI fu)) 118 rs0) 119 uc0) 125 nw) 126 isn) 102 (nI op)) 111 (nI ((tp - 1) - 1))) 115 (nI wn)) 116 (-1)) 117 (nI fu)) 118 rs0) 119 uc0) 125 nw) 126 isn) B) _ := mW_to (F := F) (l1 := [(102, (nI op)), (111, (nI ((tp - 1) - 1))), (115, (nI wn)), (116, (-1)), (117, (nI fu)), (118, rs0), (119, uc0), (125, nw), (126, isn)]) (l2 := [(102, (nI op)), (111, (nI ((tp - 1) - 1))), (115, (nI wn)), (116, (-1)), (117, (nI fu)), (118, rs0), (119, uc0), (125, nw), (126, isn), (102, (nI op)), (111, (nI ((tp - 1) - 1))), (115, (nI wn)), (116, (-1)), (117, (nI fu)), (118, rs0), (119, uc0), (125, nw), (126, isn)]) (V := [(nI op), (nI ((tp - 1) - 1)), (nI wn), (-1), (nI fu), rs0, uc0, nw, isn, (nI op), (nI ((tp - 1) - 1)), (nI wn), (-1), (nI fu), rs0, uc0, nw, isn, (nI op), (nI ((tp - 1) - 1)), (nI wn), (-1), (nI fu), rs0, uc0, nw, isn]) rfl rfl rfl hP
      have hD : va_D A (mW G h0 a (upd (upd (upd (upd (upd (upd (upd (upd (upd (upd (upd (upd (upd (upd (upd (upd (upd (upd F 102 (nI op)) 111 (nI ((tp - 1) - 1))) 115 (nI wn)) 116 (-1)) 117 (nI fu)) 118 rs0) 119 uc0) 125 nw) 126 isn) 102 (nI op)) 111 (nI ((tp - 1) - 1))) 115 (nI wn)) 116 (-1)) 117 (nI fu)) 118 rs0) 119 uc0) 125 nw) 126 isn) B) := mW_D hD
      refine pc_V0 (G := G) (As := [.int (nI p9), .int (nI 4001)]) (rest := []) hx hb hml hown hq hE hX pX0_al hP hD hS hA hl.1 (R_raises l G h0 a (upd (upd (upd (upd (upd (upd (upd (upd (upd F 102 (nI op)) 111 (nI ((tp - 1) - 1))) 115 (nI wn)) 116 (-1)) 117 (nI fu)) 118 rs0) 119 uc0) 125 nw) 126 isn) B Xs gh nd T nm wr lz dc fd md pr bk M rmm (Phi gh ps op (rkN gh n9 true)) op wn fu rd on idn fl ct p9 4001 (4001 - 4000) mt ps (yyU yy (op - 1) u) bf wf (nI ((tp - 1) - 1)) nw isn rs0 uc0 hln83 (by omega) (by omega) (Or.inr (by omega)) (clF_1 (by omega)) (by omega)) (gV pw_2054 pw_2055 pw_2056 pw_1523 pw_2053) hV_X12_raises 0 9 rfl rfl rfl rfl (Nat.le_of_ble_eq_true rfl) dX12_sets_273 ⟨Nat.le_of_ble_eq_true rfl, Nat.le_of_ble_eq_true rfl⟩ ⟨Nat.le_of_ble_eq_true rfl, Nat.le_of_ble_eq_true rfl⟩ (fun v86 u84 H locs hw85 hP hD hS => ?_)
      obtain ⟨op87, tp88, wn89, fu90, en91, nw92, is93, rs94, uc95, X96⟩ := u84
      obtain ⟨hw85, h97⟩ := hw85
      replace h97 : Nx Xs X96 gh nd T nm wr lz dc fd md pr bk M rmm fu (Phi gh ps op (rkN gh n9 true)) op87 tp88 wn89 fu90 rd on idn fl ct en91 nw92 is93 uc95 := h97
      obtain rfl : v86 = none := hw85
      have hP : va_P G.1 pCl (mW G h0 a (upd (upd (upd (upd (upd (upd (upd (upd (upd F 102 (nI op87)) 111 (nI tp88)) 115 (nI wn89)) 116 en91) 117 (nI fu90)) 118 rs94) 119 uc95) 125 nw92) 126 is93) X96) _ := mW_to (F := F) (l1 := [(102, (nI op)), (111, (nI ((tp - 1) - 1))), (115, (nI wn)), (116, (-1)), (117, (nI fu)), (118, rs0), (119, uc0), (125, nw), (126, isn), (102, (nI op87)), (111, (nI tp88)), (115, (nI wn89)), (116, en91), (117, (nI fu90)), (118, rs94), (119, uc95), (125, nw92), (126, is93)]) (l2 := [(102, (nI op87)), (111, (nI tp88)), (115, (nI wn89)), (116, en91), (117, (nI fu90)), (118, rs94), (119, uc95), (125, nw92), (126, is93)]) (V := [(nI op87), (nI tp88), (nI wn89), en91, (nI fu90), rs94, uc95, nw92, is93, (nI op87), (nI tp88), (nI wn89), en91, (nI fu90), rs94, uc95, nw92, is93, (nI op87), (nI tp88), (nI wn89), en91, (nI fu90), rs94, uc95, nw92, is93]) rfl rfl rfl hP
      have hD : va_D A (mW G h0 a (upd (upd (upd (upd (upd (upd (upd (upd (upd F 102 (nI op87)) 111 (nI tp88)) 115 (nI wn89)) 116 en91) 117 (nI fu90)) 118 rs94) 119 uc95) 125 nw92) 126 is93) X96) := mW_D hD
      refine W.widen (k := 0) (n := 0) (Nat.le_of_ble_eq_true rfl) (Nat.le_of_ble_eq_true rfl) ?_
      refine W.eq (g2 := F0 m 276 ls []) rfl ?_
      refine lv_goto (tgt := 307) hx hb dX12_sets_276 (by decide) ?_
      have hz98 : Nx Xs X96 gh nd T nm wr lz dc fd md pr bk M rmm fu (Phi gh ps op (rkN gh n9 true)) op87 tp88 wn89 fu90 rd on idn fl ct en91 nw92 is93 uc95 := h97
      have hP : va_P G.1 pCl (mW G h0 a (upd (upd (upd (upd (upd (upd (upd (upd (upd F 102 (nI op87)) 111 (nI tp88)) 115 (nI wn89)) 116 en91) 117 (nI fu90)) 118 rs94) 119 uc95) 125 nw92) 126 is93) X96) _ := hP
      have hD : va_D A (mW G h0 a (upd (upd (upd (upd (upd (upd (upd (upd (upd F 102 (nI op87)) 111 (nI tp88)) 115 (nI wn89)) 116 en91) 117 (nI fu90)) 118 rs94) 119 uc95) 125 nw92) 126 is93) X96) := mW_D hD
      exact W.vret hx hb hr (fun t9 ht9 hW9 => ⟨⟨_, (op87, tp88, wn89, fu90, en91, nw92, is93, rs94, uc95, X96), rfl, ⟨rfl, hz98⟩, by rw [ht9]; exact hP, hD⟩, hS.F ht9⟩) hS.2.2 dX12_sets_307
    · refine lv_topi (fun x99 e100 => ?_)
      obtain rfl : x99 = nI (o9 + 1) := e100.trans hv1
      refine lv_istore (lv' := [(5, .int (nI (o9 + 1))), (4, .int 0), (3, .int ((B 68) (tp - 1))), (2, .int (nI a9)), (0, .ref h0), (1, .int (nI p9))]) hx hb dX12_sets_236 hl (by decide) rfl (fun ls hl => ?_)
      refine lv_iload hx hb dX12_sets_238 (lv_at hl 1 rfl) ?_
      refine lv_if_eq (tgt := 255) hx hb dX12_sets_240 (by decide) (fun c101 => ?_) (fun c101 => absurd c101 (by decide))
      refine lv_aload_n hx hb dX12_sets_255 rfl (lv_at hl 4 rfl) ?_
      refine r_get (v := .ref (a 18)) hx hb hown hq hE hP 26 65 tFX12_26 (by decide) pw_1448 rfl dX12_sets_256 ?_
      refine lv_iload_n hx hb dX12_sets_259 rfl (lv_at hl 3 rfl) ?_
      refine r_ldi (f := (B 18)) (j := a9) hx hb hE hP 18 (ma_18 G a _) rfl (by omega) (by decide) dX12_sets_260 ?_
      refine lv_topi (fun x102 e103 => ?_)
      obtain rfl : x102 = nI f9 := e103.trans hs1
      refine lv_istore (lv' := [(6, .int (nI f9)), (5, .int (nI (o9 + 1))), (4, .int 0), (3, .int ((B 68) (tp - 1))), (2, .int (nI a9)), (0, .ref h0), (1, .int (nI p9))]) hx hb dX12_sets_261 hl (by decide) rfl (fun ls hl => ?_)
      refine lv_iload hx hb dX12_sets_263 (lv_at hl 1 rfl) ?_
      refine lv_if_ne (tgt := 279) hx hb dX12_sets_265 (by decide) (fun c104 => ?_) (fun c104 => (by have n105 : (o9 + 1) = 0 := (nI_eq (a := (o9 + 1)) (b := 0) (by omega) (by omega)).mp c104; omega))
      refine lv_aload_n hx hb dX12_sets_279 rfl (lv_at hl 5 rfl) ?_
      refine r_get (v := .ref (a 60)) hx hb hown hq hE hP 96 193 tFX12_96 (by decide) pw_1492 rfl dX12_sets_280 ?_
      refine lv_aload_n hx hb dX12_sets_283 rfl (lv_at hl 5 rfl) ?_
      refine r_get (v := .ref (a 58)) hx hb hown hq hE hP 94 187 tFX12_94 (by decide) pw_1490 rfl dX12_sets_284 ?_
      refine lv_iload hx hb dX12_sets_287 (lv_at hl 1 rfl) ?_
      refine lv_iconst (v := 1) hx hb dX12_sets_289 (by decide) ?_
      refine lv_isub hx hb dX12_sets_290 ?_
      refine lv_topi (fun x106 e107 => ?_)
      obtain rfl : x106 = nI ((o9 + 1) - 1) := e107.trans (nI_subN (a := 1) (b := (o9 + 1)) (by omega))
      refine r_ldi (f := (B 58)) (j := ((o9 + 1) - 1)) hx hb hE hP 58 (ma_58 G a _) rfl (by omega) (by decide) dX12_sets_291 ?_
      refine lv_topi (fun x108 e109 => ?_)
      obtain rfl : x108 = nI a8 := e109.trans (by rw [show ((o9 + 1) - 1) = o9 by omega]; exact hs6)
      refine lv_aload_n hx hb dX12_sets_292 rfl (lv_at hl 5 rfl) ?_
      refine r_get (v := .ref (a 53)) hx hb hown hq hE hP 89 171 tFX12_89 (by decide) pw_1484 rfl dX12_sets_293 ?_
      refine lv_iload hx hb dX12_sets_296 (lv_at hl 0 rfl) ?_
      refine r_ldi (f := (B 53)) (j := f9) hx hb hE hP 53 (ma_53 G a _) rfl (by omega) (by decide) dX12_sets_298 ?_
      refine lv_topi (fun x110 e111 => ?_)
      obtain rfl : x110 = nI g9 := e111.trans hs7
      refine lv_iadd hx hb dX12_sets_299 ?_
      refine lv_topi (fun x112 e113 => ?_)
      obtain rfl : x112 = nI (a8 + g9) := e113.trans (nI_add (a8) (g9))
      refine lv_iload_n hx hb dX12_sets_300 rfl (lv_at hl 3 rfl) ?_
      refine r_sti (f := (B 60)) (j := (a8 + g9)) hx hb hE hP hD hS 60 (ma_60 G a _) rfl (mas_60 G a _) (by omega) (by decide) dX12_sets_301 (fun H locs hP hD hS => ?_)
      refine lv_aload_n hx hb dX12_sets_302 rfl (lv_at hl 5 rfl) ?_
      refine lv_iload_n hx hb dX12_sets_303 rfl (lv_at hl 6 rfl) ?_
      have hP : va_P G.1 pCl (mW G h0 a (upd (upd (upd (upd (upd (upd (upd (upd (upd F 102 (nI op)) 111 (nI ((tp - 1) - 1))) 115 (nI wn)) 116 (-1)) 117 (nI fu)) 118 rs0) 119 uc0) 125 nw) 126 isn) (updA B 60 (upd (B 60) (a8 + g9) ((B 68) (tp - 1))))) _ := hP
      have hD : va_D A (mW G h0 a (upd (upd (upd (upd (upd (upd (upd (upd (upd F 102 (nI op)) 111 (nI ((tp - 1) - 1))) 115 (nI wn)) 116 (-1)) 117 (nI fu)) 118 rs0) 119 uc0) 125 nw) 126 isn) (updA B 60 (upd (B 60) (a8 + g9) ((B 68) (tp - 1))))) := mW_D hD
      refine pc_V0 (G := G) (As := [.int (nI p9)]) (rest := []) hx hb hml hown hq hE hX pX0_al hP hD hS hA hl.1 (R_comesToEnd l G h0 a (upd (upd (upd (upd (upd (upd (upd (upd (upd F 102 (nI op)) 111 (nI ((tp - 1) - 1))) 115 (nI wn)) 116 (-1)) 117 (nI fu)) 118 rs0) 119 uc0) 125 nw) 126 isn) (updA B 60 (upd (B 60) (a8 + g9) ((B 68) (tp - 1)))) (nI p9)) (gV pw_2010 pw_2011 pw_2012 pw_1523 pw_2005) hV_X12_comesToEnd 0 9 rfl rfl rfl rfl (Nat.le_of_ble_eq_true rfl) dX12_sets_304 ⟨Nat.le_of_ble_eq_true rfl, Nat.le_of_ble_eq_true rfl⟩ ⟨Nat.le_of_ble_eq_true rfl, Nat.le_of_ble_eq_true rfl⟩ (fun v116 u114 H locs hw115 hP hD hS => ?_)
      obtain rfl : v116 = none := hw115
      have hP : va_P G.1 pCl (mW G h0 a (upd (upd (upd (upd (upd (upd (upd (upd (upd F 102 (nI op)) 111 (nI ((tp - 1) - 1))) 115 (nI wn)) 116 (-1)) 117 (nI fu)) 118 rs0) 119 uc0) 125 (nI p9)) 126 0) (updA B 60 (upd (B 60) (a8 + g9) ((B 68) (tp - 1))))) _ := mW_to (F := F) (l1 := [(102, (nI op)), (111, (nI ((tp - 1) - 1))), (115, (nI wn)), (116, (-1)), (117, (nI fu)), (118, rs0), (119, uc0), (125, nw), (126, isn), (125, (nI p9)), (126, 0)]) (l2 := [(102, (nI op)), (111, (nI ((tp - 1) - 1))), (115, (nI wn)), (116, (-1)), (117, (nI fu)), (118, rs0), (119, uc0), (125, (nI p9)), (126, 0)]) (V := [(nI op), (nI ((tp - 1) - 1)), (nI wn), (-1), (nI fu), rs0, uc0, (nI p9), 0, (nI p9), 0, (nI op), (nI ((tp - 1) - 1)), (nI wn), (-1), (nI fu), rs0, uc0, (nI p9), 0]) rfl rfl rfl hP
      have hD : va_D A (mW G h0 a (upd (upd (upd (upd (upd (upd (upd (upd (upd F 102 (nI op)) 111 (nI ((tp - 1) - 1))) 115 (nI wn)) 116 (-1)) 117 (nI fu)) 118 rs0) 119 uc0) 125 (nI p9)) 126 0) (updA B 60 (upd (B 60) (a8 + g9) ((B 68) (tp - 1))))) := mW_D hD
      refine W.widen (k := 0) (n := 0) (Nat.le_of_ble_eq_true rfl) (Nat.le_of_ble_eq_true rfl) ?_
      refine W.eq (g2 := F0 m 307 ls []) rfl ?_
      have hz117 : Nx Xs (updA B 60 (upd (B 60) (a8 + g9) ((B 68) (tp - 1)))) gh nd T nm wr lz dc fd md pr bk M rmm fu (Phi gh ps op (rkN gh n9 true)) op ((tp - 1) - 1) wn fu rd on idn fl ct ((-1) : Int32) (nI p9) (0 : Int32) uc0 := hs3
      have hP : va_P G.1 pCl (mW G h0 a (upd (upd (upd (upd (upd (upd (upd (upd (upd F 102 (nI op)) 111 (nI ((tp - 1) - 1))) 115 (nI wn)) 116 ((-1) : Int32)) 117 (nI fu)) 118 rs0) 119 uc0) 125 (nI p9)) 126 (0 : Int32)) (updA B 60 (upd (B 60) (a8 + g9) ((B 68) (tp - 1))))) _ := mW_to (F := F) (l1 := [(102, (nI op)), (111, (nI ((tp - 1) - 1))), (115, (nI wn)), (116, (-1)), (117, (nI fu)), (118, rs0), (119, uc0), (125, (nI p9)), (126, 0)]) (l2 := [(102, (nI op)), (111, (nI ((tp - 1) - 1))), (115, (nI wn)), (116, ((-1) : Int32)), (117, (nI fu)), (118, rs0), (119, uc0), (125, (nI p9)), (126, (0 : Int32))]) (V := [(nI op), (nI ((tp - 1) - 1)), (nI wn), ((-1) : Int32), (nI fu), rs0, uc0, (nI p9), (0 : Int32), (nI op), (nI ((tp - 1) - 1)), (nI wn), ((-1) : Int32), (nI fu), rs0, uc0, (nI p9), (0 : Int32)]) rfl rfl rfl hP
      have hD : va_D A (mW G h0 a (upd (upd (upd (upd (upd (upd (upd (upd (upd F 102 (nI op)) 111 (nI ((tp - 1) - 1))) 115 (nI wn)) 116 ((-1) : Int32)) 117 (nI fu)) 118 rs0) 119 uc0) 125 (nI p9)) 126 (0 : Int32)) (updA B 60 (upd (B 60) (a8 + g9) ((B 68) (tp - 1))))) := mW_D hD
      exact W.vret hx hb hr (fun t9 ht9 hW9 => ⟨⟨_, (op, ((tp - 1) - 1), wn, fu, ((-1) : Int32), (nI p9), (0 : Int32), rs0, uc0, (updA B 60 (upd (B 60) (a8 + g9) ((B 68) (tp - 1))))), rfl, ⟨rfl, hz117⟩, by rw [ht9]; exact hP, hD⟩, hS.F ht9⟩) hS.2.2 dX12_sets_307
  · obtain ⟨ht1, ta, hs1, hs2, hs9⟩ := hR.g32e (uc := uc0) hp hst hkd hx1 hx2 hx3
    refine lv_aload_n hx hb dX12_sets_0 rfl (lv_at hl 0 rfl) ?_
    refine r_get (v := .ref (a 12)) hx hb hown hq hE hP 20 47 tFX12_20 (by decide) pw_1442 rfl dX12_sets_1 ?_
    refine lv_iload_n hx hb dX12_sets_4 rfl (lv_at hl 1 rfl) ?_
    refine r_ldi (f := (B 12)) (j := p9) hx hb hE hP 12 (ma_12 G a _) rfl (by omega) (by decide) dX12_sets_5 ?_
    refine lv_topi (fun x118 e119 => ?_)
    obtain rfl : x118 = nI a9 := e119.trans ((congrFun hw12 _).trans hx1)
    refine lv_istore_n (lv' := [(2, .int (nI a9)), (0, .ref h0), (1, .int (nI p9))]) hx hb dX12_sets_6 rfl hl (by decide) rfl (fun ls hl => ?_)
    refine lv_aload_n hx hb dX12_sets_7 rfl (lv_at hl 1 rfl) ?_
    have hP : va_P G.1 pCl (mW G h0 a (upd (upd (upd (upd (upd (upd (upd (upd (upd (upd F 102 (nI op)) 111 (nI tp)) 115 (nI wn)) 116 (-1)) 117 (nI fu)) 118 rs0) 119 uc0) 125 nw) 126 isn) 111 (nI tp)) (updA B 68 (B 68))) _ := hP
    have hD : va_D A (mW G h0 a (upd (upd (upd (upd (upd (upd (upd (upd (upd (upd F 102 (nI op)) 111 (nI tp)) 115 (nI wn)) 116 (-1)) 117 (nI fu)) 118 rs0) 119 uc0) 125 nw) 126 isn) 111 (nI tp)) (updA B 68 (B 68))) := mW_D hD
    refine pc_V0 (G := G) (As := []) (rest := []) hx hb hml hown hq hE hX pX0_al hP hD hS hA hl.1 (R_pop l G h0 a (upd (upd (upd (upd (upd (upd (upd (upd (upd F 102 (nI op)) 111 (nI tp)) 115 (nI wn)) 116 (-1)) 117 (nI fu)) 118 rs0) 119 uc0) 125 nw) 126 isn) B tp (B 68) (by omega)) (gV pw_2082 pw_2083 pw_2084 pw_1523 pw_1965) hV_X12_pop 0 9 rfl rfl rfl rfl (Nat.le_of_ble_eq_true rfl) dX12_sets_8 ⟨Nat.le_of_ble_eq_true rfl, Nat.le_of_ble_eq_true rfl⟩ ⟨Nat.le_of_ble_eq_true rfl, Nat.le_of_ble_eq_true rfl⟩ (fun v122 u120 H locs hw121 hP hD hS => ?_)
    obtain rfl : v122 = some (.int ((B 68) (tp - 1))) := hw121
    have hP : va_P G.1 pCl (mW G h0 a (upd (upd (upd (upd (upd (upd (upd (upd (upd F 102 (nI op)) 111 (nI (tp - 1))) 115 (nI wn)) 116 (-1)) 117 (nI fu)) 118 rs0) 119 uc0) 125 nw) 126 isn) B) _ := mW_to (F := F) (l1 := [(102, (nI op)), (111, (nI tp)), (115, (nI wn)), (116, (-1)), (117, (nI fu)), (118, rs0), (119, uc0), (125, nw), (126, isn), (111, (nI (tp - 1)))]) (l2 := [(102, (nI op)), (111, (nI (tp - 1))), (115, (nI wn)), (116, (-1)), (117, (nI fu)), (118, rs0), (119, uc0), (125, nw), (126, isn)]) (V := [(nI op), (nI (tp - 1)), (nI wn), (-1), (nI fu), rs0, uc0, nw, isn, (nI (tp - 1)), (nI op), (nI (tp - 1)), (nI wn), (-1), (nI fu), rs0, uc0, nw, isn]) rfl rfl (show (updA B 68 (B 68)) = B from updsA_eq2 (F := B) (l1 := [(68, (B 68))]) (l2 := []) (V := [(B 68)]) rfl rfl) hP
    have hD : va_D A (mW G h0 a (upd (upd (upd (upd (upd (upd (upd (upd (upd F 102 (nI op)) 111 (nI (tp - 1))) 115 (nI wn)) 116 (-1)) 117 (nI fu)) 118 rs0) 119 uc0) 125 nw) 126 isn) B) := mW_D hD
    refine W.widen (k := 0) (n := 0) (Nat.le_of_ble_eq_true rfl) (Nat.le_of_ble_eq_true rfl) ?_
    refine W.eq (g2 := F0 m 11 ls [.int ((B 68) (tp - 1))]) rfl ?_
    refine lv_istore_n (lv' := [(3, .int ((B 68) (tp - 1))), (2, .int (nI a9)), (0, .ref h0), (1, .int (nI p9))]) hx hb dX12_sets_11 rfl hl (by decide) rfl (fun ls hl => ?_)
    refine lv_aload_n hx hb dX12_sets_12 rfl (lv_at hl 2 rfl) ?_
    refine r_get (v := .ref (a 9)) hx hb hown hq hE hP 17 38 tFX12_17 (by decide) pw_1439 rfl dX12_sets_13 ?_
    refine lv_iload_n hx hb dX12_sets_16 rfl (lv_at hl 1 rfl) ?_
    refine r_ldi (f := (B 9)) (j := a9) hx hb hE hP 9 (ma_9 G a _) rfl (by omega) (by decide) dX12_sets_17 ?_
    refine lv_topi (fun x123 e124 => ?_)
    obtain rfl : x123 = 15 := e124.trans ((congrFun hw9 _).trans hx3)
    refine lv_bipush (v := 6) hx hb dX12_sets_18 (by decide) ?_
    refine lv_icmp_ne (tgt := 54) hx hb dX12_sets_20 (by decide) (fun c125 => ?_) (fun c125 => absurd c125 (by decide))
    refine lv_aload_n hx hb dX12_sets_54 rfl (lv_at hl 2 rfl) ?_
    refine r_get (v := .ref (a 9)) hx hb hown hq hE hP 17 38 tFX12_17 (by decide) pw_1439 rfl dX12_sets_55 ?_
    refine lv_iload_n hx hb dX12_sets_58 rfl (lv_at hl 1 rfl) ?_
    refine r_ldi (f := (B 9)) (j := a9) hx hb hE hP 9 (ma_9 G a _) rfl (by omega) (by decide) dX12_sets_59 ?_
    refine lv_topi (fun x126 e127 => ?_)
    obtain rfl : x126 = 15 := e127.trans ((congrFun hw9 _).trans hx3)
    refine lv_bipush (v := 15) hx hb dX12_sets_60 (by decide) ?_
    refine lv_icmp_ne (tgt := 195) hx hb dX12_sets_62 (by decide) (fun c128 => absurd c128 (by decide)) (fun c128 => ?_)
    refine lv_aload_n hx hb dX12_sets_65 rfl (lv_at hl 2 rfl) ?_
    have hP : va_P G.1 pCl (mW G h0 a (upd (upd (upd (upd (upd (upd (upd (upd (upd (upd F 102 (nI op)) 111 (nI (tp - 1))) 115 (nI wn)) 116 (-1)) 117 (nI fu)) 118 rs0) 119 uc0) 125 nw) 126 isn) 111 (nI (tp - 1))) (updA B 68 (B 68))) _ := mW_to (F := F) (l1 := [(102, (nI op)), (111, (nI (tp - 1))), (115, (nI wn)), (116, (-1)), (117, (nI fu)), (118, rs0), (119, uc0), (125, nw), (126, isn)]) (l2 := [(102, (nI op)), (111, (nI (tp - 1))), (115, (nI wn)), (116, (-1)), (117, (nI fu)), (118, rs0), (119, uc0), (125, nw), (126, isn), (111, (nI (tp - 1)))]) (V := [(nI op), (nI (tp - 1)), (nI wn), (-1), (nI fu), rs0, uc0, nw, isn, (nI op), (nI (tp - 1)), (nI wn), (-1), (nI fu), rs0, uc0, nw, isn, (nI (tp - 1))]) rfl rfl (show B = (updA B 68 (B 68)) from updsA_eq2 (F := B) (l1 := []) (l2 := [(68, (B 68))]) (V := [(B 68)]) rfl rfl) hP
    have hD : va_D A (mW G h0 a (upd (upd (upd (upd (upd (upd (upd (upd (upd (upd F 102 (nI op)) 111 (nI (tp - 1))) 115 (nI wn)) 116 (-1)) 117 (nI fu)) 118 rs0) 119 uc0) 125 nw) 126 isn) 111 (nI (tp - 1))) (updA B 68 (B 68))) := mW_D hD
    refine pc_V0 (G := G) (As := []) (rest := []) hx hb hml hown hq hE hX pX0_al hP hD hS hA hl.1 (R_pop l G h0 a (upd (upd (upd (upd (upd (upd (upd (upd (upd F 102 (nI op)) 111 (nI (tp - 1))) 115 (nI wn)) 116 (-1)) 117 (nI fu)) 118 rs0) 119 uc0) 125 nw) 126 isn) B (tp - 1) (B 68) (by omega)) (gV pw_2082 pw_2083 pw_2084 pw_1523 pw_1965) hV_X12_pop 0 9 rfl rfl rfl rfl (Nat.le_of_ble_eq_true rfl) dX12_sets_66 ⟨Nat.le_of_ble_eq_true rfl, Nat.le_of_ble_eq_true rfl⟩ ⟨Nat.le_of_ble_eq_true rfl, Nat.le_of_ble_eq_true rfl⟩ (fun v131 u129 H locs hw130 hP hD hS => ?_)
    obtain rfl : v131 = some (.int ((B 68) ((tp - 1) - 1))) := hw130
    have hP : va_P G.1 pCl (mW G h0 a (upd (upd (upd (upd (upd (upd (upd (upd (upd F 102 (nI op)) 111 (nI ((tp - 1) - 1))) 115 (nI wn)) 116 (-1)) 117 (nI fu)) 118 rs0) 119 uc0) 125 nw) 126 isn) B) _ := mW_to (F := F) (l1 := [(102, (nI op)), (111, (nI (tp - 1))), (115, (nI wn)), (116, (-1)), (117, (nI fu)), (118, rs0), (119, uc0), (125, nw), (126, isn), (111, (nI ((tp - 1) - 1)))]) (l2 := [(102, (nI op)), (111, (nI ((tp - 1) - 1))), (115, (nI wn)), (116, (-1)), (117, (nI fu)), (118, rs0), (119, uc0), (125, nw), (126, isn)]) (V := [(nI op), (nI ((tp - 1) - 1)), (nI wn), (-1), (nI fu), rs0, uc0, nw, isn, (nI ((tp - 1) - 1)), (nI op), (nI ((tp - 1) - 1)), (nI wn), (-1), (nI fu), rs0, uc0, nw, isn]) rfl rfl (show (updA B 68 (B 68)) = B from updsA_eq2 (F := B) (l1 := [(68, (B 68))]) (l2 := []) (V := [(B 68)]) rfl rfl) hP
    have hD : va_D A (mW G h0 a (upd (upd (upd (upd (upd (upd (upd (upd (upd F 102 (nI op)) 111 (nI ((tp - 1) - 1))) 115 (nI wn)) 116 (-1)) 117 (nI fu)) 118 rs0) 119 uc0) 125 nw) 126 isn) B) := mW_D hD
    refine W.widen (k := 0) (n := 0) (Nat.le_of_ble_eq_true rfl) (Nat.le_of_ble_eq_true rfl) ?_
    refine W.eq (g2 := F0 m 69 ls [.int ((B 68) ((tp - 1) - 1))]) rfl ?_
    refine lv_istore (lv' := [(4, .int ((B 68) ((tp - 1) - 1))), (3, .int ((B 68) (tp - 1))), (2, .int (nI a9)), (0, .ref h0), (1, .int (nI p9))]) hx hb dX12_sets_69 hl (by decide) rfl (fun ls hl => ?_)
    refine lv_aload_n hx hb dX12_sets_71 rfl (lv_at hl 3 rfl) ?_
    have hP : va_P G.1 pCl (mW G h0 a (upd (upd (upd (upd (upd (upd (upd (upd (upd (upd F 102 (nI op)) 111 (nI ((tp - 1) - 1))) 115 (nI wn)) 116 (-1)) 117 (nI fu)) 118 rs0) 119 uc0) 125 nw) 126 isn) 111 (nI ((tp - 1) - 1))) (updA B 68 (B 68))) _ := mW_to (F := F) (l1 := [(102, (nI op)), (111, (nI ((tp - 1) - 1))), (115, (nI wn)), (116, (-1)), (117, (nI fu)), (118, rs0), (119, uc0), (125, nw), (126, isn)]) (l2 := [(102, (nI op)), (111, (nI ((tp - 1) - 1))), (115, (nI wn)), (116, (-1)), (117, (nI fu)), (118, rs0), (119, uc0), (125, nw), (126, isn), (111, (nI ((tp - 1) - 1)))]) (V := [(nI op), (nI ((tp - 1) - 1)), (nI wn), (-1), (nI fu), rs0, uc0, nw, isn, (nI op), (nI ((tp - 1) - 1)), (nI wn), (-1), (nI fu), rs0, uc0, nw, isn, (nI ((tp - 1) - 1))]) rfl rfl (show B = (updA B 68 (B 68)) from updsA_eq2 (F := B) (l1 := []) (l2 := [(68, (B 68))]) (V := [(B 68)]) rfl rfl) hP
    have hD : va_D A (mW G h0 a (upd (upd (upd (upd (upd (upd (upd (upd (upd (upd F 102 (nI op)) 111 (nI ((tp - 1) - 1))) 115 (nI wn)) 116 (-1)) 117 (nI fu)) 118 rs0) 119 uc0) 125 nw) 126 isn) 111 (nI ((tp - 1) - 1))) (updA B 68 (B 68))) := mW_D hD
    refine pc_V0 (G := G) (As := []) (rest := []) hx hb hml hown hq hE hX pX0_al hP hD hS hA hl.1 (R_pop l G h0 a (upd (upd (upd (upd (upd (upd (upd (upd (upd F 102 (nI op)) 111 (nI ((tp - 1) - 1))) 115 (nI wn)) 116 (-1)) 117 (nI fu)) 118 rs0) 119 uc0) 125 nw) 126 isn) B ((tp - 1) - 1) (B 68) (by omega)) (gV pw_2082 pw_2083 pw_2084 pw_1523 pw_1965) hV_X12_pop 0 9 rfl rfl rfl rfl (Nat.le_of_ble_eq_true rfl) dX12_sets_72 ⟨Nat.le_of_ble_eq_true rfl, Nat.le_of_ble_eq_true rfl⟩ ⟨Nat.le_of_ble_eq_true rfl, Nat.le_of_ble_eq_true rfl⟩ (fun v134 u132 H locs hw133 hP hD hS => ?_)
    obtain rfl : v134 = some (.int ((B 68) (((tp - 1) - 1) - 1))) := hw133
    have hP : va_P G.1 pCl (mW G h0 a (upd (upd (upd (upd (upd (upd (upd (upd (upd F 102 (nI op)) 111 (nI (((tp - 1) - 1) - 1))) 115 (nI wn)) 116 (-1)) 117 (nI fu)) 118 rs0) 119 uc0) 125 nw) 126 isn) B) _ := mW_to (F := F) (l1 := [(102, (nI op)), (111, (nI ((tp - 1) - 1))), (115, (nI wn)), (116, (-1)), (117, (nI fu)), (118, rs0), (119, uc0), (125, nw), (126, isn), (111, (nI (((tp - 1) - 1) - 1)))]) (l2 := [(102, (nI op)), (111, (nI (((tp - 1) - 1) - 1))), (115, (nI wn)), (116, (-1)), (117, (nI fu)), (118, rs0), (119, uc0), (125, nw), (126, isn)]) (V := [(nI op), (nI (((tp - 1) - 1) - 1)), (nI wn), (-1), (nI fu), rs0, uc0, nw, isn, (nI (((tp - 1) - 1) - 1)), (nI op), (nI (((tp - 1) - 1) - 1)), (nI wn), (-1), (nI fu), rs0, uc0, nw, isn]) rfl rfl (show (updA B 68 (B 68)) = B from updsA_eq2 (F := B) (l1 := [(68, (B 68))]) (l2 := []) (V := [(B 68)]) rfl rfl) hP
    have hD : va_D A (mW G h0 a (upd (upd (upd (upd (upd (upd (upd (upd (upd F 102 (nI op)) 111 (nI (((tp - 1) - 1) - 1))) 115 (nI wn)) 116 (-1)) 117 (nI fu)) 118 rs0) 119 uc0) 125 nw) 126 isn) B) := mW_D hD
    refine W.widen (k := 0) (n := 0) (Nat.le_of_ble_eq_true rfl) (Nat.le_of_ble_eq_true rfl) ?_
    refine W.eq (g2 := F0 m 75 ls [.int ((B 68) (((tp - 1) - 1) - 1))]) rfl ?_
    rcases hs9 with hz | ⟨o9, q9, a8, so9, hv1, hs5, hv3, hv4, hs6, hv6, hv7, hv8, hv9, hv10, hv11, hv12⟩
    · refine lv_topi (fun x135 e136 => ?_)
      obtain rfl : x135 = 0 := e136.trans hz
      refine lv_istore (lv' := [(5, .int 0), (4, .int ((B 68) ((tp - 1) - 1))), (3, .int ((B 68) (tp - 1))), (2, .int (nI a9)), (0, .ref h0), (1, .int (nI p9))]) hx hb dX12_sets_75 hl (by decide) rfl (fun ls hl => ?_)
      refine lv_iload hx hb dX12_sets_77 (lv_at hl 0 rfl) ?_
      refine lv_if_ne (tgt := 93) hx hb dX12_sets_79 (by decide) (fun c137 => absurd c137 (by decide)) (fun c137 => ?_)
      refine lv_aload_n hx hb dX12_sets_82 rfl (lv_at hl 4 rfl) ?_
      refine lv_iload_n hx hb dX12_sets_83 rfl (lv_at hl 5 rfl) ?_
      refine lv_sipush (v := 4001) hx hb dX12_sets_84 (by decide) ?_
      have hln138 := (Rn.lnP hR hp hst hkd (by omega) (by omega)).1
      have hP : va_P G.1 pCl (mW G h0 a (upd (upd (upd (upd (upd (upd (upd (upd (upd (upd (upd (upd (upd (upd (upd (upd (upd (upd F 102 (nI op)) 111 (nI (((tp - 1) - 1) - 1))) 115 (nI wn)) 116 (-1)) 117 (nI fu)) 118 rs0) 119 uc0) 125 nw) 126 isn) 102 (nI op)) 111 (nI (((tp - 1) - 1) - 1))) 115 (nI wn)) 116 (-1)) 117 (nI fu)) 118 rs0) 119 uc0) 125 nw) 126 isn) B) _ := mW_to (F := F) (l1 := [(102, (nI op)), (111, (nI (((tp - 1) - 1) - 1))), (115, (nI wn)), (116, (-1)), (117, (nI fu)), (118, rs0), (119, uc0), (125, nw), (126, isn)]) (l2 := [(102, (nI op)), (111, (nI (((tp - 1) - 1) - 1))), (115, (nI wn)), (116, (-1)), (117, (nI fu)), (118, rs0), (119, uc0), (125, nw), (126, isn), (102, (nI op)), (111, (nI (((tp - 1) - 1) - 1))), (115, (nI wn)), (116, (-1)), (117, (nI fu)), (118, rs0), (119, uc0), (125, nw), (126, isn)]) (V := [(nI op), (nI (((tp - 1) - 1) - 1)), (nI wn), (-1), (nI fu), rs0, uc0, nw, isn, (nI op), (nI (((tp - 1) - 1) - 1)), (nI wn), (-1), (nI fu), rs0, uc0, nw, isn, (nI op), (nI (((tp - 1) - 1) - 1)), (nI wn), (-1), (nI fu), rs0, uc0, nw, isn]) rfl rfl rfl hP
      have hD : va_D A (mW G h0 a (upd (upd (upd (upd (upd (upd (upd (upd (upd (upd (upd (upd (upd (upd (upd (upd (upd (upd F 102 (nI op)) 111 (nI (((tp - 1) - 1) - 1))) 115 (nI wn)) 116 (-1)) 117 (nI fu)) 118 rs0) 119 uc0) 125 nw) 126 isn) 102 (nI op)) 111 (nI (((tp - 1) - 1) - 1))) 115 (nI wn)) 116 (-1)) 117 (nI fu)) 118 rs0) 119 uc0) 125 nw) 126 isn) B) := mW_D hD
      refine pc_V0 (G := G) (As := [.int (nI p9), .int (nI 4001)]) (rest := []) hx hb hml hown hq hE hX pX0_al hP hD hS hA hl.1 (R_raises l G h0 a (upd (upd (upd (upd (upd (upd (upd (upd (upd F 102 (nI op)) 111 (nI (((tp - 1) - 1) - 1))) 115 (nI wn)) 116 (-1)) 117 (nI fu)) 118 rs0) 119 uc0) 125 nw) 126 isn) B Xs gh nd T nm wr lz dc fd md pr bk M rmm (Phi gh ps op (rkN gh n9 true)) op wn fu rd on idn fl ct p9 4001 (4001 - 4000) mt ps (yyU yy (op - 1) u) bf wf (nI (((tp - 1) - 1) - 1)) nw isn rs0 uc0 hln138 (by omega) (by omega) (Or.inr (by omega)) (clF_1 (by omega)) (by omega)) (gV pw_2054 pw_2055 pw_2056 pw_1523 pw_2053) hV_X12_raises 0 9 rfl rfl rfl rfl (Nat.le_of_ble_eq_true rfl) dX12_sets_87 ⟨Nat.le_of_ble_eq_true rfl, Nat.le_of_ble_eq_true rfl⟩ ⟨Nat.le_of_ble_eq_true rfl, Nat.le_of_ble_eq_true rfl⟩ (fun v141 u139 H locs hw140 hP hD hS => ?_)
      obtain ⟨op142, tp143, wn144, fu145, en146, nw147, is148, rs149, uc150, X151⟩ := u139
      obtain ⟨hw140, h152⟩ := hw140
      replace h152 : Nx Xs X151 gh nd T nm wr lz dc fd md pr bk M rmm fu (Phi gh ps op (rkN gh n9 true)) op142 tp143 wn144 fu145 rd on idn fl ct en146 nw147 is148 uc150 := h152
      obtain rfl : v141 = none := hw140
      have hP : va_P G.1 pCl (mW G h0 a (upd (upd (upd (upd (upd (upd (upd (upd (upd F 102 (nI op142)) 111 (nI tp143)) 115 (nI wn144)) 116 en146) 117 (nI fu145)) 118 rs149) 119 uc150) 125 nw147) 126 is148) X151) _ := mW_to (F := F) (l1 := [(102, (nI op)), (111, (nI (((tp - 1) - 1) - 1))), (115, (nI wn)), (116, (-1)), (117, (nI fu)), (118, rs0), (119, uc0), (125, nw), (126, isn), (102, (nI op142)), (111, (nI tp143)), (115, (nI wn144)), (116, en146), (117, (nI fu145)), (118, rs149), (119, uc150), (125, nw147), (126, is148)]) (l2 := [(102, (nI op142)), (111, (nI tp143)), (115, (nI wn144)), (116, en146), (117, (nI fu145)), (118, rs149), (119, uc150), (125, nw147), (126, is148)]) (V := [(nI op142), (nI tp143), (nI wn144), en146, (nI fu145), rs149, uc150, nw147, is148, (nI op142), (nI tp143), (nI wn144), en146, (nI fu145), rs149, uc150, nw147, is148, (nI op142), (nI tp143), (nI wn144), en146, (nI fu145), rs149, uc150, nw147, is148]) rfl rfl rfl hP
      have hD : va_D A (mW G h0 a (upd (upd (upd (upd (upd (upd (upd (upd (upd F 102 (nI op142)) 111 (nI tp143)) 115 (nI wn144)) 116 en146) 117 (nI fu145)) 118 rs149) 119 uc150) 125 nw147) 126 is148) X151) := mW_D hD
      refine W.widen (k := 0) (n := 0) (Nat.le_of_ble_eq_true rfl) (Nat.le_of_ble_eq_true rfl) ?_
      refine W.eq (g2 := F0 m 90 ls []) rfl ?_
      refine lv_goto (tgt := 194) hx hb dX12_sets_90 (by decide) ?_
      have hz153 : Nx Xs X151 gh nd T nm wr lz dc fd md pr bk M rmm fu (Phi gh ps op (rkN gh n9 true)) op142 tp143 wn144 fu145 rd on idn fl ct en146 nw147 is148 uc150 := h152
      have hP : va_P G.1 pCl (mW G h0 a (upd (upd (upd (upd (upd (upd (upd (upd (upd F 102 (nI op142)) 111 (nI tp143)) 115 (nI wn144)) 116 en146) 117 (nI fu145)) 118 rs149) 119 uc150) 125 nw147) 126 is148) X151) _ := hP
      have hD : va_D A (mW G h0 a (upd (upd (upd (upd (upd (upd (upd (upd (upd F 102 (nI op142)) 111 (nI tp143)) 115 (nI wn144)) 116 en146) 117 (nI fu145)) 118 rs149) 119 uc150) 125 nw147) 126 is148) X151) := mW_D hD
      exact W.vret hx hb hr (fun t9 ht9 hW9 => ⟨⟨_, (op142, tp143, wn144, fu145, en146, nw147, is148, rs149, uc150, X151), rfl, ⟨rfl, hz153⟩, by rw [ht9]; exact hP, hD⟩, hS.F ht9⟩) hS.2.2 dX12_sets_194
    · have hv13 : so9 < 3 ∨ 3 ≤ ta := by rcases Nat.lt_or_ge so9 3 with z | z; exact Or.inl z; exact Or.inr (hv11 z)
      clear hv11
      refine lv_topi (fun x154 e155 => ?_)
      obtain rfl : x154 = nI (o9 + 1) := e155.trans hv1
      refine lv_istore (lv' := [(5, .int (nI (o9 + 1))), (4, .int ((B 68) ((tp - 1) - 1))), (3, .int ((B 68) (tp - 1))), (2, .int (nI a9)), (0, .ref h0), (1, .int (nI p9))]) hx hb dX12_sets_75 hl (by decide) rfl (fun ls hl => ?_)
      refine lv_iload hx hb dX12_sets_77 (lv_at hl 0 rfl) ?_
      refine lv_if_ne (tgt := 93) hx hb dX12_sets_79 (by decide) (fun c156 => ?_) (fun c156 => (by have n157 : (o9 + 1) = 0 := (nI_eq (a := (o9 + 1)) (b := 0) (by omega) (by omega)).mp c156; omega))
      refine lv_iload hx hb dX12_sets_93 (lv_at hl 1 rfl) ?_
      refine lv_if_lt (tgt := 112) hx hb dX12_sets_95 (by decide) (fun c158 => ?_) (fun c158 => ?_)
      · refine lv_aload_n hx hb dX12_sets_112 rfl (lv_at hl 4 rfl) ?_
        refine lv_iload_n hx hb dX12_sets_113 rfl (lv_at hl 5 rfl) ?_
        refine lv_sipush (v := 4004) hx hb dX12_sets_114 (by decide) ?_
        have hln159 := (Rn.lnP hR hp hst hkd (by omega) (by omega)).1
        have hP : va_P G.1 pCl (mW G h0 a (upd (upd (upd (upd (upd (upd (upd (upd (upd (upd (upd (upd (upd (upd (upd (upd (upd (upd F 102 (nI op)) 111 (nI (((tp - 1) - 1) - 1))) 115 (nI wn)) 116 (-1)) 117 (nI fu)) 118 rs0) 119 uc0) 125 nw) 126 isn) 102 (nI op)) 111 (nI (((tp - 1) - 1) - 1))) 115 (nI wn)) 116 (-1)) 117 (nI fu)) 118 rs0) 119 uc0) 125 nw) 126 isn) B) _ := mW_to (F := F) (l1 := [(102, (nI op)), (111, (nI (((tp - 1) - 1) - 1))), (115, (nI wn)), (116, (-1)), (117, (nI fu)), (118, rs0), (119, uc0), (125, nw), (126, isn)]) (l2 := [(102, (nI op)), (111, (nI (((tp - 1) - 1) - 1))), (115, (nI wn)), (116, (-1)), (117, (nI fu)), (118, rs0), (119, uc0), (125, nw), (126, isn), (102, (nI op)), (111, (nI (((tp - 1) - 1) - 1))), (115, (nI wn)), (116, (-1)), (117, (nI fu)), (118, rs0), (119, uc0), (125, nw), (126, isn)]) (V := [(nI op), (nI (((tp - 1) - 1) - 1)), (nI wn), (-1), (nI fu), rs0, uc0, nw, isn, (nI op), (nI (((tp - 1) - 1) - 1)), (nI wn), (-1), (nI fu), rs0, uc0, nw, isn, (nI op), (nI (((tp - 1) - 1) - 1)), (nI wn), (-1), (nI fu), rs0, uc0, nw, isn]) rfl rfl rfl hP
        have hD : va_D A (mW G h0 a (upd (upd (upd (upd (upd (upd (upd (upd (upd (upd (upd (upd (upd (upd (upd (upd (upd (upd F 102 (nI op)) 111 (nI (((tp - 1) - 1) - 1))) 115 (nI wn)) 116 (-1)) 117 (nI fu)) 118 rs0) 119 uc0) 125 nw) 126 isn) 102 (nI op)) 111 (nI (((tp - 1) - 1) - 1))) 115 (nI wn)) 116 (-1)) 117 (nI fu)) 118 rs0) 119 uc0) 125 nw) 126 isn) B) := mW_D hD
        refine pc_V0 (G := G) (As := [.int (nI p9), .int (nI 4004)]) (rest := []) hx hb hml hown hq hE hX pX0_al hP hD hS hA hl.1 (R_raises l G h0 a (upd (upd (upd (upd (upd (upd (upd (upd (upd F 102 (nI op)) 111 (nI (((tp - 1) - 1) - 1))) 115 (nI wn)) 116 (-1)) 117 (nI fu)) 118 rs0) 119 uc0) 125 nw) 126 isn) B Xs gh nd T nm wr lz dc fd md pr bk M rmm (Phi gh ps op (rkN gh n9 true)) op wn fu rd on idn fl ct p9 4004 (4004 - 4000) mt ps (yyU yy (op - 1) u) bf wf (nI (((tp - 1) - 1) - 1)) nw isn rs0 uc0 hln159 (by omega) (by omega) (Or.inr (by omega)) (clF_1 (by omega)) (by omega)) (gV pw_2054 pw_2055 pw_2056 pw_1523 pw_2053) hV_X12_raises 0 9 rfl rfl rfl rfl (Nat.le_of_ble_eq_true rfl) dX12_sets_117 ⟨Nat.le_of_ble_eq_true rfl, Nat.le_of_ble_eq_true rfl⟩ ⟨Nat.le_of_ble_eq_true rfl, Nat.le_of_ble_eq_true rfl⟩ (fun v162 u160 H locs hw161 hP hD hS => ?_)
        obtain ⟨op163, tp164, wn165, fu166, en167, nw168, is169, rs170, uc171, X172⟩ := u160
        obtain ⟨hw161, h173⟩ := hw161
        replace h173 : Nx Xs X172 gh nd T nm wr lz dc fd md pr bk M rmm fu (Phi gh ps op (rkN gh n9 true)) op163 tp164 wn165 fu166 rd on idn fl ct en167 nw168 is169 uc171 := h173
        obtain rfl : v162 = none := hw161
        have hP : va_P G.1 pCl (mW G h0 a (upd (upd (upd (upd (upd (upd (upd (upd (upd F 102 (nI op163)) 111 (nI tp164)) 115 (nI wn165)) 116 en167) 117 (nI fu166)) 118 rs170) 119 uc171) 125 nw168) 126 is169) X172) _ := mW_to (F := F) (l1 := [(102, (nI op)), (111, (nI (((tp - 1) - 1) - 1))), (115, (nI wn)), (116, (-1)), (117, (nI fu)), (118, rs0), (119, uc0), (125, nw), (126, isn), (102, (nI op163)), (111, (nI tp164)), (115, (nI wn165)), (116, en167), (117, (nI fu166)), (118, rs170), (119, uc171), (125, nw168), (126, is169)]) (l2 := [(102, (nI op163)), (111, (nI tp164)), (115, (nI wn165)), (116, en167), (117, (nI fu166)), (118, rs170), (119, uc171), (125, nw168), (126, is169)]) (V := [(nI op163), (nI tp164), (nI wn165), en167, (nI fu166), rs170, uc171, nw168, is169, (nI op163), (nI tp164), (nI wn165), en167, (nI fu166), rs170, uc171, nw168, is169, (nI op163), (nI tp164), (nI wn165), en167, (nI fu166), rs170, uc171, nw168, is169]) rfl rfl rfl hP
        have hD : va_D A (mW G h0 a (upd (upd (upd (upd (upd (upd (upd (upd (upd F 102 (nI op163)) 111 (nI tp164)) 115 (nI wn165)) 116 en167) 117 (nI fu166)) 118 rs170) 119 uc171) 125 nw168) 126 is169) X172) := mW_D hD
        refine W.widen (k := 0) (n := 0) (Nat.le_of_ble_eq_true rfl) (Nat.le_of_ble_eq_true rfl) ?_
        refine W.eq (g2 := F0 m 120 ls []) rfl ?_
        refine lv_goto (tgt := 194) hx hb dX12_sets_120 (by decide) ?_
        have hz174 : Nx Xs X172 gh nd T nm wr lz dc fd md pr bk M rmm fu (Phi gh ps op (rkN gh n9 true)) op163 tp164 wn165 fu166 rd on idn fl ct en167 nw168 is169 uc171 := h173
        have hP : va_P G.1 pCl (mW G h0 a (upd (upd (upd (upd (upd (upd (upd (upd (upd F 102 (nI op163)) 111 (nI tp164)) 115 (nI wn165)) 116 en167) 117 (nI fu166)) 118 rs170) 119 uc171) 125 nw168) 126 is169) X172) _ := hP
        have hD : va_D A (mW G h0 a (upd (upd (upd (upd (upd (upd (upd (upd (upd F 102 (nI op163)) 111 (nI tp164)) 115 (nI wn165)) 116 en167) 117 (nI fu166)) 118 rs170) 119 uc171) 125 nw168) 126 is169) X172) := mW_D hD
        exact W.vret hx hb hr (fun t9 ht9 hW9 => ⟨⟨_, (op163, tp164, wn165, fu166, en167, nw168, is169, rs170, uc171, X172), rfl, ⟨rfl, hz174⟩, by rw [ht9]; exact hP, hD⟩, hS.F ht9⟩) hS.2.2 dX12_sets_194
      · obtain ⟨k175, e176, h177⟩ := nI_nn2 c158
        rw [e176] at hl
        have hl : lv_has ls 7 [(5, .int (nI (o9 + 1))), (4, .int (nI k175)), (3, .int ((B 68) (tp - 1))), (2, .int (nI a9)), (0, .ref h0), (1, .int (nI p9))] := hl
        refine lv_iload hx hb dX12_sets_98 (lv_at hl 1 rfl) ?_
        refine lv_aload_n hx hb dX12_sets_100 rfl (lv_at hl 4 rfl) ?_
        refine r_get (v := .ref (a 57)) hx hb hown hq hE hP 93 184 tFX12_93 (by decide) pw_1489 rfl dX12_sets_101 ?_
        refine lv_iload hx hb dX12_sets_104 (lv_at hl 0 rfl) ?_
        refine lv_iconst (v := 1) hx hb dX12_sets_106 (by decide) ?_
        refine lv_isub hx hb dX12_sets_107 ?_
        refine lv_topi (fun x178 e179 => ?_)
        obtain rfl : x178 = nI ((o9 + 1) - 1) := e179.trans (nI_subN (a := 1) (b := (o9 + 1)) (by omega))
        refine r_ldi (f := (B 57)) (j := ((o9 + 1) - 1)) hx hb hE hP 57 (ma_57 G a _) rfl (by omega) (by decide) dX12_sets_108 ?_
        refine lv_topi (fun x180 e181 => ?_)
        obtain rfl : x180 = nI q9 := e181.trans (by rw [show ((o9 + 1) - 1) = o9 by omega]; exact hv3)
        refine lv_icmp_lt (tgt := 123) hx hb dX12_sets_109 (by decide) (fun c182 => ?_) (fun c182 => ?_)
        · have n183 : k175 < q9 := (nI_ltI (a := k175) (b := q9) (by omega) (by omega)).mp c182
          refine lv_aload_n hx hb dX12_sets_123 rfl (lv_at hl 4 rfl) ?_
          refine lv_aload_n hx hb dX12_sets_124 rfl (lv_at hl 4 rfl) ?_
          refine r_get (v := .ref (a 56)) hx hb hown hq hE hP 92 181 tFX12_92 (by decide) pw_1488 rfl dX12_sets_125 ?_
          refine lv_iload hx hb dX12_sets_128 (lv_at hl 0 rfl) ?_
          refine lv_iconst (v := 1) hx hb dX12_sets_130 (by decide) ?_
          refine lv_isub hx hb dX12_sets_131 ?_
          refine lv_topi (fun x184 e185 => ?_)
          obtain rfl : x184 = nI ((o9 + 1) - 1) := e185.trans (nI_subN (a := 1) (b := (o9 + 1)) (by omega))
          refine r_ldi (f := (B 56)) (j := ((o9 + 1) - 1)) hx hb hE hP 56 (ma_56 G a _) rfl (by omega) (by decide) dX12_sets_132 ?_
          refine lv_topi (fun x186 e187 => ?_)
          obtain rfl : x186 = nI so9 := e187.trans (by rw [show ((o9 + 1) - 1) = o9 by omega]; exact hv7)
          have hP : va_P G.1 pCl (mW G h0 a (upd (upd (upd (upd (upd (upd (upd (upd (upd F 102 (nI op)) 111 (nI (((tp - 1) - 1) - 1))) 115 (nI wn)) 116 (-1)) 117 (nI fu)) 118 rs0) 119 uc0) 125 nw) 126 isn) B) _ := hP
          have hD : va_D A (mW G h0 a (upd (upd (upd (upd (upd (upd (upd (upd (upd F 102 (nI op)) 111 (nI (((tp - 1) - 1) - 1))) 115 (nI wn)) 116 (-1)) 117 (nI fu)) 118 rs0) 119 uc0) 125 nw) 126 isn) B) := mW_D hD
          refine pc_V0 (G := G) (As := [.int (nI so9)]) (rest := []) hx hb hml hown hq hE hX pX0_al hP hD hS hA hl.1 (R_isReference l G h0 a (upd (upd (upd (upd (upd (upd (upd (upd (upd F 102 (nI op)) 111 (nI (((tp - 1) - 1) - 1))) 115 (nI wn)) 116 (-1)) 117 (nI fu)) 118 rs0) 119 uc0) 125 nw) 126 isn) B so9 (by omega)) (gV pw_1783 pw_1784 pw_1785 pw_1523 pw_1779) hV_X12_isReference 0 9 rfl rfl rfl rfl (Nat.le_of_ble_eq_true rfl) dX12_sets_133 ⟨Nat.le_of_ble_eq_true rfl, Nat.le_of_ble_eq_true rfl⟩ ⟨Nat.le_of_ble_eq_true rfl, Nat.le_of_ble_eq_true rfl⟩ (fun v190 u188 H locs hw189 hP hD hS => ?_)
          obtain ⟨r191, rfl⟩ : ∃ z, z = u188 := ⟨_, rfl⟩
          obtain ⟨hw189, h192, h193, h194⟩ := hw189
          replace h192 : r191 ≤ 1 := h192
          replace h193 : 3 * r191 ≤ so9 := h193
          replace h194 : so9 ≤ 2 + 9000 * r191 := h194
          obtain rfl : v190 = some (.int (nI r191)) := hw189
          have hP : va_P G.1 pCl (mW G h0 a (upd (upd (upd (upd (upd (upd (upd (upd (upd F 102 (nI op)) 111 (nI (((tp - 1) - 1) - 1))) 115 (nI wn)) 116 (-1)) 117 (nI fu)) 118 rs0) 119 uc0) 125 nw) 126 isn) B) _ := hP
          have hD : va_D A (mW G h0 a (upd (upd (upd (upd (upd (upd (upd (upd (upd F 102 (nI op)) 111 (nI (((tp - 1) - 1) - 1))) 115 (nI wn)) 116 (-1)) 117 (nI fu)) 118 rs0) 119 uc0) 125 nw) 126 isn) B) := mW_D hD
          refine W.widen (k := 0) (n := 0) (Nat.le_of_ble_eq_true rfl) (Nat.le_of_ble_eq_true rfl) ?_
          refine W.eq (g2 := F0 m 136 ls [.int (nI r191)]) rfl ?_
          refine lv_if_eq (tgt := 171) hx hb dX12_sets_136 (by decide) (fun c195 => ?_) (fun c195 => ?_)
          · have n196 : r191 = 0 := (nI_eq (a := r191) (b := 0) (by omega) (by omega)).mp c195
            refine lv_aload_n hx hb dX12_sets_171 rfl (lv_at hl 4 rfl) ?_
            refine r_get (v := .ref (a 60)) hx hb hown hq hE hP 96 193 tFX12_96 (by decide) pw_1492 rfl dX12_sets_172 ?_
            refine lv_aload_n hx hb dX12_sets_175 rfl (lv_at hl 4 rfl) ?_
            refine r_get (v := .ref (a 58)) hx hb hown hq hE hP 94 187 tFX12_94 (by decide) pw_1490 rfl dX12_sets_176 ?_
            refine lv_iload hx hb dX12_sets_179 (lv_at hl 0 rfl) ?_
            refine lv_iconst (v := 1) hx hb dX12_sets_181 (by decide) ?_
            refine lv_isub hx hb dX12_sets_182 ?_
            refine lv_topi (fun x197 e198 => ?_)
            obtain rfl : x197 = nI ((o9 + 1) - 1) := e198.trans (nI_subN (a := 1) (b := (o9 + 1)) (by omega))
            refine r_ldi (f := (B 58)) (j := ((o9 + 1) - 1)) hx hb hE hP 58 (ma_58 G a _) rfl (by omega) (by decide) dX12_sets_183 ?_
            refine lv_topi (fun x199 e200 => ?_)
            obtain rfl : x199 = nI a8 := e200.trans (by rw [show ((o9 + 1) - 1) = o9 by omega]; exact hs6)
            refine lv_iload hx hb dX12_sets_184 (lv_at hl 1 rfl) ?_
            refine lv_iadd hx hb dX12_sets_186 ?_
            refine lv_topi (fun x201 e202 => ?_)
            obtain rfl : x201 = nI (a8 + k175) := e202.trans (nI_add (a8) (k175))
            refine lv_iload_n hx hb dX12_sets_187 rfl (lv_at hl 2 rfl) ?_
            refine r_sti (f := (B 60)) (j := (a8 + k175)) hx hb hE hP hD hS 60 (ma_60 G a _) rfl (mas_60 G a _) (by omega) (by decide) dX12_sets_188 (fun H locs hP hD hS => ?_)
            refine lv_aload_n hx hb dX12_sets_189 rfl (lv_at hl 4 rfl) ?_
            refine lv_iload_n hx hb dX12_sets_190 rfl (lv_at hl 5 rfl) ?_
            have hP : va_P G.1 pCl (mW G h0 a (upd (upd (upd (upd (upd (upd (upd (upd (upd F 102 (nI op)) 111 (nI (((tp - 1) - 1) - 1))) 115 (nI wn)) 116 (-1)) 117 (nI fu)) 118 rs0) 119 uc0) 125 nw) 126 isn) (updA B 60 (upd (B 60) (a8 + k175) ((B 68) (tp - 1))))) _ := hP
            have hD : va_D A (mW G h0 a (upd (upd (upd (upd (upd (upd (upd (upd (upd F 102 (nI op)) 111 (nI (((tp - 1) - 1) - 1))) 115 (nI wn)) 116 (-1)) 117 (nI fu)) 118 rs0) 119 uc0) 125 nw) 126 isn) (updA B 60 (upd (B 60) (a8 + k175) ((B 68) (tp - 1))))) := mW_D hD
            refine pc_V0 (G := G) (As := [.int (nI p9)]) (rest := []) hx hb hml hown hq hE hX pX0_al hP hD hS hA hl.1 (R_comesToEnd l G h0 a (upd (upd (upd (upd (upd (upd (upd (upd (upd F 102 (nI op)) 111 (nI (((tp - 1) - 1) - 1))) 115 (nI wn)) 116 (-1)) 117 (nI fu)) 118 rs0) 119 uc0) 125 nw) 126 isn) (updA B 60 (upd (B 60) (a8 + k175) ((B 68) (tp - 1)))) (nI p9)) (gV pw_2010 pw_2011 pw_2012 pw_1523 pw_2005) hV_X12_comesToEnd 0 9 rfl rfl rfl rfl (Nat.le_of_ble_eq_true rfl) dX12_sets_191 ⟨Nat.le_of_ble_eq_true rfl, Nat.le_of_ble_eq_true rfl⟩ ⟨Nat.le_of_ble_eq_true rfl, Nat.le_of_ble_eq_true rfl⟩ (fun v205 u203 H locs hw204 hP hD hS => ?_)
            obtain rfl : v205 = none := hw204
            have hP : va_P G.1 pCl (mW G h0 a (upd (upd (upd (upd (upd (upd (upd (upd (upd F 102 (nI op)) 111 (nI (((tp - 1) - 1) - 1))) 115 (nI wn)) 116 (-1)) 117 (nI fu)) 118 rs0) 119 uc0) 125 (nI p9)) 126 0) (updA B 60 (upd (B 60) (a8 + k175) ((B 68) (tp - 1))))) _ := mW_to (F := F) (l1 := [(102, (nI op)), (111, (nI (((tp - 1) - 1) - 1))), (115, (nI wn)), (116, (-1)), (117, (nI fu)), (118, rs0), (119, uc0), (125, nw), (126, isn), (125, (nI p9)), (126, 0)]) (l2 := [(102, (nI op)), (111, (nI (((tp - 1) - 1) - 1))), (115, (nI wn)), (116, (-1)), (117, (nI fu)), (118, rs0), (119, uc0), (125, (nI p9)), (126, 0)]) (V := [(nI op), (nI (((tp - 1) - 1) - 1)), (nI wn), (-1), (nI fu), rs0, uc0, (nI p9), 0, (nI p9), 0, (nI op), (nI (((tp - 1) - 1) - 1)), (nI wn), (-1), (nI fu), rs0, uc0, (nI p9), 0]) rfl rfl rfl hP
            have hD : va_D A (mW G h0 a (upd (upd (upd (upd (upd (upd (upd (upd (upd F 102 (nI op)) 111 (nI (((tp - 1) - 1) - 1))) 115 (nI wn)) 116 (-1)) 117 (nI fu)) 118 rs0) 119 uc0) 125 (nI p9)) 126 0) (updA B 60 (upd (B 60) (a8 + k175) ((B 68) (tp - 1))))) := mW_D hD
            refine W.widen (k := 0) (n := 0) (Nat.le_of_ble_eq_true rfl) (Nat.le_of_ble_eq_true rfl) ?_
            refine W.eq (g2 := F0 m 194 ls []) rfl ?_
            have hz206 : Nx Xs (updA B 60 (upd (B 60) (a8 + k175) ((B 68) (tp - 1)))) gh nd T nm wr lz dc fd md pr bk M rmm fu (Phi gh ps op (rkN gh n9 true)) op (((tp - 1) - 1) - 1) wn fu rd on idn fl ct ((-1) : Int32) (nI p9) (0 : Int32) uc0 := (hv12 k175 (by omega) (VTd.num (by omega)))
            have hP : va_P G.1 pCl (mW G h0 a (upd (upd (upd (upd (upd (upd (upd (upd (upd F 102 (nI op)) 111 (nI (((tp - 1) - 1) - 1))) 115 (nI wn)) 116 ((-1) : Int32)) 117 (nI fu)) 118 rs0) 119 uc0) 125 (nI p9)) 126 (0 : Int32)) (updA B 60 (upd (B 60) (a8 + k175) ((B 68) (tp - 1))))) _ := mW_to (F := F) (l1 := [(102, (nI op)), (111, (nI (((tp - 1) - 1) - 1))), (115, (nI wn)), (116, (-1)), (117, (nI fu)), (118, rs0), (119, uc0), (125, (nI p9)), (126, 0)]) (l2 := [(102, (nI op)), (111, (nI (((tp - 1) - 1) - 1))), (115, (nI wn)), (116, ((-1) : Int32)), (117, (nI fu)), (118, rs0), (119, uc0), (125, (nI p9)), (126, (0 : Int32))]) (V := [(nI op), (nI (((tp - 1) - 1) - 1)), (nI wn), ((-1) : Int32), (nI fu), rs0, uc0, (nI p9), (0 : Int32), (nI op), (nI (((tp - 1) - 1) - 1)), (nI wn), ((-1) : Int32), (nI fu), rs0, uc0, (nI p9), (0 : Int32)]) rfl rfl rfl hP
            have hD : va_D A (mW G h0 a (upd (upd (upd (upd (upd (upd (upd (upd (upd F 102 (nI op)) 111 (nI (((tp - 1) - 1) - 1))) 115 (nI wn)) 116 ((-1) : Int32)) 117 (nI fu)) 118 rs0) 119 uc0) 125 (nI p9)) 126 (0 : Int32)) (updA B 60 (upd (B 60) (a8 + k175) ((B 68) (tp - 1))))) := mW_D hD
            exact W.vret hx hb hr (fun t9 ht9 hW9 => ⟨⟨_, (op, (((tp - 1) - 1) - 1), wn, fu, ((-1) : Int32), (nI p9), (0 : Int32), rs0, uc0, (updA B 60 (upd (B 60) (a8 + k175) ((B 68) (tp - 1))))), rfl, ⟨rfl, hz206⟩, by rw [ht9]; exact hP, hD⟩, hS.F ht9⟩) hS.2.2 dX12_sets_194
          · have n207 : ¬ (r191 = 0) := fun h9 => c195 ((nI_eq (a := r191) (b := 0) (by omega) (by omega)).mpr h9)
            refine lv_iload_n hx hb dX12_sets_139 rfl (lv_at hl 2 rfl) ?_
            refine lv_if_eq (tgt := 171) hx hb dX12_sets_140 (by decide) (fun c208 => ?_) (fun c208 => ?_)
            · refine lv_aload_n hx hb dX12_sets_171 rfl (lv_at hl 4 rfl) ?_
              refine r_get (v := .ref (a 60)) hx hb hown hq hE hP 96 193 tFX12_96 (by decide) pw_1492 rfl dX12_sets_172 ?_
              refine lv_aload_n hx hb dX12_sets_175 rfl (lv_at hl 4 rfl) ?_
              refine r_get (v := .ref (a 58)) hx hb hown hq hE hP 94 187 tFX12_94 (by decide) pw_1490 rfl dX12_sets_176 ?_
              refine lv_iload hx hb dX12_sets_179 (lv_at hl 0 rfl) ?_
              refine lv_iconst (v := 1) hx hb dX12_sets_181 (by decide) ?_
              refine lv_isub hx hb dX12_sets_182 ?_
              refine lv_topi (fun x209 e210 => ?_)
              obtain rfl : x209 = nI ((o9 + 1) - 1) := e210.trans (nI_subN (a := 1) (b := (o9 + 1)) (by omega))
              refine r_ldi (f := (B 58)) (j := ((o9 + 1) - 1)) hx hb hE hP 58 (ma_58 G a _) rfl (by omega) (by decide) dX12_sets_183 ?_
              refine lv_topi (fun x211 e212 => ?_)
              obtain rfl : x211 = nI a8 := e212.trans (by rw [show ((o9 + 1) - 1) = o9 by omega]; exact hs6)
              refine lv_iload hx hb dX12_sets_184 (lv_at hl 1 rfl) ?_
              refine lv_iadd hx hb dX12_sets_186 ?_
              refine lv_topi (fun x213 e214 => ?_)
              obtain rfl : x213 = nI (a8 + k175) := e214.trans (nI_add (a8) (k175))
              refine lv_iload_n hx hb dX12_sets_187 rfl (lv_at hl 2 rfl) ?_
              refine r_sti (f := (B 60)) (j := (a8 + k175)) hx hb hE hP hD hS 60 (ma_60 G a _) rfl (mas_60 G a _) (by omega) (by decide) dX12_sets_188 (fun H locs hP hD hS => ?_)
              refine lv_aload_n hx hb dX12_sets_189 rfl (lv_at hl 4 rfl) ?_
              refine lv_iload_n hx hb dX12_sets_190 rfl (lv_at hl 5 rfl) ?_
              have hP : va_P G.1 pCl (mW G h0 a (upd (upd (upd (upd (upd (upd (upd (upd (upd F 102 (nI op)) 111 (nI (((tp - 1) - 1) - 1))) 115 (nI wn)) 116 (-1)) 117 (nI fu)) 118 rs0) 119 uc0) 125 nw) 126 isn) (updA B 60 (upd (B 60) (a8 + k175) ((B 68) (tp - 1))))) _ := hP
              have hD : va_D A (mW G h0 a (upd (upd (upd (upd (upd (upd (upd (upd (upd F 102 (nI op)) 111 (nI (((tp - 1) - 1) - 1))) 115 (nI wn)) 116 (-1)) 117 (nI fu)) 118 rs0) 119 uc0) 125 nw) 126 isn) (updA B 60 (upd (B 60) (a8 + k175) ((B 68) (tp - 1))))) := mW_D hD
              refine pc_V0 (G := G) (As := [.int (nI p9)]) (rest := []) hx hb hml hown hq hE hX pX0_al hP hD hS hA hl.1 (R_comesToEnd l G h0 a (upd (upd (upd (upd (upd (upd (upd (upd (upd F 102 (nI op)) 111 (nI (((tp - 1) - 1) - 1))) 115 (nI wn)) 116 (-1)) 117 (nI fu)) 118 rs0) 119 uc0) 125 nw) 126 isn) (updA B 60 (upd (B 60) (a8 + k175) ((B 68) (tp - 1)))) (nI p9)) (gV pw_2010 pw_2011 pw_2012 pw_1523 pw_2005) hV_X12_comesToEnd 0 9 rfl rfl rfl rfl (Nat.le_of_ble_eq_true rfl) dX12_sets_191 ⟨Nat.le_of_ble_eq_true rfl, Nat.le_of_ble_eq_true rfl⟩ ⟨Nat.le_of_ble_eq_true rfl, Nat.le_of_ble_eq_true rfl⟩ (fun v217 u215 H locs hw216 hP hD hS => ?_)
              obtain rfl : v217 = none := hw216
              have hP : va_P G.1 pCl (mW G h0 a (upd (upd (upd (upd (upd (upd (upd (upd (upd F 102 (nI op)) 111 (nI (((tp - 1) - 1) - 1))) 115 (nI wn)) 116 (-1)) 117 (nI fu)) 118 rs0) 119 uc0) 125 (nI p9)) 126 0) (updA B 60 (upd (B 60) (a8 + k175) ((B 68) (tp - 1))))) _ := mW_to (F := F) (l1 := [(102, (nI op)), (111, (nI (((tp - 1) - 1) - 1))), (115, (nI wn)), (116, (-1)), (117, (nI fu)), (118, rs0), (119, uc0), (125, nw), (126, isn), (125, (nI p9)), (126, 0)]) (l2 := [(102, (nI op)), (111, (nI (((tp - 1) - 1) - 1))), (115, (nI wn)), (116, (-1)), (117, (nI fu)), (118, rs0), (119, uc0), (125, (nI p9)), (126, 0)]) (V := [(nI op), (nI (((tp - 1) - 1) - 1)), (nI wn), (-1), (nI fu), rs0, uc0, (nI p9), 0, (nI p9), 0, (nI op), (nI (((tp - 1) - 1) - 1)), (nI wn), (-1), (nI fu), rs0, uc0, (nI p9), 0]) rfl rfl rfl hP
              have hD : va_D A (mW G h0 a (upd (upd (upd (upd (upd (upd (upd (upd (upd F 102 (nI op)) 111 (nI (((tp - 1) - 1) - 1))) 115 (nI wn)) 116 (-1)) 117 (nI fu)) 118 rs0) 119 uc0) 125 (nI p9)) 126 0) (updA B 60 (upd (B 60) (a8 + k175) ((B 68) (tp - 1))))) := mW_D hD
              refine W.widen (k := 0) (n := 0) (Nat.le_of_ble_eq_true rfl) (Nat.le_of_ble_eq_true rfl) ?_
              refine W.eq (g2 := F0 m 194 ls []) rfl ?_
              have hz218 : Nx Xs (updA B 60 (upd (B 60) (a8 + k175) ((B 68) (tp - 1)))) gh nd T nm wr lz dc fd md pr bk M rmm fu (Phi gh ps op (rkN gh n9 true)) op (((tp - 1) - 1) - 1) wn fu rd on idn fl ct ((-1) : Int32) (nI p9) (0 : Int32) uc0 := (hv12 k175 (by omega) (by rw [c208]; exact VTd.zero))
              have hP : va_P G.1 pCl (mW G h0 a (upd (upd (upd (upd (upd (upd (upd (upd (upd F 102 (nI op)) 111 (nI (((tp - 1) - 1) - 1))) 115 (nI wn)) 116 ((-1) : Int32)) 117 (nI fu)) 118 rs0) 119 uc0) 125 (nI p9)) 126 (0 : Int32)) (updA B 60 (upd (B 60) (a8 + k175) ((B 68) (tp - 1))))) _ := mW_to (F := F) (l1 := [(102, (nI op)), (111, (nI (((tp - 1) - 1) - 1))), (115, (nI wn)), (116, (-1)), (117, (nI fu)), (118, rs0), (119, uc0), (125, (nI p9)), (126, 0)]) (l2 := [(102, (nI op)), (111, (nI (((tp - 1) - 1) - 1))), (115, (nI wn)), (116, ((-1) : Int32)), (117, (nI fu)), (118, rs0), (119, uc0), (125, (nI p9)), (126, (0 : Int32))]) (V := [(nI op), (nI (((tp - 1) - 1) - 1)), (nI wn), ((-1) : Int32), (nI fu), rs0, uc0, (nI p9), (0 : Int32), (nI op), (nI (((tp - 1) - 1) - 1)), (nI wn), ((-1) : Int32), (nI fu), rs0, uc0, (nI p9), (0 : Int32)]) rfl rfl rfl hP
              have hD : va_D A (mW G h0 a (upd (upd (upd (upd (upd (upd (upd (upd (upd F 102 (nI op)) 111 (nI (((tp - 1) - 1) - 1))) 115 (nI wn)) 116 ((-1) : Int32)) 117 (nI fu)) 118 rs0) 119 uc0) 125 (nI p9)) 126 (0 : Int32)) (updA B 60 (upd (B 60) (a8 + k175) ((B 68) (tp - 1))))) := mW_D hD
              exact W.vret hx hb hr (fun t9 ht9 hW9 => ⟨⟨_, (op, (((tp - 1) - 1) - 1), wn, fu, ((-1) : Int32), (nI p9), (0 : Int32), rs0, uc0, (updA B 60 (upd (B 60) (a8 + k175) ((B 68) (tp - 1))))), rfl, ⟨rfl, hz218⟩, by rw [ht9]; exact hP, hD⟩, hS.F ht9⟩) hS.2.2 dX12_sets_194
            · rcases Hp.ref hPg hR.hp hs1 (by omega) hs2 with hz | ⟨w9, k9, hy1, hy2, hy3, hy4, hy5, hy6, hy7⟩ | ⟨w9, so8, hy1, hy2, hy3, hy4, hy5, hy6, hy7, hy8⟩
              · exact absurd hz c208
              · rw [hy1] at hl
                have hl : lv_has ls 7 [(5, .int (nI (o9 + 1))), (4, .int (nI k175)), (3, .int (nI w9)), (2, .int (nI a9)), (0, .ref h0), (1, .int (nI p9))] := hl
                refine lv_aload_n hx hb dX12_sets_143 rfl (lv_at hl 4 rfl) ?_
                refine lv_iload_n hx hb dX12_sets_144 rfl (lv_at hl 2 rfl) ?_
                refine lv_aload_n hx hb dX12_sets_145 rfl (lv_at hl 4 rfl) ?_
                refine r_get (v := .ref (a 56)) hx hb hown hq hE hP 92 181 tFX12_92 (by decide) pw_1488 rfl dX12_sets_146 ?_
                refine lv_iload hx hb dX12_sets_149 (lv_at hl 0 rfl) ?_
                refine lv_iconst (v := 1) hx hb dX12_sets_151 (by decide) ?_
                refine lv_isub hx hb dX12_sets_152 ?_
                refine lv_topi (fun x219 e220 => ?_)
                obtain rfl : x219 = nI ((o9 + 1) - 1) := e220.trans (nI_subN (a := 1) (b := (o9 + 1)) (by omega))
                refine r_ldi (f := (B 56)) (j := ((o9 + 1) - 1)) hx hb hE hP 56 (ma_56 G a _) rfl (by omega) (by decide) dX12_sets_153 ?_
                refine lv_topi (fun x221 e222 => ?_)
                obtain rfl : x221 = nI so9 := e222.trans (by rw [show ((o9 + 1) - 1) = o9 by omega]; exact hv7)
                have hbi9 : ∀ i : Nat, i < 1600 → B 31 i = 0 ∨ B 31 i = 1 := by rw [hw31]; exact hPg.1.1.2.2.1
                have hso9 : 10 ≤ so9 ∧ so9 < 2000 := by unfold baR baN at hv8; omega
                have hP : va_P G.1 pCl (mW G h0 a (upd (upd (upd (upd (upd (upd (upd (upd (upd F 102 (nI op)) 111 (nI (((tp - 1) - 1) - 1))) 115 (nI wn)) 116 (-1)) 117 (nI fu)) 118 rs0) 119 uc0) 125 nw) 126 isn) (updA (updA (updA B 31 (B 31)) 55 (B 55)) 56 (B 56))) _ := mW_to (F := F) (l1 := [(102, (nI op)), (111, (nI (((tp - 1) - 1) - 1))), (115, (nI wn)), (116, (-1)), (117, (nI fu)), (118, rs0), (119, uc0), (125, nw), (126, isn)]) (l2 := [(102, (nI op)), (111, (nI (((tp - 1) - 1) - 1))), (115, (nI wn)), (116, (-1)), (117, (nI fu)), (118, rs0), (119, uc0), (125, nw), (126, isn)]) (V := [(nI op), (nI (((tp - 1) - 1) - 1)), (nI wn), (-1), (nI fu), rs0, uc0, nw, isn, (nI op), (nI (((tp - 1) - 1) - 1)), (nI wn), (-1), (nI fu), rs0, uc0, nw, isn]) rfl rfl (show B = (updA (updA (updA B 31 (B 31)) 55 (B 55)) 56 (B 56)) from updsA_eq2 (F := B) (l1 := []) (l2 := [(31, (B 31)), (55, (B 55)), (56, (B 56))]) (V := [(B 31), (B 55), (B 56)]) rfl rfl) hP
                have hD : va_D A (mW G h0 a (upd (upd (upd (upd (upd (upd (upd (upd (upd F 102 (nI op)) 111 (nI (((tp - 1) - 1) - 1))) 115 (nI wn)) 116 (-1)) 117 (nI fu)) 118 rs0) 119 uc0) 125 nw) 126 isn) (updA (updA (updA B 31 (B 31)) 55 (B 55)) 56 (B 56))) := mW_D hD
                refine pc_V0 (G := G) (As := [.int (nI w9), .int (nI so9)]) (rest := []) hx hb hml hown hq hE hX pX0_al hP hD hS hA hl.1 (R_isOfC l G h0 a (upd (upd (upd (upd (upd (upd (upd (upd (upd F 102 (nI op)) 111 (nI (((tp - 1) - 1) - 1))) 115 (nI wn)) 116 (-1)) 117 (nI fu)) 118 rs0) 119 uc0) 125 nw) 126 isn) B w9 so9 dc k9 (B 55) (B 56) (B 31) ⟨hy2, hy3⟩ hv10 (by omega) (by omega) hbi9 hy5 hy6) (gV pw_2108 pw_2109 pw_2110 pw_1523 pw_1998) hV_X12_isOf 0 9 rfl rfl rfl rfl (Nat.le_of_ble_eq_true rfl) dX12_sets_154 ⟨Nat.le_of_ble_eq_true rfl, Nat.le_of_ble_eq_true rfl⟩ ⟨Nat.le_of_ble_eq_true rfl, Nat.le_of_ble_eq_true rfl⟩ (fun v225 u223 H locs hw224 hP hD hS => ?_)
                obtain ⟨r226, rfl⟩ : ∃ z, z = u223 := ⟨_, rfl⟩
                obtain ⟨hw224, h227, h228⟩ := hw224
                replace h227 : r226 ≤ 1 := h227
                replace h228 : If (r226 = 1) (fitF (B 31) (10 + k9) so9 = 1) := h228
                obtain rfl : v225 = some (.int (nI r226)) := hw224
                have hP : va_P G.1 pCl (mW G h0 a (upd (upd (upd (upd (upd (upd (upd (upd (upd F 102 (nI op)) 111 (nI (((tp - 1) - 1) - 1))) 115 (nI wn)) 116 (-1)) 117 (nI fu)) 118 rs0) 119 uc0) 125 nw) 126 isn) B) _ := mW_to (F := F) (l1 := [(102, (nI op)), (111, (nI (((tp - 1) - 1) - 1))), (115, (nI wn)), (116, (-1)), (117, (nI fu)), (118, rs0), (119, uc0), (125, nw), (126, isn)]) (l2 := [(102, (nI op)), (111, (nI (((tp - 1) - 1) - 1))), (115, (nI wn)), (116, (-1)), (117, (nI fu)), (118, rs0), (119, uc0), (125, nw), (126, isn)]) (V := [(nI op), (nI (((tp - 1) - 1) - 1)), (nI wn), (-1), (nI fu), rs0, uc0, nw, isn, (nI op), (nI (((tp - 1) - 1) - 1)), (nI wn), (-1), (nI fu), rs0, uc0, nw, isn]) rfl rfl (show (updA (updA (updA B 31 (B 31)) 55 (B 55)) 56 (B 56)) = B from updsA_eq2 (F := B) (l1 := [(31, (B 31)), (55, (B 55)), (56, (B 56))]) (l2 := []) (V := [(B 31), (B 55), (B 56)]) rfl rfl) hP
                have hD : va_D A (mW G h0 a (upd (upd (upd (upd (upd (upd (upd (upd (upd F 102 (nI op)) 111 (nI (((tp - 1) - 1) - 1))) 115 (nI wn)) 116 (-1)) 117 (nI fu)) 118 rs0) 119 uc0) 125 nw) 126 isn) B) := mW_D hD
                refine W.widen (k := 0) (n := 0) (Nat.le_of_ble_eq_true rfl) (Nat.le_of_ble_eq_true rfl) ?_
                refine W.eq (g2 := F0 m 157 ls [.int (nI r226)]) rfl ?_
                refine lv_if_ne (tgt := 171) hx hb dX12_sets_157 (by decide) (fun c229 => ?_) (fun c229 => ?_)
                · have n230 : ¬ (r226 = 0) := fun h9 => c229 ((nI_eq (a := r226) (b := 0) (by omega) (by omega)).mpr h9)
                  rw [← hy1] at hl
                  have hl : lv_has ls 7 [(5, .int (nI (o9 + 1))), (4, .int (nI k175)), (3, .int (B 68 (tp - 1))), (2, .int (nI a9)), (0, .ref h0), (1, .int (nI p9))] := hl
                  refine lv_aload_n hx hb dX12_sets_171 rfl (lv_at hl 4 rfl) ?_
                  refine r_get (v := .ref (a 60)) hx hb hown hq hE hP 96 193 tFX12_96 (by decide) pw_1492 rfl dX12_sets_172 ?_
                  refine lv_aload_n hx hb dX12_sets_175 rfl (lv_at hl 4 rfl) ?_
                  refine r_get (v := .ref (a 58)) hx hb hown hq hE hP 94 187 tFX12_94 (by decide) pw_1490 rfl dX12_sets_176 ?_
                  refine lv_iload hx hb dX12_sets_179 (lv_at hl 0 rfl) ?_
                  refine lv_iconst (v := 1) hx hb dX12_sets_181 (by decide) ?_
                  refine lv_isub hx hb dX12_sets_182 ?_
                  refine lv_topi (fun x231 e232 => ?_)
                  obtain rfl : x231 = nI ((o9 + 1) - 1) := e232.trans (nI_subN (a := 1) (b := (o9 + 1)) (by omega))
                  refine r_ldi (f := (B 58)) (j := ((o9 + 1) - 1)) hx hb hE hP 58 (ma_58 G a _) rfl (by omega) (by decide) dX12_sets_183 ?_
                  refine lv_topi (fun x233 e234 => ?_)
                  obtain rfl : x233 = nI a8 := e234.trans (by rw [show ((o9 + 1) - 1) = o9 by omega]; exact hs6)
                  refine lv_iload hx hb dX12_sets_184 (lv_at hl 1 rfl) ?_
                  refine lv_iadd hx hb dX12_sets_186 ?_
                  refine lv_topi (fun x235 e236 => ?_)
                  obtain rfl : x235 = nI (a8 + k175) := e236.trans (nI_add (a8) (k175))
                  refine lv_iload_n hx hb dX12_sets_187 rfl (lv_at hl 2 rfl) ?_
                  refine r_sti (f := (B 60)) (j := (a8 + k175)) hx hb hE hP hD hS 60 (ma_60 G a _) rfl (mas_60 G a _) (by omega) (by decide) dX12_sets_188 (fun H locs hP hD hS => ?_)
                  refine lv_aload_n hx hb dX12_sets_189 rfl (lv_at hl 4 rfl) ?_
                  refine lv_iload_n hx hb dX12_sets_190 rfl (lv_at hl 5 rfl) ?_
                  have hP : va_P G.1 pCl (mW G h0 a (upd (upd (upd (upd (upd (upd (upd (upd (upd F 102 (nI op)) 111 (nI (((tp - 1) - 1) - 1))) 115 (nI wn)) 116 (-1)) 117 (nI fu)) 118 rs0) 119 uc0) 125 nw) 126 isn) (updA B 60 (upd (B 60) (a8 + k175) (B 68 (tp - 1))))) _ := hP
                  have hD : va_D A (mW G h0 a (upd (upd (upd (upd (upd (upd (upd (upd (upd F 102 (nI op)) 111 (nI (((tp - 1) - 1) - 1))) 115 (nI wn)) 116 (-1)) 117 (nI fu)) 118 rs0) 119 uc0) 125 nw) 126 isn) (updA B 60 (upd (B 60) (a8 + k175) (B 68 (tp - 1))))) := mW_D hD
                  refine pc_V0 (G := G) (As := [.int (nI p9)]) (rest := []) hx hb hml hown hq hE hX pX0_al hP hD hS hA hl.1 (R_comesToEnd l G h0 a (upd (upd (upd (upd (upd (upd (upd (upd (upd F 102 (nI op)) 111 (nI (((tp - 1) - 1) - 1))) 115 (nI wn)) 116 (-1)) 117 (nI fu)) 118 rs0) 119 uc0) 125 nw) 126 isn) (updA B 60 (upd (B 60) (a8 + k175) (B 68 (tp - 1)))) (nI p9)) (gV pw_2010 pw_2011 pw_2012 pw_1523 pw_2005) hV_X12_comesToEnd 0 9 rfl rfl rfl rfl (Nat.le_of_ble_eq_true rfl) dX12_sets_191 ⟨Nat.le_of_ble_eq_true rfl, Nat.le_of_ble_eq_true rfl⟩ ⟨Nat.le_of_ble_eq_true rfl, Nat.le_of_ble_eq_true rfl⟩ (fun v239 u237 H locs hw238 hP hD hS => ?_)
                  obtain rfl : v239 = none := hw238
                  have hP : va_P G.1 pCl (mW G h0 a (upd (upd (upd (upd (upd (upd (upd (upd (upd F 102 (nI op)) 111 (nI (((tp - 1) - 1) - 1))) 115 (nI wn)) 116 (-1)) 117 (nI fu)) 118 rs0) 119 uc0) 125 (nI p9)) 126 0) (updA B 60 (upd (B 60) (a8 + k175) (B 68 (tp - 1))))) _ := mW_to (F := F) (l1 := [(102, (nI op)), (111, (nI (((tp - 1) - 1) - 1))), (115, (nI wn)), (116, (-1)), (117, (nI fu)), (118, rs0), (119, uc0), (125, nw), (126, isn), (125, (nI p9)), (126, 0)]) (l2 := [(102, (nI op)), (111, (nI (((tp - 1) - 1) - 1))), (115, (nI wn)), (116, (-1)), (117, (nI fu)), (118, rs0), (119, uc0), (125, (nI p9)), (126, 0)]) (V := [(nI op), (nI (((tp - 1) - 1) - 1)), (nI wn), (-1), (nI fu), rs0, uc0, (nI p9), 0, (nI p9), 0, (nI op), (nI (((tp - 1) - 1) - 1)), (nI wn), (-1), (nI fu), rs0, uc0, (nI p9), 0]) rfl rfl rfl hP
                  have hD : va_D A (mW G h0 a (upd (upd (upd (upd (upd (upd (upd (upd (upd F 102 (nI op)) 111 (nI (((tp - 1) - 1) - 1))) 115 (nI wn)) 116 (-1)) 117 (nI fu)) 118 rs0) 119 uc0) 125 (nI p9)) 126 0) (updA B 60 (upd (B 60) (a8 + k175) (B 68 (tp - 1))))) := mW_D hD
                  refine W.widen (k := 0) (n := 0) (Nat.le_of_ble_eq_true rfl) (Nat.le_of_ble_eq_true rfl) ?_
                  refine W.eq (g2 := F0 m 194 ls []) rfl ?_
                  have hz240 : Nx Xs (updA B 60 (upd (B 60) (a8 + k175) (B 68 (tp - 1)))) gh nd T nm wr lz dc fd md pr bk M rmm fu (Phi gh ps op (rkN gh n9 true)) op (((tp - 1) - 1) - 1) wn fu rd on idn fl ct ((-1) : Int32) (nI p9) (0 : Int32) uc0 := (hv12 k175 (by omega) (VTd.isC hPg hy1 hy2 hy4 hy5 hy6 (by rw [← hw31]; exact h228 (by omega))))
                  have hP : va_P G.1 pCl (mW G h0 a (upd (upd (upd (upd (upd (upd (upd (upd (upd F 102 (nI op)) 111 (nI (((tp - 1) - 1) - 1))) 115 (nI wn)) 116 ((-1) : Int32)) 117 (nI fu)) 118 rs0) 119 uc0) 125 (nI p9)) 126 (0 : Int32)) (updA B 60 (upd (B 60) (a8 + k175) (B 68 (tp - 1))))) _ := mW_to (F := F) (l1 := [(102, (nI op)), (111, (nI (((tp - 1) - 1) - 1))), (115, (nI wn)), (116, (-1)), (117, (nI fu)), (118, rs0), (119, uc0), (125, (nI p9)), (126, 0)]) (l2 := [(102, (nI op)), (111, (nI (((tp - 1) - 1) - 1))), (115, (nI wn)), (116, ((-1) : Int32)), (117, (nI fu)), (118, rs0), (119, uc0), (125, (nI p9)), (126, (0 : Int32))]) (V := [(nI op), (nI (((tp - 1) - 1) - 1)), (nI wn), ((-1) : Int32), (nI fu), rs0, uc0, (nI p9), (0 : Int32), (nI op), (nI (((tp - 1) - 1) - 1)), (nI wn), ((-1) : Int32), (nI fu), rs0, uc0, (nI p9), (0 : Int32)]) rfl rfl rfl hP
                  have hD : va_D A (mW G h0 a (upd (upd (upd (upd (upd (upd (upd (upd (upd F 102 (nI op)) 111 (nI (((tp - 1) - 1) - 1))) 115 (nI wn)) 116 ((-1) : Int32)) 117 (nI fu)) 118 rs0) 119 uc0) 125 (nI p9)) 126 (0 : Int32)) (updA B 60 (upd (B 60) (a8 + k175) (B 68 (tp - 1))))) := mW_D hD
                  exact W.vret hx hb hr (fun t9 ht9 hW9 => ⟨⟨_, (op, (((tp - 1) - 1) - 1), wn, fu, ((-1) : Int32), (nI p9), (0 : Int32), rs0, uc0, (updA B 60 (upd (B 60) (a8 + k175) (B 68 (tp - 1))))), rfl, ⟨rfl, hz240⟩, by rw [ht9]; exact hP, hD⟩, hS.F ht9⟩) hS.2.2 dX12_sets_194
                · have n241 : r226 = 0 := (nI_eq (a := r226) (b := 0) (by omega) (by omega)).mp c229
                  refine lv_aload_n hx hb dX12_sets_160 rfl (lv_at hl 4 rfl) ?_
                  refine lv_iload_n hx hb dX12_sets_161 rfl (lv_at hl 5 rfl) ?_
                  refine lv_sipush (v := 4005) hx hb dX12_sets_162 (by decide) ?_
                  have hln242 := (Rn.lnP hR hp hst hkd (by omega) (by omega)).1
                  have hP : va_P G.1 pCl (mW G h0 a (upd (upd (upd (upd (upd (upd (upd (upd (upd (upd (upd (upd (upd (upd (upd (upd (upd (upd F 102 (nI op)) 111 (nI (((tp - 1) - 1) - 1))) 115 (nI wn)) 116 (-1)) 117 (nI fu)) 118 rs0) 119 uc0) 125 nw) 126 isn) 102 (nI op)) 111 (nI (((tp - 1) - 1) - 1))) 115 (nI wn)) 116 (-1)) 117 (nI fu)) 118 rs0) 119 uc0) 125 nw) 126 isn) B) _ := mW_to (F := F) (l1 := [(102, (nI op)), (111, (nI (((tp - 1) - 1) - 1))), (115, (nI wn)), (116, (-1)), (117, (nI fu)), (118, rs0), (119, uc0), (125, nw), (126, isn)]) (l2 := [(102, (nI op)), (111, (nI (((tp - 1) - 1) - 1))), (115, (nI wn)), (116, (-1)), (117, (nI fu)), (118, rs0), (119, uc0), (125, nw), (126, isn), (102, (nI op)), (111, (nI (((tp - 1) - 1) - 1))), (115, (nI wn)), (116, (-1)), (117, (nI fu)), (118, rs0), (119, uc0), (125, nw), (126, isn)]) (V := [(nI op), (nI (((tp - 1) - 1) - 1)), (nI wn), (-1), (nI fu), rs0, uc0, nw, isn, (nI op), (nI (((tp - 1) - 1) - 1)), (nI wn), (-1), (nI fu), rs0, uc0, nw, isn, (nI op), (nI (((tp - 1) - 1) - 1)), (nI wn), (-1), (nI fu), rs0, uc0, nw, isn]) rfl rfl rfl hP
                  have hD : va_D A (mW G h0 a (upd (upd (upd (upd (upd (upd (upd (upd (upd (upd (upd (upd (upd (upd (upd (upd (upd (upd F 102 (nI op)) 111 (nI (((tp - 1) - 1) - 1))) 115 (nI wn)) 116 (-1)) 117 (nI fu)) 118 rs0) 119 uc0) 125 nw) 126 isn) 102 (nI op)) 111 (nI (((tp - 1) - 1) - 1))) 115 (nI wn)) 116 (-1)) 117 (nI fu)) 118 rs0) 119 uc0) 125 nw) 126 isn) B) := mW_D hD
                  refine pc_V0 (G := G) (As := [.int (nI p9), .int (nI 4005)]) (rest := []) hx hb hml hown hq hE hX pX0_al hP hD hS hA hl.1 (R_raises l G h0 a (upd (upd (upd (upd (upd (upd (upd (upd (upd F 102 (nI op)) 111 (nI (((tp - 1) - 1) - 1))) 115 (nI wn)) 116 (-1)) 117 (nI fu)) 118 rs0) 119 uc0) 125 nw) 126 isn) B Xs gh nd T nm wr lz dc fd md pr bk M rmm (Phi gh ps op (rkN gh n9 true)) op wn fu rd on idn fl ct p9 4005 (4005 - 4000) mt ps (yyU yy (op - 1) u) bf wf (nI (((tp - 1) - 1) - 1)) nw isn rs0 uc0 hln242 (by omega) (by omega) (Or.inr (by omega)) (clF_1 (by omega)) (by omega)) (gV pw_2054 pw_2055 pw_2056 pw_1523 pw_2053) hV_X12_raises 0 9 rfl rfl rfl rfl (Nat.le_of_ble_eq_true rfl) dX12_sets_165 ⟨Nat.le_of_ble_eq_true rfl, Nat.le_of_ble_eq_true rfl⟩ ⟨Nat.le_of_ble_eq_true rfl, Nat.le_of_ble_eq_true rfl⟩ (fun v245 u243 H locs hw244 hP hD hS => ?_)
                  obtain ⟨op246, tp247, wn248, fu249, en250, nw251, is252, rs253, uc254, X255⟩ := u243
                  obtain ⟨hw244, h256⟩ := hw244
                  replace h256 : Nx Xs X255 gh nd T nm wr lz dc fd md pr bk M rmm fu (Phi gh ps op (rkN gh n9 true)) op246 tp247 wn248 fu249 rd on idn fl ct en250 nw251 is252 uc254 := h256
                  obtain rfl : v245 = none := hw244
                  have hP : va_P G.1 pCl (mW G h0 a (upd (upd (upd (upd (upd (upd (upd (upd (upd F 102 (nI op246)) 111 (nI tp247)) 115 (nI wn248)) 116 en250) 117 (nI fu249)) 118 rs253) 119 uc254) 125 nw251) 126 is252) X255) _ := mW_to (F := F) (l1 := [(102, (nI op)), (111, (nI (((tp - 1) - 1) - 1))), (115, (nI wn)), (116, (-1)), (117, (nI fu)), (118, rs0), (119, uc0), (125, nw), (126, isn), (102, (nI op246)), (111, (nI tp247)), (115, (nI wn248)), (116, en250), (117, (nI fu249)), (118, rs253), (119, uc254), (125, nw251), (126, is252)]) (l2 := [(102, (nI op246)), (111, (nI tp247)), (115, (nI wn248)), (116, en250), (117, (nI fu249)), (118, rs253), (119, uc254), (125, nw251), (126, is252)]) (V := [(nI op246), (nI tp247), (nI wn248), en250, (nI fu249), rs253, uc254, nw251, is252, (nI op246), (nI tp247), (nI wn248), en250, (nI fu249), rs253, uc254, nw251, is252, (nI op246), (nI tp247), (nI wn248), en250, (nI fu249), rs253, uc254, nw251, is252]) rfl rfl rfl hP
                  have hD : va_D A (mW G h0 a (upd (upd (upd (upd (upd (upd (upd (upd (upd F 102 (nI op246)) 111 (nI tp247)) 115 (nI wn248)) 116 en250) 117 (nI fu249)) 118 rs253) 119 uc254) 125 nw251) 126 is252) X255) := mW_D hD
                  refine W.widen (k := 0) (n := 0) (Nat.le_of_ble_eq_true rfl) (Nat.le_of_ble_eq_true rfl) ?_
                  refine W.eq (g2 := F0 m 168 ls []) rfl ?_
                  refine lv_goto (tgt := 194) hx hb dX12_sets_168 (by decide) ?_
                  have hz257 : Nx Xs X255 gh nd T nm wr lz dc fd md pr bk M rmm fu (Phi gh ps op (rkN gh n9 true)) op246 tp247 wn248 fu249 rd on idn fl ct en250 nw251 is252 uc254 := h256
                  have hP : va_P G.1 pCl (mW G h0 a (upd (upd (upd (upd (upd (upd (upd (upd (upd F 102 (nI op246)) 111 (nI tp247)) 115 (nI wn248)) 116 en250) 117 (nI fu249)) 118 rs253) 119 uc254) 125 nw251) 126 is252) X255) _ := hP
                  have hD : va_D A (mW G h0 a (upd (upd (upd (upd (upd (upd (upd (upd (upd F 102 (nI op246)) 111 (nI tp247)) 115 (nI wn248)) 116 en250) 117 (nI fu249)) 118 rs253) 119 uc254) 125 nw251) 126 is252) X255) := mW_D hD
                  exact W.vret hx hb hr (fun t9 ht9 hW9 => ⟨⟨_, (op246, tp247, wn248, fu249, en250, nw251, is252, rs253, uc254, X255), rfl, ⟨rfl, hz257⟩, by rw [ht9]; exact hP, hD⟩, hS.F ht9⟩) hS.2.2 dX12_sets_194
              · rw [hy1] at hl
                have hl : lv_has ls 7 [(5, .int (nI (o9 + 1))), (4, .int (nI k175)), (3, .int (nI w9)), (2, .int (nI a9)), (0, .ref h0), (1, .int (nI p9))] := hl
                refine lv_aload_n hx hb dX12_sets_143 rfl (lv_at hl 4 rfl) ?_
                refine lv_iload_n hx hb dX12_sets_144 rfl (lv_at hl 2 rfl) ?_
                refine lv_aload_n hx hb dX12_sets_145 rfl (lv_at hl 4 rfl) ?_
                refine r_get (v := .ref (a 56)) hx hb hown hq hE hP 92 181 tFX12_92 (by decide) pw_1488 rfl dX12_sets_146 ?_
                refine lv_iload hx hb dX12_sets_149 (lv_at hl 0 rfl) ?_
                refine lv_iconst (v := 1) hx hb dX12_sets_151 (by decide) ?_
                refine lv_isub hx hb dX12_sets_152 ?_
                refine lv_topi (fun x258 e259 => ?_)
                obtain rfl : x258 = nI ((o9 + 1) - 1) := e259.trans (nI_subN (a := 1) (b := (o9 + 1)) (by omega))
                refine r_ldi (f := (B 56)) (j := ((o9 + 1) - 1)) hx hb hE hP 56 (ma_56 G a _) rfl (by omega) (by decide) dX12_sets_153 ?_
                refine lv_topi (fun x260 e261 => ?_)
                obtain rfl : x260 = nI so9 := e261.trans (by rw [show ((o9 + 1) - 1) = o9 by omega]; exact hv7)
                have hbi9 : ∀ i : Nat, i < 1600 → B 31 i = 0 ∨ B 31 i = 1 := by rw [hw31]; exact hPg.1.1.2.2.1
                have hso9 : 10 ≤ so9 ∧ so9 < 2000 := by unfold baR baN at hv8; omega
                have hP : va_P G.1 pCl (mW G h0 a (upd (upd (upd (upd (upd (upd (upd (upd (upd F 102 (nI op)) 111 (nI (((tp - 1) - 1) - 1))) 115 (nI wn)) 116 (-1)) 117 (nI fu)) 118 rs0) 119 uc0) 125 nw) 126 isn) (updA (updA (updA B 31 (B 31)) 55 (B 55)) 56 (B 56))) _ := mW_to (F := F) (l1 := [(102, (nI op)), (111, (nI (((tp - 1) - 1) - 1))), (115, (nI wn)), (116, (-1)), (117, (nI fu)), (118, rs0), (119, uc0), (125, nw), (126, isn)]) (l2 := [(102, (nI op)), (111, (nI (((tp - 1) - 1) - 1))), (115, (nI wn)), (116, (-1)), (117, (nI fu)), (118, rs0), (119, uc0), (125, nw), (126, isn)]) (V := [(nI op), (nI (((tp - 1) - 1) - 1)), (nI wn), (-1), (nI fu), rs0, uc0, nw, isn, (nI op), (nI (((tp - 1) - 1) - 1)), (nI wn), (-1), (nI fu), rs0, uc0, nw, isn]) rfl rfl (show B = (updA (updA (updA B 31 (B 31)) 55 (B 55)) 56 (B 56)) from updsA_eq2 (F := B) (l1 := []) (l2 := [(31, (B 31)), (55, (B 55)), (56, (B 56))]) (V := [(B 31), (B 55), (B 56)]) rfl rfl) hP
                have hD : va_D A (mW G h0 a (upd (upd (upd (upd (upd (upd (upd (upd (upd F 102 (nI op)) 111 (nI (((tp - 1) - 1) - 1))) 115 (nI wn)) 116 (-1)) 117 (nI fu)) 118 rs0) 119 uc0) 125 nw) 126 isn) (updA (updA (updA B 31 (B 31)) 55 (B 55)) 56 (B 56))) := mW_D hD
                refine pc_V0 (G := G) (As := [.int (nI w9), .int (nI so9)]) (rest := []) hx hb hml hown hq hE hX pX0_al hP hD hS hA hl.1 (R_isOfR l G h0 a (upd (upd (upd (upd (upd (upd (upd (upd (upd F 102 (nI op)) 111 (nI (((tp - 1) - 1) - 1))) 115 (nI wn)) 116 (-1)) 117 (nI fu)) 118 rs0) 119 uc0) 125 nw) 126 isn) B w9 so9 dc so8 (B 55) (B 56) (B 31) ⟨hy2, Or.inl hy3⟩ hv10 (by omega) (by omega) hbi9 hy5 hy3 hy6 hy7) (gV pw_2108 pw_2109 pw_2110 pw_1523 pw_1998) hV_X12_isOf 0 9 rfl rfl rfl rfl (Nat.le_of_ble_eq_true rfl) dX12_sets_154 ⟨Nat.le_of_ble_eq_true rfl, Nat.le_of_ble_eq_true rfl⟩ ⟨Nat.le_of_ble_eq_true rfl, Nat.le_of_ble_eq_true rfl⟩ (fun v264 u262 H locs hw263 hP hD hS => ?_)
                obtain ⟨r265, rfl⟩ : ∃ z, z = u262 := ⟨_, rfl⟩
                obtain ⟨hw263, h266, h267⟩ := hw263
                replace h266 : r265 ≤ 1 := h266
                replace h267 : If (r265 = 1) (fitF (B 31) (1000 + so8) so9 = 1) := h267
                obtain rfl : v264 = some (.int (nI r265)) := hw263
                have hP : va_P G.1 pCl (mW G h0 a (upd (upd (upd (upd (upd (upd (upd (upd (upd F 102 (nI op)) 111 (nI (((tp - 1) - 1) - 1))) 115 (nI wn)) 116 (-1)) 117 (nI fu)) 118 rs0) 119 uc0) 125 nw) 126 isn) B) _ := mW_to (F := F) (l1 := [(102, (nI op)), (111, (nI (((tp - 1) - 1) - 1))), (115, (nI wn)), (116, (-1)), (117, (nI fu)), (118, rs0), (119, uc0), (125, nw), (126, isn)]) (l2 := [(102, (nI op)), (111, (nI (((tp - 1) - 1) - 1))), (115, (nI wn)), (116, (-1)), (117, (nI fu)), (118, rs0), (119, uc0), (125, nw), (126, isn)]) (V := [(nI op), (nI (((tp - 1) - 1) - 1)), (nI wn), (-1), (nI fu), rs0, uc0, nw, isn, (nI op), (nI (((tp - 1) - 1) - 1)), (nI wn), (-1), (nI fu), rs0, uc0, nw, isn]) rfl rfl (show (updA (updA (updA B 31 (B 31)) 55 (B 55)) 56 (B 56)) = B from updsA_eq2 (F := B) (l1 := [(31, (B 31)), (55, (B 55)), (56, (B 56))]) (l2 := []) (V := [(B 31), (B 55), (B 56)]) rfl rfl) hP
                have hD : va_D A (mW G h0 a (upd (upd (upd (upd (upd (upd (upd (upd (upd F 102 (nI op)) 111 (nI (((tp - 1) - 1) - 1))) 115 (nI wn)) 116 (-1)) 117 (nI fu)) 118 rs0) 119 uc0) 125 nw) 126 isn) B) := mW_D hD
                refine W.widen (k := 0) (n := 0) (Nat.le_of_ble_eq_true rfl) (Nat.le_of_ble_eq_true rfl) ?_
                refine W.eq (g2 := F0 m 157 ls [.int (nI r265)]) rfl ?_
                refine lv_if_ne (tgt := 171) hx hb dX12_sets_157 (by decide) (fun c268 => ?_) (fun c268 => ?_)
                · have n269 : ¬ (r265 = 0) := fun h9 => c268 ((nI_eq (a := r265) (b := 0) (by omega) (by omega)).mpr h9)
                  rw [← hy1] at hl
                  have hl : lv_has ls 7 [(5, .int (nI (o9 + 1))), (4, .int (nI k175)), (3, .int (B 68 (tp - 1))), (2, .int (nI a9)), (0, .ref h0), (1, .int (nI p9))] := hl
                  refine lv_aload_n hx hb dX12_sets_171 rfl (lv_at hl 4 rfl) ?_
                  refine r_get (v := .ref (a 60)) hx hb hown hq hE hP 96 193 tFX12_96 (by decide) pw_1492 rfl dX12_sets_172 ?_
                  refine lv_aload_n hx hb dX12_sets_175 rfl (lv_at hl 4 rfl) ?_
                  refine r_get (v := .ref (a 58)) hx hb hown hq hE hP 94 187 tFX12_94 (by decide) pw_1490 rfl dX12_sets_176 ?_
                  refine lv_iload hx hb dX12_sets_179 (lv_at hl 0 rfl) ?_
                  refine lv_iconst (v := 1) hx hb dX12_sets_181 (by decide) ?_
                  refine lv_isub hx hb dX12_sets_182 ?_
                  refine lv_topi (fun x270 e271 => ?_)
                  obtain rfl : x270 = nI ((o9 + 1) - 1) := e271.trans (nI_subN (a := 1) (b := (o9 + 1)) (by omega))
                  refine r_ldi (f := (B 58)) (j := ((o9 + 1) - 1)) hx hb hE hP 58 (ma_58 G a _) rfl (by omega) (by decide) dX12_sets_183 ?_
                  refine lv_topi (fun x272 e273 => ?_)
                  obtain rfl : x272 = nI a8 := e273.trans (by rw [show ((o9 + 1) - 1) = o9 by omega]; exact hs6)
                  refine lv_iload hx hb dX12_sets_184 (lv_at hl 1 rfl) ?_
                  refine lv_iadd hx hb dX12_sets_186 ?_
                  refine lv_topi (fun x274 e275 => ?_)
                  obtain rfl : x274 = nI (a8 + k175) := e275.trans (nI_add (a8) (k175))
                  refine lv_iload_n hx hb dX12_sets_187 rfl (lv_at hl 2 rfl) ?_
                  refine r_sti (f := (B 60)) (j := (a8 + k175)) hx hb hE hP hD hS 60 (ma_60 G a _) rfl (mas_60 G a _) (by omega) (by decide) dX12_sets_188 (fun H locs hP hD hS => ?_)
                  refine lv_aload_n hx hb dX12_sets_189 rfl (lv_at hl 4 rfl) ?_
                  refine lv_iload_n hx hb dX12_sets_190 rfl (lv_at hl 5 rfl) ?_
                  have hP : va_P G.1 pCl (mW G h0 a (upd (upd (upd (upd (upd (upd (upd (upd (upd F 102 (nI op)) 111 (nI (((tp - 1) - 1) - 1))) 115 (nI wn)) 116 (-1)) 117 (nI fu)) 118 rs0) 119 uc0) 125 nw) 126 isn) (updA B 60 (upd (B 60) (a8 + k175) (B 68 (tp - 1))))) _ := hP
                  have hD : va_D A (mW G h0 a (upd (upd (upd (upd (upd (upd (upd (upd (upd F 102 (nI op)) 111 (nI (((tp - 1) - 1) - 1))) 115 (nI wn)) 116 (-1)) 117 (nI fu)) 118 rs0) 119 uc0) 125 nw) 126 isn) (updA B 60 (upd (B 60) (a8 + k175) (B 68 (tp - 1))))) := mW_D hD
                  refine pc_V0 (G := G) (As := [.int (nI p9)]) (rest := []) hx hb hml hown hq hE hX pX0_al hP hD hS hA hl.1 (R_comesToEnd l G h0 a (upd (upd (upd (upd (upd (upd (upd (upd (upd F 102 (nI op)) 111 (nI (((tp - 1) - 1) - 1))) 115 (nI wn)) 116 (-1)) 117 (nI fu)) 118 rs0) 119 uc0) 125 nw) 126 isn) (updA B 60 (upd (B 60) (a8 + k175) (B 68 (tp - 1)))) (nI p9)) (gV pw_2010 pw_2011 pw_2012 pw_1523 pw_2005) hV_X12_comesToEnd 0 9 rfl rfl rfl rfl (Nat.le_of_ble_eq_true rfl) dX12_sets_191 ⟨Nat.le_of_ble_eq_true rfl, Nat.le_of_ble_eq_true rfl⟩ ⟨Nat.le_of_ble_eq_true rfl, Nat.le_of_ble_eq_true rfl⟩ (fun v278 u276 H locs hw277 hP hD hS => ?_)
                  obtain rfl : v278 = none := hw277
                  have hP : va_P G.1 pCl (mW G h0 a (upd (upd (upd (upd (upd (upd (upd (upd (upd F 102 (nI op)) 111 (nI (((tp - 1) - 1) - 1))) 115 (nI wn)) 116 (-1)) 117 (nI fu)) 118 rs0) 119 uc0) 125 (nI p9)) 126 0) (updA B 60 (upd (B 60) (a8 + k175) (B 68 (tp - 1))))) _ := mW_to (F := F) (l1 := [(102, (nI op)), (111, (nI (((tp - 1) - 1) - 1))), (115, (nI wn)), (116, (-1)), (117, (nI fu)), (118, rs0), (119, uc0), (125, nw), (126, isn), (125, (nI p9)), (126, 0)]) (l2 := [(102, (nI op)), (111, (nI (((tp - 1) - 1) - 1))), (115, (nI wn)), (116, (-1)), (117, (nI fu)), (118, rs0), (119, uc0), (125, (nI p9)), (126, 0)]) (V := [(nI op), (nI (((tp - 1) - 1) - 1)), (nI wn), (-1), (nI fu), rs0, uc0, (nI p9), 0, (nI p9), 0, (nI op), (nI (((tp - 1) - 1) - 1)), (nI wn), (-1), (nI fu), rs0, uc0, (nI p9), 0]) rfl rfl rfl hP
                  have hD : va_D A (mW G h0 a (upd (upd (upd (upd (upd (upd (upd (upd (upd F 102 (nI op)) 111 (nI (((tp - 1) - 1) - 1))) 115 (nI wn)) 116 (-1)) 117 (nI fu)) 118 rs0) 119 uc0) 125 (nI p9)) 126 0) (updA B 60 (upd (B 60) (a8 + k175) (B 68 (tp - 1))))) := mW_D hD
                  refine W.widen (k := 0) (n := 0) (Nat.le_of_ble_eq_true rfl) (Nat.le_of_ble_eq_true rfl) ?_
                  refine W.eq (g2 := F0 m 194 ls []) rfl ?_
                  have hz279 : Nx Xs (updA B 60 (upd (B 60) (a8 + k175) (B 68 (tp - 1)))) gh nd T nm wr lz dc fd md pr bk M rmm fu (Phi gh ps op (rkN gh n9 true)) op (((tp - 1) - 1) - 1) wn fu rd on idn fl ct ((-1) : Int32) (nI p9) (0 : Int32) uc0 := (hv12 k175 (by omega) (VTd.isR hPg hy1 hy2 ⟨hy3, hy4⟩ hy5 hy6 hy7 (by rw [← hw31]; exact h267 (by omega))))
                  have hP : va_P G.1 pCl (mW G h0 a (upd (upd (upd (upd (upd (upd (upd (upd (upd F 102 (nI op)) 111 (nI (((tp - 1) - 1) - 1))) 115 (nI wn)) 116 ((-1) : Int32)) 117 (nI fu)) 118 rs0) 119 uc0) 125 (nI p9)) 126 (0 : Int32)) (updA B 60 (upd (B 60) (a8 + k175) (B 68 (tp - 1))))) _ := mW_to (F := F) (l1 := [(102, (nI op)), (111, (nI (((tp - 1) - 1) - 1))), (115, (nI wn)), (116, (-1)), (117, (nI fu)), (118, rs0), (119, uc0), (125, (nI p9)), (126, 0)]) (l2 := [(102, (nI op)), (111, (nI (((tp - 1) - 1) - 1))), (115, (nI wn)), (116, ((-1) : Int32)), (117, (nI fu)), (118, rs0), (119, uc0), (125, (nI p9)), (126, (0 : Int32))]) (V := [(nI op), (nI (((tp - 1) - 1) - 1)), (nI wn), ((-1) : Int32), (nI fu), rs0, uc0, (nI p9), (0 : Int32), (nI op), (nI (((tp - 1) - 1) - 1)), (nI wn), ((-1) : Int32), (nI fu), rs0, uc0, (nI p9), (0 : Int32)]) rfl rfl rfl hP
                  have hD : va_D A (mW G h0 a (upd (upd (upd (upd (upd (upd (upd (upd (upd F 102 (nI op)) 111 (nI (((tp - 1) - 1) - 1))) 115 (nI wn)) 116 ((-1) : Int32)) 117 (nI fu)) 118 rs0) 119 uc0) 125 (nI p9)) 126 (0 : Int32)) (updA B 60 (upd (B 60) (a8 + k175) (B 68 (tp - 1))))) := mW_D hD
                  exact W.vret hx hb hr (fun t9 ht9 hW9 => ⟨⟨_, (op, (((tp - 1) - 1) - 1), wn, fu, ((-1) : Int32), (nI p9), (0 : Int32), rs0, uc0, (updA B 60 (upd (B 60) (a8 + k175) (B 68 (tp - 1))))), rfl, ⟨rfl, hz279⟩, by rw [ht9]; exact hP, hD⟩, hS.F ht9⟩) hS.2.2 dX12_sets_194
                · have n280 : r265 = 0 := (nI_eq (a := r265) (b := 0) (by omega) (by omega)).mp c268
                  refine lv_aload_n hx hb dX12_sets_160 rfl (lv_at hl 4 rfl) ?_
                  refine lv_iload_n hx hb dX12_sets_161 rfl (lv_at hl 5 rfl) ?_
                  refine lv_sipush (v := 4005) hx hb dX12_sets_162 (by decide) ?_
                  have hln281 := (Rn.lnP hR hp hst hkd (by omega) (by omega)).1
                  have hP : va_P G.1 pCl (mW G h0 a (upd (upd (upd (upd (upd (upd (upd (upd (upd (upd (upd (upd (upd (upd (upd (upd (upd (upd F 102 (nI op)) 111 (nI (((tp - 1) - 1) - 1))) 115 (nI wn)) 116 (-1)) 117 (nI fu)) 118 rs0) 119 uc0) 125 nw) 126 isn) 102 (nI op)) 111 (nI (((tp - 1) - 1) - 1))) 115 (nI wn)) 116 (-1)) 117 (nI fu)) 118 rs0) 119 uc0) 125 nw) 126 isn) B) _ := mW_to (F := F) (l1 := [(102, (nI op)), (111, (nI (((tp - 1) - 1) - 1))), (115, (nI wn)), (116, (-1)), (117, (nI fu)), (118, rs0), (119, uc0), (125, nw), (126, isn)]) (l2 := [(102, (nI op)), (111, (nI (((tp - 1) - 1) - 1))), (115, (nI wn)), (116, (-1)), (117, (nI fu)), (118, rs0), (119, uc0), (125, nw), (126, isn), (102, (nI op)), (111, (nI (((tp - 1) - 1) - 1))), (115, (nI wn)), (116, (-1)), (117, (nI fu)), (118, rs0), (119, uc0), (125, nw), (126, isn)]) (V := [(nI op), (nI (((tp - 1) - 1) - 1)), (nI wn), (-1), (nI fu), rs0, uc0, nw, isn, (nI op), (nI (((tp - 1) - 1) - 1)), (nI wn), (-1), (nI fu), rs0, uc0, nw, isn, (nI op), (nI (((tp - 1) - 1) - 1)), (nI wn), (-1), (nI fu), rs0, uc0, nw, isn]) rfl rfl rfl hP
                  have hD : va_D A (mW G h0 a (upd (upd (upd (upd (upd (upd (upd (upd (upd (upd (upd (upd (upd (upd (upd (upd (upd (upd F 102 (nI op)) 111 (nI (((tp - 1) - 1) - 1))) 115 (nI wn)) 116 (-1)) 117 (nI fu)) 118 rs0) 119 uc0) 125 nw) 126 isn) 102 (nI op)) 111 (nI (((tp - 1) - 1) - 1))) 115 (nI wn)) 116 (-1)) 117 (nI fu)) 118 rs0) 119 uc0) 125 nw) 126 isn) B) := mW_D hD
                  refine pc_V0 (G := G) (As := [.int (nI p9), .int (nI 4005)]) (rest := []) hx hb hml hown hq hE hX pX0_al hP hD hS hA hl.1 (R_raises l G h0 a (upd (upd (upd (upd (upd (upd (upd (upd (upd F 102 (nI op)) 111 (nI (((tp - 1) - 1) - 1))) 115 (nI wn)) 116 (-1)) 117 (nI fu)) 118 rs0) 119 uc0) 125 nw) 126 isn) B Xs gh nd T nm wr lz dc fd md pr bk M rmm (Phi gh ps op (rkN gh n9 true)) op wn fu rd on idn fl ct p9 4005 (4005 - 4000) mt ps (yyU yy (op - 1) u) bf wf (nI (((tp - 1) - 1) - 1)) nw isn rs0 uc0 hln281 (by omega) (by omega) (Or.inr (by omega)) (clF_1 (by omega)) (by omega)) (gV pw_2054 pw_2055 pw_2056 pw_1523 pw_2053) hV_X12_raises 0 9 rfl rfl rfl rfl (Nat.le_of_ble_eq_true rfl) dX12_sets_165 ⟨Nat.le_of_ble_eq_true rfl, Nat.le_of_ble_eq_true rfl⟩ ⟨Nat.le_of_ble_eq_true rfl, Nat.le_of_ble_eq_true rfl⟩ (fun v284 u282 H locs hw283 hP hD hS => ?_)
                  obtain ⟨op285, tp286, wn287, fu288, en289, nw290, is291, rs292, uc293, X294⟩ := u282
                  obtain ⟨hw283, h295⟩ := hw283
                  replace h295 : Nx Xs X294 gh nd T nm wr lz dc fd md pr bk M rmm fu (Phi gh ps op (rkN gh n9 true)) op285 tp286 wn287 fu288 rd on idn fl ct en289 nw290 is291 uc293 := h295
                  obtain rfl : v284 = none := hw283
                  have hP : va_P G.1 pCl (mW G h0 a (upd (upd (upd (upd (upd (upd (upd (upd (upd F 102 (nI op285)) 111 (nI tp286)) 115 (nI wn287)) 116 en289) 117 (nI fu288)) 118 rs292) 119 uc293) 125 nw290) 126 is291) X294) _ := mW_to (F := F) (l1 := [(102, (nI op)), (111, (nI (((tp - 1) - 1) - 1))), (115, (nI wn)), (116, (-1)), (117, (nI fu)), (118, rs0), (119, uc0), (125, nw), (126, isn), (102, (nI op285)), (111, (nI tp286)), (115, (nI wn287)), (116, en289), (117, (nI fu288)), (118, rs292), (119, uc293), (125, nw290), (126, is291)]) (l2 := [(102, (nI op285)), (111, (nI tp286)), (115, (nI wn287)), (116, en289), (117, (nI fu288)), (118, rs292), (119, uc293), (125, nw290), (126, is291)]) (V := [(nI op285), (nI tp286), (nI wn287), en289, (nI fu288), rs292, uc293, nw290, is291, (nI op285), (nI tp286), (nI wn287), en289, (nI fu288), rs292, uc293, nw290, is291, (nI op285), (nI tp286), (nI wn287), en289, (nI fu288), rs292, uc293, nw290, is291]) rfl rfl rfl hP
                  have hD : va_D A (mW G h0 a (upd (upd (upd (upd (upd (upd (upd (upd (upd F 102 (nI op285)) 111 (nI tp286)) 115 (nI wn287)) 116 en289) 117 (nI fu288)) 118 rs292) 119 uc293) 125 nw290) 126 is291) X294) := mW_D hD
                  refine W.widen (k := 0) (n := 0) (Nat.le_of_ble_eq_true rfl) (Nat.le_of_ble_eq_true rfl) ?_
                  refine W.eq (g2 := F0 m 168 ls []) rfl ?_
                  refine lv_goto (tgt := 194) hx hb dX12_sets_168 (by decide) ?_
                  have hz296 : Nx Xs X294 gh nd T nm wr lz dc fd md pr bk M rmm fu (Phi gh ps op (rkN gh n9 true)) op285 tp286 wn287 fu288 rd on idn fl ct en289 nw290 is291 uc293 := h295
                  have hP : va_P G.1 pCl (mW G h0 a (upd (upd (upd (upd (upd (upd (upd (upd (upd F 102 (nI op285)) 111 (nI tp286)) 115 (nI wn287)) 116 en289) 117 (nI fu288)) 118 rs292) 119 uc293) 125 nw290) 126 is291) X294) _ := hP
                  have hD : va_D A (mW G h0 a (upd (upd (upd (upd (upd (upd (upd (upd (upd F 102 (nI op285)) 111 (nI tp286)) 115 (nI wn287)) 116 en289) 117 (nI fu288)) 118 rs292) 119 uc293) 125 nw290) 126 is291) X294) := mW_D hD
                  exact W.vret hx hb hr (fun t9 ht9 hW9 => ⟨⟨_, (op285, tp286, wn287, fu288, en289, nw290, is291, rs292, uc293, X294), rfl, ⟨rfl, hz296⟩, by rw [ht9]; exact hP, hD⟩, hS.F ht9⟩) hS.2.2 dX12_sets_194
        · have n297 : ¬ (k175 < q9) := fun h9 => c182 ((nI_ltI (a := k175) (b := q9) (by omega) (by omega)).mpr h9)
          refine lv_aload_n hx hb dX12_sets_112 rfl (lv_at hl 4 rfl) ?_
          refine lv_iload_n hx hb dX12_sets_113 rfl (lv_at hl 5 rfl) ?_
          refine lv_sipush (v := 4004) hx hb dX12_sets_114 (by decide) ?_
          have hln298 := (Rn.lnP hR hp hst hkd (by omega) (by omega)).1
          have hP : va_P G.1 pCl (mW G h0 a (upd (upd (upd (upd (upd (upd (upd (upd (upd (upd (upd (upd (upd (upd (upd (upd (upd (upd F 102 (nI op)) 111 (nI (((tp - 1) - 1) - 1))) 115 (nI wn)) 116 (-1)) 117 (nI fu)) 118 rs0) 119 uc0) 125 nw) 126 isn) 102 (nI op)) 111 (nI (((tp - 1) - 1) - 1))) 115 (nI wn)) 116 (-1)) 117 (nI fu)) 118 rs0) 119 uc0) 125 nw) 126 isn) B) _ := mW_to (F := F) (l1 := [(102, (nI op)), (111, (nI (((tp - 1) - 1) - 1))), (115, (nI wn)), (116, (-1)), (117, (nI fu)), (118, rs0), (119, uc0), (125, nw), (126, isn)]) (l2 := [(102, (nI op)), (111, (nI (((tp - 1) - 1) - 1))), (115, (nI wn)), (116, (-1)), (117, (nI fu)), (118, rs0), (119, uc0), (125, nw), (126, isn), (102, (nI op)), (111, (nI (((tp - 1) - 1) - 1))), (115, (nI wn)), (116, (-1)), (117, (nI fu)), (118, rs0), (119, uc0), (125, nw), (126, isn)]) (V := [(nI op), (nI (((tp - 1) - 1) - 1)), (nI wn), (-1), (nI fu), rs0, uc0, nw, isn, (nI op), (nI (((tp - 1) - 1) - 1)), (nI wn), (-1), (nI fu), rs0, uc0, nw, isn, (nI op), (nI (((tp - 1) - 1) - 1)), (nI wn), (-1), (nI fu), rs0, uc0, nw, isn]) rfl rfl rfl hP
          have hD : va_D A (mW G h0 a (upd (upd (upd (upd (upd (upd (upd (upd (upd (upd (upd (upd (upd (upd (upd (upd (upd (upd F 102 (nI op)) 111 (nI (((tp - 1) - 1) - 1))) 115 (nI wn)) 116 (-1)) 117 (nI fu)) 118 rs0) 119 uc0) 125 nw) 126 isn) 102 (nI op)) 111 (nI (((tp - 1) - 1) - 1))) 115 (nI wn)) 116 (-1)) 117 (nI fu)) 118 rs0) 119 uc0) 125 nw) 126 isn) B) := mW_D hD
          refine pc_V0 (G := G) (As := [.int (nI p9), .int (nI 4004)]) (rest := []) hx hb hml hown hq hE hX pX0_al hP hD hS hA hl.1 (R_raises l G h0 a (upd (upd (upd (upd (upd (upd (upd (upd (upd F 102 (nI op)) 111 (nI (((tp - 1) - 1) - 1))) 115 (nI wn)) 116 (-1)) 117 (nI fu)) 118 rs0) 119 uc0) 125 nw) 126 isn) B Xs gh nd T nm wr lz dc fd md pr bk M rmm (Phi gh ps op (rkN gh n9 true)) op wn fu rd on idn fl ct p9 4004 (4004 - 4000) mt ps (yyU yy (op - 1) u) bf wf (nI (((tp - 1) - 1) - 1)) nw isn rs0 uc0 hln298 (by omega) (by omega) (Or.inr (by omega)) (clF_1 (by omega)) (by omega)) (gV pw_2054 pw_2055 pw_2056 pw_1523 pw_2053) hV_X12_raises 0 9 rfl rfl rfl rfl (Nat.le_of_ble_eq_true rfl) dX12_sets_117 ⟨Nat.le_of_ble_eq_true rfl, Nat.le_of_ble_eq_true rfl⟩ ⟨Nat.le_of_ble_eq_true rfl, Nat.le_of_ble_eq_true rfl⟩ (fun v301 u299 H locs hw300 hP hD hS => ?_)
          obtain ⟨op302, tp303, wn304, fu305, en306, nw307, is308, rs309, uc310, X311⟩ := u299
          obtain ⟨hw300, h312⟩ := hw300
          replace h312 : Nx Xs X311 gh nd T nm wr lz dc fd md pr bk M rmm fu (Phi gh ps op (rkN gh n9 true)) op302 tp303 wn304 fu305 rd on idn fl ct en306 nw307 is308 uc310 := h312
          obtain rfl : v301 = none := hw300
          have hP : va_P G.1 pCl (mW G h0 a (upd (upd (upd (upd (upd (upd (upd (upd (upd F 102 (nI op302)) 111 (nI tp303)) 115 (nI wn304)) 116 en306) 117 (nI fu305)) 118 rs309) 119 uc310) 125 nw307) 126 is308) X311) _ := mW_to (F := F) (l1 := [(102, (nI op)), (111, (nI (((tp - 1) - 1) - 1))), (115, (nI wn)), (116, (-1)), (117, (nI fu)), (118, rs0), (119, uc0), (125, nw), (126, isn), (102, (nI op302)), (111, (nI tp303)), (115, (nI wn304)), (116, en306), (117, (nI fu305)), (118, rs309), (119, uc310), (125, nw307), (126, is308)]) (l2 := [(102, (nI op302)), (111, (nI tp303)), (115, (nI wn304)), (116, en306), (117, (nI fu305)), (118, rs309), (119, uc310), (125, nw307), (126, is308)]) (V := [(nI op302), (nI tp303), (nI wn304), en306, (nI fu305), rs309, uc310, nw307, is308, (nI op302), (nI tp303), (nI wn304), en306, (nI fu305), rs309, uc310, nw307, is308, (nI op302), (nI tp303), (nI wn304), en306, (nI fu305), rs309, uc310, nw307, is308]) rfl rfl rfl hP
          have hD : va_D A (mW G h0 a (upd (upd (upd (upd (upd (upd (upd (upd (upd F 102 (nI op302)) 111 (nI tp303)) 115 (nI wn304)) 116 en306) 117 (nI fu305)) 118 rs309) 119 uc310) 125 nw307) 126 is308) X311) := mW_D hD
          refine W.widen (k := 0) (n := 0) (Nat.le_of_ble_eq_true rfl) (Nat.le_of_ble_eq_true rfl) ?_
          refine W.eq (g2 := F0 m 120 ls []) rfl ?_
          refine lv_goto (tgt := 194) hx hb dX12_sets_120 (by decide) ?_
          have hz313 : Nx Xs X311 gh nd T nm wr lz dc fd md pr bk M rmm fu (Phi gh ps op (rkN gh n9 true)) op302 tp303 wn304 fu305 rd on idn fl ct en306 nw307 is308 uc310 := h312
          have hP : va_P G.1 pCl (mW G h0 a (upd (upd (upd (upd (upd (upd (upd (upd (upd F 102 (nI op302)) 111 (nI tp303)) 115 (nI wn304)) 116 en306) 117 (nI fu305)) 118 rs309) 119 uc310) 125 nw307) 126 is308) X311) _ := hP
          have hD : va_D A (mW G h0 a (upd (upd (upd (upd (upd (upd (upd (upd (upd F 102 (nI op302)) 111 (nI tp303)) 115 (nI wn304)) 116 en306) 117 (nI fu305)) 118 rs309) 119 uc310) 125 nw307) 126 is308) X311) := mW_D hD
          exact W.vret hx hb hr (fun t9 ht9 hW9 => ⟨⟨_, (op302, tp303, wn304, fu305, en306, nw307, is308, rs309, uc310, X311), rfl, ⟨rfl, hz313⟩, by rw [ht9]; exact hP, hD⟩, hS.F ht9⟩) hS.2.2 dX12_sets_194

theorem dX12_method_0 : decode cX12_method 0 = .ok (.aload_n 0, 1) := by decide +kernel
theorem dX12_method_1 : decode cX12_method 1 = .ok (.getfield 416, 3) := by decide +kernel
theorem dX12_method_4 : decode cX12_method 4 = .ok (.istore 4, 2) := by decide +kernel
theorem dX12_method_6 : decode cX12_method 6 = .ok (.aload_n 0, 1) := by decide +kernel
theorem dX12_method_7 : decode cX12_method 7 = .ok (.dup, 1) := by decide +kernel
theorem dX12_method_8 : decode cX12_method 8 = .ok (.getfield 416, 3) := by decide +kernel
theorem dX12_method_11 : decode cX12_method 11 = .ok (.iconst 1, 1) := by decide +kernel
theorem dX12_method_12 : decode cX12_method 12 = .ok (.iadd, 1) := by decide +kernel
theorem dX12_method_13 : decode cX12_method 13 = .ok (.putfield 416, 3) := by decide +kernel
theorem dX12_method_16 : decode cX12_method 16 = .ok (.aload_n 0, 1) := by decide +kernel
theorem dX12_method_17 : decode cX12_method 17 = .ok (.dup, 1) := by decide +kernel
theorem dX12_method_18 : decode cX12_method 18 = .ok (.getfield 393, 3) := by decide +kernel
theorem dX12_method_21 : decode cX12_method 21 = .ok (.iconst 1, 1) := by decide +kernel
theorem dX12_method_22 : decode cX12_method 22 = .ok (.iadd, 1) := by decide +kernel
theorem dX12_method_23 : decode cX12_method 23 = .ok (.putfield 393, 3) := by decide +kernel
theorem dX12_method_26 : decode cX12_method 26 = .ok (.aload_n 0, 1) := by decide +kernel
theorem dX12_method_27 : decode cX12_method 27 = .ok (.getfield 120, 3) := by decide +kernel
theorem dX12_method_30 : decode cX12_method 30 = .ok (.iload 4, 2) := by decide +kernel
theorem dX12_method_32 : decode cX12_method 32 = .ok (.iload_n 1, 1) := by decide +kernel
theorem dX12_method_33 : decode cX12_method 33 = .ok (.iastore, 1) := by decide +kernel
theorem dX12_method_34 : decode cX12_method 34 = .ok (.aload_n 0, 1) := by decide +kernel
theorem dX12_method_35 : decode cX12_method 35 = .ok (.getfield 123, 3) := by decide +kernel
theorem dX12_method_38 : decode cX12_method 38 = .ok (.iload 4, 2) := by decide +kernel
theorem dX12_method_40 : decode cX12_method 40 = .ok (.aload_n 0, 1) := by decide +kernel
theorem dX12_method_41 : decode cX12_method 41 = .ok (.getfield 25, 3) := by decide +kernel
theorem dX12_method_44 : decode cX12_method 44 = .ok (.iload_n 3, 1) := by decide +kernel
theorem dX12_method_45 : decode cX12_method 45 = .ok (.iaload, 1) := by decide +kernel
theorem dX12_method_46 : decode cX12_method 46 = .ok (.iastore, 1) := by decide +kernel
theorem dX12_method_47 : decode cX12_method 47 = .ok (.aload_n 0, 1) := by decide +kernel
theorem dX12_method_48 : decode cX12_method 48 = .ok (.getfield 126, 3) := by decide +kernel
theorem dX12_method_51 : decode cX12_method 51 = .ok (.iload 4, 2) := by decide +kernel
theorem dX12_method_53 : decode cX12_method 53 = .ok (.iload_n 3, 1) := by decide +kernel
theorem dX12_method_54 : decode cX12_method 54 = .ok (.iastore, 1) := by decide +kernel
theorem dX12_method_55 : decode cX12_method 55 = .ok (.aload_n 0, 1) := by decide +kernel
theorem dX12_method_56 : decode cX12_method 56 = .ok (.getfield 129, 3) := by decide +kernel
theorem dX12_method_59 : decode cX12_method 59 = .ok (.iload 4, 2) := by decide +kernel
theorem dX12_method_61 : decode cX12_method 61 = .ok (.iload_n 2, 1) := by decide +kernel
theorem dX12_method_62 : decode cX12_method 62 = .ok (.iastore, 1) := by decide +kernel
theorem dX12_method_63 : decode cX12_method 63 = .ok (.aload_n 0, 1) := by decide +kernel
theorem dX12_method_64 : decode cX12_method 64 = .ok (.getfield 132, 3) := by decide +kernel
theorem dX12_method_67 : decode cX12_method 67 = .ok (.iload 4, 2) := by decide +kernel
theorem dX12_method_69 : decode cX12_method 69 = .ok (.aload_n 0, 1) := by decide +kernel
theorem dX12_method_70 : decode cX12_method 70 = .ok (.getfield 419, 3) := by decide +kernel
theorem dX12_method_73 : decode cX12_method 73 = .ok (.iastore, 1) := by decide +kernel
theorem dX12_method_74 : decode cX12_method 74 = .ok (.aload_n 0, 1) := by decide +kernel
theorem dX12_method_75 : decode cX12_method 75 = .ok (.getfield 135, 3) := by decide +kernel
theorem dX12_method_78 : decode cX12_method 78 = .ok (.iload 4, 2) := by decide +kernel
theorem dX12_method_80 : decode cX12_method 80 = .ok (.iconst 0, 1) := by decide +kernel
theorem dX12_method_81 : decode cX12_method 81 = .ok (.iastore, 1) := by decide +kernel
theorem dX12_method_82 : decode cX12_method 82 = .ok (.aload_n 0, 1) := by decide +kernel
theorem dX12_method_83 : decode cX12_method 83 = .ok (.getfield 138, 3) := by decide +kernel
theorem dX12_method_86 : decode cX12_method 86 = .ok (.iload 4, 2) := by decide +kernel
theorem dX12_method_88 : decode cX12_method 88 = .ok (.iconst (-1), 1) := by decide +kernel
theorem dX12_method_89 : decode cX12_method 89 = .ok (.iastore, 1) := by decide +kernel
theorem dX12_method_90 : decode cX12_method 90 = .ok (.aload_n 0, 1) := by decide +kernel
theorem dX12_method_91 : decode cX12_method 91 = .ok (.getfield 141, 3) := by decide +kernel
theorem dX12_method_94 : decode cX12_method 94 = .ok (.iload 4, 2) := by decide +kernel
theorem dX12_method_96 : decode cX12_method 96 = .ok (.iconst (-1), 1) := by decide +kernel
theorem dX12_method_97 : decode cX12_method 97 = .ok (.iastore, 1) := by decide +kernel
theorem dX12_method_98 : decode cX12_method 98 = .ok (.aload_n 0, 1) := by decide +kernel
theorem dX12_method_99 : decode cX12_method 99 = .ok (.getfield 144, 3) := by decide +kernel
theorem dX12_method_102 : decode cX12_method 102 = .ok (.iload 4, 2) := by decide +kernel
theorem dX12_method_104 : decode cX12_method 104 = .ok (.iconst (-1), 1) := by decide +kernel
theorem dX12_method_105 : decode cX12_method 105 = .ok (.iastore, 1) := by decide +kernel
theorem dX12_method_106 : decode cX12_method 106 = .ok (.aload_n 0, 1) := by decide +kernel
theorem dX12_method_107 : decode cX12_method 107 = .ok (.bipush 40, 2) := by decide +kernel
theorem dX12_method_109 : decode cX12_method 109 = .ok (.invokevirtual 369, 3) := by decide +kernel
theorem dX12_method_112 : decode cX12_method 112 = .ok (.aload_n 0, 1) := by decide +kernel
theorem dX12_method_113 : decode cX12_method 113 = .ok (.getfield 350, 3) := by decide +kernel
theorem dX12_method_116 : decode cX12_method 116 = .ok (.ifCond .ne 16, 3) := by decide +kernel
theorem dX12_method_119 : decode cX12_method 119 = .ok (.aload_n 0, 1) := by decide +kernel
theorem dX12_method_120 : decode cX12_method 120 = .ok (.invokevirtual 381, 3) := by decide +kernel
theorem dX12_method_123 : decode cX12_method 123 = .ok (.bipush 41, 2) := by decide +kernel
theorem dX12_method_125 : decode cX12_method 125 = .ok (.if_icmp .eq 7, 3) := by decide +kernel
theorem dX12_method_132 : decode cX12_method 132 = .ok (.iconst 0, 1) := by decide +kernel
theorem dX12_method_133 : decode cX12_method 133 = .ok (.istore 5, 2) := by decide +kernel
theorem dX12_method_135 : decode cX12_method 135 = .ok (.iload 5, 2) := by decide +kernel
theorem dX12_method_137 : decode cX12_method 137 = .ok (.ifCond .eq 121, 3) := by decide +kernel
theorem dX12_method_258 : decode cX12_method 258 = .ok (.aload_n 0, 1) := by decide +kernel
theorem dX12_method_259 : decode cX12_method 259 = .ok (.bipush 41, 2) := by decide +kernel
theorem dX12_method_261 : decode cX12_method 261 = .ok (.invokevirtual 369, 3) := by decide +kernel
theorem dX12_method_264 : decode cX12_method 264 = .ok (.aload_n 0, 1) := by decide +kernel
theorem dX12_method_265 : decode cX12_method 265 = .ok (.getfield 90, 3) := by decide +kernel
theorem dX12_method_268 : decode cX12_method 268 = .ok (.iload_n 1, 1) := by decide +kernel
theorem dX12_method_269 : decode cX12_method 269 = .ok (.baload, 1) := by decide +kernel
theorem dX12_method_270 : decode cX12_method 270 = .ok (.ifCond .eq 10, 3) := by decide +kernel
theorem dX12_method_280 : decode cX12_method 280 = .ok (.aload_n 0, 1) := by decide +kernel
theorem dX12_method_281 : decode cX12_method 281 = .ok (.getfield 144, 3) := by decide +kernel
theorem dX12_method_284 : decode cX12_method 284 = .ok (.iload 4, 2) := by decide +kernel
theorem dX12_method_286 : decode cX12_method 286 = .ok (.aload_n 0, 1) := by decide +kernel
theorem dX12_method_287 : decode cX12_method 287 = .ok (.getfield 422, 3) := by decide +kernel
theorem dX12_method_290 : decode cX12_method 290 = .ok (.iastore, 1) := by decide +kernel
theorem dX12_method_291 : decode cX12_method 291 = .ok (.aload_n 0, 1) := by decide +kernel
theorem dX12_method_292 : decode cX12_method 292 = .ok (.dup, 1) := by decide +kernel
theorem dX12_method_293 : decode cX12_method 293 = .ok (.getfield 422, 3) := by decide +kernel
theorem dX12_method_296 : decode cX12_method 296 = .ok (.iconst 1, 1) := by decide +kernel
theorem dX12_method_297 : decode cX12_method 297 = .ok (.iadd, 1) := by decide +kernel
theorem dX12_method_298 : decode cX12_method 298 = .ok (.putfield 422, 3) := by decide +kernel
theorem dX12_method_301 : decode cX12_method 301 = .ok (.aload_n 0, 1) := by decide +kernel
theorem dX12_method_302 : decode cX12_method 302 = .ok (.iconst 0, 1) := by decide +kernel
theorem dX12_method_303 : decode cX12_method 303 = .ok (.putfield 366, 3) := by decide +kernel
theorem dX12_method_306 : decode cX12_method 306 = .ok (.aload_n 0, 1) := by decide +kernel
theorem dX12_method_307 : decode cX12_method 307 = .ok (.getfield 138, 3) := by decide +kernel
theorem dX12_method_310 : decode cX12_method 310 = .ok (.iload 4, 2) := by decide +kernel
theorem dX12_method_312 : decode cX12_method 312 = .ok (.aload_n 0, 1) := by decide +kernel
theorem dX12_method_313 : decode cX12_method 313 = .ok (.invokevirtual 425, 3) := by decide +kernel
theorem dX12_method_316 : decode cX12_method 316 = .ok (.iastore, 1) := by decide +kernel
theorem dX12_method_317 : decode cX12_method 317 = .ok (.aload_n 0, 1) := by decide +kernel
theorem dX12_method_318 : decode cX12_method 318 = .ok (.getfield 141, 3) := by decide +kernel
theorem dX12_method_321 : decode cX12_method 321 = .ok (.iload 4, 2) := by decide +kernel
theorem dX12_method_323 : decode cX12_method 323 = .ok (.aload_n 0, 1) := by decide +kernel
theorem dX12_method_324 : decode cX12_method 324 = .ok (.getfield 343, 3) := by decide +kernel
theorem dX12_method_327 : decode cX12_method 327 = .ok (.iconst 1, 1) := by decide +kernel
theorem dX12_method_328 : decode cX12_method 328 = .ok (.isub, 1) := by decide +kernel
theorem dX12_method_329 : decode cX12_method 329 = .ok (.iastore, 1) := by decide +kernel
theorem dX12_method_330 : decode cX12_method 330 = .ok (.return_, 1) := by decide +kernel
theorem dX12_method_273 : decode cX12_method 273 = .ok (.aload_n 0, 1) := by decide +kernel
theorem dX12_method_274 : decode cX12_method 274 = .ok (.bipush 59, 2) := by decide +kernel
theorem dX12_method_276 : decode cX12_method 276 = .ok (.invokevirtual 369, 3) := by decide +kernel
theorem dX12_method_279 : decode cX12_method 279 = .ok (.return_, 1) := by decide +kernel
theorem dX12_method_140 : decode cX12_method 140 = .ok (.aload_n 0, 1) := by decide +kernel
theorem dX12_method_141 : decode cX12_method 141 = .ok (.getfield 350, 3) := by decide +kernel
theorem dX12_method_144 : decode cX12_method 144 = .ok (.ifCond .ne 114, 3) := by decide +kernel
theorem dX12_method_147 : decode cX12_method 147 = .ok (.aload_n 0, 1) := by decide +kernel
theorem dX12_method_148 : decode cX12_method 148 = .ok (.invokevirtual 402, 3) := by decide +kernel
theorem dX12_method_151 : decode cX12_method 151 = .ok (.ifCond .eq 21, 3) := by decide +kernel
theorem dX12_method_172 : decode cX12_method 172 = .ok (.aload_n 0, 1) := by decide +kernel
theorem dX12_method_173 : decode cX12_method 173 = .ok (.getfield 153, 3) := by decide +kernel
theorem dX12_method_176 : decode cX12_method 176 = .ok (.aload_n 0, 1) := by decide +kernel
theorem dX12_method_177 : decode cX12_method 177 = .ok (.getfield 419, 3) := by decide +kernel
theorem dX12_method_180 : decode cX12_method 180 = .ok (.aload_n 0, 1) := by decide +kernel
theorem dX12_method_181 : decode cX12_method 181 = .ok (.invokevirtual 406, 3) := by decide +kernel
theorem dX12_method_184 : decode cX12_method 184 = .ok (.iastore, 1) := by decide +kernel
theorem dX12_method_185 : decode cX12_method 185 = .ok (.aload_n 0, 1) := by decide +kernel
theorem dX12_method_186 : decode cX12_method 186 = .ok (.invokevirtual 375, 3) := by decide +kernel
theorem dX12_method_189 : decode cX12_method 189 = .ok (.istore 6, 2) := by decide +kernel
theorem dX12_method_191 : decode cX12_method 191 = .ok (.aload_n 0, 1) := by decide +kernel
theorem dX12_method_192 : decode cX12_method 192 = .ok (.getfield 350, 3) := by decide +kernel
theorem dX12_method_195 : decode cX12_method 195 = .ok (.ifCond .le 4, 3) := by decide +kernel
theorem dX12_method_198 : decode cX12_method 198 = .ok (.return_, 1) := by decide +kernel
theorem dX12_method_154 : decode cX12_method 154 = .ok (.aload_n 0, 1) := by decide +kernel
theorem dX12_method_155 : decode cX12_method 155 = .ok (.getfield 135, 3) := by decide +kernel
theorem dX12_method_158 : decode cX12_method 158 = .ok (.iload 4, 2) := by decide +kernel
theorem dX12_method_160 : decode cX12_method 160 = .ok (.iaload, 1) := by decide +kernel
theorem dX12_method_161 : decode cX12_method 161 = .ok (.bipush 8, 2) := by decide +kernel
theorem dX12_method_163 : decode cX12_method 163 = .ok (.if_icmp .ne 9, 3) := by decide +kernel
theorem dX12_method_199 : decode cX12_method 199 = .ok (.aload_n 0, 1) := by decide +kernel
theorem dX12_method_200 : decode cX12_method 200 = .ok (.getfield 147, 3) := by decide +kernel
theorem dX12_method_203 : decode cX12_method 203 = .ok (.aload_n 0, 1) := by decide +kernel
theorem dX12_method_204 : decode cX12_method 204 = .ok (.getfield 419, 3) := by decide +kernel
theorem dX12_method_207 : decode cX12_method 207 = .ok (.aload_n 0, 1) := by decide +kernel
theorem dX12_method_208 : decode cX12_method 208 = .ok (.getfield 25, 3) := by decide +kernel
theorem dX12_method_211 : decode cX12_method 211 = .ok (.iload 6, 2) := by decide +kernel
theorem dX12_method_213 : decode cX12_method 213 = .ok (.iaload, 1) := by decide +kernel
theorem dX12_method_214 : decode cX12_method 214 = .ok (.iastore, 1) := by decide +kernel
theorem dX12_method_215 : decode cX12_method 215 = .ok (.aload_n 0, 1) := by decide +kernel
theorem dX12_method_216 : decode cX12_method 216 = .ok (.getfield 150, 3) := by decide +kernel
theorem dX12_method_219 : decode cX12_method 219 = .ok (.aload_n 0, 1) := by decide +kernel
theorem dX12_method_220 : decode cX12_method 220 = .ok (.getfield 419, 3) := by decide +kernel
theorem dX12_method_223 : decode cX12_method 223 = .ok (.iload 6, 2) := by decide +kernel
theorem dX12_method_225 : decode cX12_method 225 = .ok (.iastore, 1) := by decide +kernel
theorem dX12_method_226 : decode cX12_method 226 = .ok (.aload_n 0, 1) := by decide +kernel
theorem dX12_method_227 : decode cX12_method 227 = .ok (.dup, 1) := by decide +kernel
theorem dX12_method_228 : decode cX12_method 228 = .ok (.getfield 419, 3) := by decide +kernel
theorem dX12_method_231 : decode cX12_method 231 = .ok (.iconst 1, 1) := by decide +kernel
theorem dX12_method_232 : decode cX12_method 232 = .ok (.iadd, 1) := by decide +kernel
theorem dX12_method_233 : decode cX12_method 233 = .ok (.putfield 419, 3) := by decide +kernel
theorem dX12_method_236 : decode cX12_method 236 = .ok (.aload_n 0, 1) := by decide +kernel
theorem dX12_method_237 : decode cX12_method 237 = .ok (.getfield 135, 3) := by decide +kernel
theorem dX12_method_240 : decode cX12_method 240 = .ok (.iload 4, 2) := by decide +kernel
theorem dX12_method_242 : decode cX12_method 242 = .ok (.dup2, 1) := by decide +kernel
theorem dX12_method_243 : decode cX12_method 243 = .ok (.iaload, 1) := by decide +kernel
theorem dX12_method_244 : decode cX12_method 244 = .ok (.iconst 1, 1) := by decide +kernel
theorem dX12_method_245 : decode cX12_method 245 = .ok (.iadd, 1) := by decide +kernel
theorem dX12_method_246 : decode cX12_method 246 = .ok (.iastore, 1) := by decide +kernel
theorem dX12_method_247 : decode cX12_method 247 = .ok (.aload_n 0, 1) := by decide +kernel
theorem dX12_method_248 : decode cX12_method 248 = .ok (.bipush 44, 2) := by decide +kernel
theorem dX12_method_250 : decode cX12_method 250 = .ok (.invokevirtual 378, 3) := by decide +kernel
theorem dX12_method_253 : decode cX12_method 253 = .ok (.istore 5, 2) := by decide +kernel
theorem dX12_method_255 : decode cX12_method 255 = .ok (.goto (-120), 3) := by decide +kernel
theorem dX12_method_166 : decode cX12_method 166 = .ok (.aload_n 0, 1) := by decide +kernel
theorem dX12_method_167 : decode cX12_method 167 = .ok (.iconst 2, 1) := by decide +kernel
theorem dX12_method_168 : decode cX12_method 168 = .ok (.invokevirtual 356, 3) := by decide +kernel
theorem dX12_method_171 : decode cX12_method 171 = .ok (.return_, 1) := by decide +kernel
theorem dX12_method_128 : decode cX12_method 128 = .ok (.iconst 1, 1) := by decide +kernel
theorem dX12_method_129 : decode cX12_method 129 = .ok (.goto 4, 3) := by decide +kernel
set_option maxHeartbeats 2000000 in
set_option maxRecDepth 100000 in
/-- method(d, y, n), no fault ahead -/
theorem RM_method (l : Launch) (G : pT) (h0 : Nat) (a : Nat → Nat) (F : Nat → Int32) (B : Nat → Nat → Int32) (at0 : Nat) (T : Nat) (nm : Nat) (nd : Nat) (wr : Nat) (lz : Nat) (dc : Nat) (fd : Nat) (md : Nat) (pr : Nat) (bk : Nat) (mf : Nat) (mm : Nat) (lk : Nat) (ne0 : Int32) (K : Nat → Int32) (d : Nat) (tn : Nat) (y : Int32) (hat : at0 ≤ T) (hT : T ≤ 5000) (hK : K T = 0 ∨ K T = 3) (hV : NamOK K (B 5) T nm) (hnd : nd ≤ 2 * at0) (hwr : wr ≤ at0) (hls : lz ≤ at0) (hpr : pr ≤ at0) (hlk : lk ≤ 60) (hdc : 7 ≤ dc ∧ dc ≤ 37) (hbk : bk ≤ md) (hmd : md + 240 ≤ 30 * dc + mm) (hfd : fd + 160 ≤ 20 * dc + mf) (hmf : mf ≤ 20) (hmm : mm ≤ 29) (hd : d + 1 = dc ∧ 7 ≤ d) (htn : tn + 1 ≤ at0) (hkn : K tn = 1) (hyr : OrY y wr) (hps : PS T nm wr lz dc fd md pr bk B) (hfm : FrM K T wr B nd md) (hy : tkRow (B 19) wr T) (hlr : lsRow (B 22) (B 23) lz T) : PM l G pX0 yX12_method cX12_method 7 none ({ frames := 640, cells := 0, slots := 0, locals := 50000 }) [.ref h0, .int (nI d), .int y, .int (nI tn)] (mW G h0 a (upd (upd (upd (upd (upd (upd (upd (upd (upd (upd (upd (upd (upd (upd F 15 0) 27 (nI nd)) 31 (nI wr)) 34 (nI lz)) 35 (nI dc)) 44 (nI fd)) 49 (nI md)) 59 (nI bk)) 60 (nI pr)) 64 (nI at0)) 65 ne0) 66 (nI lk)) 67 (nI mf)) 68 (nI mm)) (updA B 2 K)) (fun (v : Option Value) (u : Nat × Nat × Int32 × Nat × Nat × Nat × Nat × Nat × Nat × Nat × Nat × Nat × Nat × Int32 × (Nat → Nat → Int32)) => v = none ∧ (at0 ≤ u.1) ∧ (u.1 ≤ T) ∧ (u.2.1 ≤ 100) ∧ (at0 + 1 ≤ u.1 + u.2.1) ∧ (Kq 0 B u.2.2.2.2.2.2.2.2.2.2.2.2.2.2) ∧ (If (u.2.1 = 0) ((u.2.2.2.1 ≤ 2 * u.1 ∧ u.2.2.2.2.1 ≤ u.1 ∧ u.2.2.2.2.2.1 ≤ u.1 ∧ u.2.2.2.2.2.2.2.2.2.1 ≤ u.1 ∧ u.2.2.2.2.2.2.1 ≤ 37 ∧ dc ≤ u.2.2.2.2.2.2.1 ∧ u.2.2.2.2.2.2.2.2.2.2.1 ≤ u.2.2.2.2.2.2.2.2.1 ∧ wr ≤ u.2.2.2.2.1 ∧ lz ≤ u.2.2.2.2.2.1) ∧ (u.2.2.2.2.2.2.2.2.1 + 240 ≤ 30 * u.2.2.2.2.2.2.1 + u.2.2.2.2.2.2.2.2.2.2.2.2.1 ∧ u.2.2.2.2.2.2.2.1 + 160 ≤ 20 * u.2.2.2.2.2.2.1 + u.2.2.2.2.2.2.2.2.2.2.2.1 ∧ u.2.2.2.2.2.2.2.2.2.2.2.1 ≤ 20 ∧ u.2.2.2.2.2.2.2.2.2.2.2.2.1 ≤ 30 ∧ u.2.2.2.2.2.2.1 = dc) ∧ PS T nm u.2.2.2.2.1 u.2.2.2.2.2.1 u.2.2.2.2.2.2.1 u.2.2.2.2.2.2.2.1 u.2.2.2.2.2.2.2.2.1 u.2.2.2.2.2.2.2.2.2.1 u.2.2.2.2.2.2.2.2.2.2.1 u.2.2.2.2.2.2.2.2.2.2.2.2.2.2 ∧ FrM K T u.2.2.2.2.1 u.2.2.2.2.2.2.2.2.2.2.2.2.2.2 u.2.2.2.1 u.2.2.2.2.2.2.2.2.1 ∧ tkRow (u.2.2.2.2.2.2.2.2.2.2.2.2.2.2 19) u.2.2.2.2.1 T ∧ lsRow (u.2.2.2.2.2.2.2.2.2.2.2.2.2.2 22) (u.2.2.2.2.2.2.2.2.2.2.2.2.2.2 23) u.2.2.2.2.2.1 T))) (fun u => (mW G h0 a (upd (upd (upd (upd (upd (upd (upd (upd (upd (upd (upd (upd (upd (upd (upd F 15 (nI u.2.1)) 16 u.2.2.1) 27 (nI u.2.2.2.1)) 31 (nI u.2.2.2.2.1)) 34 (nI u.2.2.2.2.2.1)) 35 (nI u.2.2.2.2.2.2.1)) 44 (nI u.2.2.2.2.2.2.2.1)) 49 (nI u.2.2.2.2.2.2.2.2.1)) 59 (nI u.2.2.2.2.2.2.2.2.2.2.1)) 60 (nI u.2.2.2.2.2.2.2.2.2.1)) 64 (nI u.1)) 65 u.2.2.2.2.2.2.2.2.2.2.2.2.2.1) 66 (nI lk)) 67 (nI u.2.2.2.2.2.2.2.2.2.2.2.1)) 68 (nI u.2.2.2.2.2.2.2.2.2.2.2.2.1)) (updA u.2.2.2.2.2.2.2.2.2.2.2.2.2.2 2 K))) := by
  intro sz
  refine Met.ofW (cc := cX12_method) (maxL := 7) (ret := none) (by decide) rfl ?_
  intro p e s m args below meth c s₁ B9 hml hv
  obtain ⟨rfl, hsz, hP, hD0, hE, hX⟩ := hv
  have hx := B9.exec
  have hb := B9.bytes
  have hr := B9.returns
  have hts := atoms_spec (ws := Cond.code yX12_method cX12_method 7 none :: pw) B9.pre
  have hq : ∀ w ∈ pw, w.before _ s = true := fun w h => hts w (List.mem_cons_of_mem _ h)
  have hown : s.vm.findClass RX12 = some m.cls := findClass_of_methodNamed B9.named
  have hlocks := B9.notSynchronized
  subst hsz
  have hD := hD0.self (sz := s.heap.size)
  have hA : ∀ q : Nat, s.heap.size ≤ q → va_A (mW G h0 a (upd (upd (upd (upd (upd (upd (upd (upd (upd (upd (upd (upd (upd (upd F 15 0) 27 (nI nd)) 31 (nI wr)) 34 (nI lz)) 35 (nI dc)) 44 (nI fd)) 49 (nI md)) 59 (nI bk)) 60 (nI pr)) 64 (nI at0)) 65 ne0) 66 (nI lk)) 67 (nI mf)) 68 (nI mm)) (updA B 2 K)) s.heap.size q := fun q h => Or.inr h
  have hP : va_P G.1 pCl (mW G h0 a (upd (upd (upd (upd (upd (upd (upd (upd (upd (upd (upd (upd (upd (upd F 15 0) 27 (nI nd)) 31 (nI wr)) 34 (nI lz)) 35 (nI dc)) 44 (nI fd)) 49 (nI md)) 59 (nI bk)) 60 (nI pr)) 64 (nI at0)) 65 ne0) 66 (nI lk)) 67 (nI mf)) 68 (nI mm)) (updA B 2 K)) s.heap := hP
  generalize va_A (mW G h0 a (upd (upd (upd (upd (upd (upd (upd (upd (upd (upd (upd (upd (upd (upd F 15 0) 27 (nI nd)) 31 (nI wr)) 34 (nI lz)) 35 (nI dc)) 44 (nI fd)) 49 (nI md)) 59 (nI bk)) 60 (nI pr)) 64 (nI at0)) 65 ne0) 66 (nI lk)) 67 (nI mf)) 68 (nI mm)) (updA B 2 K)) s.heap.size = A at hD hE hA ⊢
  have hS : va_S A s.heap s.heap [] := va_S.rf
  have hl := lv_entry ([.ref h0, .int (nI d), .int y, .int (nI tn)]) (n := 7) (Nat.le_of_ble_eq_true rfl)
  rw [lg_entry_eq]
  generalize (lg_sl ([.ref h0, .int (nI d), .int y, .int (nI tn)]) ++ List.replicate (7 - (lg_sl ([.ref h0, .int (nI d), .int y, .int (nI tn)])).length) Slot.unset).toArray = ls at hl ⊢
  have hl : lv_has ls 7 [(0, .ref h0), (1, .int (nI d)), (2, .int y), (3, .int (nI tn))] := hl
  have hkq1 : Kq 0 B B := Kq.rfl
  refine lv_aload_n hx hb dX12_method_0 rfl (lv_at hl 0 rfl) ?_
  refine r_get (v := .int (nI md)) hx hb hown hq hE hP 49 416 tFX12_49 (by decide) pw_1721 rfl dX12_method_1 ?_
  refine lv_istore (lv' := [(4, .int (nI md)), (0, .ref h0), (1, .int (nI d)), (2, .int y), (3, .int (nI tn))]) hx hb dX12_method_4 hl (by decide) rfl (fun ls hl => ?_)
  refine lv_aload_n hx hb dX12_method_6 rfl (lv_at hl 1 rfl) ?_
  refine lv_dup hx hb dX12_method_7 rfl ?_
  refine r_get (v := .int (nI md)) hx hb hown hq hE hP 49 416 tFX12_49 (by decide) pw_1721 rfl dX12_method_8 ?_
  refine lv_iconst (v := 1) hx hb dX12_method_11 (by decide) ?_
  refine lv_iadd hx hb dX12_method_12 ?_
  refine lv_topi (fun x2 e3 => ?_)
  obtain rfl : x2 = nI (md + 1) := e3.trans (nI_add (md) (1))
  refine r_put (v := (nI (md + 1))) (ty := .int) hx hb hown hq hE hP hD hS 49 416 tFX12_49 (by decide) pw_1721 (by decide) rfl rfl (ms_49 a _ _) dX12_method_13 (fun H locs hP hD hS => ?_)
  refine lv_aload_n hx hb dX12_method_16 rfl (lv_at hl 1 rfl) ?_
  refine lv_dup hx hb dX12_method_17 rfl ?_
  refine r_get (v := .int (nI mm)) hx hb hown hq hE hP 68 393 tFX12_68 (by decide) pw_1722 rfl dX12_method_18 ?_
  refine lv_iconst (v := 1) hx hb dX12_method_21 (by decide) ?_
  refine lv_iadd hx hb dX12_method_22 ?_
  refine lv_topi (fun x4 e5 => ?_)
  obtain rfl : x4 = nI (mm + 1) := e5.trans (nI_add (mm) (1))
  refine r_put (v := (nI (mm + 1))) (ty := .int) hx hb hown hq hE hP hD hS 68 393 tFX12_68 (by decide) pw_1722 (by decide) rfl rfl (ms_68 a _ _) dX12_method_23 (fun H locs hP hD hS => ?_)
  refine lv_aload_n hx hb dX12_method_26 rfl (lv_at hl 1 rfl) ?_
  refine r_get (v := .ref (a 36)) hx hb hown hq hE hP 50 120 tFX12_50 (by decide) pw_1467 rfl dX12_method_27 ?_
  refine lv_iload hx hb dX12_method_30 (lv_at hl 0 rfl) ?_
  refine lv_iload_n hx hb dX12_method_32 rfl (lv_at hl 2 rfl) ?_
  refine r_sti (f := (B 36)) (j := md) hx hb hE hP hD hS 36 (ma_36 G a _) rfl (mas_36 G a _) (by omega) (by decide) dX12_method_33 (fun H locs hP hD hS => ?_)
  have hP : va_P G.1 pCl (mW G h0 a (upd (upd (upd (upd (upd (upd (upd (upd (upd (upd (upd (upd (upd (upd F 15 0) 27 (nI nd)) 31 (nI wr)) 34 (nI lz)) 35 (nI dc)) 44 (nI fd)) 49 (nI (md + 1))) 59 (nI bk)) 60 (nI pr)) 64 (nI at0)) 65 ne0) 66 (nI lk)) 67 (nI mf)) 68 (nI (mm + 1))) (updA (stR B 36 md (nI d)) 2 K)) _ := hP
  have hD : va_D A (mW G h0 a (upd (upd (upd (upd (upd (upd (upd (upd (upd (upd (upd (upd (upd (upd F 15 0) 27 (nI nd)) 31 (nI wr)) 34 (nI lz)) 35 (nI dc)) 44 (nI fd)) 49 (nI (md + 1))) 59 (nI bk)) 60 (nI pr)) 64 (nI at0)) 65 ne0) 66 (nI lk)) 67 (nI mf)) 68 (nI (mm + 1))) (updA (stR B 36 md (nI d)) 2 K)) := mW_D hD
  have hkq6 : Kq 0 B (stR B 36 md (nI d)) := (Kq.st hkq1 (by omega))
  have hty7 : tkRow ((stR B 36 md (nI d)) 19) wr T := hy
  have hps8 : PS T nm wr lz dc fd md pr bk (stR B 36 md (nI d)) := (PS.same hps (by omega) (by omega) (fun r i q1 q2 q3 => st_ne (fun e => by rw [e.1, e.2] at q3; exact absurd (show md < md from q3) (by omega))))
  have hfm9 : FrM K T wr (stR B 36 md (nI d)) nd md := (FrM.same hfm (by omega) (fun j i q1 q2 q3 => st_ne (by omega)) (fun i q => st_ne (by omega)))
  have hlr10 : lsRow ((stR B 36 md (nI d)) 22) ((stR B 36 md (nI d)) 23) lz T := hlr
  have hce11 : (stR B 36 md (nI d)) 36 md = (nI d) := st_eq
  refine lv_aload_n hx hb dX12_method_34 rfl (lv_at hl 1 rfl) ?_
  refine r_get (v := .ref (a 37)) hx hb hown hq hE hP 51 123 tFX12_51 (by decide) pw_1468 rfl dX12_method_35 ?_
  refine lv_iload hx hb dX12_method_38 (lv_at hl 0 rfl) ?_
  refine lv_aload_n hx hb dX12_method_40 rfl (lv_at hl 1 rfl) ?_
  refine r_get (v := .ref (a 5)) hx hb hown hq hE hP 8 25 tFX12_8 (by decide) pw_1435 rfl dX12_method_41 ?_
  refine lv_iload_n hx hb dX12_method_44 rfl (lv_at hl 4 rfl) ?_
  refine r_ldi (f := ((stR B 36 md (nI d)) 5)) (j := tn) hx hb hE hP 5 (ma_5 G a _) rfl (by omega) (by decide) dX12_method_45 ?_
  obtain ⟨v14, h15, e16⟩ := hV tn (by omega) hkn
  refine lv_topi (fun x12 e13 => ?_)
  obtain rfl : x12 = nI v14 := e13.trans ((congrFun (hkq6 5 (by omega)) tn).trans e16)
  refine r_sti (f := ((stR B 36 md (nI d)) 37)) (j := md) hx hb hE hP hD hS 37 (ma_37 G a _) rfl (mas_37 G a _) (by omega) (by decide) dX12_method_46 (fun H locs hP hD hS => ?_)
  have hP : va_P G.1 pCl (mW G h0 a (upd (upd (upd (upd (upd (upd (upd (upd (upd (upd (upd (upd (upd (upd F 15 0) 27 (nI nd)) 31 (nI wr)) 34 (nI lz)) 35 (nI dc)) 44 (nI fd)) 49 (nI (md + 1))) 59 (nI bk)) 60 (nI pr)) 64 (nI at0)) 65 ne0) 66 (nI lk)) 67 (nI mf)) 68 (nI (mm + 1))) (updA (stR (stR B 36 md (nI d)) 37 md (nI v14)) 2 K)) _ := hP
  have hD : va_D A (mW G h0 a (upd (upd (upd (upd (upd (upd (upd (upd (upd (upd (upd (upd (upd (upd F 15 0) 27 (nI nd)) 31 (nI wr)) 34 (nI lz)) 35 (nI dc)) 44 (nI fd)) 49 (nI (md + 1))) 59 (nI bk)) 60 (nI pr)) 64 (nI at0)) 65 ne0) 66 (nI lk)) 67 (nI mf)) 68 (nI (mm + 1))) (updA (stR (stR B 36 md (nI d)) 37 md (nI v14)) 2 K)) := mW_D hD
  have hkq17 : Kq 0 B (stR (stR B 36 md (nI d)) 37 md (nI v14)) := (Kq.st hkq6 (by omega))
  have hce18 : (stR (stR B 36 md (nI d)) 37 md (nI v14)) 36 md = (nI d) := ((st_ne (by omega)).trans hce11)
  have hty19 : tkRow ((stR (stR B 36 md (nI d)) 37 md (nI v14)) 19) wr T := hty7
  have hps20 : PS T nm wr lz dc fd md pr bk (stR (stR B 36 md (nI d)) 37 md (nI v14)) := (PS.same hps8 (by omega) (by omega) (fun r i q1 q2 q3 => st_ne (fun e => by rw [e.1, e.2] at q3; exact absurd (show md < md from q3) (by omega))))
  have hfm21 : FrM K T wr (stR (stR B 36 md (nI d)) 37 md (nI v14)) nd md := (FrM.same hfm9 (by omega) (fun j i q1 q2 q3 => st_ne (by omega)) (fun i q => st_ne (by omega)))
  have hlr22 : lsRow ((stR (stR B 36 md (nI d)) 37 md (nI v14)) 22) ((stR (stR B 36 md (nI d)) 37 md (nI v14)) 23) lz T := hlr10
  have hce23 : (stR (stR B 36 md (nI d)) 37 md (nI v14)) 37 md = (nI v14) := st_eq
  refine lv_aload_n hx hb dX12_method_47 rfl (lv_at hl 1 rfl) ?_
  refine r_get (v := .ref (a 38)) hx hb hown hq hE hP 52 126 tFX12_52 (by decide) pw_1469 rfl dX12_method_48 ?_
  refine lv_iload hx hb dX12_method_51 (lv_at hl 0 rfl) ?_
  refine lv_iload_n hx hb dX12_method_53 rfl (lv_at hl 4 rfl) ?_
  refine r_sti (f := ((stR (stR B 36 md (nI d)) 37 md (nI v14)) 38)) (j := md) hx hb hE hP hD hS 38 (ma_38 G a _) rfl (mas_38 G a _) (by omega) (by decide) dX12_method_54 (fun H locs hP hD hS => ?_)
  have hP : va_P G.1 pCl (mW G h0 a (upd (upd (upd (upd (upd (upd (upd (upd (upd (upd (upd (upd (upd (upd F 15 0) 27 (nI nd)) 31 (nI wr)) 34 (nI lz)) 35 (nI dc)) 44 (nI fd)) 49 (nI (md + 1))) 59 (nI bk)) 60 (nI pr)) 64 (nI at0)) 65 ne0) 66 (nI lk)) 67 (nI mf)) 68 (nI (mm + 1))) (updA (stR (stR (stR B 36 md (nI d)) 37 md (nI v14)) 38 md (nI tn)) 2 K)) _ := hP
  have hD : va_D A (mW G h0 a (upd (upd (upd (upd (upd (upd (upd (upd (upd (upd (upd (upd (upd (upd F 15 0) 27 (nI nd)) 31 (nI wr)) 34 (nI lz)) 35 (nI dc)) 44 (nI fd)) 49 (nI (md + 1))) 59 (nI bk)) 60 (nI pr)) 64 (nI at0)) 65 ne0) 66 (nI lk)) 67 (nI mf)) 68 (nI (mm + 1))) (updA (stR (stR (stR B 36 md (nI d)) 37 md (nI v14)) 38 md (nI tn)) 2 K)) := mW_D hD
  have hkq24 : Kq 0 B (stR (stR (stR B 36 md (nI d)) 37 md (nI v14)) 38 md (nI tn)) := (Kq.st hkq17 (by omega))
  have hce25 : (stR (stR (stR B 36 md (nI d)) 37 md (nI v14)) 38 md (nI tn)) 36 md = (nI d) := ((st_ne (by omega)).trans hce18)
  have hce26 : (stR (stR (stR B 36 md (nI d)) 37 md (nI v14)) 38 md (nI tn)) 37 md = (nI v14) := ((st_ne (by omega)).trans hce23)
  have hty27 : tkRow ((stR (stR (stR B 36 md (nI d)) 37 md (nI v14)) 38 md (nI tn)) 19) wr T := hty19
  have hps28 : PS T nm wr lz dc fd md pr bk (stR (stR (stR B 36 md (nI d)) 37 md (nI v14)) 38 md (nI tn)) := (PS.same hps20 (by omega) (by omega) (fun r i q1 q2 q3 => st_ne (fun e => by rw [e.1, e.2] at q3; exact absurd (show md < md from q3) (by omega))))
  have hfm29 : FrM K T wr (stR (stR (stR B 36 md (nI d)) 37 md (nI v14)) 38 md (nI tn)) nd md := (FrM.same hfm21 (by omega) (fun j i q1 q2 q3 => st_ne (by omega)) (fun i q => st_ne (by omega)))
  have hlr30 : lsRow ((stR (stR (stR B 36 md (nI d)) 37 md (nI v14)) 38 md (nI tn)) 22) ((stR (stR (stR B 36 md (nI d)) 37 md (nI v14)) 38 md (nI tn)) 23) lz T := hlr22
  have hce31 : (stR (stR (stR B 36 md (nI d)) 37 md (nI v14)) 38 md (nI tn)) 38 md = (nI tn) := st_eq
  refine lv_aload_n hx hb dX12_method_55 rfl (lv_at hl 1 rfl) ?_
  refine r_get (v := .ref (a 39)) hx hb hown hq hE hP 53 129 tFX12_53 (by decide) pw_1470 rfl dX12_method_56 ?_
  refine lv_iload hx hb dX12_method_59 (lv_at hl 0 rfl) ?_
  refine lv_iload_n hx hb dX12_method_61 rfl (lv_at hl 3 rfl) ?_
  refine r_sti (f := ((stR (stR (stR B 36 md (nI d)) 37 md (nI v14)) 38 md (nI tn)) 39)) (j := md) hx hb hE hP hD hS 39 (ma_39 G a _) rfl (mas_39 G a _) (by omega) (by decide) dX12_method_62 (fun H locs hP hD hS => ?_)
  have hP : va_P G.1 pCl (mW G h0 a (upd (upd (upd (upd (upd (upd (upd (upd (upd (upd (upd (upd (upd (upd F 15 0) 27 (nI nd)) 31 (nI wr)) 34 (nI lz)) 35 (nI dc)) 44 (nI fd)) 49 (nI (md + 1))) 59 (nI bk)) 60 (nI pr)) 64 (nI at0)) 65 ne0) 66 (nI lk)) 67 (nI mf)) 68 (nI (mm + 1))) (updA (stR (stR (stR (stR B 36 md (nI d)) 37 md (nI v14)) 38 md (nI tn)) 39 md y) 2 K)) _ := hP
  have hD : va_D A (mW G h0 a (upd (upd (upd (upd (upd (upd (upd (upd (upd (upd (upd (upd (upd (upd F 15 0) 27 (nI nd)) 31 (nI wr)) 34 (nI lz)) 35 (nI dc)) 44 (nI fd)) 49 (nI (md + 1))) 59 (nI bk)) 60 (nI pr)) 64 (nI at0)) 65 ne0) 66 (nI lk)) 67 (nI mf)) 68 (nI (mm + 1))) (updA (stR (stR (stR (stR B 36 md (nI d)) 37 md (nI v14)) 38 md (nI tn)) 39 md y) 2 K)) := mW_D hD
  have hkq32 : Kq 0 B (stR (stR (stR (stR B 36 md (nI d)) 37 md (nI v14)) 38 md (nI tn)) 39 md y) := (Kq.st hkq24 (by omega))
  have hce33 : (stR (stR (stR (stR B 36 md (nI d)) 37 md (nI v14)) 38 md (nI tn)) 39 md y) 36 md = (nI d) := ((st_ne (by omega)).trans hce25)
  have hce34 : (stR (stR (stR (stR B 36 md (nI d)) 37 md (nI v14)) 38 md (nI tn)) 39 md y) 37 md = (nI v14) := ((st_ne (by omega)).trans hce26)
  have hce35 : (stR (stR (stR (stR B 36 md (nI d)) 37 md (nI v14)) 38 md (nI tn)) 39 md y) 38 md = (nI tn) := ((st_ne (by omega)).trans hce31)
  have hty36 : tkRow ((stR (stR (stR (stR B 36 md (nI d)) 37 md (nI v14)) 38 md (nI tn)) 39 md y) 19) wr T := hty27
  have hps37 : PS T nm wr lz dc fd md pr bk (stR (stR (stR (stR B 36 md (nI d)) 37 md (nI v14)) 38 md (nI tn)) 39 md y) := (PS.same hps28 (by omega) (by omega) (fun r i q1 q2 q3 => st_ne (fun e => by rw [e.1, e.2] at q3; exact absurd (show md < md from q3) (by omega))))
  have hfm38 : FrM K T wr (stR (stR (stR (stR B 36 md (nI d)) 37 md (nI v14)) 38 md (nI tn)) 39 md y) nd md := (FrM.same hfm29 (by omega) (fun j i q1 q2 q3 => st_ne (by omega)) (fun i q => st_ne (by omega)))
  have hlr39 : lsRow ((stR (stR (stR (stR B 36 md (nI d)) 37 md (nI v14)) 38 md (nI tn)) 39 md y) 22) ((stR (stR (stR (stR B 36 md (nI d)) 37 md (nI v14)) 38 md (nI tn)) 39 md y) 23) lz T := hlr30
  have hce40 : (stR (stR (stR (stR B 36 md (nI d)) 37 md (nI v14)) 38 md (nI tn)) 39 md y) 39 md = y := st_eq
  refine lv_aload_n hx hb dX12_method_63 rfl (lv_at hl 1 rfl) ?_
  refine r_get (v := .ref (a 40)) hx hb hown hq hE hP 54 132 tFX12_54 (by decide) pw_1471 rfl dX12_method_64 ?_
  refine lv_iload hx hb dX12_method_67 (lv_at hl 0 rfl) ?_
  refine lv_aload_n hx hb dX12_method_69 rfl (lv_at hl 1 rfl) ?_
  refine r_get (v := .int (nI pr)) hx hb hown hq hE hP 60 419 tFX12_60 (by decide) pw_1723 rfl dX12_method_70 ?_
  refine r_sti (f := ((stR (stR (stR (stR B 36 md (nI d)) 37 md (nI v14)) 38 md (nI tn)) 39 md y) 40)) (j := md) hx hb hE hP hD hS 40 (ma_40 G a _) rfl (mas_40 G a _) (by omega) (by decide) dX12_method_73 (fun H locs hP hD hS => ?_)
  have hP : va_P G.1 pCl (mW G h0 a (upd (upd (upd (upd (upd (upd (upd (upd (upd (upd (upd (upd (upd (upd F 15 0) 27 (nI nd)) 31 (nI wr)) 34 (nI lz)) 35 (nI dc)) 44 (nI fd)) 49 (nI (md + 1))) 59 (nI bk)) 60 (nI pr)) 64 (nI at0)) 65 ne0) 66 (nI lk)) 67 (nI mf)) 68 (nI (mm + 1))) (updA (stR (stR (stR (stR (stR B 36 md (nI d)) 37 md (nI v14)) 38 md (nI tn)) 39 md y) 40 md (nI pr)) 2 K)) _ := hP
  have hD : va_D A (mW G h0 a (upd (upd (upd (upd (upd (upd (upd (upd (upd (upd (upd (upd (upd (upd F 15 0) 27 (nI nd)) 31 (nI wr)) 34 (nI lz)) 35 (nI dc)) 44 (nI fd)) 49 (nI (md + 1))) 59 (nI bk)) 60 (nI pr)) 64 (nI at0)) 65 ne0) 66 (nI lk)) 67 (nI mf)) 68 (nI (mm + 1))) (updA (stR (stR (stR (stR (stR B 36 md (nI d)) 37 md (nI v14)) 38 md (nI tn)) 39 md y) 40 md (nI pr)) 2 K)) := mW_D hD
  have hkq41 : Kq 0 B (stR (stR (stR (stR (stR B 36 md (nI d)) 37 md (nI v14)) 38 md (nI tn)) 39 md y) 40 md (nI pr)) := (Kq.st hkq32 (by omega))
  have hce42 : (stR (stR (stR (stR (stR B 36 md (nI d)) 37 md (nI v14)) 38 md (nI tn)) 39 md y) 40 md (nI pr)) 36 md = (nI d) := ((st_ne (by omega)).trans hce33)
  have hce43 : (stR (stR (stR (stR (stR B 36 md (nI d)) 37 md (nI v14)) 38 md (nI tn)) 39 md y) 40 md (nI pr)) 37 md = (nI v14) := ((st_ne (by omega)).trans hce34)
  have hce44 : (stR (stR (stR (stR (stR B 36 md (nI d)) 37 md (nI v14)) 38 md (nI tn)) 39 md y) 40 md (nI pr)) 38 md = (nI tn) := ((st_ne (by omega)).trans hce35)
  have hce45 : (stR (stR (stR (stR (stR B 36 md (nI d)) 37 md (nI v14)) 38 md (nI tn)) 39 md y) 40 md (nI pr)) 39 md = y := ((st_ne (by omega)).trans hce40)
  have hty46 : tkRow ((stR (stR (stR (stR (stR B 36 md (nI d)) 37 md (nI v14)) 38 md (nI tn)) 39 md y) 40 md (nI pr)) 19) wr T := hty36
  have hps47 : PS T nm wr lz dc fd md pr bk (stR (stR (stR (stR (stR B 36 md (nI d)) 37 md (nI v14)) 38 md (nI tn)) 39 md y) 40 md (nI pr)) := (PS.same hps37 (by omega) (by omega) (fun r i q1 q2 q3 => st_ne (fun e => by rw [e.1, e.2] at q3; exact absurd (show md < md from q3) (by omega))))
  have hfm48 : FrM K T wr (stR (stR (stR (stR (stR B 36 md (nI d)) 37 md (nI v14)) 38 md (nI tn)) 39 md y) 40 md (nI pr)) nd md := (FrM.same hfm38 (by omega) (fun j i q1 q2 q3 => st_ne (by omega)) (fun i q => st_ne (by omega)))
  have hlr49 : lsRow ((stR (stR (stR (stR (stR B 36 md (nI d)) 37 md (nI v14)) 38 md (nI tn)) 39 md y) 40 md (nI pr)) 22) ((stR (stR (stR (stR (stR B 36 md (nI d)) 37 md (nI v14)) 38 md (nI tn)) 39 md y) 40 md (nI pr)) 23) lz T := hlr39
  have hce50 : (stR (stR (stR (stR (stR B 36 md (nI d)) 37 md (nI v14)) 38 md (nI tn)) 39 md y) 40 md (nI pr)) 40 md = (nI pr) := st_eq
  refine lv_aload_n hx hb dX12_method_74 rfl (lv_at hl 1 rfl) ?_
  refine r_get (v := .ref (a 41)) hx hb hown hq hE hP 55 135 tFX12_55 (by decide) pw_1472 rfl dX12_method_75 ?_
  refine lv_iload hx hb dX12_method_78 (lv_at hl 0 rfl) ?_
  refine lv_iconst (v := 0) hx hb dX12_method_80 (by decide) ?_
  refine r_sti (f := ((stR (stR (stR (stR (stR B 36 md (nI d)) 37 md (nI v14)) 38 md (nI tn)) 39 md y) 40 md (nI pr)) 41)) (j := md) hx hb hE hP hD hS 41 (ma_41 G a _) rfl (mas_41 G a _) (by omega) (by decide) dX12_method_81 (fun H locs hP hD hS => ?_)
  have hP : va_P G.1 pCl (mW G h0 a (upd (upd (upd (upd (upd (upd (upd (upd (upd (upd (upd (upd (upd (upd F 15 0) 27 (nI nd)) 31 (nI wr)) 34 (nI lz)) 35 (nI dc)) 44 (nI fd)) 49 (nI (md + 1))) 59 (nI bk)) 60 (nI pr)) 64 (nI at0)) 65 ne0) 66 (nI lk)) 67 (nI mf)) 68 (nI (mm + 1))) (updA (stR (stR (stR (stR (stR (stR B 36 md (nI d)) 37 md (nI v14)) 38 md (nI tn)) 39 md y) 40 md (nI pr)) 41 md 0) 2 K)) _ := hP
  have hD : va_D A (mW G h0 a (upd (upd (upd (upd (upd (upd (upd (upd (upd (upd (upd (upd (upd (upd F 15 0) 27 (nI nd)) 31 (nI wr)) 34 (nI lz)) 35 (nI dc)) 44 (nI fd)) 49 (nI (md + 1))) 59 (nI bk)) 60 (nI pr)) 64 (nI at0)) 65 ne0) 66 (nI lk)) 67 (nI mf)) 68 (nI (mm + 1))) (updA (stR (stR (stR (stR (stR (stR B 36 md (nI d)) 37 md (nI v14)) 38 md (nI tn)) 39 md y) 40 md (nI pr)) 41 md 0) 2 K)) := mW_D hD
  have hkq51 : Kq 0 B (stR (stR (stR (stR (stR (stR B 36 md (nI d)) 37 md (nI v14)) 38 md (nI tn)) 39 md y) 40 md (nI pr)) 41 md 0) := (Kq.st hkq41 (by omega))
  have hce52 : (stR (stR (stR (stR (stR (stR B 36 md (nI d)) 37 md (nI v14)) 38 md (nI tn)) 39 md y) 40 md (nI pr)) 41 md 0) 36 md = (nI d) := ((st_ne (by omega)).trans hce42)
  have hce53 : (stR (stR (stR (stR (stR (stR B 36 md (nI d)) 37 md (nI v14)) 38 md (nI tn)) 39 md y) 40 md (nI pr)) 41 md 0) 37 md = (nI v14) := ((st_ne (by omega)).trans hce43)
  have hce54 : (stR (stR (stR (stR (stR (stR B 36 md (nI d)) 37 md (nI v14)) 38 md (nI tn)) 39 md y) 40 md (nI pr)) 41 md 0) 38 md = (nI tn) := ((st_ne (by omega)).trans hce44)
  have hce55 : (stR (stR (stR (stR (stR (stR B 36 md (nI d)) 37 md (nI v14)) 38 md (nI tn)) 39 md y) 40 md (nI pr)) 41 md 0) 39 md = y := ((st_ne (by omega)).trans hce45)
  have hce56 : (stR (stR (stR (stR (stR (stR B 36 md (nI d)) 37 md (nI v14)) 38 md (nI tn)) 39 md y) 40 md (nI pr)) 41 md 0) 40 md = (nI pr) := ((st_ne (by omega)).trans hce50)
  have hty57 : tkRow ((stR (stR (stR (stR (stR (stR B 36 md (nI d)) 37 md (nI v14)) 38 md (nI tn)) 39 md y) 40 md (nI pr)) 41 md 0) 19) wr T := hty46
  have hps58 : PS T nm wr lz dc fd md pr bk (stR (stR (stR (stR (stR (stR B 36 md (nI d)) 37 md (nI v14)) 38 md (nI tn)) 39 md y) 40 md (nI pr)) 41 md 0) := (PS.same hps47 (by omega) (by omega) (fun r i q1 q2 q3 => st_ne (fun e => by rw [e.1, e.2] at q3; exact absurd (show md < md from q3) (by omega))))
  have hfm59 : FrM K T wr (stR (stR (stR (stR (stR (stR B 36 md (nI d)) 37 md (nI v14)) 38 md (nI tn)) 39 md y) 40 md (nI pr)) 41 md 0) nd md := (FrM.same hfm48 (by omega) (fun j i q1 q2 q3 => st_ne (by omega)) (fun i q => st_ne (by omega)))
  have hlr60 : lsRow ((stR (stR (stR (stR (stR (stR B 36 md (nI d)) 37 md (nI v14)) 38 md (nI tn)) 39 md y) 40 md (nI pr)) 41 md 0) 22) ((stR (stR (stR (stR (stR (stR B 36 md (nI d)) 37 md (nI v14)) 38 md (nI tn)) 39 md y) 40 md (nI pr)) 41 md 0) 23) lz T := hlr49
  have hce61 : (stR (stR (stR (stR (stR (stR B 36 md (nI d)) 37 md (nI v14)) 38 md (nI tn)) 39 md y) 40 md (nI pr)) 41 md 0) 41 md = 0 := st_eq
  refine lv_aload_n hx hb dX12_method_82 rfl (lv_at hl 1 rfl) ?_
  refine r_get (v := .ref (a 42)) hx hb hown hq hE hP 56 138 tFX12_56 (by decide) pw_1473 rfl dX12_method_83 ?_
  refine lv_iload hx hb dX12_method_86 (lv_at hl 0 rfl) ?_
  refine lv_iconst (v := (-1)) hx hb dX12_method_88 (by decide) ?_
  refine r_sti (f := ((stR (stR (stR (stR (stR (stR B 36 md (nI d)) 37 md (nI v14)) 38 md (nI tn)) 39 md y) 40 md (nI pr)) 41 md 0) 42)) (j := md) hx hb hE hP hD hS 42 (ma_42 G a _) rfl (mas_42 G a _) (by omega) (by decide) dX12_method_89 (fun H locs hP hD hS => ?_)
  have hP : va_P G.1 pCl (mW G h0 a (upd (upd (upd (upd (upd (upd (upd (upd (upd (upd (upd (upd (upd (upd F 15 0) 27 (nI nd)) 31 (nI wr)) 34 (nI lz)) 35 (nI dc)) 44 (nI fd)) 49 (nI (md + 1))) 59 (nI bk)) 60 (nI pr)) 64 (nI at0)) 65 ne0) 66 (nI lk)) 67 (nI mf)) 68 (nI (mm + 1))) (updA (stR (stR (stR (stR (stR (stR (stR B 36 md (nI d)) 37 md (nI v14)) 38 md (nI tn)) 39 md y) 40 md (nI pr)) 41 md 0) 42 md (-1)) 2 K)) _ := hP
  have hD : va_D A (mW G h0 a (upd (upd (upd (upd (upd (upd (upd (upd (upd (upd (upd (upd (upd (upd F 15 0) 27 (nI nd)) 31 (nI wr)) 34 (nI lz)) 35 (nI dc)) 44 (nI fd)) 49 (nI (md + 1))) 59 (nI bk)) 60 (nI pr)) 64 (nI at0)) 65 ne0) 66 (nI lk)) 67 (nI mf)) 68 (nI (mm + 1))) (updA (stR (stR (stR (stR (stR (stR (stR B 36 md (nI d)) 37 md (nI v14)) 38 md (nI tn)) 39 md y) 40 md (nI pr)) 41 md 0) 42 md (-1)) 2 K)) := mW_D hD
  have hkq62 : Kq 0 B (stR (stR (stR (stR (stR (stR (stR B 36 md (nI d)) 37 md (nI v14)) 38 md (nI tn)) 39 md y) 40 md (nI pr)) 41 md 0) 42 md (-1)) := (Kq.st hkq51 (by omega))
  have hce63 : (stR (stR (stR (stR (stR (stR (stR B 36 md (nI d)) 37 md (nI v14)) 38 md (nI tn)) 39 md y) 40 md (nI pr)) 41 md 0) 42 md (-1)) 36 md = (nI d) := ((st_ne (by omega)).trans hce52)
  have hce64 : (stR (stR (stR (stR (stR (stR (stR B 36 md (nI d)) 37 md (nI v14)) 38 md (nI tn)) 39 md y) 40 md (nI pr)) 41 md 0) 42 md (-1)) 37 md = (nI v14) := ((st_ne (by omega)).trans hce53)
  have hce65 : (stR (stR (stR (stR (stR (stR (stR B 36 md (nI d)) 37 md (nI v14)) 38 md (nI tn)) 39 md y) 40 md (nI pr)) 41 md 0) 42 md (-1)) 38 md = (nI tn) := ((st_ne (by omega)).trans hce54)
  have hce66 : (stR (stR (stR (stR (stR (stR (stR B 36 md (nI d)) 37 md (nI v14)) 38 md (nI tn)) 39 md y) 40 md (nI pr)) 41 md 0) 42 md (-1)) 39 md = y := ((st_ne (by omega)).trans hce55)
  have hce67 : (stR (stR (stR (stR (stR (stR (stR B 36 md (nI d)) 37 md (nI v14)) 38 md (nI tn)) 39 md y) 40 md (nI pr)) 41 md 0) 42 md (-1)) 40 md = (nI pr) := ((st_ne (by omega)).trans hce56)
  have hce68 : (stR (stR (stR (stR (stR (stR (stR B 36 md (nI d)) 37 md (nI v14)) 38 md (nI tn)) 39 md y) 40 md (nI pr)) 41 md 0) 42 md (-1)) 41 md = 0 := ((st_ne (by omega)).trans hce61)
  have hty69 : tkRow ((stR (stR (stR (stR (stR (stR (stR B 36 md (nI d)) 37 md (nI v14)) 38 md (nI tn)) 39 md y) 40 md (nI pr)) 41 md 0) 42 md (-1)) 19) wr T := hty57
  have hps70 : PS T nm wr lz dc fd md pr bk (stR (stR (stR (stR (stR (stR (stR B 36 md (nI d)) 37 md (nI v14)) 38 md (nI tn)) 39 md y) 40 md (nI pr)) 41 md 0) 42 md (-1)) := (PS.same hps58 (by omega) (by omega) (fun r i q1 q2 q3 => st_ne (fun e => by rw [e.1, e.2] at q3; exact absurd (show md < md from q3) (by omega))))
  have hfm71 : FrM K T wr (stR (stR (stR (stR (stR (stR (stR B 36 md (nI d)) 37 md (nI v14)) 38 md (nI tn)) 39 md y) 40 md (nI pr)) 41 md 0) 42 md (-1)) nd md := (FrM.same hfm59 (by omega) (fun j i q1 q2 q3 => st_ne (by omega)) (fun i q => st_ne (by omega)))
  have hlr72 : lsRow ((stR (stR (stR (stR (stR (stR (stR B 36 md (nI d)) 37 md (nI v14)) 38 md (nI tn)) 39 md y) 40 md (nI pr)) 41 md 0) 42 md (-1)) 22) ((stR (stR (stR (stR (stR (stR (stR B 36 md (nI d)) 37 md (nI v14)) 38 md (nI tn)) 39 md y) 40 md (nI pr)) 41 md 0) 42 md (-1)) 23) lz T := hlr60
  have hce73 : (stR (stR (stR (stR (stR (stR (stR B 36 md (nI d)) 37 md (nI v14)) 38 md (nI tn)) 39 md y) 40 md (nI pr)) 41 md 0) 42 md (-1)) 42 md = (-1) := st_eq
  refine lv_aload_n hx hb dX12_method_90 rfl (lv_at hl 1 rfl) ?_
  refine r_get (v := .ref (a 43)) hx hb hown hq hE hP 57 141 tFX12_57 (by decide) pw_1474 rfl dX12_method_91 ?_
  refine lv_iload hx hb dX12_method_94 (lv_at hl 0 rfl) ?_
  refine lv_iconst (v := (-1)) hx hb dX12_method_96 (by decide) ?_
  refine r_sti (f := ((stR (stR (stR (stR (stR (stR (stR B 36 md (nI d)) 37 md (nI v14)) 38 md (nI tn)) 39 md y) 40 md (nI pr)) 41 md 0) 42 md (-1)) 43)) (j := md) hx hb hE hP hD hS 43 (ma_43 G a _) rfl (mas_43 G a _) (by omega) (by decide) dX12_method_97 (fun H locs hP hD hS => ?_)
  have hP : va_P G.1 pCl (mW G h0 a (upd (upd (upd (upd (upd (upd (upd (upd (upd (upd (upd (upd (upd (upd F 15 0) 27 (nI nd)) 31 (nI wr)) 34 (nI lz)) 35 (nI dc)) 44 (nI fd)) 49 (nI (md + 1))) 59 (nI bk)) 60 (nI pr)) 64 (nI at0)) 65 ne0) 66 (nI lk)) 67 (nI mf)) 68 (nI (mm + 1))) (updA (stR (stR (stR (stR (stR (stR (stR (stR B 36 md (nI d)) 37 md (nI v14)) 38 md (nI tn)) 39 md y) 40 md (nI pr)) 41 md 0) 42 md (-1)) 43 md (-1)) 2 K)) _ := hP
  have hD : va_D A (mW G h0 a (upd (upd (upd (upd (upd (upd (upd (upd (upd (upd (upd (upd (upd (upd F 15 0) 27 (nI nd)) 31 (nI wr)) 34 (nI lz)) 35 (nI dc)) 44 (nI fd)) 49 (nI (md + 1))) 59 (nI bk)) 60 (nI pr)) 64 (nI at0)) 65 ne0) 66 (nI lk)) 67 (nI mf)) 68 (nI (mm + 1))) (updA (stR (stR (stR (stR (stR (stR (stR (stR B 36 md (nI d)) 37 md (nI v14)) 38 md (nI tn)) 39 md y) 40 md (nI pr)) 41 md 0) 42 md (-1)) 43 md (-1)) 2 K)) := mW_D hD
  have hkq74 : Kq 0 B (stR (stR (stR (stR (stR (stR (stR (stR B 36 md (nI d)) 37 md (nI v14)) 38 md (nI tn)) 39 md y) 40 md (nI pr)) 41 md 0) 42 md (-1)) 43 md (-1)) := (Kq.st hkq62 (by omega))
  have hce75 : (stR (stR (stR (stR (stR (stR (stR (stR B 36 md (nI d)) 37 md (nI v14)) 38 md (nI tn)) 39 md y) 40 md (nI pr)) 41 md 0) 42 md (-1)) 43 md (-1)) 36 md = (nI d) := ((st_ne (by omega)).trans hce63)
  have hce76 : (stR (stR (stR (stR (stR (stR (stR (stR B 36 md (nI d)) 37 md (nI v14)) 38 md (nI tn)) 39 md y) 40 md (nI pr)) 41 md 0) 42 md (-1)) 43 md (-1)) 37 md = (nI v14) := ((st_ne (by omega)).trans hce64)
  have hce77 : (stR (stR (stR (stR (stR (stR (stR (stR B 36 md (nI d)) 37 md (nI v14)) 38 md (nI tn)) 39 md y) 40 md (nI pr)) 41 md 0) 42 md (-1)) 43 md (-1)) 38 md = (nI tn) := ((st_ne (by omega)).trans hce65)
  have hce78 : (stR (stR (stR (stR (stR (stR (stR (stR B 36 md (nI d)) 37 md (nI v14)) 38 md (nI tn)) 39 md y) 40 md (nI pr)) 41 md 0) 42 md (-1)) 43 md (-1)) 39 md = y := ((st_ne (by omega)).trans hce66)
  have hce79 : (stR (stR (stR (stR (stR (stR (stR (stR B 36 md (nI d)) 37 md (nI v14)) 38 md (nI tn)) 39 md y) 40 md (nI pr)) 41 md 0) 42 md (-1)) 43 md (-1)) 40 md = (nI pr) := ((st_ne (by omega)).trans hce67)
  have hce80 : (stR (stR (stR (stR (stR (stR (stR (stR B 36 md (nI d)) 37 md (nI v14)) 38 md (nI tn)) 39 md y) 40 md (nI pr)) 41 md 0) 42 md (-1)) 43 md (-1)) 41 md = 0 := ((st_ne (by omega)).trans hce68)
  have hce81 : (stR (stR (stR (stR (stR (stR (stR (stR B 36 md (nI d)) 37 md (nI v14)) 38 md (nI tn)) 39 md y) 40 md (nI pr)) 41 md 0) 42 md (-1)) 43 md (-1)) 42 md = (-1) := ((st_ne (by omega)).trans hce73)
  have hty82 : tkRow ((stR (stR (stR (stR (stR (stR (stR (stR B 36 md (nI d)) 37 md (nI v14)) 38 md (nI tn)) 39 md y) 40 md (nI pr)) 41 md 0) 42 md (-1)) 43 md (-1)) 19) wr T := hty69
  have hps83 : PS T nm wr lz dc fd md pr bk (stR (stR (stR (stR (stR (stR (stR (stR B 36 md (nI d)) 37 md (nI v14)) 38 md (nI tn)) 39 md y) 40 md (nI pr)) 41 md 0) 42 md (-1)) 43 md (-1)) := (PS.same hps70 (by omega) (by omega) (fun r i q1 q2 q3 => st_ne (fun e => by rw [e.1, e.2] at q3; exact absurd (show md < md from q3) (by omega))))
  have hfm84 : FrM K T wr (stR (stR (stR (stR (stR (stR (stR (stR B 36 md (nI d)) 37 md (nI v14)) 38 md (nI tn)) 39 md y) 40 md (nI pr)) 41 md 0) 42 md (-1)) 43 md (-1)) nd md := (FrM.same hfm71 (by omega) (fun j i q1 q2 q3 => st_ne (by omega)) (fun i q => st_ne (by omega)))
  have hlr85 : lsRow ((stR (stR (stR (stR (stR (stR (stR (stR B 36 md (nI d)) 37 md (nI v14)) 38 md (nI tn)) 39 md y) 40 md (nI pr)) 41 md 0) 42 md (-1)) 43 md (-1)) 22) ((stR (stR (stR (stR (stR (stR (stR (stR B 36 md (nI d)) 37 md (nI v14)) 38 md (nI tn)) 39 md y) 40 md (nI pr)) 41 md 0) 42 md (-1)) 43 md (-1)) 23) lz T := hlr72
  have hce86 : (stR (stR (stR (stR (stR (stR (stR (stR B 36 md (nI d)) 37 md (nI v14)) 38 md (nI tn)) 39 md y) 40 md (nI pr)) 41 md 0) 42 md (-1)) 43 md (-1)) 43 md = (-1) := st_eq
  refine lv_aload_n hx hb dX12_method_98 rfl (lv_at hl 1 rfl) ?_
  refine r_get (v := .ref (a 44)) hx hb hown hq hE hP 58 144 tFX12_58 (by decide) pw_1475 rfl dX12_method_99 ?_
  refine lv_iload hx hb dX12_method_102 (lv_at hl 0 rfl) ?_
  refine lv_iconst (v := (-1)) hx hb dX12_method_104 (by decide) ?_
  refine r_sti (f := ((stR (stR (stR (stR (stR (stR (stR (stR B 36 md (nI d)) 37 md (nI v14)) 38 md (nI tn)) 39 md y) 40 md (nI pr)) 41 md 0) 42 md (-1)) 43 md (-1)) 44)) (j := md) hx hb hE hP hD hS 44 (ma_44 G a _) rfl (mas_44 G a _) (by omega) (by decide) dX12_method_105 (fun H locs hP hD hS => ?_)
  have hP : va_P G.1 pCl (mW G h0 a (upd (upd (upd (upd (upd (upd (upd (upd (upd (upd (upd (upd (upd (upd F 15 0) 27 (nI nd)) 31 (nI wr)) 34 (nI lz)) 35 (nI dc)) 44 (nI fd)) 49 (nI (md + 1))) 59 (nI bk)) 60 (nI pr)) 64 (nI at0)) 65 ne0) 66 (nI lk)) 67 (nI mf)) 68 (nI (mm + 1))) (updA (stR (stR (stR (stR (stR (stR (stR (stR (stR B 36 md (nI d)) 37 md (nI v14)) 38 md (nI tn)) 39 md y) 40 md (nI pr)) 41 md 0) 42 md (-1)) 43 md (-1)) 44 md (-1)) 2 K)) _ := hP
  have hD : va_D A (mW G h0 a (upd (upd (upd (upd (upd (upd (upd (upd (upd (upd (upd (upd (upd (upd F 15 0) 27 (nI nd)) 31 (nI wr)) 34 (nI lz)) 35 (nI dc)) 44 (nI fd)) 49 (nI (md + 1))) 59 (nI bk)) 60 (nI pr)) 64 (nI at0)) 65 ne0) 66 (nI lk)) 67 (nI mf)) 68 (nI (mm + 1))) (updA (stR (stR (stR (stR (stR (stR (stR (stR (stR B 36 md (nI d)) 37 md (nI v14)) 38 md (nI tn)) 39 md y) 40 md (nI pr)) 41 md 0) 42 md (-1)) 43 md (-1)) 44 md (-1)) 2 K)) := mW_D hD
  have hkq87 : Kq 0 B (stR (stR (stR (stR (stR (stR (stR (stR (stR B 36 md (nI d)) 37 md (nI v14)) 38 md (nI tn)) 39 md y) 40 md (nI pr)) 41 md 0) 42 md (-1)) 43 md (-1)) 44 md (-1)) := (Kq.st hkq74 (by omega))
  have hce88 : (stR (stR (stR (stR (stR (stR (stR (stR (stR B 36 md (nI d)) 37 md (nI v14)) 38 md (nI tn)) 39 md y) 40 md (nI pr)) 41 md 0) 42 md (-1)) 43 md (-1)) 44 md (-1)) 36 md = (nI d) := ((st_ne (by omega)).trans hce75)
  have hce89 : (stR (stR (stR (stR (stR (stR (stR (stR (stR B 36 md (nI d)) 37 md (nI v14)) 38 md (nI tn)) 39 md y) 40 md (nI pr)) 41 md 0) 42 md (-1)) 43 md (-1)) 44 md (-1)) 37 md = (nI v14) := ((st_ne (by omega)).trans hce76)
  have hce90 : (stR (stR (stR (stR (stR (stR (stR (stR (stR B 36 md (nI d)) 37 md (nI v14)) 38 md (nI tn)) 39 md y) 40 md (nI pr)) 41 md 0) 42 md (-1)) 43 md (-1)) 44 md (-1)) 38 md = (nI tn) := ((st_ne (by omega)).trans hce77)
  have hce91 : (stR (stR (stR (stR (stR (stR (stR (stR (stR B 36 md (nI d)) 37 md (nI v14)) 38 md (nI tn)) 39 md y) 40 md (nI pr)) 41 md 0) 42 md (-1)) 43 md (-1)) 44 md (-1)) 39 md = y := ((st_ne (by omega)).trans hce78)
  have hce92 : (stR (stR (stR (stR (stR (stR (stR (stR (stR B 36 md (nI d)) 37 md (nI v14)) 38 md (nI tn)) 39 md y) 40 md (nI pr)) 41 md 0) 42 md (-1)) 43 md (-1)) 44 md (-1)) 40 md = (nI pr) := ((st_ne (by omega)).trans hce79)
  have hce93 : (stR (stR (stR (stR (stR (stR (stR (stR (stR B 36 md (nI d)) 37 md (nI v14)) 38 md (nI tn)) 39 md y) 40 md (nI pr)) 41 md 0) 42 md (-1)) 43 md (-1)) 44 md (-1)) 41 md = 0 := ((st_ne (by omega)).trans hce80)
  have hce94 : (stR (stR (stR (stR (stR (stR (stR (stR (stR B 36 md (nI d)) 37 md (nI v14)) 38 md (nI tn)) 39 md y) 40 md (nI pr)) 41 md 0) 42 md (-1)) 43 md (-1)) 44 md (-1)) 42 md = (-1) := ((st_ne (by omega)).trans hce81)
  have hce95 : (stR (stR (stR (stR (stR (stR (stR (stR (stR B 36 md (nI d)) 37 md (nI v14)) 38 md (nI tn)) 39 md y) 40 md (nI pr)) 41 md 0) 42 md (-1)) 43 md (-1)) 44 md (-1)) 43 md = (-1) := ((st_ne (by omega)).trans hce86)
  have hty96 : tkRow ((stR (stR (stR (stR (stR (stR (stR (stR (stR B 36 md (nI d)) 37 md (nI v14)) 38 md (nI tn)) 39 md y) 40 md (nI pr)) 41 md 0) 42 md (-1)) 43 md (-1)) 44 md (-1)) 19) wr T := hty82
  have hps97 : PS T nm wr lz dc fd md pr bk (stR (stR (stR (stR (stR (stR (stR (stR (stR B 36 md (nI d)) 37 md (nI v14)) 38 md (nI tn)) 39 md y) 40 md (nI pr)) 41 md 0) 42 md (-1)) 43 md (-1)) 44 md (-1)) := (PS.same hps83 (by omega) (by omega) (fun r i q1 q2 q3 => st_ne (fun e => by rw [e.1, e.2] at q3; exact absurd (show md < md from q3) (by omega))))
  have hfm98 : FrM K T wr (stR (stR (stR (stR (stR (stR (stR (stR (stR B 36 md (nI d)) 37 md (nI v14)) 38 md (nI tn)) 39 md y) 40 md (nI pr)) 41 md 0) 42 md (-1)) 43 md (-1)) 44 md (-1)) nd md := (FrM.same hfm84 (by omega) (fun j i q1 q2 q3 => st_ne (by omega)) (fun i q => st_ne (by omega)))
  have hlr99 : lsRow ((stR (stR (stR (stR (stR (stR (stR (stR (stR B 36 md (nI d)) 37 md (nI v14)) 38 md (nI tn)) 39 md y) 40 md (nI pr)) 41 md 0) 42 md (-1)) 43 md (-1)) 44 md (-1)) 22) ((stR (stR (stR (stR (stR (stR (stR (stR (stR B 36 md (nI d)) 37 md (nI v14)) 38 md (nI tn)) 39 md y) 40 md (nI pr)) 41 md 0) 42 md (-1)) 43 md (-1)) 44 md (-1)) 23) lz T := hlr85
  have hce100 : (stR (stR (stR (stR (stR (stR (stR (stR (stR B 36 md (nI d)) 37 md (nI v14)) 38 md (nI tn)) 39 md y) 40 md (nI pr)) 41 md 0) 42 md (-1)) 43 md (-1)) 44 md (-1)) 44 md = (-1) := st_eq
  refine lv_aload_n hx hb dX12_method_106 rfl (lv_at hl 1 rfl) ?_
  refine lv_bipush (v := 40) hx hb dX12_method_107 (by decide) ?_
  have hP : va_P G.1 pCl (mW G h0 a (upd (upd (upd (upd (upd (upd (upd (upd (upd (upd (upd (upd (upd (upd (upd (upd F 15 0) 27 (nI nd)) 31 (nI wr)) 34 (nI lz)) 35 (nI dc)) 44 (nI fd)) 49 (nI (md + 1))) 59 (nI bk)) 60 (nI pr)) 64 (nI at0)) 65 ne0) 66 (nI lk)) 67 (nI mf)) 68 (nI (mm + 1))) 15 (nI 0)) 64 (nI at0)) (updA (updA (stR (stR (stR (stR (stR (stR (stR (stR (stR B 36 md (nI d)) 37 md (nI v14)) 38 md (nI tn)) 39 md y) 40 md (nI pr)) 41 md 0) 42 md (-1)) 43 md (-1)) 44 md (-1)) 2 K) 2 K)) _ := mW_to (F := F) (l1 := [(15, 0), (27, (nI nd)), (31, (nI wr)), (34, (nI lz)), (35, (nI dc)), (44, (nI fd)), (49, (nI (md + 1))), (59, (nI bk)), (60, (nI pr)), (64, (nI at0)), (65, ne0), (66, (nI lk)), (67, (nI mf)), (68, (nI (mm + 1)))]) (l2 := [(15, 0), (27, (nI nd)), (31, (nI wr)), (34, (nI lz)), (35, (nI dc)), (44, (nI fd)), (49, (nI (md + 1))), (59, (nI bk)), (60, (nI pr)), (64, (nI at0)), (65, ne0), (66, (nI lk)), (67, (nI mf)), (68, (nI (mm + 1))), (15, (nI 0)), (64, (nI at0))]) (V := [(nI 0), (nI nd), (nI wr), (nI lz), (nI dc), (nI fd), (nI (md + 1)), (nI bk), (nI pr), (nI at0), ne0, (nI lk), (nI mf), (nI (mm + 1)), (nI 0), (nI nd), (nI wr), (nI lz), (nI dc), (nI fd), (nI (md + 1)), (nI bk), (nI pr), (nI at0), ne0, (nI lk), (nI mf), (nI (mm + 1)), (nI 0), (nI at0)]) rfl rfl (show (updA (stR (stR (stR (stR (stR (stR (stR (stR (stR B 36 md (nI d)) 37 md (nI v14)) 38 md (nI tn)) 39 md y) 40 md (nI pr)) 41 md 0) 42 md (-1)) 43 md (-1)) 44 md (-1)) 2 K) = (updA (updA (stR (stR (stR (stR (stR (stR (stR (stR (stR B 36 md (nI d)) 37 md (nI v14)) 38 md (nI tn)) 39 md y) 40 md (nI pr)) 41 md 0) 42 md (-1)) 43 md (-1)) 44 md (-1)) 2 K) 2 K) from updsA_eq2 (F := (stR (stR (stR (stR (stR (stR (stR (stR (stR B 36 md (nI d)) 37 md (nI v14)) 38 md (nI tn)) 39 md y) 40 md (nI pr)) 41 md 0) 42 md (-1)) 43 md (-1)) 44 md (-1))) (l1 := [(2, K)]) (l2 := [(2, K), (2, K)]) (V := [K, K, K]) rfl rfl) hP
  have hD : va_D A (mW G h0 a (upd (upd (upd (upd (upd (upd (upd (upd (upd (upd (upd (upd (upd (upd (upd (upd F 15 0) 27 (nI nd)) 31 (nI wr)) 34 (nI lz)) 35 (nI dc)) 44 (nI fd)) 49 (nI (md + 1))) 59 (nI bk)) 60 (nI pr)) 64 (nI at0)) 65 ne0) 66 (nI lk)) 67 (nI mf)) 68 (nI (mm + 1))) 15 (nI 0)) 64 (nI at0)) (updA (updA (stR (stR (stR (stR (stR (stR (stR (stR (stR B 36 md (nI d)) 37 md (nI v14)) 38 md (nI tn)) 39 md y) 40 md (nI pr)) 41 md 0) 42 md (-1)) 43 md (-1)) 44 md (-1)) 2 K) 2 K)) := mW_D hD
  refine pc_V0 (G := G) (As := [.int 40]) (rest := []) hx hb hml hown hq hE hX pX0_al hP hD hS hA hl.1 (R_take l G h0 a (upd (upd (upd (upd (upd (upd (upd (upd (upd (upd (upd (upd (upd (upd F 15 0) 27 (nI nd)) 31 (nI wr)) 34 (nI lz)) 35 (nI dc)) 44 (nI fd)) 49 (nI (md + 1))) 59 (nI bk)) 60 (nI pr)) 64 (nI at0)) 65 ne0) 66 (nI lk)) 67 (nI mf)) 68 (nI (mm + 1))) (updA (stR (stR (stR (stR (stR (stR (stR (stR (stR B 36 md (nI d)) 37 md (nI v14)) 38 md (nI tn)) 39 md y) 40 md (nI pr)) 41 md 0) 42 md (-1)) 43 md (-1)) 44 md (-1)) 2 K) at0 T 0 K 40 (by omega) (by omega) hK (by omega) (by decide) (by decide)) (gV pw_1614 pw_1615 pw_1616 pw_1523 pw_1601) hV_X12_take 0 9 rfl rfl rfl rfl (Nat.le_of_ble_eq_true rfl) dX12_method_109 ⟨Nat.le_of_ble_eq_true rfl, Nat.le_of_ble_eq_true rfl⟩ ⟨Nat.le_of_ble_eq_true rfl, Nat.le_of_ble_eq_true rfl⟩ (fun v103 u101 H locs hw102 hP hD hS => ?_)
  obtain ⟨at104, fa105, pl106⟩ := u101
  obtain ⟨hw102, h107, h108, h109, h110, h111, h112, h113, h114⟩ := hw102
  replace h107 : at0 ≤ at104 := h107
  replace h108 : at104 ≤ T := h108
  replace h109 : 0 ≤ fa105 := h109
  replace h110 : fa105 ≤ 100 := h110
  replace h111 : If (0 < 0) (at104 = at0 ∧ fa105 = 0) := h111
  replace h112 : at104 ≤ at0 + 1 := h112
  replace h113 : at0 + 1 ≤ at104 + fa105 := h113
  replace h114 : If (fa105 = 0) (K at0 = 40) := h114
  obtain rfl : v103 = none := hw102
  have hP : va_P G.1 pCl (mW G h0 a (upd (upd (upd (upd (upd (upd (upd (upd (upd (upd (upd (upd (upd (upd (upd F 15 (nI fa105)) 16 pl106) 27 (nI nd)) 31 (nI wr)) 34 (nI lz)) 35 (nI dc)) 44 (nI fd)) 49 (nI (md + 1))) 59 (nI bk)) 60 (nI pr)) 64 (nI at104)) 65 ne0) 66 (nI lk)) 67 (nI mf)) 68 (nI (mm + 1))) (updA (stR (stR (stR (stR (stR (stR (stR (stR (stR B 36 md (nI d)) 37 md (nI v14)) 38 md (nI tn)) 39 md y) 40 md (nI pr)) 41 md 0) 42 md (-1)) 43 md (-1)) 44 md (-1)) 2 K)) _ := mW_to (F := F) (l1 := [(15, 0), (27, (nI nd)), (31, (nI wr)), (34, (nI lz)), (35, (nI dc)), (44, (nI fd)), (49, (nI (md + 1))), (59, (nI bk)), (60, (nI pr)), (64, (nI at0)), (65, ne0), (66, (nI lk)), (67, (nI mf)), (68, (nI (mm + 1))), (15, (nI fa105)), (16, pl106), (64, (nI at104))]) (l2 := [(15, (nI fa105)), (16, pl106), (27, (nI nd)), (31, (nI wr)), (34, (nI lz)), (35, (nI dc)), (44, (nI fd)), (49, (nI (md + 1))), (59, (nI bk)), (60, (nI pr)), (64, (nI at104)), (65, ne0), (66, (nI lk)), (67, (nI mf)), (68, (nI (mm + 1)))]) (V := [(nI fa105), (nI nd), (nI wr), (nI lz), (nI dc), (nI fd), (nI (md + 1)), (nI bk), (nI pr), (nI at104), ne0, (nI lk), (nI mf), (nI (mm + 1)), (nI fa105), pl106, (nI at104), (nI fa105), pl106, (nI nd), (nI wr), (nI lz), (nI dc), (nI fd), (nI (md + 1)), (nI bk), (nI pr), (nI at104), ne0, (nI lk), (nI mf), (nI (mm + 1))]) rfl rfl (show (updA (updA (stR (stR (stR (stR (stR (stR (stR (stR (stR B 36 md (nI d)) 37 md (nI v14)) 38 md (nI tn)) 39 md y) 40 md (nI pr)) 41 md 0) 42 md (-1)) 43 md (-1)) 44 md (-1)) 2 K) 2 K) = (updA (stR (stR (stR (stR (stR (stR (stR (stR (stR B 36 md (nI d)) 37 md (nI v14)) 38 md (nI tn)) 39 md y) 40 md (nI pr)) 41 md 0) 42 md (-1)) 43 md (-1)) 44 md (-1)) 2 K) from updsA_eq2 (F := (stR (stR (stR (stR (stR (stR (stR (stR (stR B 36 md (nI d)) 37 md (nI v14)) 38 md (nI tn)) 39 md y) 40 md (nI pr)) 41 md 0) 42 md (-1)) 43 md (-1)) 44 md (-1))) (l1 := [(2, K), (2, K)]) (l2 := [(2, K)]) (V := [K, K, K]) rfl rfl) hP
  have hD : va_D A (mW G h0 a (upd (upd (upd (upd (upd (upd (upd (upd (upd (upd (upd (upd (upd (upd (upd F 15 (nI fa105)) 16 pl106) 27 (nI nd)) 31 (nI wr)) 34 (nI lz)) 35 (nI dc)) 44 (nI fd)) 49 (nI (md + 1))) 59 (nI bk)) 60 (nI pr)) 64 (nI at104)) 65 ne0) 66 (nI lk)) 67 (nI mf)) 68 (nI (mm + 1))) (updA (stR (stR (stR (stR (stR (stR (stR (stR (stR B 36 md (nI d)) 37 md (nI v14)) 38 md (nI tn)) 39 md y) 40 md (nI pr)) 41 md 0) 42 md (-1)) 43 md (-1)) 44 md (-1)) 2 K)) := mW_D hD
  refine W.widen (k := 0) (n := 0) (Nat.le_of_ble_eq_true rfl) (Nat.le_of_ble_eq_true rfl) ?_
  refine W.eq (g2 := F0 m 112 ls []) rfl ?_
  rcases Nat.eq_zero_or_pos fa105 with e115 | e115
  · subst e115
    have hP : va_P G.1 pCl (mW G h0 a (upd (upd (upd (upd (upd (upd (upd (upd (upd (upd (upd (upd (upd (upd (upd F 15 0) 16 pl106) 27 (nI nd)) 31 (nI wr)) 34 (nI lz)) 35 (nI dc)) 44 (nI fd)) 49 (nI (md + 1))) 59 (nI bk)) 60 (nI pr)) 64 (nI at104)) 65 ne0) 66 (nI lk)) 67 (nI mf)) 68 (nI (mm + 1))) (updA (stR (stR (stR (stR (stR (stR (stR (stR (stR B 36 md (nI d)) 37 md (nI v14)) 38 md (nI tn)) 39 md y) 40 md (nI pr)) 41 md 0) 42 md (-1)) 43 md (-1)) 44 md (-1)) 2 K)) _ := hP
    have hD : va_D A (mW G h0 a (upd (upd (upd (upd (upd (upd (upd (upd (upd (upd (upd (upd (upd (upd (upd F 15 0) 16 pl106) 27 (nI nd)) 31 (nI wr)) 34 (nI lz)) 35 (nI dc)) 44 (nI fd)) 49 (nI (md + 1))) 59 (nI bk)) 60 (nI pr)) 64 (nI at104)) 65 ne0) 66 (nI lk)) 67 (nI mf)) 68 (nI (mm + 1))) (updA (stR (stR (stR (stR (stR (stR (stR (stR (stR B 36 md (nI d)) 37 md (nI v14)) 38 md (nI tn)) 39 md y) 40 md (nI pr)) 41 md 0) 42 md (-1)) 43 md (-1)) 44 md (-1)) 2 K)) := mW_D hD
    refine lv_aload_n hx hb dX12_method_112 rfl (lv_at hl 1 rfl) ?_
    refine r_get (v := .int 0) hx hb hown hq hE hP 15 350 tFX12_15 (by decide) pw_1594 rfl dX12_method_113 ?_
    refine lv_if_ne (tgt := 132) hx hb dX12_method_116 (by decide) (fun c116 => absurd c116 (by decide)) (fun c116 => ?_)
    refine lv_aload_n hx hb dX12_method_119 rfl (lv_at hl 1 rfl) ?_
    have hP : va_P G.1 pCl (mW G h0 a (upd (upd (upd (upd (upd (upd (upd (upd (upd (upd (upd (upd (upd (upd (upd (upd (upd F 15 0) 16 pl106) 27 (nI nd)) 31 (nI wr)) 34 (nI lz)) 35 (nI dc)) 44 (nI fd)) 49 (nI (md + 1))) 59 (nI bk)) 60 (nI pr)) 64 (nI at104)) 65 ne0) 66 (nI lk)) 67 (nI mf)) 68 (nI (mm + 1))) 15 (nI 0)) 64 (nI at104)) (updA (updA (stR (stR (stR (stR (stR (stR (stR (stR (stR B 36 md (nI d)) 37 md (nI v14)) 38 md (nI tn)) 39 md y) 40 md (nI pr)) 41 md 0) 42 md (-1)) 43 md (-1)) 44 md (-1)) 2 K) 2 K)) _ := mW_to (F := F) (l1 := [(15, 0), (16, pl106), (27, (nI nd)), (31, (nI wr)), (34, (nI lz)), (35, (nI dc)), (44, (nI fd)), (49, (nI (md + 1))), (59, (nI bk)), (60, (nI pr)), (64, (nI at104)), (65, ne0), (66, (nI lk)), (67, (nI mf)), (68, (nI (mm + 1)))]) (l2 := [(15, 0), (16, pl106), (27, (nI nd)), (31, (nI wr)), (34, (nI lz)), (35, (nI dc)), (44, (nI fd)), (49, (nI (md + 1))), (59, (nI bk)), (60, (nI pr)), (64, (nI at104)), (65, ne0), (66, (nI lk)), (67, (nI mf)), (68, (nI (mm + 1))), (15, (nI 0)), (64, (nI at104))]) (V := [(nI 0), pl106, (nI nd), (nI wr), (nI lz), (nI dc), (nI fd), (nI (md + 1)), (nI bk), (nI pr), (nI at104), ne0, (nI lk), (nI mf), (nI (mm + 1)), (nI 0), pl106, (nI nd), (nI wr), (nI lz), (nI dc), (nI fd), (nI (md + 1)), (nI bk), (nI pr), (nI at104), ne0, (nI lk), (nI mf), (nI (mm + 1)), (nI 0), (nI at104)]) rfl rfl (show (updA (stR (stR (stR (stR (stR (stR (stR (stR (stR B 36 md (nI d)) 37 md (nI v14)) 38 md (nI tn)) 39 md y) 40 md (nI pr)) 41 md 0) 42 md (-1)) 43 md (-1)) 44 md (-1)) 2 K) = (updA (updA (stR (stR (stR (stR (stR (stR (stR (stR (stR B 36 md (nI d)) 37 md (nI v14)) 38 md (nI tn)) 39 md y) 40 md (nI pr)) 41 md 0) 42 md (-1)) 43 md (-1)) 44 md (-1)) 2 K) 2 K) from updsA_eq2 (F := (stR (stR (stR (stR (stR (stR (stR (stR (stR B 36 md (nI d)) 37 md (nI v14)) 38 md (nI tn)) 39 md y) 40 md (nI pr)) 41 md 0) 42 md (-1)) 43 md (-1)) 44 md (-1))) (l1 := [(2, K)]) (l2 := [(2, K), (2, K)]) (V := [K, K, K]) rfl rfl) hP
    have hD : va_D A (mW G h0 a (upd (upd (upd (upd (upd (upd (upd (upd (upd (upd (upd (upd (upd (upd (upd (upd (upd F 15 0) 16 pl106) 27 (nI nd)) 31 (nI wr)) 34 (nI lz)) 35 (nI dc)) 44 (nI fd)) 49 (nI (md + 1))) 59 (nI bk)) 60 (nI pr)) 64 (nI at104)) 65 ne0) 66 (nI lk)) 67 (nI mf)) 68 (nI (mm + 1))) 15 (nI 0)) 64 (nI at104)) (updA (updA (stR (stR (stR (stR (stR (stR (stR (stR (stR B 36 md (nI d)) 37 md (nI v14)) 38 md (nI tn)) 39 md y) 40 md (nI pr)) 41 md 0) 42 md (-1)) 43 md (-1)) 44 md (-1)) 2 K) 2 K)) := mW_D hD
    refine pc_V0 (G := G) (As := []) (rest := []) hx hb hml hown hq hE hX pX0_al hP hD hS hA hl.1 (R_kind l G h0 a (upd (upd (upd (upd (upd (upd (upd (upd (upd (upd (upd (upd (upd (upd (upd F 15 0) 16 pl106) 27 (nI nd)) 31 (nI wr)) 34 (nI lz)) 35 (nI dc)) 44 (nI fd)) 49 (nI (md + 1))) 59 (nI bk)) 60 (nI pr)) 64 (nI at104)) 65 ne0) 66 (nI lk)) 67 (nI mf)) 68 (nI (mm + 1))) (updA (stR (stR (stR (stR (stR (stR (stR (stR (stR B 36 md (nI d)) 37 md (nI v14)) 38 md (nI tn)) 39 md y) 40 md (nI pr)) 41 md 0) 42 md (-1)) 43 md (-1)) 44 md (-1)) 2 K) at104 T 0 K (by omega) (by omega) hK (by omega)) (gV pw_1626 pw_1627 pw_1628 pw_1523 pw_1591) hV_X12_kind 0 9 rfl rfl rfl rfl (Nat.le_of_ble_eq_true rfl) dX12_method_120 ⟨Nat.le_of_ble_eq_true rfl, Nat.le_of_ble_eq_true rfl⟩ ⟨Nat.le_of_ble_eq_true rfl, Nat.le_of_ble_eq_true rfl⟩ (fun v119 u117 H locs hw118 hP hD hS => ?_)
    obtain rfl : v119 = some (.int (K at104)) := hw118
    have hP : va_P G.1 pCl (mW G h0 a (upd (upd (upd (upd (upd (upd (upd (upd (upd (upd (upd (upd (upd (upd (upd F 15 0) 16 pl106) 27 (nI nd)) 31 (nI wr)) 34 (nI lz)) 35 (nI dc)) 44 (nI fd)) 49 (nI (md + 1))) 59 (nI bk)) 60 (nI pr)) 64 (nI at104)) 65 ne0) 66 (nI lk)) 67 (nI mf)) 68 (nI (mm + 1))) (updA (stR (stR (stR (stR (stR (stR (stR (stR (stR B 36 md (nI d)) 37 md (nI v14)) 38 md (nI tn)) 39 md y) 40 md (nI pr)) 41 md 0) 42 md (-1)) 43 md (-1)) 44 md (-1)) 2 K)) _ := mW_to (F := F) (l1 := [(15, 0), (16, pl106), (27, (nI nd)), (31, (nI wr)), (34, (nI lz)), (35, (nI dc)), (44, (nI fd)), (49, (nI (md + 1))), (59, (nI bk)), (60, (nI pr)), (64, (nI at104)), (65, ne0), (66, (nI lk)), (67, (nI mf)), (68, (nI (mm + 1))), (15, (nI 0)), (64, (nI at104))]) (l2 := [(15, 0), (16, pl106), (27, (nI nd)), (31, (nI wr)), (34, (nI lz)), (35, (nI dc)), (44, (nI fd)), (49, (nI (md + 1))), (59, (nI bk)), (60, (nI pr)), (64, (nI at104)), (65, ne0), (66, (nI lk)), (67, (nI mf)), (68, (nI (mm + 1)))]) (V := [0, pl106, (nI nd), (nI wr), (nI lz), (nI dc), (nI fd), (nI (md + 1)), (nI bk), (nI pr), (nI at104), ne0, (nI lk), (nI mf), (nI (mm + 1)), 0, (nI at104), 0, pl106, (nI nd), (nI wr), (nI lz), (nI dc), (nI fd), (nI (md + 1)), (nI bk), (nI pr), (nI at104), ne0, (nI lk), (nI mf), (nI (mm + 1))]) rfl rfl (show (updA (updA (stR (stR (stR (stR (stR (stR (stR (stR (stR B 36 md (nI d)) 37 md (nI v14)) 38 md (nI tn)) 39 md y) 40 md (nI pr)) 41 md 0) 42 md (-1)) 43 md (-1)) 44 md (-1)) 2 K) 2 K) = (updA (stR (stR (stR (stR (stR (stR (stR (stR (stR B 36 md (nI d)) 37 md (nI v14)) 38 md (nI tn)) 39 md y) 40 md (nI pr)) 41 md 0) 42 md (-1)) 43 md (-1)) 44 md (-1)) 2 K) from updsA_eq2 (F := (stR (stR (stR (stR (stR (stR (stR (stR (stR B 36 md (nI d)) 37 md (nI v14)) 38 md (nI tn)) 39 md y) 40 md (nI pr)) 41 md 0) 42 md (-1)) 43 md (-1)) 44 md (-1))) (l1 := [(2, K), (2, K)]) (l2 := [(2, K)]) (V := [K, K, K]) rfl rfl) hP
    have hD : va_D A (mW G h0 a (upd (upd (upd (upd (upd (upd (upd (upd (upd (upd (upd (upd (upd (upd (upd F 15 0) 16 pl106) 27 (nI nd)) 31 (nI wr)) 34 (nI lz)) 35 (nI dc)) 44 (nI fd)) 49 (nI (md + 1))) 59 (nI bk)) 60 (nI pr)) 64 (nI at104)) 65 ne0) 66 (nI lk)) 67 (nI mf)) 68 (nI (mm + 1))) (updA (stR (stR (stR (stR (stR (stR (stR (stR (stR B 36 md (nI d)) 37 md (nI v14)) 38 md (nI tn)) 39 md y) 40 md (nI pr)) 41 md 0) 42 md (-1)) 43 md (-1)) 44 md (-1)) 2 K)) := mW_D hD
    refine W.widen (k := 0) (n := 0) (Nat.le_of_ble_eq_true rfl) (Nat.le_of_ble_eq_true rfl) ?_
    refine W.eq (g2 := F0 m 123 ls [.int (K at104)]) rfl ?_
    refine lv_bipush (v := 41) hx hb dX12_method_123 (by decide) ?_
    refine lv_icmp_eq (tgt := 132) hx hb dX12_method_125 (by decide) (fun c120 => ?_) (fun c120 => ?_)
    · refine lv_iconst (v := 0) hx hb dX12_method_132 (by decide) ?_
      refine lv_istore (lv' := [(5, .int 0), (4, .int (nI md)), (0, .ref h0), (1, .int (nI d)), (2, .int y), (3, .int (nI tn))]) hx hb dX12_method_133 hl (by decide) rfl (fun ls hl => ?_)
      have loop_o : ∀ (n_o : Nat) (at2 : Nat) (wr2 : Nat) (pr2 : Nat) (q2 : Nat) (mo : Nat) (v2 : Nat) (pl2 : Int32) (X2 : Nat → Nat → Int32) (H : Heap) (locs : List Loc) (ls : Array Slot), at2 ≤ T → T + 1 ≤ at2 + n_o → (at0 + 1 ≤ at2) → (wr ≤ wr2) → (wr2 + at0 ≤ wr + at2) → (pr2 = pr + q2) → (pr2 + at0 + 1 ≤ pr + at2) → (q2 ≤ 8) → (mo ≤ 1) → (v2 < nm) → (Kq 0 B X2) → (PS T nm wr2 lz dc fd md pr2 bk X2) → (FrM K T wr2 X2 nd md) → (tkRow (X2 19) wr2 T) → (lsRow (X2 22) (X2 23) lz T) → (X2 36 md = (nI d)) → (X2 37 md = (nI v2)) → (X2 38 md = (nI tn)) → (X2 39 md = y) → (X2 40 md = (nI pr)) → (X2 41 md = (nI q2)) → (X2 42 md = (-1)) → (X2 43 md = (-1)) → (X2 44 md = (-1)) → va_P G.1 pCl (mW G h0 a (upd (upd (upd (upd (upd (upd (upd (upd (upd (upd (upd (upd (upd (upd (upd F 15 0) 16 pl2) 27 (nI nd)) 31 (nI wr2)) 34 (nI lz)) 35 (nI dc)) 44 (nI fd)) 49 (nI (md + 1))) 59 (nI bk)) 60 (nI pr2)) 64 (nI at2)) 65 ne0) 66 (nI lk)) 67 (nI mf)) 68 (nI (mm + 1))) (updA X2 2 K)) H → va_D A (mW G h0 a (upd (upd (upd (upd (upd (upd (upd (upd (upd (upd (upd (upd (upd (upd (upd F 15 0) 16 pl2) 27 (nI nd)) 31 (nI wr2)) 34 (nI lz)) 35 (nI dc)) 44 (nI fd)) 49 (nI (md + 1))) 59 (nI bk)) 60 (nI pr2)) 64 (nI at2)) 65 ne0) 66 (nI lk)) 67 (nI mf)) 68 (nI (mm + 1))) (updA X2 2 K)) → va_S A s.heap H locs → lv_has ls 7 [(5, .int (nI mo)), (4, .int (nI md)), (3, .int (nI tn)), (2, .int y), (1, .int (nI d)), (0, .ref h0)] → W p l e (headSpec (Cond.code yX12_method cX12_method 7 none :: pw) ({ frames := 640, cells := 0, slots := 0, locals := 50000 } : Room)).room s m ([.ref h0, .int (nI d), .int y, .int (nI tn)] : List Value).toArray below meth c H locs 0 0 (MQ below (pQ G A (fun (v : Option Value) (u : Nat × Nat × Int32 × Nat × Nat × Nat × Nat × Nat × Nat × Nat × Nat × Nat × Nat × Int32 × (Nat → Nat → Int32)) => v = none ∧ (at0 ≤ u.1) ∧ (u.1 ≤ T) ∧ (u.2.1 ≤ 100) ∧ (at0 + 1 ≤ u.1 + u.2.1) ∧ (Kq 0 B u.2.2.2.2.2.2.2.2.2.2.2.2.2.2) ∧ (If (u.2.1 = 0) ((u.2.2.2.1 ≤ 2 * u.1 ∧ u.2.2.2.2.1 ≤ u.1 ∧ u.2.2.2.2.2.1 ≤ u.1 ∧ u.2.2.2.2.2.2.2.2.2.1 ≤ u.1 ∧ u.2.2.2.2.2.2.1 ≤ 37 ∧ dc ≤ u.2.2.2.2.2.2.1 ∧ u.2.2.2.2.2.2.2.2.2.2.1 ≤ u.2.2.2.2.2.2.2.2.1 ∧ wr ≤ u.2.2.2.2.1 ∧ lz ≤ u.2.2.2.2.2.1) ∧ (u.2.2.2.2.2.2.2.2.1 + 240 ≤ 30 * u.2.2.2.2.2.2.1 + u.2.2.2.2.2.2.2.2.2.2.2.2.1 ∧ u.2.2.2.2.2.2.2.1 + 160 ≤ 20 * u.2.2.2.2.2.2.1 + u.2.2.2.2.2.2.2.2.2.2.2.1 ∧ u.2.2.2.2.2.2.2.2.2.2.2.1 ≤ 20 ∧ u.2.2.2.2.2.2.2.2.2.2.2.2.1 ≤ 30 ∧ u.2.2.2.2.2.2.1 = dc) ∧ PS T nm u.2.2.2.2.1 u.2.2.2.2.2.1 u.2.2.2.2.2.2.1 u.2.2.2.2.2.2.2.1 u.2.2.2.2.2.2.2.2.1 u.2.2.2.2.2.2.2.2.2.1 u.2.2.2.2.2.2.2.2.2.2.1 u.2.2.2.2.2.2.2.2.2.2.2.2.2.2 ∧ FrM K T u.2.2.2.2.1 u.2.2.2.2.2.2.2.2.2.2.2.2.2.2 u.2.2.2.1 u.2.2.2.2.2.2.2.2.1 ∧ tkRow (u.2.2.2.2.2.2.2.2.2.2.2.2.2.2 19) u.2.2.2.2.1 T ∧ lsRow (u.2.2.2.2.2.2.2.2.2.2.2.2.2.2 22) (u.2.2.2.2.2.2.2.2.2.2.2.2.2.2 23) u.2.2.2.2.2.1 T))) (fun u => (mW G h0 a (upd (upd (upd (upd (upd (upd (upd (upd (upd (upd (upd (upd (upd (upd (upd F 15 (nI u.2.1)) 16 u.2.2.1) 27 (nI u.2.2.2.1)) 31 (nI u.2.2.2.2.1)) 34 (nI u.2.2.2.2.2.1)) 35 (nI u.2.2.2.2.2.2.1)) 44 (nI u.2.2.2.2.2.2.2.1)) 49 (nI u.2.2.2.2.2.2.2.2.1)) 59 (nI u.2.2.2.2.2.2.2.2.2.2.1)) 60 (nI u.2.2.2.2.2.2.2.2.2.1)) 64 (nI u.1)) 65 u.2.2.2.2.2.2.2.2.2.2.2.2.2.1) 66 (nI lk)) 67 (nI u.2.2.2.2.2.2.2.2.2.2.2.1)) 68 (nI u.2.2.2.2.2.2.2.2.2.2.2.2.1)) (updA u.2.2.2.2.2.2.2.2.2.2.2.2.2.2 2 K)))) ([.ref h0, .int (nI d), .int y, .int (nI tn)] : List Value).toArray s ({ frames := 640, cells := 0, slots := 0, locals := 50000 } : Room).cells ({ frames := 640, cells := 0, slots := 0, locals := 50000 } : Room).slots A) (F0 m 135 ls []) := by
        intro n_o
        induction n_o with
        | zero => intro at2 wr2 pr2 q2 mo v2 pl2 X2 H locs ls hk_o hn_o; omega
        | succ n_o ih_o =>
          intro at2 wr2 pr2 q2 mo v2 pl2 X2 H locs ls hk_o hn_o hl1 hl2 hl3 hl4 hl5 hl6 hl7 hl8 hkq2 hps2 hfm2 hy2 hlr2 hc36 hc37 hc38 hc39 hc40 hc41 hc42 hc43 hc44 hP hD hS hl
          refine lv_iload hx hb dX12_method_135 (lv_at hl 0 rfl) ?_
          refine lv_if_eq (tgt := 258) hx hb dX12_method_137 (by decide) (fun c121 => ?_) (fun c121 => ?_)
          · have n122 : mo = 0 := (nI_eq (a := mo) (b := 0) (by omega) (by omega)).mp c121
            refine lv_aload_n hx hb dX12_method_258 rfl (lv_at hl 5 rfl) ?_
            refine lv_bipush (v := 41) hx hb dX12_method_259 (by decide) ?_
            have hP : va_P G.1 pCl (mW G h0 a (upd (upd (upd (upd (upd (upd (upd (upd (upd (upd (upd (upd (upd (upd (upd (upd (upd F 15 0) 16 pl2) 27 (nI nd)) 31 (nI wr2)) 34 (nI lz)) 35 (nI dc)) 44 (nI fd)) 49 (nI (md + 1))) 59 (nI bk)) 60 (nI pr2)) 64 (nI at2)) 65 ne0) 66 (nI lk)) 67 (nI mf)) 68 (nI (mm + 1))) 15 (nI 0)) 64 (nI at2)) (updA (updA X2 2 K) 2 K)) _ := mW_to (F := F) (l1 := [(15, 0), (16, pl2), (27, (nI nd)), (31, (nI wr2)), (34, (nI lz)), (35, (nI dc)), (44, (nI fd)), (49, (nI (md + 1))), (59, (nI bk)), (60, (nI pr2)), (64, (nI at2)), (65, ne0), (66, (nI lk)), (67, (nI mf)), (68, (nI (mm + 1)))]) (l2 := [(15, 0), (16, pl2), (27, (nI nd)), (31, (nI wr2)), (34, (nI lz)), (35, (nI dc)), (44, (nI fd)), (49, (nI (md + 1))), (59, (nI bk)), (60, (nI pr2)), (64, (nI at2)), (65, ne0), (66, (nI lk)), (67, (nI mf)), (68, (nI (mm + 1))), (15, (nI 0)), (64, (nI at2))]) (V := [(nI 0), pl2, (nI nd), (nI wr2), (nI lz), (nI dc), (nI fd), (nI (md + 1)), (nI bk), (nI pr2), (nI at2), ne0, (nI lk), (nI mf), (nI (mm + 1)), (nI 0), pl2, (nI nd), (nI wr2), (nI lz), (nI dc), (nI fd), (nI (md + 1)), (nI bk), (nI pr2), (nI at2), ne0, (nI lk), (nI mf), (nI (mm + 1)), (nI 0), (nI at2)]) rfl rfl (show (updA X2 2 K) = (updA (updA X2 2 K) 2 K) from updsA_eq2 (F := X2) (l1 := [(2, K)]) (l2 := [(2, K), (2, K)]) (V := [K, K, K]) rfl rfl) hP
            have hD : va_D A (mW G h0 a (upd (upd (upd (upd (upd (upd (upd (upd (upd (upd (upd (upd (upd (upd (upd (upd (upd F 15 0) 16 pl2) 27 (nI nd)) 31 (nI wr2)) 34 (nI lz)) 35 (nI dc)) 44 (nI fd)) 49 (nI (md + 1))) 59 (nI bk)) 60 (nI pr2)) 64 (nI at2)) 65 ne0) 66 (nI lk)) 67 (nI mf)) 68 (nI (mm + 1))) 15 (nI 0)) 64 (nI at2)) (updA (updA X2 2 K) 2 K)) := mW_D hD
            refine pc_V0 (G := G) (As := [.int 41]) (rest := []) hx hb hml hown hq hE hX pX0_al hP hD hS hA hl.1 (R_take l G h0 a (upd (upd (upd (upd (upd (upd (upd (upd (upd (upd (upd (upd (upd (upd (upd F 15 0) 16 pl2) 27 (nI nd)) 31 (nI wr2)) 34 (nI lz)) 35 (nI dc)) 44 (nI fd)) 49 (nI (md + 1))) 59 (nI bk)) 60 (nI pr2)) 64 (nI at2)) 65 ne0) 66 (nI lk)) 67 (nI mf)) 68 (nI (mm + 1))) (updA X2 2 K) at2 T 0 K 41 (by omega) (by omega) hK (by omega) (by decide) (by decide)) (gV pw_1614 pw_1615 pw_1616 pw_1523 pw_1601) hV_X12_take 0 9 rfl rfl rfl rfl (Nat.le_of_ble_eq_true rfl) dX12_method_261 ⟨Nat.le_of_ble_eq_true rfl, Nat.le_of_ble_eq_true rfl⟩ ⟨Nat.le_of_ble_eq_true rfl, Nat.le_of_ble_eq_true rfl⟩ (fun v125 u123 H locs hw124 hP hD hS => ?_)
            obtain ⟨at126, fa127, pl128⟩ := u123
            obtain ⟨hw124, h129, h130, h131, h132, h133, h134, h135, h136⟩ := hw124
            replace h129 : at2 ≤ at126 := h129
            replace h130 : at126 ≤ T := h130
            replace h131 : 0 ≤ fa127 := h131
            replace h132 : fa127 ≤ 100 := h132
            replace h133 : If (0 < 0) (at126 = at2 ∧ fa127 = 0) := h133
            replace h134 : at126 ≤ at2 + 1 := h134
            replace h135 : at2 + 1 ≤ at126 + fa127 := h135
            replace h136 : If (fa127 = 0) (K at2 = 41) := h136
            obtain rfl : v125 = none := hw124
            have hP : va_P G.1 pCl (mW G h0 a (upd (upd (upd (upd (upd (upd (upd (upd (upd (upd (upd (upd (upd (upd (upd F 15 (nI fa127)) 16 pl128) 27 (nI nd)) 31 (nI wr2)) 34 (nI lz)) 35 (nI dc)) 44 (nI fd)) 49 (nI (md + 1))) 59 (nI bk)) 60 (nI pr2)) 64 (nI at126)) 65 ne0) 66 (nI lk)) 67 (nI mf)) 68 (nI (mm + 1))) (updA X2 2 K)) _ := mW_to (F := F) (l1 := [(15, 0), (16, pl2), (27, (nI nd)), (31, (nI wr2)), (34, (nI lz)), (35, (nI dc)), (44, (nI fd)), (49, (nI (md + 1))), (59, (nI bk)), (60, (nI pr2)), (64, (nI at2)), (65, ne0), (66, (nI lk)), (67, (nI mf)), (68, (nI (mm + 1))), (15, (nI fa127)), (16, pl128), (64, (nI at126))]) (l2 := [(15, (nI fa127)), (16, pl128), (27, (nI nd)), (31, (nI wr2)), (34, (nI lz)), (35, (nI dc)), (44, (nI fd)), (49, (nI (md + 1))), (59, (nI bk)), (60, (nI pr2)), (64, (nI at126)), (65, ne0), (66, (nI lk)), (67, (nI mf)), (68, (nI (mm + 1)))]) (V := [(nI fa127), pl128, (nI nd), (nI wr2), (nI lz), (nI dc), (nI fd), (nI (md + 1)), (nI bk), (nI pr2), (nI at126), ne0, (nI lk), (nI mf), (nI (mm + 1)), (nI fa127), pl128, (nI at126), (nI fa127), pl128, (nI nd), (nI wr2), (nI lz), (nI dc), (nI fd), (nI (md + 1)), (nI bk), (nI pr2), (nI at126), ne0, (nI lk), (nI mf), (nI (mm + 1))]) rfl rfl (show (updA (updA X2 2 K) 2 K) = (updA X2 2 K) from updsA_eq2 (F := X2) (l1 := [(2, K), (2, K)]) (l2 := [(2, K)]) (V := [K, K, K]) rfl rfl) hP
            have hD : va_D A (mW G h0 a (upd (upd (upd (upd (upd (upd (upd (upd (upd (upd (upd (upd (upd (upd (upd F 15 (nI fa127)) 16 pl128) 27 (nI nd)) 31 (nI wr2)) 34 (nI lz)) 35 (nI dc)) 44 (nI fd)) 49 (nI (md + 1))) 59 (nI bk)) 60 (nI pr2)) 64 (nI at126)) 65 ne0) 66 (nI lk)) 67 (nI mf)) 68 (nI (mm + 1))) (updA X2 2 K)) := mW_D hD
            refine W.widen (k := 0) (n := 0) (Nat.le_of_ble_eq_true rfl) (Nat.le_of_ble_eq_true rfl) ?_
            refine W.eq (g2 := F0 m 264 ls []) rfl ?_
            rcases Nat.eq_zero_or_pos fa127 with e137 | e137
            · subst e137
              have hP : va_P G.1 pCl (mW G h0 a (upd (upd (upd (upd (upd (upd (upd (upd (upd (upd (upd (upd (upd (upd (upd F 15 0) 16 pl128) 27 (nI nd)) 31 (nI wr2)) 34 (nI lz)) 35 (nI dc)) 44 (nI fd)) 49 (nI (md + 1))) 59 (nI bk)) 60 (nI pr2)) 64 (nI at126)) 65 ne0) 66 (nI lk)) 67 (nI mf)) 68 (nI (mm + 1))) (updA X2 2 K)) _ := hP
              have hD : va_D A (mW G h0 a (upd (upd (upd (upd (upd (upd (upd (upd (upd (upd (upd (upd (upd (upd (upd F 15 0) 16 pl128) 27 (nI nd)) 31 (nI wr2)) 34 (nI lz)) 35 (nI dc)) 44 (nI fd)) 49 (nI (md + 1))) 59 (nI bk)) 60 (nI pr2)) 64 (nI at126)) 65 ne0) 66 (nI lk)) 67 (nI mf)) 68 (nI (mm + 1))) (updA X2 2 K)) := mW_D hD
              refine lv_aload_n hx hb dX12_method_264 rfl (lv_at hl 5 rfl) ?_
              refine r_get (v := .ref (a 26)) hx hb hown hq hE hP 38 90 tFX12_38 (by decide) pw_1457 rfl dX12_method_265 ?_
              refine lv_iload_n hx hb dX12_method_268 rfl (lv_at hl 4 rfl) ?_
              refine r_ldz (f := (X2 26)) (j := d) hx hb hE hP 26 (ma_26 G a _) rfl (by omega) (by decide) dX12_method_269 ?_
              rcases (hps2.1 d (by omega)).2.2.1 with e140 | e140
              · have hce141 : X2 26 d = 0 := e140
                refine lv_topi (fun x138 e139 => ?_)
                obtain rfl : x138 = 0 := e139.trans e140
                refine lv_if_eq (tgt := 280) hx hb dX12_method_270 (by decide) (fun c142 => ?_) (fun c142 => absurd c142 (by decide))
                refine lv_aload_n hx hb dX12_method_280 rfl (lv_at hl 5 rfl) ?_
                refine r_get (v := .ref (a 44)) hx hb hown hq hE hP 58 144 tFX12_58 (by decide) pw_1475 rfl dX12_method_281 ?_
                refine lv_iload hx hb dX12_method_284 (lv_at hl 1 rfl) ?_
                refine lv_aload_n hx hb dX12_method_286 rfl (lv_at hl 5 rfl) ?_
                refine r_get (v := .int (nI bk)) hx hb hown hq hE hP 59 422 tFX12_59 (by decide) pw_1724 rfl dX12_method_287 ?_
                refine r_sti (f := (X2 44)) (j := md) hx hb hE hP hD hS 44 (ma_44 G a _) rfl (mas_44 G a _) (by omega) (by decide) dX12_method_290 (fun H locs hP hD hS => ?_)
                have hP : va_P G.1 pCl (mW G h0 a (upd (upd (upd (upd (upd (upd (upd (upd (upd (upd (upd (upd (upd (upd (upd F 15 0) 16 pl128) 27 (nI nd)) 31 (nI wr2)) 34 (nI lz)) 35 (nI dc)) 44 (nI fd)) 49 (nI (md + 1))) 59 (nI bk)) 60 (nI pr2)) 64 (nI at126)) 65 ne0) 66 (nI lk)) 67 (nI mf)) 68 (nI (mm + 1))) (updA (stR X2 44 md (nI bk)) 2 K)) _ := hP
                have hD : va_D A (mW G h0 a (upd (upd (upd (upd (upd (upd (upd (upd (upd (upd (upd (upd (upd (upd (upd F 15 0) 16 pl128) 27 (nI nd)) 31 (nI wr2)) 34 (nI lz)) 35 (nI dc)) 44 (nI fd)) 49 (nI (md + 1))) 59 (nI bk)) 60 (nI pr2)) 64 (nI at126)) 65 ne0) 66 (nI lk)) 67 (nI mf)) 68 (nI (mm + 1))) (updA (stR X2 44 md (nI bk)) 2 K)) := mW_D hD
                have hkq143 : Kq 0 B (stR X2 44 md (nI bk)) := (Kq.st hkq2 (by omega))
                have hce144 : (stR X2 44 md (nI bk)) 36 md = (nI d) := ((st_ne (by omega)).trans hc36)
                have hce145 : (stR X2 44 md (nI bk)) 37 md = (nI v2) := ((st_ne (by omega)).trans hc37)
                have hce146 : (stR X2 44 md (nI bk)) 38 md = (nI tn) := ((st_ne (by omega)).trans hc38)
                have hce147 : (stR X2 44 md (nI bk)) 39 md = y := ((st_ne (by omega)).trans hc39)
                have hce148 : (stR X2 44 md (nI bk)) 40 md = (nI pr) := ((st_ne (by omega)).trans hc40)
                have hce149 : (stR X2 44 md (nI bk)) 41 md = (nI q2) := ((st_ne (by omega)).trans hc41)
                have hce150 : (stR X2 44 md (nI bk)) 42 md = (-1) := ((st_ne (by omega)).trans hc42)
                have hce151 : (stR X2 44 md (nI bk)) 43 md = (-1) := ((st_ne (by omega)).trans hc43)
                have hce152 : (stR X2 44 md (nI bk)) 44 md = (nI bk) := st_eq
                have hce153 : (stR X2 44 md (nI bk)) 26 d = 0 := ((st_ne (by omega)).trans hce141)
                have hty154 : tkRow ((stR X2 44 md (nI bk)) 19) wr2 T := hy2
                have hps155 : PS T nm wr2 lz dc fd md pr2 bk (stR X2 44 md (nI bk)) := (PS.same hps2 (by omega) (by omega) (fun r i q1 q2 q3 => st_ne (fun e => by rw [e.1, e.2] at q3; exact absurd (show md < md from q3) (by omega))))
                have hfm156 : FrM K T wr2 (stR X2 44 md (nI bk)) nd md := (FrM.same hfm2 (by omega) (fun j i q1 q2 q3 => st_ne (by omega)) (fun i q => st_ne (by omega)))
                have hlr157 : lsRow ((stR X2 44 md (nI bk)) 22) ((stR X2 44 md (nI bk)) 23) lz T := hlr2
                refine lv_aload_n hx hb dX12_method_291 rfl (lv_at hl 5 rfl) ?_
                refine lv_dup hx hb dX12_method_292 rfl ?_
                refine r_get (v := .int (nI bk)) hx hb hown hq hE hP 59 422 tFX12_59 (by decide) pw_1724 rfl dX12_method_293 ?_
                refine lv_iconst (v := 1) hx hb dX12_method_296 (by decide) ?_
                refine lv_iadd hx hb dX12_method_297 ?_
                refine lv_topi (fun x158 e159 => ?_)
                obtain rfl : x158 = nI (bk + 1) := e159.trans (nI_add (bk) (1))
                refine r_put (v := (nI (bk + 1))) (ty := .int) hx hb hown hq hE hP hD hS 59 422 tFX12_59 (by decide) pw_1724 (by decide) rfl rfl (ms_59 a _ _) dX12_method_298 (fun H locs hP hD hS => ?_)
                refine lv_aload_n hx hb dX12_method_301 rfl (lv_at hl 5 rfl) ?_
                refine lv_iconst (v := 0) hx hb dX12_method_302 (by decide) ?_
                refine r_put (v := 0) (ty := .int) hx hb hown hq hE hP hD hS 65 366 tFX12_65 (by decide) pw_1612 (by decide) rfl rfl (ms_65 a _ _) dX12_method_303 (fun H locs hP hD hS => ?_)
                refine lv_aload_n hx hb dX12_method_306 rfl (lv_at hl 5 rfl) ?_
                refine r_get (v := .ref (a 42)) hx hb hown hq hE hP 56 138 tFX12_56 (by decide) pw_1473 rfl dX12_method_307 ?_
                refine lv_iload hx hb dX12_method_310 (lv_at hl 1 rfl) ?_
                refine lv_aload_n hx hb dX12_method_312 rfl (lv_at hl 5 rfl) ?_
                have hP : va_P G.1 pCl (mW G h0 a (upd (upd (upd (upd (upd (upd (upd (upd (upd (upd (upd (upd (upd (upd (upd (upd (upd (upd (upd (upd (upd F 15 0) 16 pl128) 27 (nI nd)) 31 (nI wr2)) 34 (nI lz)) 35 (nI dc)) 44 (nI fd)) 49 (nI (md + 1))) 59 (nI (bk + 1))) 60 (nI pr2)) 64 (nI at126)) 65 0) 66 (nI lk)) 67 (nI mf)) 68 (nI (mm + 1))) 15 0) 27 (nI nd)) 31 (nI wr2)) 64 (nI at126)) 65 (nI 0)) 66 (nI lk)) (updA (stR X2 44 md (nI bk)) 2 K)) _ := mW_to (F := F) (l1 := [(15, 0), (16, pl128), (27, (nI nd)), (31, (nI wr2)), (34, (nI lz)), (35, (nI dc)), (44, (nI fd)), (49, (nI (md + 1))), (59, (nI bk)), (60, (nI pr2)), (64, (nI at126)), (65, ne0), (66, (nI lk)), (67, (nI mf)), (68, (nI (mm + 1))), (59, (nI (bk + 1))), (65, 0)]) (l2 := [(15, 0), (16, pl128), (27, (nI nd)), (31, (nI wr2)), (34, (nI lz)), (35, (nI dc)), (44, (nI fd)), (49, (nI (md + 1))), (59, (nI (bk + 1))), (60, (nI pr2)), (64, (nI at126)), (65, 0), (66, (nI lk)), (67, (nI mf)), (68, (nI (mm + 1))), (15, 0), (27, (nI nd)), (31, (nI wr2)), (64, (nI at126)), (65, (nI 0)), (66, (nI lk))]) (V := [0, pl128, (nI nd), (nI wr2), (nI lz), (nI dc), (nI fd), (nI (md + 1)), (nI (bk + 1)), (nI pr2), (nI at126), (nI 0), (nI lk), (nI mf), (nI (mm + 1)), (nI (bk + 1)), (nI 0), 0, pl128, (nI nd), (nI wr2), (nI lz), (nI dc), (nI fd), (nI (md + 1)), (nI (bk + 1)), (nI pr2), (nI at126), (nI 0), (nI lk), (nI mf), (nI (mm + 1)), 0, (nI nd), (nI wr2), (nI at126), (nI 0), (nI lk)]) rfl rfl rfl hP
                have hD : va_D A (mW G h0 a (upd (upd (upd (upd (upd (upd (upd (upd (upd (upd (upd (upd (upd (upd (upd (upd (upd (upd (upd (upd (upd F 15 0) 16 pl128) 27 (nI nd)) 31 (nI wr2)) 34 (nI lz)) 35 (nI dc)) 44 (nI fd)) 49 (nI (md + 1))) 59 (nI (bk + 1))) 60 (nI pr2)) 64 (nI at126)) 65 0) 66 (nI lk)) 67 (nI mf)) 68 (nI (mm + 1))) 15 0) 27 (nI nd)) 31 (nI wr2)) 64 (nI at126)) 65 (nI 0)) 66 (nI lk)) (updA (stR X2 44 md (nI bk)) 2 K)) := mW_D hD
                refine pc_V0 (G := G) (As := []) (rest := [.int (nI md), .ref (a 42)]) hx hb hml hown hq hE hX pX0_al hP hD hS hA hl.1 ((RB_all l G 21) h0 a (upd (upd (upd (upd (upd (upd (upd (upd (upd (upd (upd (upd (upd (upd (upd F 15 0) 16 pl128) 27 (nI nd)) 31 (nI wr2)) 34 (nI lz)) 35 (nI dc)) 44 (nI fd)) 49 (nI (md + 1))) 59 (nI (bk + 1))) 60 (nI pr2)) 64 (nI at126)) 65 0) 66 (nI lk)) 67 (nI mf)) 68 (nI (mm + 1))) (stR X2 44 md (nI bk)) at126 T 0 nd wr2 lk K (by omega) (by omega) hK (by omega) (by omega) (by omega) (by omega) hty154 (by omega)) (gV pw_1685 pw_1686 pw_1687 pw_1523 pw_1688) hV_X12_block 0 9 rfl rfl rfl rfl (Nat.le_of_ble_eq_true rfl) dX12_method_313 ⟨Nat.le_of_ble_eq_true rfl, Nat.le_of_ble_eq_true rfl⟩ ⟨(by show (26 * 21 + 42) + 1 ≤ 640; omega), (by show 8 + (4 + 11) + (2000 * 21 + 4200) ≤ 50000; omega)⟩ (fun v162 u160 H locs hw161 hP hD hS => ?_)
                obtain ⟨at163, fa164, pl165, nd166, lk167, wr168, r169, X170⟩ := u160
                obtain ⟨hw161, h171, h172, h173, h174, h175, h176, h177, h178, h179, h180, h181, h182, h183, h184⟩ := hw161
                replace h171 : at126 ≤ at163 := h171
                replace h172 : at163 ≤ T := h172
                replace h173 : fa164 ≤ 100 := h173
                replace h174 : nd ≤ nd166 := h174
                replace h175 : nd166 + 2 * at126 ≤ nd + 2 * at163 + 100000 * fa164 := h175
                replace h176 : nd166 + 2 * at126 ≤ nd + 2 * at163 + (60 * (20 - 0) + 50) := h176
                replace h177 : wr2 ≤ wr168 := h177
                replace h178 : wr168 + at126 ≤ wr2 + at163 := h178
                replace h179 : lk ≤ lk167 := h179
                replace h180 : lk167 ≤ lk := h180
                replace h181 : at126 + 1 ≤ at163 + fa164 := h181
                replace h182 : r169 ≤ nd166 := h182
                replace h183 : Kp (stR X2 44 md (nI bk)) X170 wr168 T := h183
                replace h184 : If (fa164 = 0) (Low (stR X2 44 md (nI bk)) X170 nd wr2 ∧ Frs K T wr168 X170 nd nd166 20000 [(r169, (281 + 4 * (20 - 0)))] ∧ kcl 10 (X170 9 r169) = true) := h184
                obtain rfl : v162 = some (.int (nI r169)) := hw161
                have hP : va_P G.1 pCl (mW G h0 a (upd (upd (upd (upd (upd (upd (upd (upd (upd (upd (upd (upd (upd (upd (upd F 15 (nI fa164)) 16 pl165) 27 (nI nd166)) 31 (nI wr168)) 34 (nI lz)) 35 (nI dc)) 44 (nI fd)) 49 (nI (md + 1))) 59 (nI (bk + 1))) 60 (nI pr2)) 64 (nI at163)) 65 0) 66 (nI lk167)) 67 (nI mf)) 68 (nI (mm + 1))) (updA X170 2 K)) _ := mW_to (F := F) (l1 := [(15, 0), (16, pl128), (27, (nI nd)), (31, (nI wr2)), (34, (nI lz)), (35, (nI dc)), (44, (nI fd)), (49, (nI (md + 1))), (59, (nI (bk + 1))), (60, (nI pr2)), (64, (nI at126)), (65, 0), (66, (nI lk)), (67, (nI mf)), (68, (nI (mm + 1))), (15, (nI fa164)), (16, pl165), (27, (nI nd166)), (31, (nI wr168)), (64, (nI at163)), (65, (nI 0)), (66, (nI lk167))]) (l2 := [(15, (nI fa164)), (16, pl165), (27, (nI nd166)), (31, (nI wr168)), (34, (nI lz)), (35, (nI dc)), (44, (nI fd)), (49, (nI (md + 1))), (59, (nI (bk + 1))), (60, (nI pr2)), (64, (nI at163)), (65, 0), (66, (nI lk167)), (67, (nI mf)), (68, (nI (mm + 1)))]) (V := [(nI fa164), pl165, (nI nd166), (nI wr168), (nI lz), (nI dc), (nI fd), (nI (md + 1)), (nI (bk + 1)), (nI pr2), (nI at163), 0, (nI lk167), (nI mf), (nI (mm + 1)), (nI fa164), pl165, (nI nd166), (nI wr168), (nI at163), 0, (nI lk167), (nI fa164), pl165, (nI nd166), (nI wr168), (nI lz), (nI dc), (nI fd), (nI (md + 1)), (nI (bk + 1)), (nI pr2), (nI at163), 0, (nI lk167), (nI mf), (nI (mm + 1))]) rfl rfl rfl hP
                have hD : va_D A (mW G h0 a (upd (upd (upd (upd (upd (upd (upd (upd (upd (upd (upd (upd (upd (upd (upd F 15 (nI fa164)) 16 pl165) 27 (nI nd166)) 31 (nI wr168)) 34 (nI lz)) 35 (nI dc)) 44 (nI fd)) 49 (nI (md + 1))) 59 (nI (bk + 1))) 60 (nI pr2)) 64 (nI at163)) 65 0) 66 (nI lk167)) 67 (nI mf)) 68 (nI (mm + 1))) (updA X170 2 K)) := mW_D hD
                refine W.widen (k := 0) (n := 0) (Nat.le_of_ble_eq_true rfl) (Nat.le_of_ble_eq_true rfl) ?_
                refine W.eq (g2 := F0 m 316 ls [.int (nI r169), .int (nI md), .ref (a 42)]) rfl ?_
                obtain rfl : lk = lk167 := (by omega)
                rcases Nat.eq_zero_or_pos fa164 with e185 | e185
                · subst e185
                  have hP : va_P G.1 pCl (mW G h0 a (upd (upd (upd (upd (upd (upd (upd (upd (upd (upd (upd (upd (upd (upd (upd F 15 0) 16 pl165) 27 (nI nd166)) 31 (nI wr168)) 34 (nI lz)) 35 (nI dc)) 44 (nI fd)) 49 (nI (md + 1))) 59 (nI (bk + 1))) 60 (nI pr2)) 64 (nI at163)) 65 0) 66 (nI lk)) 67 (nI mf)) 68 (nI (mm + 1))) (updA X170 2 K)) _ := hP
                  have hD : va_D A (mW G h0 a (upd (upd (upd (upd (upd (upd (upd (upd (upd (upd (upd (upd (upd (upd (upd F 15 0) 16 pl165) 27 (nI nd166)) 31 (nI wr168)) 34 (nI lz)) 35 (nI dc)) 44 (nI fd)) 49 (nI (md + 1))) 59 (nI (bk + 1))) 60 (nI pr2)) 64 (nI at163)) 65 0) 66 (nI lk)) 67 (nI mf)) 68 (nI (mm + 1))) (updA X170 2 K)) := mW_D hD
                  obtain ⟨hlw186, hf187, hc188⟩ := h184 rfl
                  have hkq189 : Kq 0 B X170 := (Kq.kp hkq143 h183)
                  have hce190 : X170 36 md = (nI d) := ((congrFun (h183.1 36 (by omega)) md).trans hce144)
                  have hce191 : X170 37 md = (nI v2) := ((congrFun (h183.1 37 (by omega)) md).trans hce145)
                  have hce192 : X170 38 md = (nI tn) := ((congrFun (h183.1 38 (by omega)) md).trans hce146)
                  have hce193 : X170 39 md = y := ((congrFun (h183.1 39 (by omega)) md).trans hce147)
                  have hce194 : X170 40 md = (nI pr) := ((congrFun (h183.1 40 (by omega)) md).trans hce148)
                  have hce195 : X170 41 md = (nI q2) := ((congrFun (h183.1 41 (by omega)) md).trans hce149)
                  have hce196 : X170 42 md = (-1) := ((congrFun (h183.1 42 (by omega)) md).trans hce150)
                  have hce197 : X170 43 md = (-1) := ((congrFun (h183.1 43 (by omega)) md).trans hce151)
                  have hce198 : X170 44 md = (nI bk) := ((congrFun (h183.1 44 (by omega)) md).trans hce152)
                  have hce199 : X170 26 d = 0 := ((congrFun (h183.1 26 (by omega)) d).trans hce153)
                  have hty200 : tkRow (X170 19) wr168 T := h183.2
                  have hps201 : PS T nm wr168 lz dc fd md pr2 bk X170 := (PS.same hps155 (by omega) (by omega) (fun r i q1 q2 q3 => congrFun (h183.1 r (by omega)) i))
                  have hfm202 : FrM K T wr168 X170 nd md := (FrM.same hfm156 (by omega) (fun j i q1 q2 q3 => hlw186.1 j i q1 (by omega) (by omega)) (fun i q => congrFun (h183.1 42 (by omega)) i))
                  have hlr203 : lsRow (X170 22) (X170 23) lz T := (by rw [h183.1 22 (by omega), h183.1 23 (by omega)]; exact hlr157)
                  have hm204 := Frs.mem hf187
                  refine r_sti (f := (X170 42)) (j := md) hx hb hE hP hD hS 42 (ma_42 G a _) rfl (mas_42 G a _) (by omega) (by decide) dX12_method_316 (fun H locs hP hD hS => ?_)
                  have hP : va_P G.1 pCl (mW G h0 a (upd (upd (upd (upd (upd (upd (upd (upd (upd (upd (upd (upd (upd (upd (upd F 15 0) 16 pl165) 27 (nI nd166)) 31 (nI wr168)) 34 (nI lz)) 35 (nI dc)) 44 (nI fd)) 49 (nI (md + 1))) 59 (nI (bk + 1))) 60 (nI pr2)) 64 (nI at163)) 65 0) 66 (nI lk)) 67 (nI mf)) 68 (nI (mm + 1))) (updA (stR X170 42 md (nI r169)) 2 K)) _ := hP
                  have hD : va_D A (mW G h0 a (upd (upd (upd (upd (upd (upd (upd (upd (upd (upd (upd (upd (upd (upd (upd F 15 0) 16 pl165) 27 (nI nd166)) 31 (nI wr168)) 34 (nI lz)) 35 (nI dc)) 44 (nI fd)) 49 (nI (md + 1))) 59 (nI (bk + 1))) 60 (nI pr2)) 64 (nI at163)) 65 0) 66 (nI lk)) 67 (nI mf)) 68 (nI (mm + 1))) (updA (stR X170 42 md (nI r169)) 2 K)) := mW_D hD
                  have hkq205 : Kq 0 B (stR X170 42 md (nI r169)) := (Kq.st hkq189 (by omega))
                  have hce206 : (stR X170 42 md (nI r169)) 36 md = (nI d) := ((st_ne (by omega)).trans hce190)
                  have hce207 : (stR X170 42 md (nI r169)) 37 md = (nI v2) := ((st_ne (by omega)).trans hce191)
                  have hce208 : (stR X170 42 md (nI r169)) 38 md = (nI tn) := ((st_ne (by omega)).trans hce192)
                  have hce209 : (stR X170 42 md (nI r169)) 39 md = y := ((st_ne (by omega)).trans hce193)
                  have hce210 : (stR X170 42 md (nI r169)) 40 md = (nI pr) := ((st_ne (by omega)).trans hce194)
                  have hce211 : (stR X170 42 md (nI r169)) 41 md = (nI q2) := ((st_ne (by omega)).trans hce195)
                  have hce212 : (stR X170 42 md (nI r169)) 42 md = (nI r169) := st_eq
                  have hce213 : (stR X170 42 md (nI r169)) 43 md = (-1) := ((st_ne (by omega)).trans hce197)
                  have hce214 : (stR X170 42 md (nI r169)) 44 md = (nI bk) := ((st_ne (by omega)).trans hce198)
                  have hce215 : (stR X170 42 md (nI r169)) 26 d = 0 := ((st_ne (by omega)).trans hce199)
                  have hty216 : tkRow ((stR X170 42 md (nI r169)) 19) wr168 T := hty200
                  have hps217 : PS T nm wr168 lz dc fd md pr2 bk (stR X170 42 md (nI r169)) := (PS.same hps201 (by omega) (by omega) (fun r i q1 q2 q3 => st_ne (fun e => by rw [e.1, e.2] at q3; exact absurd (show md < md from q3) (by omega))))
                  have hfm218 : FrM K T wr168 (stR X170 42 md (nI r169)) nd md := (FrM.same hfm202 (by omega) (fun j i q1 q2 q3 => st_ne (by omega)) (fun i q => st_ne (by omega)))
                  have hlr219 : lsRow ((stR X170 42 md (nI r169)) 22) ((stR X170 42 md (nI r169)) 23) lz T := hlr203
                  refine lv_aload_n hx hb dX12_method_317 rfl (lv_at hl 5 rfl) ?_
                  refine r_get (v := .ref (a 43)) hx hb hown hq hE hP 57 141 tFX12_57 (by decide) pw_1474 rfl dX12_method_318 ?_
                  refine lv_iload hx hb dX12_method_321 (lv_at hl 1 rfl) ?_
                  refine lv_aload_n hx hb dX12_method_323 rfl (lv_at hl 5 rfl) ?_
                  refine r_get (v := .int (nI at163)) hx hb hown hq hE hP 64 343 tFX12_64 (by decide) pw_1592 rfl dX12_method_324 ?_
                  refine lv_iconst (v := 1) hx hb dX12_method_327 (by decide) ?_
                  refine lv_isub hx hb dX12_method_328 ?_
                  refine lv_topi (fun x220 e221 => ?_)
                  obtain rfl : x220 = nI (at163 - 1) := e221.trans (nI_subN (a := 1) (b := at163) (by omega))
                  refine r_sti (f := ((stR X170 42 md (nI r169)) 43)) (j := md) hx hb hE hP hD hS 43 (ma_43 G a _) rfl (mas_43 G a _) (by omega) (by decide) dX12_method_329 (fun H locs hP hD hS => ?_)
                  have hP : va_P G.1 pCl (mW G h0 a (upd (upd (upd (upd (upd (upd (upd (upd (upd (upd (upd (upd (upd (upd (upd F 15 0) 16 pl165) 27 (nI nd166)) 31 (nI wr168)) 34 (nI lz)) 35 (nI dc)) 44 (nI fd)) 49 (nI (md + 1))) 59 (nI (bk + 1))) 60 (nI pr2)) 64 (nI at163)) 65 0) 66 (nI lk)) 67 (nI mf)) 68 (nI (mm + 1))) (updA (stR (stR X170 42 md (nI r169)) 43 md (nI (at163 - 1))) 2 K)) _ := hP
                  have hD : va_D A (mW G h0 a (upd (upd (upd (upd (upd (upd (upd (upd (upd (upd (upd (upd (upd (upd (upd F 15 0) 16 pl165) 27 (nI nd166)) 31 (nI wr168)) 34 (nI lz)) 35 (nI dc)) 44 (nI fd)) 49 (nI (md + 1))) 59 (nI (bk + 1))) 60 (nI pr2)) 64 (nI at163)) 65 0) 66 (nI lk)) 67 (nI mf)) 68 (nI (mm + 1))) (updA (stR (stR X170 42 md (nI r169)) 43 md (nI (at163 - 1))) 2 K)) := mW_D hD
                  have hkq222 : Kq 0 B (stR (stR X170 42 md (nI r169)) 43 md (nI (at163 - 1))) := (Kq.st hkq205 (by omega))
                  have hce223 : (stR (stR X170 42 md (nI r169)) 43 md (nI (at163 - 1))) 36 md = (nI d) := ((st_ne (by omega)).trans hce206)
                  have hce224 : (stR (stR X170 42 md (nI r169)) 43 md (nI (at163 - 1))) 37 md = (nI v2) := ((st_ne (by omega)).trans hce207)
                  have hce225 : (stR (stR X170 42 md (nI r169)) 43 md (nI (at163 - 1))) 38 md = (nI tn) := ((st_ne (by omega)).trans hce208)
                  have hce226 : (stR (stR X170 42 md (nI r169)) 43 md (nI (at163 - 1))) 39 md = y := ((st_ne (by omega)).trans hce209)
                  have hce227 : (stR (stR X170 42 md (nI r169)) 43 md (nI (at163 - 1))) 40 md = (nI pr) := ((st_ne (by omega)).trans hce210)
                  have hce228 : (stR (stR X170 42 md (nI r169)) 43 md (nI (at163 - 1))) 41 md = (nI q2) := ((st_ne (by omega)).trans hce211)
                  have hce229 : (stR (stR X170 42 md (nI r169)) 43 md (nI (at163 - 1))) 42 md = (nI r169) := ((st_ne (by omega)).trans hce212)
                  have hce230 : (stR (stR X170 42 md (nI r169)) 43 md (nI (at163 - 1))) 43 md = (nI (at163 - 1)) := st_eq
                  have hce231 : (stR (stR X170 42 md (nI r169)) 43 md (nI (at163 - 1))) 44 md = (nI bk) := ((st_ne (by omega)).trans hce214)
                  have hce232 : (stR (stR X170 42 md (nI r169)) 43 md (nI (at163 - 1))) 26 d = 0 := ((st_ne (by omega)).trans hce215)
                  have hty233 : tkRow ((stR (stR X170 42 md (nI r169)) 43 md (nI (at163 - 1))) 19) wr168 T := hty216
                  have hps234 : PS T nm wr168 lz dc fd md pr2 bk (stR (stR X170 42 md (nI r169)) 43 md (nI (at163 - 1))) := (PS.same hps217 (by omega) (by omega) (fun r i q1 q2 q3 => st_ne (fun e => by rw [e.1, e.2] at q3; exact absurd (show md < md from q3) (by omega))))
                  have hfm235 : FrM K T wr168 (stR (stR X170 42 md (nI r169)) 43 md (nI (at163 - 1))) nd md := (FrM.same hfm218 (by omega) (fun j i q1 q2 q3 => st_ne (by omega)) (fun i q => st_ne (by omega)))
                  have hlr236 : lsRow ((stR (stR X170 42 md (nI r169)) 43 md (nI (at163 - 1))) 22) ((stR (stR X170 42 md (nI r169)) 43 md (nI (at163 - 1))) 23) lz T := hlr219
                  have hps237 : PS T nm wr168 lz dc fd (md + 1) pr2 (bk + 1) (stR (stR X170 42 md (nI r169)) 43 md (nI (at163 - 1))) := (PS.metB hps234 hce223 (by omega) (by omega) hce224 (by omega) hce225 (by omega) hce226 (OrY.mono hyr (by omega)) hce227 hce228 (by omega) (by omega) hce229 (by have z9 := Frs.mem hf187; omega) hce230 (by omega) hce231 hce232)
                  have hf238 : Frs K T wr168 (stR (stR X170 42 md (nI r169)) 43 md (nI (at163 - 1))) nd nd166 20000 [(r169, (281 + 4 * (20 - 0)))] := (Frs.same hf187 (by omega) (fun j i q1 q2 q3 q4 => (st_ne (by omega)).trans (st_ne (by omega))))
                  have hfm239 : FrM K T wr168 (stR (stR X170 42 md (nI r169)) 43 md (nI (at163 - 1))) nd166 (md + 1) := (FrM.more hfm235 hf238 (by omega) (by omega) (by omega) (by omega) hce229 ((st_ne (by omega)).trans ((st_ne (by omega)).trans (kcl_10 hc188))))
                  have hz240 : at0 ≤ at163 := (by omega)
                  have hz241 : at163 ≤ T := (by omega)
                  have hz242 : 0 ≤ 100 := (by omega)
                  have hz243 : at0 + 1 ≤ at163 + 0 := (by omega)
                  have hz244 : Kq 0 B (stR (stR X170 42 md (nI r169)) 43 md (nI (at163 - 1))) := hkq222
                  have hz245 : If (0 = 0) ((nd166 ≤ 2 * at163 ∧ wr168 ≤ at163 ∧ lz ≤ at163 ∧ pr2 ≤ at163 ∧ dc ≤ 37 ∧ dc ≤ dc ∧ (bk + 1) ≤ (md + 1) ∧ wr ≤ wr168 ∧ lz ≤ lz) ∧ ((md + 1) + 240 ≤ 30 * dc + (mm + 1) ∧ fd + 160 ≤ 20 * dc + mf ∧ mf ≤ 20 ∧ (mm + 1) ≤ 30 ∧ dc = dc) ∧ PS T nm wr168 lz dc fd (md + 1) pr2 (bk + 1) (stR (stR X170 42 md (nI r169)) 43 md (nI (at163 - 1))) ∧ FrM K T wr168 (stR (stR X170 42 md (nI r169)) 43 md (nI (at163 - 1))) nd166 (md + 1) ∧ tkRow ((stR (stR X170 42 md (nI r169)) 43 md (nI (at163 - 1))) 19) wr168 T ∧ lsRow ((stR (stR X170 42 md (nI r169)) 43 md (nI (at163 - 1))) 22) ((stR (stR X170 42 md (nI r169)) 43 md (nI (at163 - 1))) 23) lz T) := (fun _ => ⟨by omega, by omega, hps237, hfm239, hty233, hlr236⟩)
                  have hP : va_P G.1 pCl (mW G h0 a (upd (upd (upd (upd (upd (upd (upd (upd (upd (upd (upd (upd (upd (upd (upd F 15 (nI 0)) 16 pl165) 27 (nI nd166)) 31 (nI wr168)) 34 (nI lz)) 35 (nI dc)) 44 (nI fd)) 49 (nI (md + 1))) 59 (nI (bk + 1))) 60 (nI pr2)) 64 (nI at163)) 65 (0 : Int32)) 66 (nI lk)) 67 (nI mf)) 68 (nI (mm + 1))) (updA (stR (stR X170 42 md (nI r169)) 43 md (nI (at163 - 1))) 2 K)) _ := mW_to (F := F) (l1 := [(15, 0), (16, pl165), (27, (nI nd166)), (31, (nI wr168)), (34, (nI lz)), (35, (nI dc)), (44, (nI fd)), (49, (nI (md + 1))), (59, (nI (bk + 1))), (60, (nI pr2)), (64, (nI at163)), (65, 0), (66, (nI lk)), (67, (nI mf)), (68, (nI (mm + 1)))]) (l2 := [(15, (nI 0)), (16, pl165), (27, (nI nd166)), (31, (nI wr168)), (34, (nI lz)), (35, (nI dc)), (44, (nI fd)), (49, (nI (md + 1))), (59, (nI (bk + 1))), (60, (nI pr2)), (64, (nI at163)), (65, (0 : Int32)), (66, (nI lk)), (67, (nI mf)), (68, (nI (mm + 1)))]) (V := [(nI 0), pl165, (nI nd166), (nI wr168), (nI lz), (nI dc), (nI fd), (nI (md + 1)), (nI (bk + 1)), (nI pr2), (nI at163), (0 : Int32), (nI lk), (nI mf), (nI (mm + 1)), (nI 0), pl165, (nI nd166), (nI wr168), (nI lz), (nI dc), (nI fd), (nI (md + 1)), (nI (bk + 1)), (nI pr2), (nI at163), (0 : Int32), (nI lk), (nI mf), (nI (mm + 1))]) rfl rfl rfl hP
                  have hD : va_D A (mW G h0 a (upd (upd (upd (upd (upd (upd (upd (upd (upd (upd (upd (upd (upd (upd (upd F 15 (nI 0)) 16 pl165) 27 (nI nd166)) 31 (nI wr168)) 34 (nI lz)) 35 (nI dc)) 44 (nI fd)) 49 (nI (md + 1))) 59 (nI (bk + 1))) 60 (nI pr2)) 64 (nI at163)) 65 (0 : Int32)) 66 (nI lk)) 67 (nI mf)) 68 (nI (mm + 1))) (updA (stR (stR X170 42 md (nI r169)) 43 md (nI (at163 - 1))) 2 K)) := mW_D hD
                  exact W.vret hx hb hr (fun t9 ht9 hW9 => ⟨⟨_, (at163, 0, pl165, nd166, wr168, lz, dc, fd, (md + 1), pr2, (bk + 1), mf, (mm + 1), (0 : Int32), (stR (stR X170 42 md (nI r169)) 43 md (nI (at163 - 1)))), rfl, ⟨rfl, hz240, hz241, hz242, hz243, hz244, hz245⟩, by rw [ht9]; exact hP, hD⟩, hS.F ht9⟩) hS.2.2 dX12_method_330
                · have e185 := e185
                  have hkq246 : Kq 0 B X170 := (Kq.kp hkq143 h183)
                  have hce247 : X170 36 md = (nI d) := ((congrFun (h183.1 36 (by omega)) md).trans hce144)
                  have hce248 : X170 37 md = (nI v2) := ((congrFun (h183.1 37 (by omega)) md).trans hce145)
                  have hce249 : X170 38 md = (nI tn) := ((congrFun (h183.1 38 (by omega)) md).trans hce146)
                  have hce250 : X170 39 md = y := ((congrFun (h183.1 39 (by omega)) md).trans hce147)
                  have hce251 : X170 40 md = (nI pr) := ((congrFun (h183.1 40 (by omega)) md).trans hce148)
                  have hce252 : X170 41 md = (nI q2) := ((congrFun (h183.1 41 (by omega)) md).trans hce149)
                  have hce253 : X170 42 md = (-1) := ((congrFun (h183.1 42 (by omega)) md).trans hce150)
                  have hce254 : X170 43 md = (-1) := ((congrFun (h183.1 43 (by omega)) md).trans hce151)
                  have hce255 : X170 44 md = (nI bk) := ((congrFun (h183.1 44 (by omega)) md).trans hce152)
                  have hce256 : X170 26 d = 0 := ((congrFun (h183.1 26 (by omega)) d).trans hce153)
                  have hty257 : tkRow (X170 19) wr168 T := h183.2
                  refine r_sti (f := (X170 42)) (j := md) hx hb hE hP hD hS 42 (ma_42 G a _) rfl (mas_42 G a _) (by omega) (by decide) dX12_method_316 (fun H locs hP hD hS => ?_)
                  have hP : va_P G.1 pCl (mW G h0 a (upd (upd (upd (upd (upd (upd (upd (upd (upd (upd (upd (upd (upd (upd (upd F 15 (nI fa164)) 16 pl165) 27 (nI nd166)) 31 (nI wr168)) 34 (nI lz)) 35 (nI dc)) 44 (nI fd)) 49 (nI (md + 1))) 59 (nI (bk + 1))) 60 (nI pr2)) 64 (nI at163)) 65 0) 66 (nI lk)) 67 (nI mf)) 68 (nI (mm + 1))) (updA (stR X170 42 md (nI r169)) 2 K)) _ := hP
                  have hD : va_D A (mW G h0 a (upd (upd (upd (upd (upd (upd (upd (upd (upd (upd (upd (upd (upd (upd (upd F 15 (nI fa164)) 16 pl165) 27 (nI nd166)) 31 (nI wr168)) 34 (nI lz)) 35 (nI dc)) 44 (nI fd)) 49 (nI (md + 1))) 59 (nI (bk + 1))) 60 (nI pr2)) 64 (nI at163)) 65 0) 66 (nI lk)) 67 (nI mf)) 68 (nI (mm + 1))) (updA (stR X170 42 md (nI r169)) 2 K)) := mW_D hD
                  have hkq258 : Kq 0 B (stR X170 42 md (nI r169)) := (Kq.st hkq246 (by omega))
                  have hce259 : (stR X170 42 md (nI r169)) 36 md = (nI d) := ((st_ne (by omega)).trans hce247)
                  have hce260 : (stR X170 42 md (nI r169)) 37 md = (nI v2) := ((st_ne (by omega)).trans hce248)
                  have hce261 : (stR X170 42 md (nI r169)) 38 md = (nI tn) := ((st_ne (by omega)).trans hce249)
                  have hce262 : (stR X170 42 md (nI r169)) 39 md = y := ((st_ne (by omega)).trans hce250)
                  have hce263 : (stR X170 42 md (nI r169)) 40 md = (nI pr) := ((st_ne (by omega)).trans hce251)
                  have hce264 : (stR X170 42 md (nI r169)) 41 md = (nI q2) := ((st_ne (by omega)).trans hce252)
                  have hce265 : (stR X170 42 md (nI r169)) 42 md = (nI r169) := st_eq
                  have hce266 : (stR X170 42 md (nI r169)) 43 md = (-1) := ((st_ne (by omega)).trans hce254)
                  have hce267 : (stR X170 42 md (nI r169)) 44 md = (nI bk) := ((st_ne (by omega)).trans hce255)
                  have hce268 : (stR X170 42 md (nI r169)) 26 d = 0 := ((st_ne (by omega)).trans hce256)
                  have hty269 : tkRow ((stR X170 42 md (nI r169)) 19) wr168 T := hty257
                  refine lv_aload_n hx hb dX12_method_317 rfl (lv_at hl 5 rfl) ?_
                  refine r_get (v := .ref (a 43)) hx hb hown hq hE hP 57 141 tFX12_57 (by decide) pw_1474 rfl dX12_method_318 ?_
                  refine lv_iload hx hb dX12_method_321 (lv_at hl 1 rfl) ?_
                  refine lv_aload_n hx hb dX12_method_323 rfl (lv_at hl 5 rfl) ?_
                  refine r_get (v := .int (nI at163)) hx hb hown hq hE hP 64 343 tFX12_64 (by decide) pw_1592 rfl dX12_method_324 ?_
                  refine lv_iconst (v := 1) hx hb dX12_method_327 (by decide) ?_
                  refine lv_isub hx hb dX12_method_328 ?_
                  refine lv_topi (fun x270 e271 => ?_)
                  obtain rfl : x270 = nI (at163 - 1) := e271.trans (nI_subN (a := 1) (b := at163) (by omega))
                  refine r_sti (f := ((stR X170 42 md (nI r169)) 43)) (j := md) hx hb hE hP hD hS 43 (ma_43 G a _) rfl (mas_43 G a _) (by omega) (by decide) dX12_method_329 (fun H locs hP hD hS => ?_)
                  have hP : va_P G.1 pCl (mW G h0 a (upd (upd (upd (upd (upd (upd (upd (upd (upd (upd (upd (upd (upd (upd (upd F 15 (nI fa164)) 16 pl165) 27 (nI nd166)) 31 (nI wr168)) 34 (nI lz)) 35 (nI dc)) 44 (nI fd)) 49 (nI (md + 1))) 59 (nI (bk + 1))) 60 (nI pr2)) 64 (nI at163)) 65 0) 66 (nI lk)) 67 (nI mf)) 68 (nI (mm + 1))) (updA (stR (stR X170 42 md (nI r169)) 43 md (nI (at163 - 1))) 2 K)) _ := hP
                  have hD : va_D A (mW G h0 a (upd (upd (upd (upd (upd (upd (upd (upd (upd (upd (upd (upd (upd (upd (upd F 15 (nI fa164)) 16 pl165) 27 (nI nd166)) 31 (nI wr168)) 34 (nI lz)) 35 (nI dc)) 44 (nI fd)) 49 (nI (md + 1))) 59 (nI (bk + 1))) 60 (nI pr2)) 64 (nI at163)) 65 0) 66 (nI lk)) 67 (nI mf)) 68 (nI (mm + 1))) (updA (stR (stR X170 42 md (nI r169)) 43 md (nI (at163 - 1))) 2 K)) := mW_D hD
                  have hkq272 : Kq 0 B (stR (stR X170 42 md (nI r169)) 43 md (nI (at163 - 1))) := (Kq.st hkq258 (by omega))
                  have hce273 : (stR (stR X170 42 md (nI r169)) 43 md (nI (at163 - 1))) 36 md = (nI d) := ((st_ne (by omega)).trans hce259)
                  have hce274 : (stR (stR X170 42 md (nI r169)) 43 md (nI (at163 - 1))) 37 md = (nI v2) := ((st_ne (by omega)).trans hce260)
                  have hce275 : (stR (stR X170 42 md (nI r169)) 43 md (nI (at163 - 1))) 38 md = (nI tn) := ((st_ne (by omega)).trans hce261)
                  have hce276 : (stR (stR X170 42 md (nI r169)) 43 md (nI (at163 - 1))) 39 md = y := ((st_ne (by omega)).trans hce262)
                  have hce277 : (stR (stR X170 42 md (nI r169)) 43 md (nI (at163 - 1))) 40 md = (nI pr) := ((st_ne (by omega)).trans hce263)
                  have hce278 : (stR (stR X170 42 md (nI r169)) 43 md (nI (at163 - 1))) 41 md = (nI q2) := ((st_ne (by omega)).trans hce264)
                  have hce279 : (stR (stR X170 42 md (nI r169)) 43 md (nI (at163 - 1))) 42 md = (nI r169) := ((st_ne (by omega)).trans hce265)
                  have hce280 : (stR (stR X170 42 md (nI r169)) 43 md (nI (at163 - 1))) 43 md = (nI (at163 - 1)) := st_eq
                  have hce281 : (stR (stR X170 42 md (nI r169)) 43 md (nI (at163 - 1))) 44 md = (nI bk) := ((st_ne (by omega)).trans hce267)
                  have hce282 : (stR (stR X170 42 md (nI r169)) 43 md (nI (at163 - 1))) 26 d = 0 := ((st_ne (by omega)).trans hce268)
                  have hty283 : tkRow ((stR (stR X170 42 md (nI r169)) 43 md (nI (at163 - 1))) 19) wr168 T := hty269
                  have hz284 : at0 ≤ at163 := (by omega)
                  have hz285 : at163 ≤ T := (by omega)
                  have hz286 : fa164 ≤ 100 := (by omega)
                  have hz287 : at0 + 1 ≤ at163 + fa164 := (by omega)
                  have hz288 : Kq 0 B (stR (stR X170 42 md (nI r169)) 43 md (nI (at163 - 1))) := hkq272
                  have hz289 : If (fa164 = 0) ((nd166 ≤ 2 * at163 ∧ wr168 ≤ at163 ∧ lz ≤ at163 ∧ pr2 ≤ at163 ∧ dc ≤ 37 ∧ dc ≤ dc ∧ (bk + 1) ≤ (md + 1) ∧ wr ≤ wr168 ∧ lz ≤ lz) ∧ ((md + 1) + 240 ≤ 30 * dc + (mm + 1) ∧ fd + 160 ≤ 20 * dc + mf ∧ mf ≤ 20 ∧ (mm + 1) ≤ 30 ∧ dc = dc) ∧ PS T nm wr168 lz dc fd (md + 1) pr2 (bk + 1) (stR (stR X170 42 md (nI r169)) 43 md (nI (at163 - 1))) ∧ FrM K T wr168 (stR (stR X170 42 md (nI r169)) 43 md (nI (at163 - 1))) nd166 (md + 1) ∧ tkRow ((stR (stR X170 42 md (nI r169)) 43 md (nI (at163 - 1))) 19) wr168 T ∧ lsRow ((stR (stR X170 42 md (nI r169)) 43 md (nI (at163 - 1))) 22) ((stR (stR X170 42 md (nI r169)) 43 md (nI (at163 - 1))) 23) lz T) := (fun e => absurd e (by omega))
                  have hP : va_P G.1 pCl (mW G h0 a (upd (upd (upd (upd (upd (upd (upd (upd (upd (upd (upd (upd (upd (upd (upd F 15 (nI fa164)) 16 pl165) 27 (nI nd166)) 31 (nI wr168)) 34 (nI lz)) 35 (nI dc)) 44 (nI fd)) 49 (nI (md + 1))) 59 (nI (bk + 1))) 60 (nI pr2)) 64 (nI at163)) 65 (0 : Int32)) 66 (nI lk)) 67 (nI mf)) 68 (nI (mm + 1))) (updA (stR (stR X170 42 md (nI r169)) 43 md (nI (at163 - 1))) 2 K)) _ := mW_to (F := F) (l1 := [(15, (nI fa164)), (16, pl165), (27, (nI nd166)), (31, (nI wr168)), (34, (nI lz)), (35, (nI dc)), (44, (nI fd)), (49, (nI (md + 1))), (59, (nI (bk + 1))), (60, (nI pr2)), (64, (nI at163)), (65, 0), (66, (nI lk)), (67, (nI mf)), (68, (nI (mm + 1)))]) (l2 := [(15, (nI fa164)), (16, pl165), (27, (nI nd166)), (31, (nI wr168)), (34, (nI lz)), (35, (nI dc)), (44, (nI fd)), (49, (nI (md + 1))), (59, (nI (bk + 1))), (60, (nI pr2)), (64, (nI at163)), (65, (0 : Int32)), (66, (nI lk)), (67, (nI mf)), (68, (nI (mm + 1)))]) (V := [(nI fa164), pl165, (nI nd166), (nI wr168), (nI lz), (nI dc), (nI fd), (nI (md + 1)), (nI (bk + 1)), (nI pr2), (nI at163), (0 : Int32), (nI lk), (nI mf), (nI (mm + 1)), (nI fa164), pl165, (nI nd166), (nI wr168), (nI lz), (nI dc), (nI fd), (nI (md + 1)), (nI (bk + 1)), (nI pr2), (nI at163), (0 : Int32), (nI lk), (nI mf), (nI (mm + 1))]) rfl rfl rfl hP
                  have hD : va_D A (mW G h0 a (upd (upd (upd (upd (upd (upd (upd (upd (upd (upd (upd (upd (upd (upd (upd F 15 (nI fa164)) 16 pl165) 27 (nI nd166)) 31 (nI wr168)) 34 (nI lz)) 35 (nI dc)) 44 (nI fd)) 49 (nI (md + 1))) 59 (nI (bk + 1))) 60 (nI pr2)) 64 (nI at163)) 65 (0 : Int32)) 66 (nI lk)) 67 (nI mf)) 68 (nI (mm + 1))) (updA (stR (stR X170 42 md (nI r169)) 43 md (nI (at163 - 1))) 2 K)) := mW_D hD
                  exact W.vret hx hb hr (fun t9 ht9 hW9 => ⟨⟨_, (at163, fa164, pl165, nd166, wr168, lz, dc, fd, (md + 1), pr2, (bk + 1), mf, (mm + 1), (0 : Int32), (stR (stR X170 42 md (nI r169)) 43 md (nI (at163 - 1)))), rfl, ⟨rfl, hz284, hz285, hz286, hz287, hz288, hz289⟩, by rw [ht9]; exact hP, hD⟩, hS.F ht9⟩) hS.2.2 dX12_method_330
              · have hce290 : X2 26 d = 1 := e140
                refine lv_topi (fun x138 e139 => ?_)
                obtain rfl : x138 = 1 := e139.trans e140
                refine lv_if_eq (tgt := 280) hx hb dX12_method_270 (by decide) (fun c291 => absurd c291 (by decide)) (fun c291 => ?_)
                refine lv_aload_n hx hb dX12_method_273 rfl (lv_at hl 5 rfl) ?_
                refine lv_bipush (v := 59) hx hb dX12_method_274 (by decide) ?_
                have hP : va_P G.1 pCl (mW G h0 a (upd (upd (upd (upd (upd (upd (upd (upd (upd (upd (upd (upd (upd (upd (upd (upd (upd F 15 0) 16 pl128) 27 (nI nd)) 31 (nI wr2)) 34 (nI lz)) 35 (nI dc)) 44 (nI fd)) 49 (nI (md + 1))) 59 (nI bk)) 60 (nI pr2)) 64 (nI at126)) 65 ne0) 66 (nI lk)) 67 (nI mf)) 68 (nI (mm + 1))) 15 (nI 0)) 64 (nI at126)) (updA (updA X2 2 K) 2 K)) _ := hP
                have hD : va_D A (mW G h0 a (upd (upd (upd (upd (upd (upd (upd (upd (upd (upd (upd (upd (upd (upd (upd (upd (upd F 15 0) 16 pl128) 27 (nI nd)) 31 (nI wr2)) 34 (nI lz)) 35 (nI dc)) 44 (nI fd)) 49 (nI (md + 1))) 59 (nI bk)) 60 (nI pr2)) 64 (nI at126)) 65 ne0) 66 (nI lk)) 67 (nI mf)) 68 (nI (mm + 1))) 15 (nI 0)) 64 (nI at126)) (updA (updA X2 2 K) 2 K)) := mW_D hD
                refine pc_V0 (G := G) (As := [.int 59]) (rest := []) hx hb hml hown hq hE hX pX0_al hP hD hS hA hl.1 (R_take l G h0 a (upd (upd (upd (upd (upd (upd (upd (upd (upd (upd (upd (upd (upd (upd (upd F 15 0) 16 pl128) 27 (nI nd)) 31 (nI wr2)) 34 (nI lz)) 35 (nI dc)) 44 (nI fd)) 49 (nI (md + 1))) 59 (nI bk)) 60 (nI pr2)) 64 (nI at126)) 65 ne0) 66 (nI lk)) 67 (nI mf)) 68 (nI (mm + 1))) (updA X2 2 K) at126 T 0 K 59 (by omega) (by omega) hK (by omega) (by decide) (by decide)) (gV pw_1614 pw_1615 pw_1616 pw_1523 pw_1601) hV_X12_take 0 9 rfl rfl rfl rfl (Nat.le_of_ble_eq_true rfl) dX12_method_276 ⟨Nat.le_of_ble_eq_true rfl, Nat.le_of_ble_eq_true rfl⟩ ⟨Nat.le_of_ble_eq_true rfl, Nat.le_of_ble_eq_true rfl⟩ (fun v294 u292 H locs hw293 hP hD hS => ?_)
                obtain ⟨at295, fa296, pl297⟩ := u292
                obtain ⟨hw293, h298, h299, h300, h301, h302, h303, h304, h305⟩ := hw293
                replace h298 : at126 ≤ at295 := h298
                replace h299 : at295 ≤ T := h299
                replace h300 : 0 ≤ fa296 := h300
                replace h301 : fa296 ≤ 100 := h301
                replace h302 : If (0 < 0) (at295 = at126 ∧ fa296 = 0) := h302
                replace h303 : at295 ≤ at126 + 1 := h303
                replace h304 : at126 + 1 ≤ at295 + fa296 := h304
                replace h305 : If (fa296 = 0) (K at126 = 59) := h305
                obtain rfl : v294 = none := hw293
                have hP : va_P G.1 pCl (mW G h0 a (upd (upd (upd (upd (upd (upd (upd (upd (upd (upd (upd (upd (upd (upd (upd F 15 (nI fa296)) 16 pl297) 27 (nI nd)) 31 (nI wr2)) 34 (nI lz)) 35 (nI dc)) 44 (nI fd)) 49 (nI (md + 1))) 59 (nI bk)) 60 (nI pr2)) 64 (nI at295)) 65 ne0) 66 (nI lk)) 67 (nI mf)) 68 (nI (mm + 1))) (updA X2 2 K)) _ := mW_to (F := F) (l1 := [(15, 0), (16, pl128), (27, (nI nd)), (31, (nI wr2)), (34, (nI lz)), (35, (nI dc)), (44, (nI fd)), (49, (nI (md + 1))), (59, (nI bk)), (60, (nI pr2)), (64, (nI at126)), (65, ne0), (66, (nI lk)), (67, (nI mf)), (68, (nI (mm + 1))), (15, (nI fa296)), (16, pl297), (64, (nI at295))]) (l2 := [(15, (nI fa296)), (16, pl297), (27, (nI nd)), (31, (nI wr2)), (34, (nI lz)), (35, (nI dc)), (44, (nI fd)), (49, (nI (md + 1))), (59, (nI bk)), (60, (nI pr2)), (64, (nI at295)), (65, ne0), (66, (nI lk)), (67, (nI mf)), (68, (nI (mm + 1)))]) (V := [(nI fa296), pl297, (nI nd), (nI wr2), (nI lz), (nI dc), (nI fd), (nI (md + 1)), (nI bk), (nI pr2), (nI at295), ne0, (nI lk), (nI mf), (nI (mm + 1)), (nI fa296), pl297, (nI at295), (nI fa296), pl297, (nI nd), (nI wr2), (nI lz), (nI dc), (nI fd), (nI (md + 1)), (nI bk), (nI pr2), (nI at295), ne0, (nI lk), (nI mf), (nI (mm + 1))]) rfl rfl (show (updA (updA X2 2 K) 2 K) = (updA X2 2 K) from updsA_eq2 (F := X2) (l1 := [(2, K), (2, K)]) (l2 := [(2, K)]) (V := [K, K, K]) rfl rfl) hP
                have hD : va_D A (mW G h0 a (upd (upd (upd (upd (upd (upd (upd (upd (upd (upd (upd (upd (upd (upd (upd F 15 (nI fa296)) 16 pl297) 27 (nI nd)) 31 (nI wr2)) 34 (nI lz)) 35 (nI dc)) 44 (nI fd)) 49 (nI (md + 1))) 59 (nI bk)) 60 (nI pr2)) 64 (nI at295)) 65 ne0) 66 (nI lk)) 67 (nI mf)) 68 (nI (mm + 1))) (updA X2 2 K)) := mW_D hD
                refine W.widen (k := 0) (n := 0) (Nat.le_of_ble_eq_true rfl) (Nat.le_of_ble_eq_true rfl) ?_
                refine W.eq (g2 := F0 m 279 ls []) rfl ?_
                rcases Nat.eq_zero_or_pos fa296 with e306 | e306
                · subst e306
                  have hP : va_P G.1 pCl (mW G h0 a (upd (upd (upd (upd (upd (upd (upd (upd (upd (upd (upd (upd (upd (upd (upd F 15 0) 16 pl297) 27 (nI nd)) 31 (nI wr2)) 34 (nI lz)) 35 (nI dc)) 44 (nI fd)) 49 (nI (md + 1))) 59 (nI bk)) 60 (nI pr2)) 64 (nI at295)) 65 ne0) 66 (nI lk)) 67 (nI mf)) 68 (nI (mm + 1))) (updA X2 2 K)) _ := hP
                  have hD : va_D A (mW G h0 a (upd (upd (upd (upd (upd (upd (upd (upd (upd (upd (upd (upd (upd (upd (upd F 15 0) 16 pl297) 27 (nI nd)) 31 (nI wr2)) 34 (nI lz)) 35 (nI dc)) 44 (nI fd)) 49 (nI (md + 1))) 59 (nI bk)) 60 (nI pr2)) 64 (nI at295)) 65 ne0) 66 (nI lk)) 67 (nI mf)) 68 (nI (mm + 1))) (updA X2 2 K)) := mW_D hD
                  have hps307 : PS T nm wr2 lz dc fd (md + 1) pr2 bk X2 := (PS.metI hps2 hc36 (by omega) (by omega) hc37 (by omega) hc38 (by omega) hc39 (OrY.mono hyr (by omega)) hc40 hc41 (by omega) (by omega) hc42 hc44 hce290)
                  have hfm308 : FrM K T wr2 X2 nd (md + 1) := (FrM.none hfm2 hc42)
                  have hz309 : at0 ≤ at295 := (by omega)
                  have hz310 : at295 ≤ T := (by omega)
                  have hz311 : 0 ≤ 100 := (by omega)
                  have hz312 : at0 + 1 ≤ at295 + 0 := (by omega)
                  have hz313 : Kq 0 B X2 := hkq2
                  have hz314 : If (0 = 0) ((nd ≤ 2 * at295 ∧ wr2 ≤ at295 ∧ lz ≤ at295 ∧ pr2 ≤ at295 ∧ dc ≤ 37 ∧ dc ≤ dc ∧ bk ≤ (md + 1) ∧ wr ≤ wr2 ∧ lz ≤ lz) ∧ ((md + 1) + 240 ≤ 30 * dc + (mm + 1) ∧ fd + 160 ≤ 20 * dc + mf ∧ mf ≤ 20 ∧ (mm + 1) ≤ 30 ∧ dc = dc) ∧ PS T nm wr2 lz dc fd (md + 1) pr2 bk X2 ∧ FrM K T wr2 X2 nd (md + 1) ∧ tkRow (X2 19) wr2 T ∧ lsRow (X2 22) (X2 23) lz T) := (fun _ => ⟨by omega, by omega, hps307, hfm308, hy2, hlr2⟩)
                  have hP : va_P G.1 pCl (mW G h0 a (upd (upd (upd (upd (upd (upd (upd (upd (upd (upd (upd (upd (upd (upd (upd F 15 (nI 0)) 16 pl297) 27 (nI nd)) 31 (nI wr2)) 34 (nI lz)) 35 (nI dc)) 44 (nI fd)) 49 (nI (md + 1))) 59 (nI bk)) 60 (nI pr2)) 64 (nI at295)) 65 ne0) 66 (nI lk)) 67 (nI mf)) 68 (nI (mm + 1))) (updA X2 2 K)) _ := mW_to (F := F) (l1 := [(15, 0), (16, pl297), (27, (nI nd)), (31, (nI wr2)), (34, (nI lz)), (35, (nI dc)), (44, (nI fd)), (49, (nI (md + 1))), (59, (nI bk)), (60, (nI pr2)), (64, (nI at295)), (65, ne0), (66, (nI lk)), (67, (nI mf)), (68, (nI (mm + 1)))]) (l2 := [(15, (nI 0)), (16, pl297), (27, (nI nd)), (31, (nI wr2)), (34, (nI lz)), (35, (nI dc)), (44, (nI fd)), (49, (nI (md + 1))), (59, (nI bk)), (60, (nI pr2)), (64, (nI at295)), (65, ne0), (66, (nI lk)), (67, (nI mf)), (68, (nI (mm + 1)))]) (V := [(nI 0), pl297, (nI nd), (nI wr2), (nI lz), (nI dc), (nI fd), (nI (md + 1)), (nI bk), (nI pr2), (nI at295), ne0, (nI lk), (nI mf), (nI (mm + 1)), (nI 0), pl297, (nI nd), (nI wr2), (nI lz), (nI dc), (nI fd), (nI (md + 1)), (nI bk), (nI pr2), (nI at295), ne0, (nI lk), (nI mf), (nI (mm + 1))]) rfl rfl rfl hP
                  have hD : va_D A (mW G h0 a (upd (upd (upd (upd (upd (upd (upd (upd (upd (upd (upd (upd (upd (upd (upd F 15 (nI 0)) 16 pl297) 27 (nI nd)) 31 (nI wr2)) 34 (nI lz)) 35 (nI dc)) 44 (nI fd)) 49 (nI (md + 1))) 59 (nI bk)) 60 (nI pr2)) 64 (nI at295)) 65 ne0) 66 (nI lk)) 67 (nI mf)) 68 (nI (mm + 1))) (updA X2 2 K)) := mW_D hD
                  exact W.vret hx hb hr (fun t9 ht9 hW9 => ⟨⟨_, (at295, 0, pl297, nd, wr2, lz, dc, fd, (md + 1), pr2, bk, mf, (mm + 1), ne0, X2), rfl, ⟨rfl, hz309, hz310, hz311, hz312, hz313, hz314⟩, by rw [ht9]; exact hP, hD⟩, hS.F ht9⟩) hS.2.2 dX12_method_279
                · have e306 := e306
                  have hz315 : at0 ≤ at295 := (by omega)
                  have hz316 : at295 ≤ T := (by omega)
                  have hz317 : fa296 ≤ 100 := (by omega)
                  have hz318 : at0 + 1 ≤ at295 + fa296 := (by omega)
                  have hz319 : Kq 0 B X2 := hkq2
                  have hz320 : If (fa296 = 0) ((nd ≤ 2 * at295 ∧ wr2 ≤ at295 ∧ lz ≤ at295 ∧ pr2 ≤ at295 ∧ dc ≤ 37 ∧ dc ≤ dc ∧ bk ≤ (md + 1) ∧ wr ≤ wr2 ∧ lz ≤ lz) ∧ ((md + 1) + 240 ≤ 30 * dc + (mm + 1) ∧ fd + 160 ≤ 20 * dc + mf ∧ mf ≤ 20 ∧ (mm + 1) ≤ 30 ∧ dc = dc) ∧ PS T nm wr2 lz dc fd (md + 1) pr2 bk X2 ∧ FrM K T wr2 X2 nd (md + 1) ∧ tkRow (X2 19) wr2 T ∧ lsRow (X2 22) (X2 23) lz T) := (fun e => absurd e (by omega))
                  have hP : va_P G.1 pCl (mW G h0 a (upd (upd (upd (upd (upd (upd (upd (upd (upd (upd (upd (upd (upd (upd (upd F 15 (nI fa296)) 16 pl297) 27 (nI nd)) 31 (nI wr2)) 34 (nI lz)) 35 (nI dc)) 44 (nI fd)) 49 (nI (md + 1))) 59 (nI bk)) 60 (nI pr2)) 64 (nI at295)) 65 ne0) 66 (nI lk)) 67 (nI mf)) 68 (nI (mm + 1))) (updA X2 2 K)) _ := hP
                  have hD : va_D A (mW G h0 a (upd (upd (upd (upd (upd (upd (upd (upd (upd (upd (upd (upd (upd (upd (upd F 15 (nI fa296)) 16 pl297) 27 (nI nd)) 31 (nI wr2)) 34 (nI lz)) 35 (nI dc)) 44 (nI fd)) 49 (nI (md + 1))) 59 (nI bk)) 60 (nI pr2)) 64 (nI at295)) 65 ne0) 66 (nI lk)) 67 (nI mf)) 68 (nI (mm + 1))) (updA X2 2 K)) := mW_D hD
                  exact W.vret hx hb hr (fun t9 ht9 hW9 => ⟨⟨_, (at295, fa296, pl297, nd, wr2, lz, dc, fd, (md + 1), pr2, bk, mf, (mm + 1), ne0, X2), rfl, ⟨rfl, hz315, hz316, hz317, hz318, hz319, hz320⟩, by rw [ht9]; exact hP, hD⟩, hS.F ht9⟩) hS.2.2 dX12_method_279
            · have e137 := e137
              refine lv_aload_n hx hb dX12_method_264 rfl (lv_at hl 5 rfl) ?_
              refine r_get (v := .ref (a 26)) hx hb hown hq hE hP 38 90 tFX12_38 (by decide) pw_1457 rfl dX12_method_265 ?_
              refine lv_iload_n hx hb dX12_method_268 rfl (lv_at hl 4 rfl) ?_
              refine r_ldz (f := (X2 26)) (j := d) hx hb hE hP 26 (ma_26 G a _) rfl (by omega) (by decide) dX12_method_269 ?_
              refine lv_topi (fun x323 e324 => ?_)
              refine lv_if_eq (tgt := 280) hx hb dX12_method_270 (by decide) (fun c325 => ?_) (fun c325 => ?_)
              · refine lv_aload_n hx hb dX12_method_280 rfl (lv_at hl 5 rfl) ?_
                refine r_get (v := .ref (a 44)) hx hb hown hq hE hP 58 144 tFX12_58 (by decide) pw_1475 rfl dX12_method_281 ?_
                refine lv_iload hx hb dX12_method_284 (lv_at hl 1 rfl) ?_
                refine lv_aload_n hx hb dX12_method_286 rfl (lv_at hl 5 rfl) ?_
                refine r_get (v := .int (nI bk)) hx hb hown hq hE hP 59 422 tFX12_59 (by decide) pw_1724 rfl dX12_method_287 ?_
                refine r_sti (f := (X2 44)) (j := md) hx hb hE hP hD hS 44 (ma_44 G a _) rfl (mas_44 G a _) (by omega) (by decide) dX12_method_290 (fun H locs hP hD hS => ?_)
                have hP : va_P G.1 pCl (mW G h0 a (upd (upd (upd (upd (upd (upd (upd (upd (upd (upd (upd (upd (upd (upd (upd F 15 (nI fa127)) 16 pl128) 27 (nI nd)) 31 (nI wr2)) 34 (nI lz)) 35 (nI dc)) 44 (nI fd)) 49 (nI (md + 1))) 59 (nI bk)) 60 (nI pr2)) 64 (nI at126)) 65 ne0) 66 (nI lk)) 67 (nI mf)) 68 (nI (mm + 1))) (updA (stR X2 44 md (nI bk)) 2 K)) _ := hP
                have hD : va_D A (mW G h0 a (upd (upd (upd (upd (upd (upd (upd (upd (upd (upd (upd (upd (upd (upd (upd F 15 (nI fa127)) 16 pl128) 27 (nI nd)) 31 (nI wr2)) 34 (nI lz)) 35 (nI dc)) 44 (nI fd)) 49 (nI (md + 1))) 59 (nI bk)) 60 (nI pr2)) 64 (nI at126)) 65 ne0) 66 (nI lk)) 67 (nI mf)) 68 (nI (mm + 1))) (updA (stR X2 44 md (nI bk)) 2 K)) := mW_D hD
                have hkq326 : Kq 0 B (stR X2 44 md (nI bk)) := (Kq.st hkq2 (by omega))
                have hce327 : (stR X2 44 md (nI bk)) 36 md = (nI d) := ((st_ne (by omega)).trans hc36)
                have hce328 : (stR X2 44 md (nI bk)) 37 md = (nI v2) := ((st_ne (by omega)).trans hc37)
                have hce329 : (stR X2 44 md (nI bk)) 38 md = (nI tn) := ((st_ne (by omega)).trans hc38)
                have hce330 : (stR X2 44 md (nI bk)) 39 md = y := ((st_ne (by omega)).trans hc39)
                have hce331 : (stR X2 44 md (nI bk)) 40 md = (nI pr) := ((st_ne (by omega)).trans hc40)
                have hce332 : (stR X2 44 md (nI bk)) 41 md = (nI q2) := ((st_ne (by omega)).trans hc41)
                have hce333 : (stR X2 44 md (nI bk)) 42 md = (-1) := ((st_ne (by omega)).trans hc42)
                have hce334 : (stR X2 44 md (nI bk)) 43 md = (-1) := ((st_ne (by omega)).trans hc43)
                have hce335 : (stR X2 44 md (nI bk)) 44 md = (nI bk) := st_eq
                have hty336 : tkRow ((stR X2 44 md (nI bk)) 19) wr2 T := hy2
                refine lv_aload_n hx hb dX12_method_291 rfl (lv_at hl 5 rfl) ?_
                refine lv_dup hx hb dX12_method_292 rfl ?_
                refine r_get (v := .int (nI bk)) hx hb hown hq hE hP 59 422 tFX12_59 (by decide) pw_1724 rfl dX12_method_293 ?_
                refine lv_iconst (v := 1) hx hb dX12_method_296 (by decide) ?_
                refine lv_iadd hx hb dX12_method_297 ?_
                refine lv_topi (fun x337 e338 => ?_)
                obtain rfl : x337 = nI (bk + 1) := e338.trans (nI_add (bk) (1))
                refine r_put (v := (nI (bk + 1))) (ty := .int) hx hb hown hq hE hP hD hS 59 422 tFX12_59 (by decide) pw_1724 (by decide) rfl rfl (ms_59 a _ _) dX12_method_298 (fun H locs hP hD hS => ?_)
                refine lv_aload_n hx hb dX12_method_301 rfl (lv_at hl 5 rfl) ?_
                refine lv_iconst (v := 0) hx hb dX12_method_302 (by decide) ?_
                refine r_put (v := 0) (ty := .int) hx hb hown hq hE hP hD hS 65 366 tFX12_65 (by decide) pw_1612 (by decide) rfl rfl (ms_65 a _ _) dX12_method_303 (fun H locs hP hD hS => ?_)
                refine lv_aload_n hx hb dX12_method_306 rfl (lv_at hl 5 rfl) ?_
                refine r_get (v := .ref (a 42)) hx hb hown hq hE hP 56 138 tFX12_56 (by decide) pw_1473 rfl dX12_method_307 ?_
                refine lv_iload hx hb dX12_method_310 (lv_at hl 1 rfl) ?_
                refine lv_aload_n hx hb dX12_method_312 rfl (lv_at hl 5 rfl) ?_
                have hP : va_P G.1 pCl (mW G h0 a (upd (upd (upd (upd (upd (upd (upd (upd (upd (upd (upd (upd (upd (upd (upd (upd (upd (upd (upd F 15 (nI fa127)) 16 pl128) 27 (nI nd)) 31 (nI wr2)) 34 (nI lz)) 35 (nI dc)) 44 (nI fd)) 49 (nI (md + 1))) 59 (nI (bk + 1))) 60 (nI pr2)) 64 (nI at126)) 65 0) 66 (nI lk)) 67 (nI mf)) 68 (nI (mm + 1))) 15 (nI fa127)) 27 (nI nd)) 31 (nI wr2)) 64 (nI at126)) (updA (stR X2 44 md (nI bk)) 2 K)) _ := mW_to (F := F) (l1 := [(15, (nI fa127)), (16, pl128), (27, (nI nd)), (31, (nI wr2)), (34, (nI lz)), (35, (nI dc)), (44, (nI fd)), (49, (nI (md + 1))), (59, (nI bk)), (60, (nI pr2)), (64, (nI at126)), (65, ne0), (66, (nI lk)), (67, (nI mf)), (68, (nI (mm + 1))), (59, (nI (bk + 1))), (65, 0)]) (l2 := [(15, (nI fa127)), (16, pl128), (27, (nI nd)), (31, (nI wr2)), (34, (nI lz)), (35, (nI dc)), (44, (nI fd)), (49, (nI (md + 1))), (59, (nI (bk + 1))), (60, (nI pr2)), (64, (nI at126)), (65, 0), (66, (nI lk)), (67, (nI mf)), (68, (nI (mm + 1))), (15, (nI fa127)), (27, (nI nd)), (31, (nI wr2)), (64, (nI at126))]) (V := [(nI fa127), pl128, (nI nd), (nI wr2), (nI lz), (nI dc), (nI fd), (nI (md + 1)), (nI (bk + 1)), (nI pr2), (nI at126), 0, (nI lk), (nI mf), (nI (mm + 1)), (nI (bk + 1)), 0, (nI fa127), pl128, (nI nd), (nI wr2), (nI lz), (nI dc), (nI fd), (nI (md + 1)), (nI (bk + 1)), (nI pr2), (nI at126), 0, (nI lk), (nI mf), (nI (mm + 1)), (nI fa127), (nI nd), (nI wr2), (nI at126)]) rfl rfl rfl hP
                have hD : va_D A (mW G h0 a (upd (upd (upd (upd (upd (upd (upd (upd (upd (upd (upd (upd (upd (upd (upd (upd (upd (upd (upd F 15 (nI fa127)) 16 pl128) 27 (nI nd)) 31 (nI wr2)) 34 (nI lz)) 35 (nI dc)) 44 (nI fd)) 49 (nI (md + 1))) 59 (nI (bk + 1))) 60 (nI pr2)) 64 (nI at126)) 65 0) 66 (nI lk)) 67 (nI mf)) 68 (nI (mm + 1))) 15 (nI fa127)) 27 (nI nd)) 31 (nI wr2)) 64 (nI at126)) (updA (stR X2 44 md (nI bk)) 2 K)) := mW_D hD
                refine pc_V0 (G := G) (As := []) (rest := [.int (nI md), .ref (a 42)]) hx hb hml hown hq hE hX pX0_al hP hD hS hA hl.1 (RF_block l G h0 a (upd (upd (upd (upd (upd (upd (upd (upd (upd (upd (upd (upd (upd (upd (upd F 15 (nI fa127)) 16 pl128) 27 (nI nd)) 31 (nI wr2)) 34 (nI lz)) 35 (nI dc)) 44 (nI fd)) 49 (nI (md + 1))) 59 (nI (bk + 1))) 60 (nI pr2)) 64 (nI at126)) 65 0) 66 (nI lk)) 67 (nI mf)) 68 (nI (mm + 1))) (stR X2 44 md (nI bk)) at126 T fa127 nd wr2 K (by omega) (by omega) hK (by omega) e137 (by omega) (by omega) hty336) (gV pw_1685 pw_1686 pw_1687 pw_1523 pw_1688) hV_X12_block 0 9 rfl rfl rfl rfl (Nat.le_of_ble_eq_true rfl) dX12_method_313 ⟨Nat.le_of_ble_eq_true rfl, Nat.le_of_ble_eq_true rfl⟩ ⟨Nat.le_of_ble_eq_true rfl, Nat.le_of_ble_eq_true rfl⟩ (fun v341 u339 H locs hw340 hP hD hS => ?_)
                obtain ⟨pl342, wr343, X344⟩ := u339
                obtain ⟨hw340, h345, h346, h347⟩ := hw340
                replace h345 : wr2 ≤ wr343 := h345
                replace h346 : wr343 ≤ wr2 := h346
                replace h347 : Kp (stR X2 44 md (nI bk)) X344 wr343 T := h347
                obtain rfl : v341 = some (.int (nI nd)) := hw340
                have hP : va_P G.1 pCl (mW G h0 a (upd (upd (upd (upd (upd (upd (upd (upd (upd (upd (upd (upd (upd (upd (upd F 15 (nI fa127)) 16 pl342) 27 (nI (nd + 1))) 31 (nI wr343)) 34 (nI lz)) 35 (nI dc)) 44 (nI fd)) 49 (nI (md + 1))) 59 (nI (bk + 1))) 60 (nI pr2)) 64 (nI at126)) 65 0) 66 (nI lk)) 67 (nI mf)) 68 (nI (mm + 1))) (updA X344 2 K)) _ := mW_to (F := F) (l1 := [(15, (nI fa127)), (16, pl128), (27, (nI nd)), (31, (nI wr2)), (34, (nI lz)), (35, (nI dc)), (44, (nI fd)), (49, (nI (md + 1))), (59, (nI (bk + 1))), (60, (nI pr2)), (64, (nI at126)), (65, 0), (66, (nI lk)), (67, (nI mf)), (68, (nI (mm + 1))), (15, (nI fa127)), (16, pl342), (27, (nI (nd + 1))), (31, (nI wr343)), (64, (nI at126))]) (l2 := [(15, (nI fa127)), (16, pl342), (27, (nI (nd + 1))), (31, (nI wr343)), (34, (nI lz)), (35, (nI dc)), (44, (nI fd)), (49, (nI (md + 1))), (59, (nI (bk + 1))), (60, (nI pr2)), (64, (nI at126)), (65, 0), (66, (nI lk)), (67, (nI mf)), (68, (nI (mm + 1)))]) (V := [(nI fa127), pl342, (nI (nd + 1)), (nI wr343), (nI lz), (nI dc), (nI fd), (nI (md + 1)), (nI (bk + 1)), (nI pr2), (nI at126), 0, (nI lk), (nI mf), (nI (mm + 1)), (nI fa127), pl342, (nI (nd + 1)), (nI wr343), (nI at126), (nI fa127), pl342, (nI (nd + 1)), (nI wr343), (nI lz), (nI dc), (nI fd), (nI (md + 1)), (nI (bk + 1)), (nI pr2), (nI at126), 0, (nI lk), (nI mf), (nI (mm + 1))]) rfl rfl rfl hP
                have hD : va_D A (mW G h0 a (upd (upd (upd (upd (upd (upd (upd (upd (upd (upd (upd (upd (upd (upd (upd F 15 (nI fa127)) 16 pl342) 27 (nI (nd + 1))) 31 (nI wr343)) 34 (nI lz)) 35 (nI dc)) 44 (nI fd)) 49 (nI (md + 1))) 59 (nI (bk + 1))) 60 (nI pr2)) 64 (nI at126)) 65 0) 66 (nI lk)) 67 (nI mf)) 68 (nI (mm + 1))) (updA X344 2 K)) := mW_D hD
                refine W.widen (k := 0) (n := 0) (Nat.le_of_ble_eq_true rfl) (Nat.le_of_ble_eq_true rfl) ?_
                refine W.eq (g2 := F0 m 316 ls [.int (nI nd), .int (nI md), .ref (a 42)]) rfl ?_
                have hkq348 : Kq 0 B X344 := (Kq.kp hkq326 h347)
                have hce349 : X344 36 md = (nI d) := ((congrFun (h347.1 36 (by omega)) md).trans hce327)
                have hce350 : X344 37 md = (nI v2) := ((congrFun (h347.1 37 (by omega)) md).trans hce328)
                have hce351 : X344 38 md = (nI tn) := ((congrFun (h347.1 38 (by omega)) md).trans hce329)
                have hce352 : X344 39 md = y := ((congrFun (h347.1 39 (by omega)) md).trans hce330)
                have hce353 : X344 40 md = (nI pr) := ((congrFun (h347.1 40 (by omega)) md).trans hce331)
                have hce354 : X344 41 md = (nI q2) := ((congrFun (h347.1 41 (by omega)) md).trans hce332)
                have hce355 : X344 42 md = (-1) := ((congrFun (h347.1 42 (by omega)) md).trans hce333)
                have hce356 : X344 43 md = (-1) := ((congrFun (h347.1 43 (by omega)) md).trans hce334)
                have hce357 : X344 44 md = (nI bk) := ((congrFun (h347.1 44 (by omega)) md).trans hce335)
                have hty358 : tkRow (X344 19) wr343 T := h347.2
                refine r_sti (f := (X344 42)) (j := md) hx hb hE hP hD hS 42 (ma_42 G a _) rfl (mas_42 G a _) (by omega) (by decide) dX12_method_316 (fun H locs hP hD hS => ?_)
                have hP : va_P G.1 pCl (mW G h0 a (upd (upd (upd (upd (upd (upd (upd (upd (upd (upd (upd (upd (upd (upd (upd F 15 (nI fa127)) 16 pl342) 27 (nI (nd + 1))) 31 (nI wr343)) 34 (nI lz)) 35 (nI dc)) 44 (nI fd)) 49 (nI (md + 1))) 59 (nI (bk + 1))) 60 (nI pr2)) 64 (nI at126)) 65 0) 66 (nI lk)) 67 (nI mf)) 68 (nI (mm + 1))) (updA (stR X344 42 md (nI nd)) 2 K)) _ := hP
                have hD : va_D A (mW G h0 a (upd (upd (upd (upd (upd (upd (upd (upd (upd (upd (upd (upd (upd (upd (upd F 15 (nI fa127)) 16 pl342) 27 (nI (nd + 1))) 31 (nI wr343)) 34 (nI lz)) 35 (nI dc)) 44 (nI fd)) 49 (nI (md + 1))) 59 (nI (bk + 1))) 60 (nI pr2)) 64 (nI at126)) 65 0) 66 (nI lk)) 67 (nI mf)) 68 (nI (mm + 1))) (updA (stR X344 42 md (nI nd)) 2 K)) := mW_D hD
                have hkq359 : Kq 0 B (stR X344 42 md (nI nd)) := (Kq.st hkq348 (by omega))
                have hce360 : (stR X344 42 md (nI nd)) 36 md = (nI d) := ((st_ne (by omega)).trans hce349)
                have hce361 : (stR X344 42 md (nI nd)) 37 md = (nI v2) := ((st_ne (by omega)).trans hce350)
                have hce362 : (stR X344 42 md (nI nd)) 38 md = (nI tn) := ((st_ne (by omega)).trans hce351)
                have hce363 : (stR X344 42 md (nI nd)) 39 md = y := ((st_ne (by omega)).trans hce352)
                have hce364 : (stR X344 42 md (nI nd)) 40 md = (nI pr) := ((st_ne (by omega)).trans hce353)
                have hce365 : (stR X344 42 md (nI nd)) 41 md = (nI q2) := ((st_ne (by omega)).trans hce354)
                have hce366 : (stR X344 42 md (nI nd)) 42 md = (nI nd) := st_eq
                have hce367 : (stR X344 42 md (nI nd)) 43 md = (-1) := ((st_ne (by omega)).trans hce356)
                have hce368 : (stR X344 42 md (nI nd)) 44 md = (nI bk) := ((st_ne (by omega)).trans hce357)
                have hty369 : tkRow ((stR X344 42 md (nI nd)) 19) wr343 T := hty358
                refine lv_aload_n hx hb dX12_method_317 rfl (lv_at hl 5 rfl) ?_
                refine r_get (v := .ref (a 43)) hx hb hown hq hE hP 57 141 tFX12_57 (by decide) pw_1474 rfl dX12_method_318 ?_
                refine lv_iload hx hb dX12_method_321 (lv_at hl 1 rfl) ?_
                refine lv_aload_n hx hb dX12_method_323 rfl (lv_at hl 5 rfl) ?_
                refine r_get (v := .int (nI at126)) hx hb hown hq hE hP 64 343 tFX12_64 (by decide) pw_1592 rfl dX12_method_324 ?_
                refine lv_iconst (v := 1) hx hb dX12_method_327 (by decide) ?_
                refine lv_isub hx hb dX12_method_328 ?_
                refine lv_topi (fun x370 e371 => ?_)
                obtain rfl : x370 = nI (at126 - 1) := e371.trans (nI_subN (a := 1) (b := at126) (by omega))
                refine r_sti (f := ((stR X344 42 md (nI nd)) 43)) (j := md) hx hb hE hP hD hS 43 (ma_43 G a _) rfl (mas_43 G a _) (by omega) (by decide) dX12_method_329 (fun H locs hP hD hS => ?_)
                have hP : va_P G.1 pCl (mW G h0 a (upd (upd (upd (upd (upd (upd (upd (upd (upd (upd (upd (upd (upd (upd (upd F 15 (nI fa127)) 16 pl342) 27 (nI (nd + 1))) 31 (nI wr343)) 34 (nI lz)) 35 (nI dc)) 44 (nI fd)) 49 (nI (md + 1))) 59 (nI (bk + 1))) 60 (nI pr2)) 64 (nI at126)) 65 0) 66 (nI lk)) 67 (nI mf)) 68 (nI (mm + 1))) (updA (stR (stR X344 42 md (nI nd)) 43 md (nI (at126 - 1))) 2 K)) _ := hP
                have hD : va_D A (mW G h0 a (upd (upd (upd (upd (upd (upd (upd (upd (upd (upd (upd (upd (upd (upd (upd F 15 (nI fa127)) 16 pl342) 27 (nI (nd + 1))) 31 (nI wr343)) 34 (nI lz)) 35 (nI dc)) 44 (nI fd)) 49 (nI (md + 1))) 59 (nI (bk + 1))) 60 (nI pr2)) 64 (nI at126)) 65 0) 66 (nI lk)) 67 (nI mf)) 68 (nI (mm + 1))) (updA (stR (stR X344 42 md (nI nd)) 43 md (nI (at126 - 1))) 2 K)) := mW_D hD
                have hkq372 : Kq 0 B (stR (stR X344 42 md (nI nd)) 43 md (nI (at126 - 1))) := (Kq.st hkq359 (by omega))
                have hce373 : (stR (stR X344 42 md (nI nd)) 43 md (nI (at126 - 1))) 36 md = (nI d) := ((st_ne (by omega)).trans hce360)
                have hce374 : (stR (stR X344 42 md (nI nd)) 43 md (nI (at126 - 1))) 37 md = (nI v2) := ((st_ne (by omega)).trans hce361)
                have hce375 : (stR (stR X344 42 md (nI nd)) 43 md (nI (at126 - 1))) 38 md = (nI tn) := ((st_ne (by omega)).trans hce362)
                have hce376 : (stR (stR X344 42 md (nI nd)) 43 md (nI (at126 - 1))) 39 md = y := ((st_ne (by omega)).trans hce363)
                have hce377 : (stR (stR X344 42 md (nI nd)) 43 md (nI (at126 - 1))) 40 md = (nI pr) := ((st_ne (by omega)).trans hce364)
                have hce378 : (stR (stR X344 42 md (nI nd)) 43 md (nI (at126 - 1))) 41 md = (nI q2) := ((st_ne (by omega)).trans hce365)
                have hce379 : (stR (stR X344 42 md (nI nd)) 43 md (nI (at126 - 1))) 42 md = (nI nd) := ((st_ne (by omega)).trans hce366)
                have hce380 : (stR (stR X344 42 md (nI nd)) 43 md (nI (at126 - 1))) 43 md = (nI (at126 - 1)) := st_eq
                have hce381 : (stR (stR X344 42 md (nI nd)) 43 md (nI (at126 - 1))) 44 md = (nI bk) := ((st_ne (by omega)).trans hce368)
                have hty382 : tkRow ((stR (stR X344 42 md (nI nd)) 43 md (nI (at126 - 1))) 19) wr343 T := hty369
                have hz383 : at0 ≤ at126 := (by omega)
                have hz384 : at126 ≤ T := (by omega)
                have hz385 : fa127 ≤ 100 := (by omega)
                have hz386 : at0 + 1 ≤ at126 + fa127 := (by omega)
                have hz387 : Kq 0 B (stR (stR X344 42 md (nI nd)) 43 md (nI (at126 - 1))) := hkq372
                have hz388 : If (fa127 = 0) (((nd + 1) ≤ 2 * at126 ∧ wr343 ≤ at126 ∧ lz ≤ at126 ∧ pr2 ≤ at126 ∧ dc ≤ 37 ∧ dc ≤ dc ∧ (bk + 1) ≤ (md + 1) ∧ wr ≤ wr343 ∧ lz ≤ lz) ∧ ((md + 1) + 240 ≤ 30 * dc + (mm + 1) ∧ fd + 160 ≤ 20 * dc + mf ∧ mf ≤ 20 ∧ (mm + 1) ≤ 30 ∧ dc = dc) ∧ PS T nm wr343 lz dc fd (md + 1) pr2 (bk + 1) (stR (stR X344 42 md (nI nd)) 43 md (nI (at126 - 1))) ∧ FrM K T wr343 (stR (stR X344 42 md (nI nd)) 43 md (nI (at126 - 1))) (nd + 1) (md + 1) ∧ tkRow ((stR (stR X344 42 md (nI nd)) 43 md (nI (at126 - 1))) 19) wr343 T ∧ lsRow ((stR (stR X344 42 md (nI nd)) 43 md (nI (at126 - 1))) 22) ((stR (stR X344 42 md (nI nd)) 43 md (nI (at126 - 1))) 23) lz T) := (fun e => absurd e (by omega))
                have hP : va_P G.1 pCl (mW G h0 a (upd (upd (upd (upd (upd (upd (upd (upd (upd (upd (upd (upd (upd (upd (upd F 15 (nI fa127)) 16 pl342) 27 (nI (nd + 1))) 31 (nI wr343)) 34 (nI lz)) 35 (nI dc)) 44 (nI fd)) 49 (nI (md + 1))) 59 (nI (bk + 1))) 60 (nI pr2)) 64 (nI at126)) 65 (0 : Int32)) 66 (nI lk)) 67 (nI mf)) 68 (nI (mm + 1))) (updA (stR (stR X344 42 md (nI nd)) 43 md (nI (at126 - 1))) 2 K)) _ := mW_to (F := F) (l1 := [(15, (nI fa127)), (16, pl342), (27, (nI (nd + 1))), (31, (nI wr343)), (34, (nI lz)), (35, (nI dc)), (44, (nI fd)), (49, (nI (md + 1))), (59, (nI (bk + 1))), (60, (nI pr2)), (64, (nI at126)), (65, 0), (66, (nI lk)), (67, (nI mf)), (68, (nI (mm + 1)))]) (l2 := [(15, (nI fa127)), (16, pl342), (27, (nI (nd + 1))), (31, (nI wr343)), (34, (nI lz)), (35, (nI dc)), (44, (nI fd)), (49, (nI (md + 1))), (59, (nI (bk + 1))), (60, (nI pr2)), (64, (nI at126)), (65, (0 : Int32)), (66, (nI lk)), (67, (nI mf)), (68, (nI (mm + 1)))]) (V := [(nI fa127), pl342, (nI (nd + 1)), (nI wr343), (nI lz), (nI dc), (nI fd), (nI (md + 1)), (nI (bk + 1)), (nI pr2), (nI at126), (0 : Int32), (nI lk), (nI mf), (nI (mm + 1)), (nI fa127), pl342, (nI (nd + 1)), (nI wr343), (nI lz), (nI dc), (nI fd), (nI (md + 1)), (nI (bk + 1)), (nI pr2), (nI at126), (0 : Int32), (nI lk), (nI mf), (nI (mm + 1))]) rfl rfl rfl hP
                have hD : va_D A (mW G h0 a (upd (upd (upd (upd (upd (upd (upd (upd (upd (upd (upd (upd (upd (upd (upd F 15 (nI fa127)) 16 pl342) 27 (nI (nd + 1))) 31 (nI wr343)) 34 (nI lz)) 35 (nI dc)) 44 (nI fd)) 49 (nI (md + 1))) 59 (nI (bk + 1))) 60 (nI pr2)) 64 (nI at126)) 65 (0 : Int32)) 66 (nI lk)) 67 (nI mf)) 68 (nI (mm + 1))) (updA (stR (stR X344 42 md (nI nd)) 43 md (nI (at126 - 1))) 2 K)) := mW_D hD
                exact W.vret hx hb hr (fun t9 ht9 hW9 => ⟨⟨_, (at126, fa127, pl342, (nd + 1), wr343, lz, dc, fd, (md + 1), pr2, (bk + 1), mf, (mm + 1), (0 : Int32), (stR (stR X344 42 md (nI nd)) 43 md (nI (at126 - 1)))), rfl, ⟨rfl, hz383, hz384, hz385, hz386, hz387, hz388⟩, by rw [ht9]; exact hP, hD⟩, hS.F ht9⟩) hS.2.2 dX12_method_330
              · refine lv_aload_n hx hb dX12_method_273 rfl (lv_at hl 5 rfl) ?_
                refine lv_bipush (v := 59) hx hb dX12_method_274 (by decide) ?_
                have hP : va_P G.1 pCl (mW G h0 a (upd (upd (upd (upd (upd (upd (upd (upd (upd (upd (upd (upd (upd (upd (upd (upd (upd F 15 (nI fa127)) 16 pl128) 27 (nI nd)) 31 (nI wr2)) 34 (nI lz)) 35 (nI dc)) 44 (nI fd)) 49 (nI (md + 1))) 59 (nI bk)) 60 (nI pr2)) 64 (nI at126)) 65 ne0) 66 (nI lk)) 67 (nI mf)) 68 (nI (mm + 1))) 15 (nI fa127)) 64 (nI at126)) (updA (updA X2 2 K) 2 K)) _ := mW_to (F := F) (l1 := [(15, (nI fa127)), (16, pl128), (27, (nI nd)), (31, (nI wr2)), (34, (nI lz)), (35, (nI dc)), (44, (nI fd)), (49, (nI (md + 1))), (59, (nI bk)), (60, (nI pr2)), (64, (nI at126)), (65, ne0), (66, (nI lk)), (67, (nI mf)), (68, (nI (mm + 1)))]) (l2 := [(15, (nI fa127)), (16, pl128), (27, (nI nd)), (31, (nI wr2)), (34, (nI lz)), (35, (nI dc)), (44, (nI fd)), (49, (nI (md + 1))), (59, (nI bk)), (60, (nI pr2)), (64, (nI at126)), (65, ne0), (66, (nI lk)), (67, (nI mf)), (68, (nI (mm + 1))), (15, (nI fa127)), (64, (nI at126))]) (V := [(nI fa127), pl128, (nI nd), (nI wr2), (nI lz), (nI dc), (nI fd), (nI (md + 1)), (nI bk), (nI pr2), (nI at126), ne0, (nI lk), (nI mf), (nI (mm + 1)), (nI fa127), pl128, (nI nd), (nI wr2), (nI lz), (nI dc), (nI fd), (nI (md + 1)), (nI bk), (nI pr2), (nI at126), ne0, (nI lk), (nI mf), (nI (mm + 1)), (nI fa127), (nI at126)]) rfl rfl (show (updA X2 2 K) = (updA (updA X2 2 K) 2 K) from updsA_eq2 (F := X2) (l1 := [(2, K)]) (l2 := [(2, K), (2, K)]) (V := [K, K, K]) rfl rfl) hP
                have hD : va_D A (mW G h0 a (upd (upd (upd (upd (upd (upd (upd (upd (upd (upd (upd (upd (upd (upd (upd (upd (upd F 15 (nI fa127)) 16 pl128) 27 (nI nd)) 31 (nI wr2)) 34 (nI lz)) 35 (nI dc)) 44 (nI fd)) 49 (nI (md + 1))) 59 (nI bk)) 60 (nI pr2)) 64 (nI at126)) 65 ne0) 66 (nI lk)) 67 (nI mf)) 68 (nI (mm + 1))) 15 (nI fa127)) 64 (nI at126)) (updA (updA X2 2 K) 2 K)) := mW_D hD
                refine pc_V0 (G := G) (As := [.int 59]) (rest := []) hx hb hml hown hq hE hX pX0_al hP hD hS hA hl.1 (R_take l G h0 a (upd (upd (upd (upd (upd (upd (upd (upd (upd (upd (upd (upd (upd (upd (upd F 15 (nI fa127)) 16 pl128) 27 (nI nd)) 31 (nI wr2)) 34 (nI lz)) 35 (nI dc)) 44 (nI fd)) 49 (nI (md + 1))) 59 (nI bk)) 60 (nI pr2)) 64 (nI at126)) 65 ne0) 66 (nI lk)) 67 (nI mf)) 68 (nI (mm + 1))) (updA X2 2 K) at126 T fa127 K 59 (by omega) (by omega) hK (by omega) (by decide) (by decide)) (gV pw_1614 pw_1615 pw_1616 pw_1523 pw_1601) hV_X12_take 0 9 rfl rfl rfl rfl (Nat.le_of_ble_eq_true rfl) dX12_method_276 ⟨Nat.le_of_ble_eq_true rfl, Nat.le_of_ble_eq_true rfl⟩ ⟨Nat.le_of_ble_eq_true rfl, Nat.le_of_ble_eq_true rfl⟩ (fun v391 u389 H locs hw390 hP hD hS => ?_)
                obtain ⟨at392, fa393, pl394⟩ := u389
                obtain ⟨hw390, h395, h396, h397, h398, h399, h400, h401, h402⟩ := hw390
                replace h395 : at126 ≤ at392 := h395
                replace h396 : at392 ≤ T := h396
                replace h397 : fa127 ≤ fa393 := h397
                replace h398 : fa393 ≤ 100 := h398
                replace h399 : If (0 < fa127) (at392 = at126 ∧ fa393 = fa127) := h399
                replace h400 : at392 ≤ at126 + 1 := h400
                replace h401 : at126 + 1 ≤ at392 + fa393 := h401
                replace h402 : If (fa393 = 0) (K at126 = 59) := h402
                obtain rfl : v391 = none := hw390
                have hP : va_P G.1 pCl (mW G h0 a (upd (upd (upd (upd (upd (upd (upd (upd (upd (upd (upd (upd (upd (upd (upd F 15 (nI fa393)) 16 pl394) 27 (nI nd)) 31 (nI wr2)) 34 (nI lz)) 35 (nI dc)) 44 (nI fd)) 49 (nI (md + 1))) 59 (nI bk)) 60 (nI pr2)) 64 (nI at392)) 65 ne0) 66 (nI lk)) 67 (nI mf)) 68 (nI (mm + 1))) (updA X2 2 K)) _ := mW_to (F := F) (l1 := [(15, (nI fa127)), (16, pl128), (27, (nI nd)), (31, (nI wr2)), (34, (nI lz)), (35, (nI dc)), (44, (nI fd)), (49, (nI (md + 1))), (59, (nI bk)), (60, (nI pr2)), (64, (nI at126)), (65, ne0), (66, (nI lk)), (67, (nI mf)), (68, (nI (mm + 1))), (15, (nI fa393)), (16, pl394), (64, (nI at392))]) (l2 := [(15, (nI fa393)), (16, pl394), (27, (nI nd)), (31, (nI wr2)), (34, (nI lz)), (35, (nI dc)), (44, (nI fd)), (49, (nI (md + 1))), (59, (nI bk)), (60, (nI pr2)), (64, (nI at392)), (65, ne0), (66, (nI lk)), (67, (nI mf)), (68, (nI (mm + 1)))]) (V := [(nI fa393), pl394, (nI nd), (nI wr2), (nI lz), (nI dc), (nI fd), (nI (md + 1)), (nI bk), (nI pr2), (nI at392), ne0, (nI lk), (nI mf), (nI (mm + 1)), (nI fa393), pl394, (nI at392), (nI fa393), pl394, (nI nd), (nI wr2), (nI lz), (nI dc), (nI fd), (nI (md + 1)), (nI bk), (nI pr2), (nI at392), ne0, (nI lk), (nI mf), (nI (mm + 1))]) rfl rfl (show (updA (updA X2 2 K) 2 K) = (updA X2 2 K) from updsA_eq2 (F := X2) (l1 := [(2, K), (2, K)]) (l2 := [(2, K)]) (V := [K, K, K]) rfl rfl) hP
                have hD : va_D A (mW G h0 a (upd (upd (upd (upd (upd (upd (upd (upd (upd (upd (upd (upd (upd (upd (upd F 15 (nI fa393)) 16 pl394) 27 (nI nd)) 31 (nI wr2)) 34 (nI lz)) 35 (nI dc)) 44 (nI fd)) 49 (nI (md + 1))) 59 (nI bk)) 60 (nI pr2)) 64 (nI at392)) 65 ne0) 66 (nI lk)) 67 (nI mf)) 68 (nI (mm + 1))) (updA X2 2 K)) := mW_D hD
                refine W.widen (k := 0) (n := 0) (Nat.le_of_ble_eq_true rfl) (Nat.le_of_ble_eq_true rfl) ?_
                refine W.eq (g2 := F0 m 279 ls []) rfl ?_
                obtain ⟨n404, n403⟩ := h399 e137
                replace n404 := n404.symm
                subst n404
                replace n403 := n403.symm
                subst n403
                have hz405 : at0 ≤ at126 := (by omega)
                have hz406 : at126 ≤ T := (by omega)
                have hz407 : fa127 ≤ 100 := (by omega)
                have hz408 : at0 + 1 ≤ at126 + fa127 := (by omega)
                have hz409 : Kq 0 B X2 := hkq2
                have hz410 : If (fa127 = 0) ((nd ≤ 2 * at126 ∧ wr2 ≤ at126 ∧ lz ≤ at126 ∧ pr2 ≤ at126 ∧ dc ≤ 37 ∧ dc ≤ dc ∧ bk ≤ (md + 1) ∧ wr ≤ wr2 ∧ lz ≤ lz) ∧ ((md + 1) + 240 ≤ 30 * dc + (mm + 1) ∧ fd + 160 ≤ 20 * dc + mf ∧ mf ≤ 20 ∧ (mm + 1) ≤ 30 ∧ dc = dc) ∧ PS T nm wr2 lz dc fd (md + 1) pr2 bk X2 ∧ FrM K T wr2 X2 nd (md + 1) ∧ tkRow (X2 19) wr2 T ∧ lsRow (X2 22) (X2 23) lz T) := (fun e => absurd e (by omega))
                have hP : va_P G.1 pCl (mW G h0 a (upd (upd (upd (upd (upd (upd (upd (upd (upd (upd (upd (upd (upd (upd (upd F 15 (nI fa127)) 16 pl394) 27 (nI nd)) 31 (nI wr2)) 34 (nI lz)) 35 (nI dc)) 44 (nI fd)) 49 (nI (md + 1))) 59 (nI bk)) 60 (nI pr2)) 64 (nI at126)) 65 ne0) 66 (nI lk)) 67 (nI mf)) 68 (nI (mm + 1))) (updA X2 2 K)) _ := hP
                have hD : va_D A (mW G h0 a (upd (upd (upd (upd (upd (upd (upd (upd (upd (upd (upd (upd (upd (upd (upd F 15 (nI fa127)) 16 pl394) 27 (nI nd)) 31 (nI wr2)) 34 (nI lz)) 35 (nI dc)) 44 (nI fd)) 49 (nI (md + 1))) 59 (nI bk)) 60 (nI pr2)) 64 (nI at126)) 65 ne0) 66 (nI lk)) 67 (nI mf)) 68 (nI (mm + 1))) (updA X2 2 K)) := mW_D hD
                exact W.vret hx hb hr (fun t9 ht9 hW9 => ⟨⟨_, (at126, fa127, pl394, nd, wr2, lz, dc, fd, (md + 1), pr2, bk, mf, (mm + 1), ne0, X2), rfl, ⟨rfl, hz405, hz406, hz407, hz408, hz409, hz410⟩, by rw [ht9]; exact hP, hD⟩, hS.F ht9⟩) hS.2.2 dX12_method_279
          · have n411 : ¬ (mo = 0) := fun h9 => c121 ((nI_eq (a := mo) (b := 0) (by omega) (by omega)).mpr h9)
            refine lv_aload_n hx hb dX12_method_140 rfl (lv_at hl 5 rfl) ?_
            refine r_get (v := .int 0) hx hb hown hq hE hP 15 350 tFX12_15 (by decide) pw_1594 rfl dX12_method_141 ?_
            refine lv_if_ne (tgt := 258) hx hb dX12_method_144 (by decide) (fun c412 => absurd c412 (by decide)) (fun c412 => ?_)
            refine lv_aload_n hx hb dX12_method_147 rfl (lv_at hl 5 rfl) ?_
            have hP : va_P G.1 pCl (mW G h0 a (upd (upd (upd (upd (upd (upd (upd (upd (upd (upd (upd (upd (upd (upd (upd (upd (upd F 15 0) 16 pl2) 27 (nI nd)) 31 (nI wr2)) 34 (nI lz)) 35 (nI dc)) 44 (nI fd)) 49 (nI (md + 1))) 59 (nI bk)) 60 (nI pr2)) 64 (nI at2)) 65 ne0) 66 (nI lk)) 67 (nI mf)) 68 (nI (mm + 1))) 15 (nI 0)) 64 (nI at2)) (updA (updA X2 2 K) 2 K)) _ := mW_to (F := F) (l1 := [(15, 0), (16, pl2), (27, (nI nd)), (31, (nI wr2)), (34, (nI lz)), (35, (nI dc)), (44, (nI fd)), (49, (nI (md + 1))), (59, (nI bk)), (60, (nI pr2)), (64, (nI at2)), (65, ne0), (66, (nI lk)), (67, (nI mf)), (68, (nI (mm + 1)))]) (l2 := [(15, 0), (16, pl2), (27, (nI nd)), (31, (nI wr2)), (34, (nI lz)), (35, (nI dc)), (44, (nI fd)), (49, (nI (md + 1))), (59, (nI bk)), (60, (nI pr2)), (64, (nI at2)), (65, ne0), (66, (nI lk)), (67, (nI mf)), (68, (nI (mm + 1))), (15, (nI 0)), (64, (nI at2))]) (V := [(nI 0), pl2, (nI nd), (nI wr2), (nI lz), (nI dc), (nI fd), (nI (md + 1)), (nI bk), (nI pr2), (nI at2), ne0, (nI lk), (nI mf), (nI (mm + 1)), (nI 0), pl2, (nI nd), (nI wr2), (nI lz), (nI dc), (nI fd), (nI (md + 1)), (nI bk), (nI pr2), (nI at2), ne0, (nI lk), (nI mf), (nI (mm + 1)), (nI 0), (nI at2)]) rfl rfl (show (updA X2 2 K) = (updA (updA X2 2 K) 2 K) from updsA_eq2 (F := X2) (l1 := [(2, K)]) (l2 := [(2, K), (2, K)]) (V := [K, K, K]) rfl rfl) hP
            have hD : va_D A (mW G h0 a (upd (upd (upd (upd (upd (upd (upd (upd (upd (upd (upd (upd (upd (upd (upd (upd (upd F 15 0) 16 pl2) 27 (nI nd)) 31 (nI wr2)) 34 (nI lz)) 35 (nI dc)) 44 (nI fd)) 49 (nI (md + 1))) 59 (nI bk)) 60 (nI pr2)) 64 (nI at2)) 65 ne0) 66 (nI lk)) 67 (nI mf)) 68 (nI (mm + 1))) 15 (nI 0)) 64 (nI at2)) (updA (updA X2 2 K) 2 K)) := mW_D hD
            refine pc_V0 (G := G) (As := []) (rest := []) hx hb hml hown hq hE hX pX0_al hP hD hS hA hl.1 (R_isSortN l G h0 a (upd (upd (upd (upd (upd (upd (upd (upd (upd (upd (upd (upd (upd (upd (upd F 15 0) 16 pl2) 27 (nI nd)) 31 (nI wr2)) 34 (nI lz)) 35 (nI dc)) 44 (nI fd)) 49 (nI (md + 1))) 59 (nI bk)) 60 (nI pr2)) 64 (nI at2)) 65 ne0) 66 (nI lk)) 67 (nI mf)) 68 (nI (mm + 1))) (updA X2 2 K) at2 T 0 K (by omega) (by omega) hK (by omega)) (gV pw_1630 pw_1631 pw_1632 pw_1523 pw_1625) hV_X12_isSort 0 9 rfl rfl rfl rfl (Nat.le_of_ble_eq_true rfl) dX12_method_148 ⟨Nat.le_of_ble_eq_true rfl, Nat.le_of_ble_eq_true rfl⟩ ⟨Nat.le_of_ble_eq_true rfl, Nat.le_of_ble_eq_true rfl⟩ (fun v415 u413 H locs hw414 hP hD hS => ?_)
            obtain ⟨r416, rfl⟩ : ∃ z, z = u413 := ⟨_, rfl⟩
            obtain ⟨hw414, h417, h418, h419, h420⟩ := hw414
            replace h417 : r416 ≤ 1 := h417
            replace h418 : at2 + r416 ≤ T := h418
            replace h419 : If (r416 = 1) (srt (K at2) = true) := h419
            replace h420 : If (r416 = 0) (srt (K at2) = false) := h420
            obtain rfl : v415 = some (.int (nI r416)) := hw414
            have hP : va_P G.1 pCl (mW G h0 a (upd (upd (upd (upd (upd (upd (upd (upd (upd (upd (upd (upd (upd (upd (upd F 15 0) 16 pl2) 27 (nI nd)) 31 (nI wr2)) 34 (nI lz)) 35 (nI dc)) 44 (nI fd)) 49 (nI (md + 1))) 59 (nI bk)) 60 (nI pr2)) 64 (nI at2)) 65 ne0) 66 (nI lk)) 67 (nI mf)) 68 (nI (mm + 1))) (updA X2 2 K)) _ := mW_to (F := F) (l1 := [(15, 0), (16, pl2), (27, (nI nd)), (31, (nI wr2)), (34, (nI lz)), (35, (nI dc)), (44, (nI fd)), (49, (nI (md + 1))), (59, (nI bk)), (60, (nI pr2)), (64, (nI at2)), (65, ne0), (66, (nI lk)), (67, (nI mf)), (68, (nI (mm + 1))), (15, (nI 0)), (64, (nI at2))]) (l2 := [(15, 0), (16, pl2), (27, (nI nd)), (31, (nI wr2)), (34, (nI lz)), (35, (nI dc)), (44, (nI fd)), (49, (nI (md + 1))), (59, (nI bk)), (60, (nI pr2)), (64, (nI at2)), (65, ne0), (66, (nI lk)), (67, (nI mf)), (68, (nI (mm + 1)))]) (V := [0, pl2, (nI nd), (nI wr2), (nI lz), (nI dc), (nI fd), (nI (md + 1)), (nI bk), (nI pr2), (nI at2), ne0, (nI lk), (nI mf), (nI (mm + 1)), 0, (nI at2), 0, pl2, (nI nd), (nI wr2), (nI lz), (nI dc), (nI fd), (nI (md + 1)), (nI bk), (nI pr2), (nI at2), ne0, (nI lk), (nI mf), (nI (mm + 1))]) rfl rfl (show (updA (updA X2 2 K) 2 K) = (updA X2 2 K) from updsA_eq2 (F := X2) (l1 := [(2, K), (2, K)]) (l2 := [(2, K)]) (V := [K, K, K]) rfl rfl) hP
            have hD : va_D A (mW G h0 a (upd (upd (upd (upd (upd (upd (upd (upd (upd (upd (upd (upd (upd (upd (upd F 15 0) 16 pl2) 27 (nI nd)) 31 (nI wr2)) 34 (nI lz)) 35 (nI dc)) 44 (nI fd)) 49 (nI (md + 1))) 59 (nI bk)) 60 (nI pr2)) 64 (nI at2)) 65 ne0) 66 (nI lk)) 67 (nI mf)) 68 (nI (mm + 1))) (updA X2 2 K)) := mW_D hD
            refine W.widen (k := 0) (n := 0) (Nat.le_of_ble_eq_true rfl) (Nat.le_of_ble_eq_true rfl) ?_
            refine W.eq (g2 := F0 m 151 ls [.int (nI r416)]) rfl ?_
            refine lv_if_eq (tgt := 172) hx hb dX12_method_151 (by decide) (fun c421 => ?_) (fun c421 => ?_)
            · have n422 : r416 = 0 := (nI_eq (a := r416) (b := 0) (by omega) (by omega)).mp c421
              refine lv_aload_n hx hb dX12_method_172 rfl (lv_at hl 5 rfl) ?_
              refine r_get (v := .ref (a 47)) hx hb hown hq hE hP 63 153 tFX12_63 (by decide) pw_1478 rfl dX12_method_173 ?_
              refine lv_aload_n hx hb dX12_method_176 rfl (lv_at hl 5 rfl) ?_
              refine r_get (v := .int (nI pr2)) hx hb hown hq hE hP 60 419 tFX12_60 (by decide) pw_1723 rfl dX12_method_177 ?_
              refine lv_aload_n hx hb dX12_method_180 rfl (lv_at hl 5 rfl) ?_
              have hP : va_P G.1 pCl (mW G h0 a (upd (upd (upd (upd (upd (upd (upd (upd (upd (upd (upd (upd (upd (upd (upd (upd (upd (upd F 15 0) 16 pl2) 27 (nI nd)) 31 (nI wr2)) 34 (nI lz)) 35 (nI dc)) 44 (nI fd)) 49 (nI (md + 1))) 59 (nI bk)) 60 (nI pr2)) 64 (nI at2)) 65 ne0) 66 (nI lk)) 67 (nI mf)) 68 (nI (mm + 1))) 15 (nI 0)) 31 (nI wr2)) 64 (nI at2)) (updA (updA (updA X2 2 K) 2 K) 19 (X2 19))) _ := mW_to (F := F) (l1 := [(15, 0), (16, pl2), (27, (nI nd)), (31, (nI wr2)), (34, (nI lz)), (35, (nI dc)), (44, (nI fd)), (49, (nI (md + 1))), (59, (nI bk)), (60, (nI pr2)), (64, (nI at2)), (65, ne0), (66, (nI lk)), (67, (nI mf)), (68, (nI (mm + 1)))]) (l2 := [(15, 0), (16, pl2), (27, (nI nd)), (31, (nI wr2)), (34, (nI lz)), (35, (nI dc)), (44, (nI fd)), (49, (nI (md + 1))), (59, (nI bk)), (60, (nI pr2)), (64, (nI at2)), (65, ne0), (66, (nI lk)), (67, (nI mf)), (68, (nI (mm + 1))), (15, (nI 0)), (31, (nI wr2)), (64, (nI at2))]) (V := [(nI 0), pl2, (nI nd), (nI wr2), (nI lz), (nI dc), (nI fd), (nI (md + 1)), (nI bk), (nI pr2), (nI at2), ne0, (nI lk), (nI mf), (nI (mm + 1)), (nI 0), pl2, (nI nd), (nI wr2), (nI lz), (nI dc), (nI fd), (nI (md + 1)), (nI bk), (nI pr2), (nI at2), ne0, (nI lk), (nI mf), (nI (mm + 1)), (nI 0), (nI wr2), (nI at2)]) rfl rfl (show (updA X2 2 K) = (updA (updA (updA X2 2 K) 2 K) 19 (X2 19)) from updsA_eq2 (F := X2) (l1 := [(2, K)]) (l2 := [(2, K), (2, K), (19, (X2 19))]) (V := [K, K, K, (X2 19)]) rfl rfl) hP
              have hD : va_D A (mW G h0 a (upd (upd (upd (upd (upd (upd (upd (upd (upd (upd (upd (upd (upd (upd (upd (upd (upd (upd F 15 0) 16 pl2) 27 (nI nd)) 31 (nI wr2)) 34 (nI lz)) 35 (nI dc)) 44 (nI fd)) 49 (nI (md + 1))) 59 (nI bk)) 60 (nI pr2)) 64 (nI at2)) 65 ne0) 66 (nI lk)) 67 (nI mf)) 68 (nI (mm + 1))) 15 (nI 0)) 31 (nI wr2)) 64 (nI at2)) (updA (updA (updA X2 2 K) 2 K) 19 (X2 19))) := mW_D hD
              refine pc_V0 (G := G) (As := []) (rest := [.int (nI pr2), .ref (a 47)]) hx hb hml hown hq hE hX pX0_al hP hD hS hA hl.1 (R_typeHereN l G h0 a (upd (upd (upd (upd (upd (upd (upd (upd (upd (upd (upd (upd (upd (upd (upd F 15 0) 16 pl2) 27 (nI nd)) 31 (nI wr2)) 34 (nI lz)) 35 (nI dc)) 44 (nI fd)) 49 (nI (md + 1))) 59 (nI bk)) 60 (nI pr2)) 64 (nI at2)) 65 ne0) 66 (nI lk)) 67 (nI mf)) 68 (nI (mm + 1))) (updA X2 2 K) at2 T 0 K wr2 (X2 19) (by omega) (by omega) hK (by omega) (by omega) hy2) (gV pw_1670 pw_1671 pw_1672 pw_1523 pw_1633) hV_X12_typeHere 0 9 rfl rfl rfl rfl (Nat.le_of_ble_eq_true rfl) dX12_method_181 ⟨Nat.le_of_ble_eq_true rfl, Nat.le_of_ble_eq_true rfl⟩ ⟨Nat.le_of_ble_eq_true rfl, Nat.le_of_ble_eq_true rfl⟩ (fun v425 u423 H locs hw424 hP hD hS => ?_)
              obtain ⟨at426, fa427, pl428, wr429, r430, yt431, yr432⟩ := u423
              obtain ⟨hw424, h433, h434, h435, h436, h437, h438, h439, h440, h441, h442, h443, h444, h445, h446, h447⟩ := hw424
              replace h433 : at2 ≤ at426 := h433
              replace h434 : at426 ≤ T := h434
              replace h435 : 0 ≤ fa427 := h435
              replace h436 : fa427 ≤ 100 := h436
              replace h437 : If (0 < 0) (at426 = at2 ∧ fa427 = 0) := h437
              replace h438 : wr2 ≤ wr429 := h438
              replace h439 : wr429 + at2 ≤ wr2 + at426 := h439
              replace h440 : If (0 < 0) (wr429 = wr2) := h440
              replace h441 : r430 + 1 ≤ wr429 + 6000 * fa427 := h441
              replace h442 : at2 + 1 ≤ at426 + fa427 := h442
              replace h443 : tkRow yt431 wr429 T := h443
              replace h444 : ∀ i : Nat, i < wr2 → yt431 i = (X2 19) i := h444
              replace h445 : ∀ i : Nat, i < wr2 → yr432 i = (X2 20) i := h445
              replace h446 : r430 ≤ wr2 := h446
              replace h447 : If (fa427 = 0) (srt (K at2) = true) := h447
              obtain rfl : v425 = some (.int (nI r430)) := hw424
              have hP : va_P G.1 pCl (mW G h0 a (upd (upd (upd (upd (upd (upd (upd (upd (upd (upd (upd (upd (upd (upd (upd F 15 (nI fa427)) 16 pl428) 27 (nI nd)) 31 (nI wr429)) 34 (nI lz)) 35 (nI dc)) 44 (nI fd)) 49 (nI (md + 1))) 59 (nI bk)) 60 (nI pr2)) 64 (nI at426)) 65 ne0) 66 (nI lk)) 67 (nI mf)) 68 (nI (mm + 1))) (updA (updA (updA X2 2 K) 19 yt431) 20 yr432)) _ := mW_to (F := F) (l1 := [(15, 0), (16, pl2), (27, (nI nd)), (31, (nI wr2)), (34, (nI lz)), (35, (nI dc)), (44, (nI fd)), (49, (nI (md + 1))), (59, (nI bk)), (60, (nI pr2)), (64, (nI at2)), (65, ne0), (66, (nI lk)), (67, (nI mf)), (68, (nI (mm + 1))), (15, (nI fa427)), (16, pl428), (31, (nI wr429)), (64, (nI at426))]) (l2 := [(15, (nI fa427)), (16, pl428), (27, (nI nd)), (31, (nI wr429)), (34, (nI lz)), (35, (nI dc)), (44, (nI fd)), (49, (nI (md + 1))), (59, (nI bk)), (60, (nI pr2)), (64, (nI at426)), (65, ne0), (66, (nI lk)), (67, (nI mf)), (68, (nI (mm + 1)))]) (V := [(nI fa427), pl428, (nI nd), (nI wr429), (nI lz), (nI dc), (nI fd), (nI (md + 1)), (nI bk), (nI pr2), (nI at426), ne0, (nI lk), (nI mf), (nI (mm + 1)), (nI fa427), pl428, (nI wr429), (nI at426), (nI fa427), pl428, (nI nd), (nI wr429), (nI lz), (nI dc), (nI fd), (nI (md + 1)), (nI bk), (nI pr2), (nI at426), ne0, (nI lk), (nI mf), (nI (mm + 1))]) rfl rfl (show (updA (updA (updA (updA X2 2 K) 2 K) 19 yt431) 20 yr432) = (updA (updA (updA X2 2 K) 19 yt431) 20 yr432) from updsA_eq2 (F := X2) (l1 := [(2, K), (2, K), (19, yt431), (20, yr432)]) (l2 := [(2, K), (19, yt431), (20, yr432)]) (V := [K, K, yt431, yr432, K, yt431, yr432]) rfl rfl) hP
              have hD : va_D A (mW G h0 a (upd (upd (upd (upd (upd (upd (upd (upd (upd (upd (upd (upd (upd (upd (upd F 15 (nI fa427)) 16 pl428) 27 (nI nd)) 31 (nI wr429)) 34 (nI lz)) 35 (nI dc)) 44 (nI fd)) 49 (nI (md + 1))) 59 (nI bk)) 60 (nI pr2)) 64 (nI at426)) 65 ne0) 66 (nI lk)) 67 (nI mf)) 68 (nI (mm + 1))) (updA (updA (updA X2 2 K) 19 yt431) 20 yr432)) := mW_D hD
              refine W.widen (k := 0) (n := 0) (Nat.le_of_ble_eq_true rfl) (Nat.le_of_ble_eq_true rfl) ?_
              refine W.eq (g2 := F0 m 184 ls [.int (nI r430), .int (nI pr2), .ref (a 47)]) rfl ?_
              have hP : va_P G.1 pCl (mW G h0 a (upd (upd (upd (upd (upd (upd (upd (upd (upd (upd (upd (upd (upd (upd (upd F 15 (nI fa427)) 16 pl428) 27 (nI nd)) 31 (nI wr429)) 34 (nI lz)) 35 (nI dc)) 44 (nI fd)) 49 (nI (md + 1))) 59 (nI bk)) 60 (nI pr2)) 64 (nI at426)) 65 ne0) 66 (nI lk)) 67 (nI mf)) 68 (nI (mm + 1))) (updA (updA (updA X2 19 yt431) 20 yr432) 2 K)) _ := mW_to (F := F) (l1 := [(15, (nI fa427)), (16, pl428), (27, (nI nd)), (31, (nI wr429)), (34, (nI lz)), (35, (nI dc)), (44, (nI fd)), (49, (nI (md + 1))), (59, (nI bk)), (60, (nI pr2)), (64, (nI at426)), (65, ne0), (66, (nI lk)), (67, (nI mf)), (68, (nI (mm + 1)))]) (l2 := [(15, (nI fa427)), (16, pl428), (27, (nI nd)), (31, (nI wr429)), (34, (nI lz)), (35, (nI dc)), (44, (nI fd)), (49, (nI (md + 1))), (59, (nI bk)), (60, (nI pr2)), (64, (nI at426)), (65, ne0), (66, (nI lk)), (67, (nI mf)), (68, (nI (mm + 1)))]) (V := [(nI fa427), pl428, (nI nd), (nI wr429), (nI lz), (nI dc), (nI fd), (nI (md + 1)), (nI bk), (nI pr2), (nI at426), ne0, (nI lk), (nI mf), (nI (mm + 1)), (nI fa427), pl428, (nI nd), (nI wr429), (nI lz), (nI dc), (nI fd), (nI (md + 1)), (nI bk), (nI pr2), (nI at426), ne0, (nI lk), (nI mf), (nI (mm + 1))]) rfl rfl (show (updA (updA (updA X2 2 K) 19 yt431) 20 yr432) = (updA (updA (updA X2 19 yt431) 20 yr432) 2 K) from updsA_eq2 (F := X2) (l1 := [(2, K), (19, yt431), (20, yr432)]) (l2 := [(19, yt431), (20, yr432), (2, K)]) (V := [K, yt431, yr432, yt431, yr432, K]) rfl rfl) hP
              have hD : va_D A (mW G h0 a (upd (upd (upd (upd (upd (upd (upd (upd (upd (upd (upd (upd (upd (upd (upd F 15 (nI fa427)) 16 pl428) 27 (nI nd)) 31 (nI wr429)) 34 (nI lz)) 35 (nI dc)) 44 (nI fd)) 49 (nI (md + 1))) 59 (nI bk)) 60 (nI pr2)) 64 (nI at426)) 65 ne0) 66 (nI lk)) 67 (nI mf)) 68 (nI (mm + 1))) (updA (updA (updA X2 19 yt431) 20 yr432) 2 K)) := mW_D hD
              rcases Nat.eq_zero_or_pos fa427 with e448 | e448
              · subst e448
                have hP : va_P G.1 pCl (mW G h0 a (upd (upd (upd (upd (upd (upd (upd (upd (upd (upd (upd (upd (upd (upd (upd F 15 0) 16 pl428) 27 (nI nd)) 31 (nI wr429)) 34 (nI lz)) 35 (nI dc)) 44 (nI fd)) 49 (nI (md + 1))) 59 (nI bk)) 60 (nI pr2)) 64 (nI at426)) 65 ne0) 66 (nI lk)) 67 (nI mf)) 68 (nI (mm + 1))) (updA (updA (updA X2 19 yt431) 20 yr432) 2 K)) _ := hP
                have hD : va_D A (mW G h0 a (upd (upd (upd (upd (upd (upd (upd (upd (upd (upd (upd (upd (upd (upd (upd F 15 0) 16 pl428) 27 (nI nd)) 31 (nI wr429)) 34 (nI lz)) 35 (nI dc)) 44 (nI fd)) 49 (nI (md + 1))) 59 (nI bk)) 60 (nI pr2)) 64 (nI at426)) 65 ne0) 66 (nI lk)) 67 (nI mf)) 68 (nI (mm + 1))) (updA (updA (updA X2 19 yt431) 20 yr432) 2 K)) := mW_D hD
                exact absurd (h447 rfl) (by rw [h420 (by omega)]; decide)
              · have e448 := e448
                have hkq449 : Kq 0 B (updA (updA X2 19 yt431) 20 yr432) := (Kq.row (Kq.row hkq2 (by omega)) (by omega))
                have hce450 : (updA (updA X2 19 yt431) 20 yr432) 36 md = (nI d) := hc36
                have hce451 : (updA (updA X2 19 yt431) 20 yr432) 37 md = (nI v2) := hc37
                have hce452 : (updA (updA X2 19 yt431) 20 yr432) 38 md = (nI tn) := hc38
                have hce453 : (updA (updA X2 19 yt431) 20 yr432) 39 md = y := hc39
                have hce454 : (updA (updA X2 19 yt431) 20 yr432) 40 md = (nI pr) := hc40
                have hce455 : (updA (updA X2 19 yt431) 20 yr432) 41 md = (nI q2) := hc41
                have hce456 : (updA (updA X2 19 yt431) 20 yr432) 42 md = (-1) := hc42
                have hce457 : (updA (updA X2 19 yt431) 20 yr432) 43 md = (-1) := hc43
                have hce458 : (updA (updA X2 19 yt431) 20 yr432) 44 md = (-1) := hc44
                have hty459 : tkRow ((updA (updA X2 19 yt431) 20 yr432) 19) wr429 T := h443
                refine r_sti (f := ((updA (updA X2 19 yt431) 20 yr432) 47)) (j := pr2) hx hb hE hP hD hS 47 (ma_47 G a _) rfl (mas_47 G a _) (by omega) (by decide) dX12_method_184 (fun H locs hP hD hS => ?_)
                have hP : va_P G.1 pCl (mW G h0 a (upd (upd (upd (upd (upd (upd (upd (upd (upd (upd (upd (upd (upd (upd (upd F 15 (nI fa427)) 16 pl428) 27 (nI nd)) 31 (nI wr429)) 34 (nI lz)) 35 (nI dc)) 44 (nI fd)) 49 (nI (md + 1))) 59 (nI bk)) 60 (nI pr2)) 64 (nI at426)) 65 ne0) 66 (nI lk)) 67 (nI mf)) 68 (nI (mm + 1))) (updA (stR (updA (updA X2 19 yt431) 20 yr432) 47 pr2 (nI r430)) 2 K)) _ := hP
                have hD : va_D A (mW G h0 a (upd (upd (upd (upd (upd (upd (upd (upd (upd (upd (upd (upd (upd (upd (upd F 15 (nI fa427)) 16 pl428) 27 (nI nd)) 31 (nI wr429)) 34 (nI lz)) 35 (nI dc)) 44 (nI fd)) 49 (nI (md + 1))) 59 (nI bk)) 60 (nI pr2)) 64 (nI at426)) 65 ne0) 66 (nI lk)) 67 (nI mf)) 68 (nI (mm + 1))) (updA (stR (updA (updA X2 19 yt431) 20 yr432) 47 pr2 (nI r430)) 2 K)) := mW_D hD
                have hkq460 : Kq 0 B (stR (updA (updA X2 19 yt431) 20 yr432) 47 pr2 (nI r430)) := (Kq.st hkq449 (by omega))
                have hce461 : (stR (updA (updA X2 19 yt431) 20 yr432) 47 pr2 (nI r430)) 36 md = (nI d) := ((st_ne (by omega)).trans hce450)
                have hce462 : (stR (updA (updA X2 19 yt431) 20 yr432) 47 pr2 (nI r430)) 37 md = (nI v2) := ((st_ne (by omega)).trans hce451)
                have hce463 : (stR (updA (updA X2 19 yt431) 20 yr432) 47 pr2 (nI r430)) 38 md = (nI tn) := ((st_ne (by omega)).trans hce452)
                have hce464 : (stR (updA (updA X2 19 yt431) 20 yr432) 47 pr2 (nI r430)) 39 md = y := ((st_ne (by omega)).trans hce453)
                have hce465 : (stR (updA (updA X2 19 yt431) 20 yr432) 47 pr2 (nI r430)) 40 md = (nI pr) := ((st_ne (by omega)).trans hce454)
                have hce466 : (stR (updA (updA X2 19 yt431) 20 yr432) 47 pr2 (nI r430)) 41 md = (nI q2) := ((st_ne (by omega)).trans hce455)
                have hce467 : (stR (updA (updA X2 19 yt431) 20 yr432) 47 pr2 (nI r430)) 42 md = (-1) := ((st_ne (by omega)).trans hce456)
                have hce468 : (stR (updA (updA X2 19 yt431) 20 yr432) 47 pr2 (nI r430)) 43 md = (-1) := ((st_ne (by omega)).trans hce457)
                have hce469 : (stR (updA (updA X2 19 yt431) 20 yr432) 47 pr2 (nI r430)) 44 md = (-1) := ((st_ne (by omega)).trans hce458)
                have hty470 : tkRow ((stR (updA (updA X2 19 yt431) 20 yr432) 47 pr2 (nI r430)) 19) wr429 T := hty459
                have hce471 : (stR (updA (updA X2 19 yt431) 20 yr432) 47 pr2 (nI r430)) 47 pr2 = (nI r430) := st_eq
                refine lv_aload_n hx hb dX12_method_185 rfl (lv_at hl 5 rfl) ?_
                have hP : va_P G.1 pCl (mW G h0 a (upd (upd (upd (upd (upd (upd (upd (upd (upd (upd (upd (upd (upd (upd (upd (upd (upd F 15 (nI fa427)) 16 pl428) 27 (nI nd)) 31 (nI wr429)) 34 (nI lz)) 35 (nI dc)) 44 (nI fd)) 49 (nI (md + 1))) 59 (nI bk)) 60 (nI pr2)) 64 (nI at426)) 65 ne0) 66 (nI lk)) 67 (nI mf)) 68 (nI (mm + 1))) 15 (nI fa427)) 64 (nI at426)) (updA (updA (stR (updA (updA X2 19 yt431) 20 yr432) 47 pr2 (nI r430)) 2 K) 2 K)) _ := mW_to (F := F) (l1 := [(15, (nI fa427)), (16, pl428), (27, (nI nd)), (31, (nI wr429)), (34, (nI lz)), (35, (nI dc)), (44, (nI fd)), (49, (nI (md + 1))), (59, (nI bk)), (60, (nI pr2)), (64, (nI at426)), (65, ne0), (66, (nI lk)), (67, (nI mf)), (68, (nI (mm + 1)))]) (l2 := [(15, (nI fa427)), (16, pl428), (27, (nI nd)), (31, (nI wr429)), (34, (nI lz)), (35, (nI dc)), (44, (nI fd)), (49, (nI (md + 1))), (59, (nI bk)), (60, (nI pr2)), (64, (nI at426)), (65, ne0), (66, (nI lk)), (67, (nI mf)), (68, (nI (mm + 1))), (15, (nI fa427)), (64, (nI at426))]) (V := [(nI fa427), pl428, (nI nd), (nI wr429), (nI lz), (nI dc), (nI fd), (nI (md + 1)), (nI bk), (nI pr2), (nI at426), ne0, (nI lk), (nI mf), (nI (mm + 1)), (nI fa427), pl428, (nI nd), (nI wr429), (nI lz), (nI dc), (nI fd), (nI (md + 1)), (nI bk), (nI pr2), (nI at426), ne0, (nI lk), (nI mf), (nI (mm + 1)), (nI fa427), (nI at426)]) rfl rfl (show (updA (stR (updA (updA X2 19 yt431) 20 yr432) 47 pr2 (nI r430)) 2 K) = (updA (updA (stR (updA (updA X2 19 yt431) 20 yr432) 47 pr2 (nI r430)) 2 K) 2 K) from updsA_eq2 (F := (stR (updA (updA X2 19 yt431) 20 yr432) 47 pr2 (nI r430))) (l1 := [(2, K)]) (l2 := [(2, K), (2, K)]) (V := [K, K, K]) rfl rfl) hP
                have hD : va_D A (mW G h0 a (upd (upd (upd (upd (upd (upd (upd (upd (upd (upd (upd (upd (upd (upd (upd (upd (upd F 15 (nI fa427)) 16 pl428) 27 (nI nd)) 31 (nI wr429)) 34 (nI lz)) 35 (nI dc)) 44 (nI fd)) 49 (nI (md + 1))) 59 (nI bk)) 60 (nI pr2)) 64 (nI at426)) 65 ne0) 66 (nI lk)) 67 (nI mf)) 68 (nI (mm + 1))) 15 (nI fa427)) 64 (nI at426)) (updA (updA (stR (updA (updA X2 19 yt431) 20 yr432) 47 pr2 (nI r430)) 2 K) 2 K)) := mW_D hD
                refine pc_V0 (G := G) (As := []) (rest := []) hx hb hml hown hq hE hX pX0_al hP hD hS hA hl.1 (R_name l G h0 a (upd (upd (upd (upd (upd (upd (upd (upd (upd (upd (upd (upd (upd (upd (upd F 15 (nI fa427)) 16 pl428) 27 (nI nd)) 31 (nI wr429)) 34 (nI lz)) 35 (nI dc)) 44 (nI fd)) 49 (nI (md + 1))) 59 (nI bk)) 60 (nI pr2)) 64 (nI at426)) 65 ne0) 66 (nI lk)) 67 (nI mf)) 68 (nI (mm + 1))) (updA (stR (updA (updA X2 19 yt431) 20 yr432) 47 pr2 (nI r430)) 2 K) at426 T fa427 K (by omega) (by omega) hK (by omega)) (gV pw_1618 pw_1619 pw_1620 pw_1523 pw_1613) hV_X12_name 0 9 rfl rfl rfl rfl (Nat.le_of_ble_eq_true rfl) dX12_method_186 ⟨Nat.le_of_ble_eq_true rfl, Nat.le_of_ble_eq_true rfl⟩ ⟨Nat.le_of_ble_eq_true rfl, Nat.le_of_ble_eq_true rfl⟩ (fun v474 u472 H locs hw473 hP hD hS => ?_)
                obtain ⟨at475, fa476, pl477⟩ := u472
                obtain ⟨hw473, h478, h479, h480, h481, h482, h483, h484, h485⟩ := hw473
                replace h478 : at426 ≤ at475 := h478
                replace h479 : at475 ≤ T := h479
                replace h480 : fa427 ≤ fa476 := h480
                replace h481 : fa476 ≤ 100 := h481
                replace h482 : If (0 < fa427) (at475 = at426 ∧ fa476 = fa427) := h482
                replace h483 : at475 ≤ at426 + 1 := h483
                replace h484 : at426 + 1 ≤ at475 + fa476 := h484
                replace h485 : If (fa476 = 0) (K at426 = 1) := h485
                obtain rfl : v474 = some (.int (nI at426)) := hw473
                have hP : va_P G.1 pCl (mW G h0 a (upd (upd (upd (upd (upd (upd (upd (upd (upd (upd (upd (upd (upd (upd (upd F 15 (nI fa476)) 16 pl477) 27 (nI nd)) 31 (nI wr429)) 34 (nI lz)) 35 (nI dc)) 44 (nI fd)) 49 (nI (md + 1))) 59 (nI bk)) 60 (nI pr2)) 64 (nI at475)) 65 ne0) 66 (nI lk)) 67 (nI mf)) 68 (nI (mm + 1))) (updA (stR (updA (updA X2 19 yt431) 20 yr432) 47 pr2 (nI r430)) 2 K)) _ := mW_to (F := F) (l1 := [(15, (nI fa427)), (16, pl428), (27, (nI nd)), (31, (nI wr429)), (34, (nI lz)), (35, (nI dc)), (44, (nI fd)), (49, (nI (md + 1))), (59, (nI bk)), (60, (nI pr2)), (64, (nI at426)), (65, ne0), (66, (nI lk)), (67, (nI mf)), (68, (nI (mm + 1))), (15, (nI fa476)), (16, pl477), (64, (nI at475))]) (l2 := [(15, (nI fa476)), (16, pl477), (27, (nI nd)), (31, (nI wr429)), (34, (nI lz)), (35, (nI dc)), (44, (nI fd)), (49, (nI (md + 1))), (59, (nI bk)), (60, (nI pr2)), (64, (nI at475)), (65, ne0), (66, (nI lk)), (67, (nI mf)), (68, (nI (mm + 1)))]) (V := [(nI fa476), pl477, (nI nd), (nI wr429), (nI lz), (nI dc), (nI fd), (nI (md + 1)), (nI bk), (nI pr2), (nI at475), ne0, (nI lk), (nI mf), (nI (mm + 1)), (nI fa476), pl477, (nI at475), (nI fa476), pl477, (nI nd), (nI wr429), (nI lz), (nI dc), (nI fd), (nI (md + 1)), (nI bk), (nI pr2), (nI at475), ne0, (nI lk), (nI mf), (nI (mm + 1))]) rfl rfl (show (updA (updA (stR (updA (updA X2 19 yt431) 20 yr432) 47 pr2 (nI r430)) 2 K) 2 K) = (updA (stR (updA (updA X2 19 yt431) 20 yr432) 47 pr2 (nI r430)) 2 K) from updsA_eq2 (F := (stR (updA (updA X2 19 yt431) 20 yr432) 47 pr2 (nI r430))) (l1 := [(2, K), (2, K)]) (l2 := [(2, K)]) (V := [K, K, K]) rfl rfl) hP
                have hD : va_D A (mW G h0 a (upd (upd (upd (upd (upd (upd (upd (upd (upd (upd (upd (upd (upd (upd (upd F 15 (nI fa476)) 16 pl477) 27 (nI nd)) 31 (nI wr429)) 34 (nI lz)) 35 (nI dc)) 44 (nI fd)) 49 (nI (md + 1))) 59 (nI bk)) 60 (nI pr2)) 64 (nI at475)) 65 ne0) 66 (nI lk)) 67 (nI mf)) 68 (nI (mm + 1))) (updA (stR (updA (updA X2 19 yt431) 20 yr432) 47 pr2 (nI r430)) 2 K)) := mW_D hD
                refine W.widen (k := 0) (n := 0) (Nat.le_of_ble_eq_true rfl) (Nat.le_of_ble_eq_true rfl) ?_
                refine W.eq (g2 := F0 m 189 ls [.int (nI at426)]) rfl ?_
                obtain ⟨n487, n486⟩ := h482 e448
                replace n487 := n487.symm
                subst n487
                replace n486 := n486.symm
                subst n486
                refine lv_istore (lv' := [(6, .int (nI at426)), (5, .int (nI mo)), (4, .int (nI md)), (3, .int (nI tn)), (2, .int y), (1, .int (nI d)), (0, .ref h0)]) hx hb dX12_method_189 hl (by decide) rfl (fun ls hl => ?_)
                refine lv_aload_n hx hb dX12_method_191 rfl (lv_at hl 6 rfl) ?_
                refine r_get (v := .int (nI fa427)) hx hb hown hq hE hP 15 350 tFX12_15 (by decide) pw_1594 rfl dX12_method_192 ?_
                refine lv_if_le (tgt := 199) hx hb dX12_method_195 (by decide) (fun c488 => (by have n489 : fa427 ≤ 0 := (nI_leI (a := fa427) (b := 0) (by omega) (by omega)).mp c488; omega)) (fun c488 => ?_)
                have hz490 : at0 ≤ at426 := (by omega)
                have hz491 : at426 ≤ T := (by omega)
                have hz492 : fa427 ≤ 100 := (by omega)
                have hz493 : at0 + 1 ≤ at426 + fa427 := (by omega)
                have hz494 : Kq 0 B (stR (updA (updA X2 19 yt431) 20 yr432) 47 pr2 (nI r430)) := hkq460
                have hz495 : If (fa427 = 0) ((nd ≤ 2 * at426 ∧ wr429 ≤ at426 ∧ lz ≤ at426 ∧ pr2 ≤ at426 ∧ dc ≤ 37 ∧ dc ≤ dc ∧ bk ≤ (md + 1) ∧ wr ≤ wr429 ∧ lz ≤ lz) ∧ ((md + 1) + 240 ≤ 30 * dc + (mm + 1) ∧ fd + 160 ≤ 20 * dc + mf ∧ mf ≤ 20 ∧ (mm + 1) ≤ 30 ∧ dc = dc) ∧ PS T nm wr429 lz dc fd (md + 1) pr2 bk (stR (updA (updA X2 19 yt431) 20 yr432) 47 pr2 (nI r430)) ∧ FrM K T wr429 (stR (updA (updA X2 19 yt431) 20 yr432) 47 pr2 (nI r430)) nd (md + 1) ∧ tkRow ((stR (updA (updA X2 19 yt431) 20 yr432) 47 pr2 (nI r430)) 19) wr429 T ∧ lsRow ((stR (updA (updA X2 19 yt431) 20 yr432) 47 pr2 (nI r430)) 22) ((stR (updA (updA X2 19 yt431) 20 yr432) 47 pr2 (nI r430)) 23) lz T) := (fun e => absurd e (by omega))
                have hP : va_P G.1 pCl (mW G h0 a (upd (upd (upd (upd (upd (upd (upd (upd (upd (upd (upd (upd (upd (upd (upd F 15 (nI fa427)) 16 pl477) 27 (nI nd)) 31 (nI wr429)) 34 (nI lz)) 35 (nI dc)) 44 (nI fd)) 49 (nI (md + 1))) 59 (nI bk)) 60 (nI pr2)) 64 (nI at426)) 65 ne0) 66 (nI lk)) 67 (nI mf)) 68 (nI (mm + 1))) (updA (stR (updA (updA X2 19 yt431) 20 yr432) 47 pr2 (nI r430)) 2 K)) _ := hP
                have hD : va_D A (mW G h0 a (upd (upd (upd (upd (upd (upd (upd (upd (upd (upd (upd (upd (upd (upd (upd F 15 (nI fa427)) 16 pl477) 27 (nI nd)) 31 (nI wr429)) 34 (nI lz)) 35 (nI dc)) 44 (nI fd)) 49 (nI (md + 1))) 59 (nI bk)) 60 (nI pr2)) 64 (nI at426)) 65 ne0) 66 (nI lk)) 67 (nI mf)) 68 (nI (mm + 1))) (updA (stR (updA (updA X2 19 yt431) 20 yr432) 47 pr2 (nI r430)) 2 K)) := mW_D hD
                exact W.vret hx hb hr (fun t9 ht9 hW9 => ⟨⟨_, (at426, fa427, pl477, nd, wr429, lz, dc, fd, (md + 1), pr2, bk, mf, (mm + 1), ne0, (stR (updA (updA X2 19 yt431) 20 yr432) 47 pr2 (nI r430))), rfl, ⟨rfl, hz490, hz491, hz492, hz493, hz494, hz495⟩, by rw [ht9]; exact hP, hD⟩, hS.F ht9⟩) hS.2.2 dX12_method_198
            · have n496 : ¬ (r416 = 0) := fun h9 => c421 ((nI_eq (a := r416) (b := 0) (by omega) (by omega)).mpr h9)
              refine lv_aload_n hx hb dX12_method_154 rfl (lv_at hl 5 rfl) ?_
              refine r_get (v := .ref (a 41)) hx hb hown hq hE hP 55 135 tFX12_55 (by decide) pw_1472 rfl dX12_method_155 ?_
              refine lv_iload hx hb dX12_method_158 (lv_at hl 1 rfl) ?_
              refine r_ldi (f := (X2 41)) (j := md) hx hb hE hP 41 (ma_41 G a _) rfl (by omega) (by decide) dX12_method_160 ?_
              refine lv_topi (fun x497 e498 => ?_)
              obtain rfl : x497 = (nI q2) := e498.trans hc41
              refine lv_bipush (v := 8) hx hb dX12_method_161 (by decide) ?_
              refine lv_icmp_ne (tgt := 172) hx hb dX12_method_163 (by decide) (fun c499 => ?_) (fun c499 => ?_)
              · have n500 : ¬ (q2 = 8) := fun h9 => c499 ((nI_eq (a := q2) (b := 8) (by omega) (by omega)).mpr h9)
                refine lv_aload_n hx hb dX12_method_172 rfl (lv_at hl 5 rfl) ?_
                refine r_get (v := .ref (a 47)) hx hb hown hq hE hP 63 153 tFX12_63 (by decide) pw_1478 rfl dX12_method_173 ?_
                refine lv_aload_n hx hb dX12_method_176 rfl (lv_at hl 5 rfl) ?_
                refine r_get (v := .int (nI pr2)) hx hb hown hq hE hP 60 419 tFX12_60 (by decide) pw_1723 rfl dX12_method_177 ?_
                refine lv_aload_n hx hb dX12_method_180 rfl (lv_at hl 5 rfl) ?_
                have hP : va_P G.1 pCl (mW G h0 a (upd (upd (upd (upd (upd (upd (upd (upd (upd (upd (upd (upd (upd (upd (upd (upd (upd (upd F 15 0) 16 pl2) 27 (nI nd)) 31 (nI wr2)) 34 (nI lz)) 35 (nI dc)) 44 (nI fd)) 49 (nI (md + 1))) 59 (nI bk)) 60 (nI pr2)) 64 (nI at2)) 65 ne0) 66 (nI lk)) 67 (nI mf)) 68 (nI (mm + 1))) 15 (nI 0)) 31 (nI wr2)) 64 (nI at2)) (updA (updA (updA X2 2 K) 2 K) 19 (X2 19))) _ := mW_to (F := F) (l1 := [(15, 0), (16, pl2), (27, (nI nd)), (31, (nI wr2)), (34, (nI lz)), (35, (nI dc)), (44, (nI fd)), (49, (nI (md + 1))), (59, (nI bk)), (60, (nI pr2)), (64, (nI at2)), (65, ne0), (66, (nI lk)), (67, (nI mf)), (68, (nI (mm + 1)))]) (l2 := [(15, 0), (16, pl2), (27, (nI nd)), (31, (nI wr2)), (34, (nI lz)), (35, (nI dc)), (44, (nI fd)), (49, (nI (md + 1))), (59, (nI bk)), (60, (nI pr2)), (64, (nI at2)), (65, ne0), (66, (nI lk)), (67, (nI mf)), (68, (nI (mm + 1))), (15, (nI 0)), (31, (nI wr2)), (64, (nI at2))]) (V := [(nI 0), pl2, (nI nd), (nI wr2), (nI lz), (nI dc), (nI fd), (nI (md + 1)), (nI bk), (nI pr2), (nI at2), ne0, (nI lk), (nI mf), (nI (mm + 1)), (nI 0), pl2, (nI nd), (nI wr2), (nI lz), (nI dc), (nI fd), (nI (md + 1)), (nI bk), (nI pr2), (nI at2), ne0, (nI lk), (nI mf), (nI (mm + 1)), (nI 0), (nI wr2), (nI at2)]) rfl rfl (show (updA X2 2 K) = (updA (updA (updA X2 2 K) 2 K) 19 (X2 19)) from updsA_eq2 (F := X2) (l1 := [(2, K)]) (l2 := [(2, K), (2, K), (19, (X2 19))]) (V := [K, K, K, (X2 19)]) rfl rfl) hP
                have hD : va_D A (mW G h0 a (upd (upd (upd (upd (upd (upd (upd (upd (upd (upd (upd (upd (upd (upd (upd (upd (upd (upd F 15 0) 16 pl2) 27 (nI nd)) 31 (nI wr2)) 34 (nI lz)) 35 (nI dc)) 44 (nI fd)) 49 (nI (md + 1))) 59 (nI bk)) 60 (nI pr2)) 64 (nI at2)) 65 ne0) 66 (nI lk)) 67 (nI mf)) 68 (nI (mm + 1))) 15 (nI 0)) 31 (nI wr2)) 64 (nI at2)) (updA (updA (updA X2 2 K) 2 K) 19 (X2 19))) := mW_D hD
                refine pc_V0 (G := G) (As := []) (rest := [.int (nI pr2), .ref (a 47)]) hx hb hml hown hq hE hX pX0_al hP hD hS hA hl.1 (R_typeHereN l G h0 a (upd (upd (upd (upd (upd (upd (upd (upd (upd (upd (upd (upd (upd (upd (upd F 15 0) 16 pl2) 27 (nI nd)) 31 (nI wr2)) 34 (nI lz)) 35 (nI dc)) 44 (nI fd)) 49 (nI (md + 1))) 59 (nI bk)) 60 (nI pr2)) 64 (nI at2)) 65 ne0) 66 (nI lk)) 67 (nI mf)) 68 (nI (mm + 1))) (updA X2 2 K) at2 T 0 K wr2 (X2 19) (by omega) (by omega) hK (by omega) (by omega) hy2) (gV pw_1670 pw_1671 pw_1672 pw_1523 pw_1633) hV_X12_typeHere 0 9 rfl rfl rfl rfl (Nat.le_of_ble_eq_true rfl) dX12_method_181 ⟨Nat.le_of_ble_eq_true rfl, Nat.le_of_ble_eq_true rfl⟩ ⟨Nat.le_of_ble_eq_true rfl, Nat.le_of_ble_eq_true rfl⟩ (fun v503 u501 H locs hw502 hP hD hS => ?_)
                obtain ⟨at504, fa505, pl506, wr507, r508, yt509, yr510⟩ := u501
                obtain ⟨hw502, h511, h512, h513, h514, h515, h516, h517, h518, h519, h520, h521, h522, h523, h524, h525⟩ := hw502
                replace h511 : at2 ≤ at504 := h511
                replace h512 : at504 ≤ T := h512
                replace h513 : 0 ≤ fa505 := h513
                replace h514 : fa505 ≤ 100 := h514
                replace h515 : If (0 < 0) (at504 = at2 ∧ fa505 = 0) := h515
                replace h516 : wr2 ≤ wr507 := h516
                replace h517 : wr507 + at2 ≤ wr2 + at504 := h517
                replace h518 : If (0 < 0) (wr507 = wr2) := h518
                replace h519 : r508 + 1 ≤ wr507 + 6000 * fa505 := h519
                replace h520 : at2 + 1 ≤ at504 + fa505 := h520
                replace h521 : tkRow yt509 wr507 T := h521
                replace h522 : ∀ i : Nat, i < wr2 → yt509 i = (X2 19) i := h522
                replace h523 : ∀ i : Nat, i < wr2 → yr510 i = (X2 20) i := h523
                replace h524 : r508 ≤ wr2 := h524
                replace h525 : If (fa505 = 0) (srt (K at2) = true) := h525
                obtain rfl : v503 = some (.int (nI r508)) := hw502
                have hP : va_P G.1 pCl (mW G h0 a (upd (upd (upd (upd (upd (upd (upd (upd (upd (upd (upd (upd (upd (upd (upd F 15 (nI fa505)) 16 pl506) 27 (nI nd)) 31 (nI wr507)) 34 (nI lz)) 35 (nI dc)) 44 (nI fd)) 49 (nI (md + 1))) 59 (nI bk)) 60 (nI pr2)) 64 (nI at504)) 65 ne0) 66 (nI lk)) 67 (nI mf)) 68 (nI (mm + 1))) (updA (updA (updA X2 2 K) 19 yt509) 20 yr510)) _ := mW_to (F := F) (l1 := [(15, 0), (16, pl2), (27, (nI nd)), (31, (nI wr2)), (34, (nI lz)), (35, (nI dc)), (44, (nI fd)), (49, (nI (md + 1))), (59, (nI bk)), (60, (nI pr2)), (64, (nI at2)), (65, ne0), (66, (nI lk)), (67, (nI mf)), (68, (nI (mm + 1))), (15, (nI fa505)), (16, pl506), (31, (nI wr507)), (64, (nI at504))]) (l2 := [(15, (nI fa505)), (16, pl506), (27, (nI nd)), (31, (nI wr507)), (34, (nI lz)), (35, (nI dc)), (44, (nI fd)), (49, (nI (md + 1))), (59, (nI bk)), (60, (nI pr2)), (64, (nI at504)), (65, ne0), (66, (nI lk)), (67, (nI mf)), (68, (nI (mm + 1)))]) (V := [(nI fa505), pl506, (nI nd), (nI wr507), (nI lz), (nI dc), (nI fd), (nI (md + 1)), (nI bk), (nI pr2), (nI at504), ne0, (nI lk), (nI mf), (nI (mm + 1)), (nI fa505), pl506, (nI wr507), (nI at504), (nI fa505), pl506, (nI nd), (nI wr507), (nI lz), (nI dc), (nI fd), (nI (md + 1)), (nI bk), (nI pr2), (nI at504), ne0, (nI lk), (nI mf), (nI (mm + 1))]) rfl rfl (show (updA (updA (updA (updA X2 2 K) 2 K) 19 yt509) 20 yr510) = (updA (updA (updA X2 2 K) 19 yt509) 20 yr510) from updsA_eq2 (F := X2) (l1 := [(2, K), (2, K), (19, yt509), (20, yr510)]) (l2 := [(2, K), (19, yt509), (20, yr510)]) (V := [K, K, yt509, yr510, K, yt509, yr510]) rfl rfl) hP
                have hD : va_D A (mW G h0 a (upd (upd (upd (upd (upd (upd (upd (upd (upd (upd (upd (upd (upd (upd (upd F 15 (nI fa505)) 16 pl506) 27 (nI nd)) 31 (nI wr507)) 34 (nI lz)) 35 (nI dc)) 44 (nI fd)) 49 (nI (md + 1))) 59 (nI bk)) 60 (nI pr2)) 64 (nI at504)) 65 ne0) 66 (nI lk)) 67 (nI mf)) 68 (nI (mm + 1))) (updA (updA (updA X2 2 K) 19 yt509) 20 yr510)) := mW_D hD
                refine W.widen (k := 0) (n := 0) (Nat.le_of_ble_eq_true rfl) (Nat.le_of_ble_eq_true rfl) ?_
                refine W.eq (g2 := F0 m 184 ls [.int (nI r508), .int (nI pr2), .ref (a 47)]) rfl ?_
                have hP : va_P G.1 pCl (mW G h0 a (upd (upd (upd (upd (upd (upd (upd (upd (upd (upd (upd (upd (upd (upd (upd F 15 (nI fa505)) 16 pl506) 27 (nI nd)) 31 (nI wr507)) 34 (nI lz)) 35 (nI dc)) 44 (nI fd)) 49 (nI (md + 1))) 59 (nI bk)) 60 (nI pr2)) 64 (nI at504)) 65 ne0) 66 (nI lk)) 67 (nI mf)) 68 (nI (mm + 1))) (updA (updA (updA X2 19 yt509) 20 yr510) 2 K)) _ := mW_to (F := F) (l1 := [(15, (nI fa505)), (16, pl506), (27, (nI nd)), (31, (nI wr507)), (34, (nI lz)), (35, (nI dc)), (44, (nI fd)), (49, (nI (md + 1))), (59, (nI bk)), (60, (nI pr2)), (64, (nI at504)), (65, ne0), (66, (nI lk)), (67, (nI mf)), (68, (nI (mm + 1)))]) (l2 := [(15, (nI fa505)), (16, pl506), (27, (nI nd)), (31, (nI wr507)), (34, (nI lz)), (35, (nI dc)), (44, (nI fd)), (49, (nI (md + 1))), (59, (nI bk)), (60, (nI pr2)), (64, (nI at504)), (65, ne0), (66, (nI lk)), (67, (nI mf)), (68, (nI (mm + 1)))]) (V := [(nI fa505), pl506, (nI nd), (nI wr507), (nI lz), (nI dc), (nI fd), (nI (md + 1)), (nI bk), (nI pr2), (nI at504), ne0, (nI lk), (nI mf), (nI (mm + 1)), (nI fa505), pl506, (nI nd), (nI wr507), (nI lz), (nI dc), (nI fd), (nI (md + 1)), (nI bk), (nI pr2), (nI at504), ne0, (nI lk), (nI mf), (nI (mm + 1))]) rfl rfl (show (updA (updA (updA X2 2 K) 19 yt509) 20 yr510) = (updA (updA (updA X2 19 yt509) 20 yr510) 2 K) from updsA_eq2 (F := X2) (l1 := [(2, K), (19, yt509), (20, yr510)]) (l2 := [(19, yt509), (20, yr510), (2, K)]) (V := [K, yt509, yr510, yt509, yr510, K]) rfl rfl) hP
                have hD : va_D A (mW G h0 a (upd (upd (upd (upd (upd (upd (upd (upd (upd (upd (upd (upd (upd (upd (upd F 15 (nI fa505)) 16 pl506) 27 (nI nd)) 31 (nI wr507)) 34 (nI lz)) 35 (nI dc)) 44 (nI fd)) 49 (nI (md + 1))) 59 (nI bk)) 60 (nI pr2)) 64 (nI at504)) 65 ne0) 66 (nI lk)) 67 (nI mf)) 68 (nI (mm + 1))) (updA (updA (updA X2 19 yt509) 20 yr510) 2 K)) := mW_D hD
                rcases Nat.eq_zero_or_pos fa505 with e526 | e526
                · subst e526
                  have hP : va_P G.1 pCl (mW G h0 a (upd (upd (upd (upd (upd (upd (upd (upd (upd (upd (upd (upd (upd (upd (upd F 15 0) 16 pl506) 27 (nI nd)) 31 (nI wr507)) 34 (nI lz)) 35 (nI dc)) 44 (nI fd)) 49 (nI (md + 1))) 59 (nI bk)) 60 (nI pr2)) 64 (nI at504)) 65 ne0) 66 (nI lk)) 67 (nI mf)) 68 (nI (mm + 1))) (updA (updA (updA X2 19 yt509) 20 yr510) 2 K)) _ := hP
                  have hD : va_D A (mW G h0 a (upd (upd (upd (upd (upd (upd (upd (upd (upd (upd (upd (upd (upd (upd (upd F 15 0) 16 pl506) 27 (nI nd)) 31 (nI wr507)) 34 (nI lz)) 35 (nI dc)) 44 (nI fd)) 49 (nI (md + 1))) 59 (nI bk)) 60 (nI pr2)) 64 (nI at504)) 65 ne0) 66 (nI lk)) 67 (nI mf)) 68 (nI (mm + 1))) (updA (updA (updA X2 19 yt509) 20 yr510) 2 K)) := mW_D hD
                  have hkq527 : Kq 0 B (updA (updA X2 19 yt509) 20 yr510) := (Kq.row (Kq.row hkq2 (by omega)) (by omega))
                  have hce528 : (updA (updA X2 19 yt509) 20 yr510) 36 md = (nI d) := hc36
                  have hce529 : (updA (updA X2 19 yt509) 20 yr510) 37 md = (nI v2) := hc37
                  have hce530 : (updA (updA X2 19 yt509) 20 yr510) 38 md = (nI tn) := hc38
                  have hce531 : (updA (updA X2 19 yt509) 20 yr510) 39 md = y := hc39
                  have hce532 : (updA (updA X2 19 yt509) 20 yr510) 40 md = (nI pr) := hc40
                  have hce533 : (updA (updA X2 19 yt509) 20 yr510) 41 md = (nI q2) := hc41
                  have hce534 : (updA (updA X2 19 yt509) 20 yr510) 42 md = (-1) := hc42
                  have hce535 : (updA (updA X2 19 yt509) 20 yr510) 43 md = (-1) := hc43
                  have hce536 : (updA (updA X2 19 yt509) 20 yr510) 44 md = (-1) := hc44
                  have hty537 : tkRow ((updA (updA X2 19 yt509) 20 yr510) 19) wr507 T := h521
                  have hps538 : PS T nm wr507 lz dc fd md pr2 bk (updA (updA X2 19 yt509) 20 yr510) := (PS.same hps2 (by omega) (by omega) (fun r i q1 q2 q3 => by unfold updA; rw [if_neg (by omega), if_neg (by omega)]))
                  have hfm539 : FrM K T wr507 (updA (updA X2 19 yt509) 20 yr510) nd md := (FrM.same hfm2 (by omega) (fun j i q1 q2 q3 => by unfold updA; rw [if_neg (by omega), if_neg (by omega)]) (fun i q => rfl))
                  have hlr540 : lsRow ((updA (updA X2 19 yt509) 20 yr510) 22) ((updA (updA X2 19 yt509) 20 yr510) 23) lz T := hlr2
                  refine r_sti (f := ((updA (updA X2 19 yt509) 20 yr510) 47)) (j := pr2) hx hb hE hP hD hS 47 (ma_47 G a _) rfl (mas_47 G a _) (by omega) (by decide) dX12_method_184 (fun H locs hP hD hS => ?_)
                  have hP : va_P G.1 pCl (mW G h0 a (upd (upd (upd (upd (upd (upd (upd (upd (upd (upd (upd (upd (upd (upd (upd F 15 0) 16 pl506) 27 (nI nd)) 31 (nI wr507)) 34 (nI lz)) 35 (nI dc)) 44 (nI fd)) 49 (nI (md + 1))) 59 (nI bk)) 60 (nI pr2)) 64 (nI at504)) 65 ne0) 66 (nI lk)) 67 (nI mf)) 68 (nI (mm + 1))) (updA (stR (updA (updA X2 19 yt509) 20 yr510) 47 pr2 (nI r508)) 2 K)) _ := hP
                  have hD : va_D A (mW G h0 a (upd (upd (upd (upd (upd (upd (upd (upd (upd (upd (upd (upd (upd (upd (upd F 15 0) 16 pl506) 27 (nI nd)) 31 (nI wr507)) 34 (nI lz)) 35 (nI dc)) 44 (nI fd)) 49 (nI (md + 1))) 59 (nI bk)) 60 (nI pr2)) 64 (nI at504)) 65 ne0) 66 (nI lk)) 67 (nI mf)) 68 (nI (mm + 1))) (updA (stR (updA (updA X2 19 yt509) 20 yr510) 47 pr2 (nI r508)) 2 K)) := mW_D hD
                  have hkq541 : Kq 0 B (stR (updA (updA X2 19 yt509) 20 yr510) 47 pr2 (nI r508)) := (Kq.st hkq527 (by omega))
                  have hce542 : (stR (updA (updA X2 19 yt509) 20 yr510) 47 pr2 (nI r508)) 36 md = (nI d) := ((st_ne (by omega)).trans hce528)
                  have hce543 : (stR (updA (updA X2 19 yt509) 20 yr510) 47 pr2 (nI r508)) 37 md = (nI v2) := ((st_ne (by omega)).trans hce529)
                  have hce544 : (stR (updA (updA X2 19 yt509) 20 yr510) 47 pr2 (nI r508)) 38 md = (nI tn) := ((st_ne (by omega)).trans hce530)
                  have hce545 : (stR (updA (updA X2 19 yt509) 20 yr510) 47 pr2 (nI r508)) 39 md = y := ((st_ne (by omega)).trans hce531)
                  have hce546 : (stR (updA (updA X2 19 yt509) 20 yr510) 47 pr2 (nI r508)) 40 md = (nI pr) := ((st_ne (by omega)).trans hce532)
                  have hce547 : (stR (updA (updA X2 19 yt509) 20 yr510) 47 pr2 (nI r508)) 41 md = (nI q2) := ((st_ne (by omega)).trans hce533)
                  have hce548 : (stR (updA (updA X2 19 yt509) 20 yr510) 47 pr2 (nI r508)) 42 md = (-1) := ((st_ne (by omega)).trans hce534)
                  have hce549 : (stR (updA (updA X2 19 yt509) 20 yr510) 47 pr2 (nI r508)) 43 md = (-1) := ((st_ne (by omega)).trans hce535)
                  have hce550 : (stR (updA (updA X2 19 yt509) 20 yr510) 47 pr2 (nI r508)) 44 md = (-1) := ((st_ne (by omega)).trans hce536)
                  have hty551 : tkRow ((stR (updA (updA X2 19 yt509) 20 yr510) 47 pr2 (nI r508)) 19) wr507 T := hty537
                  have hps552 : PS T nm wr507 lz dc fd md pr2 bk (stR (updA (updA X2 19 yt509) 20 yr510) 47 pr2 (nI r508)) := (PS.same hps538 (by omega) (by omega) (fun r i q1 q2 q3 => st_ne (fun e => by rw [e.1, e.2] at q3; exact absurd (show pr2 < pr2 from q3) (by omega))))
                  have hfm553 : FrM K T wr507 (stR (updA (updA X2 19 yt509) 20 yr510) 47 pr2 (nI r508)) nd md := (FrM.same hfm539 (by omega) (fun j i q1 q2 q3 => st_ne (by omega)) (fun i q => st_ne (by omega)))
                  have hlr554 : lsRow ((stR (updA (updA X2 19 yt509) 20 yr510) 47 pr2 (nI r508)) 22) ((stR (updA (updA X2 19 yt509) 20 yr510) 47 pr2 (nI r508)) 23) lz T := hlr540
                  have hce555 : (stR (updA (updA X2 19 yt509) 20 yr510) 47 pr2 (nI r508)) 47 pr2 = (nI r508) := st_eq
                  refine lv_aload_n hx hb dX12_method_185 rfl (lv_at hl 5 rfl) ?_
                  have hP : va_P G.1 pCl (mW G h0 a (upd (upd (upd (upd (upd (upd (upd (upd (upd (upd (upd (upd (upd (upd (upd (upd (upd F 15 0) 16 pl506) 27 (nI nd)) 31 (nI wr507)) 34 (nI lz)) 35 (nI dc)) 44 (nI fd)) 49 (nI (md + 1))) 59 (nI bk)) 60 (nI pr2)) 64 (nI at504)) 65 ne0) 66 (nI lk)) 67 (nI mf)) 68 (nI (mm + 1))) 15 (nI 0)) 64 (nI at504)) (updA (updA (stR (updA (updA X2 19 yt509) 20 yr510) 47 pr2 (nI r508)) 2 K) 2 K)) _ := mW_to (F := F) (l1 := [(15, 0), (16, pl506), (27, (nI nd)), (31, (nI wr507)), (34, (nI lz)), (35, (nI dc)), (44, (nI fd)), (49, (nI (md + 1))), (59, (nI bk)), (60, (nI pr2)), (64, (nI at504)), (65, ne0), (66, (nI lk)), (67, (nI mf)), (68, (nI (mm + 1)))]) (l2 := [(15, 0), (16, pl506), (27, (nI nd)), (31, (nI wr507)), (34, (nI lz)), (35, (nI dc)), (44, (nI fd)), (49, (nI (md + 1))), (59, (nI bk)), (60, (nI pr2)), (64, (nI at504)), (65, ne0), (66, (nI lk)), (67, (nI mf)), (68, (nI (mm + 1))), (15, (nI 0)), (64, (nI at504))]) (V := [(nI 0), pl506, (nI nd), (nI wr507), (nI lz), (nI dc), (nI fd), (nI (md + 1)), (nI bk), (nI pr2), (nI at504), ne0, (nI lk), (nI mf), (nI (mm + 1)), (nI 0), pl506, (nI nd), (nI wr507), (nI lz), (nI dc), (nI fd), (nI (md + 1)), (nI bk), (nI pr2), (nI at504), ne0, (nI lk), (nI mf), (nI (mm + 1)), (nI 0), (nI at504)]) rfl rfl (show (updA (stR (updA (updA X2 19 yt509) 20 yr510) 47 pr2 (nI r508)) 2 K) = (updA (updA (stR (updA (updA X2 19 yt509) 20 yr510) 47 pr2 (nI r508)) 2 K) 2 K) from updsA_eq2 (F := (stR (updA (updA X2 19 yt509) 20 yr510) 47 pr2 (nI r508))) (l1 := [(2, K)]) (l2 := [(2, K), (2, K)]) (V := [K, K, K]) rfl rfl) hP
                  have hD : va_D A (mW G h0 a (upd (upd (upd (upd (upd (upd (upd (upd (upd (upd (upd (upd (upd (upd (upd (upd (upd F 15 0) 16 pl506) 27 (nI nd)) 31 (nI wr507)) 34 (nI lz)) 35 (nI dc)) 44 (nI fd)) 49 (nI (md + 1))) 59 (nI bk)) 60 (nI pr2)) 64 (nI at504)) 65 ne0) 66 (nI lk)) 67 (nI mf)) 68 (nI (mm + 1))) 15 (nI 0)) 64 (nI at504)) (updA (updA (stR (updA (updA X2 19 yt509) 20 yr510) 47 pr2 (nI r508)) 2 K) 2 K)) := mW_D hD
                  refine pc_V0 (G := G) (As := []) (rest := []) hx hb hml hown hq hE hX pX0_al hP hD hS hA hl.1 (R_name l G h0 a (upd (upd (upd (upd (upd (upd (upd (upd (upd (upd (upd (upd (upd (upd (upd F 15 0) 16 pl506) 27 (nI nd)) 31 (nI wr507)) 34 (nI lz)) 35 (nI dc)) 44 (nI fd)) 49 (nI (md + 1))) 59 (nI bk)) 60 (nI pr2)) 64 (nI at504)) 65 ne0) 66 (nI lk)) 67 (nI mf)) 68 (nI (mm + 1))) (updA (stR (updA (updA X2 19 yt509) 20 yr510) 47 pr2 (nI r508)) 2 K) at504 T 0 K (by omega) (by omega) hK (by omega)) (gV pw_1618 pw_1619 pw_1620 pw_1523 pw_1613) hV_X12_name 0 9 rfl rfl rfl rfl (Nat.le_of_ble_eq_true rfl) dX12_method_186 ⟨Nat.le_of_ble_eq_true rfl, Nat.le_of_ble_eq_true rfl⟩ ⟨Nat.le_of_ble_eq_true rfl, Nat.le_of_ble_eq_true rfl⟩ (fun v558 u556 H locs hw557 hP hD hS => ?_)
                  obtain ⟨at559, fa560, pl561⟩ := u556
                  obtain ⟨hw557, h562, h563, h564, h565, h566, h567, h568, h569⟩ := hw557
                  replace h562 : at504 ≤ at559 := h562
                  replace h563 : at559 ≤ T := h563
                  replace h564 : 0 ≤ fa560 := h564
                  replace h565 : fa560 ≤ 100 := h565
                  replace h566 : If (0 < 0) (at559 = at504 ∧ fa560 = 0) := h566
                  replace h567 : at559 ≤ at504 + 1 := h567
                  replace h568 : at504 + 1 ≤ at559 + fa560 := h568
                  replace h569 : If (fa560 = 0) (K at504 = 1) := h569
                  obtain rfl : v558 = some (.int (nI at504)) := hw557
                  have hP : va_P G.1 pCl (mW G h0 a (upd (upd (upd (upd (upd (upd (upd (upd (upd (upd (upd (upd (upd (upd (upd F 15 (nI fa560)) 16 pl561) 27 (nI nd)) 31 (nI wr507)) 34 (nI lz)) 35 (nI dc)) 44 (nI fd)) 49 (nI (md + 1))) 59 (nI bk)) 60 (nI pr2)) 64 (nI at559)) 65 ne0) 66 (nI lk)) 67 (nI mf)) 68 (nI (mm + 1))) (updA (stR (updA (updA X2 19 yt509) 20 yr510) 47 pr2 (nI r508)) 2 K)) _ := mW_to (F := F) (l1 := [(15, 0), (16, pl506), (27, (nI nd)), (31, (nI wr507)), (34, (nI lz)), (35, (nI dc)), (44, (nI fd)), (49, (nI (md + 1))), (59, (nI bk)), (60, (nI pr2)), (64, (nI at504)), (65, ne0), (66, (nI lk)), (67, (nI mf)), (68, (nI (mm + 1))), (15, (nI fa560)), (16, pl561), (64, (nI at559))]) (l2 := [(15, (nI fa560)), (16, pl561), (27, (nI nd)), (31, (nI wr507)), (34, (nI lz)), (35, (nI dc)), (44, (nI fd)), (49, (nI (md + 1))), (59, (nI bk)), (60, (nI pr2)), (64, (nI at559)), (65, ne0), (66, (nI lk)), (67, (nI mf)), (68, (nI (mm + 1)))]) (V := [(nI fa560), pl561, (nI nd), (nI wr507), (nI lz), (nI dc), (nI fd), (nI (md + 1)), (nI bk), (nI pr2), (nI at559), ne0, (nI lk), (nI mf), (nI (mm + 1)), (nI fa560), pl561, (nI at559), (nI fa560), pl561, (nI nd), (nI wr507), (nI lz), (nI dc), (nI fd), (nI (md + 1)), (nI bk), (nI pr2), (nI at559), ne0, (nI lk), (nI mf), (nI (mm + 1))]) rfl rfl (show (updA (updA (stR (updA (updA X2 19 yt509) 20 yr510) 47 pr2 (nI r508)) 2 K) 2 K) = (updA (stR (updA (updA X2 19 yt509) 20 yr510) 47 pr2 (nI r508)) 2 K) from updsA_eq2 (F := (stR (updA (updA X2 19 yt509) 20 yr510) 47 pr2 (nI r508))) (l1 := [(2, K), (2, K)]) (l2 := [(2, K)]) (V := [K, K, K]) rfl rfl) hP
                  have hD : va_D A (mW G h0 a (upd (upd (upd (upd (upd (upd (upd (upd (upd (upd (upd (upd (upd (upd (upd F 15 (nI fa560)) 16 pl561) 27 (nI nd)) 31 (nI wr507)) 34 (nI lz)) 35 (nI dc)) 44 (nI fd)) 49 (nI (md + 1))) 59 (nI bk)) 60 (nI pr2)) 64 (nI at559)) 65 ne0) 66 (nI lk)) 67 (nI mf)) 68 (nI (mm + 1))) (updA (stR (updA (updA X2 19 yt509) 20 yr510) 47 pr2 (nI r508)) 2 K)) := mW_D hD
                  refine W.widen (k := 0) (n := 0) (Nat.le_of_ble_eq_true rfl) (Nat.le_of_ble_eq_true rfl) ?_
                  refine W.eq (g2 := F0 m 189 ls [.int (nI at504)]) rfl ?_
                  rcases Nat.eq_zero_or_pos fa560 with e570 | e570
                  · subst e570
                    have hP : va_P G.1 pCl (mW G h0 a (upd (upd (upd (upd (upd (upd (upd (upd (upd (upd (upd (upd (upd (upd (upd F 15 0) 16 pl561) 27 (nI nd)) 31 (nI wr507)) 34 (nI lz)) 35 (nI dc)) 44 (nI fd)) 49 (nI (md + 1))) 59 (nI bk)) 60 (nI pr2)) 64 (nI at559)) 65 ne0) 66 (nI lk)) 67 (nI mf)) 68 (nI (mm + 1))) (updA (stR (updA (updA X2 19 yt509) 20 yr510) 47 pr2 (nI r508)) 2 K)) _ := hP
                    have hD : va_D A (mW G h0 a (upd (upd (upd (upd (upd (upd (upd (upd (upd (upd (upd (upd (upd (upd (upd F 15 0) 16 pl561) 27 (nI nd)) 31 (nI wr507)) 34 (nI lz)) 35 (nI dc)) 44 (nI fd)) 49 (nI (md + 1))) 59 (nI bk)) 60 (nI pr2)) 64 (nI at559)) 65 ne0) 66 (nI lk)) 67 (nI mf)) 68 (nI (mm + 1))) (updA (stR (updA (updA X2 19 yt509) 20 yr510) 47 pr2 (nI r508)) 2 K)) := mW_D hD
                    refine lv_istore (lv' := [(6, .int (nI at504)), (5, .int (nI mo)), (4, .int (nI md)), (3, .int (nI tn)), (2, .int y), (1, .int (nI d)), (0, .ref h0)]) hx hb dX12_method_189 hl (by decide) rfl (fun ls hl => ?_)
                    refine lv_aload_n hx hb dX12_method_191 rfl (lv_at hl 6 rfl) ?_
                    refine r_get (v := .int 0) hx hb hown hq hE hP 15 350 tFX12_15 (by decide) pw_1594 rfl dX12_method_192 ?_
                    refine lv_if_le (tgt := 199) hx hb dX12_method_195 (by decide) (fun c571 => ?_) (fun c571 => absurd c571 (by decide))
                    refine lv_aload_n hx hb dX12_method_199 rfl (lv_at hl 6 rfl) ?_
                    refine r_get (v := .ref (a 45)) hx hb hown hq hE hP 61 147 tFX12_61 (by decide) pw_1476 rfl dX12_method_200 ?_
                    refine lv_aload_n hx hb dX12_method_203 rfl (lv_at hl 6 rfl) ?_
                    refine r_get (v := .int (nI pr2)) hx hb hown hq hE hP 60 419 tFX12_60 (by decide) pw_1723 rfl dX12_method_204 ?_
                    refine lv_aload_n hx hb dX12_method_207 rfl (lv_at hl 6 rfl) ?_
                    refine r_get (v := .ref (a 5)) hx hb hown hq hE hP 8 25 tFX12_8 (by decide) pw_1435 rfl dX12_method_208 ?_
                    refine lv_iload hx hb dX12_method_211 (lv_at hl 0 rfl) ?_
                    refine r_ldi (f := ((stR (updA (updA X2 19 yt509) 20 yr510) 47 pr2 (nI r508)) 5)) (j := at504) hx hb hE hP 5 (ma_5 G a _) rfl (by omega) (by decide) dX12_method_213 ?_
                    obtain ⟨v574, h575, e576⟩ := hV at504 (by omega) (h569 rfl)
                    refine lv_topi (fun x572 e573 => ?_)
                    obtain rfl : x572 = nI v574 := e573.trans ((congrFun (hkq541 5 (by omega)) at504).trans e576)
                    refine r_sti (f := ((stR (updA (updA X2 19 yt509) 20 yr510) 47 pr2 (nI r508)) 45)) (j := pr2) hx hb hE hP hD hS 45 (ma_45 G a _) rfl (mas_45 G a _) (by omega) (by decide) dX12_method_214 (fun H locs hP hD hS => ?_)
                    have hP : va_P G.1 pCl (mW G h0 a (upd (upd (upd (upd (upd (upd (upd (upd (upd (upd (upd (upd (upd (upd (upd F 15 0) 16 pl561) 27 (nI nd)) 31 (nI wr507)) 34 (nI lz)) 35 (nI dc)) 44 (nI fd)) 49 (nI (md + 1))) 59 (nI bk)) 60 (nI pr2)) 64 (nI at559)) 65 ne0) 66 (nI lk)) 67 (nI mf)) 68 (nI (mm + 1))) (updA (stR (stR (updA (updA X2 19 yt509) 20 yr510) 47 pr2 (nI r508)) 45 pr2 (nI v574)) 2 K)) _ := hP
                    have hD : va_D A (mW G h0 a (upd (upd (upd (upd (upd (upd (upd (upd (upd (upd (upd (upd (upd (upd (upd F 15 0) 16 pl561) 27 (nI nd)) 31 (nI wr507)) 34 (nI lz)) 35 (nI dc)) 44 (nI fd)) 49 (nI (md + 1))) 59 (nI bk)) 60 (nI pr2)) 64 (nI at559)) 65 ne0) 66 (nI lk)) 67 (nI mf)) 68 (nI (mm + 1))) (updA (stR (stR (updA (updA X2 19 yt509) 20 yr510) 47 pr2 (nI r508)) 45 pr2 (nI v574)) 2 K)) := mW_D hD
                    have hkq577 : Kq 0 B (stR (stR (updA (updA X2 19 yt509) 20 yr510) 47 pr2 (nI r508)) 45 pr2 (nI v574)) := (Kq.st hkq541 (by omega))
                    have hce578 : (stR (stR (updA (updA X2 19 yt509) 20 yr510) 47 pr2 (nI r508)) 45 pr2 (nI v574)) 36 md = (nI d) := ((st_ne (by omega)).trans hce542)
                    have hce579 : (stR (stR (updA (updA X2 19 yt509) 20 yr510) 47 pr2 (nI r508)) 45 pr2 (nI v574)) 37 md = (nI v2) := ((st_ne (by omega)).trans hce543)
                    have hce580 : (stR (stR (updA (updA X2 19 yt509) 20 yr510) 47 pr2 (nI r508)) 45 pr2 (nI v574)) 38 md = (nI tn) := ((st_ne (by omega)).trans hce544)
                    have hce581 : (stR (stR (updA (updA X2 19 yt509) 20 yr510) 47 pr2 (nI r508)) 45 pr2 (nI v574)) 39 md = y := ((st_ne (by omega)).trans hce545)
                    have hce582 : (stR (stR (updA (updA X2 19 yt509) 20 yr510) 47 pr2 (nI r508)) 45 pr2 (nI v574)) 40 md = (nI pr) := ((st_ne (by omega)).trans hce546)
                    have hce583 : (stR (stR (updA (updA X2 19 yt509) 20 yr510) 47 pr2 (nI r508)) 45 pr2 (nI v574)) 41 md = (nI q2) := ((st_ne (by omega)).trans hce547)
                    have hce584 : (stR (stR (updA (updA X2 19 yt509) 20 yr510) 47 pr2 (nI r508)) 45 pr2 (nI v574)) 42 md = (-1) := ((st_ne (by omega)).trans hce548)
                    have hce585 : (stR (stR (updA (updA X2 19 yt509) 20 yr510) 47 pr2 (nI r508)) 45 pr2 (nI v574)) 43 md = (-1) := ((st_ne (by omega)).trans hce549)
                    have hce586 : (stR (stR (updA (updA X2 19 yt509) 20 yr510) 47 pr2 (nI r508)) 45 pr2 (nI v574)) 44 md = (-1) := ((st_ne (by omega)).trans hce550)
                    have hce587 : (stR (stR (updA (updA X2 19 yt509) 20 yr510) 47 pr2 (nI r508)) 45 pr2 (nI v574)) 47 pr2 = (nI r508) := ((st_ne (by omega)).trans hce555)
                    have hty588 : tkRow ((stR (stR (updA (updA X2 19 yt509) 20 yr510) 47 pr2 (nI r508)) 45 pr2 (nI v574)) 19) wr507 T := hty551
                    have hps589 : PS T nm wr507 lz dc fd md pr2 bk (stR (stR (updA (updA X2 19 yt509) 20 yr510) 47 pr2 (nI r508)) 45 pr2 (nI v574)) := (PS.same hps552 (by omega) (by omega) (fun r i q1 q2 q3 => st_ne (fun e => by rw [e.1, e.2] at q3; exact absurd (show pr2 < pr2 from q3) (by omega))))
                    have hfm590 : FrM K T wr507 (stR (stR (updA (updA X2 19 yt509) 20 yr510) 47 pr2 (nI r508)) 45 pr2 (nI v574)) nd md := (FrM.same hfm553 (by omega) (fun j i q1 q2 q3 => st_ne (by omega)) (fun i q => st_ne (by omega)))
                    have hlr591 : lsRow ((stR (stR (updA (updA X2 19 yt509) 20 yr510) 47 pr2 (nI r508)) 45 pr2 (nI v574)) 22) ((stR (stR (updA (updA X2 19 yt509) 20 yr510) 47 pr2 (nI r508)) 45 pr2 (nI v574)) 23) lz T := hlr554
                    have hce592 : (stR (stR (updA (updA X2 19 yt509) 20 yr510) 47 pr2 (nI r508)) 45 pr2 (nI v574)) 45 pr2 = (nI v574) := st_eq
                    refine lv_aload_n hx hb dX12_method_215 rfl (lv_at hl 6 rfl) ?_
                    refine r_get (v := .ref (a 46)) hx hb hown hq hE hP 62 150 tFX12_62 (by decide) pw_1477 rfl dX12_method_216 ?_
                    refine lv_aload_n hx hb dX12_method_219 rfl (lv_at hl 6 rfl) ?_
                    refine r_get (v := .int (nI pr2)) hx hb hown hq hE hP 60 419 tFX12_60 (by decide) pw_1723 rfl dX12_method_220 ?_
                    refine lv_iload hx hb dX12_method_223 (lv_at hl 0 rfl) ?_
                    refine r_sti (f := ((stR (stR (updA (updA X2 19 yt509) 20 yr510) 47 pr2 (nI r508)) 45 pr2 (nI v574)) 46)) (j := pr2) hx hb hE hP hD hS 46 (ma_46 G a _) rfl (mas_46 G a _) (by omega) (by decide) dX12_method_225 (fun H locs hP hD hS => ?_)
                    have hP : va_P G.1 pCl (mW G h0 a (upd (upd (upd (upd (upd (upd (upd (upd (upd (upd (upd (upd (upd (upd (upd F 15 0) 16 pl561) 27 (nI nd)) 31 (nI wr507)) 34 (nI lz)) 35 (nI dc)) 44 (nI fd)) 49 (nI (md + 1))) 59 (nI bk)) 60 (nI pr2)) 64 (nI at559)) 65 ne0) 66 (nI lk)) 67 (nI mf)) 68 (nI (mm + 1))) (updA (stR (stR (stR (updA (updA X2 19 yt509) 20 yr510) 47 pr2 (nI r508)) 45 pr2 (nI v574)) 46 pr2 (nI at504)) 2 K)) _ := hP
                    have hD : va_D A (mW G h0 a (upd (upd (upd (upd (upd (upd (upd (upd (upd (upd (upd (upd (upd (upd (upd F 15 0) 16 pl561) 27 (nI nd)) 31 (nI wr507)) 34 (nI lz)) 35 (nI dc)) 44 (nI fd)) 49 (nI (md + 1))) 59 (nI bk)) 60 (nI pr2)) 64 (nI at559)) 65 ne0) 66 (nI lk)) 67 (nI mf)) 68 (nI (mm + 1))) (updA (stR (stR (stR (updA (updA X2 19 yt509) 20 yr510) 47 pr2 (nI r508)) 45 pr2 (nI v574)) 46 pr2 (nI at504)) 2 K)) := mW_D hD
                    have hkq593 : Kq 0 B (stR (stR (stR (updA (updA X2 19 yt509) 20 yr510) 47 pr2 (nI r508)) 45 pr2 (nI v574)) 46 pr2 (nI at504)) := (Kq.st hkq577 (by omega))
                    have hce594 : (stR (stR (stR (updA (updA X2 19 yt509) 20 yr510) 47 pr2 (nI r508)) 45 pr2 (nI v574)) 46 pr2 (nI at504)) 36 md = (nI d) := ((st_ne (by omega)).trans hce578)
                    have hce595 : (stR (stR (stR (updA (updA X2 19 yt509) 20 yr510) 47 pr2 (nI r508)) 45 pr2 (nI v574)) 46 pr2 (nI at504)) 37 md = (nI v2) := ((st_ne (by omega)).trans hce579)
                    have hce596 : (stR (stR (stR (updA (updA X2 19 yt509) 20 yr510) 47 pr2 (nI r508)) 45 pr2 (nI v574)) 46 pr2 (nI at504)) 38 md = (nI tn) := ((st_ne (by omega)).trans hce580)
                    have hce597 : (stR (stR (stR (updA (updA X2 19 yt509) 20 yr510) 47 pr2 (nI r508)) 45 pr2 (nI v574)) 46 pr2 (nI at504)) 39 md = y := ((st_ne (by omega)).trans hce581)
                    have hce598 : (stR (stR (stR (updA (updA X2 19 yt509) 20 yr510) 47 pr2 (nI r508)) 45 pr2 (nI v574)) 46 pr2 (nI at504)) 40 md = (nI pr) := ((st_ne (by omega)).trans hce582)
                    have hce599 : (stR (stR (stR (updA (updA X2 19 yt509) 20 yr510) 47 pr2 (nI r508)) 45 pr2 (nI v574)) 46 pr2 (nI at504)) 41 md = (nI q2) := ((st_ne (by omega)).trans hce583)
                    have hce600 : (stR (stR (stR (updA (updA X2 19 yt509) 20 yr510) 47 pr2 (nI r508)) 45 pr2 (nI v574)) 46 pr2 (nI at504)) 42 md = (-1) := ((st_ne (by omega)).trans hce584)
                    have hce601 : (stR (stR (stR (updA (updA X2 19 yt509) 20 yr510) 47 pr2 (nI r508)) 45 pr2 (nI v574)) 46 pr2 (nI at504)) 43 md = (-1) := ((st_ne (by omega)).trans hce585)
                    have hce602 : (stR (stR (stR (updA (updA X2 19 yt509) 20 yr510) 47 pr2 (nI r508)) 45 pr2 (nI v574)) 46 pr2 (nI at504)) 44 md = (-1) := ((st_ne (by omega)).trans hce586)
                    have hce603 : (stR (stR (stR (updA (updA X2 19 yt509) 20 yr510) 47 pr2 (nI r508)) 45 pr2 (nI v574)) 46 pr2 (nI at504)) 47 pr2 = (nI r508) := ((st_ne (by omega)).trans hce587)
                    have hce604 : (stR (stR (stR (updA (updA X2 19 yt509) 20 yr510) 47 pr2 (nI r508)) 45 pr2 (nI v574)) 46 pr2 (nI at504)) 45 pr2 = (nI v574) := ((st_ne (by omega)).trans hce592)
                    have hty605 : tkRow ((stR (stR (stR (updA (updA X2 19 yt509) 20 yr510) 47 pr2 (nI r508)) 45 pr2 (nI v574)) 46 pr2 (nI at504)) 19) wr507 T := hty588
                    have hps606 : PS T nm wr507 lz dc fd md pr2 bk (stR (stR (stR (updA (updA X2 19 yt509) 20 yr510) 47 pr2 (nI r508)) 45 pr2 (nI v574)) 46 pr2 (nI at504)) := (PS.same hps589 (by omega) (by omega) (fun r i q1 q2 q3 => st_ne (fun e => by rw [e.1, e.2] at q3; exact absurd (show pr2 < pr2 from q3) (by omega))))
                    have hfm607 : FrM K T wr507 (stR (stR (stR (updA (updA X2 19 yt509) 20 yr510) 47 pr2 (nI r508)) 45 pr2 (nI v574)) 46 pr2 (nI at504)) nd md := (FrM.same hfm590 (by omega) (fun j i q1 q2 q3 => st_ne (by omega)) (fun i q => st_ne (by omega)))
                    have hlr608 : lsRow ((stR (stR (stR (updA (updA X2 19 yt509) 20 yr510) 47 pr2 (nI r508)) 45 pr2 (nI v574)) 46 pr2 (nI at504)) 22) ((stR (stR (stR (updA (updA X2 19 yt509) 20 yr510) 47 pr2 (nI r508)) 45 pr2 (nI v574)) 46 pr2 (nI at504)) 23) lz T := hlr591
                    have hce609 : (stR (stR (stR (updA (updA X2 19 yt509) 20 yr510) 47 pr2 (nI r508)) 45 pr2 (nI v574)) 46 pr2 (nI at504)) 46 pr2 = (nI at504) := st_eq
                    refine lv_aload_n hx hb dX12_method_226 rfl (lv_at hl 6 rfl) ?_
                    refine lv_dup hx hb dX12_method_227 rfl ?_
                    refine r_get (v := .int (nI pr2)) hx hb hown hq hE hP 60 419 tFX12_60 (by decide) pw_1723 rfl dX12_method_228 ?_
                    refine lv_iconst (v := 1) hx hb dX12_method_231 (by decide) ?_
                    refine lv_iadd hx hb dX12_method_232 ?_
                    refine lv_topi (fun x610 e611 => ?_)
                    obtain rfl : x610 = nI (pr2 + 1) := e611.trans (nI_add (pr2) (1))
                    refine r_put (v := (nI (pr2 + 1))) (ty := .int) hx hb hown hq hE hP hD hS 60 419 tFX12_60 (by decide) pw_1723 (by decide) rfl rfl (ms_60 a _ _) dX12_method_233 (fun H locs hP hD hS => ?_)
                    refine lv_aload_n hx hb dX12_method_236 rfl (lv_at hl 6 rfl) ?_
                    refine r_get (v := .ref (a 41)) hx hb hown hq hE hP 55 135 tFX12_55 (by decide) pw_1472 rfl dX12_method_237 ?_
                    refine lv_iload hx hb dX12_method_240 (lv_at hl 2 rfl) ?_
                    refine lv_dup2_11 hx hb dX12_method_242 rfl rfl ?_
                    refine r_ldi (f := ((stR (stR (stR (updA (updA X2 19 yt509) 20 yr510) 47 pr2 (nI r508)) 45 pr2 (nI v574)) 46 pr2 (nI at504)) 41)) (j := md) hx hb hE hP 41 (ma_41 G a _) rfl (by omega) (by decide) dX12_method_243 ?_
                    refine lv_topi (fun x612 e613 => ?_)
                    obtain rfl : x612 = (nI q2) := e613.trans hce599
                    refine lv_iconst (v := 1) hx hb dX12_method_244 (by decide) ?_
                    refine lv_iadd hx hb dX12_method_245 ?_
                    refine lv_topi (fun x614 e615 => ?_)
                    obtain rfl : x614 = nI (q2 + 1) := e615.trans (nI_add (q2) (1))
                    refine r_sti (f := ((stR (stR (stR (updA (updA X2 19 yt509) 20 yr510) 47 pr2 (nI r508)) 45 pr2 (nI v574)) 46 pr2 (nI at504)) 41)) (j := md) hx hb hE hP hD hS 41 (ma_41 G a _) rfl (mas_41 G a _) (by omega) (by decide) dX12_method_246 (fun H locs hP hD hS => ?_)
                    have hP : va_P G.1 pCl (mW G h0 a (upd (upd (upd (upd (upd (upd (upd (upd (upd (upd (upd (upd (upd (upd (upd F 15 0) 16 pl561) 27 (nI nd)) 31 (nI wr507)) 34 (nI lz)) 35 (nI dc)) 44 (nI fd)) 49 (nI (md + 1))) 59 (nI bk)) 60 (nI (pr2 + 1))) 64 (nI at559)) 65 ne0) 66 (nI lk)) 67 (nI mf)) 68 (nI (mm + 1))) (updA (stR (stR (stR (stR (updA (updA X2 19 yt509) 20 yr510) 47 pr2 (nI r508)) 45 pr2 (nI v574)) 46 pr2 (nI at504)) 41 md (nI (q2 + 1))) 2 K)) _ := hP
                    have hD : va_D A (mW G h0 a (upd (upd (upd (upd (upd (upd (upd (upd (upd (upd (upd (upd (upd (upd (upd F 15 0) 16 pl561) 27 (nI nd)) 31 (nI wr507)) 34 (nI lz)) 35 (nI dc)) 44 (nI fd)) 49 (nI (md + 1))) 59 (nI bk)) 60 (nI (pr2 + 1))) 64 (nI at559)) 65 ne0) 66 (nI lk)) 67 (nI mf)) 68 (nI (mm + 1))) (updA (stR (stR (stR (stR (updA (updA X2 19 yt509) 20 yr510) 47 pr2 (nI r508)) 45 pr2 (nI v574)) 46 pr2 (nI at504)) 41 md (nI (q2 + 1))) 2 K)) := mW_D hD
                    have hkq616 : Kq 0 B (stR (stR (stR (stR (updA (updA X2 19 yt509) 20 yr510) 47 pr2 (nI r508)) 45 pr2 (nI v574)) 46 pr2 (nI at504)) 41 md (nI (q2 + 1))) := (Kq.st hkq593 (by omega))
                    have hce617 : (stR (stR (stR (stR (updA (updA X2 19 yt509) 20 yr510) 47 pr2 (nI r508)) 45 pr2 (nI v574)) 46 pr2 (nI at504)) 41 md (nI (q2 + 1))) 36 md = (nI d) := ((st_ne (by omega)).trans hce594)
                    have hce618 : (stR (stR (stR (stR (updA (updA X2 19 yt509) 20 yr510) 47 pr2 (nI r508)) 45 pr2 (nI v574)) 46 pr2 (nI at504)) 41 md (nI (q2 + 1))) 37 md = (nI v2) := ((st_ne (by omega)).trans hce595)
                    have hce619 : (stR (stR (stR (stR (updA (updA X2 19 yt509) 20 yr510) 47 pr2 (nI r508)) 45 pr2 (nI v574)) 46 pr2 (nI at504)) 41 md (nI (q2 + 1))) 38 md = (nI tn) := ((st_ne (by omega)).trans hce596)
                    have hce620 : (stR (stR (stR (stR (updA (updA X2 19 yt509) 20 yr510) 47 pr2 (nI r508)) 45 pr2 (nI v574)) 46 pr2 (nI at504)) 41 md (nI (q2 + 1))) 39 md = y := ((st_ne (by omega)).trans hce597)
                    have hce621 : (stR (stR (stR (stR (updA (updA X2 19 yt509) 20 yr510) 47 pr2 (nI r508)) 45 pr2 (nI v574)) 46 pr2 (nI at504)) 41 md (nI (q2 + 1))) 40 md = (nI pr) := ((st_ne (by omega)).trans hce598)
                    have hce622 : (stR (stR (stR (stR (updA (updA X2 19 yt509) 20 yr510) 47 pr2 (nI r508)) 45 pr2 (nI v574)) 46 pr2 (nI at504)) 41 md (nI (q2 + 1))) 41 md = (nI (q2 + 1)) := st_eq
                    have hce623 : (stR (stR (stR (stR (updA (updA X2 19 yt509) 20 yr510) 47 pr2 (nI r508)) 45 pr2 (nI v574)) 46 pr2 (nI at504)) 41 md (nI (q2 + 1))) 42 md = (-1) := ((st_ne (by omega)).trans hce600)
                    have hce624 : (stR (stR (stR (stR (updA (updA X2 19 yt509) 20 yr510) 47 pr2 (nI r508)) 45 pr2 (nI v574)) 46 pr2 (nI at504)) 41 md (nI (q2 + 1))) 43 md = (-1) := ((st_ne (by omega)).trans hce601)
                    have hce625 : (stR (stR (stR (stR (updA (updA X2 19 yt509) 20 yr510) 47 pr2 (nI r508)) 45 pr2 (nI v574)) 46 pr2 (nI at504)) 41 md (nI (q2 + 1))) 44 md = (-1) := ((st_ne (by omega)).trans hce602)
                    have hce626 : (stR (stR (stR (stR (updA (updA X2 19 yt509) 20 yr510) 47 pr2 (nI r508)) 45 pr2 (nI v574)) 46 pr2 (nI at504)) 41 md (nI (q2 + 1))) 47 pr2 = (nI r508) := ((st_ne (by omega)).trans hce603)
                    have hce627 : (stR (stR (stR (stR (updA (updA X2 19 yt509) 20 yr510) 47 pr2 (nI r508)) 45 pr2 (nI v574)) 46 pr2 (nI at504)) 41 md (nI (q2 + 1))) 45 pr2 = (nI v574) := ((st_ne (by omega)).trans hce604)
                    have hce628 : (stR (stR (stR (stR (updA (updA X2 19 yt509) 20 yr510) 47 pr2 (nI r508)) 45 pr2 (nI v574)) 46 pr2 (nI at504)) 41 md (nI (q2 + 1))) 46 pr2 = (nI at504) := ((st_ne (by omega)).trans hce609)
                    have hty629 : tkRow ((stR (stR (stR (stR (updA (updA X2 19 yt509) 20 yr510) 47 pr2 (nI r508)) 45 pr2 (nI v574)) 46 pr2 (nI at504)) 41 md (nI (q2 + 1))) 19) wr507 T := hty605
                    have hps630 : PS T nm wr507 lz dc fd md pr2 bk (stR (stR (stR (stR (updA (updA X2 19 yt509) 20 yr510) 47 pr2 (nI r508)) 45 pr2 (nI v574)) 46 pr2 (nI at504)) 41 md (nI (q2 + 1))) := (PS.same hps606 (by omega) (by omega) (fun r i q1 q2 q3 => st_ne (fun e => by rw [e.1, e.2] at q3; exact absurd (show md < md from q3) (by omega))))
                    have hfm631 : FrM K T wr507 (stR (stR (stR (stR (updA (updA X2 19 yt509) 20 yr510) 47 pr2 (nI r508)) 45 pr2 (nI v574)) 46 pr2 (nI at504)) 41 md (nI (q2 + 1))) nd md := (FrM.same hfm607 (by omega) (fun j i q1 q2 q3 => st_ne (by omega)) (fun i q => st_ne (by omega)))
                    have hlr632 : lsRow ((stR (stR (stR (stR (updA (updA X2 19 yt509) 20 yr510) 47 pr2 (nI r508)) 45 pr2 (nI v574)) 46 pr2 (nI at504)) 41 md (nI (q2 + 1))) 22) ((stR (stR (stR (stR (updA (updA X2 19 yt509) 20 yr510) 47 pr2 (nI r508)) 45 pr2 (nI v574)) 46 pr2 (nI at504)) 41 md (nI (q2 + 1))) 23) lz T := hlr608
                    refine lv_aload_n hx hb dX12_method_247 rfl (lv_at hl 6 rfl) ?_
                    refine lv_bipush (v := 44) hx hb dX12_method_248 (by decide) ?_
                    have hP : va_P G.1 pCl (mW G h0 a (upd (upd (upd (upd (upd (upd (upd (upd (upd (upd (upd (upd (upd (upd (upd (upd (upd F 15 0) 16 pl561) 27 (nI nd)) 31 (nI wr507)) 34 (nI lz)) 35 (nI dc)) 44 (nI fd)) 49 (nI (md + 1))) 59 (nI bk)) 60 (nI (pr2 + 1))) 64 (nI at559)) 65 ne0) 66 (nI lk)) 67 (nI mf)) 68 (nI (mm + 1))) 15 (nI 0)) 64 (nI at559)) (updA (updA (stR (stR (stR (stR (updA (updA X2 19 yt509) 20 yr510) 47 pr2 (nI r508)) 45 pr2 (nI v574)) 46 pr2 (nI at504)) 41 md (nI (q2 + 1))) 2 K) 2 K)) _ := mW_to (F := F) (l1 := [(15, 0), (16, pl561), (27, (nI nd)), (31, (nI wr507)), (34, (nI lz)), (35, (nI dc)), (44, (nI fd)), (49, (nI (md + 1))), (59, (nI bk)), (60, (nI (pr2 + 1))), (64, (nI at559)), (65, ne0), (66, (nI lk)), (67, (nI mf)), (68, (nI (mm + 1)))]) (l2 := [(15, 0), (16, pl561), (27, (nI nd)), (31, (nI wr507)), (34, (nI lz)), (35, (nI dc)), (44, (nI fd)), (49, (nI (md + 1))), (59, (nI bk)), (60, (nI (pr2 + 1))), (64, (nI at559)), (65, ne0), (66, (nI lk)), (67, (nI mf)), (68, (nI (mm + 1))), (15, (nI 0)), (64, (nI at559))]) (V := [(nI 0), pl561, (nI nd), (nI wr507), (nI lz), (nI dc), (nI fd), (nI (md + 1)), (nI bk), (nI (pr2 + 1)), (nI at559), ne0, (nI lk), (nI mf), (nI (mm + 1)), (nI 0), pl561, (nI nd), (nI wr507), (nI lz), (nI dc), (nI fd), (nI (md + 1)), (nI bk), (nI (pr2 + 1)), (nI at559), ne0, (nI lk), (nI mf), (nI (mm + 1)), (nI 0), (nI at559)]) rfl rfl (show (updA (stR (stR (stR (stR (updA (updA X2 19 yt509) 20 yr510) 47 pr2 (nI r508)) 45 pr2 (nI v574)) 46 pr2 (nI at504)) 41 md (nI (q2 + 1))) 2 K) = (updA (updA (stR (stR (stR (stR (updA (updA X2 19 yt509) 20 yr510) 47 pr2 (nI r508)) 45 pr2 (nI v574)) 46 pr2 (nI at504)) 41 md (nI (q2 + 1))) 2 K) 2 K) from updsA_eq2 (F := (stR (stR (stR (stR (updA (updA X2 19 yt509) 20 yr510) 47 pr2 (nI r508)) 45 pr2 (nI v574)) 46 pr2 (nI at504)) 41 md (nI (q2 + 1)))) (l1 := [(2, K)]) (l2 := [(2, K), (2, K)]) (V := [K, K, K]) rfl rfl) hP
                    have hD : va_D A (mW G h0 a (upd (upd (upd (upd (upd (upd (upd (upd (upd (upd (upd (upd (upd (upd (upd (upd (upd F 15 0) 16 pl561) 27 (nI nd)) 31 (nI wr507)) 34 (nI lz)) 35 (nI dc)) 44 (nI fd)) 49 (nI (md + 1))) 59 (nI bk)) 60 (nI (pr2 + 1))) 64 (nI at559)) 65 ne0) 66 (nI lk)) 67 (nI mf)) 68 (nI (mm + 1))) 15 (nI 0)) 64 (nI at559)) (updA (updA (stR (stR (stR (stR (updA (updA X2 19 yt509) 20 yr510) 47 pr2 (nI r508)) 45 pr2 (nI v574)) 46 pr2 (nI at504)) 41 md (nI (q2 + 1))) 2 K) 2 K)) := mW_D hD
                    refine pc_V0 (G := G) (As := [.int 44]) (rest := []) hx hb hml hown hq hE hX pX0_al hP hD hS hA hl.1 (R_may l G h0 a (upd (upd (upd (upd (upd (upd (upd (upd (upd (upd (upd (upd (upd (upd (upd F 15 0) 16 pl561) 27 (nI nd)) 31 (nI wr507)) 34 (nI lz)) 35 (nI dc)) 44 (nI fd)) 49 (nI (md + 1))) 59 (nI bk)) 60 (nI (pr2 + 1))) 64 (nI at559)) 65 ne0) 66 (nI lk)) 67 (nI mf)) 68 (nI (mm + 1))) (updA (stR (stR (stR (stR (updA (updA X2 19 yt509) 20 yr510) 47 pr2 (nI r508)) 45 pr2 (nI v574)) 46 pr2 (nI at504)) 41 md (nI (q2 + 1))) 2 K) at559 T 0 K 44 (by omega) (by omega) hK (by omega) (by decide) (by decide)) (gV pw_1621 pw_1622 pw_1623 pw_1523 pw_1605) hV_X12_may 0 9 rfl rfl rfl rfl (Nat.le_of_ble_eq_true rfl) dX12_method_250 ⟨Nat.le_of_ble_eq_true rfl, Nat.le_of_ble_eq_true rfl⟩ ⟨Nat.le_of_ble_eq_true rfl, Nat.le_of_ble_eq_true rfl⟩ (fun v635 u633 H locs hw634 hP hD hS => ?_)
                    obtain ⟨at636, r637⟩ := u633
                    obtain ⟨hw634, h638, h639, h640, h641, h642, h643⟩ := hw634
                    replace h638 : r637 ≤ 1 := h638
                    replace h639 : 0 + 100 * r637 ≤ 100 := h639
                    replace h640 : at636 = at559 + r637 := h640
                    replace h641 : at636 ≤ T := h641
                    replace h642 : If (r637 = 1) (K at559 = 44) := h642
                    replace h643 : If (r637 = 0) (0 = 0 → ¬ K at559 = 44) := h643
                    obtain rfl : v635 = some (.int (nI r637)) := hw634
                    have hP : va_P G.1 pCl (mW G h0 a (upd (upd (upd (upd (upd (upd (upd (upd (upd (upd (upd (upd (upd (upd (upd F 15 0) 16 pl561) 27 (nI nd)) 31 (nI wr507)) 34 (nI lz)) 35 (nI dc)) 44 (nI fd)) 49 (nI (md + 1))) 59 (nI bk)) 60 (nI (pr2 + 1))) 64 (nI at636)) 65 ne0) 66 (nI lk)) 67 (nI mf)) 68 (nI (mm + 1))) (updA (stR (stR (stR (stR (updA (updA X2 19 yt509) 20 yr510) 47 pr2 (nI r508)) 45 pr2 (nI v574)) 46 pr2 (nI at504)) 41 md (nI (q2 + 1))) 2 K)) _ := mW_to (F := F) (l1 := [(15, 0), (16, pl561), (27, (nI nd)), (31, (nI wr507)), (34, (nI lz)), (35, (nI dc)), (44, (nI fd)), (49, (nI (md + 1))), (59, (nI bk)), (60, (nI (pr2 + 1))), (64, (nI at559)), (65, ne0), (66, (nI lk)), (67, (nI mf)), (68, (nI (mm + 1))), (15, (nI 0)), (64, (nI at636))]) (l2 := [(15, 0), (16, pl561), (27, (nI nd)), (31, (nI wr507)), (34, (nI lz)), (35, (nI dc)), (44, (nI fd)), (49, (nI (md + 1))), (59, (nI bk)), (60, (nI (pr2 + 1))), (64, (nI at636)), (65, ne0), (66, (nI lk)), (67, (nI mf)), (68, (nI (mm + 1)))]) (V := [0, pl561, (nI nd), (nI wr507), (nI lz), (nI dc), (nI fd), (nI (md + 1)), (nI bk), (nI (pr2 + 1)), (nI at636), ne0, (nI lk), (nI mf), (nI (mm + 1)), 0, (nI at636), 0, pl561, (nI nd), (nI wr507), (nI lz), (nI dc), (nI fd), (nI (md + 1)), (nI bk), (nI (pr2 + 1)), (nI at636), ne0, (nI lk), (nI mf), (nI (mm + 1))]) rfl rfl (show (updA (updA (stR (stR (stR (stR (updA (updA X2 19 yt509) 20 yr510) 47 pr2 (nI r508)) 45 pr2 (nI v574)) 46 pr2 (nI at504)) 41 md (nI (q2 + 1))) 2 K) 2 K) = (updA (stR (stR (stR (stR (updA (updA X2 19 yt509) 20 yr510) 47 pr2 (nI r508)) 45 pr2 (nI v574)) 46 pr2 (nI at504)) 41 md (nI (q2 + 1))) 2 K) from updsA_eq2 (F := (stR (stR (stR (stR (updA (updA X2 19 yt509) 20 yr510) 47 pr2 (nI r508)) 45 pr2 (nI v574)) 46 pr2 (nI at504)) 41 md (nI (q2 + 1)))) (l1 := [(2, K), (2, K)]) (l2 := [(2, K)]) (V := [K, K, K]) rfl rfl) hP
                    have hD : va_D A (mW G h0 a (upd (upd (upd (upd (upd (upd (upd (upd (upd (upd (upd (upd (upd (upd (upd F 15 0) 16 pl561) 27 (nI nd)) 31 (nI wr507)) 34 (nI lz)) 35 (nI dc)) 44 (nI fd)) 49 (nI (md + 1))) 59 (nI bk)) 60 (nI (pr2 + 1))) 64 (nI at636)) 65 ne0) 66 (nI lk)) 67 (nI mf)) 68 (nI (mm + 1))) (updA (stR (stR (stR (stR (updA (updA X2 19 yt509) 20 yr510) 47 pr2 (nI r508)) 45 pr2 (nI v574)) 46 pr2 (nI at504)) 41 md (nI (q2 + 1))) 2 K)) := mW_D hD
                    refine W.widen (k := 0) (n := 0) (Nat.le_of_ble_eq_true rfl) (Nat.le_of_ble_eq_true rfl) ?_
                    refine W.eq (g2 := F0 m 253 ls [.int (nI r637)]) rfl ?_
                    refine lv_istore (lv' := [(5, .int (nI r637)), (6, .int (nI at504)), (4, .int (nI md)), (3, .int (nI tn)), (2, .int y), (1, .int (nI d)), (0, .ref h0)]) hx hb dX12_method_253 hl (by decide) rfl (fun ls hl => ?_)
                    refine lv_goto (tgt := 135) hx hb dX12_method_255 (by decide) ?_
                    have hP : va_P G.1 pCl (mW G h0 a (upd (upd (upd (upd (upd (upd (upd (upd (upd (upd (upd (upd (upd (upd (upd F 15 0) 16 pl561) 27 (nI nd)) 31 (nI wr507)) 34 (nI lz)) 35 (nI dc)) 44 (nI fd)) 49 (nI (md + 1))) 59 (nI bk)) 60 (nI (pr2 + 1))) 64 (nI at636)) 65 ne0) 66 (nI lk)) 67 (nI mf)) 68 (nI (mm + 1))) (updA (stR (stR (stR (stR (updA (updA X2 19 yt509) 20 yr510) 47 pr2 (nI r508)) 45 pr2 (nI v574)) 46 pr2 (nI at504)) 41 md (nI (q2 + 1))) 2 K)) _ := hP
                    have hD : va_D A (mW G h0 a (upd (upd (upd (upd (upd (upd (upd (upd (upd (upd (upd (upd (upd (upd (upd F 15 0) 16 pl561) 27 (nI nd)) 31 (nI wr507)) 34 (nI lz)) 35 (nI dc)) 44 (nI fd)) 49 (nI (md + 1))) 59 (nI bk)) 60 (nI (pr2 + 1))) 64 (nI at636)) 65 ne0) 66 (nI lk)) 67 (nI mf)) 68 (nI (mm + 1))) (updA (stR (stR (stR (stR (updA (updA X2 19 yt509) 20 yr510) 47 pr2 (nI r508)) 45 pr2 (nI v574)) 46 pr2 (nI at504)) 41 md (nI (q2 + 1))) 2 K)) := mW_D hD
                    exact ih_o at636 wr507 (pr2 + 1) (q2 + 1) r637 v2 pl561 (stR (stR (stR (stR (updA (updA X2 19 yt509) 20 yr510) 47 pr2 (nI r508)) 45 pr2 (nI v574)) 46 pr2 (nI at504)) 41 md (nI (q2 + 1))) _ _ _ (by omega) (by omega) (by omega) (by omega) (by omega) (by omega) (by omega) (by omega) (by omega) (by omega) hkq616 (PS.par hps630 hce628 (by omega) hce626 (by omega)) hfm631 hty629 hlr632 hce617 hce618 hce619 hce620 hce621 hce622 hce623 hce624 hce625 hP hD hS (lv_sub hl [0, 2, 3, 4, 5, 6] rfl)
                  · have e570 := e570
                    refine lv_istore (lv' := [(6, .int (nI at504)), (5, .int (nI mo)), (4, .int (nI md)), (3, .int (nI tn)), (2, .int y), (1, .int (nI d)), (0, .ref h0)]) hx hb dX12_method_189 hl (by decide) rfl (fun ls hl => ?_)
                    refine lv_aload_n hx hb dX12_method_191 rfl (lv_at hl 6 rfl) ?_
                    refine r_get (v := .int (nI fa560)) hx hb hown hq hE hP 15 350 tFX12_15 (by decide) pw_1594 rfl dX12_method_192 ?_
                    refine lv_if_le (tgt := 199) hx hb dX12_method_195 (by decide) (fun c644 => (by have n645 : fa560 ≤ 0 := (nI_leI (a := fa560) (b := 0) (by omega) (by omega)).mp c644; omega)) (fun c644 => ?_)
                    have hz646 : at0 ≤ at559 := (by omega)
                    have hz647 : at559 ≤ T := (by omega)
                    have hz648 : fa560 ≤ 100 := (by omega)
                    have hz649 : at0 + 1 ≤ at559 + fa560 := (by omega)
                    have hz650 : Kq 0 B (stR (updA (updA X2 19 yt509) 20 yr510) 47 pr2 (nI r508)) := hkq541
                    have hz651 : If (fa560 = 0) ((nd ≤ 2 * at559 ∧ wr507 ≤ at559 ∧ lz ≤ at559 ∧ pr2 ≤ at559 ∧ dc ≤ 37 ∧ dc ≤ dc ∧ bk ≤ (md + 1) ∧ wr ≤ wr507 ∧ lz ≤ lz) ∧ ((md + 1) + 240 ≤ 30 * dc + (mm + 1) ∧ fd + 160 ≤ 20 * dc + mf ∧ mf ≤ 20 ∧ (mm + 1) ≤ 30 ∧ dc = dc) ∧ PS T nm wr507 lz dc fd (md + 1) pr2 bk (stR (updA (updA X2 19 yt509) 20 yr510) 47 pr2 (nI r508)) ∧ FrM K T wr507 (stR (updA (updA X2 19 yt509) 20 yr510) 47 pr2 (nI r508)) nd (md + 1) ∧ tkRow ((stR (updA (updA X2 19 yt509) 20 yr510) 47 pr2 (nI r508)) 19) wr507 T ∧ lsRow ((stR (updA (updA X2 19 yt509) 20 yr510) 47 pr2 (nI r508)) 22) ((stR (updA (updA X2 19 yt509) 20 yr510) 47 pr2 (nI r508)) 23) lz T) := (fun e => absurd e (by omega))
                    have hP : va_P G.1 pCl (mW G h0 a (upd (upd (upd (upd (upd (upd (upd (upd (upd (upd (upd (upd (upd (upd (upd F 15 (nI fa560)) 16 pl561) 27 (nI nd)) 31 (nI wr507)) 34 (nI lz)) 35 (nI dc)) 44 (nI fd)) 49 (nI (md + 1))) 59 (nI bk)) 60 (nI pr2)) 64 (nI at559)) 65 ne0) 66 (nI lk)) 67 (nI mf)) 68 (nI (mm + 1))) (updA (stR (updA (updA X2 19 yt509) 20 yr510) 47 pr2 (nI r508)) 2 K)) _ := hP
                    have hD : va_D A (mW G h0 a (upd (upd (upd (upd (upd (upd (upd (upd (upd (upd (upd (upd (upd (upd (upd F 15 (nI fa560)) 16 pl561) 27 (nI nd)) 31 (nI wr507)) 34 (nI lz)) 35 (nI dc)) 44 (nI fd)) 49 (nI (md + 1))) 59 (nI bk)) 60 (nI pr2)) 64 (nI at559)) 65 ne0) 66 (nI lk)) 67 (nI mf)) 68 (nI (mm + 1))) (updA (stR (updA (updA X2 19 yt509) 20 yr510) 47 pr2 (nI r508)) 2 K)) := mW_D hD
                    exact W.vret hx hb hr (fun t9 ht9 hW9 => ⟨⟨_, (at559, fa560, pl561, nd, wr507, lz, dc, fd, (md + 1), pr2, bk, mf, (mm + 1), ne0, (stR (updA (updA X2 19 yt509) 20 yr510) 47 pr2 (nI r508))), rfl, ⟨rfl, hz646, hz647, hz648, hz649, hz650, hz651⟩, by rw [ht9]; exact hP, hD⟩, hS.F ht9⟩) hS.2.2 dX12_method_198
                · have e526 := e526
                  have hkq652 : Kq 0 B (updA (updA X2 19 yt509) 20 yr510) := (Kq.row (Kq.row hkq2 (by omega)) (by omega))
                  have hce653 : (updA (updA X2 19 yt509) 20 yr510) 36 md = (nI d) := hc36
                  have hce654 : (updA (updA X2 19 yt509) 20 yr510) 37 md = (nI v2) := hc37
                  have hce655 : (updA (updA X2 19 yt509) 20 yr510) 38 md = (nI tn) := hc38
                  have hce656 : (updA (updA X2 19 yt509) 20 yr510) 39 md = y := hc39
                  have hce657 : (updA (updA X2 19 yt509) 20 yr510) 40 md = (nI pr) := hc40
                  have hce658 : (updA (updA X2 19 yt509) 20 yr510) 41 md = (nI q2) := hc41
                  have hce659 : (updA (updA X2 19 yt509) 20 yr510) 42 md = (-1) := hc42
                  have hce660 : (updA (updA X2 19 yt509) 20 yr510) 43 md = (-1) := hc43
                  have hce661 : (updA (updA X2 19 yt509) 20 yr510) 44 md = (-1) := hc44
                  have hty662 : tkRow ((updA (updA X2 19 yt509) 20 yr510) 19) wr507 T := h521
                  refine r_sti (f := ((updA (updA X2 19 yt509) 20 yr510) 47)) (j := pr2) hx hb hE hP hD hS 47 (ma_47 G a _) rfl (mas_47 G a _) (by omega) (by decide) dX12_method_184 (fun H locs hP hD hS => ?_)
                  have hP : va_P G.1 pCl (mW G h0 a (upd (upd (upd (upd (upd (upd (upd (upd (upd (upd (upd (upd (upd (upd (upd F 15 (nI fa505)) 16 pl506) 27 (nI nd)) 31 (nI wr507)) 34 (nI lz)) 35 (nI dc)) 44 (nI fd)) 49 (nI (md + 1))) 59 (nI bk)) 60 (nI pr2)) 64 (nI at504)) 65 ne0) 66 (nI lk)) 67 (nI mf)) 68 (nI (mm + 1))) (updA (stR (updA (updA X2 19 yt509) 20 yr510) 47 pr2 (nI r508)) 2 K)) _ := hP
                  have hD : va_D A (mW G h0 a (upd (upd (upd (upd (upd (upd (upd (upd (upd (upd (upd (upd (upd (upd (upd F 15 (nI fa505)) 16 pl506) 27 (nI nd)) 31 (nI wr507)) 34 (nI lz)) 35 (nI dc)) 44 (nI fd)) 49 (nI (md + 1))) 59 (nI bk)) 60 (nI pr2)) 64 (nI at504)) 65 ne0) 66 (nI lk)) 67 (nI mf)) 68 (nI (mm + 1))) (updA (stR (updA (updA X2 19 yt509) 20 yr510) 47 pr2 (nI r508)) 2 K)) := mW_D hD
                  have hkq663 : Kq 0 B (stR (updA (updA X2 19 yt509) 20 yr510) 47 pr2 (nI r508)) := (Kq.st hkq652 (by omega))
                  have hce664 : (stR (updA (updA X2 19 yt509) 20 yr510) 47 pr2 (nI r508)) 36 md = (nI d) := ((st_ne (by omega)).trans hce653)
                  have hce665 : (stR (updA (updA X2 19 yt509) 20 yr510) 47 pr2 (nI r508)) 37 md = (nI v2) := ((st_ne (by omega)).trans hce654)
                  have hce666 : (stR (updA (updA X2 19 yt509) 20 yr510) 47 pr2 (nI r508)) 38 md = (nI tn) := ((st_ne (by omega)).trans hce655)
                  have hce667 : (stR (updA (updA X2 19 yt509) 20 yr510) 47 pr2 (nI r508)) 39 md = y := ((st_ne (by omega)).trans hce656)
                  have hce668 : (stR (updA (updA X2 19 yt509) 20 yr510) 47 pr2 (nI r508)) 40 md = (nI pr) := ((st_ne (by omega)).trans hce657)
                  have hce669 : (stR (updA (updA X2 19 yt509) 20 yr510) 47 pr2 (nI r508)) 41 md = (nI q2) := ((st_ne (by omega)).trans hce658)
                  have hce670 : (stR (updA (updA X2 19 yt509) 20 yr510) 47 pr2 (nI r508)) 42 md = (-1) := ((st_ne (by omega)).trans hce659)
                  have hce671 : (stR (updA (updA X2 19 yt509) 20 yr510) 47 pr2 (nI r508)) 43 md = (-1) := ((st_ne (by omega)).trans hce660)
                  have hce672 : (stR (updA (updA X2 19 yt509) 20 yr510) 47 pr2 (nI r508)) 44 md = (-1) := ((st_ne (by omega)).trans hce661)
                  have hty673 : tkRow ((stR (updA (updA X2 19 yt509) 20 yr510) 47 pr2 (nI r508)) 19) wr507 T := hty662
                  have hce674 : (stR (updA (updA X2 19 yt509) 20 yr510) 47 pr2 (nI r508)) 47 pr2 = (nI r508) := st_eq
                  refine lv_aload_n hx hb dX12_method_185 rfl (lv_at hl 5 rfl) ?_
                  have hP : va_P G.1 pCl (mW G h0 a (upd (upd (upd (upd (upd (upd (upd (upd (upd (upd (upd (upd (upd (upd (upd (upd (upd F 15 (nI fa505)) 16 pl506) 27 (nI nd)) 31 (nI wr507)) 34 (nI lz)) 35 (nI dc)) 44 (nI fd)) 49 (nI (md + 1))) 59 (nI bk)) 60 (nI pr2)) 64 (nI at504)) 65 ne0) 66 (nI lk)) 67 (nI mf)) 68 (nI (mm + 1))) 15 (nI fa505)) 64 (nI at504)) (updA (updA (stR (updA (updA X2 19 yt509) 20 yr510) 47 pr2 (nI r508)) 2 K) 2 K)) _ := mW_to (F := F) (l1 := [(15, (nI fa505)), (16, pl506), (27, (nI nd)), (31, (nI wr507)), (34, (nI lz)), (35, (nI dc)), (44, (nI fd)), (49, (nI (md + 1))), (59, (nI bk)), (60, (nI pr2)), (64, (nI at504)), (65, ne0), (66, (nI lk)), (67, (nI mf)), (68, (nI (mm + 1)))]) (l2 := [(15, (nI fa505)), (16, pl506), (27, (nI nd)), (31, (nI wr507)), (34, (nI lz)), (35, (nI dc)), (44, (nI fd)), (49, (nI (md + 1))), (59, (nI bk)), (60, (nI pr2)), (64, (nI at504)), (65, ne0), (66, (nI lk)), (67, (nI mf)), (68, (nI (mm + 1))), (15, (nI fa505)), (64, (nI at504))]) (V := [(nI fa505), pl506, (nI nd), (nI wr507), (nI lz), (nI dc), (nI fd), (nI (md + 1)), (nI bk), (nI pr2), (nI at504), ne0, (nI lk), (nI mf), (nI (mm + 1)), (nI fa505), pl506, (nI nd), (nI wr507), (nI lz), (nI dc), (nI fd), (nI (md + 1)), (nI bk), (nI pr2), (nI at504), ne0, (nI lk), (nI mf), (nI (mm + 1)), (nI fa505), (nI at504)]) rfl rfl (show (updA (stR (updA (updA X2 19 yt509) 20 yr510) 47 pr2 (nI r508)) 2 K) = (updA (updA (stR (updA (updA X2 19 yt509) 20 yr510) 47 pr2 (nI r508)) 2 K) 2 K) from updsA_eq2 (F := (stR (updA (updA X2 19 yt509) 20 yr510) 47 pr2 (nI r508))) (l1 := [(2, K)]) (l2 := [(2, K), (2, K)]) (V := [K, K, K]) rfl rfl) hP
                  have hD : va_D A (mW G h0 a (upd (upd (upd (upd (upd (upd (upd (upd (upd (upd (upd (upd (upd (upd (upd (upd (upd F 15 (nI fa505)) 16 pl506) 27 (nI nd)) 31 (nI wr507)) 34 (nI lz)) 35 (nI dc)) 44 (nI fd)) 49 (nI (md + 1))) 59 (nI bk)) 60 (nI pr2)) 64 (nI at504)) 65 ne0) 66 (nI lk)) 67 (nI mf)) 68 (nI (mm + 1))) 15 (nI fa505)) 64 (nI at504)) (updA (updA (stR (updA (updA X2 19 yt509) 20 yr510) 47 pr2 (nI r508)) 2 K) 2 K)) := mW_D hD
                  refine pc_V0 (G := G) (As := []) (rest := []) hx hb hml hown hq hE hX pX0_al hP hD hS hA hl.1 (R_name l G h0 a (upd (upd (upd (upd (upd (upd (upd (upd (upd (upd (upd (upd (upd (upd (upd F 15 (nI fa505)) 16 pl506) 27 (nI nd)) 31 (nI wr507)) 34 (nI lz)) 35 (nI dc)) 44 (nI fd)) 49 (nI (md + 1))) 59 (nI bk)) 60 (nI pr2)) 64 (nI at504)) 65 ne0) 66 (nI lk)) 67 (nI mf)) 68 (nI (mm + 1))) (updA (stR (updA (updA X2 19 yt509) 20 yr510) 47 pr2 (nI r508)) 2 K) at504 T fa505 K (by omega) (by omega) hK (by omega)) (gV pw_1618 pw_1619 pw_1620 pw_1523 pw_1613) hV_X12_name 0 9 rfl rfl rfl rfl (Nat.le_of_ble_eq_true rfl) dX12_method_186 ⟨Nat.le_of_ble_eq_true rfl, Nat.le_of_ble_eq_true rfl⟩ ⟨Nat.le_of_ble_eq_true rfl, Nat.le_of_ble_eq_true rfl⟩ (fun v677 u675 H locs hw676 hP hD hS => ?_)
                  obtain ⟨at678, fa679, pl680⟩ := u675
                  obtain ⟨hw676, h681, h682, h683, h684, h685, h686, h687, h688⟩ := hw676
                  replace h681 : at504 ≤ at678 := h681
                  replace h682 : at678 ≤ T := h682
                  replace h683 : fa505 ≤ fa679 := h683
                  replace h684 : fa679 ≤ 100 := h684
                  replace h685 : If (0 < fa505) (at678 = at504 ∧ fa679 = fa505) := h685
                  replace h686 : at678 ≤ at504 + 1 := h686
                  replace h687 : at504 + 1 ≤ at678 + fa679 := h687
                  replace h688 : If (fa679 = 0) (K at504 = 1) := h688
                  obtain rfl : v677 = some (.int (nI at504)) := hw676
                  have hP : va_P G.1 pCl (mW G h0 a (upd (upd (upd (upd (upd (upd (upd (upd (upd (upd (upd (upd (upd (upd (upd F 15 (nI fa679)) 16 pl680) 27 (nI nd)) 31 (nI wr507)) 34 (nI lz)) 35 (nI dc)) 44 (nI fd)) 49 (nI (md + 1))) 59 (nI bk)) 60 (nI pr2)) 64 (nI at678)) 65 ne0) 66 (nI lk)) 67 (nI mf)) 68 (nI (mm + 1))) (updA (stR (updA (updA X2 19 yt509) 20 yr510) 47 pr2 (nI r508)) 2 K)) _ := mW_to (F := F) (l1 := [(15, (nI fa505)), (16, pl506), (27, (nI nd)), (31, (nI wr507)), (34, (nI lz)), (35, (nI dc)), (44, (nI fd)), (49, (nI (md + 1))), (59, (nI bk)), (60, (nI pr2)), (64, (nI at504)), (65, ne0), (66, (nI lk)), (67, (nI mf)), (68, (nI (mm + 1))), (15, (nI fa679)), (16, pl680), (64, (nI at678))]) (l2 := [(15, (nI fa679)), (16, pl680), (27, (nI nd)), (31, (nI wr507)), (34, (nI lz)), (35, (nI dc)), (44, (nI fd)), (49, (nI (md + 1))), (59, (nI bk)), (60, (nI pr2)), (64, (nI at678)), (65, ne0), (66, (nI lk)), (67, (nI mf)), (68, (nI (mm + 1)))]) (V := [(nI fa679), pl680, (nI nd), (nI wr507), (nI lz), (nI dc), (nI fd), (nI (md + 1)), (nI bk), (nI pr2), (nI at678), ne0, (nI lk), (nI mf), (nI (mm + 1)), (nI fa679), pl680, (nI at678), (nI fa679), pl680, (nI nd), (nI wr507), (nI lz), (nI dc), (nI fd), (nI (md + 1)), (nI bk), (nI pr2), (nI at678), ne0, (nI lk), (nI mf), (nI (mm + 1))]) rfl rfl (show (updA (updA (stR (updA (updA X2 19 yt509) 20 yr510) 47 pr2 (nI r508)) 2 K) 2 K) = (updA (stR (updA (updA X2 19 yt509) 20 yr510) 47 pr2 (nI r508)) 2 K) from updsA_eq2 (F := (stR (updA (updA X2 19 yt509) 20 yr510) 47 pr2 (nI r508))) (l1 := [(2, K), (2, K)]) (l2 := [(2, K)]) (V := [K, K, K]) rfl rfl) hP
                  have hD : va_D A (mW G h0 a (upd (upd (upd (upd (upd (upd (upd (upd (upd (upd (upd (upd (upd (upd (upd F 15 (nI fa679)) 16 pl680) 27 (nI nd)) 31 (nI wr507)) 34 (nI lz)) 35 (nI dc)) 44 (nI fd)) 49 (nI (md + 1))) 59 (nI bk)) 60 (nI pr2)) 64 (nI at678)) 65 ne0) 66 (nI lk)) 67 (nI mf)) 68 (nI (mm + 1))) (updA (stR (updA (updA X2 19 yt509) 20 yr510) 47 pr2 (nI r508)) 2 K)) := mW_D hD
                  refine W.widen (k := 0) (n := 0) (Nat.le_of_ble_eq_true rfl) (Nat.le_of_ble_eq_true rfl) ?_
                  refine W.eq (g2 := F0 m 189 ls [.int (nI at504)]) rfl ?_
                  obtain ⟨n690, n689⟩ := h685 e526
                  replace n690 := n690.symm
                  subst n690
                  replace n689 := n689.symm
                  subst n689
                  refine lv_istore (lv' := [(6, .int (nI at504)), (5, .int (nI mo)), (4, .int (nI md)), (3, .int (nI tn)), (2, .int y), (1, .int (nI d)), (0, .ref h0)]) hx hb dX12_method_189 hl (by decide) rfl (fun ls hl => ?_)
                  refine lv_aload_n hx hb dX12_method_191 rfl (lv_at hl 6 rfl) ?_
                  refine r_get (v := .int (nI fa505)) hx hb hown hq hE hP 15 350 tFX12_15 (by decide) pw_1594 rfl dX12_method_192 ?_
                  refine lv_if_le (tgt := 199) hx hb dX12_method_195 (by decide) (fun c691 => (by have n692 : fa505 ≤ 0 := (nI_leI (a := fa505) (b := 0) (by omega) (by omega)).mp c691; omega)) (fun c691 => ?_)
                  have hz693 : at0 ≤ at504 := (by omega)
                  have hz694 : at504 ≤ T := (by omega)
                  have hz695 : fa505 ≤ 100 := (by omega)
                  have hz696 : at0 + 1 ≤ at504 + fa505 := (by omega)
                  have hz697 : Kq 0 B (stR (updA (updA X2 19 yt509) 20 yr510) 47 pr2 (nI r508)) := hkq663
                  have hz698 : If (fa505 = 0) ((nd ≤ 2 * at504 ∧ wr507 ≤ at504 ∧ lz ≤ at504 ∧ pr2 ≤ at504 ∧ dc ≤ 37 ∧ dc ≤ dc ∧ bk ≤ (md + 1) ∧ wr ≤ wr507 ∧ lz ≤ lz) ∧ ((md + 1) + 240 ≤ 30 * dc + (mm + 1) ∧ fd + 160 ≤ 20 * dc + mf ∧ mf ≤ 20 ∧ (mm + 1) ≤ 30 ∧ dc = dc) ∧ PS T nm wr507 lz dc fd (md + 1) pr2 bk (stR (updA (updA X2 19 yt509) 20 yr510) 47 pr2 (nI r508)) ∧ FrM K T wr507 (stR (updA (updA X2 19 yt509) 20 yr510) 47 pr2 (nI r508)) nd (md + 1) ∧ tkRow ((stR (updA (updA X2 19 yt509) 20 yr510) 47 pr2 (nI r508)) 19) wr507 T ∧ lsRow ((stR (updA (updA X2 19 yt509) 20 yr510) 47 pr2 (nI r508)) 22) ((stR (updA (updA X2 19 yt509) 20 yr510) 47 pr2 (nI r508)) 23) lz T) := (fun e => absurd e (by omega))
                  have hP : va_P G.1 pCl (mW G h0 a (upd (upd (upd (upd (upd (upd (upd (upd (upd (upd (upd (upd (upd (upd (upd F 15 (nI fa505)) 16 pl680) 27 (nI nd)) 31 (nI wr507)) 34 (nI lz)) 35 (nI dc)) 44 (nI fd)) 49 (nI (md + 1))) 59 (nI bk)) 60 (nI pr2)) 64 (nI at504)) 65 ne0) 66 (nI lk)) 67 (nI mf)) 68 (nI (mm + 1))) (updA (stR (updA (updA X2 19 yt509) 20 yr510) 47 pr2 (nI r508)) 2 K)) _ := hP
                  have hD : va_D A (mW G h0 a (upd (upd (upd (upd (upd (upd (upd (upd (upd (upd (upd (upd (upd (upd (upd F 15 (nI fa505)) 16 pl680) 27 (nI nd)) 31 (nI wr507)) 34 (nI lz)) 35 (nI dc)) 44 (nI fd)) 49 (nI (md + 1))) 59 (nI bk)) 60 (nI pr2)) 64 (nI at504)) 65 ne0) 66 (nI lk)) 67 (nI mf)) 68 (nI (mm + 1))) (updA (stR (updA (updA X2 19 yt509) 20 yr510) 47 pr2 (nI r508)) 2 K)) := mW_D hD
                  exact W.vret hx hb hr (fun t9 ht9 hW9 => ⟨⟨_, (at504, fa505, pl680, nd, wr507, lz, dc, fd, (md + 1), pr2, bk, mf, (mm + 1), ne0, (stR (updA (updA X2 19 yt509) 20 yr510) 47 pr2 (nI r508))), rfl, ⟨rfl, hz693, hz694, hz695, hz696, hz697, hz698⟩, by rw [ht9]; exact hP, hD⟩, hS.F ht9⟩) hS.2.2 dX12_method_198
              · have n699 : q2 = 8 := (nI_eq (a := q2) (b := 8) (by omega) (by omega)).mp c499
                refine lv_aload_n hx hb dX12_method_166 rfl (lv_at hl 5 rfl) ?_
                refine lv_iconst (v := 2) hx hb dX12_method_167 (by decide) ?_
                have hP : va_P G.1 pCl (mW G h0 a (upd (upd (upd (upd (upd (upd (upd (upd (upd (upd (upd (upd (upd (upd (upd (upd (upd F 15 0) 16 pl2) 27 (nI nd)) 31 (nI wr2)) 34 (nI lz)) 35 (nI dc)) 44 (nI fd)) 49 (nI (md + 1))) 59 (nI bk)) 60 (nI pr2)) 64 (nI at2)) 65 ne0) 66 (nI lk)) 67 (nI mf)) 68 (nI (mm + 1))) 15 (nI 0)) 64 (nI at2)) (updA (updA X2 2 K) 2 K)) _ := mW_to (F := F) (l1 := [(15, 0), (16, pl2), (27, (nI nd)), (31, (nI wr2)), (34, (nI lz)), (35, (nI dc)), (44, (nI fd)), (49, (nI (md + 1))), (59, (nI bk)), (60, (nI pr2)), (64, (nI at2)), (65, ne0), (66, (nI lk)), (67, (nI mf)), (68, (nI (mm + 1)))]) (l2 := [(15, 0), (16, pl2), (27, (nI nd)), (31, (nI wr2)), (34, (nI lz)), (35, (nI dc)), (44, (nI fd)), (49, (nI (md + 1))), (59, (nI bk)), (60, (nI pr2)), (64, (nI at2)), (65, ne0), (66, (nI lk)), (67, (nI mf)), (68, (nI (mm + 1))), (15, (nI 0)), (64, (nI at2))]) (V := [(nI 0), pl2, (nI nd), (nI wr2), (nI lz), (nI dc), (nI fd), (nI (md + 1)), (nI bk), (nI pr2), (nI at2), ne0, (nI lk), (nI mf), (nI (mm + 1)), (nI 0), pl2, (nI nd), (nI wr2), (nI lz), (nI dc), (nI fd), (nI (md + 1)), (nI bk), (nI pr2), (nI at2), ne0, (nI lk), (nI mf), (nI (mm + 1)), (nI 0), (nI at2)]) rfl rfl (show (updA X2 2 K) = (updA (updA X2 2 K) 2 K) from updsA_eq2 (F := X2) (l1 := [(2, K)]) (l2 := [(2, K), (2, K)]) (V := [K, K, K]) rfl rfl) hP
                have hD : va_D A (mW G h0 a (upd (upd (upd (upd (upd (upd (upd (upd (upd (upd (upd (upd (upd (upd (upd (upd (upd F 15 0) 16 pl2) 27 (nI nd)) 31 (nI wr2)) 34 (nI lz)) 35 (nI dc)) 44 (nI fd)) 49 (nI (md + 1))) 59 (nI bk)) 60 (nI pr2)) 64 (nI at2)) 65 ne0) 66 (nI lk)) 67 (nI mf)) 68 (nI (mm + 1))) 15 (nI 0)) 64 (nI at2)) (updA (updA X2 2 K) 2 K)) := mW_D hD
                refine pc_V0 (G := G) (As := [.int (nI 2)]) (rest := []) hx hb hml hown hq hE hX pX0_al hP hD hS hA hl.1 (R_bad l G h0 a (upd (upd (upd (upd (upd (upd (upd (upd (upd (upd (upd (upd (upd (upd (upd F 15 0) 16 pl2) 27 (nI nd)) 31 (nI wr2)) 34 (nI lz)) 35 (nI dc)) 44 (nI fd)) 49 (nI (md + 1))) 59 (nI bk)) 60 (nI pr2)) 64 (nI at2)) 65 ne0) 66 (nI lk)) 67 (nI mf)) 68 (nI (mm + 1))) (updA X2 2 K) at2 T 0 K 2 (by omega) (by omega) hK (by omega) (by omega) (by omega)) (gV pw_1602 pw_1603 pw_1604 pw_1523 pw_1596) hV_X12_bad 0 9 rfl rfl rfl rfl (Nat.le_of_ble_eq_true rfl) dX12_method_168 ⟨Nat.le_of_ble_eq_true rfl, Nat.le_of_ble_eq_true rfl⟩ ⟨Nat.le_of_ble_eq_true rfl, Nat.le_of_ble_eq_true rfl⟩ (fun v702 u700 H locs hw701 hP hD hS => ?_)
                obtain ⟨fa703, pl704⟩ := u700
                obtain ⟨hw701, h705, h706, h707, h708⟩ := hw701
                replace h705 : 0 ≤ fa703 := h705
                replace h706 : fa703 ≤ 0 + 2 := h706
                replace h707 : 0 < fa703 := h707
                replace h708 : If (0 < 0) (fa703 = 0) := h708
                obtain rfl : v702 = none := hw701
                have hP : va_P G.1 pCl (mW G h0 a (upd (upd (upd (upd (upd (upd (upd (upd (upd (upd (upd (upd (upd (upd (upd F 15 (nI fa703)) 16 pl704) 27 (nI nd)) 31 (nI wr2)) 34 (nI lz)) 35 (nI dc)) 44 (nI fd)) 49 (nI (md + 1))) 59 (nI bk)) 60 (nI pr2)) 64 (nI at2)) 65 ne0) 66 (nI lk)) 67 (nI mf)) 68 (nI (mm + 1))) (updA X2 2 K)) _ := mW_to (F := F) (l1 := [(15, 0), (16, pl2), (27, (nI nd)), (31, (nI wr2)), (34, (nI lz)), (35, (nI dc)), (44, (nI fd)), (49, (nI (md + 1))), (59, (nI bk)), (60, (nI pr2)), (64, (nI at2)), (65, ne0), (66, (nI lk)), (67, (nI mf)), (68, (nI (mm + 1))), (15, (nI fa703)), (16, pl704), (64, (nI at2))]) (l2 := [(15, (nI fa703)), (16, pl704), (27, (nI nd)), (31, (nI wr2)), (34, (nI lz)), (35, (nI dc)), (44, (nI fd)), (49, (nI (md + 1))), (59, (nI bk)), (60, (nI pr2)), (64, (nI at2)), (65, ne0), (66, (nI lk)), (67, (nI mf)), (68, (nI (mm + 1)))]) (V := [(nI fa703), pl704, (nI nd), (nI wr2), (nI lz), (nI dc), (nI fd), (nI (md + 1)), (nI bk), (nI pr2), (nI at2), ne0, (nI lk), (nI mf), (nI (mm + 1)), (nI fa703), pl704, (nI at2), (nI fa703), pl704, (nI nd), (nI wr2), (nI lz), (nI dc), (nI fd), (nI (md + 1)), (nI bk), (nI pr2), (nI at2), ne0, (nI lk), (nI mf), (nI (mm + 1))]) rfl rfl (show (updA (updA X2 2 K) 2 K) = (updA X2 2 K) from updsA_eq2 (F := X2) (l1 := [(2, K), (2, K)]) (l2 := [(2, K)]) (V := [K, K, K]) rfl rfl) hP
                have hD : va_D A (mW G h0 a (upd (upd (upd (upd (upd (upd (upd (upd (upd (upd (upd (upd (upd (upd (upd F 15 (nI fa703)) 16 pl704) 27 (nI nd)) 31 (nI wr2)) 34 (nI lz)) 35 (nI dc)) 44 (nI fd)) 49 (nI (md + 1))) 59 (nI bk)) 60 (nI pr2)) 64 (nI at2)) 65 ne0) 66 (nI lk)) 67 (nI mf)) 68 (nI (mm + 1))) (updA X2 2 K)) := mW_D hD
                refine W.widen (k := 0) (n := 0) (Nat.le_of_ble_eq_true rfl) (Nat.le_of_ble_eq_true rfl) ?_
                refine W.eq (g2 := F0 m 171 ls []) rfl ?_
                have hz709 : at0 ≤ at2 := (by omega)
                have hz710 : at2 ≤ T := (by omega)
                have hz711 : fa703 ≤ 100 := (by omega)
                have hz712 : at0 + 1 ≤ at2 + fa703 := (by omega)
                have hz713 : Kq 0 B X2 := hkq2
                have hz714 : If (fa703 = 0) ((nd ≤ 2 * at2 ∧ wr2 ≤ at2 ∧ lz ≤ at2 ∧ pr2 ≤ at2 ∧ dc ≤ 37 ∧ dc ≤ dc ∧ bk ≤ (md + 1) ∧ wr ≤ wr2 ∧ lz ≤ lz) ∧ ((md + 1) + 240 ≤ 30 * dc + (mm + 1) ∧ fd + 160 ≤ 20 * dc + mf ∧ mf ≤ 20 ∧ (mm + 1) ≤ 30 ∧ dc = dc) ∧ PS T nm wr2 lz dc fd (md + 1) pr2 bk X2 ∧ FrM K T wr2 X2 nd (md + 1) ∧ tkRow (X2 19) wr2 T ∧ lsRow (X2 22) (X2 23) lz T) := (fun e => absurd e (by omega))
                have hP : va_P G.1 pCl (mW G h0 a (upd (upd (upd (upd (upd (upd (upd (upd (upd (upd (upd (upd (upd (upd (upd F 15 (nI fa703)) 16 pl704) 27 (nI nd)) 31 (nI wr2)) 34 (nI lz)) 35 (nI dc)) 44 (nI fd)) 49 (nI (md + 1))) 59 (nI bk)) 60 (nI pr2)) 64 (nI at2)) 65 ne0) 66 (nI lk)) 67 (nI mf)) 68 (nI (mm + 1))) (updA X2 2 K)) _ := hP
                have hD : va_D A (mW G h0 a (upd (upd (upd (upd (upd (upd (upd (upd (upd (upd (upd (upd (upd (upd (upd F 15 (nI fa703)) 16 pl704) 27 (nI nd)) 31 (nI wr2)) 34 (nI lz)) 35 (nI dc)) 44 (nI fd)) 49 (nI (md + 1))) 59 (nI bk)) 60 (nI pr2)) 64 (nI at2)) 65 ne0) 66 (nI lk)) 67 (nI mf)) 68 (nI (mm + 1))) (updA X2 2 K)) := mW_D hD
                exact W.vret hx hb hr (fun t9 ht9 hW9 => ⟨⟨_, (at2, fa703, pl704, nd, wr2, lz, dc, fd, (md + 1), pr2, bk, mf, (mm + 1), ne0, X2), rfl, ⟨rfl, hz709, hz710, hz711, hz712, hz713, hz714⟩, by rw [ht9]; exact hP, hD⟩, hS.F ht9⟩) hS.2.2 dX12_method_171
      have hP : va_P G.1 pCl (mW G h0 a (upd (upd (upd (upd (upd (upd (upd (upd (upd (upd (upd (upd (upd (upd (upd F 15 0) 16 pl106) 27 (nI nd)) 31 (nI wr)) 34 (nI lz)) 35 (nI dc)) 44 (nI fd)) 49 (nI (md + 1))) 59 (nI bk)) 60 (nI pr)) 64 (nI at104)) 65 ne0) 66 (nI lk)) 67 (nI mf)) 68 (nI (mm + 1))) (updA (stR (stR (stR (stR (stR (stR (stR (stR (stR B 36 md (nI d)) 37 md (nI v14)) 38 md (nI tn)) 39 md y) 40 md (nI pr)) 41 md 0) 42 md (-1)) 43 md (-1)) 44 md (-1)) 2 K)) _ := hP
      have hD : va_D A (mW G h0 a (upd (upd (upd (upd (upd (upd (upd (upd (upd (upd (upd (upd (upd (upd (upd F 15 0) 16 pl106) 27 (nI nd)) 31 (nI wr)) 34 (nI lz)) 35 (nI dc)) 44 (nI fd)) 49 (nI (md + 1))) 59 (nI bk)) 60 (nI pr)) 64 (nI at104)) 65 ne0) 66 (nI lk)) 67 (nI mf)) 68 (nI (mm + 1))) (updA (stR (stR (stR (stR (stR (stR (stR (stR (stR B 36 md (nI d)) 37 md (nI v14)) 38 md (nI tn)) 39 md y) 40 md (nI pr)) 41 md 0) 42 md (-1)) 43 md (-1)) 44 md (-1)) 2 K)) := mW_D hD
      exact loop_o (T + 1) at104 wr pr 0 0 v14 pl106 (stR (stR (stR (stR (stR (stR (stR (stR (stR B 36 md (nI d)) 37 md (nI v14)) 38 md (nI tn)) 39 md y) 40 md (nI pr)) 41 md 0) 42 md (-1)) 43 md (-1)) 44 md (-1)) _ _ _ (by omega) (by omega) (by omega) (by omega) (by omega) (by omega) (by omega) (by omega) (by omega) (by omega) hkq87 hps97 hfm98 hty96 hlr99 hce88 hce89 hce90 hce91 hce92 hce93 hce94 hce95 hce100 hP hD hS (lv_sub hl [0, 1, 5, 4, 3, 2] rfl)
    · refine lv_iconst (v := 1) hx hb dX12_method_128 (by decide) ?_
      refine lv_goto (tgt := 133) hx hb dX12_method_129 (by decide) ?_
      refine lv_istore (lv' := [(5, .int 1), (4, .int (nI md)), (0, .ref h0), (1, .int (nI d)), (2, .int y), (3, .int (nI tn))]) hx hb dX12_method_133 hl (by decide) rfl (fun ls hl => ?_)
      have loop_o : ∀ (n_o : Nat) (at2 : Nat) (wr2 : Nat) (pr2 : Nat) (q2 : Nat) (mo : Nat) (v2 : Nat) (pl2 : Int32) (X2 : Nat → Nat → Int32) (H : Heap) (locs : List Loc) (ls : Array Slot), at2 ≤ T → T + 1 ≤ at2 + n_o → (at0 + 1 ≤ at2) → (wr ≤ wr2) → (wr2 + at0 ≤ wr + at2) → (pr2 = pr + q2) → (pr2 + at0 + 1 ≤ pr + at2) → (q2 ≤ 8) → (mo ≤ 1) → (v2 < nm) → (Kq 0 B X2) → (PS T nm wr2 lz dc fd md pr2 bk X2) → (FrM K T wr2 X2 nd md) → (tkRow (X2 19) wr2 T) → (lsRow (X2 22) (X2 23) lz T) → (X2 36 md = (nI d)) → (X2 37 md = (nI v2)) → (X2 38 md = (nI tn)) → (X2 39 md = y) → (X2 40 md = (nI pr)) → (X2 41 md = (nI q2)) → (X2 42 md = (-1)) → (X2 43 md = (-1)) → (X2 44 md = (-1)) → va_P G.1 pCl (mW G h0 a (upd (upd (upd (upd (upd (upd (upd (upd (upd (upd (upd (upd (upd (upd (upd F 15 0) 16 pl2) 27 (nI nd)) 31 (nI wr2)) 34 (nI lz)) 35 (nI dc)) 44 (nI fd)) 49 (nI (md + 1))) 59 (nI bk)) 60 (nI pr2)) 64 (nI at2)) 65 ne0) 66 (nI lk)) 67 (nI mf)) 68 (nI (mm + 1))) (updA X2 2 K)) H → va_D A (mW G h0 a (upd (upd (upd (upd (upd (upd (upd (upd (upd (upd (upd (upd (upd (upd (upd F 15 0) 16 pl2) 27 (nI nd)) 31 (nI wr2)) 34 (nI lz)) 35 (nI dc)) 44 (nI fd)) 49 (nI (md + 1))) 59 (nI bk)) 60 (nI pr2)) 64 (nI at2)) 65 ne0) 66 (nI lk)) 67 (nI mf)) 68 (nI (mm + 1))) (updA X2 2 K)) → va_S A s.heap H locs → lv_has ls 7 [(5, .int (nI mo)), (4, .int (nI md)), (3, .int (nI tn)), (2, .int y), (1, .int (nI d)), (0, .ref h0)] → W p l e (headSpec (Cond.code yX12_method cX12_method 7 none :: pw) ({ frames := 640, cells := 0, slots := 0, locals := 50000 } : Room)).room s m ([.ref h0, .int (nI d), .int y, .int (nI tn)] : List Value).toArray below meth c H locs 0 0 (MQ below (pQ G A (fun (v : Option Value) (u : Nat × Nat × Int32 × Nat × Nat × Nat × Nat × Nat × Nat × Nat × Nat × Nat × Nat × Int32 × (Nat → Nat → Int32)) => v = none ∧ (at0 ≤ u.1) ∧ (u.1 ≤ T) ∧ (u.2.1 ≤ 100) ∧ (at0 + 1 ≤ u.1 + u.2.1) ∧ (Kq 0 B u.2.2.2.2.2.2.2.2.2.2.2.2.2.2) ∧ (If (u.2.1 = 0) ((u.2.2.2.1 ≤ 2 * u.1 ∧ u.2.2.2.2.1 ≤ u.1 ∧ u.2.2.2.2.2.1 ≤ u.1 ∧ u.2.2.2.2.2.2.2.2.2.1 ≤ u.1 ∧ u.2.2.2.2.2.2.1 ≤ 37 ∧ dc ≤ u.2.2.2.2.2.2.1 ∧ u.2.2.2.2.2.2.2.2.2.2.1 ≤ u.2.2.2.2.2.2.2.2.1 ∧ wr ≤ u.2.2.2.2.1 ∧ lz ≤ u.2.2.2.2.2.1) ∧ (u.2.2.2.2.2.2.2.2.1 + 240 ≤ 30 * u.2.2.2.2.2.2.1 + u.2.2.2.2.2.2.2.2.2.2.2.2.1 ∧ u.2.2.2.2.2.2.2.1 + 160 ≤ 20 * u.2.2.2.2.2.2.1 + u.2.2.2.2.2.2.2.2.2.2.2.1 ∧ u.2.2.2.2.2.2.2.2.2.2.2.1 ≤ 20 ∧ u.2.2.2.2.2.2.2.2.2.2.2.2.1 ≤ 30 ∧ u.2.2.2.2.2.2.1 = dc) ∧ PS T nm u.2.2.2.2.1 u.2.2.2.2.2.1 u.2.2.2.2.2.2.1 u.2.2.2.2.2.2.2.1 u.2.2.2.2.2.2.2.2.1 u.2.2.2.2.2.2.2.2.2.1 u.2.2.2.2.2.2.2.2.2.2.1 u.2.2.2.2.2.2.2.2.2.2.2.2.2.2 ∧ FrM K T u.2.2.2.2.1 u.2.2.2.2.2.2.2.2.2.2.2.2.2.2 u.2.2.2.1 u.2.2.2.2.2.2.2.2.1 ∧ tkRow (u.2.2.2.2.2.2.2.2.2.2.2.2.2.2 19) u.2.2.2.2.1 T ∧ lsRow (u.2.2.2.2.2.2.2.2.2.2.2.2.2.2 22) (u.2.2.2.2.2.2.2.2.2.2.2.2.2.2 23) u.2.2.2.2.2.1 T))) (fun u => (mW G h0 a (upd (upd (upd (upd (upd (upd (upd (upd (upd (upd (upd (upd (upd (upd (upd F 15 (nI u.2.1)) 16 u.2.2.1) 27 (nI u.2.2.2.1)) 31 (nI u.2.2.2.2.1)) 34 (nI u.2.2.2.2.2.1)) 35 (nI u.2.2.2.2.2.2.1)) 44 (nI u.2.2.2.2.2.2.2.1)) 49 (nI u.2.2.2.2.2.2.2.2.1)) 59 (nI u.2.2.2.2.2.2.2.2.2.2.1)) 60 (nI u.2.2.2.2.2.2.2.2.2.1)) 64 (nI u.1)) 65 u.2.2.2.2.2.2.2.2.2.2.2.2.2.1) 66 (nI lk)) 67 (nI u.2.2.2.2.2.2.2.2.2.2.2.1)) 68 (nI u.2.2.2.2.2.2.2.2.2.2.2.2.1)) (updA u.2.2.2.2.2.2.2.2.2.2.2.2.2.2 2 K)))) ([.ref h0, .int (nI d), .int y, .int (nI tn)] : List Value).toArray s ({ frames := 640, cells := 0, slots := 0, locals := 50000 } : Room).cells ({ frames := 640, cells := 0, slots := 0, locals := 50000 } : Room).slots A) (F0 m 135 ls []) := by
        intro n_o
        induction n_o with
        | zero => intro at2 wr2 pr2 q2 mo v2 pl2 X2 H locs ls hk_o hn_o; omega
        | succ n_o ih_o =>
          intro at2 wr2 pr2 q2 mo v2 pl2 X2 H locs ls hk_o hn_o hl1 hl2 hl3 hl4 hl5 hl6 hl7 hl8 hkq2 hps2 hfm2 hy2 hlr2 hc36 hc37 hc38 hc39 hc40 hc41 hc42 hc43 hc44 hP hD hS hl
          refine lv_iload hx hb dX12_method_135 (lv_at hl 0 rfl) ?_
          refine lv_if_eq (tgt := 258) hx hb dX12_method_137 (by decide) (fun c715 => ?_) (fun c715 => ?_)
          · have n716 : mo = 0 := (nI_eq (a := mo) (b := 0) (by omega) (by omega)).mp c715
            refine lv_aload_n hx hb dX12_method_258 rfl (lv_at hl 5 rfl) ?_
            refine lv_bipush (v := 41) hx hb dX12_method_259 (by decide) ?_
            have hP : va_P G.1 pCl (mW G h0 a (upd (upd (upd (upd (upd (upd (upd (upd (upd (upd (upd (upd (upd (upd (upd (upd (upd F 15 0) 16 pl2) 27 (nI nd)) 31 (nI wr2)) 34 (nI lz)) 35 (nI dc)) 44 (nI fd)) 49 (nI (md + 1))) 59 (nI bk)) 60 (nI pr2)) 64 (nI at2)) 65 ne0) 66 (nI lk)) 67 (nI mf)) 68 (nI (mm + 1))) 15 (nI 0)) 64 (nI at2)) (updA (updA X2 2 K) 2 K)) _ := mW_to (F := F) (l1 := [(15, 0), (16, pl2), (27, (nI nd)), (31, (nI wr2)), (34, (nI lz)), (35, (nI dc)), (44, (nI fd)), (49, (nI (md + 1))), (59, (nI bk)), (60, (nI pr2)), (64, (nI at2)), (65, ne0), (66, (nI lk)), (67, (nI mf)), (68, (nI (mm + 1)))]) (l2 := [(15, 0), (16, pl2), (27, (nI nd)), (31, (nI wr2)), (34, (nI lz)), (35, (nI dc)), (44, (nI fd)), (49, (nI (md + 1))), (59, (nI bk)), (60, (nI pr2)), (64, (nI at2)), (65, ne0), (66, (nI lk)), (67, (nI mf)), (68, (nI (mm + 1))), (15, (nI 0)), (64, (nI at2))]) (V := [(nI 0), pl2, (nI nd), (nI wr2), (nI lz), (nI dc), (nI fd), (nI (md + 1)), (nI bk), (nI pr2), (nI at2), ne0, (nI lk), (nI mf), (nI (mm + 1)), (nI 0), pl2, (nI nd), (nI wr2), (nI lz), (nI dc), (nI fd), (nI (md + 1)), (nI bk), (nI pr2), (nI at2), ne0, (nI lk), (nI mf), (nI (mm + 1)), (nI 0), (nI at2)]) rfl rfl (show (updA X2 2 K) = (updA (updA X2 2 K) 2 K) from updsA_eq2 (F := X2) (l1 := [(2, K)]) (l2 := [(2, K), (2, K)]) (V := [K, K, K]) rfl rfl) hP
            have hD : va_D A (mW G h0 a (upd (upd (upd (upd (upd (upd (upd (upd (upd (upd (upd (upd (upd (upd (upd (upd (upd F 15 0) 16 pl2) 27 (nI nd)) 31 (nI wr2)) 34 (nI lz)) 35 (nI dc)) 44 (nI fd)) 49 (nI (md + 1))) 59 (nI bk)) 60 (nI pr2)) 64 (nI at2)) 65 ne0) 66 (nI lk)) 67 (nI mf)) 68 (nI (mm + 1))) 15 (nI 0)) 64 (nI at2)) (updA (updA X2 2 K) 2 K)) := mW_D hD
            refine pc_V0 (G := G) (As := [.int 41]) (rest := []) hx hb hml hown hq hE hX pX0_al hP hD hS hA hl.1 (R_take l G h0 a (upd (upd (upd (upd (upd (upd (upd (upd (upd (upd (upd (upd (upd (upd (upd F 15 0) 16 pl2) 27 (nI nd)) 31 (nI wr2)) 34 (nI lz)) 35 (nI dc)) 44 (nI fd)) 49 (nI (md + 1))) 59 (nI bk)) 60 (nI pr2)) 64 (nI at2)) 65 ne0) 66 (nI lk)) 67 (nI mf)) 68 (nI (mm + 1))) (updA X2 2 K) at2 T 0 K 41 (by omega) (by omega) hK (by omega) (by decide) (by decide)) (gV pw_1614 pw_1615 pw_1616 pw_1523 pw_1601) hV_X12_take 0 9 rfl rfl rfl rfl (Nat.le_of_ble_eq_true rfl) dX12_method_261 ⟨Nat.le_of_ble_eq_true rfl, Nat.le_of_ble_eq_true rfl⟩ ⟨Nat.le_of_ble_eq_true rfl, Nat.le_of_ble_eq_true rfl⟩ (fun v719 u717 H locs hw718 hP hD hS => ?_)
            obtain ⟨at720, fa721, pl722⟩ := u717
            obtain ⟨hw718, h723, h724, h725, h726, h727, h728, h729, h730⟩ := hw718
            replace h723 : at2 ≤ at720 := h723
            replace h724 : at720 ≤ T := h724
            replace h725 : 0 ≤ fa721 := h725
            replace h726 : fa721 ≤ 100 := h726
            replace h727 : If (0 < 0) (at720 = at2 ∧ fa721 = 0) := h727
            replace h728 : at720 ≤ at2 + 1 := h728
            replace h729 : at2 + 1 ≤ at720 + fa721 := h729
            replace h730 : If (fa721 = 0) (K at2 = 41) := h730
            obtain rfl : v719 = none := hw718
            have hP : va_P G.1 pCl (mW G h0 a (upd (upd (upd (upd (upd (upd (upd (upd (upd (upd (upd (upd (upd (upd (upd F 15 (nI fa721)) 16 pl722) 27 (nI nd)) 31 (nI wr2)) 34 (nI lz)) 35 (nI dc)) 44 (nI fd)) 49 (nI (md + 1))) 59 (nI bk)) 60 (nI pr2)) 64 (nI at720)) 65 ne0) 66 (nI lk)) 67 (nI mf)) 68 (nI (mm + 1))) (updA X2 2 K)) _ := mW_to (F := F) (l1 := [(15, 0), (16, pl2), (27, (nI nd)), (31, (nI wr2)), (34, (nI lz)), (35, (nI dc)), (44, (nI fd)), (49, (nI (md + 1))), (59, (nI bk)), (60, (nI pr2)), (64, (nI at2)), (65, ne0), (66, (nI lk)), (67, (nI mf)), (68, (nI (mm + 1))), (15, (nI fa721)), (16, pl722), (64, (nI at720))]) (l2 := [(15, (nI fa721)), (16, pl722), (27, (nI nd)), (31, (nI wr2)), (34, (nI lz)), (35, (nI dc)), (44, (nI fd)), (49, (nI (md + 1))), (59, (nI bk)), (60, (nI pr2)), (64, (nI at720)), (65, ne0), (66, (nI lk)), (67, (nI mf)), (68, (nI (mm + 1)))]) (V := [(nI fa721), pl722, (nI nd), (nI wr2), (nI lz), (nI dc), (nI fd), (nI (md + 1)), (nI bk), (nI pr2), (nI at720), ne0, (nI lk), (nI mf), (nI (mm + 1)), (nI fa721), pl722, (nI at720), (nI fa721), pl722, (nI nd), (nI wr2), (nI lz), (nI dc), (nI fd), (nI (md + 1)), (nI bk), (nI pr2), (nI at720), ne0, (nI lk), (nI mf), (nI (mm + 1))]) rfl rfl (show (updA (updA X2 2 K) 2 K) = (updA X2 2 K) from updsA_eq2 (F := X2) (l1 := [(2, K), (2, K)]) (l2 := [(2, K)]) (V := [K, K, K]) rfl rfl) hP
            have hD : va_D A (mW G h0 a (upd (upd (upd (upd (upd (upd (upd (upd (upd (upd (upd (upd (upd (upd (upd F 15 (nI fa721)) 16 pl722) 27 (nI nd)) 31 (nI wr2)) 34 (nI lz)) 35 (nI dc)) 44 (nI fd)) 49 (nI (md + 1))) 59 (nI bk)) 60 (nI pr2)) 64 (nI at720)) 65 ne0) 66 (nI lk)) 67 (nI mf)) 68 (nI (mm + 1))) (updA X2 2 K)) := mW_D hD
            refine W.widen (k := 0) (n := 0) (Nat.le_of_ble_eq_true rfl) (Nat.le_of_ble_eq_true rfl) ?_
            refine W.eq (g2 := F0 m 264 ls []) rfl ?_
            rcases Nat.eq_zero_or_pos fa721 with e731 | e731
            · subst e731
              have hP : va_P G.1 pCl (mW G h0 a (upd (upd (upd (upd (upd (upd (upd (upd (upd (upd (upd (upd (upd (upd (upd F 15 0) 16 pl722) 27 (nI nd)) 31 (nI wr2)) 34 (nI lz)) 35 (nI dc)) 44 (nI fd)) 49 (nI (md + 1))) 59 (nI bk)) 60 (nI pr2)) 64 (nI at720)) 65 ne0) 66 (nI lk)) 67 (nI mf)) 68 (nI (mm + 1))) (updA X2 2 K)) _ := hP
              have hD : va_D A (mW G h0 a (upd (upd (upd (upd (upd (upd (upd (upd (upd (upd (upd (upd (upd (upd (upd F 15 0) 16 pl722) 27 (nI nd)) 31 (nI wr2)) 34 (nI lz)) 35 (nI dc)) 44 (nI fd)) 49 (nI (md + 1))) 59 (nI bk)) 60 (nI pr2)) 64 (nI at720)) 65 ne0) 66 (nI lk)) 67 (nI mf)) 68 (nI (mm + 1))) (updA X2 2 K)) := mW_D hD
              refine lv_aload_n hx hb dX12_method_264 rfl (lv_at hl 5 rfl) ?_
              refine r_get (v := .ref (a 26)) hx hb hown hq hE hP 38 90 tFX12_38 (by decide) pw_1457 rfl dX12_method_265 ?_
              refine lv_iload_n hx hb dX12_method_268 rfl (lv_at hl 4 rfl) ?_
              refine r_ldz (f := (X2 26)) (j := d) hx hb hE hP 26 (ma_26 G a _) rfl (by omega) (by decide) dX12_method_269 ?_
              rcases (hps2.1 d (by omega)).2.2.1 with e734 | e734
              · have hce735 : X2 26 d = 0 := e734
                refine lv_topi (fun x732 e733 => ?_)
                obtain rfl : x732 = 0 := e733.trans e734
                refine lv_if_eq (tgt := 280) hx hb dX12_method_270 (by decide) (fun c736 => ?_) (fun c736 => absurd c736 (by decide))
                refine lv_aload_n hx hb dX12_method_280 rfl (lv_at hl 5 rfl) ?_
                refine r_get (v := .ref (a 44)) hx hb hown hq hE hP 58 144 tFX12_58 (by decide) pw_1475 rfl dX12_method_281 ?_
                refine lv_iload hx hb dX12_method_284 (lv_at hl 1 rfl) ?_
                refine lv_aload_n hx hb dX12_method_286 rfl (lv_at hl 5 rfl) ?_
                refine r_get (v := .int (nI bk)) hx hb hown hq hE hP 59 422 tFX12_59 (by decide) pw_1724 rfl dX12_method_287 ?_
                refine r_sti (f := (X2 44)) (j := md) hx hb hE hP hD hS 44 (ma_44 G a _) rfl (mas_44 G a _) (by omega) (by decide) dX12_method_290 (fun H locs hP hD hS => ?_)
                have hP : va_P G.1 pCl (mW G h0 a (upd (upd (upd (upd (upd (upd (upd (upd (upd (upd (upd (upd (upd (upd (upd F 15 0) 16 pl722) 27 (nI nd)) 31 (nI wr2)) 34 (nI lz)) 35 (nI dc)) 44 (nI fd)) 49 (nI (md + 1))) 59 (nI bk)) 60 (nI pr2)) 64 (nI at720)) 65 ne0) 66 (nI lk)) 67 (nI mf)) 68 (nI (mm + 1))) (updA (stR X2 44 md (nI bk)) 2 K)) _ := hP
                have hD : va_D A (mW G h0 a (upd (upd (upd (upd (upd (upd (upd (upd (upd (upd (upd (upd (upd (upd (upd F 15 0) 16 pl722) 27 (nI nd)) 31 (nI wr2)) 34 (nI lz)) 35 (nI dc)) 44 (nI fd)) 49 (nI (md + 1))) 59 (nI bk)) 60 (nI pr2)) 64 (nI at720)) 65 ne0) 66 (nI lk)) 67 (nI mf)) 68 (nI (mm + 1))) (updA (stR X2 44 md (nI bk)) 2 K)) := mW_D hD
                have hkq737 : Kq 0 B (stR X2 44 md (nI bk)) := (Kq.st hkq2 (by omega))
                have hce738 : (stR X2 44 md (nI bk)) 36 md = (nI d) := ((st_ne (by omega)).trans hc36)
                have hce739 : (stR X2 44 md (nI bk)) 37 md = (nI v2) := ((st_ne (by omega)).trans hc37)
                have hce740 : (stR X2 44 md (nI bk)) 38 md = (nI tn) := ((st_ne (by omega)).trans hc38)
                have hce741 : (stR X2 44 md (nI bk)) 39 md = y := ((st_ne (by omega)).trans hc39)
                have hce742 : (stR X2 44 md (nI bk)) 40 md = (nI pr) := ((st_ne (by omega)).trans hc40)
                have hce743 : (stR X2 44 md (nI bk)) 41 md = (nI q2) := ((st_ne (by omega)).trans hc41)
                have hce744 : (stR X2 44 md (nI bk)) 42 md = (-1) := ((st_ne (by omega)).trans hc42)
                have hce745 : (stR X2 44 md (nI bk)) 43 md = (-1) := ((st_ne (by omega)).trans hc43)
                have hce746 : (stR X2 44 md (nI bk)) 44 md = (nI bk) := st_eq
                have hce747 : (stR X2 44 md (nI bk)) 26 d = 0 := ((st_ne (by omega)).trans hce735)
                have hty748 : tkRow ((stR X2 44 md (nI bk)) 19) wr2 T := hy2
                have hps749 : PS T nm wr2 lz dc fd md pr2 bk (stR X2 44 md (nI bk)) := (PS.same hps2 (by omega) (by omega) (fun r i q1 q2 q3 => st_ne (fun e => by rw [e.1, e.2] at q3; exact absurd (show md < md from q3) (by omega))))
                have hfm750 : FrM K T wr2 (stR X2 44 md (nI bk)) nd md := (FrM.same hfm2 (by omega) (fun j i q1 q2 q3 => st_ne (by omega)) (fun i q => st_ne (by omega)))
                have hlr751 : lsRow ((stR X2 44 md (nI bk)) 22) ((stR X2 44 md (nI bk)) 23) lz T := hlr2
                refine lv_aload_n hx hb dX12_method_291 rfl (lv_at hl 5 rfl) ?_
                refine lv_dup hx hb dX12_method_292 rfl ?_
                refine r_get (v := .int (nI bk)) hx hb hown hq hE hP 59 422 tFX12_59 (by decide) pw_1724 rfl dX12_method_293 ?_
                refine lv_iconst (v := 1) hx hb dX12_method_296 (by decide) ?_
                refine lv_iadd hx hb dX12_method_297 ?_
                refine lv_topi (fun x752 e753 => ?_)
                obtain rfl : x752 = nI (bk + 1) := e753.trans (nI_add (bk) (1))
                refine r_put (v := (nI (bk + 1))) (ty := .int) hx hb hown hq hE hP hD hS 59 422 tFX12_59 (by decide) pw_1724 (by decide) rfl rfl (ms_59 a _ _) dX12_method_298 (fun H locs hP hD hS => ?_)
                refine lv_aload_n hx hb dX12_method_301 rfl (lv_at hl 5 rfl) ?_
                refine lv_iconst (v := 0) hx hb dX12_method_302 (by decide) ?_
                refine r_put (v := 0) (ty := .int) hx hb hown hq hE hP hD hS 65 366 tFX12_65 (by decide) pw_1612 (by decide) rfl rfl (ms_65 a _ _) dX12_method_303 (fun H locs hP hD hS => ?_)
                refine lv_aload_n hx hb dX12_method_306 rfl (lv_at hl 5 rfl) ?_
                refine r_get (v := .ref (a 42)) hx hb hown hq hE hP 56 138 tFX12_56 (by decide) pw_1473 rfl dX12_method_307 ?_
                refine lv_iload hx hb dX12_method_310 (lv_at hl 1 rfl) ?_
                refine lv_aload_n hx hb dX12_method_312 rfl (lv_at hl 5 rfl) ?_
                have hP : va_P G.1 pCl (mW G h0 a (upd (upd (upd (upd (upd (upd (upd (upd (upd (upd (upd (upd (upd (upd (upd (upd (upd (upd (upd (upd (upd F 15 0) 16 pl722) 27 (nI nd)) 31 (nI wr2)) 34 (nI lz)) 35 (nI dc)) 44 (nI fd)) 49 (nI (md + 1))) 59 (nI (bk + 1))) 60 (nI pr2)) 64 (nI at720)) 65 0) 66 (nI lk)) 67 (nI mf)) 68 (nI (mm + 1))) 15 0) 27 (nI nd)) 31 (nI wr2)) 64 (nI at720)) 65 (nI 0)) 66 (nI lk)) (updA (stR X2 44 md (nI bk)) 2 K)) _ := mW_to (F := F) (l1 := [(15, 0), (16, pl722), (27, (nI nd)), (31, (nI wr2)), (34, (nI lz)), (35, (nI dc)), (44, (nI fd)), (49, (nI (md + 1))), (59, (nI bk)), (60, (nI pr2)), (64, (nI at720)), (65, ne0), (66, (nI lk)), (67, (nI mf)), (68, (nI (mm + 1))), (59, (nI (bk + 1))), (65, 0)]) (l2 := [(15, 0), (16, pl722), (27, (nI nd)), (31, (nI wr2)), (34, (nI lz)), (35, (nI dc)), (44, (nI fd)), (49, (nI (md + 1))), (59, (nI (bk + 1))), (60, (nI pr2)), (64, (nI at720)), (65, 0), (66, (nI lk)), (67, (nI mf)), (68, (nI (mm + 1))), (15, 0), (27, (nI nd)), (31, (nI wr2)), (64, (nI at720)), (65, (nI 0)), (66, (nI lk))]) (V := [0, pl722, (nI nd), (nI wr2), (nI lz), (nI dc), (nI fd), (nI (md + 1)), (nI (bk + 1)), (nI pr2), (nI at720), (nI 0), (nI lk), (nI mf), (nI (mm + 1)), (nI (bk + 1)), (nI 0), 0, pl722, (nI nd), (nI wr2), (nI lz), (nI dc), (nI fd), (nI (md + 1)), (nI (bk + 1)), (nI pr2), (nI at720), (nI 0), (nI lk), (nI mf), (nI (mm + 1)), 0, (nI nd), (nI wr2), (nI at720), (nI 0), (nI lk)]) rfl rfl rfl hP
                have hD : va_D A (mW G h0 a (upd (upd (upd (upd (upd (upd (upd (upd (upd (upd (upd (upd (upd (upd (upd (upd (upd (upd (upd (upd (upd F 15 0) 16 pl722) 27 (nI nd)) 31 (nI wr2)) 34 (nI lz)) 35 (nI dc)) 44 (nI fd)) 49 (nI (md + 1))) 59 (nI (bk + 1))) 60 (nI pr2)) 64 (nI at720)) 65 0) 66 (nI lk)) 67 (nI mf)) 68 (nI (mm + 1))) 15 0) 27 (nI nd)) 31 (nI wr2)) 64 (nI at720)) 65 (nI 0)) 66 (nI lk)) (updA (stR X2 44 md (nI bk)) 2 K)) := mW_D hD
                refine pc_V0 (G := G) (As := []) (rest := [.int (nI md), .ref (a 42)]) hx hb hml hown hq hE hX pX0_al hP hD hS hA hl.1 ((RB_all l G 21) h0 a (upd (upd (upd (upd (upd (upd (upd (upd (upd (upd (upd (upd (upd (upd (upd F 15 0) 16 pl722) 27 (nI nd)) 31 (nI wr2)) 34 (nI lz)) 35 (nI dc)) 44 (nI fd)) 49 (nI (md + 1))) 59 (nI (bk + 1))) 60 (nI pr2)) 64 (nI at720)) 65 0) 66 (nI lk)) 67 (nI mf)) 68 (nI (mm + 1))) (stR X2 44 md (nI bk)) at720 T 0 nd wr2 lk K (by omega) (by omega) hK (by omega) (by omega) (by omega) (by omega) hty748 (by omega)) (gV pw_1685 pw_1686 pw_1687 pw_1523 pw_1688) hV_X12_block 0 9 rfl rfl rfl rfl (Nat.le_of_ble_eq_true rfl) dX12_method_313 ⟨Nat.le_of_ble_eq_true rfl, Nat.le_of_ble_eq_true rfl⟩ ⟨(by show (26 * 21 + 42) + 1 ≤ 640; omega), (by show 8 + (4 + 11) + (2000 * 21 + 4200) ≤ 50000; omega)⟩ (fun v756 u754 H locs hw755 hP hD hS => ?_)
                obtain ⟨at757, fa758, pl759, nd760, lk761, wr762, r763, X764⟩ := u754
                obtain ⟨hw755, h765, h766, h767, h768, h769, h770, h771, h772, h773, h774, h775, h776, h777, h778⟩ := hw755
                replace h765 : at720 ≤ at757 := h765
                replace h766 : at757 ≤ T := h766
                replace h767 : fa758 ≤ 100 := h767
                replace h768 : nd ≤ nd760 := h768
                replace h769 : nd760 + 2 * at720 ≤ nd + 2 * at757 + 100000 * fa758 := h769
                replace h770 : nd760 + 2 * at720 ≤ nd + 2 * at757 + (60 * (20 - 0) + 50) := h770
                replace h771 : wr2 ≤ wr762 := h771
                replace h772 : wr762 + at720 ≤ wr2 + at757 := h772
                replace h773 : lk ≤ lk761 := h773
                replace h774 : lk761 ≤ lk := h774
                replace h775 : at720 + 1 ≤ at757 + fa758 := h775
                replace h776 : r763 ≤ nd760 := h776
                replace h777 : Kp (stR X2 44 md (nI bk)) X764 wr762 T := h777
                replace h778 : If (fa758 = 0) (Low (stR X2 44 md (nI bk)) X764 nd wr2 ∧ Frs K T wr762 X764 nd nd760 20000 [(r763, (281 + 4 * (20 - 0)))] ∧ kcl 10 (X764 9 r763) = true) := h778
                obtain rfl : v756 = some (.int (nI r763)) := hw755
                have hP : va_P G.1 pCl (mW G h0 a (upd (upd (upd (upd (upd (upd (upd (upd (upd (upd (upd (upd (upd (upd (upd F 15 (nI fa758)) 16 pl759) 27 (nI nd760)) 31 (nI wr762)) 34 (nI lz)) 35 (nI dc)) 44 (nI fd)) 49 (nI (md + 1))) 59 (nI (bk + 1))) 60 (nI pr2)) 64 (nI at757)) 65 0) 66 (nI lk761)) 67 (nI mf)) 68 (nI (mm + 1))) (updA X764 2 K)) _ := mW_to (F := F) (l1 := [(15, 0), (16, pl722), (27, (nI nd)), (31, (nI wr2)), (34, (nI lz)), (35, (nI dc)), (44, (nI fd)), (49, (nI (md + 1))), (59, (nI (bk + 1))), (60, (nI pr2)), (64, (nI at720)), (65, 0), (66, (nI lk)), (67, (nI mf)), (68, (nI (mm + 1))), (15, (nI fa758)), (16, pl759), (27, (nI nd760)), (31, (nI wr762)), (64, (nI at757)), (65, (nI 0)), (66, (nI lk761))]) (l2 := [(15, (nI fa758)), (16, pl759), (27, (nI nd760)), (31, (nI wr762)), (34, (nI lz)), (35, (nI dc)), (44, (nI fd)), (49, (nI (md + 1))), (59, (nI (bk + 1))), (60, (nI pr2)), (64, (nI at757)), (65, 0), (66, (nI lk761)), (67, (nI mf)), (68, (nI (mm + 1)))]) (V := [(nI fa758), pl759, (nI nd760), (nI wr762), (nI lz), (nI dc), (nI fd), (nI (md + 1)), (nI (bk + 1)), (nI pr2), (nI at757), 0, (nI lk761), (nI mf), (nI (mm + 1)), (nI fa758), pl759, (nI nd760), (nI wr762), (nI at757), 0, (nI lk761), (nI fa758), pl759, (nI nd760), (nI wr762), (nI lz), (nI dc), (nI fd), (nI (md + 1)), (nI (bk + 1)), (nI pr2), (nI at757), 0, (nI lk761), (nI mf), (nI (mm + 1))]) rfl rfl rfl hP
                have hD : va_D A (mW G h0 a (upd (upd (upd (upd (upd (upd (upd (upd (upd (upd (upd (upd (upd (upd (upd F 15 (nI fa758)) 16 pl759) 27 (nI nd760)) 31 (nI wr762)) 34 (nI lz)) 35 (nI dc)) 44 (nI fd)) 49 (nI (md + 1))) 59 (nI (bk + 1))) 60 (nI pr2)) 64 (nI at757)) 65 0) 66 (nI lk761)) 67 (nI mf)) 68 (nI (mm + 1))) (updA X764 2 K)) := mW_D hD
                refine W.widen (k := 0) (n := 0) (Nat.le_of_ble_eq_true rfl) (Nat.le_of_ble_eq_true rfl) ?_
                refine W.eq (g2 := F0 m 316 ls [.int (nI r763), .int (nI md), .ref (a 42)]) rfl ?_
                obtain rfl : lk = lk761 := (by omega)
                rcases Nat.eq_zero_or_pos fa758 with e779 | e779
                · subst e779
                  have hP : va_P G.1 pCl (mW G h0 a (upd (upd (upd (upd (upd (upd (upd (upd (upd (upd (upd (upd (upd (upd (upd F 15 0) 16 pl759) 27 (nI nd760)) 31 (nI wr762)) 34 (nI lz)) 35 (nI dc)) 44 (nI fd)) 49 (nI (md + 1))) 59 (nI (bk + 1))) 60 (nI pr2)) 64 (nI at757)) 65 0) 66 (nI lk)) 67 (nI mf)) 68 (nI (mm + 1))) (updA X764 2 K)) _ := hP
                  have hD : va_D A (mW G h0 a (upd (upd (upd (upd (upd (upd (upd (upd (upd (upd (upd (upd (upd (upd (upd F 15 0) 16 pl759) 27 (nI nd760)) 31 (nI wr762)) 34 (nI lz)) 35 (nI dc)) 44 (nI fd)) 49 (nI (md + 1))) 59 (nI (bk + 1))) 60 (nI pr2)) 64 (nI at757)) 65 0) 66 (nI lk)) 67 (nI mf)) 68 (nI (mm + 1))) (updA X764 2 K)) := mW_D hD
                  obtain ⟨hlw780, hf781, hc782⟩ := h778 rfl
                  have hkq783 : Kq 0 B X764 := (Kq.kp hkq737 h777)
                  have hce784 : X764 36 md = (nI d) := ((congrFun (h777.1 36 (by omega)) md).trans hce738)
                  have hce785 : X764 37 md = (nI v2) := ((congrFun (h777.1 37 (by omega)) md).trans hce739)
                  have hce786 : X764 38 md = (nI tn) := ((congrFun (h777.1 38 (by omega)) md).trans hce740)
                  have hce787 : X764 39 md = y := ((congrFun (h777.1 39 (by omega)) md).trans hce741)
                  have hce788 : X764 40 md = (nI pr) := ((congrFun (h777.1 40 (by omega)) md).trans hce742)
                  have hce789 : X764 41 md = (nI q2) := ((congrFun (h777.1 41 (by omega)) md).trans hce743)
                  have hce790 : X764 42 md = (-1) := ((congrFun (h777.1 42 (by omega)) md).trans hce744)
                  have hce791 : X764 43 md = (-1) := ((congrFun (h777.1 43 (by omega)) md).trans hce745)
                  have hce792 : X764 44 md = (nI bk) := ((congrFun (h777.1 44 (by omega)) md).trans hce746)
                  have hce793 : X764 26 d = 0 := ((congrFun (h777.1 26 (by omega)) d).trans hce747)
                  have hty794 : tkRow (X764 19) wr762 T := h777.2
                  have hps795 : PS T nm wr762 lz dc fd md pr2 bk X764 := (PS.same hps749 (by omega) (by omega) (fun r i q1 q2 q3 => congrFun (h777.1 r (by omega)) i))
                  have hfm796 : FrM K T wr762 X764 nd md := (FrM.same hfm750 (by omega) (fun j i q1 q2 q3 => hlw780.1 j i q1 (by omega) (by omega)) (fun i q => congrFun (h777.1 42 (by omega)) i))
                  have hlr797 : lsRow (X764 22) (X764 23) lz T := (by rw [h777.1 22 (by omega), h777.1 23 (by omega)]; exact hlr751)
                  have hm798 := Frs.mem hf781
                  refine r_sti (f := (X764 42)) (j := md) hx hb hE hP hD hS 42 (ma_42 G a _) rfl (mas_42 G a _) (by omega) (by decide) dX12_method_316 (fun H locs hP hD hS => ?_)
                  have hP : va_P G.1 pCl (mW G h0 a (upd (upd (upd (upd (upd (upd (upd (upd (upd (upd (upd (upd (upd (upd (upd F 15 0) 16 pl759) 27 (nI nd760)) 31 (nI wr762)) 34 (nI lz)) 35 (nI dc)) 44 (nI fd)) 49 (nI (md + 1))) 59 (nI (bk + 1))) 60 (nI pr2)) 64 (nI at757)) 65 0) 66 (nI lk)) 67 (nI mf)) 68 (nI (mm + 1))) (updA (stR X764 42 md (nI r763)) 2 K)) _ := hP
                  have hD : va_D A (mW G h0 a (upd (upd (upd (upd (upd (upd (upd (upd (upd (upd (upd (upd (upd (upd (upd F 15 0) 16 pl759) 27 (nI nd760)) 31 (nI wr762)) 34 (nI lz)) 35 (nI dc)) 44 (nI fd)) 49 (nI (md + 1))) 59 (nI (bk + 1))) 60 (nI pr2)) 64 (nI at757)) 65 0) 66 (nI lk)) 67 (nI mf)) 68 (nI (mm + 1))) (updA (stR X764 42 md (nI r763)) 2 K)) := mW_D hD
                  have hkq799 : Kq 0 B (stR X764 42 md (nI r763)) := (Kq.st hkq783 (by omega))
                  have hce800 : (stR X764 42 md (nI r763)) 36 md = (nI d) := ((st_ne (by omega)).trans hce784)
                  have hce801 : (stR X764 42 md (nI r763)) 37 md = (nI v2) := ((st_ne (by omega)).trans hce785)
                  have hce802 : (stR X764 42 md (nI r763)) 38 md = (nI tn) := ((st_ne (by omega)).trans hce786)
                  have hce803 : (stR X764 42 md (nI r763)) 39 md = y := ((st_ne (by omega)).trans hce787)
                  have hce804 : (stR X764 42 md (nI r763)) 40 md = (nI pr) := ((st_ne (by omega)).trans hce788)
                  have hce805 : (stR X764 42 md (nI r763)) 41 md = (nI q2) := ((st_ne (by omega)).trans hce789)
                  have hce806 : (stR X764 42 md (nI r763)) 42 md = (nI r763) := st_eq
                  have hce807 : (stR X764 42 md (nI r763)) 43 md = (-1) := ((st_ne (by omega)).trans hce791)
                  have hce808 : (stR X764 42 md (nI r763)) 44 md = (nI bk) := ((st_ne (by omega)).trans hce792)
                  have hce809 : (stR X764 42 md (nI r763)) 26 d = 0 := ((st_ne (by omega)).trans hce793)
                  have hty810 : tkRow ((stR X764 42 md (nI r763)) 19) wr762 T := hty794
                  have hps811 : PS T nm wr762 lz dc fd md pr2 bk (stR X764 42 md (nI r763)) := (PS.same hps795 (by omega) (by omega) (fun r i q1 q2 q3 => st_ne (fun e => by rw [e.1, e.2] at q3; exact absurd (show md < md from q3) (by omega))))
                  have hfm812 : FrM K T wr762 (stR X764 42 md (nI r763)) nd md := (FrM.same hfm796 (by omega) (fun j i q1 q2 q3 => st_ne (by omega)) (fun i q => st_ne (by omega)))
                  have hlr813 : lsRow ((stR X764 42 md (nI r763)) 22) ((stR X764 42 md (nI r763)) 23) lz T := hlr797
                  refine lv_aload_n hx hb dX12_method_317 rfl (lv_at hl 5 rfl) ?_
                  refine r_get (v := .ref (a 43)) hx hb hown hq hE hP 57 141 tFX12_57 (by decide) pw_1474 rfl dX12_method_318 ?_
                  refine lv_iload hx hb dX12_method_321 (lv_at hl 1 rfl) ?_
                  refine lv_aload_n hx hb dX12_method_323 rfl (lv_at hl 5 rfl) ?_
                  refine r_get (v := .int (nI at757)) hx hb hown hq hE hP 64 343 tFX12_64 (by decide) pw_1592 rfl dX12_method_324 ?_
                  refine lv_iconst (v := 1) hx hb dX12_method_327 (by decide) ?_
                  refine lv_isub hx hb dX12_method_328 ?_
                  refine lv_topi (fun x814 e815 => ?_)
                  obtain rfl : x814 = nI (at757 - 1) := e815.trans (nI_subN (a := 1) (b := at757) (by omega))
                  refine r_sti (f := ((stR X764 42 md (nI r763)) 43)) (j := md) hx hb hE hP hD hS 43 (ma_43 G a _) rfl (mas_43 G a _) (by omega) (by decide) dX12_method_329 (fun H locs hP hD hS => ?_)
                  have hP : va_P G.1 pCl (mW G h0 a (upd (upd (upd (upd (upd (upd (upd (upd (upd (upd (upd (upd (upd (upd (upd F 15 0) 16 pl759) 27 (nI nd760)) 31 (nI wr762)) 34 (nI lz)) 35 (nI dc)) 44 (nI fd)) 49 (nI (md + 1))) 59 (nI (bk + 1))) 60 (nI pr2)) 64 (nI at757)) 65 0) 66 (nI lk)) 67 (nI mf)) 68 (nI (mm + 1))) (updA (stR (stR X764 42 md (nI r763)) 43 md (nI (at757 - 1))) 2 K)) _ := hP
                  have hD : va_D A (mW G h0 a (upd (upd (upd (upd (upd (upd (upd (upd (upd (upd (upd (upd (upd (upd (upd F 15 0) 16 pl759) 27 (nI nd760)) 31 (nI wr762)) 34 (nI lz)) 35 (nI dc)) 44 (nI fd)) 49 (nI (md + 1))) 59 (nI (bk + 1))) 60 (nI pr2)) 64 (nI at757)) 65 0) 66 (nI lk)) 67 (nI mf)) 68 (nI (mm + 1))) (updA (stR (stR X764 42 md (nI r763)) 43 md (nI (at757 - 1))) 2 K)) := mW_D hD
                  have hkq816 : Kq 0 B (stR (stR X764 42 md (nI r763)) 43 md (nI (at757 - 1))) := (Kq.st hkq799 (by omega))
                  have hce817 : (stR (stR X764 42 md (nI r763)) 43 md (nI (at757 - 1))) 36 md = (nI d) := ((st_ne (by omega)).trans hce800)
                  have hce818 : (stR (stR X764 42 md (nI r763)) 43 md (nI (at757 - 1))) 37 md = (nI v2) := ((st_ne (by omega)).trans hce801)
                  have hce819 : (stR (stR X764 42 md (nI r763)) 43 md (nI (at757 - 1))) 38 md = (nI tn) := ((st_ne (by omega)).trans hce802)
                  have hce820 : (stR (stR X764 42 md (nI r763)) 43 md (nI (at757 - 1))) 39 md = y := ((st_ne (by omega)).trans hce803)
                  have hce821 : (stR (stR X764 42 md (nI r763)) 43 md (nI (at757 - 1))) 40 md = (nI pr) := ((st_ne (by omega)).trans hce804)
                  have hce822 : (stR (stR X764 42 md (nI r763)) 43 md (nI (at757 - 1))) 41 md = (nI q2) := ((st_ne (by omega)).trans hce805)
                  have hce823 : (stR (stR X764 42 md (nI r763)) 43 md (nI (at757 - 1))) 42 md = (nI r763) := ((st_ne (by omega)).trans hce806)
                  have hce824 : (stR (stR X764 42 md (nI r763)) 43 md (nI (at757 - 1))) 43 md = (nI (at757 - 1)) := st_eq
                  have hce825 : (stR (stR X764 42 md (nI r763)) 43 md (nI (at757 - 1))) 44 md = (nI bk) := ((st_ne (by omega)).trans hce808)
                  have hce826 : (stR (stR X764 42 md (nI r763)) 43 md (nI (at757 - 1))) 26 d = 0 := ((st_ne (by omega)).trans hce809)
                  have hty827 : tkRow ((stR (stR X764 42 md (nI r763)) 43 md (nI (at757 - 1))) 19) wr762 T := hty810
                  have hps828 : PS T nm wr762 lz dc fd md pr2 bk (stR (stR X764 42 md (nI r763)) 43 md (nI (at757 - 1))) := (PS.same hps811 (by omega) (by omega) (fun r i q1 q2 q3 => st_ne (fun e => by rw [e.1, e.2] at q3; exact absurd (show md < md from q3) (by omega))))
                  have hfm829 : FrM K T wr762 (stR (stR X764 42 md (nI r763)) 43 md (nI (at757 - 1))) nd md := (FrM.same hfm812 (by omega) (fun j i q1 q2 q3 => st_ne (by omega)) (fun i q => st_ne (by omega)))
                  have hlr830 : lsRow ((stR (stR X764 42 md (nI r763)) 43 md (nI (at757 - 1))) 22) ((stR (stR X764 42 md (nI r763)) 43 md (nI (at757 - 1))) 23) lz T := hlr813
                  have hps831 : PS T nm wr762 lz dc fd (md + 1) pr2 (bk + 1) (stR (stR X764 42 md (nI r763)) 43 md (nI (at757 - 1))) := (PS.metB hps828 hce817 (by omega) (by omega) hce818 (by omega) hce819 (by omega) hce820 (OrY.mono hyr (by omega)) hce821 hce822 (by omega) (by omega) hce823 (by have z9 := Frs.mem hf781; omega) hce824 (by omega) hce825 hce826)
                  have hf832 : Frs K T wr762 (stR (stR X764 42 md (nI r763)) 43 md (nI (at757 - 1))) nd nd760 20000 [(r763, (281 + 4 * (20 - 0)))] := (Frs.same hf781 (by omega) (fun j i q1 q2 q3 q4 => (st_ne (by omega)).trans (st_ne (by omega))))
                  have hfm833 : FrM K T wr762 (stR (stR X764 42 md (nI r763)) 43 md (nI (at757 - 1))) nd760 (md + 1) := (FrM.more hfm829 hf832 (by omega) (by omega) (by omega) (by omega) hce823 ((st_ne (by omega)).trans ((st_ne (by omega)).trans (kcl_10 hc782))))
                  have hz834 : at0 ≤ at757 := (by omega)
                  have hz835 : at757 ≤ T := (by omega)
                  have hz836 : 0 ≤ 100 := (by omega)
                  have hz837 : at0 + 1 ≤ at757 + 0 := (by omega)
                  have hz838 : Kq 0 B (stR (stR X764 42 md (nI r763)) 43 md (nI (at757 - 1))) := hkq816
                  have hz839 : If (0 = 0) ((nd760 ≤ 2 * at757 ∧ wr762 ≤ at757 ∧ lz ≤ at757 ∧ pr2 ≤ at757 ∧ dc ≤ 37 ∧ dc ≤ dc ∧ (bk + 1) ≤ (md + 1) ∧ wr ≤ wr762 ∧ lz ≤ lz) ∧ ((md + 1) + 240 ≤ 30 * dc + (mm + 1) ∧ fd + 160 ≤ 20 * dc + mf ∧ mf ≤ 20 ∧ (mm + 1) ≤ 30 ∧ dc = dc) ∧ PS T nm wr762 lz dc fd (md + 1) pr2 (bk + 1) (stR (stR X764 42 md (nI r763)) 43 md (nI (at757 - 1))) ∧ FrM K T wr762 (stR (stR X764 42 md (nI r763)) 43 md (nI (at757 - 1))) nd760 (md + 1) ∧ tkRow ((stR (stR X764 42 md (nI r763)) 43 md (nI (at757 - 1))) 19) wr762 T ∧ lsRow ((stR (stR X764 42 md (nI r763)) 43 md (nI (at757 - 1))) 22) ((stR (stR X764 42 md (nI r763)) 43 md (nI (at757 - 1))) 23) lz T) := (fun _ => ⟨by omega, by omega, hps831, hfm833, hty827, hlr830⟩)
                  have hP : va_P G.1 pCl (mW G h0 a (upd (upd (upd (upd (upd (upd (upd (upd (upd (upd (upd (upd (upd (upd (upd F 15 (nI 0)) 16 pl759) 27 (nI nd760)) 31 (nI wr762)) 34 (nI lz)) 35 (nI dc)) 44 (nI fd)) 49 (nI (md + 1))) 59 (nI (bk + 1))) 60 (nI pr2)) 64 (nI at757)) 65 (0 : Int32)) 66 (nI lk)) 67 (nI mf)) 68 (nI (mm + 1))) (updA (stR (stR X764 42 md (nI r763)) 43 md (nI (at757 - 1))) 2 K)) _ := mW_to (F := F) (l1 := [(15, 0), (16, pl759), (27, (nI nd760)), (31, (nI wr762)), (34, (nI lz)), (35, (nI dc)), (44, (nI fd)), (49, (nI (md + 1))), (59, (nI (bk + 1))), (60, (nI pr2)), (64, (nI at757)), (65, 0), (66, (nI lk)), (67, (nI mf)), (68, (nI (mm + 1)))]) (l2 := [(15, (nI 0)), (16, pl759), (27, (nI nd760)), (31, (nI wr762)), (34, (nI lz)), (35, (nI dc)), (44, (nI fd)), (49, (nI (md + 1))), (59, (nI (bk + 1))), (60, (nI pr2)), (64, (nI at757)), (65, (0 : Int32)), (66, (nI lk)), (67, (nI mf)), (68, (nI (mm + 1)))]) (V := [(nI 0), pl759, (nI nd760), (nI wr762), (nI lz), (nI dc), (nI fd), (nI (md + 1)), (nI (bk + 1)), (nI pr2), (nI at757), (0 : Int32), (nI lk), (nI mf), (nI (mm + 1)), (nI 0), pl759, (nI nd760), (nI wr762), (nI lz), (nI dc), (nI fd), (nI (md + 1)), (nI (bk + 1)), (nI pr2), (nI at757), (0 : Int32), (nI lk), (nI mf), (nI (mm + 1))]) rfl rfl rfl hP
                  have hD : va_D A (mW G h0 a (upd (upd (upd (upd (upd (upd (upd (upd (upd (upd (upd (upd (upd (upd (upd F 15 (nI 0)) 16 pl759) 27 (nI nd760)) 31 (nI wr762)) 34 (nI lz)) 35 (nI dc)) 44 (nI fd)) 49 (nI (md + 1))) 59 (nI (bk + 1))) 60 (nI pr2)) 64 (nI at757)) 65 (0 : Int32)) 66 (nI lk)) 67 (nI mf)) 68 (nI (mm + 1))) (updA (stR (stR X764 42 md (nI r763)) 43 md (nI (at757 - 1))) 2 K)) := mW_D hD
                  exact W.vret hx hb hr (fun t9 ht9 hW9 => ⟨⟨_, (at757, 0, pl759, nd760, wr762, lz, dc, fd, (md + 1), pr2, (bk + 1), mf, (mm + 1), (0 : Int32), (stR (stR X764 42 md (nI r763)) 43 md (nI (at757 - 1)))), rfl, ⟨rfl, hz834, hz835, hz836, hz837, hz838, hz839⟩, by rw [ht9]; exact hP, hD⟩, hS.F ht9⟩) hS.2.2 dX12_method_330
                · have e779 := e779
                  have hkq840 : Kq 0 B X764 := (Kq.kp hkq737 h777)
                  have hce841 : X764 36 md = (nI d) := ((congrFun (h777.1 36 (by omega)) md).trans hce738)
                  have hce842 : X764 37 md = (nI v2) := ((congrFun (h777.1 37 (by omega)) md).trans hce739)
                  have hce843 : X764 38 md = (nI tn) := ((congrFun (h777.1 38 (by omega)) md).trans hce740)
                  have hce844 : X764 39 md = y := ((congrFun (h777.1 39 (by omega)) md).trans hce741)
                  have hce845 : X764 40 md = (nI pr) := ((congrFun (h777.1 40 (by omega)) md).trans hce742)
                  have hce846 : X764 41 md = (nI q2) := ((congrFun (h777.1 41 (by omega)) md).trans hce743)
                  have hce847 : X764 42 md = (-1) := ((congrFun (h777.1 42 (by omega)) md).trans hce744)
                  have hce848 : X764 43 md = (-1) := ((congrFun (h777.1 43 (by omega)) md).trans hce745)
                  have hce849 : X764 44 md = (nI bk) := ((congrFun (h777.1 44 (by omega)) md).trans hce746)
                  have hce850 : X764 26 d = 0 := ((congrFun (h777.1 26 (by omega)) d).trans hce747)
                  have hty851 : tkRow (X764 19) wr762 T := h777.2
                  refine r_sti (f := (X764 42)) (j := md) hx hb hE hP hD hS 42 (ma_42 G a _) rfl (mas_42 G a _) (by omega) (by decide) dX12_method_316 (fun H locs hP hD hS => ?_)
                  have hP : va_P G.1 pCl (mW G h0 a (upd (upd (upd (upd (upd (upd (upd (upd (upd (upd (upd (upd (upd (upd (upd F 15 (nI fa758)) 16 pl759) 27 (nI nd760)) 31 (nI wr762)) 34 (nI lz)) 35 (nI dc)) 44 (nI fd)) 49 (nI (md + 1))) 59 (nI (bk + 1))) 60 (nI pr2)) 64 (nI at757)) 65 0) 66 (nI lk)) 67 (nI mf)) 68 (nI (mm + 1))) (updA (stR X764 42 md (nI r763)) 2 K)) _ := hP
                  have hD : va_D A (mW G h0 a (upd (upd (upd (upd (upd (upd (upd (upd (upd (upd (upd (upd (upd (upd (upd F 15 (nI fa758)) 16 pl759) 27 (nI nd760)) 31 (nI wr762)) 34 (nI lz)) 35 (nI dc)) 44 (nI fd)) 49 (nI (md + 1))) 59 (nI (bk + 1))) 60 (nI pr2)) 64 (nI at757)) 65 0) 66 (nI lk)) 67 (nI mf)) 68 (nI (mm + 1))) (updA (stR X764 42 md (nI r763)) 2 K)) := mW_D hD
                  have hkq852 : Kq 0 B (stR X764 42 md (nI r763)) := (Kq.st hkq840 (by omega))
                  have hce853 : (stR X764 42 md (nI r763)) 36 md = (nI d) := ((st_ne (by omega)).trans hce841)
                  have hce854 : (stR X764 42 md (nI r763)) 37 md = (nI v2) := ((st_ne (by omega)).trans hce842)
                  have hce855 : (stR X764 42 md (nI r763)) 38 md = (nI tn) := ((st_ne (by omega)).trans hce843)
                  have hce856 : (stR X764 42 md (nI r763)) 39 md = y := ((st_ne (by omega)).trans hce844)
                  have hce857 : (stR X764 42 md (nI r763)) 40 md = (nI pr) := ((st_ne (by omega)).trans hce845)
                  have hce858 : (stR X764 42 md (nI r763)) 41 md = (nI q2) := ((st_ne (by omega)).trans hce846)
                  have hce859 : (stR X764 42 md (nI r763)) 42 md = (nI r763) := st_eq
                  have hce860 : (stR X764 42 md (nI r763)) 43 md = (-1) := ((st_ne (by omega)).trans hce848)
                  have hce861 : (stR X764 42 md (nI r763)) 44 md = (nI bk) := ((st_ne (by omega)).trans hce849)
                  have hce862 : (stR X764 42 md (nI r763)) 26 d = 0 := ((st_ne (by omega)).trans hce850)
                  have hty863 : tkRow ((stR X764 42 md (nI r763)) 19) wr762 T := hty851
                  refine lv_aload_n hx hb dX12_method_317 rfl (lv_at hl 5 rfl) ?_
                  refine r_get (v := .ref (a 43)) hx hb hown hq hE hP 57 141 tFX12_57 (by decide) pw_1474 rfl dX12_method_318 ?_
                  refine lv_iload hx hb dX12_method_321 (lv_at hl 1 rfl) ?_
                  refine lv_aload_n hx hb dX12_method_323 rfl (lv_at hl 5 rfl) ?_
                  refine r_get (v := .int (nI at757)) hx hb hown hq hE hP 64 343 tFX12_64 (by decide) pw_1592 rfl dX12_method_324 ?_
                  refine lv_iconst (v := 1) hx hb dX12_method_327 (by decide) ?_
                  refine lv_isub hx hb dX12_method_328 ?_
                  refine lv_topi (fun x864 e865 => ?_)
                  obtain rfl : x864 = nI (at757 - 1) := e865.trans (nI_subN (a := 1) (b := at757) (by omega))
                  refine r_sti (f := ((stR X764 42 md (nI r763)) 43)) (j := md) hx hb hE hP hD hS 43 (ma_43 G a _) rfl (mas_43 G a _) (by omega) (by decide) dX12_method_329 (fun H locs hP hD hS => ?_)
                  have hP : va_P G.1 pCl (mW G h0 a (upd (upd (upd (upd (upd (upd (upd (upd (upd (upd (upd (upd (upd (upd (upd F 15 (nI fa758)) 16 pl759) 27 (nI nd760)) 31 (nI wr762)) 34 (nI lz)) 35 (nI dc)) 44 (nI fd)) 49 (nI (md + 1))) 59 (nI (bk + 1))) 60 (nI pr2)) 64 (nI at757)) 65 0) 66 (nI lk)) 67 (nI mf)) 68 (nI (mm + 1))) (updA (stR (stR X764 42 md (nI r763)) 43 md (nI (at757 - 1))) 2 K)) _ := hP
                  have hD : va_D A (mW G h0 a (upd (upd (upd (upd (upd (upd (upd (upd (upd (upd (upd (upd (upd (upd (upd F 15 (nI fa758)) 16 pl759) 27 (nI nd760)) 31 (nI wr762)) 34 (nI lz)) 35 (nI dc)) 44 (nI fd)) 49 (nI (md + 1))) 59 (nI (bk + 1))) 60 (nI pr2)) 64 (nI at757)) 65 0) 66 (nI lk)) 67 (nI mf)) 68 (nI (mm + 1))) (updA (stR (stR X764 42 md (nI r763)) 43 md (nI (at757 - 1))) 2 K)) := mW_D hD
                  have hkq866 : Kq 0 B (stR (stR X764 42 md (nI r763)) 43 md (nI (at757 - 1))) := (Kq.st hkq852 (by omega))
                  have hce867 : (stR (stR X764 42 md (nI r763)) 43 md (nI (at757 - 1))) 36 md = (nI d) := ((st_ne (by omega)).trans hce853)
                  have hce868 : (stR (stR X764 42 md (nI r763)) 43 md (nI (at757 - 1))) 37 md = (nI v2) := ((st_ne (by omega)).trans hce854)
                  have hce869 : (stR (stR X764 42 md (nI r763)) 43 md (nI (at757 - 1))) 38 md = (nI tn) := ((st_ne (by omega)).trans hce855)
                  have hce870 : (stR (stR X764 42 md (nI r763)) 43 md (nI (at757 - 1))) 39 md = y := ((st_ne (by omega)).trans hce856)
                  have hce871 : (stR (stR X764 42 md (nI r763)) 43 md (nI (at757 - 1))) 40 md = (nI pr) := ((st_ne (by omega)).trans hce857)
                  have hce872 : (stR (stR X764 42 md (nI r763)) 43 md (nI (at757 - 1))) 41 md = (nI q2) := ((st_ne (by omega)).trans hce858)
                  have hce873 : (stR (stR X764 42 md (nI r763)) 43 md (nI (at757 - 1))) 42 md = (nI r763) := ((st_ne (by omega)).trans hce859)
                  have hce874 : (stR (stR X764 42 md (nI r763)) 43 md (nI (at757 - 1))) 43 md = (nI (at757 - 1)) := st_eq
                  have hce875 : (stR (stR X764 42 md (nI r763)) 43 md (nI (at757 - 1))) 44 md = (nI bk) := ((st_ne (by omega)).trans hce861)
                  have hce876 : (stR (stR X764 42 md (nI r763)) 43 md (nI (at757 - 1))) 26 d = 0 := ((st_ne (by omega)).trans hce862)
                  have hty877 : tkRow ((stR (stR X764 42 md (nI r763)) 43 md (nI (at757 - 1))) 19) wr762 T := hty863
                  have hz878 : at0 ≤ at757 := (by omega)
                  have hz879 : at757 ≤ T := (by omega)
                  have hz880 : fa758 ≤ 100 := (by omega)
                  have hz881 : at0 + 1 ≤ at757 + fa758 := (by omega)
                  have hz882 : Kq 0 B (stR (stR X764 42 md (nI r763)) 43 md (nI (at757 - 1))) := hkq866
                  have hz883 : If (fa758 = 0) ((nd760 ≤ 2 * at757 ∧ wr762 ≤ at757 ∧ lz ≤ at757 ∧ pr2 ≤ at757 ∧ dc ≤ 37 ∧ dc ≤ dc ∧ (bk + 1) ≤ (md + 1) ∧ wr ≤ wr762 ∧ lz ≤ lz) ∧ ((md + 1) + 240 ≤ 30 * dc + (mm + 1) ∧ fd + 160 ≤ 20 * dc + mf ∧ mf ≤ 20 ∧ (mm + 1) ≤ 30 ∧ dc = dc) ∧ PS T nm wr762 lz dc fd (md + 1) pr2 (bk + 1) (stR (stR X764 42 md (nI r763)) 43 md (nI (at757 - 1))) ∧ FrM K T wr762 (stR (stR X764 42 md (nI r763)) 43 md (nI (at757 - 1))) nd760 (md + 1) ∧ tkRow ((stR (stR X764 42 md (nI r763)) 43 md (nI (at757 - 1))) 19) wr762 T ∧ lsRow ((stR (stR X764 42 md (nI r763)) 43 md (nI (at757 - 1))) 22) ((stR (stR X764 42 md (nI r763)) 43 md (nI (at757 - 1))) 23) lz T) := (fun e => absurd e (by omega))
                  have hP : va_P G.1 pCl (mW G h0 a (upd (upd (upd (upd (upd (upd (upd (upd (upd (upd (upd (upd (upd (upd (upd F 15 (nI fa758)) 16 pl759) 27 (nI nd760)) 31 (nI wr762)) 34 (nI lz)) 35 (nI dc)) 44 (nI fd)) 49 (nI (md + 1))) 59 (nI (bk + 1))) 60 (nI pr2)) 64 (nI at757)) 65 (0 : Int32)) 66 (nI lk)) 67 (nI mf)) 68 (nI (mm + 1))) (updA (stR (stR X764 42 md (nI r763)) 43 md (nI (at757 - 1))) 2 K)) _ := mW_to (F := F) (l1 := [(15, (nI fa758)), (16, pl759), (27, (nI nd760)), (31, (nI wr762)), (34, (nI lz)), (35, (nI dc)), (44, (nI fd)), (49, (nI (md + 1))), (59, (nI (bk + 1))), (60, (nI pr2)), (64, (nI at757)), (65, 0), (66, (nI lk)), (67, (nI mf)), (68, (nI (mm + 1)))]) (l2 := [(15, (nI fa758)), (16, pl759), (27, (nI nd760)), (31, (nI wr762)), (34, (nI lz)), (35, (nI dc)), (44, (nI fd)), (49, (nI (md + 1))), (59, (nI (bk + 1))), (60, (nI pr2)), (64, (nI at757)), (65, (0 : Int32)), (66, (nI lk)), (67, (nI mf)), (68, (nI (mm + 1)))]) (V := [(nI fa758), pl759, (nI nd760), (nI wr762), (nI lz), (nI dc), (nI fd), (nI (md + 1)), (nI (bk + 1)), (nI pr2), (nI at757), (0 : Int32), (nI lk), (nI mf), (nI (mm + 1)), (nI fa758), pl759, (nI nd760), (nI wr762), (nI lz), (nI dc), (nI fd), (nI (md + 1)), (nI (bk + 1)), (nI pr2), (nI at757), (0 : Int32), (nI lk), (nI mf), (nI (mm + 1))]) rfl rfl rfl hP
                  have hD : va_D A (mW G h0 a (upd (upd (upd (upd (upd (upd (upd (upd (upd (upd (upd (upd (upd (upd (upd F 15 (nI fa758)) 16 pl759) 27 (nI nd760)) 31 (nI wr762)) 34 (nI lz)) 35 (nI dc)) 44 (nI fd)) 49 (nI (md + 1))) 59 (nI (bk + 1))) 60 (nI pr2)) 64 (nI at757)) 65 (0 : Int32)) 66 (nI lk)) 67 (nI mf)) 68 (nI (mm + 1))) (updA (stR (stR X764 42 md (nI r763)) 43 md (nI (at757 - 1))) 2 K)) := mW_D hD
                  exact W.vret hx hb hr (fun t9 ht9 hW9 => ⟨⟨_, (at757, fa758, pl759, nd760, wr762, lz, dc, fd, (md + 1), pr2, (bk + 1), mf, (mm + 1), (0 : Int32), (stR (stR X764 42 md (nI r763)) 43 md (nI (at757 - 1)))), rfl, ⟨rfl, hz878, hz879, hz880, hz881, hz882, hz883⟩, by rw [ht9]; exact hP, hD⟩, hS.F ht9⟩) hS.2.2 dX12_method_330
              · have hce884 : X2 26 d = 1 := e734
                refine lv_topi (fun x732 e733 => ?_)
                obtain rfl : x732 = 1 := e733.trans e734
                refine lv_if_eq (tgt := 280) hx hb dX12_method_270 (by decide) (fun c885 => absurd c885 (by decide)) (fun c885 => ?_)
                refine lv_aload_n hx hb dX12_method_273 rfl (lv_at hl 5 rfl) ?_
                refine lv_bipush (v := 59) hx hb dX12_method_274 (by decide) ?_
                have hP : va_P G.1 pCl (mW G h0 a (upd (upd (upd (upd (upd (upd (upd (upd (upd (upd (upd (upd (upd (upd (upd (upd (upd F 15 0) 16 pl722) 27 (nI nd)) 31 (nI wr2)) 34 (nI lz)) 35 (nI dc)) 44 (nI fd)) 49 (nI (md + 1))) 59 (nI bk)) 60 (nI pr2)) 64 (nI at720)) 65 ne0) 66 (nI lk)) 67 (nI mf)) 68 (nI (mm + 1))) 15 (nI 0)) 64 (nI at720)) (updA (updA X2 2 K) 2 K)) _ := hP
                have hD : va_D A (mW G h0 a (upd (upd (upd (upd (upd (upd (upd (upd (upd (upd (upd (upd (upd (upd (upd (upd (upd F 15 0) 16 pl722) 27 (nI nd)) 31 (nI wr2)) 34 (nI lz)) 35 (nI dc)) 44 (nI fd)) 49 (nI (md + 1))) 59 (nI bk)) 60 (nI pr2)) 64 (nI at720)) 65 ne0) 66 (nI lk)) 67 (nI mf)) 68 (nI (mm + 1))) 15 (nI 0)) 64 (nI at720)) (updA (updA X2 2 K) 2 K)) := mW_D hD
                refine pc_V0 (G := G) (As := [.int 59]) (rest := []) hx hb hml hown hq hE hX pX0_al hP hD hS hA hl.1 (R_take l G h0 a (upd (upd (upd (upd (upd (upd (upd (upd (upd (upd (upd (upd (upd (upd (upd F 15 0) 16 pl722) 27 (nI nd)) 31 (nI wr2)) 34 (nI lz)) 35 (nI dc)) 44 (nI fd)) 49 (nI (md + 1))) 59 (nI bk)) 60 (nI pr2)) 64 (nI at720)) 65 ne0) 66 (nI lk)) 67 (nI mf)) 68 (nI (mm + 1))) (updA X2 2 K) at720 T 0 K 59 (by omega) (by omega) hK (by omega) (by decide) (by decide)) (gV pw_1614 pw_1615 pw_1616 pw_1523 pw_1601) hV_X12_take 0 9 rfl rfl rfl rfl (Nat.le_of_ble_eq_true rfl) dX12_method_276 ⟨Nat.le_of_ble_eq_true rfl, Nat.le_of_ble_eq_true rfl⟩ ⟨Nat.le_of_ble_eq_true rfl, Nat.le_of_ble_eq_true rfl⟩ (fun v888 u886 H locs hw887 hP hD hS => ?_)
                obtain ⟨at889, fa890, pl891⟩ := u886
                obtain ⟨hw887, h892, h893, h894, h895, h896, h897, h898, h899⟩ := hw887
                replace h892 : at720 ≤ at889 := h892
                replace h893 : at889 ≤ T := h893
                replace h894 : 0 ≤ fa890 := h894
                replace h895 : fa890 ≤ 100 := h895
                replace h896 : If (0 < 0) (at889 = at720 ∧ fa890 = 0) := h896
                replace h897 : at889 ≤ at720 + 1 := h897
                replace h898 : at720 + 1 ≤ at889 + fa890 := h898
                replace h899 : If (fa890 = 0) (K at720 = 59) := h899
                obtain rfl : v888 = none := hw887
                have hP : va_P G.1 pCl (mW G h0 a (upd (upd (upd (upd (upd (upd (upd (upd (upd (upd (upd (upd (upd (upd (upd F 15 (nI fa890)) 16 pl891) 27 (nI nd)) 31 (nI wr2)) 34 (nI lz)) 35 (nI dc)) 44 (nI fd)) 49 (nI (md + 1))) 59 (nI bk)) 60 (nI pr2)) 64 (nI at889)) 65 ne0) 66 (nI lk)) 67 (nI mf)) 68 (nI (mm + 1))) (updA X2 2 K)) _ := mW_to (F := F) (l1 := [(15, 0), (16, pl722), (27, (nI nd)), (31, (nI wr2)), (34, (nI lz)), (35, (nI dc)), (44, (nI fd)), (49, (nI (md + 1))), (59, (nI bk)), (60, (nI pr2)), (64, (nI at720)), (65, ne0), (66, (nI lk)), (67, (nI mf)), (68, (nI (mm + 1))), (15, (nI fa890)), (16, pl891), (64, (nI at889))]) (l2 := [(15, (nI fa890)), (16, pl891), (27, (nI nd)), (31, (nI wr2)), (34, (nI lz)), (35, (nI dc)), (44, (nI fd)), (49, (nI (md + 1))), (59, (nI bk)), (60, (nI pr2)), (64, (nI at889)), (65, ne0), (66, (nI lk)), (67, (nI mf)), (68, (nI (mm + 1)))]) (V := [(nI fa890), pl891, (nI nd), (nI wr2), (nI lz), (nI dc), (nI fd), (nI (md + 1)), (nI bk), (nI pr2), (nI at889), ne0, (nI lk), (nI mf), (nI (mm + 1)), (nI fa890), pl891, (nI at889), (nI fa890), pl891, (nI nd), (nI wr2), (nI lz), (nI dc), (nI fd), (nI (md + 1)), (nI bk), (nI pr2), (nI at889), ne0, (nI lk), (nI mf), (nI (mm + 1))]) rfl rfl (show (updA (updA X2 2 K) 2 K) = (updA X2 2 K) from updsA_eq2 (F := X2) (l1 := [(2, K), (2, K)]) (l2 := [(2, K)]) (V := [K, K, K]) rfl rfl) hP
                have hD : va_D A (mW G h0 a (upd (upd (upd (upd (upd (upd (upd (upd (upd (upd (upd (upd (upd (upd (upd F 15 (nI fa890)) 16 pl891) 27 (nI nd)) 31 (nI wr2)) 34 (nI lz)) 35 (nI dc)) 44 (nI fd)) 49 (nI (md + 1))) 59 (nI bk)) 60 (nI pr2)) 64 (nI at889)) 65 ne0) 66 (nI lk)) 67 (nI mf)) 68 (nI (mm + 1))) (updA X2 2 K)) := mW_D hD
                refine W.widen (k := 0) (n := 0) (Nat.le_of_ble_eq_true rfl) (Nat.le_of_ble_eq_true rfl) ?_
                refine W.eq (g2 := F0 m 279 ls []) rfl ?_
                rcases Nat.eq_zero_or_pos fa890 with e900 | e900
                · subst e900
                  have hP : va_P G.1 pCl (mW G h0 a (upd (upd (upd (upd (upd (upd (upd (upd (upd (upd (upd (upd (upd (upd (upd F 15 0) 16 pl891) 27 (nI nd)) 31 (nI wr2)) 34 (nI lz)) 35 (nI dc)) 44 (nI fd)) 49 (nI (md + 1))) 59 (nI bk)) 60 (nI pr2)) 64 (nI at889)) 65 ne0) 66 (nI lk)) 67 (nI mf)) 68 (nI (mm + 1))) (updA X2 2 K)) _ := hP
                  have hD : va_D A (mW G h0 a (upd (upd (upd (upd (upd (upd (upd (upd (upd (upd (upd (upd (upd (upd (upd F 15 0) 16 pl891) 27 (nI nd)) 31 (nI wr2)) 34 (nI lz)) 35 (nI dc)) 44 (nI fd)) 49 (nI (md + 1))) 59 (nI bk)) 60 (nI pr2)) 64 (nI at889)) 65 ne0) 66 (nI lk)) 67 (nI mf)) 68 (nI (mm + 1))) (updA X2 2 K)) := mW_D hD
                  have hps901 : PS T nm wr2 lz dc fd (md + 1) pr2 bk X2 := (PS.metI hps2 hc36 (by omega) (by omega) hc37 (by omega) hc38 (by omega) hc39 (OrY.mono hyr (by omega)) hc40 hc41 (by omega) (by omega) hc42 hc44 hce884)
                  have hfm902 : FrM K T wr2 X2 nd (md + 1) := (FrM.none hfm2 hc42)
                  have hz903 : at0 ≤ at889 := (by omega)
                  have hz904 : at889 ≤ T := (by omega)
                  have hz905 : 0 ≤ 100 := (by omega)
                  have hz906 : at0 + 1 ≤ at889 + 0 := (by omega)
                  have hz907 : Kq 0 B X2 := hkq2
                  have hz908 : If (0 = 0) ((nd ≤ 2 * at889 ∧ wr2 ≤ at889 ∧ lz ≤ at889 ∧ pr2 ≤ at889 ∧ dc ≤ 37 ∧ dc ≤ dc ∧ bk ≤ (md + 1) ∧ wr ≤ wr2 ∧ lz ≤ lz) ∧ ((md + 1) + 240 ≤ 30 * dc + (mm + 1) ∧ fd + 160 ≤ 20 * dc + mf ∧ mf ≤ 20 ∧ (mm + 1) ≤ 30 ∧ dc = dc) ∧ PS T nm wr2 lz dc fd (md + 1) pr2 bk X2 ∧ FrM K T wr2 X2 nd (md + 1) ∧ tkRow (X2 19) wr2 T ∧ lsRow (X2 22) (X2 23) lz T) := (fun _ => ⟨by omega, by omega, hps901, hfm902, hy2, hlr2⟩)
                  have hP : va_P G.1 pCl (mW G h0 a (upd (upd (upd (upd (upd (upd (upd (upd (upd (upd (upd (upd (upd (upd (upd F 15 (nI 0)) 16 pl891) 27 (nI nd)) 31 (nI wr2)) 34 (nI lz)) 35 (nI dc)) 44 (nI fd)) 49 (nI (md + 1))) 59 (nI bk)) 60 (nI pr2)) 64 (nI at889)) 65 ne0) 66 (nI lk)) 67 (nI mf)) 68 (nI (mm + 1))) (updA X2 2 K)) _ := mW_to (F := F) (l1 := [(15, 0), (16, pl891), (27, (nI nd)), (31, (nI wr2)), (34, (nI lz)), (35, (nI dc)), (44, (nI fd)), (49, (nI (md + 1))), (59, (nI bk)), (60, (nI pr2)), (64, (nI at889)), (65, ne0), (66, (nI lk)), (67, (nI mf)), (68, (nI (mm + 1)))]) (l2 := [(15, (nI 0)), (16, pl891), (27, (nI nd)), (31, (nI wr2)), (34, (nI lz)), (35, (nI dc)), (44, (nI fd)), (49, (nI (md + 1))), (59, (nI bk)), (60, (nI pr2)), (64, (nI at889)), (65, ne0), (66, (nI lk)), (67, (nI mf)), (68, (nI (mm + 1)))]) (V := [(nI 0), pl891, (nI nd), (nI wr2), (nI lz), (nI dc), (nI fd), (nI (md + 1)), (nI bk), (nI pr2), (nI at889), ne0, (nI lk), (nI mf), (nI (mm + 1)), (nI 0), pl891, (nI nd), (nI wr2), (nI lz), (nI dc), (nI fd), (nI (md + 1)), (nI bk), (nI pr2), (nI at889), ne0, (nI lk), (nI mf), (nI (mm + 1))]) rfl rfl rfl hP
                  have hD : va_D A (mW G h0 a (upd (upd (upd (upd (upd (upd (upd (upd (upd (upd (upd (upd (upd (upd (upd F 15 (nI 0)) 16 pl891) 27 (nI nd)) 31 (nI wr2)) 34 (nI lz)) 35 (nI dc)) 44 (nI fd)) 49 (nI (md + 1))) 59 (nI bk)) 60 (nI pr2)) 64 (nI at889)) 65 ne0) 66 (nI lk)) 67 (nI mf)) 68 (nI (mm + 1))) (updA X2 2 K)) := mW_D hD
                  exact W.vret hx hb hr (fun t9 ht9 hW9 => ⟨⟨_, (at889, 0, pl891, nd, wr2, lz, dc, fd, (md + 1), pr2, bk, mf, (mm + 1), ne0, X2), rfl, ⟨rfl, hz903, hz904, hz905, hz906, hz907, hz908⟩, by rw [ht9]; exact hP, hD⟩, hS.F ht9⟩) hS.2.2 dX12_method_279
                · have e900 := e900
                  have hz909 : at0 ≤ at889 := (by omega)
                  have hz910 : at889 ≤ T := (by omega)
                  have hz911 : fa890 ≤ 100 := (by omega)
                  have hz912 : at0 + 1 ≤ at889 + fa890 := (by omega)
                  have hz913 : Kq 0 B X2 := hkq2
                  have hz914 : If (fa890 = 0) ((nd ≤ 2 * at889 ∧ wr2 ≤ at889 ∧ lz ≤ at889 ∧ pr2 ≤ at889 ∧ dc ≤ 37 ∧ dc ≤ dc ∧ bk ≤ (md + 1) ∧ wr ≤ wr2 ∧ lz ≤ lz) ∧ ((md + 1) + 240 ≤ 30 * dc + (mm + 1) ∧ fd + 160 ≤ 20 * dc + mf ∧ mf ≤ 20 ∧ (mm + 1) ≤ 30 ∧ dc = dc) ∧ PS T nm wr2 lz dc fd (md + 1) pr2 bk X2 ∧ FrM K T wr2 X2 nd (md + 1) ∧ tkRow (X2 19) wr2 T ∧ lsRow (X2 22) (X2 23) lz T) := (fun e => absurd e (by omega))
                  have hP : va_P G.1 pCl (mW G h0 a (upd (upd (upd (upd (upd (upd (upd (upd (upd (upd (upd (upd (upd (upd (upd F 15 (nI fa890)) 16 pl891) 27 (nI nd)) 31 (nI wr2)) 34 (nI lz)) 35 (nI dc)) 44 (nI fd)) 49 (nI (md + 1))) 59 (nI bk)) 60 (nI pr2)) 64 (nI at889)) 65 ne0) 66 (nI lk)) 67 (nI mf)) 68 (nI (mm + 1))) (updA X2 2 K)) _ := hP
                  have hD : va_D A (mW G h0 a (upd (upd (upd (upd (upd (upd (upd (upd (upd (upd (upd (upd (upd (upd (upd F 15 (nI fa890)) 16 pl891) 27 (nI nd)) 31 (nI wr2)) 34 (nI lz)) 35 (nI dc)) 44 (nI fd)) 49 (nI (md + 1))) 59 (nI bk)) 60 (nI pr2)) 64 (nI at889)) 65 ne0) 66 (nI lk)) 67 (nI mf)) 68 (nI (mm + 1))) (updA X2 2 K)) := mW_D hD
                  exact W.vret hx hb hr (fun t9 ht9 hW9 => ⟨⟨_, (at889, fa890, pl891, nd, wr2, lz, dc, fd, (md + 1), pr2, bk, mf, (mm + 1), ne0, X2), rfl, ⟨rfl, hz909, hz910, hz911, hz912, hz913, hz914⟩, by rw [ht9]; exact hP, hD⟩, hS.F ht9⟩) hS.2.2 dX12_method_279
            · have e731 := e731
              refine lv_aload_n hx hb dX12_method_264 rfl (lv_at hl 5 rfl) ?_
              refine r_get (v := .ref (a 26)) hx hb hown hq hE hP 38 90 tFX12_38 (by decide) pw_1457 rfl dX12_method_265 ?_
              refine lv_iload_n hx hb dX12_method_268 rfl (lv_at hl 4 rfl) ?_
              refine r_ldz (f := (X2 26)) (j := d) hx hb hE hP 26 (ma_26 G a _) rfl (by omega) (by decide) dX12_method_269 ?_
              refine lv_topi (fun x917 e918 => ?_)
              refine lv_if_eq (tgt := 280) hx hb dX12_method_270 (by decide) (fun c919 => ?_) (fun c919 => ?_)
              · refine lv_aload_n hx hb dX12_method_280 rfl (lv_at hl 5 rfl) ?_
                refine r_get (v := .ref (a 44)) hx hb hown hq hE hP 58 144 tFX12_58 (by decide) pw_1475 rfl dX12_method_281 ?_
                refine lv_iload hx hb dX12_method_284 (lv_at hl 1 rfl) ?_
                refine lv_aload_n hx hb dX12_method_286 rfl (lv_at hl 5 rfl) ?_
                refine r_get (v := .int (nI bk)) hx hb hown hq hE hP 59 422 tFX12_59 (by decide) pw_1724 rfl dX12_method_287 ?_
                refine r_sti (f := (X2 44)) (j := md) hx hb hE hP hD hS 44 (ma_44 G a _) rfl (mas_44 G a _) (by omega) (by decide) dX12_method_290 (fun H locs hP hD hS => ?_)
                have hP : va_P G.1 pCl (mW G h0 a (upd (upd (upd (upd (upd (upd (upd (upd (upd (upd (upd (upd (upd (upd (upd F 15 (nI fa721)) 16 pl722) 27 (nI nd)) 31 (nI wr2)) 34 (nI lz)) 35 (nI dc)) 44 (nI fd)) 49 (nI (md + 1))) 59 (nI bk)) 60 (nI pr2)) 64 (nI at720)) 65 ne0) 66 (nI lk)) 67 (nI mf)) 68 (nI (mm + 1))) (updA (stR X2 44 md (nI bk)) 2 K)) _ := hP
                have hD : va_D A (mW G h0 a (upd (upd (upd (upd (upd (upd (upd (upd (upd (upd (upd (upd (upd (upd (upd F 15 (nI fa721)) 16 pl722) 27 (nI nd)) 31 (nI wr2)) 34 (nI lz)) 35 (nI dc)) 44 (nI fd)) 49 (nI (md + 1))) 59 (nI bk)) 60 (nI pr2)) 64 (nI at720)) 65 ne0) 66 (nI lk)) 67 (nI mf)) 68 (nI (mm + 1))) (updA (stR X2 44 md (nI bk)) 2 K)) := mW_D hD
                have hkq920 : Kq 0 B (stR X2 44 md (nI bk)) := (Kq.st hkq2 (by omega))
                have hce921 : (stR X2 44 md (nI bk)) 36 md = (nI d) := ((st_ne (by omega)).trans hc36)
                have hce922 : (stR X2 44 md (nI bk)) 37 md = (nI v2) := ((st_ne (by omega)).trans hc37)
                have hce923 : (stR X2 44 md (nI bk)) 38 md = (nI tn) := ((st_ne (by omega)).trans hc38)
                have hce924 : (stR X2 44 md (nI bk)) 39 md = y := ((st_ne (by omega)).trans hc39)
                have hce925 : (stR X2 44 md (nI bk)) 40 md = (nI pr) := ((st_ne (by omega)).trans hc40)
                have hce926 : (stR X2 44 md (nI bk)) 41 md = (nI q2) := ((st_ne (by omega)).trans hc41)
                have hce927 : (stR X2 44 md (nI bk)) 42 md = (-1) := ((st_ne (by omega)).trans hc42)
                have hce928 : (stR X2 44 md (nI bk)) 43 md = (-1) := ((st_ne (by omega)).trans hc43)
                have hce929 : (stR X2 44 md (nI bk)) 44 md = (nI bk) := st_eq
                have hty930 : tkRow ((stR X2 44 md (nI bk)) 19) wr2 T := hy2
                refine lv_aload_n hx hb dX12_method_291 rfl (lv_at hl 5 rfl) ?_
                refine lv_dup hx hb dX12_method_292 rfl ?_
                refine r_get (v := .int (nI bk)) hx hb hown hq hE hP 59 422 tFX12_59 (by decide) pw_1724 rfl dX12_method_293 ?_
                refine lv_iconst (v := 1) hx hb dX12_method_296 (by decide) ?_
                refine lv_iadd hx hb dX12_method_297 ?_
                refine lv_topi (fun x931 e932 => ?_)
                obtain rfl : x931 = nI (bk + 1) := e932.trans (nI_add (bk) (1))
                refine r_put (v := (nI (bk + 1))) (ty := .int) hx hb hown hq hE hP hD hS 59 422 tFX12_59 (by decide) pw_1724 (by decide) rfl rfl (ms_59 a _ _) dX12_method_298 (fun H locs hP hD hS => ?_)
                refine lv_aload_n hx hb dX12_method_301 rfl (lv_at hl 5 rfl) ?_
                refine lv_iconst (v := 0) hx hb dX12_method_302 (by decide) ?_
                refine r_put (v := 0) (ty := .int) hx hb hown hq hE hP hD hS 65 366 tFX12_65 (by decide) pw_1612 (by decide) rfl rfl (ms_65 a _ _) dX12_method_303 (fun H locs hP hD hS => ?_)
                refine lv_aload_n hx hb dX12_method_306 rfl (lv_at hl 5 rfl) ?_
                refine r_get (v := .ref (a 42)) hx hb hown hq hE hP 56 138 tFX12_56 (by decide) pw_1473 rfl dX12_method_307 ?_
                refine lv_iload hx hb dX12_method_310 (lv_at hl 1 rfl) ?_
                refine lv_aload_n hx hb dX12_method_312 rfl (lv_at hl 5 rfl) ?_
                have hP : va_P G.1 pCl (mW G h0 a (upd (upd (upd (upd (upd (upd (upd (upd (upd (upd (upd (upd (upd (upd (upd (upd (upd (upd (upd F 15 (nI fa721)) 16 pl722) 27 (nI nd)) 31 (nI wr2)) 34 (nI lz)) 35 (nI dc)) 44 (nI fd)) 49 (nI (md + 1))) 59 (nI (bk + 1))) 60 (nI pr2)) 64 (nI at720)) 65 0) 66 (nI lk)) 67 (nI mf)) 68 (nI (mm + 1))) 15 (nI fa721)) 27 (nI nd)) 31 (nI wr2)) 64 (nI at720)) (updA (stR X2 44 md (nI bk)) 2 K)) _ := mW_to (F := F) (l1 := [(15, (nI fa721)), (16, pl722), (27, (nI nd)), (31, (nI wr2)), (34, (nI lz)), (35, (nI dc)), (44, (nI fd)), (49, (nI (md + 1))), (59, (nI bk)), (60, (nI pr2)), (64, (nI at720)), (65, ne0), (66, (nI lk)), (67, (nI mf)), (68, (nI (mm + 1))), (59, (nI (bk + 1))), (65, 0)]) (l2 := [(15, (nI fa721)), (16, pl722), (27, (nI nd)), (31, (nI wr2)), (34, (nI lz)), (35, (nI dc)), (44, (nI fd)), (49, (nI (md + 1))), (59, (nI (bk + 1))), (60, (nI pr2)), (64, (nI at720)), (65, 0), (66, (nI lk)), (67, (nI mf)), (68, (nI (mm + 1))), (15, (nI fa721)), (27, (nI nd)), (31, (nI wr2)), (64, (nI at720))]) (V := [(nI fa721), pl722, (nI nd), (nI wr2), (nI lz), (nI dc), (nI fd), (nI (md + 1)), (nI (bk + 1)), (nI pr2), (nI at720), 0, (nI lk), (nI mf), (nI (mm + 1)), (nI (bk + 1)), 0, (nI fa721), pl722, (nI nd), (nI wr2), (nI lz), (nI dc), (nI fd), (nI (md + 1)), (nI (bk + 1)), (nI pr2), (nI at720), 0, (nI lk), (nI mf), (nI (mm + 1)), (nI fa721), (nI nd), (nI wr2), (nI at720)]) rfl rfl rfl hP
                have hD : va_D A (mW G h0 a (upd (upd (upd (upd (upd (upd (upd (upd (upd (upd (upd (upd (upd (upd (upd (upd (upd (upd (upd F 15 (nI fa721)) 16 pl722) 27 (nI nd)) 31 (nI wr2)) 34 (nI lz)) 35 (nI dc)) 44 (nI fd)) 49 (nI (md + 1))) 59 (nI (bk + 1))) 60 (nI pr2)) 64 (nI at720)) 65 0) 66 (nI lk)) 67 (nI mf)) 68 (nI (mm + 1))) 15 (nI fa721)) 27 (nI nd)) 31 (nI wr2)) 64 (nI at720)) (updA (stR X2 44 md (nI bk)) 2 K)) := mW_D hD
                refine pc_V0 (G := G) (As := []) (rest := [.int (nI md), .ref (a 42)]) hx hb hml hown hq hE hX pX0_al hP hD hS hA hl.1 (RF_block l G h0 a (upd (upd (upd (upd (upd (upd (upd (upd (upd (upd (upd (upd (upd (upd (upd F 15 (nI fa721)) 16 pl722) 27 (nI nd)) 31 (nI wr2)) 34 (nI lz)) 35 (nI dc)) 44 (nI fd)) 49 (nI (md + 1))) 59 (nI (bk + 1))) 60 (nI pr2)) 64 (nI at720)) 65 0) 66 (nI lk)) 67 (nI mf)) 68 (nI (mm + 1))) (stR X2 44 md (nI bk)) at720 T fa721 nd wr2 K (by omega) (by omega) hK (by omega) e731 (by omega) (by omega) hty930) (gV pw_1685 pw_1686 pw_1687 pw_1523 pw_1688) hV_X12_block 0 9 rfl rfl rfl rfl (Nat.le_of_ble_eq_true rfl) dX12_method_313 ⟨Nat.le_of_ble_eq_true rfl, Nat.le_of_ble_eq_true rfl⟩ ⟨Nat.le_of_ble_eq_true rfl, Nat.le_of_ble_eq_true rfl⟩ (fun v935 u933 H locs hw934 hP hD hS => ?_)
                obtain ⟨pl936, wr937, X938⟩ := u933
                obtain ⟨hw934, h939, h940, h941⟩ := hw934
                replace h939 : wr2 ≤ wr937 := h939
                replace h940 : wr937 ≤ wr2 := h940
                replace h941 : Kp (stR X2 44 md (nI bk)) X938 wr937 T := h941
                obtain rfl : v935 = some (.int (nI nd)) := hw934
                have hP : va_P G.1 pCl (mW G h0 a (upd (upd (upd (upd (upd (upd (upd (upd (upd (upd (upd (upd (upd (upd (upd F 15 (nI fa721)) 16 pl936) 27 (nI (nd + 1))) 31 (nI wr937)) 34 (nI lz)) 35 (nI dc)) 44 (nI fd)) 49 (nI (md + 1))) 59 (nI (bk + 1))) 60 (nI pr2)) 64 (nI at720)) 65 0) 66 (nI lk)) 67 (nI mf)) 68 (nI (mm + 1))) (updA X938 2 K)) _ := mW_to (F := F) (l1 := [(15, (nI fa721)), (16, pl722), (27, (nI nd)), (31, (nI wr2)), (34, (nI lz)), (35, (nI dc)), (44, (nI fd)), (49, (nI (md + 1))), (59, (nI (bk + 1))), (60, (nI pr2)), (64, (nI at720)), (65, 0), (66, (nI lk)), (67, (nI mf)), (68, (nI (mm + 1))), (15, (nI fa721)), (16, pl936), (27, (nI (nd + 1))), (31, (nI wr937)), (64, (nI at720))]) (l2 := [(15, (nI fa721)), (16, pl936), (27, (nI (nd + 1))), (31, (nI wr937)), (34, (nI lz)), (35, (nI dc)), (44, (nI fd)), (49, (nI (md + 1))), (59, (nI (bk + 1))), (60, (nI pr2)), (64, (nI at720)), (65, 0), (66, (nI lk)), (67, (nI mf)), (68, (nI (mm + 1)))]) (V := [(nI fa721), pl936, (nI (nd + 1)), (nI wr937), (nI lz), (nI dc), (nI fd), (nI (md + 1)), (nI (bk + 1)), (nI pr2), (nI at720), 0, (nI lk), (nI mf), (nI (mm + 1)), (nI fa721), pl936, (nI (nd + 1)), (nI wr937), (nI at720), (nI fa721), pl936, (nI (nd + 1)), (nI wr937), (nI lz), (nI dc), (nI fd), (nI (md + 1)), (nI (bk + 1)), (nI pr2), (nI at720), 0, (nI lk), (nI mf), (nI (mm + 1))]) rfl rfl rfl hP
                have hD : va_D A (mW G h0 a (upd (upd (upd (upd (upd (upd (upd (upd (upd (upd (upd (upd (upd (upd (upd F 15 (nI fa721)) 16 pl936) 27 (nI (nd + 1))) 31 (nI wr937)) 34 (nI lz)) 35 (nI dc)) 44 (nI fd)) 49 (nI (md + 1))) 59 (nI (bk + 1))) 60 (nI pr2)) 64 (nI at720)) 65 0) 66 (nI lk)) 67 (nI mf)) 68 (nI (mm + 1))) (updA X938 2 K)) := mW_D hD
                refine W.widen (k := 0) (n := 0) (Nat.le_of_ble_eq_true rfl) (Nat.le_of_ble_eq_true rfl) ?_
                refine W.eq (g2 := F0 m 316 ls [.int (nI nd), .int (nI md), .ref (a 42)]) rfl ?_
                have hkq942 : Kq 0 B X938 := (Kq.kp hkq920 h941)
                have hce943 : X938 36 md = (nI d) := ((congrFun (h941.1 36 (by omega)) md).trans hce921)
                have hce944 : X938 37 md = (nI v2) := ((congrFun (h941.1 37 (by omega)) md).trans hce922)
                have hce945 : X938 38 md = (nI tn) := ((congrFun (h941.1 38 (by omega)) md).trans hce923)
                have hce946 : X938 39 md = y := ((congrFun (h941.1 39 (by omega)) md).trans hce924)
                have hce947 : X938 40 md = (nI pr) := ((congrFun (h941.1 40 (by omega)) md).trans hce925)
                have hce948 : X938 41 md = (nI q2) := ((congrFun (h941.1 41 (by omega)) md).trans hce926)
                have hce949 : X938 42 md = (-1) := ((congrFun (h941.1 42 (by omega)) md).trans hce927)
                have hce950 : X938 43 md = (-1) := ((congrFun (h941.1 43 (by omega)) md).trans hce928)
                have hce951 : X938 44 md = (nI bk) := ((congrFun (h941.1 44 (by omega)) md).trans hce929)
                have hty952 : tkRow (X938 19) wr937 T := h941.2
                refine r_sti (f := (X938 42)) (j := md) hx hb hE hP hD hS 42 (ma_42 G a _) rfl (mas_42 G a _) (by omega) (by decide) dX12_method_316 (fun H locs hP hD hS => ?_)
                have hP : va_P G.1 pCl (mW G h0 a (upd (upd (upd (upd (upd (upd (upd (upd (upd (upd (upd (upd (upd (upd (upd F 15 (nI fa721)) 16 pl936) 27 (nI (nd + 1))) 31 (nI wr937)) 34 (nI lz)) 35 (nI dc)) 44 (nI fd)) 49 (nI (md + 1))) 59 (nI (bk + 1))) 60 (nI pr2)) 64 (nI at720)) 65 0) 66 (nI lk)) 67 (nI mf)) 68 (nI (mm + 1))) (updA (stR X938 42 md (nI nd)) 2 K)) _ := hP
                have hD : va_D A (mW G h0 a (upd (upd (upd (upd (upd (upd (upd (upd (upd (upd (upd (upd (upd (upd (upd F 15 (nI fa721)) 16 pl936) 27 (nI (nd + 1))) 31 (nI wr937)) 34 (nI lz)) 35 (nI dc)) 44 (nI fd)) 49 (nI (md + 1))) 59 (nI (bk + 1))) 60 (nI pr2)) 64 (nI at720)) 65 0) 66 (nI lk)) 67 (nI mf)) 68 (nI (mm + 1))) (updA (stR X938 42 md (nI nd)) 2 K)) := mW_D hD
                have hkq953 : Kq 0 B (stR X938 42 md (nI nd)) := (Kq.st hkq942 (by omega))
                have hce954 : (stR X938 42 md (nI nd)) 36 md = (nI d) := ((st_ne (by omega)).trans hce943)
                have hce955 : (stR X938 42 md (nI nd)) 37 md = (nI v2) := ((st_ne (by omega)).trans hce944)
                have hce956 : (stR X938 42 md (nI nd)) 38 md = (nI tn) := ((st_ne (by omega)).trans hce945)
                have hce957 : (stR X938 42 md (nI nd)) 39 md = y := ((st_ne (by omega)).trans hce946)
                have hce958 : (stR X938 42 md (nI nd)) 40 md = (nI pr) := ((st_ne (by omega)).trans hce947)
                have hce959 : (stR X938 42 md (nI nd)) 41 md = (nI q2) := ((st_ne (by omega)).trans hce948)
                have hce960 : (stR X938 42 md (nI nd)) 42 md = (nI nd) := st_eq
                have hce961 : (stR X938 42 md (nI nd)) 43 md = (-1) := ((st_ne (by omega)).trans hce950)
                have hce962 : (stR X938 42 md (nI nd)) 44 md = (nI bk) := ((st_ne (by omega)).trans hce951)
                have hty963 : tkRow ((stR X938 42 md (nI nd)) 19) wr937 T := hty952
                refine lv_aload_n hx hb dX12_method_317 rfl (lv_at hl 5 rfl) ?_
                refine r_get (v := .ref (a 43)) hx hb hown hq hE hP 57 141 tFX12_57 (by decide) pw_1474 rfl dX12_method_318 ?_
                refine lv_iload hx hb dX12_method_321 (lv_at hl 1 rfl) ?_
                refine lv_aload_n hx hb dX12_method_323 rfl (lv_at hl 5 rfl) ?_
                refine r_get (v := .int (nI at720)) hx hb hown hq hE hP 64 343 tFX12_64 (by decide) pw_1592 rfl dX12_method_324 ?_
                refine lv_iconst (v := 1) hx hb dX12_method_327 (by decide) ?_
                refine lv_isub hx hb dX12_method_328 ?_
                refine lv_topi (fun x964 e965 => ?_)
                obtain rfl : x964 = nI (at720 - 1) := e965.trans (nI_subN (a := 1) (b := at720) (by omega))
                refine r_sti (f := ((stR X938 42 md (nI nd)) 43)) (j := md) hx hb hE hP hD hS 43 (ma_43 G a _) rfl (mas_43 G a _) (by omega) (by decide) dX12_method_329 (fun H locs hP hD hS => ?_)
                have hP : va_P G.1 pCl (mW G h0 a (upd (upd (upd (upd (upd (upd (upd (upd (upd (upd (upd (upd (upd (upd (upd F 15 (nI fa721)) 16 pl936) 27 (nI (nd + 1))) 31 (nI wr937)) 34 (nI lz)) 35 (nI dc)) 44 (nI fd)) 49 (nI (md + 1))) 59 (nI (bk + 1))) 60 (nI pr2)) 64 (nI at720)) 65 0) 66 (nI lk)) 67 (nI mf)) 68 (nI (mm + 1))) (updA (stR (stR X938 42 md (nI nd)) 43 md (nI (at720 - 1))) 2 K)) _ := hP
                have hD : va_D A (mW G h0 a (upd (upd (upd (upd (upd (upd (upd (upd (upd (upd (upd (upd (upd (upd (upd F 15 (nI fa721)) 16 pl936) 27 (nI (nd + 1))) 31 (nI wr937)) 34 (nI lz)) 35 (nI dc)) 44 (nI fd)) 49 (nI (md + 1))) 59 (nI (bk + 1))) 60 (nI pr2)) 64 (nI at720)) 65 0) 66 (nI lk)) 67 (nI mf)) 68 (nI (mm + 1))) (updA (stR (stR X938 42 md (nI nd)) 43 md (nI (at720 - 1))) 2 K)) := mW_D hD
                have hkq966 : Kq 0 B (stR (stR X938 42 md (nI nd)) 43 md (nI (at720 - 1))) := (Kq.st hkq953 (by omega))
                have hce967 : (stR (stR X938 42 md (nI nd)) 43 md (nI (at720 - 1))) 36 md = (nI d) := ((st_ne (by omega)).trans hce954)
                have hce968 : (stR (stR X938 42 md (nI nd)) 43 md (nI (at720 - 1))) 37 md = (nI v2) := ((st_ne (by omega)).trans hce955)
                have hce969 : (stR (stR X938 42 md (nI nd)) 43 md (nI (at720 - 1))) 38 md = (nI tn) := ((st_ne (by omega)).trans hce956)
                have hce970 : (stR (stR X938 42 md (nI nd)) 43 md (nI (at720 - 1))) 39 md = y := ((st_ne (by omega)).trans hce957)
                have hce971 : (stR (stR X938 42 md (nI nd)) 43 md (nI (at720 - 1))) 40 md = (nI pr) := ((st_ne (by omega)).trans hce958)
                have hce972 : (stR (stR X938 42 md (nI nd)) 43 md (nI (at720 - 1))) 41 md = (nI q2) := ((st_ne (by omega)).trans hce959)
                have hce973 : (stR (stR X938 42 md (nI nd)) 43 md (nI (at720 - 1))) 42 md = (nI nd) := ((st_ne (by omega)).trans hce960)
                have hce974 : (stR (stR X938 42 md (nI nd)) 43 md (nI (at720 - 1))) 43 md = (nI (at720 - 1)) := st_eq
                have hce975 : (stR (stR X938 42 md (nI nd)) 43 md (nI (at720 - 1))) 44 md = (nI bk) := ((st_ne (by omega)).trans hce962)
                have hty976 : tkRow ((stR (stR X938 42 md (nI nd)) 43 md (nI (at720 - 1))) 19) wr937 T := hty963
                have hz977 : at0 ≤ at720 := (by omega)
                have hz978 : at720 ≤ T := (by omega)
                have hz979 : fa721 ≤ 100 := (by omega)
                have hz980 : at0 + 1 ≤ at720 + fa721 := (by omega)
                have hz981 : Kq 0 B (stR (stR X938 42 md (nI nd)) 43 md (nI (at720 - 1))) := hkq966
                have hz982 : If (fa721 = 0) (((nd + 1) ≤ 2 * at720 ∧ wr937 ≤ at720 ∧ lz ≤ at720 ∧ pr2 ≤ at720 ∧ dc ≤ 37 ∧ dc ≤ dc ∧ (bk + 1) ≤ (md + 1) ∧ wr ≤ wr937 ∧ lz ≤ lz) ∧ ((md + 1) + 240 ≤ 30 * dc + (mm + 1) ∧ fd + 160 ≤ 20 * dc + mf ∧ mf ≤ 20 ∧ (mm + 1) ≤ 30 ∧ dc = dc) ∧ PS T nm wr937 lz dc fd (md + 1) pr2 (bk + 1) (stR (stR X938 42 md (nI nd)) 43 md (nI (at720 - 1))) ∧ FrM K T wr937 (stR (stR X938 42 md (nI nd)) 43 md (nI (at720 - 1))) (nd + 1) (md + 1) ∧ tkRow ((stR (stR X938 42 md (nI nd)) 43 md (nI (at720 - 1))) 19) wr937 T ∧ lsRow ((stR (stR X938 42 md (nI nd)) 43 md (nI (at720 - 1))) 22) ((stR (stR X938 42 md (nI nd)) 43 md (nI (at720 - 1))) 23) lz T) := (fun e => absurd e (by omega))
                have hP : va_P G.1 pCl (mW G h0 a (upd (upd (upd (upd (upd (upd (upd (upd (upd (upd (upd (upd (upd (upd (upd F 15 (nI fa721)) 16 pl936) 27 (nI (nd + 1))) 31 (nI wr937)) 34 (nI lz)) 35 (nI dc)) 44 (nI fd)) 49 (nI (md + 1))) 59 (nI (bk + 1))) 60 (nI pr2)) 64 (nI at720)) 65 (0 : Int32)) 66 (nI lk)) 67 (nI mf)) 68 (nI (mm + 1))) (updA (stR (stR X938 42 md (nI nd)) 43 md (nI (at720 - 1))) 2 K)) _ := mW_to (F := F) (l1 := [(15, (nI fa721)), (16, pl936), (27, (nI (nd + 1))), (31, (nI wr937)), (34, (nI lz)), (35, (nI dc)), (44, (nI fd)), (49, (nI (md + 1))), (59, (nI (bk + 1))), (60, (nI pr2)), (64, (nI at720)), (65, 0), (66, (nI lk)), (67, (nI mf)), (68, (nI (mm + 1)))]) (l2 := [(15, (nI fa721)), (16, pl936), (27, (nI (nd + 1))), (31, (nI wr937)), (34, (nI lz)), (35, (nI dc)), (44, (nI fd)), (49, (nI (md + 1))), (59, (nI (bk + 1))), (60, (nI pr2)), (64, (nI at720)), (65, (0 : Int32)), (66, (nI lk)), (67, (nI mf)), (68, (nI (mm + 1)))]) (V := [(nI fa721), pl936, (nI (nd + 1)), (nI wr937), (nI lz), (nI dc), (nI fd), (nI (md + 1)), (nI (bk + 1)), (nI pr2), (nI at720), (0 : Int32), (nI lk), (nI mf), (nI (mm + 1)), (nI fa721), pl936, (nI (nd + 1)), (nI wr937), (nI lz), (nI dc), (nI fd), (nI (md + 1)), (nI (bk + 1)), (nI pr2), (nI at720), (0 : Int32), (nI lk), (nI mf), (nI (mm + 1))]) rfl rfl rfl hP
                have hD : va_D A (mW G h0 a (upd (upd (upd (upd (upd (upd (upd (upd (upd (upd (upd (upd (upd (upd (upd F 15 (nI fa721)) 16 pl936) 27 (nI (nd + 1))) 31 (nI wr937)) 34 (nI lz)) 35 (nI dc)) 44 (nI fd)) 49 (nI (md + 1))) 59 (nI (bk + 1))) 60 (nI pr2)) 64 (nI at720)) 65 (0 : Int32)) 66 (nI lk)) 67 (nI mf)) 68 (nI (mm + 1))) (updA (stR (stR X938 42 md (nI nd)) 43 md (nI (at720 - 1))) 2 K)) := mW_D hD
                exact W.vret hx hb hr (fun t9 ht9 hW9 => ⟨⟨_, (at720, fa721, pl936, (nd + 1), wr937, lz, dc, fd, (md + 1), pr2, (bk + 1), mf, (mm + 1), (0 : Int32), (stR (stR X938 42 md (nI nd)) 43 md (nI (at720 - 1)))), rfl, ⟨rfl, hz977, hz978, hz979, hz980, hz981, hz982⟩, by rw [ht9]; exact hP, hD⟩, hS.F ht9⟩) hS.2.2 dX12_method_330
              · refine lv_aload_n hx hb dX12_method_273 rfl (lv_at hl 5 rfl) ?_
                refine lv_bipush (v := 59) hx hb dX12_method_274 (by decide) ?_
                have hP : va_P G.1 pCl (mW G h0 a (upd (upd (upd (upd (upd (upd (upd (upd (upd (upd (upd (upd (upd (upd (upd (upd (upd F 15 (nI fa721)) 16 pl722) 27 (nI nd)) 31 (nI wr2)) 34 (nI lz)) 35 (nI dc)) 44 (nI fd)) 49 (nI (md + 1))) 59 (nI bk)) 60 (nI pr2)) 64 (nI at720)) 65 ne0) 66 (nI lk)) 67 (nI mf)) 68 (nI (mm + 1))) 15 (nI fa721)) 64 (nI at720)) (updA (updA X2 2 K) 2 K)) _ := mW_to (F := F) (l1 := [(15, (nI fa721)), (16, pl722), (27, (nI nd)), (31, (nI wr2)), (34, (nI lz)), (35, (nI dc)), (44, (nI fd)), (49, (nI (md + 1))), (59, (nI bk)), (60, (nI pr2)), (64, (nI at720)), (65, ne0), (66, (nI lk)), (67, (nI mf)), (68, (nI (mm + 1)))]) (l2 := [(15, (nI fa721)), (16, pl722), (27, (nI nd)), (31, (nI wr2)), (34, (nI lz)), (35, (nI dc)), (44, (nI fd)), (49, (nI (md + 1))), (59, (nI bk)), (60, (nI pr2)), (64, (nI at720)), (65, ne0), (66, (nI lk)), (67, (nI mf)), (68, (nI (mm + 1))), (15, (nI fa721)), (64, (nI at720))]) (V := [(nI fa721), pl722, (nI nd), (nI wr2), (nI lz), (nI dc), (nI fd), (nI (md + 1)), (nI bk), (nI pr2), (nI at720), ne0, (nI lk), (nI mf), (nI (mm + 1)), (nI fa721), pl722, (nI nd), (nI wr2), (nI lz), (nI dc), (nI fd), (nI (md + 1)), (nI bk), (nI pr2), (nI at720), ne0, (nI lk), (nI mf), (nI (mm + 1)), (nI fa721), (nI at720)]) rfl rfl (show (updA X2 2 K) = (updA (updA X2 2 K) 2 K) from updsA_eq2 (F := X2) (l1 := [(2, K)]) (l2 := [(2, K), (2, K)]) (V := [K, K, K]) rfl rfl) hP
                have hD : va_D A (mW G h0 a (upd (upd (upd (upd (upd (upd (upd (upd (upd (upd (upd (upd (upd (upd (upd (upd (upd F 15 (nI fa721)) 16 pl722) 27 (nI nd)) 31 (nI wr2)) 34 (nI lz)) 35 (nI dc)) 44 (nI fd)) 49 (nI (md + 1))) 59 (nI bk)) 60 (nI pr2)) 64 (nI at720)) 65 ne0) 66 (nI lk)) 67 (nI mf)) 68 (nI (mm + 1))) 15 (nI fa721)) 64 (nI at720)) (updA (updA X2 2 K) 2 K)) := mW_D hD
                refine pc_V0 (G := G) (As := [.int 59]) (rest := []) hx hb hml hown hq hE hX pX0_al hP hD hS hA hl.1 (R_take l G h0 a (upd (upd (upd (upd (upd (upd (upd (upd (upd (upd (upd (upd (upd (upd (upd F 15 (nI fa721)) 16 pl722) 27 (nI nd)) 31 (nI wr2)) 34 (nI lz)) 35 (nI dc)) 44 (nI fd)) 49 (nI (md + 1))) 59 (nI bk)) 60 (nI pr2)) 64 (nI at720)) 65 ne0) 66 (nI lk)) 67 (nI mf)) 68 (nI (mm + 1))) (updA X2 2 K) at720 T fa721 K 59 (by omega) (by omega) hK (by omega) (by decide) (by decide)) (gV pw_1614 pw_1615 pw_1616 pw_1523 pw_1601) hV_X12_take 0 9 rfl rfl rfl rfl (Nat.le_of_ble_eq_true rfl) dX12_method_276 ⟨Nat.le_of_ble_eq_true rfl, Nat.le_of_ble_eq_true rfl⟩ ⟨Nat.le_of_ble_eq_true rfl, Nat.le_of_ble_eq_true rfl⟩ (fun v985 u983 H locs hw984 hP hD hS => ?_)
                obtain ⟨at986, fa987, pl988⟩ := u983
                obtain ⟨hw984, h989, h990, h991, h992, h993, h994, h995, h996⟩ := hw984
                replace h989 : at720 ≤ at986 := h989
                replace h990 : at986 ≤ T := h990
                replace h991 : fa721 ≤ fa987 := h991
                replace h992 : fa987 ≤ 100 := h992
                replace h993 : If (0 < fa721) (at986 = at720 ∧ fa987 = fa721) := h993
                replace h994 : at986 ≤ at720 + 1 := h994
                replace h995 : at720 + 1 ≤ at986 + fa987 := h995
                replace h996 : If (fa987 = 0) (K at720 = 59) := h996
                obtain rfl : v985 = none := hw984
                have hP : va_P G.1 pCl (mW G h0 a (upd (upd (upd (upd (upd (upd (upd (upd (upd (upd (upd (upd (upd (upd (upd F 15 (nI fa987)) 16 pl988) 27 (nI nd)) 31 (nI wr2)) 34 (nI lz)) 35 (nI dc)) 44 (nI fd)) 49 (nI (md + 1))) 59 (nI bk)) 60 (nI pr2)) 64 (nI at986)) 65 ne0) 66 (nI lk)) 67 (nI mf)) 68 (nI (mm + 1))) (updA X2 2 K)) _ := mW_to (F := F) (l1 := [(15, (nI fa721)), (16, pl722), (27, (nI nd)), (31, (nI wr2)), (34, (nI lz)), (35, (nI dc)), (44, (nI fd)), (49, (nI (md + 1))), (59, (nI bk)), (60, (nI pr2)), (64, (nI at720)), (65, ne0), (66, (nI lk)), (67, (nI mf)), (68, (nI (mm + 1))), (15, (nI fa987)), (16, pl988), (64, (nI at986))]) (l2 := [(15, (nI fa987)), (16, pl988), (27, (nI nd)), (31, (nI wr2)), (34, (nI lz)), (35, (nI dc)), (44, (nI fd)), (49, (nI (md + 1))), (59, (nI bk)), (60, (nI pr2)), (64, (nI at986)), (65, ne0), (66, (nI lk)), (67, (nI mf)), (68, (nI (mm + 1)))]) (V := [(nI fa987), pl988, (nI nd), (nI wr2), (nI lz), (nI dc), (nI fd), (nI (md + 1)), (nI bk), (nI pr2), (nI at986), ne0, (nI lk), (nI mf), (nI (mm + 1)), (nI fa987), pl988, (nI at986), (nI fa987), pl988, (nI nd), (nI wr2), (nI lz), (nI dc), (nI fd), (nI (md + 1)), (nI bk), (nI pr2), (nI at986), ne0, (nI lk), (nI mf), (nI (mm + 1))]) rfl rfl (show (updA (updA X2 2 K) 2 K) = (updA X2 2 K) from updsA_eq2 (F := X2) (l1 := [(2, K), (2, K)]) (l2 := [(2, K)]) (V := [K, K, K]) rfl rfl) hP
                have hD : va_D A (mW G h0 a (upd (upd (upd (upd (upd (upd (upd (upd (upd (upd (upd (upd (upd (upd (upd F 15 (nI fa987)) 16 pl988) 27 (nI nd)) 31 (nI wr2)) 34 (nI lz)) 35 (nI dc)) 44 (nI fd)) 49 (nI (md + 1))) 59 (nI bk)) 60 (nI pr2)) 64 (nI at986)) 65 ne0) 66 (nI lk)) 67 (nI mf)) 68 (nI (mm + 1))) (updA X2 2 K)) := mW_D hD
                refine W.widen (k := 0) (n := 0) (Nat.le_of_ble_eq_true rfl) (Nat.le_of_ble_eq_true rfl) ?_
                refine W.eq (g2 := F0 m 279 ls []) rfl ?_
                obtain ⟨n998, n997⟩ := h993 e731
                replace n998 := n998.symm
                subst n998
                replace n997 := n997.symm
                subst n997
                have hz999 : at0 ≤ at720 := (by omega)
                have hz1000 : at720 ≤ T := (by omega)
                have hz1001 : fa721 ≤ 100 := (by omega)
                have hz1002 : at0 + 1 ≤ at720 + fa721 := (by omega)
                have hz1003 : Kq 0 B X2 := hkq2
                have hz1004 : If (fa721 = 0) ((nd ≤ 2 * at720 ∧ wr2 ≤ at720 ∧ lz ≤ at720 ∧ pr2 ≤ at720 ∧ dc ≤ 37 ∧ dc ≤ dc ∧ bk ≤ (md + 1) ∧ wr ≤ wr2 ∧ lz ≤ lz) ∧ ((md + 1) + 240 ≤ 30 * dc + (mm + 1) ∧ fd + 160 ≤ 20 * dc + mf ∧ mf ≤ 20 ∧ (mm + 1) ≤ 30 ∧ dc = dc) ∧ PS T nm wr2 lz dc fd (md + 1) pr2 bk X2 ∧ FrM K T wr2 X2 nd (md + 1) ∧ tkRow (X2 19) wr2 T ∧ lsRow (X2 22) (X2 23) lz T) := (fun e => absurd e (by omega))
                have hP : va_P G.1 pCl (mW G h0 a (upd (upd (upd (upd (upd (upd (upd (upd (upd (upd (upd (upd (upd (upd (upd F 15 (nI fa721)) 16 pl988) 27 (nI nd)) 31 (nI wr2)) 34 (nI lz)) 35 (nI dc)) 44 (nI fd)) 49 (nI (md + 1))) 59 (nI bk)) 60 (nI pr2)) 64 (nI at720)) 65 ne0) 66 (nI lk)) 67 (nI mf)) 68 (nI (mm + 1))) (updA X2 2 K)) _ := hP
                have hD : va_D A (mW G h0 a (upd (upd (upd (upd (upd (upd (upd (upd (upd (upd (upd (upd (upd (upd (upd F 15 (nI fa721)) 16 pl988) 27 (nI nd)) 31 (nI wr2)) 34 (nI lz)) 35 (nI dc)) 44 (nI fd)) 49 (nI (md + 1))) 59 (nI bk)) 60 (nI pr2)) 64 (nI at720)) 65 ne0) 66 (nI lk)) 67 (nI mf)) 68 (nI (mm + 1))) (updA X2 2 K)) := mW_D hD
                exact W.vret hx hb hr (fun t9 ht9 hW9 => ⟨⟨_, (at720, fa721, pl988, nd, wr2, lz, dc, fd, (md + 1), pr2, bk, mf, (mm + 1), ne0, X2), rfl, ⟨rfl, hz999, hz1000, hz1001, hz1002, hz1003, hz1004⟩, by rw [ht9]; exact hP, hD⟩, hS.F ht9⟩) hS.2.2 dX12_method_279
          · have n1005 : ¬ (mo = 0) := fun h9 => c715 ((nI_eq (a := mo) (b := 0) (by omega) (by omega)).mpr h9)
            refine lv_aload_n hx hb dX12_method_140 rfl (lv_at hl 5 rfl) ?_
            refine r_get (v := .int 0) hx hb hown hq hE hP 15 350 tFX12_15 (by decide) pw_1594 rfl dX12_method_141 ?_
            refine lv_if_ne (tgt := 258) hx hb dX12_method_144 (by decide) (fun c1006 => absurd c1006 (by decide)) (fun c1006 => ?_)
            refine lv_aload_n hx hb dX12_method_147 rfl (lv_at hl 5 rfl) ?_
            have hP : va_P G.1 pCl (mW G h0 a (upd (upd (upd (upd (upd (upd (upd (upd (upd (upd (upd (upd (upd (upd (upd (upd (upd F 15 0) 16 pl2) 27 (nI nd)) 31 (nI wr2)) 34 (nI lz)) 35 (nI dc)) 44 (nI fd)) 49 (nI (md + 1))) 59 (nI bk)) 60 (nI pr2)) 64 (nI at2)) 65 ne0) 66 (nI lk)) 67 (nI mf)) 68 (nI (mm + 1))) 15 (nI 0)) 64 (nI at2)) (updA (updA X2 2 K) 2 K)) _ := mW_to (F := F) (l1 := [(15, 0), (16, pl2), (27, (nI nd)), (31, (nI wr2)), (34, (nI lz)), (35, (nI dc)), (44, (nI fd)), (49, (nI (md + 1))), (59, (nI bk)), (60, (nI pr2)), (64, (nI at2)), (65, ne0), (66, (nI lk)), (67, (nI mf)), (68, (nI (mm + 1)))]) (l2 := [(15, 0), (16, pl2), (27, (nI nd)), (31, (nI wr2)), (34, (nI lz)), (35, (nI dc)), (44, (nI fd)), (49, (nI (md + 1))), (59, (nI bk)), (60, (nI pr2)), (64, (nI at2)), (65, ne0), (66, (nI lk)), (67, (nI mf)), (68, (nI (mm + 1))), (15, (nI 0)), (64, (nI at2))]) (V := [(nI 0), pl2, (nI nd), (nI wr2), (nI lz), (nI dc), (nI fd), (nI (md + 1)), (nI bk), (nI pr2), (nI at2), ne0, (nI lk), (nI mf), (nI (mm + 1)), (nI 0), pl2, (nI nd), (nI wr2), (nI lz), (nI dc), (nI fd), (nI (md + 1)), (nI bk), (nI pr2), (nI at2), ne0, (nI lk), (nI mf), (nI (mm + 1)), (nI 0), (nI at2)]) rfl rfl (show (updA X2 2 K) = (updA (updA X2 2 K) 2 K) from updsA_eq2 (F := X2) (l1 := [(2, K)]) (l2 := [(2, K), (2, K)]) (V := [K, K, K]) rfl rfl) hP
            have hD : va_D A (mW G h0 a (upd (upd (upd (upd (upd (upd (upd (upd (upd (upd (upd (upd (upd (upd (upd (upd (upd F 15 0) 16 pl2) 27 (nI nd)) 31 (nI wr2)) 34 (nI lz)) 35 (nI dc)) 44 (nI fd)) 49 (nI (md + 1))) 59 (nI bk)) 60 (nI pr2)) 64 (nI at2)) 65 ne0) 66 (nI lk)) 67 (nI mf)) 68 (nI (mm + 1))) 15 (nI 0)) 64 (nI at2)) (updA (updA X2 2 K) 2 K)) := mW_D hD
            refine pc_V0 (G := G) (As := []) (rest := []) hx hb hml hown hq hE hX pX0_al hP hD hS hA hl.1 (R_isSortN l G h0 a (upd (upd (upd (upd (upd (upd (upd (upd (upd (upd (upd (upd (upd (upd (upd F 15 0) 16 pl2) 27 (nI nd)) 31 (nI wr2)) 34 (nI lz)) 35 (nI dc)) 44 (nI fd)) 49 (nI (md + 1))) 59 (nI bk)) 60 (nI pr2)) 64 (nI at2)) 65 ne0) 66 (nI lk)) 67 (nI mf)) 68 (nI (mm + 1))) (updA X2 2 K) at2 T 0 K (by omega) (by omega) hK (by omega)) (gV pw_1630 pw_1631 pw_1632 pw_1523 pw_1625) hV_X12_isSort 0 9 rfl rfl rfl rfl (Nat.le_of_ble_eq_true rfl) dX12_method_148 ⟨Nat.le_of_ble_eq_true rfl, Nat.le_of_ble_eq_true rfl⟩ ⟨Nat.le_of_ble_eq_true rfl, Nat.le_of_ble_eq_true rfl⟩ (fun v1009 u1007 H locs hw1008 hP hD hS => ?_)
            obtain ⟨r1010, rfl⟩ : ∃ z, z = u1007 := ⟨_, rfl⟩
            obtain ⟨hw1008, h1011, h1012, h1013, h1014⟩ := hw1008
            replace h1011 : r1010 ≤ 1 := h1011
            replace h1012 : at2 + r1010 ≤ T := h1012
            replace h1013 : If (r1010 = 1) (srt (K at2) = true) := h1013
            replace h1014 : If (r1010 = 0) (srt (K at2) = false) := h1014
            obtain rfl : v1009 = some (.int (nI r1010)) := hw1008
            have hP : va_P G.1 pCl (mW G h0 a (upd (upd (upd (upd (upd (upd (upd (upd (upd (upd (upd (upd (upd (upd (upd F 15 0) 16 pl2) 27 (nI nd)) 31 (nI wr2)) 34 (nI lz)) 35 (nI dc)) 44 (nI fd)) 49 (nI (md + 1))) 59 (nI bk)) 60 (nI pr2)) 64 (nI at2)) 65 ne0) 66 (nI lk)) 67 (nI mf)) 68 (nI (mm + 1))) (updA X2 2 K)) _ := mW_to (F := F) (l1 := [(15, 0), (16, pl2), (27, (nI nd)), (31, (nI wr2)), (34, (nI lz)), (35, (nI dc)), (44, (nI fd)), (49, (nI (md + 1))), (59, (nI bk)), (60, (nI pr2)), (64, (nI at2)), (65, ne0), (66, (nI lk)), (67, (nI mf)), (68, (nI (mm + 1))), (15, (nI 0)), (64, (nI at2))]) (l2 := [(15, 0), (16, pl2), (27, (nI nd)), (31, (nI wr2)), (34, (nI lz)), (35, (nI dc)), (44, (nI fd)), (49, (nI (md + 1))), (59, (nI bk)), (60, (nI pr2)), (64, (nI at2)), (65, ne0), (66, (nI lk)), (67, (nI mf)), (68, (nI (mm + 1)))]) (V := [0, pl2, (nI nd), (nI wr2), (nI lz), (nI dc), (nI fd), (nI (md + 1)), (nI bk), (nI pr2), (nI at2), ne0, (nI lk), (nI mf), (nI (mm + 1)), 0, (nI at2), 0, pl2, (nI nd), (nI wr2), (nI lz), (nI dc), (nI fd), (nI (md + 1)), (nI bk), (nI pr2), (nI at2), ne0, (nI lk), (nI mf), (nI (mm + 1))]) rfl rfl (show (updA (updA X2 2 K) 2 K) = (updA X2 2 K) from updsA_eq2 (F := X2) (l1 := [(2, K), (2, K)]) (l2 := [(2, K)]) (V := [K, K, K]) rfl rfl) hP
            have hD : va_D A (mW G h0 a (upd (upd (upd (upd (upd (upd (upd (upd (upd (upd (upd (upd (upd (upd (upd F 15 0) 16 pl2) 27 (nI nd)) 31 (nI wr2)) 34 (nI lz)) 35 (nI dc)) 44 (nI fd)) 49 (nI (md + 1))) 59 (nI bk)) 60 (nI pr2)) 64 (nI at2)) 65 ne0) 66 (nI lk)) 67 (nI mf)) 68 (nI (mm + 1))) (updA X2 2 K)) := mW_D hD
            refine W.widen (k := 0) (n := 0) (Nat.le_of_ble_eq_true rfl) (Nat.le_of_ble_eq_true rfl) ?_
            refine W.eq (g2 := F0 m 151 ls [.int (nI r1010)]) rfl ?_
            refine lv_if_eq (tgt := 172) hx hb dX12_method_151 (by decide) (fun c1015 => ?_) (fun c1015 => ?_)
            · have n1016 : r1010 = 0 := (nI_eq (a := r1010) (b := 0) (by omega) (by omega)).mp c1015
              refine lv_aload_n hx hb dX12_method_172 rfl (lv_at hl 5 rfl) ?_
              refine r_get (v := .ref (a 47)) hx hb hown hq hE hP 63 153 tFX12_63 (by decide) pw_1478 rfl dX12_method_173 ?_
              refine lv_aload_n hx hb dX12_method_176 rfl (lv_at hl 5 rfl) ?_
              refine r_get (v := .int (nI pr2)) hx hb hown hq hE hP 60 419 tFX12_60 (by decide) pw_1723 rfl dX12_method_177 ?_
              refine lv_aload_n hx hb dX12_method_180 rfl (lv_at hl 5 rfl) ?_
              have hP : va_P G.1 pCl (mW G h0 a (upd (upd (upd (upd (upd (upd (upd (upd (upd (upd (upd (upd (upd (upd (upd (upd (upd (upd F 15 0) 16 pl2) 27 (nI nd)) 31 (nI wr2)) 34 (nI lz)) 35 (nI dc)) 44 (nI fd)) 49 (nI (md + 1))) 59 (nI bk)) 60 (nI pr2)) 64 (nI at2)) 65 ne0) 66 (nI lk)) 67 (nI mf)) 68 (nI (mm + 1))) 15 (nI 0)) 31 (nI wr2)) 64 (nI at2)) (updA (updA (updA X2 2 K) 2 K) 19 (X2 19))) _ := mW_to (F := F) (l1 := [(15, 0), (16, pl2), (27, (nI nd)), (31, (nI wr2)), (34, (nI lz)), (35, (nI dc)), (44, (nI fd)), (49, (nI (md + 1))), (59, (nI bk)), (60, (nI pr2)), (64, (nI at2)), (65, ne0), (66, (nI lk)), (67, (nI mf)), (68, (nI (mm + 1)))]) (l2 := [(15, 0), (16, pl2), (27, (nI nd)), (31, (nI wr2)), (34, (nI lz)), (35, (nI dc)), (44, (nI fd)), (49, (nI (md + 1))), (59, (nI bk)), (60, (nI pr2)), (64, (nI at2)), (65, ne0), (66, (nI lk)), (67, (nI mf)), (68, (nI (mm + 1))), (15, (nI 0)), (31, (nI wr2)), (64, (nI at2))]) (V := [(nI 0), pl2, (nI nd), (nI wr2), (nI lz), (nI dc), (nI fd), (nI (md + 1)), (nI bk), (nI pr2), (nI at2), ne0, (nI lk), (nI mf), (nI (mm + 1)), (nI 0), pl2, (nI nd), (nI wr2), (nI lz), (nI dc), (nI fd), (nI (md + 1)), (nI bk), (nI pr2), (nI at2), ne0, (nI lk), (nI mf), (nI (mm + 1)), (nI 0), (nI wr2), (nI at2)]) rfl rfl (show (updA X2 2 K) = (updA (updA (updA X2 2 K) 2 K) 19 (X2 19)) from updsA_eq2 (F := X2) (l1 := [(2, K)]) (l2 := [(2, K), (2, K), (19, (X2 19))]) (V := [K, K, K, (X2 19)]) rfl rfl) hP
              have hD : va_D A (mW G h0 a (upd (upd (upd (upd (upd (upd (upd (upd (upd (upd (upd (upd (upd (upd (upd (upd (upd (upd F 15 0) 16 pl2) 27 (nI nd)) 31 (nI wr2)) 34 (nI lz)) 35 (nI dc)) 44 (nI fd)) 49 (nI (md + 1))) 59 (nI bk)) 60 (nI pr2)) 64 (nI at2)) 65 ne0) 66 (nI lk)) 67 (nI mf)) 68 (nI (mm + 1))) 15 (nI 0)) 31 (nI wr2)) 64 (nI at2)) (updA (updA (updA X2 2 K) 2 K) 19 (X2 19))) := mW_D hD
              refine pc_V0 (G := G) (As := []) (rest := [.int (nI pr2), .ref (a 47)]) hx hb hml hown hq hE hX pX0_al hP hD hS hA hl.1 (R_typeHereN l G h0 a (upd (upd (upd (upd (upd (upd (upd (upd (upd (upd (upd (upd (upd (upd (upd F 15 0) 16 pl2) 27 (nI nd)) 31 (nI wr2)) 34 (nI lz)) 35 (nI dc)) 44 (nI fd)) 49 (nI (md + 1))) 59 (nI bk)) 60 (nI pr2)) 64 (nI at2)) 65 ne0) 66 (nI lk)) 67 (nI mf)) 68 (nI (mm + 1))) (updA X2 2 K) at2 T 0 K wr2 (X2 19) (by omega) (by omega) hK (by omega) (by omega) hy2) (gV pw_1670 pw_1671 pw_1672 pw_1523 pw_1633) hV_X12_typeHere 0 9 rfl rfl rfl rfl (Nat.le_of_ble_eq_true rfl) dX12_method_181 ⟨Nat.le_of_ble_eq_true rfl, Nat.le_of_ble_eq_true rfl⟩ ⟨Nat.le_of_ble_eq_true rfl, Nat.le_of_ble_eq_true rfl⟩ (fun v1019 u1017 H locs hw1018 hP hD hS => ?_)
              obtain ⟨at1020, fa1021, pl1022, wr1023, r1024, yt1025, yr1026⟩ := u1017
              obtain ⟨hw1018, h1027, h1028, h1029, h1030, h1031, h1032, h1033, h1034, h1035, h1036, h1037, h1038, h1039, h1040, h1041⟩ := hw1018
              replace h1027 : at2 ≤ at1020 := h1027
              replace h1028 : at1020 ≤ T := h1028
              replace h1029 : 0 ≤ fa1021 := h1029
              replace h1030 : fa1021 ≤ 100 := h1030
              replace h1031 : If (0 < 0) (at1020 = at2 ∧ fa1021 = 0) := h1031
              replace h1032 : wr2 ≤ wr1023 := h1032
              replace h1033 : wr1023 + at2 ≤ wr2 + at1020 := h1033
              replace h1034 : If (0 < 0) (wr1023 = wr2) := h1034
              replace h1035 : r1024 + 1 ≤ wr1023 + 6000 * fa1021 := h1035
              replace h1036 : at2 + 1 ≤ at1020 + fa1021 := h1036
              replace h1037 : tkRow yt1025 wr1023 T := h1037
              replace h1038 : ∀ i : Nat, i < wr2 → yt1025 i = (X2 19) i := h1038
              replace h1039 : ∀ i : Nat, i < wr2 → yr1026 i = (X2 20) i := h1039
              replace h1040 : r1024 ≤ wr2 := h1040
              replace h1041 : If (fa1021 = 0) (srt (K at2) = true) := h1041
              obtain rfl : v1019 = some (.int (nI r1024)) := hw1018
              have hP : va_P G.1 pCl (mW G h0 a (upd (upd (upd (upd (upd (upd (upd (upd (upd (upd (upd (upd (upd (upd (upd F 15 (nI fa1021)) 16 pl1022) 27 (nI nd)) 31 (nI wr1023)) 34 (nI lz)) 35 (nI dc)) 44 (nI fd)) 49 (nI (md + 1))) 59 (nI bk)) 60 (nI pr2)) 64 (nI at1020)) 65 ne0) 66 (nI lk)) 67 (nI mf)) 68 (nI (mm + 1))) (updA (updA (updA X2 2 K) 19 yt1025) 20 yr1026)) _ := mW_to (F := F) (l1 := [(15, 0), (16, pl2), (27, (nI nd)), (31, (nI wr2)), (34, (nI lz)), (35, (nI dc)), (44, (nI fd)), (49, (nI (md + 1))), (59, (nI bk)), (60, (nI pr2)), (64, (nI at2)), (65, ne0), (66, (nI lk)), (67, (nI mf)), (68, (nI (mm + 1))), (15, (nI fa1021)), (16, pl1022), (31, (nI wr1023)), (64, (nI at1020))]) (l2 := [(15, (nI fa1021)), (16, pl1022), (27, (nI nd)), (31, (nI wr1023)), (34, (nI lz)), (35, (nI dc)), (44, (nI fd)), (49, (nI (md + 1))), (59, (nI bk)), (60, (nI pr2)), (64, (nI at1020)), (65, ne0), (66, (nI lk)), (67, (nI mf)), (68, (nI (mm + 1)))]) (V := [(nI fa1021), pl1022, (nI nd), (nI wr1023), (nI lz), (nI dc), (nI fd), (nI (md + 1)), (nI bk), (nI pr2), (nI at1020), ne0, (nI lk), (nI mf), (nI (mm + 1)), (nI fa1021), pl1022, (nI wr1023), (nI at1020), (nI fa1021), pl1022, (nI nd), (nI wr1023), (nI lz), (nI dc), (nI fd), (nI (md + 1)), (nI bk), (nI pr2), (nI at1020), ne0, (nI lk), (nI mf), (nI (mm + 1))]) rfl rfl (show (updA (updA (updA (updA X2 2 K) 2 K) 19 yt1025) 20 yr1026) = (updA (updA (updA X2 2 K) 19 yt1025) 20 yr1026) from updsA_eq2 (F := X2) (l1 := [(2, K), (2, K), (19, yt1025), (20, yr1026)]) (l2 := [(2, K), (19, yt1025), (20, yr1026)]) (V := [K, K, yt1025, yr1026, K, yt1025, yr1026]) rfl rfl) hP
              have hD : va_D A (mW G h0 a (upd (upd (upd (upd (upd (upd (upd (upd (upd (upd (upd (upd (upd (upd (upd F 15 (nI fa1021)) 16 pl1022) 27 (nI nd)) 31 (nI wr1023)) 34 (nI lz)) 35 (nI dc)) 44 (nI fd)) 49 (nI (md + 1))) 59 (nI bk)) 60 (nI pr2)) 64 (nI at1020)) 65 ne0) 66 (nI lk)) 67 (nI mf)) 68 (nI (mm + 1))) (updA (updA (updA X2 2 K) 19 yt1025) 20 yr1026)) := mW_D hD
              refine W.widen (k := 0) (n := 0) (Nat.le_of_ble_eq_true rfl) (Nat.le_of_ble_eq_true rfl) ?_
              refine W.eq (g2 := F0 m 184 ls [.int (nI r1024), .int (nI pr2), .ref (a 47)]) rfl ?_
              have hP : va_P G.1 pCl (mW G h0 a (upd (upd (upd (upd (upd (upd (upd (upd (upd (upd (upd (upd (upd (upd (upd F 15 (nI fa1021)) 16 pl1022) 27 (nI nd)) 31 (nI wr1023)) 34 (nI lz)) 35 (nI dc)) 44 (nI fd)) 49 (nI (md + 1))) 59 (nI bk)) 60 (nI pr2)) 64 (nI at1020)) 65 ne0) 66 (nI lk)) 67 (nI mf)) 68 (nI (mm + 1))) (updA (updA (updA X2 19 yt1025) 20 yr1026) 2 K)) _ := mW_to (F := F) (l1 := [(15, (nI fa1021)), (16, pl1022), (27, (nI nd)), (31, (nI wr1023)), (34, (nI lz)), (35, (nI dc)), (44, (nI fd)), (49, (nI (md + 1))), (59, (nI bk)), (60, (nI pr2)), (64, (nI at1020)), (65, ne0), (66, (nI lk)), (67, (nI mf)), (68, (nI (mm + 1)))]) (l2 := [(15, (nI fa1021)), (16, pl1022), (27, (nI nd)), (31, (nI wr1023)), (34, (nI lz)), (35, (nI dc)), (44, (nI fd)), (49, (nI (md + 1))), (59, (nI bk)), (60, (nI pr2)), (64, (nI at1020)), (65, ne0), (66, (nI lk)), (67, (nI mf)), (68, (nI (mm + 1)))]) (V := [(nI fa1021), pl1022, (nI nd), (nI wr1023), (nI lz), (nI dc), (nI fd), (nI (md + 1)), (nI bk), (nI pr2), (nI at1020), ne0, (nI lk), (nI mf), (nI (mm + 1)), (nI fa1021), pl1022, (nI nd), (nI wr1023), (nI lz), (nI dc), (nI fd), (nI (md + 1)), (nI bk), (nI pr2), (nI at1020), ne0, (nI lk), (nI mf), (nI (mm + 1))]) rfl rfl (show (updA (updA (updA X2 2 K) 19 yt1025) 20 yr1026) = (updA (updA (updA X2 19 yt1025) 20 yr1026) 2 K) from updsA_eq2 (F := X2) (l1 := [(2, K), (19, yt1025), (20, yr1026)]) (l2 := [(19, yt1025), (20, yr1026), (2, K)]) (V := [K, yt1025, yr1026, yt1025, yr1026, K]) rfl rfl) hP
              have hD : va_D A (mW G h0 a (upd (upd (upd (upd (upd (upd (upd (upd (upd (upd (upd (upd (upd (upd (upd F 15 (nI fa1021)) 16 pl1022) 27 (nI nd)) 31 (nI wr1023)) 34 (nI lz)) 35 (nI dc)) 44 (nI fd)) 49 (nI (md + 1))) 59 (nI bk)) 60 (nI pr2)) 64 (nI at1020)) 65 ne0) 66 (nI lk)) 67 (nI mf)) 68 (nI (mm + 1))) (updA (updA (updA X2 19 yt1025) 20 yr1026) 2 K)) := mW_D hD
              rcases Nat.eq_zero_or_pos fa1021 with e1042 | e1042
              · subst e1042
                have hP : va_P G.1 pCl (mW G h0 a (upd (upd (upd (upd (upd (upd (upd (upd (upd (upd (upd (upd (upd (upd (upd F 15 0) 16 pl1022) 27 (nI nd)) 31 (nI wr1023)) 34 (nI lz)) 35 (nI dc)) 44 (nI fd)) 49 (nI (md + 1))) 59 (nI bk)) 60 (nI pr2)) 64 (nI at1020)) 65 ne0) 66 (nI lk)) 67 (nI mf)) 68 (nI (mm + 1))) (updA (updA (updA X2 19 yt1025) 20 yr1026) 2 K)) _ := hP
                have hD : va_D A (mW G h0 a (upd (upd (upd (upd (upd (upd (upd (upd (upd (upd (upd (upd (upd (upd (upd F 15 0) 16 pl1022) 27 (nI nd)) 31 (nI wr1023)) 34 (nI lz)) 35 (nI dc)) 44 (nI fd)) 49 (nI (md + 1))) 59 (nI bk)) 60 (nI pr2)) 64 (nI at1020)) 65 ne0) 66 (nI lk)) 67 (nI mf)) 68 (nI (mm + 1))) (updA (updA (updA X2 19 yt1025) 20 yr1026) 2 K)) := mW_D hD
                exact absurd (h1041 rfl) (by rw [h1014 (by omega)]; decide)
              · have e1042 := e1042
                have hkq1043 : Kq 0 B (updA (updA X2 19 yt1025) 20 yr1026) := (Kq.row (Kq.row hkq2 (by omega)) (by omega))
                have hce1044 : (updA (updA X2 19 yt1025) 20 yr1026) 36 md = (nI d) := hc36
                have hce1045 : (updA (updA X2 19 yt1025) 20 yr1026) 37 md = (nI v2) := hc37
                have hce1046 : (updA (updA X2 19 yt1025) 20 yr1026) 38 md = (nI tn) := hc38
                have hce1047 : (updA (updA X2 19 yt1025) 20 yr1026) 39 md = y := hc39
                have hce1048 : (updA (updA X2 19 yt1025) 20 yr1026) 40 md = (nI pr) := hc40
                have hce1049 : (updA (updA X2 19 yt1025) 20 yr1026) 41 md = (nI q2) := hc41
                have hce1050 : (updA (updA X2 19 yt1025) 20 yr1026) 42 md = (-1) := hc42
                have hce1051 : (updA (updA X2 19 yt1025) 20 yr1026) 43 md = (-1) := hc43
                have hce1052 : (updA (updA X2 19 yt1025) 20 yr1026) 44 md = (-1) := hc44
                have hty1053 : tkRow ((updA (updA X2 19 yt1025) 20 yr1026) 19) wr1023 T := h1037
                refine r_sti (f := ((updA (updA X2 19 yt1025) 20 yr1026) 47)) (j := pr2) hx hb hE hP hD hS 47 (ma_47 G a _) rfl (mas_47 G a _) (by omega) (by decide) dX12_method_184 (fun H locs hP hD hS => ?_)
                have hP : va_P G.1 pCl (mW G h0 a (upd (upd (upd (upd (upd (upd (upd (upd (upd (upd (upd (upd (upd (upd (upd F 15 (nI fa1021)) 16 pl1022) 27 (nI nd)) 31 (nI wr1023)) 34 (nI lz)) 35 (nI dc)) 44 (nI fd)) 49 (nI (md + 1))) 59 (nI bk)) 60 (nI pr2)) 64 (nI at1020)) 65 ne0) 66 (nI lk)) 67 (nI mf)) 68 (nI (mm + 1))) (updA (stR (updA (updA X2 19 yt1025) 20 yr1026) 47 pr2 (nI r1024)) 2 K)) _ := hP
                have hD : va_D A (mW G h0 a (upd (upd (upd (upd (upd (upd (upd (upd (upd (upd (upd (upd (upd (upd (upd F 15 (nI fa1021)) 16 pl1022) 27 (nI nd)) 31 (nI wr1023)) 34 (nI lz)) 35 (nI dc)) 44 (nI fd)) 49 (nI (md + 1))) 59 (nI bk)) 60 (nI pr2)) 64 (nI at1020)) 65 ne0) 66 (nI lk)) 67 (nI mf)) 68 (nI (mm + 1))) (updA (stR (updA (updA X2 19 yt1025) 20 yr1026) 47 pr2 (nI r1024)) 2 K)) := mW_D hD
                have hkq1054 : Kq 0 B (stR (updA (updA X2 19 yt1025) 20 yr1026) 47 pr2 (nI r1024)) := (Kq.st hkq1043 (by omega))
                have hce1055 : (stR (updA (updA X2 19 yt1025) 20 yr1026) 47 pr2 (nI r1024)) 36 md = (nI d) := ((st_ne (by omega)).trans hce1044)
                have hce1056 : (stR (updA (updA X2 19 yt1025) 20 yr1026) 47 pr2 (nI r1024)) 37 md = (nI v2) := ((st_ne (by omega)).trans hce1045)
                have hce1057 : (stR (updA (updA X2 19 yt1025) 20 yr1026) 47 pr2 (nI r1024)) 38 md = (nI tn) := ((st_ne (by omega)).trans hce1046)
                have hce1058 : (stR (updA (updA X2 19 yt1025) 20 yr1026) 47 pr2 (nI r1024)) 39 md = y := ((st_ne (by omega)).trans hce1047)
                have hce1059 : (stR (updA (updA X2 19 yt1025) 20 yr1026) 47 pr2 (nI r1024)) 40 md = (nI pr) := ((st_ne (by omega)).trans hce1048)
                have hce1060 : (stR (updA (updA X2 19 yt1025) 20 yr1026) 47 pr2 (nI r1024)) 41 md = (nI q2) := ((st_ne (by omega)).trans hce1049)
                have hce1061 : (stR (updA (updA X2 19 yt1025) 20 yr1026) 47 pr2 (nI r1024)) 42 md = (-1) := ((st_ne (by omega)).trans hce1050)
                have hce1062 : (stR (updA (updA X2 19 yt1025) 20 yr1026) 47 pr2 (nI r1024)) 43 md = (-1) := ((st_ne (by omega)).trans hce1051)
                have hce1063 : (stR (updA (updA X2 19 yt1025) 20 yr1026) 47 pr2 (nI r1024)) 44 md = (-1) := ((st_ne (by omega)).trans hce1052)
                have hty1064 : tkRow ((stR (updA (updA X2 19 yt1025) 20 yr1026) 47 pr2 (nI r1024)) 19) wr1023 T := hty1053
                have hce1065 : (stR (updA (updA X2 19 yt1025) 20 yr1026) 47 pr2 (nI r1024)) 47 pr2 = (nI r1024) := st_eq
                refine lv_aload_n hx hb dX12_method_185 rfl (lv_at hl 5 rfl) ?_
                have hP : va_P G.1 pCl (mW G h0 a (upd (upd (upd (upd (upd (upd (upd (upd (upd (upd (upd (upd (upd (upd (upd (upd (upd F 15 (nI fa1021)) 16 pl1022) 27 (nI nd)) 31 (nI wr1023)) 34 (nI lz)) 35 (nI dc)) 44 (nI fd)) 49 (nI (md + 1))) 59 (nI bk)) 60 (nI pr2)) 64 (nI at1020)) 65 ne0) 66 (nI lk)) 67 (nI mf)) 68 (nI (mm + 1))) 15 (nI fa1021)) 64 (nI at1020)) (updA (updA (stR (updA (updA X2 19 yt1025) 20 yr1026) 47 pr2 (nI r1024)) 2 K) 2 K)) _ := mW_to (F := F) (l1 := [(15, (nI fa1021)), (16, pl1022), (27, (nI nd)), (31, (nI wr1023)), (34, (nI lz)), (35, (nI dc)), (44, (nI fd)), (49, (nI (md + 1))), (59, (nI bk)), (60, (nI pr2)), (64, (nI at1020)), (65, ne0), (66, (nI lk)), (67, (nI mf)), (68, (nI (mm + 1)))]) (l2 := [(15, (nI fa1021)), (16, pl1022), (27, (nI nd)), (31, (nI wr1023)), (34, (nI lz)), (35, (nI dc)), (44, (nI fd)), (49, (nI (md + 1))), (59, (nI bk)), (60, (nI pr2)), (64, (nI at1020)), (65, ne0), (66, (nI lk)), (67, (nI mf)), (68, (nI (mm + 1))), (15, (nI fa1021)), (64, (nI at1020))]) (V := [(nI fa1021), pl1022, (nI nd), (nI wr1023), (nI lz), (nI dc), (nI fd), (nI (md + 1)), (nI bk), (nI pr2), (nI at1020), ne0, (nI lk), (nI mf), (nI (mm + 1)), (nI fa1021), pl1022, (nI nd), (nI wr1023), (nI lz), (nI dc), (nI fd), (nI (md + 1)), (nI bk), (nI pr2), (nI at1020), ne0, (nI lk), (nI mf), (nI (mm + 1)), (nI fa1021), (nI at1020)]) rfl rfl (show (updA (stR (updA (updA X2 19 yt1025) 20 yr1026) 47 pr2 (nI r1024)) 2 K) = (updA (updA (stR (updA (updA X2 19 yt1025) 20 yr1026) 47 pr2 (nI r1024)) 2 K) 2 K) from updsA_eq2 (F := (stR (updA (updA X2 19 yt1025) 20 yr1026) 47 pr2 (nI r1024))) (l1 := [(2, K)]) (l2 := [(2, K), (2, K)]) (V := [K, K, K]) rfl rfl) hP
                have hD : va_D A (mW G h0 a (upd (upd (upd (upd (upd (upd (upd (upd (upd (upd (upd (upd (upd (upd (upd (upd (upd F 15 (nI fa1021)) 16 pl1022) 27 (nI nd)) 31 (nI wr1023)) 34 (nI lz)) 35 (nI dc)) 44 (nI fd)) 49 (nI (md + 1))) 59 (nI bk)) 60 (nI pr2)) 64 (nI at1020)) 65 ne0) 66 (nI lk)) 67 (nI mf)) 68 (nI (mm + 1))) 15 (nI fa1021)) 64 (nI at1020)) (updA (updA (stR (updA (updA X2 19 yt1025) 20 yr1026) 47 pr2 (nI r1024)) 2 K) 2 K)) := mW_D hD
                refine pc_V0 (G := G) (As := []) (rest := []) hx hb hml hown hq hE hX pX0_al hP hD hS hA hl.1 (R_name l G h0 a (upd (upd (upd (upd (upd (upd (upd (upd (upd (upd (upd (upd (upd (upd (upd F 15 (nI fa1021)) 16 pl1022) 27 (nI nd)) 31 (nI wr1023)) 34 (nI lz)) 35 (nI dc)) 44 (nI fd)) 49 (nI (md + 1))) 59 (nI bk)) 60 (nI pr2)) 64 (nI at1020)) 65 ne0) 66 (nI lk)) 67 (nI mf)) 68 (nI (mm + 1))) (updA (stR (updA (updA X2 19 yt1025) 20 yr1026) 47 pr2 (nI r1024)) 2 K) at1020 T fa1021 K (by omega) (by omega) hK (by omega)) (gV pw_1618 pw_1619 pw_1620 pw_1523 pw_1613) hV_X12_name 0 9 rfl rfl rfl rfl (Nat.le_of_ble_eq_true rfl) dX12_method_186 ⟨Nat.le_of_ble_eq_true rfl, Nat.le_of_ble_eq_true rfl⟩ ⟨Nat.le_of_ble_eq_true rfl, Nat.le_of_ble_eq_true rfl⟩ (fun v1068 u1066 H locs hw1067 hP hD hS => ?_)
                obtain ⟨at1069, fa1070, pl1071⟩ := u1066
                obtain ⟨hw1067, h1072, h1073, h1074, h1075, h1076, h1077, h1078, h1079⟩ := hw1067
                replace h1072 : at1020 ≤ at1069 := h1072
                replace h1073 : at1069 ≤ T := h1073
                replace h1074 : fa1021 ≤ fa1070 := h1074
                replace h1075 : fa1070 ≤ 100 := h1075
                replace h1076 : If (0 < fa1021) (at1069 = at1020 ∧ fa1070 = fa1021) := h1076
                replace h1077 : at1069 ≤ at1020 + 1 := h1077
                replace h1078 : at1020 + 1 ≤ at1069 + fa1070 := h1078
                replace h1079 : If (fa1070 = 0) (K at1020 = 1) := h1079
                obtain rfl : v1068 = some (.int (nI at1020)) := hw1067
                have hP : va_P G.1 pCl (mW G h0 a (upd (upd (upd (upd (upd (upd (upd (upd (upd (upd (upd (upd (upd (upd (upd F 15 (nI fa1070)) 16 pl1071) 27 (nI nd)) 31 (nI wr1023)) 34 (nI lz)) 35 (nI dc)) 44 (nI fd)) 49 (nI (md + 1))) 59 (nI bk)) 60 (nI pr2)) 64 (nI at1069)) 65 ne0) 66 (nI lk)) 67 (nI mf)) 68 (nI (mm + 1))) (updA (stR (updA (updA X2 19 yt1025) 20 yr1026) 47 pr2 (nI r1024)) 2 K)) _ := mW_to (F := F) (l1 := [(15, (nI fa1021)), (16, pl1022), (27, (nI nd)), (31, (nI wr1023)), (34, (nI lz)), (35, (nI dc)), (44, (nI fd)), (49, (nI (md + 1))), (59, (nI bk)), (60, (nI pr2)), (64, (nI at1020)), (65, ne0), (66, (nI lk)), (67, (nI mf)), (68, (nI (mm + 1))), (15, (nI fa1070)), (16, pl1071), (64, (nI at1069))]) (l2 := [(15, (nI fa1070)), (16, pl1071), (27, (nI nd)), (31, (nI wr1023)), (34, (nI lz)), (35, (nI dc)), (44, (nI fd)), (49, (nI (md + 1))), (59, (nI bk)), (60, (nI pr2)), (64, (nI at1069)), (65, ne0), (66, (nI lk)), (67, (nI mf)), (68, (nI (mm + 1)))]) (V := [(nI fa1070), pl1071, (nI nd), (nI wr1023), (nI lz), (nI dc), (nI fd), (nI (md + 1)), (nI bk), (nI pr2), (nI at1069), ne0, (nI lk), (nI mf), (nI (mm + 1)), (nI fa1070), pl1071, (nI at1069), (nI fa1070), pl1071, (nI nd), (nI wr1023), (nI lz), (nI dc), (nI fd), (nI (md + 1)), (nI bk), (nI pr2), (nI at1069), ne0, (nI lk), (nI mf), (nI (mm + 1))]) rfl rfl (show (updA (updA (stR (updA (updA X2 19 yt1025) 20 yr1026) 47 pr2 (nI r1024)) 2 K) 2 K) = (updA (stR (updA (updA X2 19 yt1025) 20 yr1026) 47 pr2 (nI r1024)) 2 K) from updsA_eq2 (F := (stR (updA (updA X2 19 yt1025) 20 yr1026) 47 pr2 (nI r1024))) (l1 := [(2, K), (2, K)]) (l2 := [(2, K)]) (V := [K, K, K]) rfl rfl) hP
                have hD : va_D A (mW G h0 a (upd (upd (upd (upd (upd (upd (upd (upd (upd (upd (upd (upd (upd (upd (upd F 15 (nI fa1070)) 16 pl1071) 27 (nI nd)) 31 (nI wr1023)) 34 (nI lz)) 35 (nI dc)) 44 (nI fd)) 49 (nI (md + 1))) 59 (nI bk)) 60 (nI pr2)) 64 (nI at1069)) 65 ne0) 66 (nI lk)) 67 (nI mf)) 68 (nI (mm + 1))) (updA (stR (updA (updA X2 19 yt1025) 20 yr1026) 47 pr2 (nI r1024)) 2 K)) := mW_D hD
                refine W.widen (k := 0) (n := 0) (Nat.le_of_ble_eq_true rfl) (Nat.le_of_ble_eq_true rfl) ?_
                refine W.eq (g2 := F0 m 189 ls [.int (nI at1020)]) rfl ?_
                obtain ⟨n1081, n1080⟩ := h1076 e1042
                replace n1081 := n1081.symm
                subst n1081
                replace n1080 := n1080.symm
                subst n1080
                refine lv_istore (lv' := [(6, .int (nI at1020)), (5, .int (nI mo)), (4, .int (nI md)), (3, .int (nI tn)), (2, .int y), (1, .int (nI d)), (0, .ref h0)]) hx hb dX12_method_189 hl (by decide) rfl (fun ls hl => ?_)
                refine lv_aload_n hx hb dX12_method_191 rfl (lv_at hl 6 rfl) ?_
                refine r_get (v := .int (nI fa1021)) hx hb hown hq hE hP 15 350 tFX12_15 (by decide) pw_1594 rfl dX12_method_192 ?_
                refine lv_if_le (tgt := 199) hx hb dX12_method_195 (by decide) (fun c1082 => (by have n1083 : fa1021 ≤ 0 := (nI_leI (a := fa1021) (b := 0) (by omega) (by omega)).mp c1082; omega)) (fun c1082 => ?_)
                have hz1084 : at0 ≤ at1020 := (by omega)
                have hz1085 : at1020 ≤ T := (by omega)
                have hz1086 : fa1021 ≤ 100 := (by omega)
                have hz1087 : at0 + 1 ≤ at1020 + fa1021 := (by omega)
                have hz1088 : Kq 0 B (stR (updA (updA X2 19 yt1025) 20 yr1026) 47 pr2 (nI r1024)) := hkq1054
                have hz1089 : If (fa1021 = 0) ((nd ≤ 2 * at1020 ∧ wr1023 ≤ at1020 ∧ lz ≤ at1020 ∧ pr2 ≤ at1020 ∧ dc ≤ 37 ∧ dc ≤ dc ∧ bk ≤ (md + 1) ∧ wr ≤ wr1023 ∧ lz ≤ lz) ∧ ((md + 1) + 240 ≤ 30 * dc + (mm + 1) ∧ fd + 160 ≤ 20 * dc + mf ∧ mf ≤ 20 ∧ (mm + 1) ≤ 30 ∧ dc = dc) ∧ PS T nm wr1023 lz dc fd (md + 1) pr2 bk (stR (updA (updA X2 19 yt1025) 20 yr1026) 47 pr2 (nI r1024)) ∧ FrM K T wr1023 (stR (updA (updA X2 19 yt1025) 20 yr1026) 47 pr2 (nI r1024)) nd (md + 1) ∧ tkRow ((stR (updA (updA X2 19 yt1025) 20 yr1026) 47 pr2 (nI r1024)) 19) wr1023 T ∧ lsRow ((stR (updA (updA X2 19 yt1025) 20 yr1026) 47 pr2 (nI r1024)) 22) ((stR (updA (updA X2 19 yt1025) 20 yr1026) 47 pr2 (nI r1024)) 23) lz T) := (fun e => absurd e (by omega))
                have hP : va_P G.1 pCl (mW G h0 a (upd (upd (upd (upd (upd (upd (upd (upd (upd (upd (upd (upd (upd (upd (upd F 15 (nI fa1021)) 16 pl1071) 27 (nI nd)) 31 (nI wr1023)) 34 (nI lz)) 35 (nI dc)) 44 (nI fd)) 49 (nI (md + 1))) 59 (nI bk)) 60 (nI pr2)) 64 (nI at1020)) 65 ne0) 66 (nI lk)) 67 (nI mf)) 68 (nI (mm + 1))) (updA (stR (updA (updA X2 19 yt1025) 20 yr1026) 47 pr2 (nI r1024)) 2 K)) _ := hP
                have hD : va_D A (mW G h0 a (upd (upd (upd (upd (upd (upd (upd (upd (upd (upd (upd (upd (upd (upd (upd F 15 (nI fa1021)) 16 pl1071) 27 (nI nd)) 31 (nI wr1023)) 34 (nI lz)) 35 (nI dc)) 44 (nI fd)) 49 (nI (md + 1))) 59 (nI bk)) 60 (nI pr2)) 64 (nI at1020)) 65 ne0) 66 (nI lk)) 67 (nI mf)) 68 (nI (mm + 1))) (updA (stR (updA (updA X2 19 yt1025) 20 yr1026) 47 pr2 (nI r1024)) 2 K)) := mW_D hD
                exact W.vret hx hb hr (fun t9 ht9 hW9 => ⟨⟨_, (at1020, fa1021, pl1071, nd, wr1023, lz, dc, fd, (md + 1), pr2, bk, mf, (mm + 1), ne0, (stR (updA (updA X2 19 yt1025) 20 yr1026) 47 pr2 (nI r1024))), rfl, ⟨rfl, hz1084, hz1085, hz1086, hz1087, hz1088, hz1089⟩, by rw [ht9]; exact hP, hD⟩, hS.F ht9⟩) hS.2.2 dX12_method_198
            · have n1090 : ¬ (r1010 = 0) := fun h9 => c1015 ((nI_eq (a := r1010) (b := 0) (by omega) (by omega)).mpr h9)
              refine lv_aload_n hx hb dX12_method_154 rfl (lv_at hl 5 rfl) ?_
              refine r_get (v := .ref (a 41)) hx hb hown hq hE hP 55 135 tFX12_55 (by decide) pw_1472 rfl dX12_method_155 ?_
              refine lv_iload hx hb dX12_method_158 (lv_at hl 1 rfl) ?_
              refine r_ldi (f := (X2 41)) (j := md) hx hb hE hP 41 (ma_41 G a _) rfl (by omega) (by decide) dX12_method_160 ?_
              refine lv_topi (fun x1091 e1092 => ?_)
              obtain rfl : x1091 = (nI q2) := e1092.trans hc41
              refine lv_bipush (v := 8) hx hb dX12_method_161 (by decide) ?_
              refine lv_icmp_ne (tgt := 172) hx hb dX12_method_163 (by decide) (fun c1093 => ?_) (fun c1093 => ?_)
              · have n1094 : ¬ (q2 = 8) := fun h9 => c1093 ((nI_eq (a := q2) (b := 8) (by omega) (by omega)).mpr h9)
                refine lv_aload_n hx hb dX12_method_172 rfl (lv_at hl 5 rfl) ?_
                refine r_get (v := .ref (a 47)) hx hb hown hq hE hP 63 153 tFX12_63 (by decide) pw_1478 rfl dX12_method_173 ?_
                refine lv_aload_n hx hb dX12_method_176 rfl (lv_at hl 5 rfl) ?_
                refine r_get (v := .int (nI pr2)) hx hb hown hq hE hP 60 419 tFX12_60 (by decide) pw_1723 rfl dX12_method_177 ?_
                refine lv_aload_n hx hb dX12_method_180 rfl (lv_at hl 5 rfl) ?_
                have hP : va_P G.1 pCl (mW G h0 a (upd (upd (upd (upd (upd (upd (upd (upd (upd (upd (upd (upd (upd (upd (upd (upd (upd (upd F 15 0) 16 pl2) 27 (nI nd)) 31 (nI wr2)) 34 (nI lz)) 35 (nI dc)) 44 (nI fd)) 49 (nI (md + 1))) 59 (nI bk)) 60 (nI pr2)) 64 (nI at2)) 65 ne0) 66 (nI lk)) 67 (nI mf)) 68 (nI (mm + 1))) 15 (nI 0)) 31 (nI wr2)) 64 (nI at2)) (updA (updA (updA X2 2 K) 2 K) 19 (X2 19))) _ := mW_to (F := F) (l1 := [(15, 0), (16, pl2), (27, (nI nd)), (31, (nI wr2)), (34, (nI lz)), (35, (nI dc)), (44, (nI fd)), (49, (nI (md + 1))), (59, (nI bk)), (60, (nI pr2)), (64, (nI at2)), (65, ne0), (66, (nI lk)), (67, (nI mf)), (68, (nI (mm + 1)))]) (l2 := [(15, 0), (16, pl2), (27, (nI nd)), (31, (nI wr2)), (34, (nI lz)), (35, (nI dc)), (44, (nI fd)), (49, (nI (md + 1))), (59, (nI bk)), (60, (nI pr2)), (64, (nI at2)), (65, ne0), (66, (nI lk)), (67, (nI mf)), (68, (nI (mm + 1))), (15, (nI 0)), (31, (nI wr2)), (64, (nI at2))]) (V := [(nI 0), pl2, (nI nd), (nI wr2), (nI lz), (nI dc), (nI fd), (nI (md + 1)), (nI bk), (nI pr2), (nI at2), ne0, (nI lk), (nI mf), (nI (mm + 1)), (nI 0), pl2, (nI nd), (nI wr2), (nI lz), (nI dc), (nI fd), (nI (md + 1)), (nI bk), (nI pr2), (nI at2), ne0, (nI lk), (nI mf), (nI (mm + 1)), (nI 0), (nI wr2), (nI at2)]) rfl rfl (show (updA X2 2 K) = (updA (updA (updA X2 2 K) 2 K) 19 (X2 19)) from updsA_eq2 (F := X2) (l1 := [(2, K)]) (l2 := [(2, K), (2, K), (19, (X2 19))]) (V := [K, K, K, (X2 19)]) rfl rfl) hP
                have hD : va_D A (mW G h0 a (upd (upd (upd (upd (upd (upd (upd (upd (upd (upd (upd (upd (upd (upd (upd (upd (upd (upd F 15 0) 16 pl2) 27 (nI nd)) 31 (nI wr2)) 34 (nI lz)) 35 (nI dc)) 44 (nI fd)) 49 (nI (md + 1))) 59 (nI bk)) 60 (nI pr2)) 64 (nI at2)) 65 ne0) 66 (nI lk)) 67 (nI mf)) 68 (nI (mm + 1))) 15 (nI 0)) 31 (nI wr2)) 64 (nI at2)) (updA (updA (updA X2 2 K) 2 K) 19 (X2 19))) := mW_D hD
                refine pc_V0 (G := G) (As := []) (rest := [.int (nI pr2), .ref (a 47)]) hx hb hml hown hq hE hX pX0_al hP hD hS hA hl.1 (R_typeHereN l G h0 a (upd (upd (upd (upd (upd (upd (upd (upd (upd (upd (upd (upd (upd (upd (upd F 15 0) 16 pl2) 27 (nI nd)) 31 (nI wr2)) 34 (nI lz)) 35 (nI dc)) 44 (nI fd)) 49 (nI (md + 1))) 59 (nI bk)) 60 (nI pr2)) 64 (nI at2)) 65 ne0) 66 (nI lk)) 67 (nI mf)) 68 (nI (mm + 1))) (updA X2 2 K) at2 T 0 K wr2 (X2 19) (by omega) (by omega) hK (by omega) (by omega) hy2) (gV pw_1670 pw_1671 pw_1672 pw_1523 pw_1633) hV_X12_typeHere 0 9 rfl rfl rfl rfl (Nat.le_of_ble_eq_true rfl) dX12_method_181 ⟨Nat.le_of_ble_eq_true rfl, Nat.le_of_ble_eq_true rfl⟩ ⟨Nat.le_of_ble_eq_true rfl, Nat.le_of_ble_eq_true rfl⟩ (fun v1097 u1095 H locs hw1096 hP hD hS => ?_)
                obtain ⟨at1098, fa1099, pl1100, wr1101, r1102, yt1103, yr1104⟩ := u1095
                obtain ⟨hw1096, h1105, h1106, h1107, h1108, h1109, h1110, h1111, h1112, h1113, h1114, h1115, h1116, h1117, h1118, h1119⟩ := hw1096
                replace h1105 : at2 ≤ at1098 := h1105
                replace h1106 : at1098 ≤ T := h1106
                replace h1107 : 0 ≤ fa1099 := h1107
                replace h1108 : fa1099 ≤ 100 := h1108
                replace h1109 : If (0 < 0) (at1098 = at2 ∧ fa1099 = 0) := h1109
                replace h1110 : wr2 ≤ wr1101 := h1110
                replace h1111 : wr1101 + at2 ≤ wr2 + at1098 := h1111
                replace h1112 : If (0 < 0) (wr1101 = wr2) := h1112
                replace h1113 : r1102 + 1 ≤ wr1101 + 6000 * fa1099 := h1113
                replace h1114 : at2 + 1 ≤ at1098 + fa1099 := h1114
                replace h1115 : tkRow yt1103 wr1101 T := h1115
                replace h1116 : ∀ i : Nat, i < wr2 → yt1103 i = (X2 19) i := h1116
                replace h1117 : ∀ i : Nat, i < wr2 → yr1104 i = (X2 20) i := h1117
                replace h1118 : r1102 ≤ wr2 := h1118
                replace h1119 : If (fa1099 = 0) (srt (K at2) = true) := h1119
                obtain rfl : v1097 = some (.int (nI r1102)) := hw1096
                have hP : va_P G.1 pCl (mW G h0 a (upd (upd (upd (upd (upd (upd (upd (upd (upd (upd (upd (upd (upd (upd (upd F 15 (nI fa1099)) 16 pl1100) 27 (nI nd)) 31 (nI wr1101)) 34 (nI lz)) 35 (nI dc)) 44 (nI fd)) 49 (nI (md + 1))) 59 (nI bk)) 60 (nI pr2)) 64 (nI at1098)) 65 ne0) 66 (nI lk)) 67 (nI mf)) 68 (nI (mm + 1))) (updA (updA (updA X2 2 K) 19 yt1103) 20 yr1104)) _ := mW_to (F := F) (l1 := [(15, 0), (16, pl2), (27, (nI nd)), (31, (nI wr2)), (34, (nI lz)), (35, (nI dc)), (44, (nI fd)), (49, (nI (md + 1))), (59, (nI bk)), (60, (nI pr2)), (64, (nI at2)), (65, ne0), (66, (nI lk)), (67, (nI mf)), (68, (nI (mm + 1))), (15, (nI fa1099)), (16, pl1100), (31, (nI wr1101)), (64, (nI at1098))]) (l2 := [(15, (nI fa1099)), (16, pl1100), (27, (nI nd)), (31, (nI wr1101)), (34, (nI lz)), (35, (nI dc)), (44, (nI fd)), (49, (nI (md + 1))), (59, (nI bk)), (60, (nI pr2)), (64, (nI at1098)), (65, ne0), (66, (nI lk)), (67, (nI mf)), (68, (nI (mm + 1)))]) (V := [(nI fa1099), pl1100, (nI nd), (nI wr1101), (nI lz), (nI dc), (nI fd), (nI (md + 1)), (nI bk), (nI pr2), (nI at1098), ne0, (nI lk), (nI mf), (nI (mm + 1)), (nI fa1099), pl1100, (nI wr1101), (nI at1098), (nI fa1099), pl1100, (nI nd), (nI wr1101), (nI lz), (nI dc), (nI fd), (nI (md + 1)), (nI bk), (nI pr2), (nI at1098), ne0, (nI lk), (nI mf), (nI (mm + 1))]) rfl rfl (show (updA (updA (updA (updA X2 2 K) 2 K) 19 yt1103) 20 yr1104) = (updA (updA (updA X2 2 K) 19 yt1103) 20 yr1104) from updsA_eq2 (F := X2) (l1 := [(2, K), (2, K), (19, yt1103), (20, yr1104)]) (l2 := [(2, K), (19, yt1103), (20, yr1104)]) (V := [K, K, yt1103, yr1104, K, yt1103, yr1104]) rfl rfl) hP
                have hD : va_D A (mW G h0 a (upd (upd (upd (upd (upd (upd (upd (upd (upd (upd (upd (upd (upd (upd (upd F 15 (nI fa1099)) 16 pl1100) 27 (nI nd)) 31 (nI wr1101)) 34 (nI lz)) 35 (nI dc)) 44 (nI fd)) 49 (nI (md + 1))) 59 (nI bk)) 60 (nI pr2)) 64 (nI at1098)) 65 ne0) 66 (nI lk)) 67 (nI mf)) 68 (nI (mm + 1))) (updA (updA (updA X2 2 K) 19 yt1103) 20 yr1104)) := mW_D hD
                refine W.widen (k := 0) (n := 0) (Nat.le_of_ble_eq_true rfl) (Nat.le_of_ble_eq_true rfl) ?_
                refine W.eq (g2 := F0 m 184 ls [.int (nI r1102), .int (nI pr2), .ref (a 47)]) rfl ?_
                have hP : va_P G.1 pCl (mW G h0 a (upd (upd (upd (upd (upd (upd (upd (upd (upd (upd (upd (upd (upd (upd (upd F 15 (nI fa1099)) 16 pl1100) 27 (nI nd)) 31 (nI wr1101)) 34 (nI lz)) 35 (nI dc)) 44 (nI fd)) 49 (nI (md + 1))) 59 (nI bk)) 60 (nI pr2)) 64 (nI at1098)) 65 ne0) 66 (nI lk)) 67 (nI mf)) 68 (nI (mm + 1))) (updA (updA (updA X2 19 yt1103) 20 yr1104) 2 K)) _ := mW_to (F := F) (l1 := [(15, (nI fa1099)), (16, pl1100), (27, (nI nd)), (31, (nI wr1101)), (34, (nI lz)), (35, (nI dc)), (44, (nI fd)), (49, (nI (md + 1))), (59, (nI bk)), (60, (nI pr2)), (64, (nI at1098)), (65, ne0), (66, (nI lk)), (67, (nI mf)), (68, (nI (mm + 1)))]) (l2 := [(15, (nI fa1099)), (16, pl1100), (27, (nI nd)), (31, (nI wr1101)), (34, (nI lz)), (35, (nI dc)), (44, (nI fd)), (49, (nI (md + 1))), (59, (nI bk)), (60, (nI pr2)), (64, (nI at1098)), (65, ne0), (66, (nI lk)), (67, (nI mf)), (68, (nI (mm + 1)))]) (V := [(nI fa1099), pl1100, (nI nd), (nI wr1101), (nI lz), (nI dc), (nI fd), (nI (md + 1)), (nI bk), (nI pr2), (nI at1098), ne0, (nI lk), (nI mf), (nI (mm + 1)), (nI fa1099), pl1100, (nI nd), (nI wr1101), (nI lz), (nI dc), (nI fd), (nI (md + 1)), (nI bk), (nI pr2), (nI at1098), ne0, (nI lk), (nI mf), (nI (mm + 1))]) rfl rfl (show (updA (updA (updA X2 2 K) 19 yt1103) 20 yr1104) = (updA (updA (updA X2 19 yt1103) 20 yr1104) 2 K) from updsA_eq2 (F := X2) (l1 := [(2, K), (19, yt1103), (20, yr1104)]) (l2 := [(19, yt1103), (20, yr1104), (2, K)]) (V := [K, yt1103, yr1104, yt1103, yr1104, K]) rfl rfl) hP
                have hD : va_D A (mW G h0 a (upd (upd (upd (upd (upd (upd (upd (upd (upd (upd (upd (upd (upd (upd (upd F 15 (nI fa1099)) 16 pl1100) 27 (nI nd)) 31 (nI wr1101)) 34 (nI lz)) 35 (nI dc)) 44 (nI fd)) 49 (nI (md + 1))) 59 (nI bk)) 60 (nI pr2)) 64 (nI at1098)) 65 ne0) 66 (nI lk)) 67 (nI mf)) 68 (nI (mm + 1))) (updA (updA (updA X2 19 yt1103) 20 yr1104) 2 K)) := mW_D hD
                rcases Nat.eq_zero_or_pos fa1099 with e1120 | e1120
                · subst e1120
                  have hP : va_P G.1 pCl (mW G h0 a (upd (upd (upd (upd (upd (upd (upd (upd (upd (upd (upd (upd (upd (upd (upd F 15 0) 16 pl1100) 27 (nI nd)) 31 (nI wr1101)) 34 (nI lz)) 35 (nI dc)) 44 (nI fd)) 49 (nI (md + 1))) 59 (nI bk)) 60 (nI pr2)) 64 (nI at1098)) 65 ne0) 66 (nI lk)) 67 (nI mf)) 68 (nI (mm + 1))) (updA (updA (updA X2 19 yt1103) 20 yr1104) 2 K)) _ := hP
                  have hD : va_D A (mW G h0 a (upd (upd (upd (upd (upd (upd (upd (upd (upd (upd (upd (upd (upd (upd (upd F 15 0) 16 pl1100) 27 (nI nd)) 31 (nI wr1101)) 34 (nI lz)) 35 (nI dc)) 44 (nI fd)) 49 (nI (md + 1))) 59 (nI bk)) 60 (nI pr2)) 64 (nI at1098)) 65 ne0) 66 (nI lk)) 67 (nI mf)) 68 (nI (mm + 1))) (updA (updA (updA X2 19 yt1103) 20 yr1104) 2 K)) := mW_D hD
                  have hkq1121 : Kq 0 B (updA (updA X2 19 yt1103) 20 yr1104) := (Kq.row (Kq.row hkq2 (by omega)) (by omega))
                  have hce1122 : (updA (updA X2 19 yt1103) 20 yr1104) 36 md = (nI d) := hc36
                  have hce1123 : (updA (updA X2 19 yt1103) 20 yr1104) 37 md = (nI v2) := hc37
                  have hce1124 : (updA (updA X2 19 yt1103) 20 yr1104) 38 md = (nI tn) := hc38
                  have hce1125 : (updA (updA X2 19 yt1103) 20 yr1104) 39 md = y := hc39
                  have hce1126 : (updA (updA X2 19 yt1103) 20 yr1104) 40 md = (nI pr) := hc40
                  have hce1127 : (updA (updA X2 19 yt1103) 20 yr1104) 41 md = (nI q2) := hc41
                  have hce1128 : (updA (updA X2 19 yt1103) 20 yr1104) 42 md = (-1) := hc42
                  have hce1129 : (updA (updA X2 19 yt1103) 20 yr1104) 43 md = (-1) := hc43
                  have hce1130 : (updA (updA X2 19 yt1103) 20 yr1104) 44 md = (-1) := hc44
                  have hty1131 : tkRow ((updA (updA X2 19 yt1103) 20 yr1104) 19) wr1101 T := h1115
                  have hps1132 : PS T nm wr1101 lz dc fd md pr2 bk (updA (updA X2 19 yt1103) 20 yr1104) := (PS.same hps2 (by omega) (by omega) (fun r i q1 q2 q3 => by unfold updA; rw [if_neg (by omega), if_neg (by omega)]))
                  have hfm1133 : FrM K T wr1101 (updA (updA X2 19 yt1103) 20 yr1104) nd md := (FrM.same hfm2 (by omega) (fun j i q1 q2 q3 => by unfold updA; rw [if_neg (by omega), if_neg (by omega)]) (fun i q => rfl))
                  have hlr1134 : lsRow ((updA (updA X2 19 yt1103) 20 yr1104) 22) ((updA (updA X2 19 yt1103) 20 yr1104) 23) lz T := hlr2
                  refine r_sti (f := ((updA (updA X2 19 yt1103) 20 yr1104) 47)) (j := pr2) hx hb hE hP hD hS 47 (ma_47 G a _) rfl (mas_47 G a _) (by omega) (by decide) dX12_method_184 (fun H locs hP hD hS => ?_)
                  have hP : va_P G.1 pCl (mW G h0 a (upd (upd (upd (upd (upd (upd (upd (upd (upd (upd (upd (upd (upd (upd (upd F 15 0) 16 pl1100) 27 (nI nd)) 31 (nI wr1101)) 34 (nI lz)) 35 (nI dc)) 44 (nI fd)) 49 (nI (md + 1))) 59 (nI bk)) 60 (nI pr2)) 64 (nI at1098)) 65 ne0) 66 (nI lk)) 67 (nI mf)) 68 (nI (mm + 1))) (updA (stR (updA (updA X2 19 yt1103) 20 yr1104) 47 pr2 (nI r1102)) 2 K)) _ := hP
                  have hD : va_D A (mW G h0 a (upd (upd (upd (upd (upd (upd (upd (upd (upd (upd (upd (upd (upd (upd (upd F 15 0) 16 pl1100) 27 (nI nd)) 31 (nI wr1101)) 34 (nI lz)) 35 (nI dc)) 44 (nI fd)) 49 (nI (md + 1))) 59 (nI bk)) 60 (nI pr2)) 64 (nI at1098)) 65 ne0) 66 (nI lk)) 67 (nI mf)) 68 (nI (mm + 1))) (updA (stR (updA (updA X2 19 yt1103) 20 yr1104) 47 pr2 (nI r1102)) 2 K)) := mW_D hD
                  have hkq1135 : Kq 0 B (stR (updA (updA X2 19 yt1103) 20 yr1104) 47 pr2 (nI r1102)) := (Kq.st hkq1121 (by omega))
                  have hce1136 : (stR (updA (updA X2 19 yt1103) 20 yr1104) 47 pr2 (nI r1102)) 36 md = (nI d) := ((st_ne (by omega)).trans hce1122)
                  have hce1137 : (stR (updA (updA X2 19 yt1103) 20 yr1104) 47 pr2 (nI r1102)) 37 md = (nI v2) := ((st_ne (by omega)).trans hce1123)
                  have hce1138 : (stR (updA (updA X2 19 yt1103) 20 yr1104) 47 pr2 (nI r1102)) 38 md = (nI tn) := ((st_ne (by omega)).trans hce1124)
                  have hce1139 : (stR (updA (updA X2 19 yt1103) 20 yr1104) 47 pr2 (nI r1102)) 39 md = y := ((st_ne (by omega)).trans hce1125)
                  have hce1140 : (stR (updA (updA X2 19 yt1103) 20 yr1104) 47 pr2 (nI r1102)) 40 md = (nI pr) := ((st_ne (by omega)).trans hce1126)
                  have hce1141 : (stR (updA (updA X2 19 yt1103) 20 yr1104) 47 pr2 (nI r1102)) 41 md = (nI q2) := ((st_ne (by omega)).trans hce1127)
                  have hce1142 : (stR (updA (updA X2 19 yt1103) 20 yr1104) 47 pr2 (nI r1102)) 42 md = (-1) := ((st_ne (by omega)).trans hce1128)
                  have hce1143 : (stR (updA (updA X2 19 yt1103) 20 yr1104) 47 pr2 (nI r1102)) 43 md = (-1) := ((st_ne (by omega)).trans hce1129)
                  have hce1144 : (stR (updA (updA X2 19 yt1103) 20 yr1104) 47 pr2 (nI r1102)) 44 md = (-1) := ((st_ne (by omega)).trans hce1130)
                  have hty1145 : tkRow ((stR (updA (updA X2 19 yt1103) 20 yr1104) 47 pr2 (nI r1102)) 19) wr1101 T := hty1131
                  have hps1146 : PS T nm wr1101 lz dc fd md pr2 bk (stR (updA (updA X2 19 yt1103) 20 yr1104) 47 pr2 (nI r1102)) := (PS.same hps1132 (by omega) (by omega) (fun r i q1 q2 q3 => st_ne (fun e => by rw [e.1, e.2] at q3; exact absurd (show pr2 < pr2 from q3) (by omega))))
                  have hfm1147 : FrM K T wr1101 (stR (updA (updA X2 19 yt1103) 20 yr1104) 47 pr2 (nI r1102)) nd md := (FrM.same hfm1133 (by omega) (fun j i q1 q2 q3 => st_ne (by omega)) (fun i q => st_ne (by omega)))
                  have hlr1148 : lsRow ((stR (updA (updA X2 19 yt1103) 20 yr1104) 47 pr2 (nI r1102)) 22) ((stR (updA (updA X2 19 yt1103) 20 yr1104) 47 pr2 (nI r1102)) 23) lz T := hlr1134
                  have hce1149 : (stR (updA (updA X2 19 yt1103) 20 yr1104) 47 pr2 (nI r1102)) 47 pr2 = (nI r1102) := st_eq
                  refine lv_aload_n hx hb dX12_method_185 rfl (lv_at hl 5 rfl) ?_
                  have hP : va_P G.1 pCl (mW G h0 a (upd (upd (upd (upd (upd (upd (upd (upd (upd (upd (upd (upd (upd (upd (upd (upd (upd F 15 0) 16 pl1100) 27 (nI nd)) 31 (nI wr1101)) 34 (nI lz)) 35 (nI dc)) 44 (nI fd)) 49 (nI (md + 1))) 59 (nI bk)) 60 (nI pr2)) 64 (nI at1098)) 65 ne0) 66 (nI lk)) 67 (nI mf)) 68 (nI (mm + 1))) 15 (nI 0)) 64 (nI at1098)) (updA (updA (stR (updA (updA X2 19 yt1103) 20 yr1104) 47 pr2 (nI r1102)) 2 K) 2 K)) _ := mW_to (F := F) (l1 := [(15, 0), (16, pl1100), (27, (nI nd)), (31, (nI wr1101)), (34, (nI lz)), (35, (nI dc)), (44, (nI fd)), (49, (nI (md + 1))), (59, (nI bk)), (60, (nI pr2)), (64, (nI at1098)), (65, ne0), (66, (nI lk)), (67, (nI mf)), (68, (nI (mm + 1)))]) (l2 := [(15, 0), (16, pl1100), (27, (nI nd)), (31, (nI wr1101)), (34, (nI lz)), (35, (nI dc)), (44, (nI fd)), (49, (nI (md + 1))), (59, (nI bk)), (60, (nI pr2)), (64, (nI at1098)), (65, ne0), (66, (nI lk)), (67, (nI mf)), (68, (nI (mm + 1))), (15, (nI 0)), (64, (nI at1098))]) (V := [(nI 0), pl1100, (nI nd), (nI wr1101), (nI lz), (nI dc), (nI fd), (nI (md + 1)), (nI bk), (nI pr2), (nI at1098), ne0, (nI lk), (nI mf), (nI (mm + 1)), (nI 0), pl1100, (nI nd), (nI wr1101), (nI lz), (nI dc), (nI fd), (nI (md + 1)), (nI bk), (nI pr2), (nI at1098), ne0, (nI lk), (nI mf), (nI (mm + 1)), (nI 0), (nI at1098)]) rfl rfl (show (updA (stR (updA (updA X2 19 yt1103) 20 yr1104) 47 pr2 (nI r1102)) 2 K) = (updA (updA (stR (updA (updA X2 19 yt1103) 20 yr1104) 47 pr2 (nI r1102)) 2 K) 2 K) from updsA_eq2 (F := (stR (updA (updA X2 19 yt1103) 20 yr1104) 47 pr2 (nI r1102))) (l1 := [(2, K)]) (l2 := [(2, K), (2, K)]) (V := [K, K, K]) rfl rfl) hP
                  have hD : va_D A (mW G h0 a (upd (upd (upd (upd (upd (upd (upd (upd (upd (upd (upd (upd (upd (upd (upd (upd (upd F 15 0) 16 pl1100) 27 (nI nd)) 31 (nI wr1101)) 34 (nI lz)) 35 (nI dc)) 44 (nI fd)) 49 (nI (md + 1))) 59 (nI bk)) 60 (nI pr2)) 64 (nI at1098)) 65 ne0) 66 (nI lk)) 67 (nI mf)) 68 (nI (mm + 1))) 15 (nI 0)) 64 (nI at1098)) (updA (updA (stR (updA (updA X2 19 yt1103) 20 yr1104) 47 pr2 (nI r1102)) 2 K) 2 K)) := mW_D hD
                  refine pc_V0 (G := G) (As := []) (rest := []) hx hb hml hown hq hE hX pX0_al hP hD hS hA hl.1 (R_name l G h0 a (upd (upd (upd (upd (upd (upd (upd (upd (upd (upd (upd (upd (upd (upd (upd F 15 0) 16 pl1100) 27 (nI nd)) 31 (nI wr1101)) 34 (nI lz)) 35 (nI dc)) 44 (nI fd)) 49 (nI (md + 1))) 59 (nI bk)) 60 (nI pr2)) 64 (nI at1098)) 65 ne0) 66 (nI lk)) 67 (nI mf)) 68 (nI (mm + 1))) (updA (stR (updA (updA X2 19 yt1103) 20 yr1104) 47 pr2 (nI r1102)) 2 K) at1098 T 0 K (by omega) (by omega) hK (by omega)) (gV pw_1618 pw_1619 pw_1620 pw_1523 pw_1613) hV_X12_name 0 9 rfl rfl rfl rfl (Nat.le_of_ble_eq_true rfl) dX12_method_186 ⟨Nat.le_of_ble_eq_true rfl, Nat.le_of_ble_eq_true rfl⟩ ⟨Nat.le_of_ble_eq_true rfl, Nat.le_of_ble_eq_true rfl⟩ (fun v1152 u1150 H locs hw1151 hP hD hS => ?_)
                  obtain ⟨at1153, fa1154, pl1155⟩ := u1150
                  obtain ⟨hw1151, h1156, h1157, h1158, h1159, h1160, h1161, h1162, h1163⟩ := hw1151
                  replace h1156 : at1098 ≤ at1153 := h1156
                  replace h1157 : at1153 ≤ T := h1157
                  replace h1158 : 0 ≤ fa1154 := h1158
                  replace h1159 : fa1154 ≤ 100 := h1159
                  replace h1160 : If (0 < 0) (at1153 = at1098 ∧ fa1154 = 0) := h1160
                  replace h1161 : at1153 ≤ at1098 + 1 := h1161
                  replace h1162 : at1098 + 1 ≤ at1153 + fa1154 := h1162
                  replace h1163 : If (fa1154 = 0) (K at1098 = 1) := h1163
                  obtain rfl : v1152 = some (.int (nI at1098)) := hw1151
                  have hP : va_P G.1 pCl (mW G h0 a (upd (upd (upd (upd (upd (upd (upd (upd (upd (upd (upd (upd (upd (upd (upd F 15 (nI fa1154)) 16 pl1155) 27 (nI nd)) 31 (nI wr1101)) 34 (nI lz)) 35 (nI dc)) 44 (nI fd)) 49 (nI (md + 1))) 59 (nI bk)) 60 (nI pr2)) 64 (nI at1153)) 65 ne0) 66 (nI lk)) 67 (nI mf)) 68 (nI (mm + 1))) (updA (stR (updA (updA X2 19 yt1103) 20 yr1104) 47 pr2 (nI r1102)) 2 K)) _ := mW_to (F := F) (l1 := [(15, 0), (16, pl1100), (27, (nI nd)), (31, (nI wr1101)), (34, (nI lz)), (35, (nI dc)), (44, (nI fd)), (49, (nI (md + 1))), (59, (nI bk)), (60, (nI pr2)), (64, (nI at1098)), (65, ne0), (66, (nI lk)), (67, (nI mf)), (68, (nI (mm + 1))), (15, (nI fa1154)), (16, pl1155), (64, (nI at1153))]) (l2 := [(15, (nI fa1154)), (16, pl1155), (27, (nI nd)), (31, (nI wr1101)), (34, (nI lz)), (35, (nI dc)), (44, (nI fd)), (49, (nI (md + 1))), (59, (nI bk)), (60, (nI pr2)), (64, (nI at1153)), (65, ne0), (66, (nI lk)), (67, (nI mf)), (68, (nI (mm + 1)))]) (V := [(nI fa1154), pl1155, (nI nd), (nI wr1101), (nI lz), (nI dc), (nI fd), (nI (md + 1)), (nI bk), (nI pr2), (nI at1153), ne0, (nI lk), (nI mf), (nI (mm + 1)), (nI fa1154), pl1155, (nI at1153), (nI fa1154), pl1155, (nI nd), (nI wr1101), (nI lz), (nI dc), (nI fd), (nI (md + 1)), (nI bk), (nI pr2), (nI at1153), ne0, (nI lk), (nI mf), (nI (mm + 1))]) rfl rfl (show (updA (updA (stR (updA (updA X2 19 yt1103) 20 yr1104) 47 pr2 (nI r1102)) 2 K) 2 K) = (updA (stR (updA (updA X2 19 yt1103) 20 yr1104) 47 pr2 (nI r1102)) 2 K) from updsA_eq2 (F := (stR (updA (updA X2 19 yt1103) 20 yr1104) 47 pr2 (nI r1102))) (l1 := [(2, K), (2, K)]) (l2 := [(2, K)]) (V := [K, K, K]) rfl rfl) hP
                  have hD : va_D A (mW G h0 a (upd (upd (upd (upd (upd (upd (upd (upd (upd (upd (upd (upd (upd (upd (upd F 15 (nI fa1154)) 16 pl1155) 27 (nI nd)) 31 (nI wr1101)) 34 (nI lz)) 35 (nI dc)) 44 (nI fd)) 49 (nI (md + 1))) 59 (nI bk)) 60 (nI pr2)) 64 (nI at1153)) 65 ne0) 66 (nI lk)) 67 (nI mf)) 68 (nI (mm + 1))) (updA (stR (updA (updA X2 19 yt1103) 20 yr1104) 47 pr2 (nI r1102)) 2 K)) := mW_D hD
                  refine W.widen (k := 0) (n := 0) (Nat.le_of_ble_eq_true rfl) (Nat.le_of_ble_eq_true rfl) ?_
                  refine W.eq (g2 := F0 m 189 ls [.int (nI at1098)]) rfl ?_
                  rcases Nat.eq_zero_or_pos fa1154 with e1164 | e1164
                  · subst e1164
                    have hP : va_P G.1 pCl (mW G h0 a (upd (upd (upd (upd (upd (upd (upd (upd (upd (upd (upd (upd (upd (upd (upd F 15 0) 16 pl1155) 27 (nI nd)) 31 (nI wr1101)) 34 (nI lz)) 35 (nI dc)) 44 (nI fd)) 49 (nI (md + 1))) 59 (nI bk)) 60 (nI pr2)) 64 (nI at1153)) 65 ne0) 66 (nI lk)) 67 (nI mf)) 68 (nI (mm + 1))) (updA (stR (updA (updA X2 19 yt1103) 20 yr1104) 47 pr2 (nI r1102)) 2 K)) _ := hP
                    have hD : va_D A (mW G h0 a (upd (upd (upd (upd (upd (upd (upd (upd (upd (upd (upd (upd (upd (upd (upd F 15 0) 16 pl1155) 27 (nI nd)) 31 (nI wr1101)) 34 (nI lz)) 35 (nI dc)) 44 (nI fd)) 49 (nI (md + 1))) 59 (nI bk)) 60 (nI pr2)) 64 (nI at1153)) 65 ne0) 66 (nI lk)) 67 (nI mf)) 68 (nI (mm + 1))) (updA (stR (updA (updA X2 19 yt1103) 20 yr1104) 47 pr2 (nI r1102)) 2 K)) := mW_D hD
                    refine lv_istore (lv' := [(6, .int (nI at1098)), (5, .int (nI mo)), (4, .int (nI md)), (3, .int (nI tn)), (2, .int y), (1, .int (nI d)), (0, .ref h0)]) hx hb dX12_method_189 hl (by decide) rfl (fun ls hl => ?_)
                    refine lv_aload_n hx hb dX12_method_191 rfl (lv_at hl 6 rfl) ?_
                    refine r_get (v := .int 0) hx hb hown hq hE hP 15 350 tFX12_15 (by decide) pw_1594 rfl dX12_method_192 ?_
                    refine lv_if_le (tgt := 199) hx hb dX12_method_195 (by decide) (fun c1165 => ?_) (fun c1165 => absurd c1165 (by decide))
                    refine lv_aload_n hx hb dX12_method_199 rfl (lv_at hl 6 rfl) ?_
                    refine r_get (v := .ref (a 45)) hx hb hown hq hE hP 61 147 tFX12_61 (by decide) pw_1476 rfl dX12_method_200 ?_
                    refine lv_aload_n hx hb dX12_method_203 rfl (lv_at hl 6 rfl) ?_
                    refine r_get (v := .int (nI pr2)) hx hb hown hq hE hP 60 419 tFX12_60 (by decide) pw_1723 rfl dX12_method_204 ?_
                    refine lv_aload_n hx hb dX12_method_207 rfl (lv_at hl 6 rfl) ?_
                    refine r_get (v := .ref (a 5)) hx hb hown hq hE hP 8 25 tFX12_8 (by decide) pw_1435 rfl dX12_method_208 ?_
                    refine lv_iload hx hb dX12_method_211 (lv_at hl 0 rfl) ?_
                    refine r_ldi (f := ((stR (updA (updA X2 19 yt1103) 20 yr1104) 47 pr2 (nI r1102)) 5)) (j := at1098) hx hb hE hP 5 (ma_5 G a _) rfl (by omega) (by decide) dX12_method_213 ?_
                    obtain ⟨v1168, h1169, e1170⟩ := hV at1098 (by omega) (h1163 rfl)
                    refine lv_topi (fun x1166 e1167 => ?_)
                    obtain rfl : x1166 = nI v1168 := e1167.trans ((congrFun (hkq1135 5 (by omega)) at1098).trans e1170)
                    refine r_sti (f := ((stR (updA (updA X2 19 yt1103) 20 yr1104) 47 pr2 (nI r1102)) 45)) (j := pr2) hx hb hE hP hD hS 45 (ma_45 G a _) rfl (mas_45 G a _) (by omega) (by decide) dX12_method_214 (fun H locs hP hD hS => ?_)
                    have hP : va_P G.1 pCl (mW G h0 a (upd (upd (upd (upd (upd (upd (upd (upd (upd (upd (upd (upd (upd (upd (upd F 15 0) 16 pl1155) 27 (nI nd)) 31 (nI wr1101)) 34 (nI lz)) 35 (nI dc)) 44 (nI fd)) 49 (nI (md + 1))) 59 (nI bk)) 60 (nI pr2)) 64 (nI at1153)) 65 ne0) 66 (nI lk)) 67 (nI mf)) 68 (nI (mm + 1))) (updA (stR (stR (updA (updA X2 19 yt1103) 20 yr1104) 47 pr2 (nI r1102)) 45 pr2 (nI v1168)) 2 K)) _ := hP
                    have hD : va_D A (mW G h0 a (upd (upd (upd (upd (upd (upd (upd (upd (upd (upd (upd (upd (upd (upd (upd F 15 0) 16 pl1155) 27 (nI nd)) 31 (nI wr1101)) 34 (nI lz)) 35 (nI dc)) 44 (nI fd)) 49 (nI (md + 1))) 59 (nI bk)) 60 (nI pr2)) 64 (nI at1153)) 65 ne0) 66 (nI lk)) 67 (nI mf)) 68 (nI (mm + 1))) (updA (stR (stR (updA (updA X2 19 yt1103) 20 yr1104) 47 pr2 (nI r1102)) 45 pr2 (nI v1168)) 2 K)) := mW_D hD
                    have hkq1171 : Kq 0 B (stR (stR (updA (updA X2 19 yt1103) 20 yr1104) 47 pr2 (nI r1102)) 45 pr2 (nI v1168)) := (Kq.st hkq1135 (by omega))
                    have hce1172 : (stR (stR (updA (updA X2 19 yt1103) 20 yr1104) 47 pr2 (nI r1102)) 45 pr2 (nI v1168)) 36 md = (nI d) := ((st_ne (by omega)).trans hce1136)
                    have hce1173 : (stR (stR (updA (updA X2 19 yt1103) 20 yr1104) 47 pr2 (nI r1102)) 45 pr2 (nI v1168)) 37 md = (nI v2) := ((st_ne (by omega)).trans hce1137)
                    have hce1174 : (stR (stR (updA (updA X2 19 yt1103) 20 yr1104) 47 pr2 (nI r1102)) 45 pr2 (nI v1168)) 38 md = (nI tn) := ((st_ne (by omega)).trans hce1138)
                    have hce1175 : (stR (stR (updA (updA X2 19 yt1103) 20 yr1104) 47 pr2 (nI r1102)) 45 pr2 (nI v1168)) 39 md = y := ((st_ne (by omega)).trans hce1139)
                    have hce1176 : (stR (stR (updA (updA X2 19 yt1103) 20 yr1104) 47 pr2 (nI r1102)) 45 pr2 (nI v1168)) 40 md = (nI pr) := ((st_ne (by omega)).trans hce1140)
                    have hce1177 : (stR (stR (updA (updA X2 19 yt1103) 20 yr1104) 47 pr2 (nI r1102)) 45 pr2 (nI v1168)) 41 md = (nI q2) := ((st_ne (by omega)).trans hce1141)
                    have hce1178 : (stR (stR (updA (updA X2 19 yt1103) 20 yr1104) 47 pr2 (nI r1102)) 45 pr2 (nI v1168)) 42 md = (-1) := ((st_ne (by omega)).trans hce1142)
                    have hce1179 : (stR (stR (updA (updA X2 19 yt1103) 20 yr1104) 47 pr2 (nI r1102)) 45 pr2 (nI v1168)) 43 md = (-1) := ((st_ne (by omega)).trans hce1143)
                    have hce1180 : (stR (stR (updA (updA X2 19 yt1103) 20 yr1104) 47 pr2 (nI r1102)) 45 pr2 (nI v1168)) 44 md = (-1) := ((st_ne (by omega)).trans hce1144)
                    have hce1181 : (stR (stR (updA (updA X2 19 yt1103) 20 yr1104) 47 pr2 (nI r1102)) 45 pr2 (nI v1168)) 47 pr2 = (nI r1102) := ((st_ne (by omega)).trans hce1149)
                    have hty1182 : tkRow ((stR (stR (updA (updA X2 19 yt1103) 20 yr1104) 47 pr2 (nI r1102)) 45 pr2 (nI v1168)) 19) wr1101 T := hty1145
                    have hps1183 : PS T nm wr1101 lz dc fd md pr2 bk (stR (stR (updA (updA X2 19 yt1103) 20 yr1104) 47 pr2 (nI r1102)) 45 pr2 (nI v1168)) := (PS.same hps1146 (by omega) (by omega) (fun r i q1 q2 q3 => st_ne (fun e => by rw [e.1, e.2] at q3; exact absurd (show pr2 < pr2 from q3) (by omega))))
                    have hfm1184 : FrM K T wr1101 (stR (stR (updA (updA X2 19 yt1103) 20 yr1104) 47 pr2 (nI r1102)) 45 pr2 (nI v1168)) nd md := (FrM.same hfm1147 (by omega) (fun j i q1 q2 q3 => st_ne (by omega)) (fun i q => st_ne (by omega)))
                    have hlr1185 : lsRow ((stR (stR (updA (updA X2 19 yt1103) 20 yr1104) 47 pr2 (nI r1102)) 45 pr2 (nI v1168)) 22) ((stR (stR (updA (updA X2 19 yt1103) 20 yr1104) 47 pr2 (nI r1102)) 45 pr2 (nI v1168)) 23) lz T := hlr1148
                    have hce1186 : (stR (stR (updA (updA X2 19 yt1103) 20 yr1104) 47 pr2 (nI r1102)) 45 pr2 (nI v1168)) 45 pr2 = (nI v1168) := st_eq
                    refine lv_aload_n hx hb dX12_method_215 rfl (lv_at hl 6 rfl) ?_
                    refine r_get (v := .ref (a 46)) hx hb hown hq hE hP 62 150 tFX12_62 (by decide) pw_1477 rfl dX12_method_216 ?_
                    refine lv_aload_n hx hb dX12_method_219 rfl (lv_at hl 6 rfl) ?_
                    refine r_get (v := .int (nI pr2)) hx hb hown hq hE hP 60 419 tFX12_60 (by decide) pw_1723 rfl dX12_method_220 ?_
                    refine lv_iload hx hb dX12_method_223 (lv_at hl 0 rfl) ?_
                    refine r_sti (f := ((stR (stR (updA (updA X2 19 yt1103) 20 yr1104) 47 pr2 (nI r1102)) 45 pr2 (nI v1168)) 46)) (j := pr2) hx hb hE hP hD hS 46 (ma_46 G a _) rfl (mas_46 G a _) (by omega) (by decide) dX12_method_225 (fun H locs hP hD hS => ?_)
                    have hP : va_P G.1 pCl (mW G h0 a (upd (upd (upd (upd (upd (upd (upd (upd (upd (upd (upd (upd (upd (upd (upd F 15 0) 16 pl1155) 27 (nI nd)) 31 (nI wr1101)) 34 (nI lz)) 35 (nI dc)) 44 (nI fd)) 49 (nI (md + 1))) 59 (nI bk)) 60 (nI pr2)) 64 (nI at1153)) 65 ne0) 66 (nI lk)) 67 (nI mf)) 68 (nI (mm + 1))) (updA (stR (stR (stR (updA (updA X2 19 yt1103) 20 yr1104) 47 pr2 (nI r1102)) 45 pr2 (nI v1168)) 46 pr2 (nI at1098)) 2 K)) _ := hP
                    have hD : va_D A (mW G h0 a (upd (upd (upd (upd (upd (upd (upd (upd (upd (upd (upd (upd (upd (upd (upd F 15 0) 16 pl1155) 27 (nI nd)) 31 (nI wr1101)) 34 (nI lz)) 35 (nI dc)) 44 (nI fd)) 49 (nI (md + 1))) 59 (nI bk)) 60 (nI pr2)) 64 (nI at1153)) 65 ne0) 66 (nI lk)) 67 (nI mf)) 68 (nI (mm + 1))) (updA (stR (stR (stR (updA (updA X2 19 yt1103) 20 yr1104) 47 pr2 (nI r1102)) 45 pr2 (nI v1168)) 46 pr2 (nI at1098)) 2 K)) := mW_D hD
                    have hkq1187 : Kq 0 B (stR (stR (stR (updA (updA X2 19 yt1103) 20 yr1104) 47 pr2 (nI r1102)) 45 pr2 (nI v1168)) 46 pr2 (nI at1098)) := (Kq.st hkq1171 (by omega))
                    have hce1188 : (stR (stR (stR (updA (updA X2 19 yt1103) 20 yr1104) 47 pr2 (nI r1102)) 45 pr2 (nI v1168)) 46 pr2 (nI at1098)) 36 md = (nI d) := ((st_ne (by omega)).trans hce1172)
                    have hce1189 : (stR (stR (stR (updA (updA X2 19 yt1103) 20 yr1104) 47 pr2 (nI r1102)) 45 pr2 (nI v1168)) 46 pr2 (nI at1098)) 37 md = (nI v2) := ((st_ne (by omega)).trans hce1173)
                    have hce1190 : (stR (stR (stR (updA (updA X2 19 yt1103) 20 yr1104) 47 pr2 (nI r1102)) 45 pr2 (nI v1168)) 46 pr2 (nI at1098)) 38 md = (nI tn) := ((st_ne (by omega)).trans hce1174)
                    have hce1191 : (stR (stR (stR (updA (updA X2 19 yt1103) 20 yr1104) 47 pr2 (nI r1102)) 45 pr2 (nI v1168)) 46 pr2 (nI at1098)) 39 md = y := ((st_ne (by omega)).trans hce1175)
                    have hce1192 : (stR (stR (stR (updA (updA X2 19 yt1103) 20 yr1104) 47 pr2 (nI r1102)) 45 pr2 (nI v1168)) 46 pr2 (nI at1098)) 40 md = (nI pr) := ((st_ne (by omega)).trans hce1176)
                    have hce1193 : (stR (stR (stR (updA (updA X2 19 yt1103) 20 yr1104) 47 pr2 (nI r1102)) 45 pr2 (nI v1168)) 46 pr2 (nI at1098)) 41 md = (nI q2) := ((st_ne (by omega)).trans hce1177)
                    have hce1194 : (stR (stR (stR (updA (updA X2 19 yt1103) 20 yr1104) 47 pr2 (nI r1102)) 45 pr2 (nI v1168)) 46 pr2 (nI at1098)) 42 md = (-1) := ((st_ne (by omega)).trans hce1178)
                    have hce1195 : (stR (stR (stR (updA (updA X2 19 yt1103) 20 yr1104) 47 pr2 (nI r1102)) 45 pr2 (nI v1168)) 46 pr2 (nI at1098)) 43 md = (-1) := ((st_ne (by omega)).trans hce1179)
                    have hce1196 : (stR (stR (stR (updA (updA X2 19 yt1103) 20 yr1104) 47 pr2 (nI r1102)) 45 pr2 (nI v1168)) 46 pr2 (nI at1098)) 44 md = (-1) := ((st_ne (by omega)).trans hce1180)
                    have hce1197 : (stR (stR (stR (updA (updA X2 19 yt1103) 20 yr1104) 47 pr2 (nI r1102)) 45 pr2 (nI v1168)) 46 pr2 (nI at1098)) 47 pr2 = (nI r1102) := ((st_ne (by omega)).trans hce1181)
                    have hce1198 : (stR (stR (stR (updA (updA X2 19 yt1103) 20 yr1104) 47 pr2 (nI r1102)) 45 pr2 (nI v1168)) 46 pr2 (nI at1098)) 45 pr2 = (nI v1168) := ((st_ne (by omega)).trans hce1186)
                    have hty1199 : tkRow ((stR (stR (stR (updA (updA X2 19 yt1103) 20 yr1104) 47 pr2 (nI r1102)) 45 pr2 (nI v1168)) 46 pr2 (nI at1098)) 19) wr1101 T := hty1182
                    have hps1200 : PS T nm wr1101 lz dc fd md pr2 bk (stR (stR (stR (updA (updA X2 19 yt1103) 20 yr1104) 47 pr2 (nI r1102)) 45 pr2 (nI v1168)) 46 pr2 (nI at1098)) := (PS.same hps1183 (by omega) (by omega) (fun r i q1 q2 q3 => st_ne (fun e => by rw [e.1, e.2] at q3; exact absurd (show pr2 < pr2 from q3) (by omega))))
                    have hfm1201 : FrM K T wr1101 (stR (stR (stR (updA (updA X2 19 yt1103) 20 yr1104) 47 pr2 (nI r1102)) 45 pr2 (nI v1168)) 46 pr2 (nI at1098)) nd md := (FrM.same hfm1184 (by omega) (fun j i q1 q2 q3 => st_ne (by omega)) (fun i q => st_ne (by omega)))
                    have hlr1202 : lsRow ((stR (stR (stR (updA (updA X2 19 yt1103) 20 yr1104) 47 pr2 (nI r1102)) 45 pr2 (nI v1168)) 46 pr2 (nI at1098)) 22) ((stR (stR (stR (updA (updA X2 19 yt1103) 20 yr1104) 47 pr2 (nI r1102)) 45 pr2 (nI v1168)) 46 pr2 (nI at1098)) 23) lz T := hlr1185
                    have hce1203 : (stR (stR (stR (updA (updA X2 19 yt1103) 20 yr1104) 47 pr2 (nI r1102)) 45 pr2 (nI v1168)) 46 pr2 (nI at1098)) 46 pr2 = (nI at1098) := st_eq
                    refine lv_aload_n hx hb dX12_method_226 rfl (lv_at hl 6 rfl) ?_
                    refine lv_dup hx hb dX12_method_227 rfl ?_
                    refine r_get (v := .int (nI pr2)) hx hb hown hq hE hP 60 419 tFX12_60 (by decide) pw_1723 rfl dX12_method_228 ?_
                    refine lv_iconst (v := 1) hx hb dX12_method_231 (by decide) ?_
                    refine lv_iadd hx hb dX12_method_232 ?_
                    refine lv_topi (fun x1204 e1205 => ?_)
                    obtain rfl : x1204 = nI (pr2 + 1) := e1205.trans (nI_add (pr2) (1))
                    refine r_put (v := (nI (pr2 + 1))) (ty := .int) hx hb hown hq hE hP hD hS 60 419 tFX12_60 (by decide) pw_1723 (by decide) rfl rfl (ms_60 a _ _) dX12_method_233 (fun H locs hP hD hS => ?_)
                    refine lv_aload_n hx hb dX12_method_236 rfl (lv_at hl 6 rfl) ?_
                    refine r_get (v := .ref (a 41)) hx hb hown hq hE hP 55 135 tFX12_55 (by decide) pw_1472 rfl dX12_method_237 ?_
                    refine lv_iload hx hb dX12_method_240 (lv_at hl 2 rfl) ?_
                    refine lv_dup2_11 hx hb dX12_method_242 rfl rfl ?_
                    refine r_ldi (f := ((stR (stR (stR (updA (updA X2 19 yt1103) 20 yr1104) 47 pr2 (nI r1102)) 45 pr2 (nI v1168)) 46 pr2 (nI at1098)) 41)) (j := md) hx hb hE hP 41 (ma_41 G a _) rfl (by omega) (by decide) dX12_method_243 ?_
                    refine lv_topi (fun x1206 e1207 => ?_)
                    obtain rfl : x1206 = (nI q2) := e1207.trans hce1193
                    refine lv_iconst (v := 1) hx hb dX12_method_244 (by decide) ?_
                    refine lv_iadd hx hb dX12_method_245 ?_
                    refine lv_topi (fun x1208 e1209 => ?_)
                    obtain rfl : x1208 = nI (q2 + 1) := e1209.trans (nI_add (q2) (1))
                    refine r_sti (f := ((stR (stR (stR (updA (updA X2 19 yt1103) 20 yr1104) 47 pr2 (nI r1102)) 45 pr2 (nI v1168)) 46 pr2 (nI at1098)) 41)) (j := md) hx hb hE hP hD hS 41 (ma_41 G a _) rfl (mas_41 G a _) (by omega) (by decide) dX12_method_246 (fun H locs hP hD hS => ?_)
                    have hP : va_P G.1 pCl (mW G h0 a (upd (upd (upd (upd (upd (upd (upd (upd (upd (upd (upd (upd (upd (upd (upd F 15 0) 16 pl1155) 27 (nI nd)) 31 (nI wr1101)) 34 (nI lz)) 35 (nI dc)) 44 (nI fd)) 49 (nI (md + 1))) 59 (nI bk)) 60 (nI (pr2 + 1))) 64 (nI at1153)) 65 ne0) 66 (nI lk)) 67 (nI mf)) 68 (nI (mm + 1))) (updA (stR (stR (stR (stR (updA (updA X2 19 yt1103) 20 yr1104) 47 pr2 (nI r1102)) 45 pr2 (nI v1168)) 46 pr2 (nI at1098)) 41 md (nI (q2 + 1))) 2 K)) _ := hP
                    have hD : va_D A (mW G h0 a (upd (upd (upd (upd (upd (upd (upd (upd (upd (upd (upd (upd (upd (upd (upd F 15 0) 16 pl1155) 27 (nI nd)) 31 (nI wr1101)) 34 (nI lz)) 35 (nI dc)) 44 (nI fd)) 49 (nI (md + 1))) 59 (nI bk)) 60 (nI (pr2 + 1))) 64 (nI at1153)) 65 ne0) 66 (nI lk)) 67 (nI mf)) 68 (nI (mm + 1))) (updA (stR (stR (stR (stR (updA (updA X2 19 yt1103) 20 yr1104) 47 pr2 (nI r1102)) 45 pr2 (nI v1168)) 46 pr2 (nI at1098)) 41 md (nI (q2 + 1))) 2 K)) := mW_D hD
                    have hkq1210 : Kq 0 B (stR (stR (stR (stR (updA (updA X2 19 yt1103) 20 yr1104) 47 pr2 (nI r1102)) 45 pr2 (nI v1168)) 46 pr2 (nI at1098)) 41 md (nI (q2 + 1))) := (Kq.st hkq1187 (by omega))
                    have hce1211 : (stR (stR (stR (stR (updA (updA X2 19 yt1103) 20 yr1104) 47 pr2 (nI r1102)) 45 pr2 (nI v1168)) 46 pr2 (nI at1098)) 41 md (nI (q2 + 1))) 36 md = (nI d) := ((st_ne (by omega)).trans hce1188)
                    have hce1212 : (stR (stR (stR (stR (updA (updA X2 19 yt1103) 20 yr1104) 47 pr2 (nI r1102)) 45 pr2 (nI v1168)) 46 pr2 (nI at1098)) 41 md (nI (q2 + 1))) 37 md = (nI v2) := ((st_ne (by omega)).trans hce1189)
                    have hce1213 : (stR (stR (stR (stR (updA (updA X2 19 yt1103) 20 yr1104) 47 pr2 (nI r1102)) 45 pr2 (nI v1168)) 46 pr2 (nI at1098)) 41 md (nI (q2 + 1))) 38 md = (nI tn) := ((st_ne (by omega)).trans hce1190)
                    have hce1214 : (stR (stR (stR (stR (updA (updA X2 19 yt1103) 20 yr1104) 47 pr2 (nI r1102)) 45 pr2 (nI v1168)) 46 pr2 (nI at1098)) 41 md (nI (q2 + 1))) 39 md = y := ((st_ne (by omega)).trans hce1191)
                    have hce1215 : (stR (stR (stR (stR (updA (updA X2 19 yt1103) 20 yr1104) 47 pr2 (nI r1102)) 45 pr2 (nI v1168)) 46 pr2 (nI at1098)) 41 md (nI (q2 + 1))) 40 md = (nI pr) := ((st_ne (by omega)).trans hce1192)
                    have hce1216 : (stR (stR (stR (stR (updA (updA X2 19 yt1103) 20 yr1104) 47 pr2 (nI r1102)) 45 pr2 (nI v1168)) 46 pr2 (nI at1098)) 41 md (nI (q2 + 1))) 41 md = (nI (q2 + 1)) := st_eq
                    have hce1217 : (stR (stR (stR (stR (updA (updA X2 19 yt1103) 20 yr1104) 47 pr2 (nI r1102)) 45 pr2 (nI v1168)) 46 pr2 (nI at1098)) 41 md (nI (q2 + 1))) 42 md = (-1) := ((st_ne (by omega)).trans hce1194)
                    have hce1218 : (stR (stR (stR (stR (updA (updA X2 19 yt1103) 20 yr1104) 47 pr2 (nI r1102)) 45 pr2 (nI v1168)) 46 pr2 (nI at1098)) 41 md (nI (q2 + 1))) 43 md = (-1) := ((st_ne (by omega)).trans hce1195)
                    have hce1219 : (stR (stR (stR (stR (updA (updA X2 19 yt1103) 20 yr1104) 47 pr2 (nI r1102)) 45 pr2 (nI v1168)) 46 pr2 (nI at1098)) 41 md (nI (q2 + 1))) 44 md = (-1) := ((st_ne (by omega)).trans hce1196)
                    have hce1220 : (stR (stR (stR (stR (updA (updA X2 19 yt1103) 20 yr1104) 47 pr2 (nI r1102)) 45 pr2 (nI v1168)) 46 pr2 (nI at1098)) 41 md (nI (q2 + 1))) 47 pr2 = (nI r1102) := ((st_ne (by omega)).trans hce1197)
                    have hce1221 : (stR (stR (stR (stR (updA (updA X2 19 yt1103) 20 yr1104) 47 pr2 (nI r1102)) 45 pr2 (nI v1168)) 46 pr2 (nI at1098)) 41 md (nI (q2 + 1))) 45 pr2 = (nI v1168) := ((st_ne (by omega)).trans hce1198)
                    have hce1222 : (stR (stR (stR (stR (updA (updA X2 19 yt1103) 20 yr1104) 47 pr2 (nI r1102)) 45 pr2 (nI v1168)) 46 pr2 (nI at1098)) 41 md (nI (q2 + 1))) 46 pr2 = (nI at1098) := ((st_ne (by omega)).trans hce1203)
                    have hty1223 : tkRow ((stR (stR (stR (stR (updA (updA X2 19 yt1103) 20 yr1104) 47 pr2 (nI r1102)) 45 pr2 (nI v1168)) 46 pr2 (nI at1098)) 41 md (nI (q2 + 1))) 19) wr1101 T := hty1199
                    have hps1224 : PS T nm wr1101 lz dc fd md pr2 bk (stR (stR (stR (stR (updA (updA X2 19 yt1103) 20 yr1104) 47 pr2 (nI r1102)) 45 pr2 (nI v1168)) 46 pr2 (nI at1098)) 41 md (nI (q2 + 1))) := (PS.same hps1200 (by omega) (by omega) (fun r i q1 q2 q3 => st_ne (fun e => by rw [e.1, e.2] at q3; exact absurd (show md < md from q3) (by omega))))
                    have hfm1225 : FrM K T wr1101 (stR (stR (stR (stR (updA (updA X2 19 yt1103) 20 yr1104) 47 pr2 (nI r1102)) 45 pr2 (nI v1168)) 46 pr2 (nI at1098)) 41 md (nI (q2 + 1))) nd md := (FrM.same hfm1201 (by omega) (fun j i q1 q2 q3 => st_ne (by omega)) (fun i q => st_ne (by omega)))
                    have hlr1226 : lsRow ((stR (stR (stR (stR (updA (updA X2 19 yt1103) 20 yr1104) 47 pr2 (nI r1102)) 45 pr2 (nI v1168)) 46 pr2 (nI at1098)) 41 md (nI (q2 + 1))) 22) ((stR (stR (stR (stR (updA (updA X2 19 yt1103) 20 yr1104) 47 pr2 (nI r1102)) 45 pr2 (nI v1168)) 46 pr2 (nI at1098)) 41 md (nI (q2 + 1))) 23) lz T := hlr1202
                    refine lv_aload_n hx hb dX12_method_247 rfl (lv_at hl 6 rfl) ?_
                    refine lv_bipush (v := 44) hx hb dX12_method_248 (by decide) ?_
                    have hP : va_P G.1 pCl (mW G h0 a (upd (upd (upd (upd (upd (upd (upd (upd (upd (upd (upd (upd (upd (upd (upd (upd (upd F 15 0) 16 pl1155) 27 (nI nd)) 31 (nI wr1101)) 34 (nI lz)) 35 (nI dc)) 44 (nI fd)) 49 (nI (md + 1))) 59 (nI bk)) 60 (nI (pr2 + 1))) 64 (nI at1153)) 65 ne0) 66 (nI lk)) 67 (nI mf)) 68 (nI (mm + 1))) 15 (nI 0)) 64 (nI at1153)) (updA (updA (stR (stR (stR (stR (updA (updA X2 19 yt1103) 20 yr1104) 47 pr2 (nI r1102)) 45 pr2 (nI v1168)) 46 pr2 (nI at1098)) 41 md (nI (q2 + 1))) 2 K) 2 K)) _ := mW_to (F := F) (l1 := [(15, 0), (16, pl1155), (27, (nI nd)), (31, (nI wr1101)), (34, (nI lz)), (35, (nI dc)), (44, (nI fd)), (49, (nI (md + 1))), (59, (nI bk)), (60, (nI (pr2 + 1))), (64, (nI at1153)), (65, ne0), (66, (nI lk)), (67, (nI mf)), (68, (nI (mm + 1)))]) (l2 := [(15, 0), (16, pl1155), (27, (nI nd)), (31, (nI wr1101)), (34, (nI lz)), (35, (nI dc)), (44, (nI fd)), (49, (nI (md + 1))), (59, (nI bk)), (60, (nI (pr2 + 1))), (64, (nI at1153)), (65, ne0), (66, (nI lk)), (67, (nI mf)), (68, (nI (mm + 1))), (15, (nI 0)), (64, (nI at1153))]) (V := [(nI 0), pl1155, (nI nd), (nI wr1101), (nI lz), (nI dc), (nI fd), (nI (md + 1)), (nI bk), (nI (pr2 + 1)), (nI at1153), ne0, (nI lk), (nI mf), (nI (mm + 1)), (nI 0), pl1155, (nI nd), (nI wr1101), (nI lz), (nI dc), (nI fd), (nI (md + 1)), (nI bk), (nI (pr2 + 1)), (nI at1153), ne0, (nI lk), (nI mf), (nI (mm + 1)), (nI 0), (nI at1153)]) rfl rfl (show (updA (stR (stR (stR (stR (updA (updA X2 19 yt1103) 20 yr1104) 47 pr2 (nI r1102)) 45 pr2 (nI v1168)) 46 pr2 (nI at1098)) 41 md (nI (q2 + 1))) 2 K) = (updA (updA (stR (stR (stR (stR (updA (updA X2 19 yt1103) 20 yr1104) 47 pr2 (nI r1102)) 45 pr2 (nI v1168)) 46 pr2 (nI at1098)) 41 md (nI (q2 + 1))) 2 K) 2 K) from updsA_eq2 (F := (stR (stR (stR (stR (updA (updA X2 19 yt1103) 20 yr1104) 47 pr2 (nI r1102)) 45 pr2 (nI v1168)) 46 pr2 (nI at1098)) 41 md (nI (q2 + 1)))) (l1 := [(2, K)]) (l2 := [(2, K), (2, K)]) (V := [K, K, K]) rfl rfl) hP
                    have hD : va_D A (mW G h0 a (upd (upd (upd (upd (upd (upd (upd (upd (upd (upd (upd (upd (upd (upd (upd (upd (upd F 15 0) 16 pl1155) 27 (nI nd)) 31 (nI wr1101)) 34 (nI lz)) 35 (nI dc)) 44 (nI fd)) 49 (nI (md + 1))) 59 (nI bk)) 60 (nI (pr2 + 1))) 64 (nI at1153)) 65 ne0) 66 (nI lk)) 67 (nI mf)) 68 (nI (mm + 1))) 15 (nI 0)) 64 (nI at1153)) (updA (updA (stR (stR (stR (stR (updA (updA X2 19 yt1103) 20 yr1104) 47 pr2 (nI r1102)) 45 pr2 (nI v1168)) 46 pr2 (nI at1098)) 41 md (nI (q2 + 1))) 2 K) 2 K)) := mW_D hD
                    refine pc_V0 (G := G) (As := [.int 44]) (rest := []) hx hb hml hown hq hE hX pX0_al hP hD hS hA hl.1 (R_may l G h0 a (upd (upd (upd (upd (upd (upd (upd (upd (upd (upd (upd (upd (upd (upd (upd F 15 0) 16 pl1155) 27 (nI nd)) 31 (nI wr1101)) 34 (nI lz)) 35 (nI dc)) 44 (nI fd)) 49 (nI (md + 1))) 59 (nI bk)) 60 (nI (pr2 + 1))) 64 (nI at1153)) 65 ne0) 66 (nI lk)) 67 (nI mf)) 68 (nI (mm + 1))) (updA (stR (stR (stR (stR (updA (updA X2 19 yt1103) 20 yr1104) 47 pr2 (nI r1102)) 45 pr2 (nI v1168)) 46 pr2 (nI at1098)) 41 md (nI (q2 + 1))) 2 K) at1153 T 0 K 44 (by omega) (by omega) hK (by omega) (by decide) (by decide)) (gV pw_1621 pw_1622 pw_1623 pw_1523 pw_1605) hV_X12_may 0 9 rfl rfl rfl rfl (Nat.le_of_ble_eq_true rfl) dX12_method_250 ⟨Nat.le_of_ble_eq_true rfl, Nat.le_of_ble_eq_true rfl⟩ ⟨Nat.le_of_ble_eq_true rfl, Nat.le_of_ble_eq_true rfl⟩ (fun v1229 u1227 H locs hw1228 hP hD hS => ?_)
                    obtain ⟨at1230, r1231⟩ := u1227
                    obtain ⟨hw1228, h1232, h1233, h1234, h1235, h1236, h1237⟩ := hw1228
                    replace h1232 : r1231 ≤ 1 := h1232
                    replace h1233 : 0 + 100 * r1231 ≤ 100 := h1233
                    replace h1234 : at1230 = at1153 + r1231 := h1234
                    replace h1235 : at1230 ≤ T := h1235
                    replace h1236 : If (r1231 = 1) (K at1153 = 44) := h1236
                    replace h1237 : If (r1231 = 0) (0 = 0 → ¬ K at1153 = 44) := h1237
                    obtain rfl : v1229 = some (.int (nI r1231)) := hw1228
                    have hP : va_P G.1 pCl (mW G h0 a (upd (upd (upd (upd (upd (upd (upd (upd (upd (upd (upd (upd (upd (upd (upd F 15 0) 16 pl1155) 27 (nI nd)) 31 (nI wr1101)) 34 (nI lz)) 35 (nI dc)) 44 (nI fd)) 49 (nI (md + 1))) 59 (nI bk)) 60 (nI (pr2 + 1))) 64 (nI at1230)) 65 ne0) 66 (nI lk)) 67 (nI mf)) 68 (nI (mm + 1))) (updA (stR (stR (stR (stR (updA (updA X2 19 yt1103) 20 yr1104) 47 pr2 (nI r1102)) 45 pr2 (nI v1168)) 46 pr2 (nI at1098)) 41 md (nI (q2 + 1))) 2 K)) _ := mW_to (F := F) (l1 := [(15, 0), (16, pl1155), (27, (nI nd)), (31, (nI wr1101)), (34, (nI lz)), (35, (nI dc)), (44, (nI fd)), (49, (nI (md + 1))), (59, (nI bk)), (60, (nI (pr2 + 1))), (64, (nI at1153)), (65, ne0), (66, (nI lk)), (67, (nI mf)), (68, (nI (mm + 1))), (15, (nI 0)), (64, (nI at1230))]) (l2 := [(15, 0), (16, pl1155), (27, (nI nd)), (31, (nI wr1101)), (34, (nI lz)), (35, (nI dc)), (44, (nI fd)), (49, (nI (md + 1))), (59, (nI bk)), (60, (nI (pr2 + 1))), (64, (nI at1230)), (65, ne0), (66, (nI lk)), (67, (nI mf)), (68, (nI (mm + 1)))]) (V := [0, pl1155, (nI nd), (nI wr1101), (nI lz), (nI dc), (nI fd), (nI (md + 1)), (nI bk), (nI (pr2 + 1)), (nI at1230), ne0, (nI lk), (nI mf), (nI (mm + 1)), 0, (nI at1230), 0, pl1155, (nI nd), (nI wr1101), (nI lz), (nI dc), (nI fd), (nI (md + 1)), (nI bk), (nI (pr2 + 1)), (nI at1230), ne0, (nI lk), (nI mf), (nI (mm + 1))]) rfl rfl (show (updA (updA (stR (stR (stR (stR (updA (updA X2 19 yt1103) 20 yr1104) 47 pr2 (nI r1102)) 45 pr2 (nI v1168)) 46 pr2 (nI at1098)) 41 md (nI (q2 + 1))) 2 K) 2 K) = (updA (stR (stR (stR (stR (updA (updA X2 19 yt1103) 20 yr1104) 47 pr2 (nI r1102)) 45 pr2 (nI v1168)) 46 pr2 (nI at1098)) 41 md (nI (q2 + 1))) 2 K) from updsA_eq2 (F := (stR (stR (stR (stR (updA (updA X2 19 yt1103) 20 yr1104) 47 pr2 (nI r1102)) 45 pr2 (nI v1168)) 46 pr2 (nI at1098)) 41 md (nI (q2 + 1)))) (l1 := [(2, K), (2, K)]) (l2 := [(2, K)]) (V := [K, K, K]) rfl rfl) hP
                    have hD : va_D A (mW G h0 a (upd (upd (upd (upd (upd (upd (upd (upd (upd (upd (upd (upd (upd (upd (upd F 15 0) 16 pl1155) 27 (nI nd)) 31 (nI wr1101)) 34 (nI lz)) 35 (nI dc)) 44 (nI fd)) 49 (nI (md + 1))) 59 (nI bk)) 60 (nI (pr2 + 1))) 64 (nI at1230)) 65 ne0) 66 (nI lk)) 67 (nI mf)) 68 (nI (mm + 1))) (updA (stR (stR (stR (stR (updA (updA X2 19 yt1103) 20 yr1104) 47 pr2 (nI r1102)) 45 pr2 (nI v1168)) 46 pr2 (nI at1098)) 41 md (nI (q2 + 1))) 2 K)) := mW_D hD
                    refine W.widen (k := 0) (n := 0) (Nat.le_of_ble_eq_true rfl) (Nat.le_of_ble_eq_true rfl) ?_
                    refine W.eq (g2 := F0 m 253 ls [.int (nI r1231)]) rfl ?_
                    refine lv_istore (lv' := [(5, .int (nI r1231)), (6, .int (nI at1098)), (4, .int (nI md)), (3, .int (nI tn)), (2, .int y), (1, .int (nI d)), (0, .ref h0)]) hx hb dX12_method_253 hl (by decide) rfl (fun ls hl => ?_)
                    refine lv_goto (tgt := 135) hx hb dX12_method_255 (by decide) ?_
                    have hP : va_P G.1 pCl (mW G h0 a (upd (upd (upd (upd (upd (upd (upd (upd (upd (upd (upd (upd (upd (upd (upd F 15 0) 16 pl1155) 27 (nI nd)) 31 (nI wr1101)) 34 (nI lz)) 35 (nI dc)) 44 (nI fd)) 49 (nI (md + 1))) 59 (nI bk)) 60 (nI (pr2 + 1))) 64 (nI at1230)) 65 ne0) 66 (nI lk)) 67 (nI mf)) 68 (nI (mm + 1))) (updA (stR (stR (stR (stR (updA (updA X2 19 yt1103) 20 yr1104) 47 pr2 (nI r1102)) 45 pr2 (nI v1168)) 46 pr2 (nI at1098)) 41 md (nI (q2 + 1))) 2 K)) _ := hP
                    have hD : va_D A (mW G h0 a (upd (upd (upd (upd (upd (upd (upd (upd (upd (upd (upd (upd (upd (upd (upd F 15 0) 16 pl1155) 27 (nI nd)) 31 (nI wr1101)) 34 (nI lz)) 35 (nI dc)) 44 (nI fd)) 49 (nI (md + 1))) 59 (nI bk)) 60 (nI (pr2 + 1))) 64 (nI at1230)) 65 ne0) 66 (nI lk)) 67 (nI mf)) 68 (nI (mm + 1))) (updA (stR (stR (stR (stR (updA (updA X2 19 yt1103) 20 yr1104) 47 pr2 (nI r1102)) 45 pr2 (nI v1168)) 46 pr2 (nI at1098)) 41 md (nI (q2 + 1))) 2 K)) := mW_D hD
                    exact ih_o at1230 wr1101 (pr2 + 1) (q2 + 1) r1231 v2 pl1155 (stR (stR (stR (stR (updA (updA X2 19 yt1103) 20 yr1104) 47 pr2 (nI r1102)) 45 pr2 (nI v1168)) 46 pr2 (nI at1098)) 41 md (nI (q2 + 1))) _ _ _ (by omega) (by omega) (by omega) (by omega) (by omega) (by omega) (by omega) (by omega) (by omega) (by omega) hkq1210 (PS.par hps1224 hce1222 (by omega) hce1220 (by omega)) hfm1225 hty1223 hlr1226 hce1211 hce1212 hce1213 hce1214 hce1215 hce1216 hce1217 hce1218 hce1219 hP hD hS (lv_sub hl [0, 2, 3, 4, 5, 6] rfl)
                  · have e1164 := e1164
                    refine lv_istore (lv' := [(6, .int (nI at1098)), (5, .int (nI mo)), (4, .int (nI md)), (3, .int (nI tn)), (2, .int y), (1, .int (nI d)), (0, .ref h0)]) hx hb dX12_method_189 hl (by decide) rfl (fun ls hl => ?_)
                    refine lv_aload_n hx hb dX12_method_191 rfl (lv_at hl 6 rfl) ?_
                    refine r_get (v := .int (nI fa1154)) hx hb hown hq hE hP 15 350 tFX12_15 (by decide) pw_1594 rfl dX12_method_192 ?_
                    refine lv_if_le (tgt := 199) hx hb dX12_method_195 (by decide) (fun c1238 => (by have n1239 : fa1154 ≤ 0 := (nI_leI (a := fa1154) (b := 0) (by omega) (by omega)).mp c1238; omega)) (fun c1238 => ?_)
                    have hz1240 : at0 ≤ at1153 := (by omega)
                    have hz1241 : at1153 ≤ T := (by omega)
                    have hz1242 : fa1154 ≤ 100 := (by omega)
                    have hz1243 : at0 + 1 ≤ at1153 + fa1154 := (by omega)
                    have hz1244 : Kq 0 B (stR (updA (updA X2 19 yt1103) 20 yr1104) 47 pr2 (nI r1102)) := hkq1135
                    have hz1245 : If (fa1154 = 0) ((nd ≤ 2 * at1153 ∧ wr1101 ≤ at1153 ∧ lz ≤ at1153 ∧ pr2 ≤ at1153 ∧ dc ≤ 37 ∧ dc ≤ dc ∧ bk ≤ (md + 1) ∧ wr ≤ wr1101 ∧ lz ≤ lz) ∧ ((md + 1) + 240 ≤ 30 * dc + (mm + 1) ∧ fd + 160 ≤ 20 * dc + mf ∧ mf ≤ 20 ∧ (mm + 1) ≤ 30 ∧ dc = dc) ∧ PS T nm wr1101 lz dc fd (md + 1) pr2 bk (stR (updA (updA X2 19 yt1103) 20 yr1104) 47 pr2 (nI r1102)) ∧ FrM K T wr1101 (stR (updA (updA X2 19 yt1103) 20 yr1104) 47 pr2 (nI r1102)) nd (md + 1) ∧ tkRow ((stR (updA (updA X2 19 yt1103) 20 yr1104) 47 pr2 (nI r1102)) 19) wr1101 T ∧ lsRow ((stR (updA (updA X2 19 yt1103) 20 yr1104) 47 pr2 (nI r1102)) 22) ((stR (updA (updA X2 19 yt1103) 20 yr1104) 47 pr2 (nI r1102)) 23) lz T) := (fun e => absurd e (by omega))
                    have hP : va_P G.1 pCl (mW G h0 a (upd (upd (upd (upd (upd (upd (upd (upd (upd (upd (upd (upd (upd (upd (upd F 15 (nI fa1154)) 16 pl1155) 27 (nI nd)) 31 (nI wr1101)) 34 (nI lz)) 35 (nI dc)) 44 (nI fd)) 49 (nI (md + 1))) 59 (nI bk)) 60 (nI pr2)) 64 (nI at1153)) 65 ne0) 66 (nI lk)) 67 (nI mf)) 68 (nI (mm + 1))) (updA (stR (updA (updA X2 19 yt1103) 20 yr1104) 47 pr2 (nI r1102)) 2 K)) _ := hP
                    have hD : va_D A (mW G h0 a (upd (upd (upd (upd (upd (upd (upd (upd (upd (upd (upd (upd (upd (upd (upd F 15 (nI fa1154)) 16 pl1155) 27 (nI nd)) 31 (nI wr1101)) 34 (nI lz)) 35 (nI dc)) 44 (nI fd)) 49 (nI (md + 1))) 59 (nI bk)) 60 (nI pr2)) 64 (nI at1153)) 65 ne0) 66 (nI lk)) 67 (nI mf)) 68 (nI (mm + 1))) (updA (stR (updA (updA X2 19 yt1103) 20 yr1104) 47 pr2 (nI r1102)) 2 K)) := mW_D hD
                    exact W.vret hx hb hr (fun t9 ht9 hW9 => ⟨⟨_, (at1153, fa1154, pl1155, nd, wr1101, lz, dc, fd, (md + 1), pr2, bk, mf, (mm + 1), ne0, (stR (updA (updA X2 19 yt1103) 20 yr1104) 47 pr2 (nI r1102))), rfl, ⟨rfl, hz1240, hz1241, hz1242, hz1243, hz1244, hz1245⟩, by rw [ht9]; exact hP, hD⟩, hS.F ht9⟩) hS.2.2 dX12_method_198
                · have e1120 := e1120
                  have hkq1246 : Kq 0 B (updA (updA X2 19 yt1103) 20 yr1104) := (Kq.row (Kq.row hkq2 (by omega)) (by omega))
                  have hce1247 : (updA (updA X2 19 yt1103) 20 yr1104) 36 md = (nI d) := hc36
                  have hce1248 : (updA (updA X2 19 yt1103) 20 yr1104) 37 md = (nI v2) := hc37
                  have hce1249 : (updA (updA X2 19 yt1103) 20 yr1104) 38 md = (nI tn) := hc38
                  have hce1250 : (updA (updA X2 19 yt1103) 20 yr1104) 39 md = y := hc39
                  have hce1251 : (updA (updA X2 19 yt1103) 20 yr1104) 40 md = (nI pr) := hc40
                  have hce1252 : (updA (updA X2 19 yt1103) 20 yr1104) 41 md = (nI q2) := hc41
                  have hce1253 : (updA (updA X2 19 yt1103) 20 yr1104) 42 md = (-1) := hc42
                  have hce1254 : (updA (updA X2 19 yt1103) 20 yr1104) 43 md = (-1) := hc43
                  have hce1255 : (updA (updA X2 19 yt1103) 20 yr1104) 44 md = (-1) := hc44
                  have hty1256 : tkRow ((updA (updA X2 19 yt1103) 20 yr1104) 19) wr1101 T := h1115
                  refine r_sti (f := ((updA (updA X2 19 yt1103) 20 yr1104) 47)) (j := pr2) hx hb hE hP hD hS 47 (ma_47 G a _) rfl (mas_47 G a _) (by omega) (by decide) dX12_method_184 (fun H locs hP hD hS => ?_)
                  have hP : va_P G.1 pCl (mW G h0 a (upd (upd (upd (upd (upd (upd (upd (upd (upd (upd (upd (upd (upd (upd (upd F 15 (nI fa1099)) 16 pl1100) 27 (nI nd)) 31 (nI wr1101)) 34 (nI lz)) 35 (nI dc)) 44 (nI fd)) 49 (nI (md + 1))) 59 (nI bk)) 60 (nI pr2)) 64 (nI at1098)) 65 ne0) 66 (nI lk)) 67 (nI mf)) 68 (nI (mm + 1))) (updA (stR (updA (updA X2 19 yt1103) 20 yr1104) 47 pr2 (nI r1102)) 2 K)) _ := hP
                  have hD : va_D A (mW G h0 a (upd (upd (upd (upd (upd (upd (upd (upd (upd (upd (upd (upd (upd (upd (upd F 15 (nI fa1099)) 16 pl1100) 27 (nI nd)) 31 (nI wr1101)) 34 (nI lz)) 35 (nI dc)) 44 (nI fd)) 49 (nI (md + 1))) 59 (nI bk)) 60 (nI pr2)) 64 (nI at1098)) 65 ne0) 66 (nI lk)) 67 (nI mf)) 68 (nI (mm + 1))) (updA (stR (updA (updA X2 19 yt1103) 20 yr1104) 47 pr2 (nI r1102)) 2 K)) := mW_D hD
                  have hkq1257 : Kq 0 B (stR (updA (updA X2 19 yt1103) 20 yr1104) 47 pr2 (nI r1102)) := (Kq.st hkq1246 (by omega))
                  have hce1258 : (stR (updA (updA X2 19 yt1103) 20 yr1104) 47 pr2 (nI r1102)) 36 md = (nI d) := ((st_ne (by omega)).trans hce1247)
                  have hce1259 : (stR (updA (updA X2 19 yt1103) 20 yr1104) 47 pr2 (nI r1102)) 37 md = (nI v2) := ((st_ne (by omega)).trans hce1248)
                  have hce1260 : (stR (updA (updA X2 19 yt1103) 20 yr1104) 47 pr2 (nI r1102)) 38 md = (nI tn) := ((st_ne (by omega)).trans hce1249)
                  have hce1261 : (stR (updA (updA X2 19 yt1103) 20 yr1104) 47 pr2 (nI r1102)) 39 md = y := ((st_ne (by omega)).trans hce1250)
                  have hce1262 : (stR (updA (updA X2 19 yt1103) 20 yr1104) 47 pr2 (nI r1102)) 40 md = (nI pr) := ((st_ne (by omega)).trans hce1251)
                  have hce1263 : (stR (updA (updA X2 19 yt1103) 20 yr1104) 47 pr2 (nI r1102)) 41 md = (nI q2) := ((st_ne (by omega)).trans hce1252)
                  have hce1264 : (stR (updA (updA X2 19 yt1103) 20 yr1104) 47 pr2 (nI r1102)) 42 md = (-1) := ((st_ne (by omega)).trans hce1253)
                  have hce1265 : (stR (updA (updA X2 19 yt1103) 20 yr1104) 47 pr2 (nI r1102)) 43 md = (-1) := ((st_ne (by omega)).trans hce1254)
                  have hce1266 : (stR (updA (updA X2 19 yt1103) 20 yr1104) 47 pr2 (nI r1102)) 44 md = (-1) := ((st_ne (by omega)).trans hce1255)
                  have hty1267 : tkRow ((stR (updA (updA X2 19 yt1103) 20 yr1104) 47 pr2 (nI r1102)) 19) wr1101 T := hty1256
                  have hce1268 : (stR (updA (updA X2 19 yt1103) 20 yr1104) 47 pr2 (nI r1102)) 47 pr2 = (nI r1102) := st_eq
                  refine lv_aload_n hx hb dX12_method_185 rfl (lv_at hl 5 rfl) ?_
                  have hP : va_P G.1 pCl (mW G h0 a (upd (upd (upd (upd (upd (upd (upd (upd (upd (upd (upd (upd (upd (upd (upd (upd (upd F 15 (nI fa1099)) 16 pl1100) 27 (nI nd)) 31 (nI wr1101)) 34 (nI lz)) 35 (nI dc)) 44 (nI fd)) 49 (nI (md + 1))) 59 (nI bk)) 60 (nI pr2)) 64 (nI at1098)) 65 ne0) 66 (nI lk)) 67 (nI mf)) 68 (nI (mm + 1))) 15 (nI fa1099)) 64 (nI at1098)) (updA (updA (stR (updA (updA X2 19 yt1103) 20 yr1104) 47 pr2 (nI r1102)) 2 K) 2 K)) _ := mW_to (F := F) (l1 := [(15, (nI fa1099)), (16, pl1100), (27, (nI nd)), (31, (nI wr1101)), (34, (nI lz)), (35, (nI dc)), (44, (nI fd)), (49, (nI (md + 1))), (59, (nI bk)), (60, (nI pr2)), (64, (nI at1098)), (65, ne0), (66, (nI lk)), (67, (nI mf)), (68, (nI (mm + 1)))]) (l2 := [(15, (nI fa1099)), (16, pl1100), (27, (nI nd)), (31, (nI wr1101)), (34, (nI lz)), (35, (nI dc)), (44, (nI fd)), (49, (nI (md + 1))), (59, (nI bk)), (60, (nI pr2)), (64, (nI at1098)), (65, ne0), (66, (nI lk)), (67, (nI mf)), (68, (nI (mm + 1))), (15, (nI fa1099)), (64, (nI at1098))]) (V := [(nI fa1099), pl1100, (nI nd), (nI wr1101), (nI lz), (nI dc), (nI fd), (nI (md + 1)), (nI bk), (nI pr2), (nI at1098), ne0, (nI lk), (nI mf), (nI (mm + 1)), (nI fa1099), pl1100, (nI nd), (nI wr1101), (nI lz), (nI dc), (nI fd), (nI (md + 1)), (nI bk), (nI pr2), (nI at1098), ne0, (nI lk), (nI mf), (nI (mm + 1)), (nI fa1099), (nI at1098)]) rfl rfl (show (updA (stR (updA (updA X2 19 yt1103) 20 yr1104) 47 pr2 (nI r1102)) 2 K) = (updA (updA (stR (updA (updA X2 19 yt1103) 20 yr1104) 47 pr2 (nI r1102)) 2 K) 2 K) from updsA_eq2 (F := (stR (updA (updA X2 19 yt1103) 20 yr1104) 47 pr2 (nI r1102))) (l1 := [(2, K)]) (l2 := [(2, K), (2, K)]) (V := [K, K, K]) rfl rfl) hP
                  have hD : va_D A (mW G h0 a (upd (upd (upd (upd (upd (upd (upd (upd (upd (upd (upd (upd (upd (upd (upd (upd (upd F 15 (nI fa1099)) 16 pl1100) 27 (nI nd)) 31 (nI wr1101)) 34 (nI lz)) 35 (nI dc)) 44 (nI fd)) 49 (nI (md + 1))) 59 (nI bk)) 60 (nI pr2)) 64 (nI at1098)) 65 ne0) 66 (nI lk)) 67 (nI mf)) 68 (nI (mm + 1))) 15 (nI fa1099)) 64 (nI at1098)) (updA (updA (stR (updA (updA X2 19 yt1103) 20 yr1104) 47 pr2 (nI r1102)) 2 K) 2 K)) := mW_D hD
                  refine pc_V0 (G := G) (As := []) (rest := []) hx hb hml hown hq hE hX pX0_al hP hD hS hA hl.1 (R_name l G h0 a (upd (upd (upd (upd (upd (upd (upd (upd (upd (upd (upd (upd (upd (upd (upd F 15 (nI fa1099)) 16 pl1100) 27 (nI nd)) 31 (nI wr1101)) 34 (nI lz)) 35 (nI dc)) 44 (nI fd)) 49 (nI (md + 1))) 59 (nI bk)) 60 (nI pr2)) 64 (nI at1098)) 65 ne0) 66 (nI lk)) 67 (nI mf)) 68 (nI (mm + 1))) (updA (stR (updA (updA X2 19 yt1103) 20 yr1104) 47 pr2 (nI r1102)) 2 K) at1098 T fa1099 K (by omega) (by omega) hK (by omega)) (gV pw_1618 pw_1619 pw_1620 pw_1523 pw_1613) hV_X12_name 0 9 rfl rfl rfl rfl (Nat.le_of_ble_eq_true rfl) dX12_method_186 ⟨Nat.le_of_ble_eq_true rfl, Nat.le_of_ble_eq_true rfl⟩ ⟨Nat.le_of_ble_eq_true rfl, Nat.le_of_ble_eq_true rfl⟩ (fun v1271 u1269 H locs hw1270 hP hD hS => ?_)
                  obtain ⟨at1272, fa1273, pl1274⟩ := u1269
                  obtain ⟨hw1270, h1275, h1276, h1277, h1278, h1279, h1280, h1281, h1282⟩ := hw1270
                  replace h1275 : at1098 ≤ at1272 := h1275
                  replace h1276 : at1272 ≤ T := h1276
                  replace h1277 : fa1099 ≤ fa1273 := h1277
                  replace h1278 : fa1273 ≤ 100 := h1278
                  replace h1279 : If (0 < fa1099) (at1272 = at1098 ∧ fa1273 = fa1099) := h1279
                  replace h1280 : at1272 ≤ at1098 + 1 := h1280
                  replace h1281 : at1098 + 1 ≤ at1272 + fa1273 := h1281
                  replace h1282 : If (fa1273 = 0) (K at1098 = 1) := h1282
                  obtain rfl : v1271 = some (.int (nI at1098)) := hw1270
                  have hP : va_P G.1 pCl (mW G h0 a (upd (upd (upd (upd (upd (upd (upd (upd (upd (upd (upd (upd (upd (upd (upd F 15 (nI fa1273)) 16 pl1274) 27 (nI nd)) 31 (nI wr1101)) 34 (nI lz)) 35 (nI dc)) 44 (nI fd)) 49 (nI (md + 1))) 59 (nI bk)) 60 (nI pr2)) 64 (nI at1272)) 65 ne0) 66 (nI lk)) 67 (nI mf)) 68 (nI (mm + 1))) (updA (stR (updA (updA X2 19 yt1103) 20 yr1104) 47 pr2 (nI r1102)) 2 K)) _ := mW_to (F := F) (l1 := [(15, (nI fa1099)), (16, pl1100), (27, (nI nd)), (31, (nI wr1101)), (34, (nI lz)), (35, (nI dc)), (44, (nI fd)), (49, (nI (md + 1))), (59, (nI bk)), (60, (nI pr2)), (64, (nI at1098)), (65, ne0), (66, (nI lk)), (67, (nI mf)), (68, (nI (mm + 1))), (15, (nI fa1273)), (16, pl1274), (64, (nI at1272))]) (l2 := [(15, (nI fa1273)), (16, pl1274), (27, (nI nd)), (31, (nI wr1101)), (34, (nI lz)), (35, (nI dc)), (44, (nI fd)), (49, (nI (md + 1))), (59, (nI bk)), (60, (nI pr2)), (64, (nI at1272)), (65, ne0), (66, (nI lk)), (67, (nI mf)), (68, (nI (mm + 1)))]) (V := [(nI fa1273), pl1274, (nI nd), (nI wr1101), (nI lz), (nI dc), (nI fd), (nI (md + 1)), (nI bk), (nI pr2), (nI at1272), ne0, (nI lk), (nI mf), (nI (mm + 1)), (nI fa1273), pl1274, (nI at1272), (nI fa1273), pl1274, (nI nd), (nI wr1101), (nI lz), (nI dc), (nI fd), (nI (md + 1)), (nI bk), (nI pr2), (nI at1272), ne0, (nI lk), (nI mf), (nI (mm + 1))]) rfl rfl (show (updA (updA (stR (updA (updA X2 19 yt1103) 20 yr1104) 47 pr2 (nI r1102)) 2 K) 2 K) = (updA (stR (updA (updA X2 19 yt1103) 20 yr1104) 47 pr2 (nI r1102)) 2 K) from updsA_eq2 (F := (stR (updA (updA X2 19 yt1103) 20 yr1104) 47 pr2 (nI r1102))) (l1 := [(2, K), (2, K)]) (l2 := [(2, K)]) (V := [K, K, K]) rfl rfl) hP
                  have hD : va_D A (mW G h0 a (upd (upd (upd (upd (upd (upd (upd (upd (upd (upd (upd (upd (upd (upd (upd F 15 (nI fa1273)) 16 pl1274) 27 (nI nd)) 31 (nI wr1101)) 34 (nI lz)) 35 (nI dc)) 44 (nI fd)) 49 (nI (md + 1))) 59 (nI bk)) 60 (nI pr2)) 64 (nI at1272)) 65 ne0) 66 (nI lk)) 67 (nI mf)) 68 (nI (mm + 1))) (updA (stR (updA (updA X2 19 yt1103) 20 yr1104) 47 pr2 (nI r1102)) 2 K)) := mW_D hD
                  refine W.widen (k := 0) (n := 0) (Nat.le_of_ble_eq_true rfl) (Nat.le_of_ble_eq_true rfl) ?_
                  refine W.eq (g2 := F0 m 189 ls [.int (nI at1098)]) rfl ?_
                  obtain ⟨n1284, n1283⟩ := h1279 e1120
                  replace n1284 := n1284.symm
                  subst n1284
                  replace n1283 := n1283.symm
                  subst n1283
                  refine lv_istore (lv' := [(6, .int (nI at1098)), (5, .int (nI mo)), (4, .int (nI md)), (3, .int (nI tn)), (2, .int y), (1, .int (nI d)), (0, .ref h0)]) hx hb dX12_method_189 hl (by decide) rfl (fun ls hl => ?_)
                  refine lv_aload_n hx hb dX12_method_191 rfl (lv_at hl 6 rfl) ?_
                  refine r_get (v := .int (nI fa1099)) hx hb hown hq hE hP 15 350 tFX12_15 (by decide) pw_1594 rfl dX12_method_192 ?_
                  refine lv_if_le (tgt := 199) hx hb dX12_method_195 (by decide) (fun c1285 => (by have n1286 : fa1099 ≤ 0 := (nI_leI (a := fa1099) (b := 0) (by omega) (by omega)).mp c1285; omega)) (fun c1285 => ?_)
                  have hz1287 : at0 ≤ at1098 := (by omega)
                  have hz1288 : at1098 ≤ T := (by omega)
                  have hz1289 : fa1099 ≤ 100 := (by omega)
                  have hz1290 : at0 + 1 ≤ at1098 + fa1099 := (by omega)
                  have hz1291 : Kq 0 B (stR (updA (updA X2 19 yt1103) 20 yr1104) 47 pr2 (nI r1102)) := hkq1257
                  have hz1292 : If (fa1099 = 0) ((nd ≤ 2 * at1098 ∧ wr1101 ≤ at1098 ∧ lz ≤ at1098 ∧ pr2 ≤ at1098 ∧ dc ≤ 37 ∧ dc ≤ dc ∧ bk ≤ (md + 1) ∧ wr ≤ wr1101 ∧ lz ≤ lz) ∧ ((md + 1) + 240 ≤ 30 * dc + (mm + 1) ∧ fd + 160 ≤ 20 * dc + mf ∧ mf ≤ 20 ∧ (mm + 1) ≤ 30 ∧ dc = dc) ∧ PS T nm wr1101 lz dc fd (md + 1) pr2 bk (stR (updA (updA X2 19 yt1103) 20 yr1104) 47 pr2 (nI r1102)) ∧ FrM K T wr1101 (stR (updA (updA X2 19 yt1103) 20 yr1104) 47 pr2 (nI r1102)) nd (md + 1) ∧ tkRow ((stR (updA (updA X2 19 yt1103) 20 yr1104) 47 pr2 (nI r1102)) 19) wr1101 T ∧ lsRow ((stR (updA (updA X2 19 yt1103) 20 yr1104) 47 pr2 (nI r1102)) 22) ((stR (updA (updA X2 19 yt1103) 20 yr1104) 47 pr2 (nI r1102)) 23) lz T) := (fun e => absurd e (by omega))
                  have hP : va_P G.1 pCl (mW G h0 a (upd (upd (upd (upd (upd (upd (upd (upd (upd (upd (upd (upd (upd (upd (upd F 15 (nI fa1099)) 16 pl1274) 27 (nI nd)) 31 (nI wr1101)) 34 (nI lz)) 35 (nI dc)) 44 (nI fd)) 49 (nI (md + 1))) 59 (nI bk)) 60 (nI pr2)) 64 (nI at1098)) 65 ne0) 66 (nI lk)) 67 (nI mf)) 68 (nI (mm + 1))) (updA (stR (updA (updA X2 19 yt1103) 20 yr1104) 47 pr2 (nI r1102)) 2 K)) _ := hP
                  have hD : va_D A (mW G h0 a (upd (upd (upd (upd (upd (upd (upd (upd (upd (upd (upd (upd (upd (upd (upd F 15 (nI fa1099)) 16 pl1274) 27 (nI nd)) 31 (nI wr1101)) 34 (nI lz)) 35 (nI dc)) 44 (nI fd)) 49 (nI (md + 1))) 59 (nI bk)) 60 (nI pr2)) 64 (nI at1098)) 65 ne0) 66 (nI lk)) 67 (nI mf)) 68 (nI (mm + 1))) (updA (stR (updA (updA X2 19 yt1103) 20 yr1104) 47 pr2 (nI r1102)) 2 K)) := mW_D hD
                  exact W.vret hx hb hr (fun t9 ht9 hW9 => ⟨⟨_, (at1098, fa1099, pl1274, nd, wr1101, lz, dc, fd, (md + 1), pr2, bk, mf, (mm + 1), ne0, (stR (updA (updA X2 19 yt1103) 20 yr1104) 47 pr2 (nI r1102))), rfl, ⟨rfl, hz1287, hz1288, hz1289, hz1290, hz1291, hz1292⟩, by rw [ht9]; exact hP, hD⟩, hS.F ht9⟩) hS.2.2 dX12_method_198
              · have n1293 : q2 = 8 := (nI_eq (a := q2) (b := 8) (by omega) (by omega)).mp c1093
                refine lv_aload_n hx hb dX12_method_166 rfl (lv_at hl 5 rfl) ?_
                refine lv_iconst (v := 2) hx hb dX12_method_167 (by decide) ?_
                have hP : va_P G.1 pCl (mW G h0 a (upd (upd (upd (upd (upd (upd (upd (upd (upd (upd (upd (upd (upd (upd (upd (upd (upd F 15 0) 16 pl2) 27 (nI nd)) 31 (nI wr2)) 34 (nI lz)) 35 (nI dc)) 44 (nI fd)) 49 (nI (md + 1))) 59 (nI bk)) 60 (nI pr2)) 64 (nI at2)) 65 ne0) 66 (nI lk)) 67 (nI mf)) 68 (nI (mm + 1))) 15 (nI 0)) 64 (nI at2)) (updA (updA X2 2 K) 2 K)) _ := mW_to (F := F) (l1 := [(15, 0), (16, pl2), (27, (nI nd)), (31, (nI wr2)), (34, (nI lz)), (35, (nI dc)), (44, (nI fd)), (49, (nI (md + 1))), (59, (nI bk)), (60, (nI pr2)), (64, (nI at2)), (65, ne0), (66, (nI lk)), (67, (nI mf)), (68, (nI (mm + 1)))]) (l2 := [(15, 0), (16, pl2), (27, (nI nd)), (31, (nI wr2)), (34, (nI lz)), (35, (nI dc)), (44, (nI fd)), (49, (nI (md + 1))), (59, (nI bk)), (60, (nI pr2)), (64, (nI at2)), (65, ne0), (66, (nI lk)), (67, (nI mf)), (68, (nI (mm + 1))), (15, (nI 0)), (64, (nI at2))]) (V := [(nI 0), pl2, (nI nd), (nI wr2), (nI lz), (nI dc), (nI fd), (nI (md + 1)), (nI bk), (nI pr2), (nI at2), ne0, (nI lk), (nI mf), (nI (mm + 1)), (nI 0), pl2, (nI nd), (nI wr2), (nI lz), (nI dc), (nI fd), (nI (md + 1)), (nI bk), (nI pr2), (nI at2), ne0, (nI lk), (nI mf), (nI (mm + 1)), (nI 0), (nI at2)]) rfl rfl (show (updA X2 2 K) = (updA (updA X2 2 K) 2 K) from updsA_eq2 (F := X2) (l1 := [(2, K)]) (l2 := [(2, K), (2, K)]) (V := [K, K, K]) rfl rfl) hP
                have hD : va_D A (mW G h0 a (upd (upd (upd (upd (upd (upd (upd (upd (upd (upd (upd (upd (upd (upd (upd (upd (upd F 15 0) 16 pl2) 27 (nI nd)) 31 (nI wr2)) 34 (nI lz)) 35 (nI dc)) 44 (nI fd)) 49 (nI (md + 1))) 59 (nI bk)) 60 (nI pr2)) 64 (nI at2)) 65 ne0) 66 (nI lk)) 67 (nI mf)) 68 (nI (mm + 1))) 15 (nI 0)) 64 (nI at2)) (updA (updA X2 2 K) 2 K)) := mW_D hD
                refine pc_V0 (G := G) (As := [.int (nI 2)]) (rest := []) hx hb hml hown hq hE hX pX0_al hP hD hS hA hl.1 (R_bad l G h0 a (upd (upd (upd (upd (upd (upd (upd (upd (upd (upd (upd (upd (upd (upd (upd F 15 0) 16 pl2) 27 (nI nd)) 31 (nI wr2)) 34 (nI lz)) 35 (nI dc)) 44 (nI fd)) 49 (nI (md + 1))) 59 (nI bk)) 60 (nI pr2)) 64 (nI at2)) 65 ne0) 66 (nI lk)) 67 (nI mf)) 68 (nI (mm + 1))) (updA X2 2 K) at2 T 0 K 2 (by omega) (by omega) hK (by omega) (by omega) (by omega)) (gV pw_1602 pw_1603 pw_1604 pw_1523 pw_1596) hV_X12_bad 0 9 rfl rfl rfl rfl (Nat.le_of_ble_eq_true rfl) dX12_method_168 ⟨Nat.le_of_ble_eq_true rfl, Nat.le_of_ble_eq_true rfl⟩ ⟨Nat.le_of_ble_eq_true rfl, Nat.le_of_ble_eq_true rfl⟩ (fun v1296 u1294 H locs hw1295 hP hD hS => ?_)
                obtain ⟨fa1297, pl1298⟩ := u1294
                obtain ⟨hw1295, h1299, h1300, h1301, h1302⟩ := hw1295
                replace h1299 : 0 ≤ fa1297 := h1299
                replace h1300 : fa1297 ≤ 0 + 2 := h1300
                replace h1301 : 0 < fa1297 := h1301
                replace h1302 : If (0 < 0) (fa1297 = 0) := h1302
                obtain rfl : v1296 = none := hw1295
                have hP : va_P G.1 pCl (mW G h0 a (upd (upd (upd (upd (upd (upd (upd (upd (upd (upd (upd (upd (upd (upd (upd F 15 (nI fa1297)) 16 pl1298) 27 (nI nd)) 31 (nI wr2)) 34 (nI lz)) 35 (nI dc)) 44 (nI fd)) 49 (nI (md + 1))) 59 (nI bk)) 60 (nI pr2)) 64 (nI at2)) 65 ne0) 66 (nI lk)) 67 (nI mf)) 68 (nI (mm + 1))) (updA X2 2 K)) _ := mW_to (F := F) (l1 := [(15, 0), (16, pl2), (27, (nI nd)), (31, (nI wr2)), (34, (nI lz)), (35, (nI dc)), (44, (nI fd)), (49, (nI (md + 1))), (59, (nI bk)), (60, (nI pr2)), (64, (nI at2)), (65, ne0), (66, (nI lk)), (67, (nI mf)), (68, (nI (mm + 1))), (15, (nI fa1297)), (16, pl1298), (64, (nI at2))]) (l2 := [(15, (nI fa1297)), (16, pl1298), (27, (nI nd)), (31, (nI wr2)), (34, (nI lz)), (35, (nI dc)), (44, (nI fd)), (49, (nI (md + 1))), (59, (nI bk)), (60, (nI pr2)), (64, (nI at2)), (65, ne0), (66, (nI lk)), (67, (nI mf)), (68, (nI (mm + 1)))]) (V := [(nI fa1297), pl1298, (nI nd), (nI wr2), (nI lz), (nI dc), (nI fd), (nI (md + 1)), (nI bk), (nI pr2), (nI at2), ne0, (nI lk), (nI mf), (nI (mm + 1)), (nI fa1297), pl1298, (nI at2), (nI fa1297), pl1298, (nI nd), (nI wr2), (nI lz), (nI dc), (nI fd), (nI (md + 1)), (nI bk), (nI pr2), (nI at2), ne0, (nI lk), (nI mf), (nI (mm + 1))]) rfl rfl (show (updA (updA X2 2 K) 2 K) = (updA X2 2 K) from updsA_eq2 (F := X2) (l1 := [(2, K), (2, K)]) (l2 := [(2, K)]) (V := [K, K, K]) rfl rfl) hP
                have hD : va_D A (mW G h0 a (upd (upd (upd (upd (upd (upd (upd (upd (upd (upd (upd (upd (upd (upd (upd F 15 (nI fa1297)) 16 pl1298) 27 (nI nd)) 31 (nI wr2)) 34 (nI lz)) 35 (nI dc)) 44 (nI fd)) 49 (nI (md + 1))) 59 (nI bk)) 60 (nI pr2)) 64 (nI at2)) 65 ne0) 66 (nI lk)) 67 (nI mf)) 68 (nI (mm + 1))) (updA X2 2 K)) := mW_D hD
                refine W.widen (k := 0) (n := 0) (Nat.le_of_ble_eq_true rfl) (Nat.le_of_ble_eq_true rfl) ?_
                refine W.eq (g2 := F0 m 171 ls []) rfl ?_
                have hz1303 : at0 ≤ at2 := (by omega)
                have hz1304 : at2 ≤ T := (by omega)
                have hz1305 : fa1297 ≤ 100 := (by omega)
                have hz1306 : at0 + 1 ≤ at2 + fa1297 := (by omega)
                have hz1307 : Kq 0 B X2 := hkq2
                have hz1308 : If (fa1297 = 0) ((nd ≤ 2 * at2 ∧ wr2 ≤ at2 ∧ lz ≤ at2 ∧ pr2 ≤ at2 ∧ dc ≤ 37 ∧ dc ≤ dc ∧ bk ≤ (md + 1) ∧ wr ≤ wr2 ∧ lz ≤ lz) ∧ ((md + 1) + 240 ≤ 30 * dc + (mm + 1) ∧ fd + 160 ≤ 20 * dc + mf ∧ mf ≤ 20 ∧ (mm + 1) ≤ 30 ∧ dc = dc) ∧ PS T nm wr2 lz dc fd (md + 1) pr2 bk X2 ∧ FrM K T wr2 X2 nd (md + 1) ∧ tkRow (X2 19) wr2 T ∧ lsRow (X2 22) (X2 23) lz T) := (fun e => absurd e (by omega))
                have hP : va_P G.1 pCl (mW G h0 a (upd (upd (upd (upd (upd (upd (upd (upd (upd (upd (upd (upd (upd (upd (upd F 15 (nI fa1297)) 16 pl1298) 27 (nI nd)) 31 (nI wr2)) 34 (nI lz)) 35 (nI dc)) 44 (nI fd)) 49 (nI (md + 1))) 59 (nI bk)) 60 (nI pr2)) 64 (nI at2)) 65 ne0) 66 (nI lk)) 67 (nI mf)) 68 (nI (mm + 1))) (updA X2 2 K)) _ := hP
                have hD : va_D A (mW G h0 a (upd (upd (upd (upd (upd (upd (upd (upd (upd (upd (upd (upd (upd (upd (upd F 15 (nI fa1297)) 16 pl1298) 27 (nI nd)) 31 (nI wr2)) 34 (nI lz)) 35 (nI dc)) 44 (nI fd)) 49 (nI (md + 1))) 59 (nI bk)) 60 (nI pr2)) 64 (nI at2)) 65 ne0) 66 (nI lk)) 67 (nI mf)) 68 (nI (mm + 1))) (updA X2 2 K)) := mW_D hD
                exact W.vret hx hb hr (fun t9 ht9 hW9 => ⟨⟨_, (at2, fa1297, pl1298, nd, wr2, lz, dc, fd, (md + 1), pr2, bk, mf, (mm + 1), ne0, X2), rfl, ⟨rfl, hz1303, hz1304, hz1305, hz1306, hz1307, hz1308⟩, by rw [ht9]; exact hP, hD⟩, hS.F ht9⟩) hS.2.2 dX12_method_171
      have hP : va_P G.1 pCl (mW G h0 a (upd (upd (upd (upd (upd (upd (upd (upd (upd (upd (upd (upd (upd (upd (upd F 15 0) 16 pl106) 27 (nI nd)) 31 (nI wr)) 34 (nI lz)) 35 (nI dc)) 44 (nI fd)) 49 (nI (md + 1))) 59 (nI bk)) 60 (nI pr)) 64 (nI at104)) 65 ne0) 66 (nI lk)) 67 (nI mf)) 68 (nI (mm + 1))) (updA (stR (stR (stR (stR (stR (stR (stR (stR (stR B 36 md (nI d)) 37 md (nI v14)) 38 md (nI tn)) 39 md y) 40 md (nI pr)) 41 md 0) 42 md (-1)) 43 md (-1)) 44 md (-1)) 2 K)) _ := hP
      have hD : va_D A (mW G h0 a (upd (upd (upd (upd (upd (upd (upd (upd (upd (upd (upd (upd (upd (upd (upd F 15 0) 16 pl106) 27 (nI nd)) 31 (nI wr)) 34 (nI lz)) 35 (nI dc)) 44 (nI fd)) 49 (nI (md + 1))) 59 (nI bk)) 60 (nI pr)) 64 (nI at104)) 65 ne0) 66 (nI lk)) 67 (nI mf)) 68 (nI (mm + 1))) (updA (stR (stR (stR (stR (stR (stR (stR (stR (stR B 36 md (nI d)) 37 md (nI v14)) 38 md (nI tn)) 39 md y) 40 md (nI pr)) 41 md 0) 42 md (-1)) 43 md (-1)) 44 md (-1)) 2 K)) := mW_D hD
      exact loop_o (T + 1) at104 wr pr 0 1 v14 pl106 (stR (stR (stR (stR (stR (stR (stR (stR (stR B 36 md (nI d)) 37 md (nI v14)) 38 md (nI tn)) 39 md y) 40 md (nI pr)) 41 md 0) 42 md (-1)) 43 md (-1)) 44 md (-1)) _ _ _ (by omega) (by omega) (by omega) (by omega) (by omega) (by omega) (by omega) (by omega) (by omega) (by omega) hkq87 hps97 hfm98 hty96 hlr99 hce88 hce89 hce90 hce91 hce92 hce93 hce94 hce95 hce100 hP hD hS (lv_sub hl [0, 1, 5, 4, 3, 2] rfl)
  · have e115 := e115
    refine lv_aload_n hx hb dX12_method_112 rfl (lv_at hl 1 rfl) ?_
    refine r_get (v := .int (nI fa105)) hx hb hown hq hE hP 15 350 tFX12_15 (by decide) pw_1594 rfl dX12_method_113 ?_
    refine lv_if_ne (tgt := 132) hx hb dX12_method_116 (by decide) (fun c1309 => ?_) (fun c1309 => (by have n1310 : fa105 = 0 := (nI_eq (a := fa105) (b := 0) (by omega) (by omega)).mp c1309; omega))
    refine lv_iconst (v := 0) hx hb dX12_method_132 (by decide) ?_
    refine lv_istore (lv' := [(5, .int 0), (4, .int (nI md)), (0, .ref h0), (1, .int (nI d)), (2, .int y), (3, .int (nI tn))]) hx hb dX12_method_133 hl (by decide) rfl (fun ls hl => ?_)
    refine lv_iload hx hb dX12_method_135 (lv_at hl 0 rfl) ?_
    refine lv_if_eq (tgt := 258) hx hb dX12_method_137 (by decide) (fun c1311 => ?_) (fun c1311 => absurd c1311 (by decide))
    refine lv_aload_n hx hb dX12_method_258 rfl (lv_at hl 2 rfl) ?_
    refine lv_bipush (v := 41) hx hb dX12_method_259 (by decide) ?_
    have hP : va_P G.1 pCl (mW G h0 a (upd (upd (upd (upd (upd (upd (upd (upd (upd (upd (upd (upd (upd (upd (upd (upd (upd F 15 (nI fa105)) 16 pl106) 27 (nI nd)) 31 (nI wr)) 34 (nI lz)) 35 (nI dc)) 44 (nI fd)) 49 (nI (md + 1))) 59 (nI bk)) 60 (nI pr)) 64 (nI at104)) 65 ne0) 66 (nI lk)) 67 (nI mf)) 68 (nI (mm + 1))) 15 (nI fa105)) 64 (nI at104)) (updA (updA (stR (stR (stR (stR (stR (stR (stR (stR (stR B 36 md (nI d)) 37 md (nI v14)) 38 md (nI tn)) 39 md y) 40 md (nI pr)) 41 md 0) 42 md (-1)) 43 md (-1)) 44 md (-1)) 2 K) 2 K)) _ := mW_to (F := F) (l1 := [(15, (nI fa105)), (16, pl106), (27, (nI nd)), (31, (nI wr)), (34, (nI lz)), (35, (nI dc)), (44, (nI fd)), (49, (nI (md + 1))), (59, (nI bk)), (60, (nI pr)), (64, (nI at104)), (65, ne0), (66, (nI lk)), (67, (nI mf)), (68, (nI (mm + 1)))]) (l2 := [(15, (nI fa105)), (16, pl106), (27, (nI nd)), (31, (nI wr)), (34, (nI lz)), (35, (nI dc)), (44, (nI fd)), (49, (nI (md + 1))), (59, (nI bk)), (60, (nI pr)), (64, (nI at104)), (65, ne0), (66, (nI lk)), (67, (nI mf)), (68, (nI (mm + 1))), (15, (nI fa105)), (64, (nI at104))]) (V := [(nI fa105), pl106, (nI nd), (nI wr), (nI lz), (nI dc), (nI fd), (nI (md + 1)), (nI bk), (nI pr), (nI at104), ne0, (nI lk), (nI mf), (nI (mm + 1)), (nI fa105), pl106, (nI nd), (nI wr), (nI lz), (nI dc), (nI fd), (nI (md + 1)), (nI bk), (nI pr), (nI at104), ne0, (nI lk), (nI mf), (nI (mm + 1)), (nI fa105), (nI at104)]) rfl rfl (show (updA (stR (stR (stR (stR (stR (stR (stR (stR (stR B 36 md (nI d)) 37 md (nI v14)) 38 md (nI tn)) 39 md y) 40 md (nI pr)) 41 md 0) 42 md (-1)) 43 md (-1)) 44 md (-1)) 2 K) = (updA (updA (stR (stR (stR (stR (stR (stR (stR (stR (stR B 36 md (nI d)) 37 md (nI v14)) 38 md (nI tn)) 39 md y) 40 md (nI pr)) 41 md 0) 42 md (-1)) 43 md (-1)) 44 md (-1)) 2 K) 2 K) from updsA_eq2 (F := (stR (stR (stR (stR (stR (stR (stR (stR (stR B 36 md (nI d)) 37 md (nI v14)) 38 md (nI tn)) 39 md y) 40 md (nI pr)) 41 md 0) 42 md (-1)) 43 md (-1)) 44 md (-1))) (l1 := [(2, K)]) (l2 := [(2, K), (2, K)]) (V := [K, K, K]) rfl rfl) hP
    have hD : va_D A (mW G h0 a (upd (upd (upd (upd (upd (upd (upd (upd (upd (upd (upd (upd (upd (upd (upd (upd (upd F 15 (nI fa105)) 16 pl106) 27 (nI nd)) 31 (nI wr)) 34 (nI lz)) 35 (nI dc)) 44 (nI fd)) 49 (nI (md + 1))) 59 (nI bk)) 60 (nI pr)) 64 (nI at104)) 65 ne0) 66 (nI lk)) 67 (nI mf)) 68 (nI (mm + 1))) 15 (nI fa105)) 64 (nI at104)) (updA (updA (stR (stR (stR (stR (stR (stR (stR (stR (stR B 36 md (nI d)) 37 md (nI v14)) 38 md (nI tn)) 39 md y) 40 md (nI pr)) 41 md 0) 42 md (-1)) 43 md (-1)) 44 md (-1)) 2 K) 2 K)) := mW_D hD
    refine pc_V0 (G := G) (As := [.int 41]) (rest := []) hx hb hml hown hq hE hX pX0_al hP hD hS hA hl.1 (R_take l G h0 a (upd (upd (upd (upd (upd (upd (upd (upd (upd (upd (upd (upd (upd (upd (upd F 15 (nI fa105)) 16 pl106) 27 (nI nd)) 31 (nI wr)) 34 (nI lz)) 35 (nI dc)) 44 (nI fd)) 49 (nI (md + 1))) 59 (nI bk)) 60 (nI pr)) 64 (nI at104)) 65 ne0) 66 (nI lk)) 67 (nI mf)) 68 (nI (mm + 1))) (updA (stR (stR (stR (stR (stR (stR (stR (stR (stR B 36 md (nI d)) 37 md (nI v14)) 38 md (nI tn)) 39 md y) 40 md (nI pr)) 41 md 0) 42 md (-1)) 43 md (-1)) 44 md (-1)) 2 K) at104 T fa105 K 41 (by omega) (by omega) hK (by omega) (by decide) (by decide)) (gV pw_1614 pw_1615 pw_1616 pw_1523 pw_1601) hV_X12_take 0 9 rfl rfl rfl rfl (Nat.le_of_ble_eq_true rfl) dX12_method_261 ⟨Nat.le_of_ble_eq_true rfl, Nat.le_of_ble_eq_true rfl⟩ ⟨Nat.le_of_ble_eq_true rfl, Nat.le_of_ble_eq_true rfl⟩ (fun v1314 u1312 H locs hw1313 hP hD hS => ?_)
    obtain ⟨at1315, fa1316, pl1317⟩ := u1312
    obtain ⟨hw1313, h1318, h1319, h1320, h1321, h1322, h1323, h1324, h1325⟩ := hw1313
    replace h1318 : at104 ≤ at1315 := h1318
    replace h1319 : at1315 ≤ T := h1319
    replace h1320 : fa105 ≤ fa1316 := h1320
    replace h1321 : fa1316 ≤ 100 := h1321
    replace h1322 : If (0 < fa105) (at1315 = at104 ∧ fa1316 = fa105) := h1322
    replace h1323 : at1315 ≤ at104 + 1 := h1323
    replace h1324 : at104 + 1 ≤ at1315 + fa1316 := h1324
    replace h1325 : If (fa1316 = 0) (K at104 = 41) := h1325
    obtain rfl : v1314 = none := hw1313
    have hP : va_P G.1 pCl (mW G h0 a (upd (upd (upd (upd (upd (upd (upd (upd (upd (upd (upd (upd (upd (upd (upd F 15 (nI fa1316)) 16 pl1317) 27 (nI nd)) 31 (nI wr)) 34 (nI lz)) 35 (nI dc)) 44 (nI fd)) 49 (nI (md + 1))) 59 (nI bk)) 60 (nI pr)) 64 (nI at1315)) 65 ne0) 66 (nI lk)) 67 (nI mf)) 68 (nI (mm + 1))) (updA (stR (stR (stR (stR (stR (stR (stR (stR (stR B 36 md (nI d)) 37 md (nI v14)) 38 md (nI tn)) 39 md y) 40 md (nI pr)) 41 md 0) 42 md (-1)) 43 md (-1)) 44 md (-1)) 2 K)) _ := mW_to (F := F) (l1 := [(15, (nI fa105)), (16, pl106), (27, (nI nd)), (31, (nI wr)), (34, (nI lz)), (35, (nI dc)), (44, (nI fd)), (49, (nI (md + 1))), (59, (nI bk)), (60, (nI pr)), (64, (nI at104)), (65, ne0), (66, (nI lk)), (67, (nI mf)), (68, (nI (mm + 1))), (15, (nI fa1316)), (16, pl1317), (64, (nI at1315))]) (l2 := [(15, (nI fa1316)), (16, pl1317), (27, (nI nd)), (31, (nI wr)), (34, (nI lz)), (35, (nI dc)), (44, (nI fd)), (49, (nI (md + 1))), (59, (nI bk)), (60, (nI pr)), (64, (nI at1315)), (65, ne0), (66, (nI lk)), (67, (nI mf)), (68, (nI (mm + 1)))]) (V := [(nI fa1316), pl1317, (nI nd), (nI wr), (nI lz), (nI dc), (nI fd), (nI (md + 1)), (nI bk), (nI pr), (nI at1315), ne0, (nI lk), (nI mf), (nI (mm + 1)), (nI fa1316), pl1317, (nI at1315), (nI fa1316), pl1317, (nI nd), (nI wr), (nI lz), (nI dc), (nI fd), (nI (md + 1)), (nI bk), (nI pr), (nI at1315), ne0, (nI lk), (nI mf), (nI (mm + 1))]) rfl rfl (show (updA (updA (stR (stR (stR (stR (stR (stR (stR (stR (stR B 36 md (nI d)) 37 md (nI v14)) 38 md (nI tn)) 39 md y) 40 md (nI pr)) 41 md 0) 42 md (-1)) 43 md (-1)) 44 md (-1)) 2 K) 2 K) = (updA (stR (stR (stR (stR (stR (stR (stR (stR (stR B 36 md (nI d)) 37 md (nI v14)) 38 md (nI tn)) 39 md y) 40 md (nI pr)) 41 md 0) 42 md (-1)) 43 md (-1)) 44 md (-1)) 2 K) from updsA_eq2 (F := (stR (stR (stR (stR (stR (stR (stR (stR (stR B 36 md (nI d)) 37 md (nI v14)) 38 md (nI tn)) 39 md y) 40 md (nI pr)) 41 md 0) 42 md (-1)) 43 md (-1)) 44 md (-1))) (l1 := [(2, K), (2, K)]) (l2 := [(2, K)]) (V := [K, K, K]) rfl rfl) hP
    have hD : va_D A (mW G h0 a (upd (upd (upd (upd (upd (upd (upd (upd (upd (upd (upd (upd (upd (upd (upd F 15 (nI fa1316)) 16 pl1317) 27 (nI nd)) 31 (nI wr)) 34 (nI lz)) 35 (nI dc)) 44 (nI fd)) 49 (nI (md + 1))) 59 (nI bk)) 60 (nI pr)) 64 (nI at1315)) 65 ne0) 66 (nI lk)) 67 (nI mf)) 68 (nI (mm + 1))) (updA (stR (stR (stR (stR (stR (stR (stR (stR (stR B 36 md (nI d)) 37 md (nI v14)) 38 md (nI tn)) 39 md y) 40 md (nI pr)) 41 md 0) 42 md (-1)) 43 md (-1)) 44 md (-1)) 2 K)) := mW_D hD
    refine W.widen (k := 0) (n := 0) (Nat.le_of_ble_eq_true rfl) (Nat.le_of_ble_eq_true rfl) ?_
    refine W.eq (g2 := F0 m 264 ls []) rfl ?_
    obtain ⟨n1327, n1326⟩ := h1322 e115
    replace n1327 := n1327.symm
    subst n1327
    replace n1326 := n1326.symm
    subst n1326
    refine lv_aload_n hx hb dX12_method_264 rfl (lv_at hl 2 rfl) ?_
    refine r_get (v := .ref (a 26)) hx hb hown hq hE hP 38 90 tFX12_38 (by decide) pw_1457 rfl dX12_method_265 ?_
    refine lv_iload_n hx hb dX12_method_268 rfl (lv_at hl 3 rfl) ?_
    refine r_ldz (f := ((stR (stR (stR (stR (stR (stR (stR (stR (stR B 36 md (nI d)) 37 md (nI v14)) 38 md (nI tn)) 39 md y) 40 md (nI pr)) 41 md 0) 42 md (-1)) 43 md (-1)) 44 md (-1)) 26)) (j := d) hx hb hE hP 26 (ma_26 G a _) rfl (by omega) (by decide) dX12_method_269 ?_
    refine lv_topi (fun x1330 e1331 => ?_)
    refine lv_if_eq (tgt := 280) hx hb dX12_method_270 (by decide) (fun c1332 => ?_) (fun c1332 => ?_)
    · refine lv_aload_n hx hb dX12_method_280 rfl (lv_at hl 2 rfl) ?_
      refine r_get (v := .ref (a 44)) hx hb hown hq hE hP 58 144 tFX12_58 (by decide) pw_1475 rfl dX12_method_281 ?_
      refine lv_iload hx hb dX12_method_284 (lv_at hl 1 rfl) ?_
      refine lv_aload_n hx hb dX12_method_286 rfl (lv_at hl 2 rfl) ?_
      refine r_get (v := .int (nI bk)) hx hb hown hq hE hP 59 422 tFX12_59 (by decide) pw_1724 rfl dX12_method_287 ?_
      refine r_sti (f := ((stR (stR (stR (stR (stR (stR (stR (stR (stR B 36 md (nI d)) 37 md (nI v14)) 38 md (nI tn)) 39 md y) 40 md (nI pr)) 41 md 0) 42 md (-1)) 43 md (-1)) 44 md (-1)) 44)) (j := md) hx hb hE hP hD hS 44 (ma_44 G a _) rfl (mas_44 G a _) (by omega) (by decide) dX12_method_290 (fun H locs hP hD hS => ?_)
      have hP : va_P G.1 pCl (mW G h0 a (upd (upd (upd (upd (upd (upd (upd (upd (upd (upd (upd (upd (upd (upd (upd F 15 (nI fa105)) 16 pl1317) 27 (nI nd)) 31 (nI wr)) 34 (nI lz)) 35 (nI dc)) 44 (nI fd)) 49 (nI (md + 1))) 59 (nI bk)) 60 (nI pr)) 64 (nI at104)) 65 ne0) 66 (nI lk)) 67 (nI mf)) 68 (nI (mm + 1))) (updA (stR (stR (stR (stR (stR (stR (stR (stR (stR (stR B 36 md (nI d)) 37 md (nI v14)) 38 md (nI tn)) 39 md y) 40 md (nI pr)) 41 md 0) 42 md (-1)) 43 md (-1)) 44 md (-1)) 44 md (nI bk)) 2 K)) _ := hP
      have hD : va_D A (mW G h0 a (upd (upd (upd (upd (upd (upd (upd (upd (upd (upd (upd (upd (upd (upd (upd F 15 (nI fa105)) 16 pl1317) 27 (nI nd)) 31 (nI wr)) 34 (nI lz)) 35 (nI dc)) 44 (nI fd)) 49 (nI (md + 1))) 59 (nI bk)) 60 (nI pr)) 64 (nI at104)) 65 ne0) 66 (nI lk)) 67 (nI mf)) 68 (nI (mm + 1))) (updA (stR (stR (stR (stR (stR (stR (stR (stR (stR (stR B 36 md (nI d)) 37 md (nI v14)) 38 md (nI tn)) 39 md y) 40 md (nI pr)) 41 md 0) 42 md (-1)) 43 md (-1)) 44 md (-1)) 44 md (nI bk)) 2 K)) := mW_D hD
      have hkq1333 : Kq 0 B (stR (stR (stR (stR (stR (stR (stR (stR (stR (stR B 36 md (nI d)) 37 md (nI v14)) 38 md (nI tn)) 39 md y) 40 md (nI pr)) 41 md 0) 42 md (-1)) 43 md (-1)) 44 md (-1)) 44 md (nI bk)) := (Kq.st hkq87 (by omega))
      have hce1334 : (stR (stR (stR (stR (stR (stR (stR (stR (stR (stR B 36 md (nI d)) 37 md (nI v14)) 38 md (nI tn)) 39 md y) 40 md (nI pr)) 41 md 0) 42 md (-1)) 43 md (-1)) 44 md (-1)) 44 md (nI bk)) 36 md = (nI d) := ((st_ne (by omega)).trans hce88)
      have hce1335 : (stR (stR (stR (stR (stR (stR (stR (stR (stR (stR B 36 md (nI d)) 37 md (nI v14)) 38 md (nI tn)) 39 md y) 40 md (nI pr)) 41 md 0) 42 md (-1)) 43 md (-1)) 44 md (-1)) 44 md (nI bk)) 37 md = (nI v14) := ((st_ne (by omega)).trans hce89)
      have hce1336 : (stR (stR (stR (stR (stR (stR (stR (stR (stR (stR B 36 md (nI d)) 37 md (nI v14)) 38 md (nI tn)) 39 md y) 40 md (nI pr)) 41 md 0) 42 md (-1)) 43 md (-1)) 44 md (-1)) 44 md (nI bk)) 38 md = (nI tn) := ((st_ne (by omega)).trans hce90)
      have hce1337 : (stR (stR (stR (stR (stR (stR (stR (stR (stR (stR B 36 md (nI d)) 37 md (nI v14)) 38 md (nI tn)) 39 md y) 40 md (nI pr)) 41 md 0) 42 md (-1)) 43 md (-1)) 44 md (-1)) 44 md (nI bk)) 39 md = y := ((st_ne (by omega)).trans hce91)
      have hce1338 : (stR (stR (stR (stR (stR (stR (stR (stR (stR (stR B 36 md (nI d)) 37 md (nI v14)) 38 md (nI tn)) 39 md y) 40 md (nI pr)) 41 md 0) 42 md (-1)) 43 md (-1)) 44 md (-1)) 44 md (nI bk)) 40 md = (nI pr) := ((st_ne (by omega)).trans hce92)
      have hce1339 : (stR (stR (stR (stR (stR (stR (stR (stR (stR (stR B 36 md (nI d)) 37 md (nI v14)) 38 md (nI tn)) 39 md y) 40 md (nI pr)) 41 md 0) 42 md (-1)) 43 md (-1)) 44 md (-1)) 44 md (nI bk)) 41 md = 0 := ((st_ne (by omega)).trans hce93)
      have hce1340 : (stR (stR (stR (stR (stR (stR (stR (stR (stR (stR B 36 md (nI d)) 37 md (nI v14)) 38 md (nI tn)) 39 md y) 40 md (nI pr)) 41 md 0) 42 md (-1)) 43 md (-1)) 44 md (-1)) 44 md (nI bk)) 42 md = (-1) := ((st_ne (by omega)).trans hce94)
      have hce1341 : (stR (stR (stR (stR (stR (stR (stR (stR (stR (stR B 36 md (nI d)) 37 md (nI v14)) 38 md (nI tn)) 39 md y) 40 md (nI pr)) 41 md 0) 42 md (-1)) 43 md (-1)) 44 md (-1)) 44 md (nI bk)) 43 md = (-1) := ((st_ne (by omega)).trans hce95)
      have hce1342 : (stR (stR (stR (stR (stR (stR (stR (stR (stR (stR B 36 md (nI d)) 37 md (nI v14)) 38 md (nI tn)) 39 md y) 40 md (nI pr)) 41 md 0) 42 md (-1)) 43 md (-1)) 44 md (-1)) 44 md (nI bk)) 44 md = (nI bk) := st_eq
      have hty1343 : tkRow ((stR (stR (stR (stR (stR (stR (stR (stR (stR (stR B 36 md (nI d)) 37 md (nI v14)) 38 md (nI tn)) 39 md y) 40 md (nI pr)) 41 md 0) 42 md (-1)) 43 md (-1)) 44 md (-1)) 44 md (nI bk)) 19) wr T := hty96
      refine lv_aload_n hx hb dX12_method_291 rfl (lv_at hl 2 rfl) ?_
      refine lv_dup hx hb dX12_method_292 rfl ?_
      refine r_get (v := .int (nI bk)) hx hb hown hq hE hP 59 422 tFX12_59 (by decide) pw_1724 rfl dX12_method_293 ?_
      refine lv_iconst (v := 1) hx hb dX12_method_296 (by decide) ?_
      refine lv_iadd hx hb dX12_method_297 ?_
      refine lv_topi (fun x1344 e1345 => ?_)
      obtain rfl : x1344 = nI (bk + 1) := e1345.trans (nI_add (bk) (1))
      refine r_put (v := (nI (bk + 1))) (ty := .int) hx hb hown hq hE hP hD hS 59 422 tFX12_59 (by decide) pw_1724 (by decide) rfl rfl (ms_59 a _ _) dX12_method_298 (fun H locs hP hD hS => ?_)
      refine lv_aload_n hx hb dX12_method_301 rfl (lv_at hl 2 rfl) ?_
      refine lv_iconst (v := 0) hx hb dX12_method_302 (by decide) ?_
      refine r_put (v := 0) (ty := .int) hx hb hown hq hE hP hD hS 65 366 tFX12_65 (by decide) pw_1612 (by decide) rfl rfl (ms_65 a _ _) dX12_method_303 (fun H locs hP hD hS => ?_)
      refine lv_aload_n hx hb dX12_method_306 rfl (lv_at hl 2 rfl) ?_
      refine r_get (v := .ref (a 42)) hx hb hown hq hE hP 56 138 tFX12_56 (by decide) pw_1473 rfl dX12_method_307 ?_
      refine lv_iload hx hb dX12_method_310 (lv_at hl 1 rfl) ?_
      refine lv_aload_n hx hb dX12_method_312 rfl (lv_at hl 2 rfl) ?_
      have hP : va_P G.1 pCl (mW G h0 a (upd (upd (upd (upd (upd (upd (upd (upd (upd (upd (upd (upd (upd (upd (upd (upd (upd (upd (upd F 15 (nI fa105)) 16 pl1317) 27 (nI nd)) 31 (nI wr)) 34 (nI lz)) 35 (nI dc)) 44 (nI fd)) 49 (nI (md + 1))) 59 (nI (bk + 1))) 60 (nI pr)) 64 (nI at104)) 65 0) 66 (nI lk)) 67 (nI mf)) 68 (nI (mm + 1))) 15 (nI fa105)) 27 (nI nd)) 31 (nI wr)) 64 (nI at104)) (updA (stR (stR (stR (stR (stR (stR (stR (stR (stR (stR B 36 md (nI d)) 37 md (nI v14)) 38 md (nI tn)) 39 md y) 40 md (nI pr)) 41 md 0) 42 md (-1)) 43 md (-1)) 44 md (-1)) 44 md (nI bk)) 2 K)) _ := mW_to (F := F) (l1 := [(15, (nI fa105)), (16, pl1317), (27, (nI nd)), (31, (nI wr)), (34, (nI lz)), (35, (nI dc)), (44, (nI fd)), (49, (nI (md + 1))), (59, (nI bk)), (60, (nI pr)), (64, (nI at104)), (65, ne0), (66, (nI lk)), (67, (nI mf)), (68, (nI (mm + 1))), (59, (nI (bk + 1))), (65, 0)]) (l2 := [(15, (nI fa105)), (16, pl1317), (27, (nI nd)), (31, (nI wr)), (34, (nI lz)), (35, (nI dc)), (44, (nI fd)), (49, (nI (md + 1))), (59, (nI (bk + 1))), (60, (nI pr)), (64, (nI at104)), (65, 0), (66, (nI lk)), (67, (nI mf)), (68, (nI (mm + 1))), (15, (nI fa105)), (27, (nI nd)), (31, (nI wr)), (64, (nI at104))]) (V := [(nI fa105), pl1317, (nI nd), (nI wr), (nI lz), (nI dc), (nI fd), (nI (md + 1)), (nI (bk + 1)), (nI pr), (nI at104), 0, (nI lk), (nI mf), (nI (mm + 1)), (nI (bk + 1)), 0, (nI fa105), pl1317, (nI nd), (nI wr), (nI lz), (nI dc), (nI fd), (nI (md + 1)), (nI (bk + 1)), (nI pr), (nI at104), 0, (nI lk), (nI mf), (nI (mm + 1)), (nI fa105), (nI nd), (nI wr), (nI at104)]) rfl rfl rfl hP
      have hD : va_D A (mW G h0 a (upd (upd (upd (upd (upd (upd (upd (upd (upd (upd (upd (upd (upd (upd (upd (upd (upd (upd (upd F 15 (nI fa105)) 16 pl1317) 27 (nI nd)) 31 (nI wr)) 34 (nI lz)) 35 (nI dc)) 44 (nI fd)) 49 (nI (md + 1))) 59 (nI (bk + 1))) 60 (nI pr)) 64 (nI at104)) 65 0) 66 (nI lk)) 67 (nI mf)) 68 (nI (mm + 1))) 15 (nI fa105)) 27 (nI nd)) 31 (nI wr)) 64 (nI at104)) (updA (stR (stR (stR (stR (stR (stR (stR (stR (stR (stR B 36 md (nI d)) 37 md (nI v14)) 38 md (nI tn)) 39 md y) 40 md (nI pr)) 41 md 0) 42 md (-1)) 43 md (-1)) 44 md (-1)) 44 md (nI bk)) 2 K)) := mW_D hD
      refine pc_V0 (G := G) (As := []) (rest := [.int (nI md), .ref (a 42)]) hx hb hml hown hq hE hX pX0_al hP hD hS hA hl.1 (RF_block l G h0 a (upd (upd (upd (upd (upd (upd (upd (upd (upd (upd (upd (upd (upd (upd (upd F 15 (nI fa105)) 16 pl1317) 27 (nI nd)) 31 (nI wr)) 34 (nI lz)) 35 (nI dc)) 44 (nI fd)) 49 (nI (md + 1))) 59 (nI (bk + 1))) 60 (nI pr)) 64 (nI at104)) 65 0) 66 (nI lk)) 67 (nI mf)) 68 (nI (mm + 1))) (stR (stR (stR (stR (stR (stR (stR (stR (stR (stR B 36 md (nI d)) 37 md (nI v14)) 38 md (nI tn)) 39 md y) 40 md (nI pr)) 41 md 0) 42 md (-1)) 43 md (-1)) 44 md (-1)) 44 md (nI bk)) at104 T fa105 nd wr K (by omega) (by omega) hK (by omega) e115 (by omega) (by omega) hty1343) (gV pw_1685 pw_1686 pw_1687 pw_1523 pw_1688) hV_X12_block 0 9 rfl rfl rfl rfl (Nat.le_of_ble_eq_true rfl) dX12_method_313 ⟨Nat.le_of_ble_eq_true rfl, Nat.le_of_ble_eq_true rfl⟩ ⟨Nat.le_of_ble_eq_true rfl, Nat.le_of_ble_eq_true rfl⟩ (fun v1348 u1346 H locs hw1347 hP hD hS => ?_)
      obtain ⟨pl1349, wr1350, X1351⟩ := u1346
      obtain ⟨hw1347, h1352, h1353, h1354⟩ := hw1347
      replace h1352 : wr ≤ wr1350 := h1352
      replace h1353 : wr1350 ≤ wr := h1353
      replace h1354 : Kp (stR (stR (stR (stR (stR (stR (stR (stR (stR (stR B 36 md (nI d)) 37 md (nI v14)) 38 md (nI tn)) 39 md y) 40 md (nI pr)) 41 md 0) 42 md (-1)) 43 md (-1)) 44 md (-1)) 44 md (nI bk)) X1351 wr1350 T := h1354
      obtain rfl : v1348 = some (.int (nI nd)) := hw1347
      have hP : va_P G.1 pCl (mW G h0 a (upd (upd (upd (upd (upd (upd (upd (upd (upd (upd (upd (upd (upd (upd (upd F 15 (nI fa105)) 16 pl1349) 27 (nI (nd + 1))) 31 (nI wr1350)) 34 (nI lz)) 35 (nI dc)) 44 (nI fd)) 49 (nI (md + 1))) 59 (nI (bk + 1))) 60 (nI pr)) 64 (nI at104)) 65 0) 66 (nI lk)) 67 (nI mf)) 68 (nI (mm + 1))) (updA X1351 2 K)) _ := mW_to (F := F) (l1 := [(15, (nI fa105)), (16, pl1317), (27, (nI nd)), (31, (nI wr)), (34, (nI lz)), (35, (nI dc)), (44, (nI fd)), (49, (nI (md + 1))), (59, (nI (bk + 1))), (60, (nI pr)), (64, (nI at104)), (65, 0), (66, (nI lk)), (67, (nI mf)), (68, (nI (mm + 1))), (15, (nI fa105)), (16, pl1349), (27, (nI (nd + 1))), (31, (nI wr1350)), (64, (nI at104))]) (l2 := [(15, (nI fa105)), (16, pl1349), (27, (nI (nd + 1))), (31, (nI wr1350)), (34, (nI lz)), (35, (nI dc)), (44, (nI fd)), (49, (nI (md + 1))), (59, (nI (bk + 1))), (60, (nI pr)), (64, (nI at104)), (65, 0), (66, (nI lk)), (67, (nI mf)), (68, (nI (mm + 1)))]) (V := [(nI fa105), pl1349, (nI (nd + 1)), (nI wr1350), (nI lz), (nI dc), (nI fd), (nI (md + 1)), (nI (bk + 1)), (nI pr), (nI at104), 0, (nI lk), (nI mf), (nI (mm + 1)), (nI fa105), pl1349, (nI (nd + 1)), (nI wr1350), (nI at104), (nI fa105), pl1349, (nI (nd + 1)), (nI wr1350), (nI lz), (nI dc), (nI fd), (nI (md + 1)), (nI (bk + 1)), (nI pr), (nI at104), 0, (nI lk), (nI mf), (nI (mm + 1))]) rfl rfl rfl hP
      have hD : va_D A (mW G h0 a (upd (upd (upd (upd (upd (upd (upd (upd (upd (upd (upd (upd (upd (upd (upd F 15 (nI fa105)) 16 pl1349) 27 (nI (nd + 1))) 31 (nI wr1350)) 34 (nI lz)) 35 (nI dc)) 44 (nI fd)) 49 (nI (md + 1))) 59 (nI (bk + 1))) 60 (nI pr)) 64 (nI at104)) 65 0) 66 (nI lk)) 67 (nI mf)) 68 (nI (mm + 1))) (updA X1351 2 K)) := mW_D hD
      refine W.widen (k := 0) (n := 0) (Nat.le_of_ble_eq_true rfl) (Nat.le_of_ble_eq_true rfl) ?_
      refine W.eq (g2 := F0 m 316 ls [.int (nI nd), .int (nI md), .ref (a 42)]) rfl ?_
      have hkq1355 : Kq 0 B X1351 := (Kq.kp hkq1333 h1354)
      have hce1356 : X1351 36 md = (nI d) := ((congrFun (h1354.1 36 (by omega)) md).trans hce1334)
      have hce1357 : X1351 37 md = (nI v14) := ((congrFun (h1354.1 37 (by omega)) md).trans hce1335)
      have hce1358 : X1351 38 md = (nI tn) := ((congrFun (h1354.1 38 (by omega)) md).trans hce1336)
      have hce1359 : X1351 39 md = y := ((congrFun (h1354.1 39 (by omega)) md).trans hce1337)
      have hce1360 : X1351 40 md = (nI pr) := ((congrFun (h1354.1 40 (by omega)) md).trans hce1338)
      have hce1361 : X1351 41 md = 0 := ((congrFun (h1354.1 41 (by omega)) md).trans hce1339)
      have hce1362 : X1351 42 md = (-1) := ((congrFun (h1354.1 42 (by omega)) md).trans hce1340)
      have hce1363 : X1351 43 md = (-1) := ((congrFun (h1354.1 43 (by omega)) md).trans hce1341)
      have hce1364 : X1351 44 md = (nI bk) := ((congrFun (h1354.1 44 (by omega)) md).trans hce1342)
      have hty1365 : tkRow (X1351 19) wr1350 T := h1354.2
      refine r_sti (f := (X1351 42)) (j := md) hx hb hE hP hD hS 42 (ma_42 G a _) rfl (mas_42 G a _) (by omega) (by decide) dX12_method_316 (fun H locs hP hD hS => ?_)
      have hP : va_P G.1 pCl (mW G h0 a (upd (upd (upd (upd (upd (upd (upd (upd (upd (upd (upd (upd (upd (upd (upd F 15 (nI fa105)) 16 pl1349) 27 (nI (nd + 1))) 31 (nI wr1350)) 34 (nI lz)) 35 (nI dc)) 44 (nI fd)) 49 (nI (md + 1))) 59 (nI (bk + 1))) 60 (nI pr)) 64 (nI at104)) 65 0) 66 (nI lk)) 67 (nI mf)) 68 (nI (mm + 1))) (updA (stR X1351 42 md (nI nd)) 2 K)) _ := hP
      have hD : va_D A (mW G h0 a (upd (upd (upd (upd (upd (upd (upd (upd (upd (upd (upd (upd (upd (upd (upd F 15 (nI fa105)) 16 pl1349) 27 (nI (nd + 1))) 31 (nI wr1350)) 34 (nI lz)) 35 (nI dc)) 44 (nI fd)) 49 (nI (md + 1))) 59 (nI (bk + 1))) 60 (nI pr)) 64 (nI at104)) 65 0) 66 (nI lk)) 67 (nI mf)) 68 (nI (mm + 1))) (updA (stR X1351 42 md (nI nd)) 2 K)) := mW_D hD
      have hkq1366 : Kq 0 B (stR X1351 42 md (nI nd)) := (Kq.st hkq1355 (by omega))
      have hce1367 : (stR X1351 42 md (nI nd)) 36 md = (nI d) := ((st_ne (by omega)).trans hce1356)
      have hce1368 : (stR X1351 42 md (nI nd)) 37 md = (nI v14) := ((st_ne (by omega)).trans hce1357)
      have hce1369 : (stR X1351 42 md (nI nd)) 38 md = (nI tn) := ((st_ne (by omega)).trans hce1358)
      have hce1370 : (stR X1351 42 md (nI nd)) 39 md = y := ((st_ne (by omega)).trans hce1359)
      have hce1371 : (stR X1351 42 md (nI nd)) 40 md = (nI pr) := ((st_ne (by omega)).trans hce1360)
      have hce1372 : (stR X1351 42 md (nI nd)) 41 md = 0 := ((st_ne (by omega)).trans hce1361)
      have hce1373 : (stR X1351 42 md (nI nd)) 42 md = (nI nd) := st_eq
      have hce1374 : (stR X1351 42 md (nI nd)) 43 md = (-1) := ((st_ne (by omega)).trans hce1363)
      have hce1375 : (stR X1351 42 md (nI nd)) 44 md = (nI bk) := ((st_ne (by omega)).trans hce1364)
      have hty1376 : tkRow ((stR X1351 42 md (nI nd)) 19) wr1350 T := hty1365
      refine lv_aload_n hx hb dX12_method_317 rfl (lv_at hl 2 rfl) ?_
      refine r_get (v := .ref (a 43)) hx hb hown hq hE hP 57 141 tFX12_57 (by decide) pw_1474 rfl dX12_method_318 ?_
      refine lv_iload hx hb dX12_method_321 (lv_at hl 1 rfl) ?_
      refine lv_aload_n hx hb dX12_method_323 rfl (lv_at hl 2 rfl) ?_
      refine r_get (v := .int (nI at104)) hx hb hown hq hE hP 64 343 tFX12_64 (by decide) pw_1592 rfl dX12_method_324 ?_
      refine lv_iconst (v := 1) hx hb dX12_method_327 (by decide) ?_
      refine lv_isub hx hb dX12_method_328 ?_
      refine lv_topi (fun x1377 e1378 => ?_)
      obtain rfl : x1377 = nI (at104 - 1) := e1378.trans (nI_subN (a := 1) (b := at104) (by omega))
      refine r_sti (f := ((stR X1351 42 md (nI nd)) 43)) (j := md) hx hb hE hP hD hS 43 (ma_43 G a _) rfl (mas_43 G a _) (by omega) (by decide) dX12_method_329 (fun H locs hP hD hS => ?_)
      have hP : va_P G.1 pCl (mW G h0 a (upd (upd (upd (upd (upd (upd (upd (upd (upd (upd (upd (upd (upd (upd (upd F 15 (nI fa105)) 16 pl1349) 27 (nI (nd + 1))) 31 (nI wr1350)) 34 (nI lz)) 35 (nI dc)) 44 (nI fd)) 49 (nI (md + 1))) 59 (nI (bk + 1))) 60 (nI pr)) 64 (nI at104)) 65 0) 66 (nI lk)) 67 (nI mf)) 68 (nI (mm + 1))) (updA (stR (stR X1351 42 md (nI nd)) 43 md (nI (at104 - 1))) 2 K)) _ := hP
      have hD : va_D A (mW G h0 a (upd (upd (upd (upd (upd (upd (upd (upd (upd (upd (upd (upd (upd (upd (upd F 15 (nI fa105)) 16 pl1349) 27 (nI (nd + 1))) 31 (nI wr1350)) 34 (nI lz)) 35 (nI dc)) 44 (nI fd)) 49 (nI (md + 1))) 59 (nI (bk + 1))) 60 (nI pr)) 64 (nI at104)) 65 0) 66 (nI lk)) 67 (nI mf)) 68 (nI (mm + 1))) (updA (stR (stR X1351 42 md (nI nd)) 43 md (nI (at104 - 1))) 2 K)) := mW_D hD
      have hkq1379 : Kq 0 B (stR (stR X1351 42 md (nI nd)) 43 md (nI (at104 - 1))) := (Kq.st hkq1366 (by omega))
      have hce1380 : (stR (stR X1351 42 md (nI nd)) 43 md (nI (at104 - 1))) 36 md = (nI d) := ((st_ne (by omega)).trans hce1367)
      have hce1381 : (stR (stR X1351 42 md (nI nd)) 43 md (nI (at104 - 1))) 37 md = (nI v14) := ((st_ne (by omega)).trans hce1368)
      have hce1382 : (stR (stR X1351 42 md (nI nd)) 43 md (nI (at104 - 1))) 38 md = (nI tn) := ((st_ne (by omega)).trans hce1369)
      have hce1383 : (stR (stR X1351 42 md (nI nd)) 43 md (nI (at104 - 1))) 39 md = y := ((st_ne (by omega)).trans hce1370)
      have hce1384 : (stR (stR X1351 42 md (nI nd)) 43 md (nI (at104 - 1))) 40 md = (nI pr) := ((st_ne (by omega)).trans hce1371)
      have hce1385 : (stR (stR X1351 42 md (nI nd)) 43 md (nI (at104 - 1))) 41 md = 0 := ((st_ne (by omega)).trans hce1372)
      have hce1386 : (stR (stR X1351 42 md (nI nd)) 43 md (nI (at104 - 1))) 42 md = (nI nd) := ((st_ne (by omega)).trans hce1373)
      have hce1387 : (stR (stR X1351 42 md (nI nd)) 43 md (nI (at104 - 1))) 43 md = (nI (at104 - 1)) := st_eq
      have hce1388 : (stR (stR X1351 42 md (nI nd)) 43 md (nI (at104 - 1))) 44 md = (nI bk) := ((st_ne (by omega)).trans hce1375)
      have hty1389 : tkRow ((stR (stR X1351 42 md (nI nd)) 43 md (nI (at104 - 1))) 19) wr1350 T := hty1376
      have hz1390 : at0 ≤ at104 := (by omega)
      have hz1391 : at104 ≤ T := (by omega)
      have hz1392 : fa105 ≤ 100 := (by omega)
      have hz1393 : at0 + 1 ≤ at104 + fa105 := (by omega)
      have hz1394 : Kq 0 B (stR (stR X1351 42 md (nI nd)) 43 md (nI (at104 - 1))) := hkq1379
      have hz1395 : If (fa105 = 0) (((nd + 1) ≤ 2 * at104 ∧ wr1350 ≤ at104 ∧ lz ≤ at104 ∧ pr ≤ at104 ∧ dc ≤ 37 ∧ dc ≤ dc ∧ (bk + 1) ≤ (md + 1) ∧ wr ≤ wr1350 ∧ lz ≤ lz) ∧ ((md + 1) + 240 ≤ 30 * dc + (mm + 1) ∧ fd + 160 ≤ 20 * dc + mf ∧ mf ≤ 20 ∧ (mm + 1) ≤ 30 ∧ dc = dc) ∧ PS T nm wr1350 lz dc fd (md + 1) pr (bk + 1) (stR (stR X1351 42 md (nI nd)) 43 md (nI (at104 - 1))) ∧ FrM K T wr1350 (stR (stR X1351 42 md (nI nd)) 43 md (nI (at104 - 1))) (nd + 1) (md + 1) ∧ tkRow ((stR (stR X1351 42 md (nI nd)) 43 md (nI (at104 - 1))) 19) wr1350 T ∧ lsRow ((stR (stR X1351 42 md (nI nd)) 43 md (nI (at104 - 1))) 22) ((stR (stR X1351 42 md (nI nd)) 43 md (nI (at104 - 1))) 23) lz T) := (fun e => absurd e (by omega))
      have hP : va_P G.1 pCl (mW G h0 a (upd (upd (upd (upd (upd (upd (upd (upd (upd (upd (upd (upd (upd (upd (upd F 15 (nI fa105)) 16 pl1349) 27 (nI (nd + 1))) 31 (nI wr1350)) 34 (nI lz)) 35 (nI dc)) 44 (nI fd)) 49 (nI (md + 1))) 59 (nI (bk + 1))) 60 (nI pr)) 64 (nI at104)) 65 (0 : Int32)) 66 (nI lk)) 67 (nI mf)) 68 (nI (mm + 1))) (updA (stR (stR X1351 42 md (nI nd)) 43 md (nI (at104 - 1))) 2 K)) _ := mW_to (F := F) (l1 := [(15, (nI fa105)), (16, pl1349), (27, (nI (nd + 1))), (31, (nI wr1350)), (34, (nI lz)), (35, (nI dc)), (44, (nI fd)), (49, (nI (md + 1))), (59, (nI (bk + 1))), (60, (nI pr)), (64, (nI at104)), (65, 0), (66, (nI lk)), (67, (nI mf)), (68, (nI (mm + 1)))]) (l2 := [(15, (nI fa105)), (16, pl1349), (27, (nI (nd + 1))), (31, (nI wr1350)), (34, (nI lz)), (35, (nI dc)), (44, (nI fd)), (49, (nI (md + 1))), (59, (nI (bk + 1))), (60, (nI pr)), (64, (nI at104)), (65, (0 : Int32)), (66, (nI lk)), (67, (nI mf)), (68, (nI (mm + 1)))]) (V := [(nI fa105), pl1349, (nI (nd + 1)), (nI wr1350), (nI lz), (nI dc), (nI fd), (nI (md + 1)), (nI (bk + 1)), (nI pr), (nI at104), (0 : Int32), (nI lk), (nI mf), (nI (mm + 1)), (nI fa105), pl1349, (nI (nd + 1)), (nI wr1350), (nI lz), (nI dc), (nI fd), (nI (md + 1)), (nI (bk + 1)), (nI pr), (nI at104), (0 : Int32), (nI lk), (nI mf), (nI (mm + 1))]) rfl rfl rfl hP
      have hD : va_D A (mW G h0 a (upd (upd (upd (upd (upd (upd (upd (upd (upd (upd (upd (upd (upd (upd (upd F 15 (nI fa105)) 16 pl1349) 27 (nI (nd + 1))) 31 (nI wr1350)) 34 (nI lz)) 35 (nI dc)) 44 (nI fd)) 49 (nI (md + 1))) 59 (nI (bk + 1))) 60 (nI pr)) 64 (nI at104)) 65 (0 : Int32)) 66 (nI lk)) 67 (nI mf)) 68 (nI (mm + 1))) (updA (stR (stR X1351 42 md (nI nd)) 43 md (nI (at104 - 1))) 2 K)) := mW_D hD
      exact W.vret hx hb hr (fun t9 ht9 hW9 => ⟨⟨_, (at104, fa105, pl1349, (nd + 1), wr1350, lz, dc, fd, (md + 1), pr, (bk + 1), mf, (mm + 1), (0 : Int32), (stR (stR X1351 42 md (nI nd)) 43 md (nI (at104 - 1)))), rfl, ⟨rfl, hz1390, hz1391, hz1392, hz1393, hz1394, hz1395⟩, by rw [ht9]; exact hP, hD⟩, hS.F ht9⟩) hS.2.2 dX12_method_330
    · refine lv_aload_n hx hb dX12_method_273 rfl (lv_at hl 2 rfl) ?_
      refine lv_bipush (v := 59) hx hb dX12_method_274 (by decide) ?_
      have hP : va_P G.1 pCl (mW G h0 a (upd (upd (upd (upd (upd (upd (upd (upd (upd (upd (upd (upd (upd (upd (upd (upd (upd F 15 (nI fa105)) 16 pl1317) 27 (nI nd)) 31 (nI wr)) 34 (nI lz)) 35 (nI dc)) 44 (nI fd)) 49 (nI (md + 1))) 59 (nI bk)) 60 (nI pr)) 64 (nI at104)) 65 ne0) 66 (nI lk)) 67 (nI mf)) 68 (nI (mm + 1))) 15 (nI fa105)) 64 (nI at104)) (updA (updA (stR (stR (stR (stR (stR (stR (stR (stR (stR B 36 md (nI d)) 37 md (nI v14)) 38 md (nI tn)) 39 md y) 40 md (nI pr)) 41 md 0) 42 md (-1)) 43 md (-1)) 44 md (-1)) 2 K) 2 K)) _ := hP
      have hD : va_D A (mW G h0 a (upd (upd (upd (upd (upd (upd (upd (upd (upd (upd (upd (upd (upd (upd (upd (upd (upd F 15 (nI fa105)) 16 pl1317) 27 (nI nd)) 31 (nI wr)) 34 (nI lz)) 35 (nI dc)) 44 (nI fd)) 49 (nI (md + 1))) 59 (nI bk)) 60 (nI pr)) 64 (nI at104)) 65 ne0) 66 (nI lk)) 67 (nI mf)) 68 (nI (mm + 1))) 15 (nI fa105)) 64 (nI at104)) (updA (updA (stR (stR (stR (stR (stR (stR (stR (stR (stR B 36 md (nI d)) 37 md (nI v14)) 38 md (nI tn)) 39 md y) 40 md (nI pr)) 41 md 0) 42 md (-1)) 43 md (-1)) 44 md (-1)) 2 K) 2 K)) := mW_D hD
      refine pc_V0 (G := G) (As := [.int 59]) (rest := []) hx hb hml hown hq hE hX pX0_al hP hD hS hA hl.1 (R_take l G h0 a (upd (upd (upd (upd (upd (upd (upd (upd (upd (upd (upd (upd (upd (upd (upd F 15 (nI fa105)) 16 pl1317) 27 (nI nd)) 31 (nI wr)) 34 (nI lz)) 35 (nI dc)) 44 (nI fd)) 49 (nI (md + 1))) 59 (nI bk)) 60 (nI pr)) 64 (nI at104)) 65 ne0) 66 (nI lk)) 67 (nI mf)) 68 (nI (mm + 1))) (updA (stR (stR (stR (stR (stR (stR (stR (stR (stR B 36 md (nI d)) 37 md (nI v14)) 38 md (nI tn)) 39 md y) 40 md (nI pr)) 41 md 0) 42 md (-1)) 43 md (-1)) 44 md (-1)) 2 K) at104 T fa105 K 59 (by omega) (by omega) hK (by omega) (by decide) (by decide)) (gV pw_1614 pw_1615 pw_1616 pw_1523 pw_1601) hV_X12_take 0 9 rfl rfl rfl rfl (Nat.le_of_ble_eq_true rfl) dX12_method_276 ⟨Nat.le_of_ble_eq_true rfl, Nat.le_of_ble_eq_true rfl⟩ ⟨Nat.le_of_ble_eq_true rfl, Nat.le_of_ble_eq_true rfl⟩ (fun v1398 u1396 H locs hw1397 hP hD hS => ?_)
      obtain ⟨at1399, fa1400, pl1401⟩ := u1396
      obtain ⟨hw1397, h1402, h1403, h1404, h1405, h1406, h1407, h1408, h1409⟩ := hw1397
      replace h1402 : at104 ≤ at1399 := h1402
      replace h1403 : at1399 ≤ T := h1403
      replace h1404 : fa105 ≤ fa1400 := h1404
      replace h1405 : fa1400 ≤ 100 := h1405
      replace h1406 : If (0 < fa105) (at1399 = at104 ∧ fa1400 = fa105) := h1406
      replace h1407 : at1399 ≤ at104 + 1 := h1407
      replace h1408 : at104 + 1 ≤ at1399 + fa1400 := h1408
      replace h1409 : If (fa1400 = 0) (K at104 = 59) := h1409
      obtain rfl : v1398 = none := hw1397
      have hP : va_P G.1 pCl (mW G h0 a (upd (upd (upd (upd (upd (upd (upd (upd (upd (upd (upd (upd (upd (upd (upd F 15 (nI fa1400)) 16 pl1401) 27 (nI nd)) 31 (nI wr)) 34 (nI lz)) 35 (nI dc)) 44 (nI fd)) 49 (nI (md + 1))) 59 (nI bk)) 60 (nI pr)) 64 (nI at1399)) 65 ne0) 66 (nI lk)) 67 (nI mf)) 68 (nI (mm + 1))) (updA (stR (stR (stR (stR (stR (stR (stR (stR (stR B 36 md (nI d)) 37 md (nI v14)) 38 md (nI tn)) 39 md y) 40 md (nI pr)) 41 md 0) 42 md (-1)) 43 md (-1)) 44 md (-1)) 2 K)) _ := mW_to (F := F) (l1 := [(15, (nI fa105)), (16, pl1317), (27, (nI nd)), (31, (nI wr)), (34, (nI lz)), (35, (nI dc)), (44, (nI fd)), (49, (nI (md + 1))), (59, (nI bk)), (60, (nI pr)), (64, (nI at104)), (65, ne0), (66, (nI lk)), (67, (nI mf)), (68, (nI (mm + 1))), (15, (nI fa1400)), (16, pl1401), (64, (nI at1399))]) (l2 := [(15, (nI fa1400)), (16, pl1401), (27, (nI nd)), (31, (nI wr)), (34, (nI lz)), (35, (nI dc)), (44, (nI fd)), (49, (nI (md + 1))), (59, (nI bk)), (60, (nI pr)), (64, (nI at1399)), (65, ne0), (66, (nI lk)), (67, (nI mf)), (68, (nI (mm + 1)))]) (V := [(nI fa1400), pl1401, (nI nd), (nI wr), (nI lz), (nI dc), (nI fd), (nI (md + 1)), (nI bk), (nI pr), (nI at1399), ne0, (nI lk), (nI mf), (nI (mm + 1)), (nI fa1400), pl1401, (nI at1399), (nI fa1400), pl1401, (nI nd), (nI wr), (nI lz), (nI dc), (nI fd), (nI (md + 1)), (nI bk), (nI pr), (nI at1399), ne0, (nI lk), (nI mf), (nI (mm + 1))]) rfl rfl (show (updA (updA (stR (stR (stR (stR (stR (stR (stR (stR (stR B 36 md (nI d)) 37 md (nI v14)) 38 md (nI tn)) 39 md y) 40 md (nI pr)) 41 md 0) 42 md (-1)) 43 md (-1)) 44 md (-1)) 2 K) 2 K) = (updA (stR (stR (stR (stR (stR (stR (stR (stR (stR B 36 md (nI d)) 37 md (nI v14)) 38 md (nI tn)) 39 md y) 40 md (nI pr)) 41 md 0) 42 md (-1)) 43 md (-1)) 44 md (-1)) 2 K) from updsA_eq2 (F := (stR (stR (stR (stR (stR (stR (stR (stR (stR B 36 md (nI d)) 37 md (nI v14)) 38 md (nI tn)) 39 md y) 40 md (nI pr)) 41 md 0) 42 md (-1)) 43 md (-1)) 44 md (-1))) (l1 := [(2, K), (2, K)]) (l2 := [(2, K)]) (V := [K, K, K]) rfl rfl) hP
      have hD : va_D A (mW G h0 a (upd (upd (upd (upd (upd (upd (upd (upd (upd (upd (upd (upd (upd (upd (upd F 15 (nI fa1400)) 16 pl1401) 27 (nI nd)) 31 (nI wr)) 34 (nI lz)) 35 (nI dc)) 44 (nI fd)) 49 (nI (md + 1))) 59 (nI bk)) 60 (nI pr)) 64 (nI at1399)) 65 ne0) 66 (nI lk)) 67 (nI mf)) 68 (nI (mm + 1))) (updA (stR (stR (stR (stR (stR (stR (stR (stR (stR B 36 md (nI d)) 37 md (nI v14)) 38 md (nI tn)) 39 md y) 40 md (nI pr)) 41 md 0) 42 md (-1)) 43 md (-1)) 44 md (-1)) 2 K)) := mW_D hD
      refine W.widen (k := 0) (n := 0) (Nat.le_of_ble_eq_true rfl) (Nat.le_of_ble_eq_true rfl) ?_
      refine W.eq (g2 := F0 m 279 ls []) rfl ?_
      obtain ⟨n1411, n1410⟩ := h1406 e115
      replace n1411 := n1411.symm
      subst n1411
      replace n1410 := n1410.symm
      subst n1410
      have hz1412 : at0 ≤ at104 := (by omega)
      have hz1413 : at104 ≤ T := (by omega)
      have hz1414 : fa105 ≤ 100 := (by omega)
      have hz1415 : at0 + 1 ≤ at104 + fa105 := (by omega)
      have hz1416 : Kq 0 B (stR (stR (stR (stR (stR (stR (stR (stR (stR B 36 md (nI d)) 37 md (nI v14)) 38 md (nI tn)) 39 md y) 40 md (nI pr)) 41 md 0) 42 md (-1)) 43 md (-1)) 44 md (-1)) := hkq87
      have hz1417 : If (fa105 = 0) ((nd ≤ 2 * at104 ∧ wr ≤ at104 ∧ lz ≤ at104 ∧ pr ≤ at104 ∧ dc ≤ 37 ∧ dc ≤ dc ∧ bk ≤ (md + 1) ∧ wr ≤ wr ∧ lz ≤ lz) ∧ ((md + 1) + 240 ≤ 30 * dc + (mm + 1) ∧ fd + 160 ≤ 20 * dc + mf ∧ mf ≤ 20 ∧ (mm + 1) ≤ 30 ∧ dc = dc) ∧ PS T nm wr lz dc fd (md + 1) pr bk (stR (stR (stR (stR (stR (stR (stR (stR (stR B 36 md (nI d)) 37 md (nI v14)) 38 md (nI tn)) 39 md y) 40 md (nI pr)) 41 md 0) 42 md (-1)) 43 md (-1)) 44 md (-1)) ∧ FrM K T wr (stR (stR (stR (stR (stR (stR (stR (stR (stR B 36 md (nI d)) 37 md (nI v14)) 38 md (nI tn)) 39 md y) 40 md (nI pr)) 41 md 0) 42 md (-1)) 43 md (-1)) 44 md (-1)) nd (md + 1) ∧ tkRow ((stR (stR (stR (stR (stR (stR (stR (stR (stR B 36 md (nI d)) 37 md (nI v14)) 38 md (nI tn)) 39 md y) 40 md (nI pr)) 41 md 0) 42 md (-1)) 43 md (-1)) 44 md (-1)) 19) wr T ∧ lsRow ((stR (stR (stR (stR (stR (stR (stR (stR (stR B 36 md (nI d)) 37 md (nI v14)) 38 md (nI tn)) 39 md y) 40 md (nI pr)) 41 md 0) 42 md (-1)) 43 md (-1)) 44 md (-1)) 22) ((stR (stR (stR (stR (stR (stR (stR (stR (stR B 36 md (nI d)) 37 md (nI v14)) 38 md (nI tn)) 39 md y) 40 md (nI pr)) 41 md 0) 42 md (-1)) 43 md (-1)) 44 md (-1)) 23) lz T) := (fun e => absurd e (by omega))
      have hP : va_P G.1 pCl (mW G h0 a (upd (upd (upd (upd (upd (upd (upd (upd (upd (upd (upd (upd (upd (upd (upd F 15 (nI fa105)) 16 pl1401) 27 (nI nd)) 31 (nI wr)) 34 (nI lz)) 35 (nI dc)) 44 (nI fd)) 49 (nI (md + 1))) 59 (nI bk)) 60 (nI pr)) 64 (nI at104)) 65 ne0) 66 (nI lk)) 67 (nI mf)) 68 (nI (mm + 1))) (updA (stR (stR (stR (stR (stR (stR (stR (stR (stR B 36 md (nI d)) 37 md (nI v14)) 38 md (nI tn)) 39 md y) 40 md (nI pr)) 41 md 0) 42 md (-1)) 43 md (-1)) 44 md (-1)) 2 K)) _ := hP
      have hD : va_D A (mW G h0 a (upd (upd (upd (upd (upd (upd (upd (upd (upd (upd (upd (upd (upd (upd (upd F 15 (nI fa105)) 16 pl1401) 27 (nI nd)) 31 (nI wr)) 34 (nI lz)) 35 (nI dc)) 44 (nI fd)) 49 (nI (md + 1))) 59 (nI bk)) 60 (nI pr)) 64 (nI at104)) 65 ne0) 66 (nI lk)) 67 (nI mf)) 68 (nI (mm + 1))) (updA (stR (stR (stR (stR (stR (stR (stR (stR (stR B 36 md (nI d)) 37 md (nI v14)) 38 md (nI tn)) 39 md y) 40 md (nI pr)) 41 md 0) 42 md (-1)) 43 md (-1)) 44 md (-1)) 2 K)) := mW_D hD
      exact W.vret hx hb hr (fun t9 ht9 hW9 => ⟨⟨_, (at104, fa105, pl1401, nd, wr, lz, dc, fd, (md + 1), pr, bk, mf, (mm + 1), ne0, (stR (stR (stR (stR (stR (stR (stR (stR (stR B 36 md (nI d)) 37 md (nI v14)) 38 md (nI tn)) 39 md y) 40 md (nI pr)) 41 md 0) 42 md (-1)) 43 md (-1)) 44 md (-1))), rfl, ⟨rfl, hz1412, hz1413, hz1414, hz1415, hz1416, hz1417⟩, by rw [ht9]; exact hP, hD⟩, hS.F ht9⟩) hS.2.2 dX12_method_279

theorem lsRow_up1 {lt ln : Nat → Int32} {n T : Nat} {v : Int32} (h : lsRow lt ln n T) : lsRow (upd lt n v) ln n T := fun i hi => by
  rw [upd_lt i hi]; exact h i hi
theorem dX12_member_0 : decode cX12_member 0 = .ok (.aload_n 0, 1) := by decide +kernel
theorem dX12_member_1 : decode cX12_member 1 = .ok (.invokevirtual 381, 3) := by decide +kernel
theorem dX12_member_4 : decode cX12_member 4 = .ok (.sipush 337, 3) := by decide +kernel
theorem dX12_member_7 : decode cX12_member 7 = .ok (.if_icmp .ne 7, 3) := by decide +kernel
theorem dX12_member_14 : decode cX12_member 14 = .ok (.iconst 0, 1) := by decide +kernel
theorem dX12_member_15 : decode cX12_member 15 = .ok (.istore_n 2, 1) := by decide +kernel
theorem dX12_member_16 : decode cX12_member 16 = .ok (.iconst (-1), 1) := by decide +kernel
theorem dX12_member_17 : decode cX12_member 17 = .ok (.istore_n 3, 1) := by decide +kernel
theorem dX12_member_18 : decode cX12_member 18 = .ok (.iload_n 2, 1) := by decide +kernel
theorem dX12_member_19 : decode cX12_member 19 = .ok (.ifCond .eq 16, 3) := by decide +kernel
theorem dX12_member_35 : decode cX12_member 35 = .ok (.aload_n 0, 1) := by decide +kernel
theorem dX12_member_36 : decode cX12_member 36 = .ok (.invokevirtual 406, 3) := by decide +kernel
theorem dX12_member_39 : decode cX12_member 39 = .ok (.istore_n 3, 1) := by decide +kernel
theorem dX12_member_40 : decode cX12_member 40 = .ok (.aload_n 0, 1) := by decide +kernel
theorem dX12_member_41 : decode cX12_member 41 = .ok (.getfield 350, 3) := by decide +kernel
theorem dX12_member_44 : decode cX12_member 44 = .ok (.ifCond .le 4, 3) := by decide +kernel
theorem dX12_member_48 : decode cX12_member 48 = .ok (.aload_n 0, 1) := by decide +kernel
theorem dX12_member_49 : decode cX12_member 49 = .ok (.getfield 343, 3) := by decide +kernel
theorem dX12_member_52 : decode cX12_member 52 = .ok (.istore 4, 2) := by decide +kernel
theorem dX12_member_54 : decode cX12_member 54 = .ok (.aload_n 0, 1) := by decide +kernel
theorem dX12_member_55 : decode cX12_member 55 = .ok (.iconst 1, 1) := by decide +kernel
theorem dX12_member_56 : decode cX12_member 56 = .ok (.invokevirtual 369, 3) := by decide +kernel
theorem dX12_member_59 : decode cX12_member 59 = .ok (.aload_n 0, 1) := by decide +kernel
theorem dX12_member_60 : decode cX12_member 60 = .ok (.getfield 350, 3) := by decide +kernel
theorem dX12_member_63 : decode cX12_member 63 = .ok (.ifCond .le 4, 3) := by decide +kernel
theorem dX12_member_67 : decode cX12_member 67 = .ok (.iload_n 2, 1) := by decide +kernel
theorem dX12_member_68 : decode cX12_member 68 = .ok (.ifCond .eq 27, 3) := by decide +kernel
theorem dX12_member_95 : decode cX12_member 95 = .ok (.aload_n 0, 1) := by decide +kernel
theorem dX12_member_96 : decode cX12_member 96 = .ok (.getfield 90, 3) := by decide +kernel
theorem dX12_member_99 : decode cX12_member 99 = .ok (.iload_n 1, 1) := by decide +kernel
theorem dX12_member_100 : decode cX12_member 100 = .ok (.baload, 1) := by decide +kernel
theorem dX12_member_101 : decode cX12_member 101 = .ok (.ifCond .ne 12, 3) := by decide +kernel
theorem dX12_member_104 : decode cX12_member 104 = .ok (.aload_n 0, 1) := by decide +kernel
theorem dX12_member_105 : decode cX12_member 105 = .ok (.invokevirtual 381, 3) := by decide +kernel
theorem dX12_member_108 : decode cX12_member 108 = .ok (.bipush 40, 2) := by decide +kernel
theorem dX12_member_110 : decode cX12_member 110 = .ok (.if_icmp .ne 29, 3) := by decide +kernel
theorem dX12_member_139 : decode cX12_member 139 = .ok (.iconst 1, 1) := by decide +kernel
theorem dX12_member_140 : decode cX12_member 140 = .ok (.istore 5, 2) := by decide +kernel
theorem dX12_member_142 : decode cX12_member 142 = .ok (.iconst 1, 1) := by decide +kernel
theorem dX12_member_143 : decode cX12_member 143 = .ok (.istore 6, 2) := by decide +kernel
theorem dX12_member_145 : decode cX12_member 145 = .ok (.iload 5, 2) := by decide +kernel
theorem dX12_member_147 : decode cX12_member 147 = .ok (.ifCond .eq 169, 3) := by decide +kernel
theorem dX12_member_316 : decode cX12_member 316 = .ok (.aload_n 0, 1) := by decide +kernel
theorem dX12_member_317 : decode cX12_member 317 = .ok (.bipush 59, 2) := by decide +kernel
theorem dX12_member_319 : decode cX12_member 319 = .ok (.invokevirtual 369, 3) := by decide +kernel
theorem dX12_member_322 : decode cX12_member 322 = .ok (.return_, 1) := by decide +kernel
theorem dX12_member_150 : decode cX12_member 150 = .ok (.aload_n 0, 1) := by decide +kernel
theorem dX12_member_151 : decode cX12_member 151 = .ok (.getfield 350, 3) := by decide +kernel
theorem dX12_member_154 : decode cX12_member 154 = .ok (.ifCond .ne 162, 3) := by decide +kernel
theorem dX12_member_157 : decode cX12_member 157 = .ok (.iload 6, 2) := by decide +kernel
theorem dX12_member_159 : decode cX12_member 159 = .ok (.ifCond .eq 21, 3) := by decide +kernel
theorem dX12_member_180 : decode cX12_member 180 = .ok (.iconst 1, 1) := by decide +kernel
theorem dX12_member_181 : decode cX12_member 181 = .ok (.goto 4, 3) := by decide +kernel
theorem dX12_member_185 : decode cX12_member 185 = .ok (.istore 7, 2) := by decide +kernel
theorem dX12_member_187 : decode cX12_member 187 = .ok (.iload 7, 2) := by decide +kernel
theorem dX12_member_189 : decode cX12_member 189 = .ok (.ifCond .ne 11, 3) := by decide +kernel
theorem dX12_member_200 : decode cX12_member 200 = .ok (.aload_n 0, 1) := by decide +kernel
theorem dX12_member_201 : decode cX12_member 201 = .ok (.getfield 390, 3) := by decide +kernel
theorem dX12_member_204 : decode cX12_member 204 = .ok (.bipush 20, 2) := by decide +kernel
theorem dX12_member_206 : decode cX12_member 206 = .ok (.if_icmp .ne 10, 3) := by decide +kernel
theorem dX12_member_216 : decode cX12_member 216 = .ok (.aload_n 0, 1) := by decide +kernel
theorem dX12_member_217 : decode cX12_member 217 = .ok (.getfield 350, 3) := by decide +kernel
theorem dX12_member_220 : decode cX12_member 220 = .ok (.ifCond .le 4, 3) := by decide +kernel
theorem dX12_member_224 : decode cX12_member 224 = .ok (.aload_n 0, 1) := by decide +kernel
theorem dX12_member_225 : decode cX12_member 225 = .ok (.getfield 108, 3) := by decide +kernel
theorem dX12_member_228 : decode cX12_member 228 = .ok (.aload_n 0, 1) := by decide +kernel
theorem dX12_member_229 : decode cX12_member 229 = .ok (.getfield 413, 3) := by decide +kernel
theorem dX12_member_232 : decode cX12_member 232 = .ok (.iload_n 1, 1) := by decide +kernel
theorem dX12_member_233 : decode cX12_member 233 = .ok (.iastore, 1) := by decide +kernel
theorem dX12_member_234 : decode cX12_member 234 = .ok (.aload_n 0, 1) := by decide +kernel
theorem dX12_member_235 : decode cX12_member 235 = .ok (.getfield 111, 3) := by decide +kernel
theorem dX12_member_238 : decode cX12_member 238 = .ok (.aload_n 0, 1) := by decide +kernel
theorem dX12_member_239 : decode cX12_member 239 = .ok (.getfield 413, 3) := by decide +kernel
theorem dX12_member_242 : decode cX12_member 242 = .ok (.aload_n 0, 1) := by decide +kernel
theorem dX12_member_243 : decode cX12_member 243 = .ok (.getfield 25, 3) := by decide +kernel
theorem dX12_member_246 : decode cX12_member 246 = .ok (.iload 4, 2) := by decide +kernel
theorem dX12_member_248 : decode cX12_member 248 = .ok (.iaload, 1) := by decide +kernel
theorem dX12_member_249 : decode cX12_member 249 = .ok (.iastore, 1) := by decide +kernel
theorem dX12_member_250 : decode cX12_member 250 = .ok (.aload_n 0, 1) := by decide +kernel
theorem dX12_member_251 : decode cX12_member 251 = .ok (.getfield 114, 3) := by decide +kernel
theorem dX12_member_254 : decode cX12_member 254 = .ok (.aload_n 0, 1) := by decide +kernel
theorem dX12_member_255 : decode cX12_member 255 = .ok (.getfield 413, 3) := by decide +kernel
theorem dX12_member_258 : decode cX12_member 258 = .ok (.iload 4, 2) := by decide +kernel
theorem dX12_member_260 : decode cX12_member 260 = .ok (.iastore, 1) := by decide +kernel
theorem dX12_member_261 : decode cX12_member 261 = .ok (.aload_n 0, 1) := by decide +kernel
theorem dX12_member_262 : decode cX12_member 262 = .ok (.getfield 117, 3) := by decide +kernel
theorem dX12_member_265 : decode cX12_member 265 = .ok (.aload_n 0, 1) := by decide +kernel
theorem dX12_member_266 : decode cX12_member 266 = .ok (.getfield 413, 3) := by decide +kernel
theorem dX12_member_269 : decode cX12_member 269 = .ok (.iload_n 3, 1) := by decide +kernel
theorem dX12_member_270 : decode cX12_member 270 = .ok (.iastore, 1) := by decide +kernel
theorem dX12_member_271 : decode cX12_member 271 = .ok (.aload_n 0, 1) := by decide +kernel
theorem dX12_member_272 : decode cX12_member 272 = .ok (.dup, 1) := by decide +kernel
theorem dX12_member_273 : decode cX12_member 273 = .ok (.getfield 413, 3) := by decide +kernel
theorem dX12_member_276 : decode cX12_member 276 = .ok (.iconst 1, 1) := by decide +kernel
theorem dX12_member_277 : decode cX12_member 277 = .ok (.iadd, 1) := by decide +kernel
theorem dX12_member_278 : decode cX12_member 278 = .ok (.putfield 413, 3) := by decide +kernel
theorem dX12_member_281 : decode cX12_member 281 = .ok (.aload_n 0, 1) := by decide +kernel
theorem dX12_member_282 : decode cX12_member 282 = .ok (.dup, 1) := by decide +kernel
theorem dX12_member_283 : decode cX12_member 283 = .ok (.getfield 390, 3) := by decide +kernel
theorem dX12_member_286 : decode cX12_member 286 = .ok (.iconst 1, 1) := by decide +kernel
theorem dX12_member_287 : decode cX12_member 287 = .ok (.iadd, 1) := by decide +kernel
theorem dX12_member_288 : decode cX12_member 288 = .ok (.putfield 390, 3) := by decide +kernel
theorem dX12_member_291 : decode cX12_member 291 = .ok (.iconst 0, 1) := by decide +kernel
theorem dX12_member_292 : decode cX12_member 292 = .ok (.istore 6, 2) := by decide +kernel
theorem dX12_member_294 : decode cX12_member 294 = .ok (.aload_n 0, 1) := by decide +kernel
theorem dX12_member_295 : decode cX12_member 295 = .ok (.bipush 44, 2) := by decide +kernel
theorem dX12_member_297 : decode cX12_member 297 = .ok (.invokevirtual 378, 3) := by decide +kernel
theorem dX12_member_300 : decode cX12_member 300 = .ok (.istore 5, 2) := by decide +kernel
theorem dX12_member_302 : decode cX12_member 302 = .ok (.iload 5, 2) := by decide +kernel
theorem dX12_member_304 : decode cX12_member 304 = .ok (.ifCond .eq 9, 3) := by decide +kernel
theorem dX12_member_313 : decode cX12_member 313 = .ok (.goto (-168), 3) := by decide +kernel
theorem dX12_member_307 : decode cX12_member 307 = .ok (.aload_n 0, 1) := by decide +kernel
theorem dX12_member_308 : decode cX12_member 308 = .ok (.invokevirtual 375, 3) := by decide +kernel
theorem dX12_member_311 : decode cX12_member 311 = .ok (.istore 4, 2) := by decide +kernel
theorem dX12_member_209 : decode cX12_member 209 = .ok (.aload_n 0, 1) := by decide +kernel
theorem dX12_member_210 : decode cX12_member 210 = .ok (.iconst 2, 1) := by decide +kernel
theorem dX12_member_211 : decode cX12_member 211 = .ok (.iload 4, 2) := by decide +kernel
theorem dX12_member_213 : decode cX12_member 213 = .ok (.invokevirtual 346, 3) := by decide +kernel
theorem dX12_member_223 : decode cX12_member 223 = .ok (.return_, 1) := by decide +kernel
theorem dX12_member_162 : decode cX12_member 162 = .ok (.aload_n 0, 1) := by decide +kernel
theorem dX12_member_163 : decode cX12_member 163 = .ok (.invokevirtual 381, 3) := by decide +kernel
theorem dX12_member_166 : decode cX12_member 166 = .ok (.bipush 44, 2) := by decide +kernel
theorem dX12_member_168 : decode cX12_member 168 = .ok (.if_icmp .eq 12, 3) := by decide +kernel
theorem dX12_member_171 : decode cX12_member 171 = .ok (.aload_n 0, 1) := by decide +kernel
theorem dX12_member_172 : decode cX12_member 172 = .ok (.invokevirtual 381, 3) := by decide +kernel
theorem dX12_member_175 : decode cX12_member 175 = .ok (.bipush 59, 2) := by decide +kernel
theorem dX12_member_177 : decode cX12_member 177 = .ok (.if_icmp .ne 7, 3) := by decide +kernel
theorem dX12_member_184 : decode cX12_member 184 = .ok (.iconst 0, 1) := by decide +kernel
theorem dX12_member_192 : decode cX12_member 192 = .ok (.aload_n 0, 1) := by decide +kernel
theorem dX12_member_193 : decode cX12_member 193 = .ok (.iconst 1, 1) := by decide +kernel
theorem dX12_member_194 : decode cX12_member 194 = .ok (.invokevirtual 356, 3) := by decide +kernel
theorem dX12_member_197 : decode cX12_member 197 = .ok (.goto 19, 3) := by decide +kernel
theorem dX12_member_113 : decode cX12_member 113 = .ok (.aload_n 0, 1) := by decide +kernel
theorem dX12_member_114 : decode cX12_member 114 = .ok (.getfield 393, 3) := by decide +kernel
theorem dX12_member_117 : decode cX12_member 117 = .ok (.bipush 30, 2) := by decide +kernel
theorem dX12_member_119 : decode cX12_member 119 = .ok (.if_icmp .ne 11, 3) := by decide +kernel
theorem dX12_member_130 : decode cX12_member 130 = .ok (.aload_n 0, 1) := by decide +kernel
theorem dX12_member_131 : decode cX12_member 131 = .ok (.iload_n 1, 1) := by decide +kernel
theorem dX12_member_132 : decode cX12_member 132 = .ok (.iload_n 3, 1) := by decide +kernel
theorem dX12_member_133 : decode cX12_member 133 = .ok (.iload 4, 2) := by decide +kernel
theorem dX12_member_135 : decode cX12_member 135 = .ok (.invokevirtual 409, 3) := by decide +kernel
theorem dX12_member_138 : decode cX12_member 138 = .ok (.return_, 1) := by decide +kernel
theorem dX12_member_122 : decode cX12_member 122 = .ok (.aload_n 0, 1) := by decide +kernel
theorem dX12_member_123 : decode cX12_member 123 = .ok (.iconst 2, 1) := by decide +kernel
theorem dX12_member_124 : decode cX12_member 124 = .ok (.iload 4, 2) := by decide +kernel
theorem dX12_member_126 : decode cX12_member 126 = .ok (.invokevirtual 346, 3) := by decide +kernel
theorem dX12_member_129 : decode cX12_member 129 = .ok (.return_, 1) := by decide +kernel
theorem dX12_member_66 : decode cX12_member 66 = .ok (.return_, 1) := by decide +kernel
theorem dX12_member_47 : decode cX12_member 47 = .ok (.return_, 1) := by decide +kernel
theorem dX12_member_10 : decode cX12_member 10 = .ok (.iconst 1, 1) := by decide +kernel
theorem dX12_member_11 : decode cX12_member 11 = .ok (.goto 4, 3) := by decide +kernel
theorem dX12_member_22 : decode cX12_member 22 = .ok (.aload_n 0, 1) := by decide +kernel
theorem dX12_member_23 : decode cX12_member 23 = .ok (.dup, 1) := by decide +kernel
theorem dX12_member_24 : decode cX12_member 24 = .ok (.getfield 343, 3) := by decide +kernel
theorem dX12_member_27 : decode cX12_member 27 = .ok (.iconst 1, 1) := by decide +kernel
theorem dX12_member_28 : decode cX12_member 28 = .ok (.iadd, 1) := by decide +kernel
theorem dX12_member_29 : decode cX12_member 29 = .ok (.putfield 343, 3) := by decide +kernel
theorem dX12_member_32 : decode cX12_member 32 = .ok (.goto 8, 3) := by decide +kernel
theorem dX12_member_71 : decode cX12_member 71 = .ok (.aload_n 0, 1) := by decide +kernel
theorem dX12_member_72 : decode cX12_member 72 = .ok (.getfield 90, 3) := by decide +kernel
theorem dX12_member_75 : decode cX12_member 75 = .ok (.iload_n 1, 1) := by decide +kernel
theorem dX12_member_76 : decode cX12_member 76 = .ok (.baload, 1) := by decide +kernel
theorem dX12_member_77 : decode cX12_member 77 = .ok (.ifCond .ne 18, 3) := by decide +kernel
theorem dX12_member_80 : decode cX12_member 80 = .ok (.aload_n 0, 1) := by decide +kernel
theorem dX12_member_81 : decode cX12_member 81 = .ok (.invokevirtual 381, 3) := by decide +kernel
theorem dX12_member_84 : decode cX12_member 84 = .ok (.bipush 40, 2) := by decide +kernel
theorem dX12_member_86 : decode cX12_member 86 = .ok (.if_icmp .eq 9, 3) := by decide +kernel
theorem dX12_member_89 : decode cX12_member 89 = .ok (.aload_n 0, 1) := by decide +kernel
theorem dX12_member_90 : decode cX12_member 90 = .ok (.iconst 1, 1) := by decide +kernel
theorem dX12_member_91 : decode cX12_member 91 = .ok (.invokevirtual 356, 3) := by decide +kernel
theorem dX12_member_94 : decode cX12_member 94 = .ok (.return_, 1) := by decide +kernel
theorem hV_X12_method : yX12_method.cls = RX12 ∧ yX12_method.cls ≠ "java/lang/invoke/MethodHandle" ∧ yX12_method.cls ≠ "java/lang/invoke/VarHandle" ∧ (parseMethodDescriptor yX12_method.desc).map (fun d => d.parameters.length) = some 3 := by decide +kernel
set_option maxHeartbeats 2000000 in
set_option maxRecDepth 100000 in
/-- member(d), no fault ahead -/
theorem RM_member (l : Launch) (G : pT) (h0 : Nat) (a : Nat → Nat) (F : Nat → Int32) (B : Nat → Nat → Int32) (at0 : Nat) (T : Nat) (nm : Nat) (nd : Nat) (wr : Nat) (lz : Nat) (dc : Nat) (fd : Nat) (md : Nat) (pr : Nat) (bk : Nat) (mf : Nat) (mm : Nat) (lk : Nat) (ne0 : Int32) (K : Nat → Int32) (d : Nat) (hat : at0 ≤ T) (hT : T ≤ 5000) (hK : K T = 0 ∨ K T = 3) (hV : NamOK K (B 5) T nm) (hnd : nd ≤ 2 * at0) (hwr : wr ≤ at0) (hls : lz ≤ at0) (hpr : pr ≤ at0) (hlk : lk ≤ 60) (hdc : 7 ≤ dc ∧ dc ≤ 37) (hbk : bk ≤ md) (hmd : md + 240 ≤ 30 * dc + mm) (hfd : fd + 160 ≤ 20 * dc + mf) (hmf : mf ≤ 20) (hmm : mm ≤ 30) (hd : d + 1 = dc ∧ 7 ≤ d) (hps : PS T nm wr lz dc fd md pr bk B) (hfm : FrM K T wr B nd md) (hy : tkRow (B 19) wr T) (hlr : lsRow (B 22) (B 23) lz T) : PM l G pX0 yX12_member cX12_member 8 none ({ frames := 642, cells := 0, slots := 0, locals := 50100 }) [.ref h0, .int (nI d)] (mW G h0 a (upd (upd (upd (upd (upd (upd (upd (upd (upd (upd (upd (upd (upd (upd F 15 0) 27 (nI nd)) 31 (nI wr)) 34 (nI lz)) 35 (nI dc)) 44 (nI fd)) 49 (nI md)) 59 (nI bk)) 60 (nI pr)) 64 (nI at0)) 65 ne0) 66 (nI lk)) 67 (nI mf)) 68 (nI mm)) (updA B 2 K)) (fun (v : Option Value) (u : Nat × Nat × Int32 × Nat × Nat × Nat × Nat × Nat × Nat × Nat × Nat × Nat × Nat × Int32 × (Nat → Nat → Int32)) => v = none ∧ (at0 ≤ u.1) ∧ (u.1 ≤ T) ∧ (u.2.1 ≤ 100) ∧ (at0 + 1 ≤ u.1 + u.2.1) ∧ (Kq 0 B u.2.2.2.2.2.2.2.2.2.2.2.2.2.2) ∧ (If (u.2.1 = 0) ((u.2.2.2.1 ≤ 2 * u.1 ∧ u.2.2.2.2.1 ≤ u.1 ∧ u.2.2.2.2.2.1 ≤ u.1 ∧ u.2.2.2.2.2.2.2.2.2.1 ≤ u.1 ∧ u.2.2.2.2.2.2.1 ≤ 37 ∧ dc ≤ u.2.2.2.2.2.2.1 ∧ u.2.2.2.2.2.2.2.2.2.2.1 ≤ u.2.2.2.2.2.2.2.2.1 ∧ wr ≤ u.2.2.2.2.1 ∧ lz ≤ u.2.2.2.2.2.1) ∧ (u.2.2.2.2.2.2.2.2.1 + 240 ≤ 30 * u.2.2.2.2.2.2.1 + u.2.2.2.2.2.2.2.2.2.2.2.2.1 ∧ u.2.2.2.2.2.2.2.1 + 160 ≤ 20 * u.2.2.2.2.2.2.1 + u.2.2.2.2.2.2.2.2.2.2.2.1 ∧ u.2.2.2.2.2.2.2.2.2.2.2.1 ≤ 20 ∧ u.2.2.2.2.2.2.2.2.2.2.2.2.1 ≤ 30 ∧ u.2.2.2.2.2.2.1 = dc) ∧ PS T nm u.2.2.2.2.1 u.2.2.2.2.2.1 u.2.2.2.2.2.2.1 u.2.2.2.2.2.2.2.1 u.2.2.2.2.2.2.2.2.1 u.2.2.2.2.2.2.2.2.2.1 u.2.2.2.2.2.2.2.2.2.2.1 u.2.2.2.2.2.2.2.2.2.2.2.2.2.2 ∧ FrM K T u.2.2.2.2.1 u.2.2.2.2.2.2.2.2.2.2.2.2.2.2 u.2.2.2.1 u.2.2.2.2.2.2.2.2.1 ∧ tkRow (u.2.2.2.2.2.2.2.2.2.2.2.2.2.2 19) u.2.2.2.2.1 T ∧ lsRow (u.2.2.2.2.2.2.2.2.2.2.2.2.2.2 22) (u.2.2.2.2.2.2.2.2.2.2.2.2.2.2 23) u.2.2.2.2.2.1 T))) (fun u => (mW G h0 a (upd (upd (upd (upd (upd (upd (upd (upd (upd (upd (upd (upd (upd (upd (upd F 15 (nI u.2.1)) 16 u.2.2.1) 27 (nI u.2.2.2.1)) 31 (nI u.2.2.2.2.1)) 34 (nI u.2.2.2.2.2.1)) 35 (nI u.2.2.2.2.2.2.1)) 44 (nI u.2.2.2.2.2.2.2.1)) 49 (nI u.2.2.2.2.2.2.2.2.1)) 59 (nI u.2.2.2.2.2.2.2.2.2.2.1)) 60 (nI u.2.2.2.2.2.2.2.2.2.1)) 64 (nI u.1)) 65 u.2.2.2.2.2.2.2.2.2.2.2.2.2.1) 66 (nI lk)) 67 (nI u.2.2.2.2.2.2.2.2.2.2.2.1)) 68 (nI u.2.2.2.2.2.2.2.2.2.2.2.2.1)) (updA u.2.2.2.2.2.2.2.2.2.2.2.2.2.2 2 K))) := by
  intro sz
  refine Met.ofW (cc := cX12_member) (maxL := 8) (ret := none) (by decide) rfl ?_
  intro p e s m args below meth c s₁ B9 hml hv
  obtain ⟨rfl, hsz, hP, hD0, hE, hX⟩ := hv
  have hx := B9.exec
  have hb := B9.bytes
  have hr := B9.returns
  have hts := atoms_spec (ws := Cond.code yX12_member cX12_member 8 none :: pw) B9.pre
  have hq : ∀ w ∈ pw, w.before _ s = true := fun w h => hts w (List.mem_cons_of_mem _ h)
  have hown : s.vm.findClass RX12 = some m.cls := findClass_of_methodNamed B9.named
  have hlocks := B9.notSynchronized
  subst hsz
  have hD := hD0.self (sz := s.heap.size)
  have hA : ∀ q : Nat, s.heap.size ≤ q → va_A (mW G h0 a (upd (upd (upd (upd (upd (upd (upd (upd (upd (upd (upd (upd (upd (upd F 15 0) 27 (nI nd)) 31 (nI wr)) 34 (nI lz)) 35 (nI dc)) 44 (nI fd)) 49 (nI md)) 59 (nI bk)) 60 (nI pr)) 64 (nI at0)) 65 ne0) 66 (nI lk)) 67 (nI mf)) 68 (nI mm)) (updA B 2 K)) s.heap.size q := fun q h => Or.inr h
  have hP : va_P G.1 pCl (mW G h0 a (upd (upd (upd (upd (upd (upd (upd (upd (upd (upd (upd (upd (upd (upd F 15 0) 27 (nI nd)) 31 (nI wr)) 34 (nI lz)) 35 (nI dc)) 44 (nI fd)) 49 (nI md)) 59 (nI bk)) 60 (nI pr)) 64 (nI at0)) 65 ne0) 66 (nI lk)) 67 (nI mf)) 68 (nI mm)) (updA B 2 K)) s.heap := hP
  generalize va_A (mW G h0 a (upd (upd (upd (upd (upd (upd (upd (upd (upd (upd (upd (upd (upd (upd F 15 0) 27 (nI nd)) 31 (nI wr)) 34 (nI lz)) 35 (nI dc)) 44 (nI fd)) 49 (nI md)) 59 (nI bk)) 60 (nI pr)) 64 (nI at0)) 65 ne0) 66 (nI lk)) 67 (nI mf)) 68 (nI mm)) (updA B 2 K)) s.heap.size = A at hD hE hA ⊢
  have hS : va_S A s.heap s.heap [] := va_S.rf
  have hl := lv_entry ([.ref h0, .int (nI d)]) (n := 8) (Nat.le_of_ble_eq_true rfl)
  rw [lg_entry_eq]
  generalize (lg_sl ([.ref h0, .int (nI d)]) ++ List.replicate (8 - (lg_sl ([.ref h0, .int (nI d)])).length) Slot.unset).toArray = ls at hl ⊢
  have hl : lv_has ls 8 [(0, .ref h0), (1, .int (nI d))] := hl
  have hkq1 : Kq 0 B B := Kq.rfl
  refine lv_aload_n hx hb dX12_member_0 rfl (lv_at hl 0 rfl) ?_
  have hP : va_P G.1 pCl (mW G h0 a (upd (upd (upd (upd (upd (upd (upd (upd (upd (upd (upd (upd (upd (upd (upd (upd F 15 0) 27 (nI nd)) 31 (nI wr)) 34 (nI lz)) 35 (nI dc)) 44 (nI fd)) 49 (nI md)) 59 (nI bk)) 60 (nI pr)) 64 (nI at0)) 65 ne0) 66 (nI lk)) 67 (nI mf)) 68 (nI mm)) 15 (nI 0)) 64 (nI at0)) (updA (updA B 2 K) 2 K)) _ := hP
  have hD : va_D A (mW G h0 a (upd (upd (upd (upd (upd (upd (upd (upd (upd (upd (upd (upd (upd (upd (upd (upd F 15 0) 27 (nI nd)) 31 (nI wr)) 34 (nI lz)) 35 (nI dc)) 44 (nI fd)) 49 (nI md)) 59 (nI bk)) 60 (nI pr)) 64 (nI at0)) 65 ne0) 66 (nI lk)) 67 (nI mf)) 68 (nI mm)) 15 (nI 0)) 64 (nI at0)) (updA (updA B 2 K) 2 K)) := hD
  refine pc_V0 (G := G) (As := []) (rest := []) hx hb hml hown hq hE hX pX0_al hP hD hS hA hl.1 (R_kind l G h0 a (upd (upd (upd (upd (upd (upd (upd (upd (upd (upd (upd (upd (upd (upd F 15 0) 27 (nI nd)) 31 (nI wr)) 34 (nI lz)) 35 (nI dc)) 44 (nI fd)) 49 (nI md)) 59 (nI bk)) 60 (nI pr)) 64 (nI at0)) 65 ne0) 66 (nI lk)) 67 (nI mf)) 68 (nI mm)) (updA B 2 K) at0 T 0 K (by omega) (by omega) hK (by omega)) (gV pw_1626 pw_1627 pw_1628 pw_1523 pw_1591) hV_X12_kind 0 9 rfl rfl rfl rfl (Nat.le_of_ble_eq_true rfl) dX12_member_1 ⟨Nat.le_of_ble_eq_true rfl, Nat.le_of_ble_eq_true rfl⟩ ⟨Nat.le_of_ble_eq_true rfl, Nat.le_of_ble_eq_true rfl⟩ (fun v4 u2 H locs hw3 hP hD hS => ?_)
  obtain rfl : v4 = some (.int (K at0)) := hw3
  have hP : va_P G.1 pCl (mW G h0 a (upd (upd (upd (upd (upd (upd (upd (upd (upd (upd (upd (upd (upd (upd F 15 0) 27 (nI nd)) 31 (nI wr)) 34 (nI lz)) 35 (nI dc)) 44 (nI fd)) 49 (nI md)) 59 (nI bk)) 60 (nI pr)) 64 (nI at0)) 65 ne0) 66 (nI lk)) 67 (nI mf)) 68 (nI mm)) (updA B 2 K)) _ := hP
  have hD : va_D A (mW G h0 a (upd (upd (upd (upd (upd (upd (upd (upd (upd (upd (upd (upd (upd (upd F 15 0) 27 (nI nd)) 31 (nI wr)) 34 (nI lz)) 35 (nI dc)) 44 (nI fd)) 49 (nI md)) 59 (nI bk)) 60 (nI pr)) 64 (nI at0)) 65 ne0) 66 (nI lk)) 67 (nI mf)) 68 (nI mm)) (updA B 2 K)) := hD
  refine W.widen (k := 0) (n := 0) (Nat.le_of_ble_eq_true rfl) (Nat.le_of_ble_eq_true rfl) ?_
  refine W.eq (g2 := F0 m 4 ls [.int (K at0)]) rfl ?_
  refine lv_sipush (v := 337) hx hb dX12_member_4 (by decide) ?_
  refine lv_icmp_ne (tgt := 14) hx hb dX12_member_7 (by decide) (fun c5 => ?_) (fun c5 => ?_)
  · refine lv_iconst (v := 0) hx hb dX12_member_14 (by decide) ?_
    refine lv_istore_n (lv' := [(2, .int 0), (0, .ref h0), (1, .int (nI d))]) hx hb dX12_member_15 rfl hl (by decide) rfl (fun ls hl => ?_)
    refine lv_iconst (v := (-1)) hx hb dX12_member_16 (by decide) ?_
    refine lv_istore_n (lv' := [(3, .int (-1)), (2, .int 0), (0, .ref h0), (1, .int (nI d))]) hx hb dX12_member_17 rfl hl (by decide) rfl (fun ls hl => ?_)
    refine lv_iload_n hx hb dX12_member_18 rfl (lv_at hl 1 rfl) ?_
    refine lv_if_eq (tgt := 35) hx hb dX12_member_19 (by decide) (fun c6 => ?_) (fun c6 => absurd c6 (by decide))
    refine lv_aload_n hx hb dX12_member_35 rfl (lv_at hl 2 rfl) ?_
    have hP : va_P G.1 pCl (mW G h0 a (upd (upd (upd (upd (upd (upd (upd (upd (upd (upd (upd (upd (upd (upd (upd (upd (upd F 15 0) 27 (nI nd)) 31 (nI wr)) 34 (nI lz)) 35 (nI dc)) 44 (nI fd)) 49 (nI md)) 59 (nI bk)) 60 (nI pr)) 64 (nI at0)) 65 ne0) 66 (nI lk)) 67 (nI mf)) 68 (nI mm)) 15 (nI 0)) 31 (nI wr)) 64 (nI at0)) (updA (updA (updA B 2 K) 2 K) 19 (B 19))) _ := hP
    have hD : va_D A (mW G h0 a (upd (upd (upd (upd (upd (upd (upd (upd (upd (upd (upd (upd (upd (upd (upd (upd (upd F 15 0) 27 (nI nd)) 31 (nI wr)) 34 (nI lz)) 35 (nI dc)) 44 (nI fd)) 49 (nI md)) 59 (nI bk)) 60 (nI pr)) 64 (nI at0)) 65 ne0) 66 (nI lk)) 67 (nI mf)) 68 (nI mm)) 15 (nI 0)) 31 (nI wr)) 64 (nI at0)) (updA (updA (updA B 2 K) 2 K) 19 (B 19))) := hD
    refine pc_V0 (G := G) (As := []) (rest := []) hx hb hml hown hq hE hX pX0_al hP hD hS hA hl.1 (R_typeHereN l G h0 a (upd (upd (upd (upd (upd (upd (upd (upd (upd (upd (upd (upd (upd (upd F 15 0) 27 (nI nd)) 31 (nI wr)) 34 (nI lz)) 35 (nI dc)) 44 (nI fd)) 49 (nI md)) 59 (nI bk)) 60 (nI pr)) 64 (nI at0)) 65 ne0) 66 (nI lk)) 67 (nI mf)) 68 (nI mm)) (updA B 2 K) at0 T 0 K wr (B 19) (by omega) (by omega) hK (by omega) (by omega) hy) (gV pw_1670 pw_1671 pw_1672 pw_1523 pw_1633) hV_X12_typeHere 0 9 rfl rfl rfl rfl (Nat.le_of_ble_eq_true rfl) dX12_member_36 ⟨Nat.le_of_ble_eq_true rfl, Nat.le_of_ble_eq_true rfl⟩ ⟨Nat.le_of_ble_eq_true rfl, Nat.le_of_ble_eq_true rfl⟩ (fun v9 u7 H locs hw8 hP hD hS => ?_)
    obtain ⟨at10, fa11, pl12, wr13, r14, yt15, yr16⟩ := u7
    obtain ⟨hw8, h17, h18, h19, h20, h21, h22, h23, h24, h25, h26, h27, h28, h29, h30, h31⟩ := hw8
    replace h17 : at0 ≤ at10 := h17
    replace h18 : at10 ≤ T := h18
    replace h19 : 0 ≤ fa11 := h19
    replace h20 : fa11 ≤ 100 := h20
    replace h21 : If (0 < 0) (at10 = at0 ∧ fa11 = 0) := h21
    replace h22 : wr ≤ wr13 := h22
    replace h23 : wr13 + at0 ≤ wr + at10 := h23
    replace h24 : If (0 < 0) (wr13 = wr) := h24
    replace h25 : r14 + 1 ≤ wr13 + 6000 * fa11 := h25
    replace h26 : at0 + 1 ≤ at10 + fa11 := h26
    replace h27 : tkRow yt15 wr13 T := h27
    replace h28 : ∀ i : Nat, i < wr → yt15 i = (B 19) i := h28
    replace h29 : ∀ i : Nat, i < wr → yr16 i = (B 20) i := h29
    replace h30 : r14 ≤ wr := h30
    replace h31 : If (fa11 = 0) (srt (K at0) = true) := h31
    obtain rfl : v9 = some (.int (nI r14)) := hw8
    have hP : va_P G.1 pCl (mW G h0 a (upd (upd (upd (upd (upd (upd (upd (upd (upd (upd (upd (upd (upd (upd (upd F 15 (nI fa11)) 16 pl12) 27 (nI nd)) 31 (nI wr13)) 34 (nI lz)) 35 (nI dc)) 44 (nI fd)) 49 (nI md)) 59 (nI bk)) 60 (nI pr)) 64 (nI at10)) 65 ne0) 66 (nI lk)) 67 (nI mf)) 68 (nI mm)) (updA (updA (updA B 2 K) 19 yt15) 20 yr16)) _ := hP
    have hD : va_D A (mW G h0 a (upd (upd (upd (upd (upd (upd (upd (upd (upd (upd (upd (upd (upd (upd (upd F 15 (nI fa11)) 16 pl12) 27 (nI nd)) 31 (nI wr13)) 34 (nI lz)) 35 (nI dc)) 44 (nI fd)) 49 (nI md)) 59 (nI bk)) 60 (nI pr)) 64 (nI at10)) 65 ne0) 66 (nI lk)) 67 (nI mf)) 68 (nI mm)) (updA (updA (updA B 2 K) 19 yt15) 20 yr16)) := hD
    refine W.widen (k := 0) (n := 0) (Nat.le_of_ble_eq_true rfl) (Nat.le_of_ble_eq_true rfl) ?_
    refine W.eq (g2 := F0 m 39 ls [.int (nI r14)]) rfl ?_
    have hP : va_P G.1 pCl (mW G h0 a (upd (upd (upd (upd (upd (upd (upd (upd (upd (upd (upd (upd (upd (upd (upd F 15 (nI fa11)) 16 pl12) 27 (nI nd)) 31 (nI wr13)) 34 (nI lz)) 35 (nI dc)) 44 (nI fd)) 49 (nI md)) 59 (nI bk)) 60 (nI pr)) 64 (nI at10)) 65 ne0) 66 (nI lk)) 67 (nI mf)) 68 (nI mm)) (updA (updA (updA B 19 yt15) 20 yr16) 2 K)) _ := hP
    have hD : va_D A (mW G h0 a (upd (upd (upd (upd (upd (upd (upd (upd (upd (upd (upd (upd (upd (upd (upd F 15 (nI fa11)) 16 pl12) 27 (nI nd)) 31 (nI wr13)) 34 (nI lz)) 35 (nI dc)) 44 (nI fd)) 49 (nI md)) 59 (nI bk)) 60 (nI pr)) 64 (nI at10)) 65 ne0) 66 (nI lk)) 67 (nI mf)) 68 (nI mm)) (updA (updA (updA B 19 yt15) 20 yr16) 2 K)) := hD
    rcases Nat.eq_zero_or_pos fa11 with e32 | e32
    · subst e32
      have hP : va_P G.1 pCl (mW G h0 a (upd (upd (upd (upd (upd (upd (upd (upd (upd (upd (upd (upd (upd (upd (upd F 15 0) 16 pl12) 27 (nI nd)) 31 (nI wr13)) 34 (nI lz)) 35 (nI dc)) 44 (nI fd)) 49 (nI md)) 59 (nI bk)) 60 (nI pr)) 64 (nI at10)) 65 ne0) 66 (nI lk)) 67 (nI mf)) 68 (nI mm)) (updA (updA (updA B 19 yt15) 20 yr16) 2 K)) _ := hP
      have hD : va_D A (mW G h0 a (upd (upd (upd (upd (upd (upd (upd (upd (upd (upd (upd (upd (upd (upd (upd F 15 0) 16 pl12) 27 (nI nd)) 31 (nI wr13)) 34 (nI lz)) 35 (nI dc)) 44 (nI fd)) 49 (nI md)) 59 (nI bk)) 60 (nI pr)) 64 (nI at10)) 65 ne0) 66 (nI lk)) 67 (nI mf)) 68 (nI mm)) (updA (updA (updA B 19 yt15) 20 yr16) 2 K)) := hD
      have hkq33 : Kq 0 B (updA (updA B 19 yt15) 20 yr16) := (Kq.row (Kq.row hkq1 (by omega)) (by omega))
      have hty34 : tkRow ((updA (updA B 19 yt15) 20 yr16) 19) wr13 T := h27
      have hps35 : PS T nm wr13 lz dc fd md pr bk (updA (updA B 19 yt15) 20 yr16) := (PS.same hps (by omega) (by omega) (fun r i q1 q2 q3 => by unfold updA; rw [if_neg (by omega), if_neg (by omega)]))
      have hfm36 : FrM K T wr13 (updA (updA B 19 yt15) 20 yr16) nd md := (FrM.same hfm (by omega) (fun j i q1 q2 q3 => by unfold updA; rw [if_neg (by omega), if_neg (by omega)]) (fun i q => rfl))
      have hlr37 : lsRow ((updA (updA B 19 yt15) 20 yr16) 22) ((updA (updA B 19 yt15) 20 yr16) 23) lz T := hlr
      refine lv_istore_n (lv' := [(3, .int (nI r14)), (2, .int 0), (0, .ref h0), (1, .int (nI d))]) hx hb dX12_member_39 rfl hl (by decide) rfl (fun ls hl => ?_)
      refine lv_aload_n hx hb dX12_member_40 rfl (lv_at hl 2 rfl) ?_
      refine r_get (v := .int 0) hx hb hown hq hE hP 15 350 tFX12_15 (by decide) pw_1594 rfl dX12_member_41 ?_
      refine lv_if_le (tgt := 48) hx hb dX12_member_44 (by decide) (fun c38 => ?_) (fun c38 => absurd c38 (by decide))
      refine lv_aload_n hx hb dX12_member_48 rfl (lv_at hl 2 rfl) ?_
      refine r_get (v := .int (nI at10)) hx hb hown hq hE hP 64 343 tFX12_64 (by decide) pw_1592 rfl dX12_member_49 ?_
      refine lv_istore (lv' := [(4, .int (nI at10)), (3, .int (nI r14)), (2, .int 0), (0, .ref h0), (1, .int (nI d))]) hx hb dX12_member_52 hl (by decide) rfl (fun ls hl => ?_)
      refine lv_aload_n hx hb dX12_member_54 rfl (lv_at hl 3 rfl) ?_
      refine lv_iconst (v := 1) hx hb dX12_member_55 (by decide) ?_
      have hP : va_P G.1 pCl (mW G h0 a (upd (upd (upd (upd (upd (upd (upd (upd (upd (upd (upd (upd (upd (upd (upd (upd (upd F 15 0) 16 pl12) 27 (nI nd)) 31 (nI wr13)) 34 (nI lz)) 35 (nI dc)) 44 (nI fd)) 49 (nI md)) 59 (nI bk)) 60 (nI pr)) 64 (nI at10)) 65 ne0) 66 (nI lk)) 67 (nI mf)) 68 (nI mm)) 15 (nI 0)) 64 (nI at10)) (updA (updA (updA (updA B 19 yt15) 20 yr16) 2 K) 2 K)) _ := hP
      have hD : va_D A (mW G h0 a (upd (upd (upd (upd (upd (upd (upd (upd (upd (upd (upd (upd (upd (upd (upd (upd (upd F 15 0) 16 pl12) 27 (nI nd)) 31 (nI wr13)) 34 (nI lz)) 35 (nI dc)) 44 (nI fd)) 49 (nI md)) 59 (nI bk)) 60 (nI pr)) 64 (nI at10)) 65 ne0) 66 (nI lk)) 67 (nI mf)) 68 (nI mm)) 15 (nI 0)) 64 (nI at10)) (updA (updA (updA (updA B 19 yt15) 20 yr16) 2 K) 2 K)) := hD
      refine pc_V0 (G := G) (As := [.int 1]) (rest := []) hx hb hml hown hq hE hX pX0_al hP hD hS hA hl.1 (R_take l G h0 a (upd (upd (upd (upd (upd (upd (upd (upd (upd (upd (upd (upd (upd (upd (upd F 15 0) 16 pl12) 27 (nI nd)) 31 (nI wr13)) 34 (nI lz)) 35 (nI dc)) 44 (nI fd)) 49 (nI md)) 59 (nI bk)) 60 (nI pr)) 64 (nI at10)) 65 ne0) 66 (nI lk)) 67 (nI mf)) 68 (nI mm)) (updA (updA (updA B 19 yt15) 20 yr16) 2 K) at10 T 0 K 1 (by omega) (by omega) hK (by omega) (by decide) (by decide)) (gV pw_1614 pw_1615 pw_1616 pw_1523 pw_1601) hV_X12_take 0 9 rfl rfl rfl rfl (Nat.le_of_ble_eq_true rfl) dX12_member_56 ⟨Nat.le_of_ble_eq_true rfl, Nat.le_of_ble_eq_true rfl⟩ ⟨Nat.le_of_ble_eq_true rfl, Nat.le_of_ble_eq_true rfl⟩ (fun v41 u39 H locs hw40 hP hD hS => ?_)
      obtain ⟨at42, fa43, pl44⟩ := u39
      obtain ⟨hw40, h45, h46, h47, h48, h49, h50, h51, h52⟩ := hw40
      replace h45 : at10 ≤ at42 := h45
      replace h46 : at42 ≤ T := h46
      replace h47 : 0 ≤ fa43 := h47
      replace h48 : fa43 ≤ 100 := h48
      replace h49 : If (0 < 0) (at42 = at10 ∧ fa43 = 0) := h49
      replace h50 : at42 ≤ at10 + 1 := h50
      replace h51 : at10 + 1 ≤ at42 + fa43 := h51
      replace h52 : If (fa43 = 0) (K at10 = 1) := h52
      obtain rfl : v41 = none := hw40
      have hP : va_P G.1 pCl (mW G h0 a (upd (upd (upd (upd (upd (upd (upd (upd (upd (upd (upd (upd (upd (upd (upd F 15 (nI fa43)) 16 pl44) 27 (nI nd)) 31 (nI wr13)) 34 (nI lz)) 35 (nI dc)) 44 (nI fd)) 49 (nI md)) 59 (nI bk)) 60 (nI pr)) 64 (nI at42)) 65 ne0) 66 (nI lk)) 67 (nI mf)) 68 (nI mm)) (updA (updA (updA B 19 yt15) 20 yr16) 2 K)) _ := hP
      have hD : va_D A (mW G h0 a (upd (upd (upd (upd (upd (upd (upd (upd (upd (upd (upd (upd (upd (upd (upd F 15 (nI fa43)) 16 pl44) 27 (nI nd)) 31 (nI wr13)) 34 (nI lz)) 35 (nI dc)) 44 (nI fd)) 49 (nI md)) 59 (nI bk)) 60 (nI pr)) 64 (nI at42)) 65 ne0) 66 (nI lk)) 67 (nI mf)) 68 (nI mm)) (updA (updA (updA B 19 yt15) 20 yr16) 2 K)) := hD
      refine W.widen (k := 0) (n := 0) (Nat.le_of_ble_eq_true rfl) (Nat.le_of_ble_eq_true rfl) ?_
      refine W.eq (g2 := F0 m 59 ls []) rfl ?_
      rcases Nat.eq_zero_or_pos fa43 with e53 | e53
      · subst e53
        have hP : va_P G.1 pCl (mW G h0 a (upd (upd (upd (upd (upd (upd (upd (upd (upd (upd (upd (upd (upd (upd (upd F 15 0) 16 pl44) 27 (nI nd)) 31 (nI wr13)) 34 (nI lz)) 35 (nI dc)) 44 (nI fd)) 49 (nI md)) 59 (nI bk)) 60 (nI pr)) 64 (nI at42)) 65 ne0) 66 (nI lk)) 67 (nI mf)) 68 (nI mm)) (updA (updA (updA B 19 yt15) 20 yr16) 2 K)) _ := hP
        have hD : va_D A (mW G h0 a (upd (upd (upd (upd (upd (upd (upd (upd (upd (upd (upd (upd (upd (upd (upd F 15 0) 16 pl44) 27 (nI nd)) 31 (nI wr13)) 34 (nI lz)) 35 (nI dc)) 44 (nI fd)) 49 (nI md)) 59 (nI bk)) 60 (nI pr)) 64 (nI at42)) 65 ne0) 66 (nI lk)) 67 (nI mf)) 68 (nI mm)) (updA (updA (updA B 19 yt15) 20 yr16) 2 K)) := hD
        refine lv_aload_n hx hb dX12_member_59 rfl (lv_at hl 3 rfl) ?_
        refine r_get (v := .int 0) hx hb hown hq hE hP 15 350 tFX12_15 (by decide) pw_1594 rfl dX12_member_60 ?_
        refine lv_if_le (tgt := 67) hx hb dX12_member_63 (by decide) (fun c54 => ?_) (fun c54 => absurd c54 (by decide))
        refine lv_iload_n hx hb dX12_member_67 rfl (lv_at hl 2 rfl) ?_
        refine lv_if_eq (tgt := 95) hx hb dX12_member_68 (by decide) (fun c55 => ?_) (fun c55 => absurd c55 (by decide))
        refine lv_aload_n hx hb dX12_member_95 rfl (lv_at hl 3 rfl) ?_
        refine r_get (v := .ref (a 26)) hx hb hown hq hE hP 38 90 tFX12_38 (by decide) pw_1457 rfl dX12_member_96 ?_
        refine lv_iload_n hx hb dX12_member_99 rfl (lv_at hl 4 rfl) ?_
        refine r_ldz (f := ((updA (updA B 19 yt15) 20 yr16) 26)) (j := d) hx hb hE hP 26 (ma_26 G a _) rfl (by omega) (by decide) dX12_member_100 ?_
        rcases (hps35.1 d (by omega)).2.2.1 with e58 | e58
        · have hce59 : (updA (updA B 19 yt15) 20 yr16) 26 d = 0 := e58
          refine lv_topi (fun x56 e57 => ?_)
          obtain rfl : x56 = 0 := e57.trans e58
          refine lv_if_ne (tgt := 113) hx hb dX12_member_101 (by decide) (fun c60 => absurd c60 (by decide)) (fun c60 => ?_)
          refine lv_aload_n hx hb dX12_member_104 rfl (lv_at hl 3 rfl) ?_
          have hP : va_P G.1 pCl (mW G h0 a (upd (upd (upd (upd (upd (upd (upd (upd (upd (upd (upd (upd (upd (upd (upd (upd (upd F 15 0) 16 pl44) 27 (nI nd)) 31 (nI wr13)) 34 (nI lz)) 35 (nI dc)) 44 (nI fd)) 49 (nI md)) 59 (nI bk)) 60 (nI pr)) 64 (nI at42)) 65 ne0) 66 (nI lk)) 67 (nI mf)) 68 (nI mm)) 15 (nI 0)) 64 (nI at42)) (updA (updA (updA (updA B 19 yt15) 20 yr16) 2 K) 2 K)) _ := hP
          have hD : va_D A (mW G h0 a (upd (upd (upd (upd (upd (upd (upd (upd (upd (upd (upd (upd (upd (upd (upd (upd (upd F 15 0) 16 pl44) 27 (nI nd)) 31 (nI wr13)) 34 (nI lz)) 35 (nI dc)) 44 (nI fd)) 49 (nI md)) 59 (nI bk)) 60 (nI pr)) 64 (nI at42)) 65 ne0) 66 (nI lk)) 67 (nI mf)) 68 (nI mm)) 15 (nI 0)) 64 (nI at42)) (updA (updA (updA (updA B 19 yt15) 20 yr16) 2 K) 2 K)) := hD
          refine pc_V0 (G := G) (As := []) (rest := []) hx hb hml hown hq hE hX pX0_al hP hD hS hA hl.1 (R_kind l G h0 a (upd (upd (upd (upd (upd (upd (upd (upd (upd (upd (upd (upd (upd (upd (upd F 15 0) 16 pl44) 27 (nI nd)) 31 (nI wr13)) 34 (nI lz)) 35 (nI dc)) 44 (nI fd)) 49 (nI md)) 59 (nI bk)) 60 (nI pr)) 64 (nI at42)) 65 ne0) 66 (nI lk)) 67 (nI mf)) 68 (nI mm)) (updA (updA (updA B 19 yt15) 20 yr16) 2 K) at42 T 0 K (by omega) (by omega) hK (by omega)) (gV pw_1626 pw_1627 pw_1628 pw_1523 pw_1591) hV_X12_kind 0 9 rfl rfl rfl rfl (Nat.le_of_ble_eq_true rfl) dX12_member_105 ⟨Nat.le_of_ble_eq_true rfl, Nat.le_of_ble_eq_true rfl⟩ ⟨Nat.le_of_ble_eq_true rfl, Nat.le_of_ble_eq_true rfl⟩ (fun v63 u61 H locs hw62 hP hD hS => ?_)
          obtain rfl : v63 = some (.int (K at42)) := hw62
          have hP : va_P G.1 pCl (mW G h0 a (upd (upd (upd (upd (upd (upd (upd (upd (upd (upd (upd (upd (upd (upd (upd F 15 0) 16 pl44) 27 (nI nd)) 31 (nI wr13)) 34 (nI lz)) 35 (nI dc)) 44 (nI fd)) 49 (nI md)) 59 (nI bk)) 60 (nI pr)) 64 (nI at42)) 65 ne0) 66 (nI lk)) 67 (nI mf)) 68 (nI mm)) (updA (updA (updA B 19 yt15) 20 yr16) 2 K)) _ := hP
          have hD : va_D A (mW G h0 a (upd (upd (upd (upd (upd (upd (upd (upd (upd (upd (upd (upd (upd (upd (upd F 15 0) 16 pl44) 27 (nI nd)) 31 (nI wr13)) 34 (nI lz)) 35 (nI dc)) 44 (nI fd)) 49 (nI md)) 59 (nI bk)) 60 (nI pr)) 64 (nI at42)) 65 ne0) 66 (nI lk)) 67 (nI mf)) 68 (nI mm)) (updA (updA (updA B 19 yt15) 20 yr16) 2 K)) := hD
          refine W.widen (k := 0) (n := 0) (Nat.le_of_ble_eq_true rfl) (Nat.le_of_ble_eq_true rfl) ?_
          refine W.eq (g2 := F0 m 108 ls [.int (K at42)]) rfl ?_
          refine lv_bipush (v := 40) hx hb dX12_member_108 (by decide) ?_
          refine lv_icmp_ne (tgt := 139) hx hb dX12_member_110 (by decide) (fun c64 => ?_) (fun c64 => ?_)
          · refine lv_iconst (v := 1) hx hb dX12_member_139 (by decide) ?_
            refine lv_istore (lv' := [(5, .int 1), (4, .int (nI at10)), (3, .int (nI r14)), (2, .int 0), (0, .ref h0), (1, .int (nI d))]) hx hb dX12_member_140 hl (by decide) rfl (fun ls hl => ?_)
            refine lv_iconst (v := 1) hx hb dX12_member_142 (by decide) ?_
            refine lv_istore (lv' := [(6, .int 1), (5, .int 1), (4, .int (nI at10)), (3, .int (nI r14)), (2, .int 0), (0, .ref h0), (1, .int (nI d))]) hx hb dX12_member_143 hl (by decide) rfl (fun ls hl => ?_)
            have hdi0 : B 26 d = 0 := (congrFun (hkq33 26 (by omega)) d).symm.trans hce59
            have loop_o : ∀ (n_o : Nat) (mf2 : Nat) (at2 : Nat) (wr2 : Nat) (fd2 : Nat) (mo : Nat) (fs : Nat) (tn2 : Nat) (yy : Nat) (pl2 : Int32) (X2 : Nat → Nat → Int32) (H : Heap) (locs : List Loc) (ls : Array Slot), mf2 ≤ 20 → 20 + 1 ≤ mf2 + n_o → (at0 + 1 ≤ at2) → (at2 ≤ T) → (wr ≤ wr2) → (wr2 + at0 ≤ wr + at2) → (fd2 + 160 ≤ 20 * dc + mf2) → (tn2 + 1 ≤ at2) → (mo ≤ 1 ∧ fs ≤ 1) → (yy < wr2) → (Kq 0 B X2) → (PS T nm wr2 lz dc fd2 md pr bk X2) → (FrM K T wr2 X2 nd md) → (tkRow (X2 19) wr2 T) → (lsRow (X2 22) (X2 23) lz T) → va_P G.1 pCl (mW G h0 a (upd (upd (upd (upd (upd (upd (upd (upd (upd (upd (upd (upd (upd (upd (upd F 15 0) 16 pl2) 27 (nI nd)) 31 (nI wr2)) 34 (nI lz)) 35 (nI dc)) 44 (nI fd2)) 49 (nI md)) 59 (nI bk)) 60 (nI pr)) 64 (nI at2)) 65 ne0) 66 (nI lk)) 67 (nI mf2)) 68 (nI mm)) (updA X2 2 K)) H → va_D A (mW G h0 a (upd (upd (upd (upd (upd (upd (upd (upd (upd (upd (upd (upd (upd (upd (upd F 15 0) 16 pl2) 27 (nI nd)) 31 (nI wr2)) 34 (nI lz)) 35 (nI dc)) 44 (nI fd2)) 49 (nI md)) 59 (nI bk)) 60 (nI pr)) 64 (nI at2)) 65 ne0) 66 (nI lk)) 67 (nI mf2)) 68 (nI mm)) (updA X2 2 K)) → va_S A s.heap H locs → lv_has ls 8 [(6, .int (nI fs)), (5, .int (nI mo)), (4, .int (nI tn2)), (3, .int (nI yy)), (1, .int (nI d)), (0, .ref h0)] → W p l e (headSpec (Cond.code yX12_member cX12_member 8 none :: pw) ({ frames := 642, cells := 0, slots := 0, locals := 50100 } : Room)).room s m ([.ref h0, .int (nI d)] : List Value).toArray below meth c H locs 0 0 (MQ below (pQ G A (fun (v : Option Value) (u : Nat × Nat × Int32 × Nat × Nat × Nat × Nat × Nat × Nat × Nat × Nat × Nat × Nat × Int32 × (Nat → Nat → Int32)) => v = none ∧ (at0 ≤ u.1) ∧ (u.1 ≤ T) ∧ (u.2.1 ≤ 100) ∧ (at0 + 1 ≤ u.1 + u.2.1) ∧ (Kq 0 B u.2.2.2.2.2.2.2.2.2.2.2.2.2.2) ∧ (If (u.2.1 = 0) ((u.2.2.2.1 ≤ 2 * u.1 ∧ u.2.2.2.2.1 ≤ u.1 ∧ u.2.2.2.2.2.1 ≤ u.1 ∧ u.2.2.2.2.2.2.2.2.2.1 ≤ u.1 ∧ u.2.2.2.2.2.2.1 ≤ 37 ∧ dc ≤ u.2.2.2.2.2.2.1 ∧ u.2.2.2.2.2.2.2.2.2.2.1 ≤ u.2.2.2.2.2.2.2.2.1 ∧ wr ≤ u.2.2.2.2.1 ∧ lz ≤ u.2.2.2.2.2.1) ∧ (u.2.2.2.2.2.2.2.2.1 + 240 ≤ 30 * u.2.2.2.2.2.2.1 + u.2.2.2.2.2.2.2.2.2.2.2.2.1 ∧ u.2.2.2.2.2.2.2.1 + 160 ≤ 20 * u.2.2.2.2.2.2.1 + u.2.2.2.2.2.2.2.2.2.2.2.1 ∧ u.2.2.2.2.2.2.2.2.2.2.2.1 ≤ 20 ∧ u.2.2.2.2.2.2.2.2.2.2.2.2.1 ≤ 30 ∧ u.2.2.2.2.2.2.1 = dc) ∧ PS T nm u.2.2.2.2.1 u.2.2.2.2.2.1 u.2.2.2.2.2.2.1 u.2.2.2.2.2.2.2.1 u.2.2.2.2.2.2.2.2.1 u.2.2.2.2.2.2.2.2.2.1 u.2.2.2.2.2.2.2.2.2.2.1 u.2.2.2.2.2.2.2.2.2.2.2.2.2.2 ∧ FrM K T u.2.2.2.2.1 u.2.2.2.2.2.2.2.2.2.2.2.2.2.2 u.2.2.2.1 u.2.2.2.2.2.2.2.2.1 ∧ tkRow (u.2.2.2.2.2.2.2.2.2.2.2.2.2.2 19) u.2.2.2.2.1 T ∧ lsRow (u.2.2.2.2.2.2.2.2.2.2.2.2.2.2 22) (u.2.2.2.2.2.2.2.2.2.2.2.2.2.2 23) u.2.2.2.2.2.1 T))) (fun u => (mW G h0 a (upd (upd (upd (upd (upd (upd (upd (upd (upd (upd (upd (upd (upd (upd (upd F 15 (nI u.2.1)) 16 u.2.2.1) 27 (nI u.2.2.2.1)) 31 (nI u.2.2.2.2.1)) 34 (nI u.2.2.2.2.2.1)) 35 (nI u.2.2.2.2.2.2.1)) 44 (nI u.2.2.2.2.2.2.2.1)) 49 (nI u.2.2.2.2.2.2.2.2.1)) 59 (nI u.2.2.2.2.2.2.2.2.2.2.1)) 60 (nI u.2.2.2.2.2.2.2.2.2.1)) 64 (nI u.1)) 65 u.2.2.2.2.2.2.2.2.2.2.2.2.2.1) 66 (nI lk)) 67 (nI u.2.2.2.2.2.2.2.2.2.2.2.1)) 68 (nI u.2.2.2.2.2.2.2.2.2.2.2.2.1)) (updA u.2.2.2.2.2.2.2.2.2.2.2.2.2.2 2 K)))) ([.ref h0, .int (nI d)] : List Value).toArray s ({ frames := 642, cells := 0, slots := 0, locals := 50100 } : Room).cells ({ frames := 642, cells := 0, slots := 0, locals := 50100 } : Room).slots A) (F0 m 145 ls []) := by
              intro n_o
              induction n_o with
              | zero => intro mf2 at2 wr2 fd2 mo fs tn2 yy pl2 X2 H locs ls hk_o hn_o; omega
              | succ n_o ih_o =>
                intro mf2 at2 wr2 fd2 mo fs tn2 yy pl2 X2 H locs ls hk_o hn_o hl1 hl0 hl2 hl3 hl4 hl5 hl6 hl7 hkq2 hps2 hfm2 hy2 hlr2 hP hD hS hl
                refine lv_iload hx hb dX12_member_145 (lv_at hl 1 rfl) ?_
                refine lv_if_eq (tgt := 316) hx hb dX12_member_147 (by decide) (fun c65 => ?_) (fun c65 => ?_)
                · have n66 : mo = 0 := (nI_eq (a := mo) (b := 0) (by omega) (by omega)).mp c65
                  refine lv_aload_n hx hb dX12_member_316 rfl (lv_at hl 5 rfl) ?_
                  refine lv_bipush (v := 59) hx hb dX12_member_317 (by decide) ?_
                  have hP : va_P G.1 pCl (mW G h0 a (upd (upd (upd (upd (upd (upd (upd (upd (upd (upd (upd (upd (upd (upd (upd (upd (upd F 15 0) 16 pl2) 27 (nI nd)) 31 (nI wr2)) 34 (nI lz)) 35 (nI dc)) 44 (nI fd2)) 49 (nI md)) 59 (nI bk)) 60 (nI pr)) 64 (nI at2)) 65 ne0) 66 (nI lk)) 67 (nI mf2)) 68 (nI mm)) 15 (nI 0)) 64 (nI at2)) (updA (updA X2 2 K) 2 K)) _ := hP
                  have hD : va_D A (mW G h0 a (upd (upd (upd (upd (upd (upd (upd (upd (upd (upd (upd (upd (upd (upd (upd (upd (upd F 15 0) 16 pl2) 27 (nI nd)) 31 (nI wr2)) 34 (nI lz)) 35 (nI dc)) 44 (nI fd2)) 49 (nI md)) 59 (nI bk)) 60 (nI pr)) 64 (nI at2)) 65 ne0) 66 (nI lk)) 67 (nI mf2)) 68 (nI mm)) 15 (nI 0)) 64 (nI at2)) (updA (updA X2 2 K) 2 K)) := hD
                  refine pc_V0 (G := G) (As := [.int 59]) (rest := []) hx hb hml hown hq hE hX pX0_al hP hD hS hA hl.1 (R_take l G h0 a (upd (upd (upd (upd (upd (upd (upd (upd (upd (upd (upd (upd (upd (upd (upd F 15 0) 16 pl2) 27 (nI nd)) 31 (nI wr2)) 34 (nI lz)) 35 (nI dc)) 44 (nI fd2)) 49 (nI md)) 59 (nI bk)) 60 (nI pr)) 64 (nI at2)) 65 ne0) 66 (nI lk)) 67 (nI mf2)) 68 (nI mm)) (updA X2 2 K) at2 T 0 K 59 (by omega) (by omega) hK (by omega) (by decide) (by decide)) (gV pw_1614 pw_1615 pw_1616 pw_1523 pw_1601) hV_X12_take 0 9 rfl rfl rfl rfl (Nat.le_of_ble_eq_true rfl) dX12_member_319 ⟨Nat.le_of_ble_eq_true rfl, Nat.le_of_ble_eq_true rfl⟩ ⟨Nat.le_of_ble_eq_true rfl, Nat.le_of_ble_eq_true rfl⟩ (fun v69 u67 H locs hw68 hP hD hS => ?_)
                  obtain ⟨at70, fa71, pl72⟩ := u67
                  obtain ⟨hw68, h73, h74, h75, h76, h77, h78, h79, h80⟩ := hw68
                  replace h73 : at2 ≤ at70 := h73
                  replace h74 : at70 ≤ T := h74
                  replace h75 : 0 ≤ fa71 := h75
                  replace h76 : fa71 ≤ 100 := h76
                  replace h77 : If (0 < 0) (at70 = at2 ∧ fa71 = 0) := h77
                  replace h78 : at70 ≤ at2 + 1 := h78
                  replace h79 : at2 + 1 ≤ at70 + fa71 := h79
                  replace h80 : If (fa71 = 0) (K at2 = 59) := h80
                  obtain rfl : v69 = none := hw68
                  have hP : va_P G.1 pCl (mW G h0 a (upd (upd (upd (upd (upd (upd (upd (upd (upd (upd (upd (upd (upd (upd (upd F 15 (nI fa71)) 16 pl72) 27 (nI nd)) 31 (nI wr2)) 34 (nI lz)) 35 (nI dc)) 44 (nI fd2)) 49 (nI md)) 59 (nI bk)) 60 (nI pr)) 64 (nI at70)) 65 ne0) 66 (nI lk)) 67 (nI mf2)) 68 (nI mm)) (updA X2 2 K)) _ := hP
                  have hD : va_D A (mW G h0 a (upd (upd (upd (upd (upd (upd (upd (upd (upd (upd (upd (upd (upd (upd (upd F 15 (nI fa71)) 16 pl72) 27 (nI nd)) 31 (nI wr2)) 34 (nI lz)) 35 (nI dc)) 44 (nI fd2)) 49 (nI md)) 59 (nI bk)) 60 (nI pr)) 64 (nI at70)) 65 ne0) 66 (nI lk)) 67 (nI mf2)) 68 (nI mm)) (updA X2 2 K)) := hD
                  refine W.widen (k := 0) (n := 0) (Nat.le_of_ble_eq_true rfl) (Nat.le_of_ble_eq_true rfl) ?_
                  refine W.eq (g2 := F0 m 322 ls []) rfl ?_
                  rcases Nat.eq_zero_or_pos fa71 with e81 | e81
                  · subst e81
                    have hP : va_P G.1 pCl (mW G h0 a (upd (upd (upd (upd (upd (upd (upd (upd (upd (upd (upd (upd (upd (upd (upd F 15 0) 16 pl72) 27 (nI nd)) 31 (nI wr2)) 34 (nI lz)) 35 (nI dc)) 44 (nI fd2)) 49 (nI md)) 59 (nI bk)) 60 (nI pr)) 64 (nI at70)) 65 ne0) 66 (nI lk)) 67 (nI mf2)) 68 (nI mm)) (updA X2 2 K)) _ := hP
                    have hD : va_D A (mW G h0 a (upd (upd (upd (upd (upd (upd (upd (upd (upd (upd (upd (upd (upd (upd (upd F 15 0) 16 pl72) 27 (nI nd)) 31 (nI wr2)) 34 (nI lz)) 35 (nI dc)) 44 (nI fd2)) 49 (nI md)) 59 (nI bk)) 60 (nI pr)) 64 (nI at70)) 65 ne0) 66 (nI lk)) 67 (nI mf2)) 68 (nI mm)) (updA X2 2 K)) := hD
                    have hz82 : at0 ≤ at70 := (by omega)
                    have hz83 : at70 ≤ T := (by omega)
                    have hz84 : 0 ≤ 100 := (by omega)
                    have hz85 : at0 + 1 ≤ at70 + 0 := (by omega)
                    have hz86 : Kq 0 B X2 := hkq2
                    have hz87 : If (0 = 0) ((nd ≤ 2 * at70 ∧ wr2 ≤ at70 ∧ lz ≤ at70 ∧ pr ≤ at70 ∧ dc ≤ 37 ∧ dc ≤ dc ∧ bk ≤ md ∧ wr ≤ wr2 ∧ lz ≤ lz) ∧ (md + 240 ≤ 30 * dc + mm ∧ fd2 + 160 ≤ 20 * dc + mf2 ∧ mf2 ≤ 20 ∧ mm ≤ 30 ∧ dc = dc) ∧ PS T nm wr2 lz dc fd2 md pr bk X2 ∧ FrM K T wr2 X2 nd md ∧ tkRow (X2 19) wr2 T ∧ lsRow (X2 22) (X2 23) lz T) := (fun _ => ⟨by omega, by omega, hps2, hfm2, hy2, hlr2⟩)
                    have hP : va_P G.1 pCl (mW G h0 a (upd (upd (upd (upd (upd (upd (upd (upd (upd (upd (upd (upd (upd (upd (upd F 15 (nI 0)) 16 pl72) 27 (nI nd)) 31 (nI wr2)) 34 (nI lz)) 35 (nI dc)) 44 (nI fd2)) 49 (nI md)) 59 (nI bk)) 60 (nI pr)) 64 (nI at70)) 65 ne0) 66 (nI lk)) 67 (nI mf2)) 68 (nI mm)) (updA X2 2 K)) _ := hP
                    have hD : va_D A (mW G h0 a (upd (upd (upd (upd (upd (upd (upd (upd (upd (upd (upd (upd (upd (upd (upd F 15 (nI 0)) 16 pl72) 27 (nI nd)) 31 (nI wr2)) 34 (nI lz)) 35 (nI dc)) 44 (nI fd2)) 49 (nI md)) 59 (nI bk)) 60 (nI pr)) 64 (nI at70)) 65 ne0) 66 (nI lk)) 67 (nI mf2)) 68 (nI mm)) (updA X2 2 K)) := hD
                    exact W.vret hx hb hr (fun t9 ht9 hW9 => ⟨⟨_, (at70, 0, pl72, nd, wr2, lz, dc, fd2, md, pr, bk, mf2, mm, ne0, X2), rfl, ⟨rfl, hz82, hz83, hz84, hz85, hz86, hz87⟩, by rw [ht9]; exact hP, hD⟩, hS.F ht9⟩) hS.2.2 dX12_member_322
                  · have e81 := e81
                    have hz88 : at0 ≤ at70 := (by omega)
                    have hz89 : at70 ≤ T := (by omega)
                    have hz90 : fa71 ≤ 100 := (by omega)
                    have hz91 : at0 + 1 ≤ at70 + fa71 := (by omega)
                    have hz92 : Kq 0 B X2 := hkq2
                    have hz93 : If (fa71 = 0) ((nd ≤ 2 * at70 ∧ wr2 ≤ at70 ∧ lz ≤ at70 ∧ pr ≤ at70 ∧ dc ≤ 37 ∧ dc ≤ dc ∧ bk ≤ md ∧ wr ≤ wr2 ∧ lz ≤ lz) ∧ (md + 240 ≤ 30 * dc + mm ∧ fd2 + 160 ≤ 20 * dc + mf2 ∧ mf2 ≤ 20 ∧ mm ≤ 30 ∧ dc = dc) ∧ PS T nm wr2 lz dc fd2 md pr bk X2 ∧ FrM K T wr2 X2 nd md ∧ tkRow (X2 19) wr2 T ∧ lsRow (X2 22) (X2 23) lz T) := (fun e => absurd e (by omega))
                    have hP : va_P G.1 pCl (mW G h0 a (upd (upd (upd (upd (upd (upd (upd (upd (upd (upd (upd (upd (upd (upd (upd F 15 (nI fa71)) 16 pl72) 27 (nI nd)) 31 (nI wr2)) 34 (nI lz)) 35 (nI dc)) 44 (nI fd2)) 49 (nI md)) 59 (nI bk)) 60 (nI pr)) 64 (nI at70)) 65 ne0) 66 (nI lk)) 67 (nI mf2)) 68 (nI mm)) (updA X2 2 K)) _ := hP
                    have hD : va_D A (mW G h0 a (upd (upd (upd (upd (upd (upd (upd (upd (upd (upd (upd (upd (upd (upd (upd F 15 (nI fa71)) 16 pl72) 27 (nI nd)) 31 (nI wr2)) 34 (nI lz)) 35 (nI dc)) 44 (nI fd2)) 49 (nI md)) 59 (nI bk)) 60 (nI pr)) 64 (nI at70)) 65 ne0) 66 (nI lk)) 67 (nI mf2)) 68 (nI mm)) (updA X2 2 K)) := hD
                    exact W.vret hx hb hr (fun t9 ht9 hW9 => ⟨⟨_, (at70, fa71, pl72, nd, wr2, lz, dc, fd2, md, pr, bk, mf2, mm, ne0, X2), rfl, ⟨rfl, hz88, hz89, hz90, hz91, hz92, hz93⟩, by rw [ht9]; exact hP, hD⟩, hS.F ht9⟩) hS.2.2 dX12_member_322
                · have n94 : ¬ (mo = 0) := fun h9 => c65 ((nI_eq (a := mo) (b := 0) (by omega) (by omega)).mpr h9)
                  refine lv_aload_n hx hb dX12_member_150 rfl (lv_at hl 5 rfl) ?_
                  refine r_get (v := .int 0) hx hb hown hq hE hP 15 350 tFX12_15 (by decide) pw_1594 rfl dX12_member_151 ?_
                  refine lv_if_ne (tgt := 316) hx hb dX12_member_154 (by decide) (fun c95 => absurd c95 (by decide)) (fun c95 => ?_)
                  refine lv_iload hx hb dX12_member_157 (lv_at hl 0 rfl) ?_
                  refine lv_if_eq (tgt := 180) hx hb dX12_member_159 (by decide) (fun c96 => ?_) (fun c96 => ?_)
                  · have n97 : fs = 0 := (nI_eq (a := fs) (b := 0) (by omega) (by omega)).mp c96
                    refine lv_iconst (v := 1) hx hb dX12_member_180 (by decide) ?_
                    refine lv_goto (tgt := 185) hx hb dX12_member_181 (by decide) ?_
                    refine lv_istore (lv' := [(7, .int 1), (6, .int (nI fs)), (5, .int (nI mo)), (4, .int (nI tn2)), (3, .int (nI yy)), (1, .int (nI d)), (0, .ref h0)]) hx hb dX12_member_185 hl (by decide) rfl (fun ls hl => ?_)
                    refine lv_iload hx hb dX12_member_187 (lv_at hl 0 rfl) ?_
                    refine lv_if_ne (tgt := 200) hx hb dX12_member_189 (by decide) (fun c98 => ?_) (fun c98 => absurd c98 (by decide))
                    refine lv_aload_n hx hb dX12_member_200 rfl (lv_at hl 6 rfl) ?_
                    refine r_get (v := .int (nI mf2)) hx hb hown hq hE hP 67 390 tFX12_67 (by decide) pw_1726 rfl dX12_member_201 ?_
                    refine lv_bipush (v := 20) hx hb dX12_member_204 (by decide) ?_
                    refine lv_icmp_ne (tgt := 216) hx hb dX12_member_206 (by decide) (fun c99 => ?_) (fun c99 => ?_)
                    · have n100 : ¬ (mf2 = 20) := fun h9 => c99 ((nI_eq (a := mf2) (b := 20) (by omega) (by omega)).mpr h9)
                      refine lv_aload_n hx hb dX12_member_216 rfl (lv_at hl 6 rfl) ?_
                      refine r_get (v := .int 0) hx hb hown hq hE hP 15 350 tFX12_15 (by decide) pw_1594 rfl dX12_member_217 ?_
                      refine lv_if_le (tgt := 224) hx hb dX12_member_220 (by decide) (fun c101 => ?_) (fun c101 => absurd c101 (by decide))
                      refine lv_aload_n hx hb dX12_member_224 rfl (lv_at hl 6 rfl) ?_
                      refine r_get (v := .ref (a 32)) hx hb hown hq hE hP 45 108 tFX12_45 (by decide) pw_1463 rfl dX12_member_225 ?_
                      refine lv_aload_n hx hb dX12_member_228 rfl (lv_at hl 6 rfl) ?_
                      refine r_get (v := .int (nI fd2)) hx hb hown hq hE hP 44 413 tFX12_44 (by decide) pw_1727 rfl dX12_member_229 ?_
                      refine lv_iload_n hx hb dX12_member_232 rfl (lv_at hl 5 rfl) ?_
                      refine r_sti (f := (X2 32)) (j := fd2) hx hb hE hP hD hS 32 (ma_32 G a _) rfl (mas_32 G a _) (by omega) (by decide) dX12_member_233 (fun H locs hP hD hS => ?_)
                      have hP : va_P G.1 pCl (mW G h0 a (upd (upd (upd (upd (upd (upd (upd (upd (upd (upd (upd (upd (upd (upd (upd F 15 0) 16 pl2) 27 (nI nd)) 31 (nI wr2)) 34 (nI lz)) 35 (nI dc)) 44 (nI fd2)) 49 (nI md)) 59 (nI bk)) 60 (nI pr)) 64 (nI at2)) 65 ne0) 66 (nI lk)) 67 (nI mf2)) 68 (nI mm)) (updA (stR X2 32 fd2 (nI d)) 2 K)) _ := hP
                      have hD : va_D A (mW G h0 a (upd (upd (upd (upd (upd (upd (upd (upd (upd (upd (upd (upd (upd (upd (upd F 15 0) 16 pl2) 27 (nI nd)) 31 (nI wr2)) 34 (nI lz)) 35 (nI dc)) 44 (nI fd2)) 49 (nI md)) 59 (nI bk)) 60 (nI pr)) 64 (nI at2)) 65 ne0) 66 (nI lk)) 67 (nI mf2)) 68 (nI mm)) (updA (stR X2 32 fd2 (nI d)) 2 K)) := hD
                      have hkq102 : Kq 0 B (stR X2 32 fd2 (nI d)) := (Kq.st hkq2 (by omega))
                      have hty103 : tkRow ((stR X2 32 fd2 (nI d)) 19) wr2 T := hy2
                      have hps104 : PS T nm wr2 lz dc fd2 md pr bk (stR X2 32 fd2 (nI d)) := (PS.same hps2 (by omega) (by omega) (fun r i q1 q2 q3 => st_ne (fun e => by rw [e.1, e.2] at q3; exact absurd (show fd2 < fd2 from q3) (by omega))))
                      have hfm105 : FrM K T wr2 (stR X2 32 fd2 (nI d)) nd md := (FrM.same hfm2 (by omega) (fun j i q1 q2 q3 => st_ne (by omega)) (fun i q => st_ne (by omega)))
                      have hlr106 : lsRow ((stR X2 32 fd2 (nI d)) 22) ((stR X2 32 fd2 (nI d)) 23) lz T := hlr2
                      have hce107 : (stR X2 32 fd2 (nI d)) 32 fd2 = (nI d) := st_eq
                      refine lv_aload_n hx hb dX12_member_234 rfl (lv_at hl 6 rfl) ?_
                      refine r_get (v := .ref (a 33)) hx hb hown hq hE hP 46 111 tFX12_46 (by decide) pw_1464 rfl dX12_member_235 ?_
                      refine lv_aload_n hx hb dX12_member_238 rfl (lv_at hl 6 rfl) ?_
                      refine r_get (v := .int (nI fd2)) hx hb hown hq hE hP 44 413 tFX12_44 (by decide) pw_1727 rfl dX12_member_239 ?_
                      refine lv_aload_n hx hb dX12_member_242 rfl (lv_at hl 6 rfl) ?_
                      refine r_get (v := .ref (a 5)) hx hb hown hq hE hP 8 25 tFX12_8 (by decide) pw_1435 rfl dX12_member_243 ?_
                      refine lv_iload hx hb dX12_member_246 (lv_at hl 3 rfl) ?_
                      refine r_ldi (f := ((stR X2 32 fd2 (nI d)) 5)) (j := tn2) hx hb hE hP 5 (ma_5 G a _) rfl (by omega) (by decide) dX12_member_248 ?_
                      refine lv_topi (fun x110 e111 => ?_)
                      refine r_sti (f := ((stR X2 32 fd2 (nI d)) 33)) (j := fd2) hx hb hE hP hD hS 33 (ma_33 G a _) rfl (mas_33 G a _) (by omega) (by decide) dX12_member_249 (fun H locs hP hD hS => ?_)
                      have hP : va_P G.1 pCl (mW G h0 a (upd (upd (upd (upd (upd (upd (upd (upd (upd (upd (upd (upd (upd (upd (upd F 15 0) 16 pl2) 27 (nI nd)) 31 (nI wr2)) 34 (nI lz)) 35 (nI dc)) 44 (nI fd2)) 49 (nI md)) 59 (nI bk)) 60 (nI pr)) 64 (nI at2)) 65 ne0) 66 (nI lk)) 67 (nI mf2)) 68 (nI mm)) (updA (stR (stR X2 32 fd2 (nI d)) 33 fd2 x110) 2 K)) _ := hP
                      have hD : va_D A (mW G h0 a (upd (upd (upd (upd (upd (upd (upd (upd (upd (upd (upd (upd (upd (upd (upd F 15 0) 16 pl2) 27 (nI nd)) 31 (nI wr2)) 34 (nI lz)) 35 (nI dc)) 44 (nI fd2)) 49 (nI md)) 59 (nI bk)) 60 (nI pr)) 64 (nI at2)) 65 ne0) 66 (nI lk)) 67 (nI mf2)) 68 (nI mm)) (updA (stR (stR X2 32 fd2 (nI d)) 33 fd2 x110) 2 K)) := hD
                      have hkq112 : Kq 0 B (stR (stR X2 32 fd2 (nI d)) 33 fd2 x110) := (Kq.st hkq102 (by omega))
                      have hce113 : (stR (stR X2 32 fd2 (nI d)) 33 fd2 x110) 32 fd2 = (nI d) := ((st_ne (by omega)).trans hce107)
                      have hty114 : tkRow ((stR (stR X2 32 fd2 (nI d)) 33 fd2 x110) 19) wr2 T := hty103
                      have hps115 : PS T nm wr2 lz dc fd2 md pr bk (stR (stR X2 32 fd2 (nI d)) 33 fd2 x110) := (PS.same hps104 (by omega) (by omega) (fun r i q1 q2 q3 => st_ne (fun e => by rw [e.1, e.2] at q3; exact absurd (show fd2 < fd2 from q3) (by omega))))
                      have hfm116 : FrM K T wr2 (stR (stR X2 32 fd2 (nI d)) 33 fd2 x110) nd md := (FrM.same hfm105 (by omega) (fun j i q1 q2 q3 => st_ne (by omega)) (fun i q => st_ne (by omega)))
                      have hlr117 : lsRow ((stR (stR X2 32 fd2 (nI d)) 33 fd2 x110) 22) ((stR (stR X2 32 fd2 (nI d)) 33 fd2 x110) 23) lz T := hlr106
                      have hce118 : (stR (stR X2 32 fd2 (nI d)) 33 fd2 x110) 33 fd2 = x110 := st_eq
                      refine lv_aload_n hx hb dX12_member_250 rfl (lv_at hl 6 rfl) ?_
                      refine r_get (v := .ref (a 34)) hx hb hown hq hE hP 47 114 tFX12_47 (by decide) pw_1465 rfl dX12_member_251 ?_
                      refine lv_aload_n hx hb dX12_member_254 rfl (lv_at hl 6 rfl) ?_
                      refine r_get (v := .int (nI fd2)) hx hb hown hq hE hP 44 413 tFX12_44 (by decide) pw_1727 rfl dX12_member_255 ?_
                      refine lv_iload hx hb dX12_member_258 (lv_at hl 3 rfl) ?_
                      refine r_sti (f := ((stR (stR X2 32 fd2 (nI d)) 33 fd2 x110) 34)) (j := fd2) hx hb hE hP hD hS 34 (ma_34 G a _) rfl (mas_34 G a _) (by omega) (by decide) dX12_member_260 (fun H locs hP hD hS => ?_)
                      have hP : va_P G.1 pCl (mW G h0 a (upd (upd (upd (upd (upd (upd (upd (upd (upd (upd (upd (upd (upd (upd (upd F 15 0) 16 pl2) 27 (nI nd)) 31 (nI wr2)) 34 (nI lz)) 35 (nI dc)) 44 (nI fd2)) 49 (nI md)) 59 (nI bk)) 60 (nI pr)) 64 (nI at2)) 65 ne0) 66 (nI lk)) 67 (nI mf2)) 68 (nI mm)) (updA (stR (stR (stR X2 32 fd2 (nI d)) 33 fd2 x110) 34 fd2 (nI tn2)) 2 K)) _ := hP
                      have hD : va_D A (mW G h0 a (upd (upd (upd (upd (upd (upd (upd (upd (upd (upd (upd (upd (upd (upd (upd F 15 0) 16 pl2) 27 (nI nd)) 31 (nI wr2)) 34 (nI lz)) 35 (nI dc)) 44 (nI fd2)) 49 (nI md)) 59 (nI bk)) 60 (nI pr)) 64 (nI at2)) 65 ne0) 66 (nI lk)) 67 (nI mf2)) 68 (nI mm)) (updA (stR (stR (stR X2 32 fd2 (nI d)) 33 fd2 x110) 34 fd2 (nI tn2)) 2 K)) := hD
                      have hkq119 : Kq 0 B (stR (stR (stR X2 32 fd2 (nI d)) 33 fd2 x110) 34 fd2 (nI tn2)) := (Kq.st hkq112 (by omega))
                      have hce120 : (stR (stR (stR X2 32 fd2 (nI d)) 33 fd2 x110) 34 fd2 (nI tn2)) 32 fd2 = (nI d) := ((st_ne (by omega)).trans hce113)
                      have hce121 : (stR (stR (stR X2 32 fd2 (nI d)) 33 fd2 x110) 34 fd2 (nI tn2)) 33 fd2 = x110 := ((st_ne (by omega)).trans hce118)
                      have hty122 : tkRow ((stR (stR (stR X2 32 fd2 (nI d)) 33 fd2 x110) 34 fd2 (nI tn2)) 19) wr2 T := hty114
                      have hps123 : PS T nm wr2 lz dc fd2 md pr bk (stR (stR (stR X2 32 fd2 (nI d)) 33 fd2 x110) 34 fd2 (nI tn2)) := (PS.same hps115 (by omega) (by omega) (fun r i q1 q2 q3 => st_ne (fun e => by rw [e.1, e.2] at q3; exact absurd (show fd2 < fd2 from q3) (by omega))))
                      have hfm124 : FrM K T wr2 (stR (stR (stR X2 32 fd2 (nI d)) 33 fd2 x110) 34 fd2 (nI tn2)) nd md := (FrM.same hfm116 (by omega) (fun j i q1 q2 q3 => st_ne (by omega)) (fun i q => st_ne (by omega)))
                      have hlr125 : lsRow ((stR (stR (stR X2 32 fd2 (nI d)) 33 fd2 x110) 34 fd2 (nI tn2)) 22) ((stR (stR (stR X2 32 fd2 (nI d)) 33 fd2 x110) 34 fd2 (nI tn2)) 23) lz T := hlr117
                      have hce126 : (stR (stR (stR X2 32 fd2 (nI d)) 33 fd2 x110) 34 fd2 (nI tn2)) 34 fd2 = (nI tn2) := st_eq
                      refine lv_aload_n hx hb dX12_member_261 rfl (lv_at hl 6 rfl) ?_
                      refine r_get (v := .ref (a 35)) hx hb hown hq hE hP 48 117 tFX12_48 (by decide) pw_1466 rfl dX12_member_262 ?_
                      refine lv_aload_n hx hb dX12_member_265 rfl (lv_at hl 6 rfl) ?_
                      refine r_get (v := .int (nI fd2)) hx hb hown hq hE hP 44 413 tFX12_44 (by decide) pw_1727 rfl dX12_member_266 ?_
                      refine lv_iload_n hx hb dX12_member_269 rfl (lv_at hl 4 rfl) ?_
                      refine r_sti (f := ((stR (stR (stR X2 32 fd2 (nI d)) 33 fd2 x110) 34 fd2 (nI tn2)) 35)) (j := fd2) hx hb hE hP hD hS 35 (ma_35 G a _) rfl (mas_35 G a _) (by omega) (by decide) dX12_member_270 (fun H locs hP hD hS => ?_)
                      have hP : va_P G.1 pCl (mW G h0 a (upd (upd (upd (upd (upd (upd (upd (upd (upd (upd (upd (upd (upd (upd (upd F 15 0) 16 pl2) 27 (nI nd)) 31 (nI wr2)) 34 (nI lz)) 35 (nI dc)) 44 (nI fd2)) 49 (nI md)) 59 (nI bk)) 60 (nI pr)) 64 (nI at2)) 65 ne0) 66 (nI lk)) 67 (nI mf2)) 68 (nI mm)) (updA (stR (stR (stR (stR X2 32 fd2 (nI d)) 33 fd2 x110) 34 fd2 (nI tn2)) 35 fd2 (nI yy)) 2 K)) _ := hP
                      have hD : va_D A (mW G h0 a (upd (upd (upd (upd (upd (upd (upd (upd (upd (upd (upd (upd (upd (upd (upd F 15 0) 16 pl2) 27 (nI nd)) 31 (nI wr2)) 34 (nI lz)) 35 (nI dc)) 44 (nI fd2)) 49 (nI md)) 59 (nI bk)) 60 (nI pr)) 64 (nI at2)) 65 ne0) 66 (nI lk)) 67 (nI mf2)) 68 (nI mm)) (updA (stR (stR (stR (stR X2 32 fd2 (nI d)) 33 fd2 x110) 34 fd2 (nI tn2)) 35 fd2 (nI yy)) 2 K)) := hD
                      have hkq127 : Kq 0 B (stR (stR (stR (stR X2 32 fd2 (nI d)) 33 fd2 x110) 34 fd2 (nI tn2)) 35 fd2 (nI yy)) := (Kq.st hkq119 (by omega))
                      have hce128 : (stR (stR (stR (stR X2 32 fd2 (nI d)) 33 fd2 x110) 34 fd2 (nI tn2)) 35 fd2 (nI yy)) 32 fd2 = (nI d) := ((st_ne (by omega)).trans hce120)
                      have hce129 : (stR (stR (stR (stR X2 32 fd2 (nI d)) 33 fd2 x110) 34 fd2 (nI tn2)) 35 fd2 (nI yy)) 33 fd2 = x110 := ((st_ne (by omega)).trans hce121)
                      have hce130 : (stR (stR (stR (stR X2 32 fd2 (nI d)) 33 fd2 x110) 34 fd2 (nI tn2)) 35 fd2 (nI yy)) 34 fd2 = (nI tn2) := ((st_ne (by omega)).trans hce126)
                      have hty131 : tkRow ((stR (stR (stR (stR X2 32 fd2 (nI d)) 33 fd2 x110) 34 fd2 (nI tn2)) 35 fd2 (nI yy)) 19) wr2 T := hty122
                      have hps132 : PS T nm wr2 lz dc fd2 md pr bk (stR (stR (stR (stR X2 32 fd2 (nI d)) 33 fd2 x110) 34 fd2 (nI tn2)) 35 fd2 (nI yy)) := (PS.same hps123 (by omega) (by omega) (fun r i q1 q2 q3 => st_ne (fun e => by rw [e.1, e.2] at q3; exact absurd (show fd2 < fd2 from q3) (by omega))))
                      have hfm133 : FrM K T wr2 (stR (stR (stR (stR X2 32 fd2 (nI d)) 33 fd2 x110) 34 fd2 (nI tn2)) 35 fd2 (nI yy)) nd md := (FrM.same hfm124 (by omega) (fun j i q1 q2 q3 => st_ne (by omega)) (fun i q => st_ne (by omega)))
                      have hlr134 : lsRow ((stR (stR (stR (stR X2 32 fd2 (nI d)) 33 fd2 x110) 34 fd2 (nI tn2)) 35 fd2 (nI yy)) 22) ((stR (stR (stR (stR X2 32 fd2 (nI d)) 33 fd2 x110) 34 fd2 (nI tn2)) 35 fd2 (nI yy)) 23) lz T := hlr125
                      have hce135 : (stR (stR (stR (stR X2 32 fd2 (nI d)) 33 fd2 x110) 34 fd2 (nI tn2)) 35 fd2 (nI yy)) 35 fd2 = (nI yy) := st_eq
                      refine lv_aload_n hx hb dX12_member_271 rfl (lv_at hl 6 rfl) ?_
                      refine lv_dup hx hb dX12_member_272 rfl ?_
                      refine r_get (v := .int (nI fd2)) hx hb hown hq hE hP 44 413 tFX12_44 (by decide) pw_1727 rfl dX12_member_273 ?_
                      refine lv_iconst (v := 1) hx hb dX12_member_276 (by decide) ?_
                      refine lv_iadd hx hb dX12_member_277 ?_
                      refine lv_topi (fun x136 e137 => ?_)
                      obtain rfl : x136 = nI (fd2 + 1) := e137.trans (nI_add (fd2) (1))
                      refine r_put (v := (nI (fd2 + 1))) (ty := .int) hx hb hown hq hE hP hD hS 44 413 tFX12_44 (by decide) pw_1727 (by decide) rfl rfl (ms_44 a _ _) dX12_member_278 (fun H locs hP hD hS => ?_)
                      refine lv_aload_n hx hb dX12_member_281 rfl (lv_at hl 6 rfl) ?_
                      refine lv_dup hx hb dX12_member_282 rfl ?_
                      refine r_get (v := .int (nI mf2)) hx hb hown hq hE hP 67 390 tFX12_67 (by decide) pw_1726 rfl dX12_member_283 ?_
                      refine lv_iconst (v := 1) hx hb dX12_member_286 (by decide) ?_
                      refine lv_iadd hx hb dX12_member_287 ?_
                      refine lv_topi (fun x138 e139 => ?_)
                      obtain rfl : x138 = nI (mf2 + 1) := e139.trans (nI_add (mf2) (1))
                      refine r_put (v := (nI (mf2 + 1))) (ty := .int) hx hb hown hq hE hP hD hS 67 390 tFX12_67 (by decide) pw_1726 (by decide) rfl rfl (ms_67 a _ _) dX12_member_288 (fun H locs hP hD hS => ?_)
                      refine lv_iconst (v := 0) hx hb dX12_member_291 (by decide) ?_
                      refine lv_istore (lv' := [(6, .int 0), (7, .int 1), (5, .int (nI mo)), (4, .int (nI tn2)), (3, .int (nI yy)), (1, .int (nI d)), (0, .ref h0)]) hx hb dX12_member_292 hl (by decide) rfl (fun ls hl => ?_)
                      refine lv_aload_n hx hb dX12_member_294 rfl (lv_at hl 6 rfl) ?_
                      refine lv_bipush (v := 44) hx hb dX12_member_295 (by decide) ?_
                      have hP : va_P G.1 pCl (mW G h0 a (upd (upd (upd (upd (upd (upd (upd (upd (upd (upd (upd (upd (upd (upd (upd (upd (upd F 15 0) 16 pl2) 27 (nI nd)) 31 (nI wr2)) 34 (nI lz)) 35 (nI dc)) 44 (nI (fd2 + 1))) 49 (nI md)) 59 (nI bk)) 60 (nI pr)) 64 (nI at2)) 65 ne0) 66 (nI lk)) 67 (nI (mf2 + 1))) 68 (nI mm)) 15 (nI 0)) 64 (nI at2)) (updA (updA (stR (stR (stR (stR X2 32 fd2 (nI d)) 33 fd2 x110) 34 fd2 (nI tn2)) 35 fd2 (nI yy)) 2 K) 2 K)) _ := hP
                      have hD : va_D A (mW G h0 a (upd (upd (upd (upd (upd (upd (upd (upd (upd (upd (upd (upd (upd (upd (upd (upd (upd F 15 0) 16 pl2) 27 (nI nd)) 31 (nI wr2)) 34 (nI lz)) 35 (nI dc)) 44 (nI (fd2 + 1))) 49 (nI md)) 59 (nI bk)) 60 (nI pr)) 64 (nI at2)) 65 ne0) 66 (nI lk)) 67 (nI (mf2 + 1))) 68 (nI mm)) 15 (nI 0)) 64 (nI at2)) (updA (updA (stR (stR (stR (stR X2 32 fd2 (nI d)) 33 fd2 x110) 34 fd2 (nI tn2)) 35 fd2 (nI yy)) 2 K) 2 K)) := hD
                      refine pc_V0 (G := G) (As := [.int 44]) (rest := []) hx hb hml hown hq hE hX pX0_al hP hD hS hA hl.1 (R_may l G h0 a (upd (upd (upd (upd (upd (upd (upd (upd (upd (upd (upd (upd (upd (upd (upd F 15 0) 16 pl2) 27 (nI nd)) 31 (nI wr2)) 34 (nI lz)) 35 (nI dc)) 44 (nI (fd2 + 1))) 49 (nI md)) 59 (nI bk)) 60 (nI pr)) 64 (nI at2)) 65 ne0) 66 (nI lk)) 67 (nI (mf2 + 1))) 68 (nI mm)) (updA (stR (stR (stR (stR X2 32 fd2 (nI d)) 33 fd2 x110) 34 fd2 (nI tn2)) 35 fd2 (nI yy)) 2 K) at2 T 0 K 44 (by omega) (by omega) hK (by omega) (by decide) (by decide)) (gV pw_1621 pw_1622 pw_1623 pw_1523 pw_1605) hV_X12_may 0 9 rfl rfl rfl rfl (Nat.le_of_ble_eq_true rfl) dX12_member_297 ⟨Nat.le_of_ble_eq_true rfl, Nat.le_of_ble_eq_true rfl⟩ ⟨Nat.le_of_ble_eq_true rfl, Nat.le_of_ble_eq_true rfl⟩ (fun v142 u140 H locs hw141 hP hD hS => ?_)
                      obtain ⟨at143, r144⟩ := u140
                      obtain ⟨hw141, h145, h146, h147, h148, h149, h150⟩ := hw141
                      replace h145 : r144 ≤ 1 := h145
                      replace h146 : 0 + 100 * r144 ≤ 100 := h146
                      replace h147 : at143 = at2 + r144 := h147
                      replace h148 : at143 ≤ T := h148
                      replace h149 : If (r144 = 1) (K at2 = 44) := h149
                      replace h150 : If (r144 = 0) (0 = 0 → ¬ K at2 = 44) := h150
                      obtain rfl : v142 = some (.int (nI r144)) := hw141
                      have hP : va_P G.1 pCl (mW G h0 a (upd (upd (upd (upd (upd (upd (upd (upd (upd (upd (upd (upd (upd (upd (upd F 15 0) 16 pl2) 27 (nI nd)) 31 (nI wr2)) 34 (nI lz)) 35 (nI dc)) 44 (nI (fd2 + 1))) 49 (nI md)) 59 (nI bk)) 60 (nI pr)) 64 (nI at143)) 65 ne0) 66 (nI lk)) 67 (nI (mf2 + 1))) 68 (nI mm)) (updA (stR (stR (stR (stR X2 32 fd2 (nI d)) 33 fd2 x110) 34 fd2 (nI tn2)) 35 fd2 (nI yy)) 2 K)) _ := hP
                      have hD : va_D A (mW G h0 a (upd (upd (upd (upd (upd (upd (upd (upd (upd (upd (upd (upd (upd (upd (upd F 15 0) 16 pl2) 27 (nI nd)) 31 (nI wr2)) 34 (nI lz)) 35 (nI dc)) 44 (nI (fd2 + 1))) 49 (nI md)) 59 (nI bk)) 60 (nI pr)) 64 (nI at143)) 65 ne0) 66 (nI lk)) 67 (nI (mf2 + 1))) 68 (nI mm)) (updA (stR (stR (stR (stR X2 32 fd2 (nI d)) 33 fd2 x110) 34 fd2 (nI tn2)) 35 fd2 (nI yy)) 2 K)) := hD
                      refine W.widen (k := 0) (n := 0) (Nat.le_of_ble_eq_true rfl) (Nat.le_of_ble_eq_true rfl) ?_
                      refine W.eq (g2 := F0 m 300 ls [.int (nI r144)]) rfl ?_
                      refine lv_istore (lv' := [(5, .int (nI r144)), (6, .int 0), (7, .int 1), (4, .int (nI tn2)), (3, .int (nI yy)), (1, .int (nI d)), (0, .ref h0)]) hx hb dX12_member_300 hl (by decide) rfl (fun ls hl => ?_)
                      refine lv_iload hx hb dX12_member_302 (lv_at hl 0 rfl) ?_
                      refine lv_if_eq (tgt := 313) hx hb dX12_member_304 (by decide) (fun c151 => ?_) (fun c151 => ?_)
                      · have n152 : r144 = 0 := (nI_eq (a := r144) (b := 0) (by omega) (by omega)).mp c151
                        refine lv_goto (tgt := 145) hx hb dX12_member_313 (by decide) ?_
                        have hP : va_P G.1 pCl (mW G h0 a (upd (upd (upd (upd (upd (upd (upd (upd (upd (upd (upd (upd (upd (upd (upd F 15 0) 16 pl2) 27 (nI nd)) 31 (nI wr2)) 34 (nI lz)) 35 (nI dc)) 44 (nI (fd2 + 1))) 49 (nI md)) 59 (nI bk)) 60 (nI pr)) 64 (nI at143)) 65 ne0) 66 (nI lk)) 67 (nI (mf2 + 1))) 68 (nI mm)) (updA (stR (stR (stR (stR X2 32 fd2 (nI d)) 33 fd2 x110) 34 fd2 (nI tn2)) 35 fd2 (nI yy)) 2 K)) _ := hP
                        have hD : va_D A (mW G h0 a (upd (upd (upd (upd (upd (upd (upd (upd (upd (upd (upd (upd (upd (upd (upd F 15 0) 16 pl2) 27 (nI nd)) 31 (nI wr2)) 34 (nI lz)) 35 (nI dc)) 44 (nI (fd2 + 1))) 49 (nI md)) 59 (nI bk)) 60 (nI pr)) 64 (nI at143)) 65 ne0) 66 (nI lk)) 67 (nI (mf2 + 1))) 68 (nI mm)) (updA (stR (stR (stR (stR X2 32 fd2 (nI d)) 33 fd2 x110) 34 fd2 (nI tn2)) 35 fd2 (nI yy)) 2 K)) := hD
                        exact ih_o (mf2 + 1) at143 wr2 (fd2 + 1) r144 0 tn2 yy pl2 (stR (stR (stR (stR X2 32 fd2 (nI d)) 33 fd2 x110) 34 fd2 (nI tn2)) 35 fd2 (nI yy)) _ _ _ (by omega) (by omega) (by omega) (by omega) (by omega) (by omega) (by omega) (by omega) (by omega) (by omega) hkq127 (PS.fld hps132 hce128 (by omega) (by omega) hce130 (by omega) hce135 (by omega) (by rw [hkq127 26 (by omega)]; exact hdi0)) hfm133 hty131 hlr134 hP hD hS (lv_sub hl [1, 0, 3, 4, 5, 6] rfl)
                      · have n153 : ¬ (r144 = 0) := fun h9 => c151 ((nI_eq (a := r144) (b := 0) (by omega) (by omega)).mpr h9)
                        refine lv_aload_n hx hb dX12_member_307 rfl (lv_at hl 6 rfl) ?_
                        have hP : va_P G.1 pCl (mW G h0 a (upd (upd (upd (upd (upd (upd (upd (upd (upd (upd (upd (upd (upd (upd (upd (upd (upd F 15 0) 16 pl2) 27 (nI nd)) 31 (nI wr2)) 34 (nI lz)) 35 (nI dc)) 44 (nI (fd2 + 1))) 49 (nI md)) 59 (nI bk)) 60 (nI pr)) 64 (nI at143)) 65 ne0) 66 (nI lk)) 67 (nI (mf2 + 1))) 68 (nI mm)) 15 (nI 0)) 64 (nI at143)) (updA (updA (stR (stR (stR (stR X2 32 fd2 (nI d)) 33 fd2 x110) 34 fd2 (nI tn2)) 35 fd2 (nI yy)) 2 K) 2 K)) _ := hP
                        have hD : va_D A (mW G h0 a (upd (upd (upd (upd (upd (upd (upd (upd (upd (upd (upd (upd (upd (upd (upd (upd (upd F 15 0) 16 pl2) 27 (nI nd)) 31 (nI wr2)) 34 (nI lz)) 35 (nI dc)) 44 (nI (fd2 + 1))) 49 (nI md)) 59 (nI bk)) 60 (nI pr)) 64 (nI at143)) 65 ne0) 66 (nI lk)) 67 (nI (mf2 + 1))) 68 (nI mm)) 15 (nI 0)) 64 (nI at143)) (updA (updA (stR (stR (stR (stR X2 32 fd2 (nI d)) 33 fd2 x110) 34 fd2 (nI tn2)) 35 fd2 (nI yy)) 2 K) 2 K)) := hD
                        refine pc_V0 (G := G) (As := []) (rest := []) hx hb hml hown hq hE hX pX0_al hP hD hS hA hl.1 (R_name l G h0 a (upd (upd (upd (upd (upd (upd (upd (upd (upd (upd (upd (upd (upd (upd (upd F 15 0) 16 pl2) 27 (nI nd)) 31 (nI wr2)) 34 (nI lz)) 35 (nI dc)) 44 (nI (fd2 + 1))) 49 (nI md)) 59 (nI bk)) 60 (nI pr)) 64 (nI at143)) 65 ne0) 66 (nI lk)) 67 (nI (mf2 + 1))) 68 (nI mm)) (updA (stR (stR (stR (stR X2 32 fd2 (nI d)) 33 fd2 x110) 34 fd2 (nI tn2)) 35 fd2 (nI yy)) 2 K) at143 T 0 K (by omega) (by omega) hK (by omega)) (gV pw_1618 pw_1619 pw_1620 pw_1523 pw_1613) hV_X12_name 0 9 rfl rfl rfl rfl (Nat.le_of_ble_eq_true rfl) dX12_member_308 ⟨Nat.le_of_ble_eq_true rfl, Nat.le_of_ble_eq_true rfl⟩ ⟨Nat.le_of_ble_eq_true rfl, Nat.le_of_ble_eq_true rfl⟩ (fun v156 u154 H locs hw155 hP hD hS => ?_)
                        obtain ⟨at157, fa158, pl159⟩ := u154
                        obtain ⟨hw155, h160, h161, h162, h163, h164, h165, h166, h167⟩ := hw155
                        replace h160 : at143 ≤ at157 := h160
                        replace h161 : at157 ≤ T := h161
                        replace h162 : 0 ≤ fa158 := h162
                        replace h163 : fa158 ≤ 100 := h163
                        replace h164 : If (0 < 0) (at157 = at143 ∧ fa158 = 0) := h164
                        replace h165 : at157 ≤ at143 + 1 := h165
                        replace h166 : at143 + 1 ≤ at157 + fa158 := h166
                        replace h167 : If (fa158 = 0) (K at143 = 1) := h167
                        obtain rfl : v156 = some (.int (nI at143)) := hw155
                        have hP : va_P G.1 pCl (mW G h0 a (upd (upd (upd (upd (upd (upd (upd (upd (upd (upd (upd (upd (upd (upd (upd F 15 (nI fa158)) 16 pl159) 27 (nI nd)) 31 (nI wr2)) 34 (nI lz)) 35 (nI dc)) 44 (nI (fd2 + 1))) 49 (nI md)) 59 (nI bk)) 60 (nI pr)) 64 (nI at157)) 65 ne0) 66 (nI lk)) 67 (nI (mf2 + 1))) 68 (nI mm)) (updA (stR (stR (stR (stR X2 32 fd2 (nI d)) 33 fd2 x110) 34 fd2 (nI tn2)) 35 fd2 (nI yy)) 2 K)) _ := hP
                        have hD : va_D A (mW G h0 a (upd (upd (upd (upd (upd (upd (upd (upd (upd (upd (upd (upd (upd (upd (upd F 15 (nI fa158)) 16 pl159) 27 (nI nd)) 31 (nI wr2)) 34 (nI lz)) 35 (nI dc)) 44 (nI (fd2 + 1))) 49 (nI md)) 59 (nI bk)) 60 (nI pr)) 64 (nI at157)) 65 ne0) 66 (nI lk)) 67 (nI (mf2 + 1))) 68 (nI mm)) (updA (stR (stR (stR (stR X2 32 fd2 (nI d)) 33 fd2 x110) 34 fd2 (nI tn2)) 35 fd2 (nI yy)) 2 K)) := hD
                        refine W.widen (k := 0) (n := 0) (Nat.le_of_ble_eq_true rfl) (Nat.le_of_ble_eq_true rfl) ?_
                        refine W.eq (g2 := F0 m 311 ls [.int (nI at143)]) rfl ?_
                        rcases Nat.eq_zero_or_pos fa158 with e168 | e168
                        · subst e168
                          have hP : va_P G.1 pCl (mW G h0 a (upd (upd (upd (upd (upd (upd (upd (upd (upd (upd (upd (upd (upd (upd (upd F 15 0) 16 pl159) 27 (nI nd)) 31 (nI wr2)) 34 (nI lz)) 35 (nI dc)) 44 (nI (fd2 + 1))) 49 (nI md)) 59 (nI bk)) 60 (nI pr)) 64 (nI at157)) 65 ne0) 66 (nI lk)) 67 (nI (mf2 + 1))) 68 (nI mm)) (updA (stR (stR (stR (stR X2 32 fd2 (nI d)) 33 fd2 x110) 34 fd2 (nI tn2)) 35 fd2 (nI yy)) 2 K)) _ := hP
                          have hD : va_D A (mW G h0 a (upd (upd (upd (upd (upd (upd (upd (upd (upd (upd (upd (upd (upd (upd (upd F 15 0) 16 pl159) 27 (nI nd)) 31 (nI wr2)) 34 (nI lz)) 35 (nI dc)) 44 (nI (fd2 + 1))) 49 (nI md)) 59 (nI bk)) 60 (nI pr)) 64 (nI at157)) 65 ne0) 66 (nI lk)) 67 (nI (mf2 + 1))) 68 (nI mm)) (updA (stR (stR (stR (stR X2 32 fd2 (nI d)) 33 fd2 x110) 34 fd2 (nI tn2)) 35 fd2 (nI yy)) 2 K)) := hD
                          refine lv_istore (lv' := [(4, .int (nI at143)), (5, .int (nI r144)), (6, .int 0), (7, .int 1), (3, .int (nI yy)), (1, .int (nI d)), (0, .ref h0)]) hx hb dX12_member_311 hl (by decide) rfl (fun ls hl => ?_)
                          refine lv_goto (tgt := 145) hx hb dX12_member_313 (by decide) ?_
                          have hP : va_P G.1 pCl (mW G h0 a (upd (upd (upd (upd (upd (upd (upd (upd (upd (upd (upd (upd (upd (upd (upd F 15 0) 16 pl159) 27 (nI nd)) 31 (nI wr2)) 34 (nI lz)) 35 (nI dc)) 44 (nI (fd2 + 1))) 49 (nI md)) 59 (nI bk)) 60 (nI pr)) 64 (nI at157)) 65 ne0) 66 (nI lk)) 67 (nI (mf2 + 1))) 68 (nI mm)) (updA (stR (stR (stR (stR X2 32 fd2 (nI d)) 33 fd2 x110) 34 fd2 (nI tn2)) 35 fd2 (nI yy)) 2 K)) _ := hP
                          have hD : va_D A (mW G h0 a (upd (upd (upd (upd (upd (upd (upd (upd (upd (upd (upd (upd (upd (upd (upd F 15 0) 16 pl159) 27 (nI nd)) 31 (nI wr2)) 34 (nI lz)) 35 (nI dc)) 44 (nI (fd2 + 1))) 49 (nI md)) 59 (nI bk)) 60 (nI pr)) 64 (nI at157)) 65 ne0) 66 (nI lk)) 67 (nI (mf2 + 1))) 68 (nI mm)) (updA (stR (stR (stR (stR X2 32 fd2 (nI d)) 33 fd2 x110) 34 fd2 (nI tn2)) 35 fd2 (nI yy)) 2 K)) := hD
                          exact ih_o (mf2 + 1) at157 wr2 (fd2 + 1) r144 0 at143 yy pl159 (stR (stR (stR (stR X2 32 fd2 (nI d)) 33 fd2 x110) 34 fd2 (nI tn2)) 35 fd2 (nI yy)) _ _ _ (by omega) (by omega) (by omega) (by omega) (by omega) (by omega) (by omega) (by omega) (by omega) (by omega) hkq127 (PS.fld hps132 hce128 (by omega) (by omega) hce130 (by omega) hce135 (by omega) (by rw [hkq127 26 (by omega)]; exact hdi0)) hfm133 hty131 hlr134 hP hD hS (lv_sub hl [2, 1, 0, 4, 5, 6] rfl)
                        · have e168 := e168
                          refine lv_istore (lv' := [(4, .int (nI at143)), (5, .int (nI r144)), (6, .int 0), (7, .int 1), (3, .int (nI yy)), (1, .int (nI d)), (0, .ref h0)]) hx hb dX12_member_311 hl (by decide) rfl (fun ls hl => ?_)
                          refine lv_goto (tgt := 145) hx hb dX12_member_313 (by decide) ?_
                          refine lv_iload hx hb dX12_member_145 (lv_at hl 1 rfl) ?_
                          refine lv_if_eq (tgt := 316) hx hb dX12_member_147 (by decide) (fun c169 => ?_) (fun c169 => ?_)
                          · have n170 : r144 = 0 := (nI_eq (a := r144) (b := 0) (by omega) (by omega)).mp c169
                            refine lv_aload_n hx hb dX12_member_316 rfl (lv_at hl 6 rfl) ?_
                            refine lv_bipush (v := 59) hx hb dX12_member_317 (by decide) ?_
                            have hP : va_P G.1 pCl (mW G h0 a (upd (upd (upd (upd (upd (upd (upd (upd (upd (upd (upd (upd (upd (upd (upd (upd (upd F 15 (nI fa158)) 16 pl159) 27 (nI nd)) 31 (nI wr2)) 34 (nI lz)) 35 (nI dc)) 44 (nI (fd2 + 1))) 49 (nI md)) 59 (nI bk)) 60 (nI pr)) 64 (nI at157)) 65 ne0) 66 (nI lk)) 67 (nI (mf2 + 1))) 68 (nI mm)) 15 (nI fa158)) 64 (nI at157)) (updA (updA (stR (stR (stR (stR X2 32 fd2 (nI d)) 33 fd2 x110) 34 fd2 (nI tn2)) 35 fd2 (nI yy)) 2 K) 2 K)) _ := hP
                            have hD : va_D A (mW G h0 a (upd (upd (upd (upd (upd (upd (upd (upd (upd (upd (upd (upd (upd (upd (upd (upd (upd F 15 (nI fa158)) 16 pl159) 27 (nI nd)) 31 (nI wr2)) 34 (nI lz)) 35 (nI dc)) 44 (nI (fd2 + 1))) 49 (nI md)) 59 (nI bk)) 60 (nI pr)) 64 (nI at157)) 65 ne0) 66 (nI lk)) 67 (nI (mf2 + 1))) 68 (nI mm)) 15 (nI fa158)) 64 (nI at157)) (updA (updA (stR (stR (stR (stR X2 32 fd2 (nI d)) 33 fd2 x110) 34 fd2 (nI tn2)) 35 fd2 (nI yy)) 2 K) 2 K)) := hD
                            refine pc_V0 (G := G) (As := [.int 59]) (rest := []) hx hb hml hown hq hE hX pX0_al hP hD hS hA hl.1 (R_take l G h0 a (upd (upd (upd (upd (upd (upd (upd (upd (upd (upd (upd (upd (upd (upd (upd F 15 (nI fa158)) 16 pl159) 27 (nI nd)) 31 (nI wr2)) 34 (nI lz)) 35 (nI dc)) 44 (nI (fd2 + 1))) 49 (nI md)) 59 (nI bk)) 60 (nI pr)) 64 (nI at157)) 65 ne0) 66 (nI lk)) 67 (nI (mf2 + 1))) 68 (nI mm)) (updA (stR (stR (stR (stR X2 32 fd2 (nI d)) 33 fd2 x110) 34 fd2 (nI tn2)) 35 fd2 (nI yy)) 2 K) at157 T fa158 K 59 (by omega) (by omega) hK (by omega) (by decide) (by decide)) (gV pw_1614 pw_1615 pw_1616 pw_1523 pw_1601) hV_X12_take 0 9 rfl rfl rfl rfl (Nat.le_of_ble_eq_true rfl) dX12_member_319 ⟨Nat.le_of_ble_eq_true rfl, Nat.le_of_ble_eq_true rfl⟩ ⟨Nat.le_of_ble_eq_true rfl, Nat.le_of_ble_eq_true rfl⟩ (fun v173 u171 H locs hw172 hP hD hS => ?_)
                            obtain ⟨at174, fa175, pl176⟩ := u171
                            obtain ⟨hw172, h177, h178, h179, h180, h181, h182, h183, h184⟩ := hw172
                            replace h177 : at157 ≤ at174 := h177
                            replace h178 : at174 ≤ T := h178
                            replace h179 : fa158 ≤ fa175 := h179
                            replace h180 : fa175 ≤ 100 := h180
                            replace h181 : If (0 < fa158) (at174 = at157 ∧ fa175 = fa158) := h181
                            replace h182 : at174 ≤ at157 + 1 := h182
                            replace h183 : at157 + 1 ≤ at174 + fa175 := h183
                            replace h184 : If (fa175 = 0) (K at157 = 59) := h184
                            obtain rfl : v173 = none := hw172
                            have hP : va_P G.1 pCl (mW G h0 a (upd (upd (upd (upd (upd (upd (upd (upd (upd (upd (upd (upd (upd (upd (upd F 15 (nI fa175)) 16 pl176) 27 (nI nd)) 31 (nI wr2)) 34 (nI lz)) 35 (nI dc)) 44 (nI (fd2 + 1))) 49 (nI md)) 59 (nI bk)) 60 (nI pr)) 64 (nI at174)) 65 ne0) 66 (nI lk)) 67 (nI (mf2 + 1))) 68 (nI mm)) (updA (stR (stR (stR (stR X2 32 fd2 (nI d)) 33 fd2 x110) 34 fd2 (nI tn2)) 35 fd2 (nI yy)) 2 K)) _ := hP
                            have hD : va_D A (mW G h0 a (upd (upd (upd (upd (upd (upd (upd (upd (upd (upd (upd (upd (upd (upd (upd F 15 (nI fa175)) 16 pl176) 27 (nI nd)) 31 (nI wr2)) 34 (nI lz)) 35 (nI dc)) 44 (nI (fd2 + 1))) 49 (nI md)) 59 (nI bk)) 60 (nI pr)) 64 (nI at174)) 65 ne0) 66 (nI lk)) 67 (nI (mf2 + 1))) 68 (nI mm)) (updA (stR (stR (stR (stR X2 32 fd2 (nI d)) 33 fd2 x110) 34 fd2 (nI tn2)) 35 fd2 (nI yy)) 2 K)) := hD
                            refine W.widen (k := 0) (n := 0) (Nat.le_of_ble_eq_true rfl) (Nat.le_of_ble_eq_true rfl) ?_
                            refine W.eq (g2 := F0 m 322 ls []) rfl ?_
                            obtain ⟨n186, n185⟩ := h181 e168
                            replace n186 := n186.symm
                            subst n186
                            replace n185 := n185.symm
                            subst n185
                            have hz187 : at0 ≤ at157 := (by omega)
                            have hz188 : at157 ≤ T := (by omega)
                            have hz189 : fa158 ≤ 100 := (by omega)
                            have hz190 : at0 + 1 ≤ at157 + fa158 := (by omega)
                            have hz191 : Kq 0 B (stR (stR (stR (stR X2 32 fd2 (nI d)) 33 fd2 x110) 34 fd2 (nI tn2)) 35 fd2 (nI yy)) := hkq127
                            have hz192 : If (fa158 = 0) ((nd ≤ 2 * at157 ∧ wr2 ≤ at157 ∧ lz ≤ at157 ∧ pr ≤ at157 ∧ dc ≤ 37 ∧ dc ≤ dc ∧ bk ≤ md ∧ wr ≤ wr2 ∧ lz ≤ lz) ∧ (md + 240 ≤ 30 * dc + mm ∧ (fd2 + 1) + 160 ≤ 20 * dc + (mf2 + 1) ∧ (mf2 + 1) ≤ 20 ∧ mm ≤ 30 ∧ dc = dc) ∧ PS T nm wr2 lz dc (fd2 + 1) md pr bk (stR (stR (stR (stR X2 32 fd2 (nI d)) 33 fd2 x110) 34 fd2 (nI tn2)) 35 fd2 (nI yy)) ∧ FrM K T wr2 (stR (stR (stR (stR X2 32 fd2 (nI d)) 33 fd2 x110) 34 fd2 (nI tn2)) 35 fd2 (nI yy)) nd md ∧ tkRow ((stR (stR (stR (stR X2 32 fd2 (nI d)) 33 fd2 x110) 34 fd2 (nI tn2)) 35 fd2 (nI yy)) 19) wr2 T ∧ lsRow ((stR (stR (stR (stR X2 32 fd2 (nI d)) 33 fd2 x110) 34 fd2 (nI tn2)) 35 fd2 (nI yy)) 22) ((stR (stR (stR (stR X2 32 fd2 (nI d)) 33 fd2 x110) 34 fd2 (nI tn2)) 35 fd2 (nI yy)) 23) lz T) := (fun e => absurd e (by omega))
                            have hP : va_P G.1 pCl (mW G h0 a (upd (upd (upd (upd (upd (upd (upd (upd (upd (upd (upd (upd (upd (upd (upd F 15 (nI fa158)) 16 pl176) 27 (nI nd)) 31 (nI wr2)) 34 (nI lz)) 35 (nI dc)) 44 (nI (fd2 + 1))) 49 (nI md)) 59 (nI bk)) 60 (nI pr)) 64 (nI at157)) 65 ne0) 66 (nI lk)) 67 (nI (mf2 + 1))) 68 (nI mm)) (updA (stR (stR (stR (stR X2 32 fd2 (nI d)) 33 fd2 x110) 34 fd2 (nI tn2)) 35 fd2 (nI yy)) 2 K)) _ := hP
                            have hD : va_D A (mW G h0 a (upd (upd (upd (upd (upd (upd (upd (upd (upd (upd (upd (upd (upd (upd (upd F 15 (nI fa158)) 16 pl176) 27 (nI nd)) 31 (nI wr2)) 34 (nI lz)) 35 (nI dc)) 44 (nI (fd2 + 1))) 49 (nI md)) 59 (nI bk)) 60 (nI pr)) 64 (nI at157)) 65 ne0) 66 (nI lk)) 67 (nI (mf2 + 1))) 68 (nI mm)) (updA (stR (stR (stR (stR X2 32 fd2 (nI d)) 33 fd2 x110) 34 fd2 (nI tn2)) 35 fd2 (nI yy)) 2 K)) := hD
                            exact W.vret hx hb hr (fun t9 ht9 hW9 => ⟨⟨_, (at157, fa158, pl176, nd, wr2, lz, dc, (fd2 + 1), md, pr, bk, (mf2 + 1), mm, ne0, (stR (stR (stR (stR X2 32 fd2 (nI d)) 33 fd2 x110) 34 fd2 (nI tn2)) 35 fd2 (nI yy))), rfl, ⟨rfl, hz187, hz188, hz189, hz190, hz191, hz192⟩, by rw [ht9]; exact hP, hD⟩, hS.F ht9⟩) hS.2.2 dX12_member_322
                          · have n193 : ¬ (r144 = 0) := fun h9 => c169 ((nI_eq (a := r144) (b := 0) (by omega) (by omega)).mpr h9)
                            refine lv_aload_n hx hb dX12_member_150 rfl (lv_at hl 6 rfl) ?_
                            refine r_get (v := .int (nI fa158)) hx hb hown hq hE hP 15 350 tFX12_15 (by decide) pw_1594 rfl dX12_member_151 ?_
                            refine lv_if_ne (tgt := 316) hx hb dX12_member_154 (by decide) (fun c194 => ?_) (fun c194 => (by have n195 : fa158 = 0 := (nI_eq (a := fa158) (b := 0) (by omega) (by omega)).mp c194; omega))
                            refine lv_aload_n hx hb dX12_member_316 rfl (lv_at hl 6 rfl) ?_
                            refine lv_bipush (v := 59) hx hb dX12_member_317 (by decide) ?_
                            have hP : va_P G.1 pCl (mW G h0 a (upd (upd (upd (upd (upd (upd (upd (upd (upd (upd (upd (upd (upd (upd (upd (upd (upd F 15 (nI fa158)) 16 pl159) 27 (nI nd)) 31 (nI wr2)) 34 (nI lz)) 35 (nI dc)) 44 (nI (fd2 + 1))) 49 (nI md)) 59 (nI bk)) 60 (nI pr)) 64 (nI at157)) 65 ne0) 66 (nI lk)) 67 (nI (mf2 + 1))) 68 (nI mm)) 15 (nI fa158)) 64 (nI at157)) (updA (updA (stR (stR (stR (stR X2 32 fd2 (nI d)) 33 fd2 x110) 34 fd2 (nI tn2)) 35 fd2 (nI yy)) 2 K) 2 K)) _ := hP
                            have hD : va_D A (mW G h0 a (upd (upd (upd (upd (upd (upd (upd (upd (upd (upd (upd (upd (upd (upd (upd (upd (upd F 15 (nI fa158)) 16 pl159) 27 (nI nd)) 31 (nI wr2)) 34 (nI lz)) 35 (nI dc)) 44 (nI (fd2 + 1))) 49 (nI md)) 59 (nI bk)) 60 (nI pr)) 64 (nI at157)) 65 ne0) 66 (nI lk)) 67 (nI (mf2 + 1))) 68 (nI mm)) 15 (nI fa158)) 64 (nI at157)) (updA (updA (stR (stR (stR (stR X2 32 fd2 (nI d)) 33 fd2 x110) 34 fd2 (nI tn2)) 35 fd2 (nI yy)) 2 K) 2 K)) := hD
                            refine pc_V0 (G := G) (As := [.int 59]) (rest := []) hx hb hml hown hq hE hX pX0_al hP hD hS hA hl.1 (R_take l G h0 a (upd (upd (upd (upd (upd (upd (upd (upd (upd (upd (upd (upd (upd (upd (upd F 15 (nI fa158)) 16 pl159) 27 (nI nd)) 31 (nI wr2)) 34 (nI lz)) 35 (nI dc)) 44 (nI (fd2 + 1))) 49 (nI md)) 59 (nI bk)) 60 (nI pr)) 64 (nI at157)) 65 ne0) 66 (nI lk)) 67 (nI (mf2 + 1))) 68 (nI mm)) (updA (stR (stR (stR (stR X2 32 fd2 (nI d)) 33 fd2 x110) 34 fd2 (nI tn2)) 35 fd2 (nI yy)) 2 K) at157 T fa158 K 59 (by omega) (by omega) hK (by omega) (by decide) (by decide)) (gV pw_1614 pw_1615 pw_1616 pw_1523 pw_1601) hV_X12_take 0 9 rfl rfl rfl rfl (Nat.le_of_ble_eq_true rfl) dX12_member_319 ⟨Nat.le_of_ble_eq_true rfl, Nat.le_of_ble_eq_true rfl⟩ ⟨Nat.le_of_ble_eq_true rfl, Nat.le_of_ble_eq_true rfl⟩ (fun v198 u196 H locs hw197 hP hD hS => ?_)
                            obtain ⟨at199, fa200, pl201⟩ := u196
                            obtain ⟨hw197, h202, h203, h204, h205, h206, h207, h208, h209⟩ := hw197
                            replace h202 : at157 ≤ at199 := h202
                            replace h203 : at199 ≤ T := h203
                            replace h204 : fa158 ≤ fa200 := h204
                            replace h205 : fa200 ≤ 100 := h205
                            replace h206 : If (0 < fa158) (at199 = at157 ∧ fa200 = fa158) := h206
                            replace h207 : at199 ≤ at157 + 1 := h207
                            replace h208 : at157 + 1 ≤ at199 + fa200 := h208
                            replace h209 : If (fa200 = 0) (K at157 = 59) := h209
                            obtain rfl : v198 = none := hw197
                            have hP : va_P G.1 pCl (mW G h0 a (upd (upd (upd (upd (upd (upd (upd (upd (upd (upd (upd (upd (upd (upd (upd F 15 (nI fa200)) 16 pl201) 27 (nI nd)) 31 (nI wr2)) 34 (nI lz)) 35 (nI dc)) 44 (nI (fd2 + 1))) 49 (nI md)) 59 (nI bk)) 60 (nI pr)) 64 (nI at199)) 65 ne0) 66 (nI lk)) 67 (nI (mf2 + 1))) 68 (nI mm)) (updA (stR (stR (stR (stR X2 32 fd2 (nI d)) 33 fd2 x110) 34 fd2 (nI tn2)) 35 fd2 (nI yy)) 2 K)) _ := hP
                            have hD : va_D A (mW G h0 a (upd (upd (upd (upd (upd (upd (upd (upd (upd (upd (upd (upd (upd (upd (upd F 15 (nI fa200)) 16 pl201) 27 (nI nd)) 31 (nI wr2)) 34 (nI lz)) 35 (nI dc)) 44 (nI (fd2 + 1))) 49 (nI md)) 59 (nI bk)) 60 (nI pr)) 64 (nI at199)) 65 ne0) 66 (nI lk)) 67 (nI (mf2 + 1))) 68 (nI mm)) (updA (stR (stR (stR (stR X2 32 fd2 (nI d)) 33 fd2 x110) 34 fd2 (nI tn2)) 35 fd2 (nI yy)) 2 K)) := hD
                            refine W.widen (k := 0) (n := 0) (Nat.le_of_ble_eq_true rfl) (Nat.le_of_ble_eq_true rfl) ?_
                            refine W.eq (g2 := F0 m 322 ls []) rfl ?_
                            obtain ⟨n211, n210⟩ := h206 e168
                            replace n211 := n211.symm
                            subst n211
                            replace n210 := n210.symm
                            subst n210
                            have hz212 : at0 ≤ at157 := (by omega)
                            have hz213 : at157 ≤ T := (by omega)
                            have hz214 : fa158 ≤ 100 := (by omega)
                            have hz215 : at0 + 1 ≤ at157 + fa158 := (by omega)
                            have hz216 : Kq 0 B (stR (stR (stR (stR X2 32 fd2 (nI d)) 33 fd2 x110) 34 fd2 (nI tn2)) 35 fd2 (nI yy)) := hkq127
                            have hz217 : If (fa158 = 0) ((nd ≤ 2 * at157 ∧ wr2 ≤ at157 ∧ lz ≤ at157 ∧ pr ≤ at157 ∧ dc ≤ 37 ∧ dc ≤ dc ∧ bk ≤ md ∧ wr ≤ wr2 ∧ lz ≤ lz) ∧ (md + 240 ≤ 30 * dc + mm ∧ (fd2 + 1) + 160 ≤ 20 * dc + (mf2 + 1) ∧ (mf2 + 1) ≤ 20 ∧ mm ≤ 30 ∧ dc = dc) ∧ PS T nm wr2 lz dc (fd2 + 1) md pr bk (stR (stR (stR (stR X2 32 fd2 (nI d)) 33 fd2 x110) 34 fd2 (nI tn2)) 35 fd2 (nI yy)) ∧ FrM K T wr2 (stR (stR (stR (stR X2 32 fd2 (nI d)) 33 fd2 x110) 34 fd2 (nI tn2)) 35 fd2 (nI yy)) nd md ∧ tkRow ((stR (stR (stR (stR X2 32 fd2 (nI d)) 33 fd2 x110) 34 fd2 (nI tn2)) 35 fd2 (nI yy)) 19) wr2 T ∧ lsRow ((stR (stR (stR (stR X2 32 fd2 (nI d)) 33 fd2 x110) 34 fd2 (nI tn2)) 35 fd2 (nI yy)) 22) ((stR (stR (stR (stR X2 32 fd2 (nI d)) 33 fd2 x110) 34 fd2 (nI tn2)) 35 fd2 (nI yy)) 23) lz T) := (fun e => absurd e (by omega))
                            have hP : va_P G.1 pCl (mW G h0 a (upd (upd (upd (upd (upd (upd (upd (upd (upd (upd (upd (upd (upd (upd (upd F 15 (nI fa158)) 16 pl201) 27 (nI nd)) 31 (nI wr2)) 34 (nI lz)) 35 (nI dc)) 44 (nI (fd2 + 1))) 49 (nI md)) 59 (nI bk)) 60 (nI pr)) 64 (nI at157)) 65 ne0) 66 (nI lk)) 67 (nI (mf2 + 1))) 68 (nI mm)) (updA (stR (stR (stR (stR X2 32 fd2 (nI d)) 33 fd2 x110) 34 fd2 (nI tn2)) 35 fd2 (nI yy)) 2 K)) _ := hP
                            have hD : va_D A (mW G h0 a (upd (upd (upd (upd (upd (upd (upd (upd (upd (upd (upd (upd (upd (upd (upd F 15 (nI fa158)) 16 pl201) 27 (nI nd)) 31 (nI wr2)) 34 (nI lz)) 35 (nI dc)) 44 (nI (fd2 + 1))) 49 (nI md)) 59 (nI bk)) 60 (nI pr)) 64 (nI at157)) 65 ne0) 66 (nI lk)) 67 (nI (mf2 + 1))) 68 (nI mm)) (updA (stR (stR (stR (stR X2 32 fd2 (nI d)) 33 fd2 x110) 34 fd2 (nI tn2)) 35 fd2 (nI yy)) 2 K)) := hD
                            exact W.vret hx hb hr (fun t9 ht9 hW9 => ⟨⟨_, (at157, fa158, pl201, nd, wr2, lz, dc, (fd2 + 1), md, pr, bk, (mf2 + 1), mm, ne0, (stR (stR (stR (stR X2 32 fd2 (nI d)) 33 fd2 x110) 34 fd2 (nI tn2)) 35 fd2 (nI yy))), rfl, ⟨rfl, hz212, hz213, hz214, hz215, hz216, hz217⟩, by rw [ht9]; exact hP, hD⟩, hS.F ht9⟩) hS.2.2 dX12_member_322
                    · have n218 : mf2 = 20 := (nI_eq (a := mf2) (b := 20) (by omega) (by omega)).mp c99
                      refine lv_aload_n hx hb dX12_member_209 rfl (lv_at hl 6 rfl) ?_
                      refine lv_iconst (v := 2) hx hb dX12_member_210 (by decide) ?_
                      refine lv_iload hx hb dX12_member_211 (lv_at hl 3 rfl) ?_
                      have hP : va_P G.1 pCl (mW G h0 a (upd (upd (upd (upd (upd (upd (upd (upd (upd (upd (upd (upd (upd (upd (upd (upd F 15 0) 16 pl2) 27 (nI nd)) 31 (nI wr2)) 34 (nI lz)) 35 (nI dc)) 44 (nI fd2)) 49 (nI md)) 59 (nI bk)) 60 (nI pr)) 64 (nI at2)) 65 ne0) 66 (nI lk)) 67 (nI mf2)) 68 (nI mm)) 15 (nI 0)) (updA X2 2 K)) _ := hP
                      have hD : va_D A (mW G h0 a (upd (upd (upd (upd (upd (upd (upd (upd (upd (upd (upd (upd (upd (upd (upd (upd F 15 0) 16 pl2) 27 (nI nd)) 31 (nI wr2)) 34 (nI lz)) 35 (nI dc)) 44 (nI fd2)) 49 (nI md)) 59 (nI bk)) 60 (nI pr)) 64 (nI at2)) 65 ne0) 66 (nI lk)) 67 (nI mf2)) 68 (nI mm)) 15 (nI 0)) (updA X2 2 K)) := hD
                      refine pc_V0 (G := G) (As := [.int (nI 2), .int (nI tn2)]) (rest := []) hx hb hml hown hq hE hX pX0_al hP hD hS hA hl.1 (R_badAt l G h0 a (upd (upd (upd (upd (upd (upd (upd (upd (upd (upd (upd (upd (upd (upd (upd F 15 0) 16 pl2) 27 (nI nd)) 31 (nI wr2)) 34 (nI lz)) 35 (nI dc)) 44 (nI fd2)) 49 (nI md)) 59 (nI bk)) 60 (nI pr)) 64 (nI at2)) 65 ne0) 66 (nI lk)) 67 (nI mf2)) 68 (nI mm)) (updA X2 2 K) 2 tn2 0 (by omega) (by omega) (by omega)) (gV pw_1597 pw_1598 pw_1599 pw_1523 pw_1593) hV_X12_badAt 0 9 rfl rfl rfl rfl (Nat.le_of_ble_eq_true rfl) dX12_member_213 ⟨Nat.le_of_ble_eq_true rfl, Nat.le_of_ble_eq_true rfl⟩ ⟨Nat.le_of_ble_eq_true rfl, Nat.le_of_ble_eq_true rfl⟩ (fun v221 u219 H locs hw220 hP hD hS => ?_)
                      obtain ⟨fa222, pl223⟩ := u219
                      obtain ⟨hw220, h224, h225, h226, h227⟩ := hw220
                      replace h224 : 0 ≤ fa222 := h224
                      replace h225 : fa222 ≤ 0 + 2 := h225
                      replace h226 : 0 < fa222 := h226
                      replace h227 : If (0 < 0) (fa222 = 0) := h227
                      obtain rfl : v221 = none := hw220
                      have hP : va_P G.1 pCl (mW G h0 a (upd (upd (upd (upd (upd (upd (upd (upd (upd (upd (upd (upd (upd (upd (upd F 15 (nI fa222)) 16 pl223) 27 (nI nd)) 31 (nI wr2)) 34 (nI lz)) 35 (nI dc)) 44 (nI fd2)) 49 (nI md)) 59 (nI bk)) 60 (nI pr)) 64 (nI at2)) 65 ne0) 66 (nI lk)) 67 (nI mf2)) 68 (nI mm)) (updA X2 2 K)) _ := hP
                      have hD : va_D A (mW G h0 a (upd (upd (upd (upd (upd (upd (upd (upd (upd (upd (upd (upd (upd (upd (upd F 15 (nI fa222)) 16 pl223) 27 (nI nd)) 31 (nI wr2)) 34 (nI lz)) 35 (nI dc)) 44 (nI fd2)) 49 (nI md)) 59 (nI bk)) 60 (nI pr)) 64 (nI at2)) 65 ne0) 66 (nI lk)) 67 (nI mf2)) 68 (nI mm)) (updA X2 2 K)) := hD
                      refine W.widen (k := 0) (n := 0) (Nat.le_of_ble_eq_true rfl) (Nat.le_of_ble_eq_true rfl) ?_
                      refine W.eq (g2 := F0 m 216 ls []) rfl ?_
                      refine lv_aload_n hx hb dX12_member_216 rfl (lv_at hl 6 rfl) ?_
                      refine r_get (v := .int (nI fa222)) hx hb hown hq hE hP 15 350 tFX12_15 (by decide) pw_1594 rfl dX12_member_217 ?_
                      refine lv_if_le (tgt := 224) hx hb dX12_member_220 (by decide) (fun c228 => (by have n229 : fa222 ≤ 0 := (nI_leI (a := fa222) (b := 0) (by omega) (by omega)).mp c228; omega)) (fun c228 => ?_)
                      have hz230 : at0 ≤ at2 := (by omega)
                      have hz231 : at2 ≤ T := (by omega)
                      have hz232 : fa222 ≤ 100 := (by omega)
                      have hz233 : at0 + 1 ≤ at2 + fa222 := (by omega)
                      have hz234 : Kq 0 B X2 := hkq2
                      have hz235 : If (fa222 = 0) ((nd ≤ 2 * at2 ∧ wr2 ≤ at2 ∧ lz ≤ at2 ∧ pr ≤ at2 ∧ dc ≤ 37 ∧ dc ≤ dc ∧ bk ≤ md ∧ wr ≤ wr2 ∧ lz ≤ lz) ∧ (md + 240 ≤ 30 * dc + mm ∧ fd2 + 160 ≤ 20 * dc + mf2 ∧ mf2 ≤ 20 ∧ mm ≤ 30 ∧ dc = dc) ∧ PS T nm wr2 lz dc fd2 md pr bk X2 ∧ FrM K T wr2 X2 nd md ∧ tkRow (X2 19) wr2 T ∧ lsRow (X2 22) (X2 23) lz T) := (fun e => absurd e (by omega))
                      have hP : va_P G.1 pCl (mW G h0 a (upd (upd (upd (upd (upd (upd (upd (upd (upd (upd (upd (upd (upd (upd (upd F 15 (nI fa222)) 16 pl223) 27 (nI nd)) 31 (nI wr2)) 34 (nI lz)) 35 (nI dc)) 44 (nI fd2)) 49 (nI md)) 59 (nI bk)) 60 (nI pr)) 64 (nI at2)) 65 ne0) 66 (nI lk)) 67 (nI mf2)) 68 (nI mm)) (updA X2 2 K)) _ := hP
                      have hD : va_D A (mW G h0 a (upd (upd (upd (upd (upd (upd (upd (upd (upd (upd (upd (upd (upd (upd (upd F 15 (nI fa222)) 16 pl223) 27 (nI nd)) 31 (nI wr2)) 34 (nI lz)) 35 (nI dc)) 44 (nI fd2)) 49 (nI md)) 59 (nI bk)) 60 (nI pr)) 64 (nI at2)) 65 ne0) 66 (nI lk)) 67 (nI mf2)) 68 (nI mm)) (updA X2 2 K)) := hD
                      exact W.vret hx hb hr (fun t9 ht9 hW9 => ⟨⟨_, (at2, fa222, pl223, nd, wr2, lz, dc, fd2, md, pr, bk, mf2, mm, ne0, X2), rfl, ⟨rfl, hz230, hz231, hz232, hz233, hz234, hz235⟩, by rw [ht9]; exact hP, hD⟩, hS.F ht9⟩) hS.2.2 dX12_member_223
                  · have n236 : ¬ (fs = 0) := fun h9 => c96 ((nI_eq (a := fs) (b := 0) (by omega) (by omega)).mpr h9)
                    refine lv_aload_n hx hb dX12_member_162 rfl (lv_at hl 5 rfl) ?_
                    have hP : va_P G.1 pCl (mW G h0 a (upd (upd (upd (upd (upd (upd (upd (upd (upd (upd (upd (upd (upd (upd (upd (upd (upd F 15 0) 16 pl2) 27 (nI nd)) 31 (nI wr2)) 34 (nI lz)) 35 (nI dc)) 44 (nI fd2)) 49 (nI md)) 59 (nI bk)) 60 (nI pr)) 64 (nI at2)) 65 ne0) 66 (nI lk)) 67 (nI mf2)) 68 (nI mm)) 15 (nI 0)) 64 (nI at2)) (updA (updA X2 2 K) 2 K)) _ := hP
                    have hD : va_D A (mW G h0 a (upd (upd (upd (upd (upd (upd (upd (upd (upd (upd (upd (upd (upd (upd (upd (upd (upd F 15 0) 16 pl2) 27 (nI nd)) 31 (nI wr2)) 34 (nI lz)) 35 (nI dc)) 44 (nI fd2)) 49 (nI md)) 59 (nI bk)) 60 (nI pr)) 64 (nI at2)) 65 ne0) 66 (nI lk)) 67 (nI mf2)) 68 (nI mm)) 15 (nI 0)) 64 (nI at2)) (updA (updA X2 2 K) 2 K)) := hD
                    refine pc_V0 (G := G) (As := []) (rest := []) hx hb hml hown hq hE hX pX0_al hP hD hS hA hl.1 (R_kind l G h0 a (upd (upd (upd (upd (upd (upd (upd (upd (upd (upd (upd (upd (upd (upd (upd F 15 0) 16 pl2) 27 (nI nd)) 31 (nI wr2)) 34 (nI lz)) 35 (nI dc)) 44 (nI fd2)) 49 (nI md)) 59 (nI bk)) 60 (nI pr)) 64 (nI at2)) 65 ne0) 66 (nI lk)) 67 (nI mf2)) 68 (nI mm)) (updA X2 2 K) at2 T 0 K (by omega) (by omega) hK (by omega)) (gV pw_1626 pw_1627 pw_1628 pw_1523 pw_1591) hV_X12_kind 0 9 rfl rfl rfl rfl (Nat.le_of_ble_eq_true rfl) dX12_member_163 ⟨Nat.le_of_ble_eq_true rfl, Nat.le_of_ble_eq_true rfl⟩ ⟨Nat.le_of_ble_eq_true rfl, Nat.le_of_ble_eq_true rfl⟩ (fun v239 u237 H locs hw238 hP hD hS => ?_)
                    obtain rfl : v239 = some (.int (K at2)) := hw238
                    have hP : va_P G.1 pCl (mW G h0 a (upd (upd (upd (upd (upd (upd (upd (upd (upd (upd (upd (upd (upd (upd (upd F 15 0) 16 pl2) 27 (nI nd)) 31 (nI wr2)) 34 (nI lz)) 35 (nI dc)) 44 (nI fd2)) 49 (nI md)) 59 (nI bk)) 60 (nI pr)) 64 (nI at2)) 65 ne0) 66 (nI lk)) 67 (nI mf2)) 68 (nI mm)) (updA X2 2 K)) _ := hP
                    have hD : va_D A (mW G h0 a (upd (upd (upd (upd (upd (upd (upd (upd (upd (upd (upd (upd (upd (upd (upd F 15 0) 16 pl2) 27 (nI nd)) 31 (nI wr2)) 34 (nI lz)) 35 (nI dc)) 44 (nI fd2)) 49 (nI md)) 59 (nI bk)) 60 (nI pr)) 64 (nI at2)) 65 ne0) 66 (nI lk)) 67 (nI mf2)) 68 (nI mm)) (updA X2 2 K)) := hD
                    refine W.widen (k := 0) (n := 0) (Nat.le_of_ble_eq_true rfl) (Nat.le_of_ble_eq_true rfl) ?_
                    refine W.eq (g2 := F0 m 166 ls [.int (K at2)]) rfl ?_
                    refine lv_bipush (v := 44) hx hb dX12_member_166 (by decide) ?_
                    refine lv_icmp_eq (tgt := 180) hx hb dX12_member_168 (by decide) (fun c240 => ?_) (fun c240 => ?_)
                    · refine lv_iconst (v := 1) hx hb dX12_member_180 (by decide) ?_
                      refine lv_goto (tgt := 185) hx hb dX12_member_181 (by decide) ?_
                      refine lv_istore (lv' := [(7, .int 1), (6, .int (nI fs)), (5, .int (nI mo)), (4, .int (nI tn2)), (3, .int (nI yy)), (1, .int (nI d)), (0, .ref h0)]) hx hb dX12_member_185 hl (by decide) rfl (fun ls hl => ?_)
                      refine lv_iload hx hb dX12_member_187 (lv_at hl 0 rfl) ?_
                      refine lv_if_ne (tgt := 200) hx hb dX12_member_189 (by decide) (fun c241 => ?_) (fun c241 => absurd c241 (by decide))
                      refine lv_aload_n hx hb dX12_member_200 rfl (lv_at hl 6 rfl) ?_
                      refine r_get (v := .int (nI mf2)) hx hb hown hq hE hP 67 390 tFX12_67 (by decide) pw_1726 rfl dX12_member_201 ?_
                      refine lv_bipush (v := 20) hx hb dX12_member_204 (by decide) ?_
                      refine lv_icmp_ne (tgt := 216) hx hb dX12_member_206 (by decide) (fun c242 => ?_) (fun c242 => ?_)
                      · have n243 : ¬ (mf2 = 20) := fun h9 => c242 ((nI_eq (a := mf2) (b := 20) (by omega) (by omega)).mpr h9)
                        refine lv_aload_n hx hb dX12_member_216 rfl (lv_at hl 6 rfl) ?_
                        refine r_get (v := .int 0) hx hb hown hq hE hP 15 350 tFX12_15 (by decide) pw_1594 rfl dX12_member_217 ?_
                        refine lv_if_le (tgt := 224) hx hb dX12_member_220 (by decide) (fun c244 => ?_) (fun c244 => absurd c244 (by decide))
                        refine lv_aload_n hx hb dX12_member_224 rfl (lv_at hl 6 rfl) ?_
                        refine r_get (v := .ref (a 32)) hx hb hown hq hE hP 45 108 tFX12_45 (by decide) pw_1463 rfl dX12_member_225 ?_
                        refine lv_aload_n hx hb dX12_member_228 rfl (lv_at hl 6 rfl) ?_
                        refine r_get (v := .int (nI fd2)) hx hb hown hq hE hP 44 413 tFX12_44 (by decide) pw_1727 rfl dX12_member_229 ?_
                        refine lv_iload_n hx hb dX12_member_232 rfl (lv_at hl 5 rfl) ?_
                        refine r_sti (f := (X2 32)) (j := fd2) hx hb hE hP hD hS 32 (ma_32 G a _) rfl (mas_32 G a _) (by omega) (by decide) dX12_member_233 (fun H locs hP hD hS => ?_)
                        have hP : va_P G.1 pCl (mW G h0 a (upd (upd (upd (upd (upd (upd (upd (upd (upd (upd (upd (upd (upd (upd (upd F 15 0) 16 pl2) 27 (nI nd)) 31 (nI wr2)) 34 (nI lz)) 35 (nI dc)) 44 (nI fd2)) 49 (nI md)) 59 (nI bk)) 60 (nI pr)) 64 (nI at2)) 65 ne0) 66 (nI lk)) 67 (nI mf2)) 68 (nI mm)) (updA (stR X2 32 fd2 (nI d)) 2 K)) _ := hP
                        have hD : va_D A (mW G h0 a (upd (upd (upd (upd (upd (upd (upd (upd (upd (upd (upd (upd (upd (upd (upd F 15 0) 16 pl2) 27 (nI nd)) 31 (nI wr2)) 34 (nI lz)) 35 (nI dc)) 44 (nI fd2)) 49 (nI md)) 59 (nI bk)) 60 (nI pr)) 64 (nI at2)) 65 ne0) 66 (nI lk)) 67 (nI mf2)) 68 (nI mm)) (updA (stR X2 32 fd2 (nI d)) 2 K)) := hD
                        have hkq245 : Kq 0 B (stR X2 32 fd2 (nI d)) := (Kq.st hkq2 (by omega))
                        have hty246 : tkRow ((stR X2 32 fd2 (nI d)) 19) wr2 T := hy2
                        have hps247 : PS T nm wr2 lz dc fd2 md pr bk (stR X2 32 fd2 (nI d)) := (PS.same hps2 (by omega) (by omega) (fun r i q1 q2 q3 => st_ne (fun e => by rw [e.1, e.2] at q3; exact absurd (show fd2 < fd2 from q3) (by omega))))
                        have hfm248 : FrM K T wr2 (stR X2 32 fd2 (nI d)) nd md := (FrM.same hfm2 (by omega) (fun j i q1 q2 q3 => st_ne (by omega)) (fun i q => st_ne (by omega)))
                        have hlr249 : lsRow ((stR X2 32 fd2 (nI d)) 22) ((stR X2 32 fd2 (nI d)) 23) lz T := hlr2
                        have hce250 : (stR X2 32 fd2 (nI d)) 32 fd2 = (nI d) := st_eq
                        refine lv_aload_n hx hb dX12_member_234 rfl (lv_at hl 6 rfl) ?_
                        refine r_get (v := .ref (a 33)) hx hb hown hq hE hP 46 111 tFX12_46 (by decide) pw_1464 rfl dX12_member_235 ?_
                        refine lv_aload_n hx hb dX12_member_238 rfl (lv_at hl 6 rfl) ?_
                        refine r_get (v := .int (nI fd2)) hx hb hown hq hE hP 44 413 tFX12_44 (by decide) pw_1727 rfl dX12_member_239 ?_
                        refine lv_aload_n hx hb dX12_member_242 rfl (lv_at hl 6 rfl) ?_
                        refine r_get (v := .ref (a 5)) hx hb hown hq hE hP 8 25 tFX12_8 (by decide) pw_1435 rfl dX12_member_243 ?_
                        refine lv_iload hx hb dX12_member_246 (lv_at hl 3 rfl) ?_
                        refine r_ldi (f := ((stR X2 32 fd2 (nI d)) 5)) (j := tn2) hx hb hE hP 5 (ma_5 G a _) rfl (by omega) (by decide) dX12_member_248 ?_
                        refine lv_topi (fun x253 e254 => ?_)
                        refine r_sti (f := ((stR X2 32 fd2 (nI d)) 33)) (j := fd2) hx hb hE hP hD hS 33 (ma_33 G a _) rfl (mas_33 G a _) (by omega) (by decide) dX12_member_249 (fun H locs hP hD hS => ?_)
                        have hP : va_P G.1 pCl (mW G h0 a (upd (upd (upd (upd (upd (upd (upd (upd (upd (upd (upd (upd (upd (upd (upd F 15 0) 16 pl2) 27 (nI nd)) 31 (nI wr2)) 34 (nI lz)) 35 (nI dc)) 44 (nI fd2)) 49 (nI md)) 59 (nI bk)) 60 (nI pr)) 64 (nI at2)) 65 ne0) 66 (nI lk)) 67 (nI mf2)) 68 (nI mm)) (updA (stR (stR X2 32 fd2 (nI d)) 33 fd2 x253) 2 K)) _ := hP
                        have hD : va_D A (mW G h0 a (upd (upd (upd (upd (upd (upd (upd (upd (upd (upd (upd (upd (upd (upd (upd F 15 0) 16 pl2) 27 (nI nd)) 31 (nI wr2)) 34 (nI lz)) 35 (nI dc)) 44 (nI fd2)) 49 (nI md)) 59 (nI bk)) 60 (nI pr)) 64 (nI at2)) 65 ne0) 66 (nI lk)) 67 (nI mf2)) 68 (nI mm)) (updA (stR (stR X2 32 fd2 (nI d)) 33 fd2 x253) 2 K)) := hD
                        have hkq255 : Kq 0 B (stR (stR X2 32 fd2 (nI d)) 33 fd2 x253) := (Kq.st hkq245 (by omega))
                        have hce256 : (stR (stR X2 32 fd2 (nI d)) 33 fd2 x253) 32 fd2 = (nI d) := ((st_ne (by omega)).trans hce250)
                        have hty257 : tkRow ((stR (stR X2 32 fd2 (nI d)) 33 fd2 x253) 19) wr2 T := hty246
                        have hps258 : PS T nm wr2 lz dc fd2 md pr bk (stR (stR X2 32 fd2 (nI d)) 33 fd2 x253) := (PS.same hps247 (by omega) (by omega) (fun r i q1 q2 q3 => st_ne (fun e => by rw [e.1, e.2] at q3; exact absurd (show fd2 < fd2 from q3) (by omega))))
                        have hfm259 : FrM K T wr2 (stR (stR X2 32 fd2 (nI d)) 33 fd2 x253) nd md := (FrM.same hfm248 (by omega) (fun j i q1 q2 q3 => st_ne (by omega)) (fun i q => st_ne (by omega)))
                        have hlr260 : lsRow ((stR (stR X2 32 fd2 (nI d)) 33 fd2 x253) 22) ((stR (stR X2 32 fd2 (nI d)) 33 fd2 x253) 23) lz T := hlr249
                        have hce261 : (stR (stR X2 32 fd2 (nI d)) 33 fd2 x253) 33 fd2 = x253 := st_eq
                        refine lv_aload_n hx hb dX12_member_250 rfl (lv_at hl 6 rfl) ?_
                        refine r_get (v := .ref (a 34)) hx hb hown hq hE hP 47 114 tFX12_47 (by decide) pw_1465 rfl dX12_member_251 ?_
                        refine lv_aload_n hx hb dX12_member_254 rfl (lv_at hl 6 rfl) ?_
                        refine r_get (v := .int (nI fd2)) hx hb hown hq hE hP 44 413 tFX12_44 (by decide) pw_1727 rfl dX12_member_255 ?_
                        refine lv_iload hx hb dX12_member_258 (lv_at hl 3 rfl) ?_
                        refine r_sti (f := ((stR (stR X2 32 fd2 (nI d)) 33 fd2 x253) 34)) (j := fd2) hx hb hE hP hD hS 34 (ma_34 G a _) rfl (mas_34 G a _) (by omega) (by decide) dX12_member_260 (fun H locs hP hD hS => ?_)
                        have hP : va_P G.1 pCl (mW G h0 a (upd (upd (upd (upd (upd (upd (upd (upd (upd (upd (upd (upd (upd (upd (upd F 15 0) 16 pl2) 27 (nI nd)) 31 (nI wr2)) 34 (nI lz)) 35 (nI dc)) 44 (nI fd2)) 49 (nI md)) 59 (nI bk)) 60 (nI pr)) 64 (nI at2)) 65 ne0) 66 (nI lk)) 67 (nI mf2)) 68 (nI mm)) (updA (stR (stR (stR X2 32 fd2 (nI d)) 33 fd2 x253) 34 fd2 (nI tn2)) 2 K)) _ := hP
                        have hD : va_D A (mW G h0 a (upd (upd (upd (upd (upd (upd (upd (upd (upd (upd (upd (upd (upd (upd (upd F 15 0) 16 pl2) 27 (nI nd)) 31 (nI wr2)) 34 (nI lz)) 35 (nI dc)) 44 (nI fd2)) 49 (nI md)) 59 (nI bk)) 60 (nI pr)) 64 (nI at2)) 65 ne0) 66 (nI lk)) 67 (nI mf2)) 68 (nI mm)) (updA (stR (stR (stR X2 32 fd2 (nI d)) 33 fd2 x253) 34 fd2 (nI tn2)) 2 K)) := hD
                        have hkq262 : Kq 0 B (stR (stR (stR X2 32 fd2 (nI d)) 33 fd2 x253) 34 fd2 (nI tn2)) := (Kq.st hkq255 (by omega))
                        have hce263 : (stR (stR (stR X2 32 fd2 (nI d)) 33 fd2 x253) 34 fd2 (nI tn2)) 32 fd2 = (nI d) := ((st_ne (by omega)).trans hce256)
                        have hce264 : (stR (stR (stR X2 32 fd2 (nI d)) 33 fd2 x253) 34 fd2 (nI tn2)) 33 fd2 = x253 := ((st_ne (by omega)).trans hce261)
                        have hty265 : tkRow ((stR (stR (stR X2 32 fd2 (nI d)) 33 fd2 x253) 34 fd2 (nI tn2)) 19) wr2 T := hty257
                        have hps266 : PS T nm wr2 lz dc fd2 md pr bk (stR (stR (stR X2 32 fd2 (nI d)) 33 fd2 x253) 34 fd2 (nI tn2)) := (PS.same hps258 (by omega) (by omega) (fun r i q1 q2 q3 => st_ne (fun e => by rw [e.1, e.2] at q3; exact absurd (show fd2 < fd2 from q3) (by omega))))
                        have hfm267 : FrM K T wr2 (stR (stR (stR X2 32 fd2 (nI d)) 33 fd2 x253) 34 fd2 (nI tn2)) nd md := (FrM.same hfm259 (by omega) (fun j i q1 q2 q3 => st_ne (by omega)) (fun i q => st_ne (by omega)))
                        have hlr268 : lsRow ((stR (stR (stR X2 32 fd2 (nI d)) 33 fd2 x253) 34 fd2 (nI tn2)) 22) ((stR (stR (stR X2 32 fd2 (nI d)) 33 fd2 x253) 34 fd2 (nI tn2)) 23) lz T := hlr260
                        have hce269 : (stR (stR (stR X2 32 fd2 (nI d)) 33 fd2 x253) 34 fd2 (nI tn2)) 34 fd2 = (nI tn2) := st_eq
                        refine lv_aload_n hx hb dX12_member_261 rfl (lv_at hl 6 rfl) ?_
                        refine r_get (v := .ref (a 35)) hx hb hown hq hE hP 48 117 tFX12_48 (by decide) pw_1466 rfl dX12_member_262 ?_
                        refine lv_aload_n hx hb dX12_member_265 rfl (lv_at hl 6 rfl) ?_
                        refine r_get (v := .int (nI fd2)) hx hb hown hq hE hP 44 413 tFX12_44 (by decide) pw_1727 rfl dX12_member_266 ?_
                        refine lv_iload_n hx hb dX12_member_269 rfl (lv_at hl 4 rfl) ?_
                        refine r_sti (f := ((stR (stR (stR X2 32 fd2 (nI d)) 33 fd2 x253) 34 fd2 (nI tn2)) 35)) (j := fd2) hx hb hE hP hD hS 35 (ma_35 G a _) rfl (mas_35 G a _) (by omega) (by decide) dX12_member_270 (fun H locs hP hD hS => ?_)
                        have hP : va_P G.1 pCl (mW G h0 a (upd (upd (upd (upd (upd (upd (upd (upd (upd (upd (upd (upd (upd (upd (upd F 15 0) 16 pl2) 27 (nI nd)) 31 (nI wr2)) 34 (nI lz)) 35 (nI dc)) 44 (nI fd2)) 49 (nI md)) 59 (nI bk)) 60 (nI pr)) 64 (nI at2)) 65 ne0) 66 (nI lk)) 67 (nI mf2)) 68 (nI mm)) (updA (stR (stR (stR (stR X2 32 fd2 (nI d)) 33 fd2 x253) 34 fd2 (nI tn2)) 35 fd2 (nI yy)) 2 K)) _ := hP
                        have hD : va_D A (mW G h0 a (upd (upd (upd (upd (upd (upd (upd (upd (upd (upd (upd (upd (upd (upd (upd F 15 0) 16 pl2) 27 (nI nd)) 31 (nI wr2)) 34 (nI lz)) 35 (nI dc)) 44 (nI fd2)) 49 (nI md)) 59 (nI bk)) 60 (nI pr)) 64 (nI at2)) 65 ne0) 66 (nI lk)) 67 (nI mf2)) 68 (nI mm)) (updA (stR (stR (stR (stR X2 32 fd2 (nI d)) 33 fd2 x253) 34 fd2 (nI tn2)) 35 fd2 (nI yy)) 2 K)) := hD
                        have hkq270 : Kq 0 B (stR (stR (stR (stR X2 32 fd2 (nI d)) 33 fd2 x253) 34 fd2 (nI tn2)) 35 fd2 (nI yy)) := (Kq.st hkq262 (by omega))
                        have hce271 : (stR (stR (stR (stR X2 32 fd2 (nI d)) 33 fd2 x253) 34 fd2 (nI tn2)) 35 fd2 (nI yy)) 32 fd2 = (nI d) := ((st_ne (by omega)).trans hce263)
                        have hce272 : (stR (stR (stR (stR X2 32 fd2 (nI d)) 33 fd2 x253) 34 fd2 (nI tn2)) 35 fd2 (nI yy)) 33 fd2 = x253 := ((st_ne (by omega)).trans hce264)
                        have hce273 : (stR (stR (stR (stR X2 32 fd2 (nI d)) 33 fd2 x253) 34 fd2 (nI tn2)) 35 fd2 (nI yy)) 34 fd2 = (nI tn2) := ((st_ne (by omega)).trans hce269)
                        have hty274 : tkRow ((stR (stR (stR (stR X2 32 fd2 (nI d)) 33 fd2 x253) 34 fd2 (nI tn2)) 35 fd2 (nI yy)) 19) wr2 T := hty265
                        have hps275 : PS T nm wr2 lz dc fd2 md pr bk (stR (stR (stR (stR X2 32 fd2 (nI d)) 33 fd2 x253) 34 fd2 (nI tn2)) 35 fd2 (nI yy)) := (PS.same hps266 (by omega) (by omega) (fun r i q1 q2 q3 => st_ne (fun e => by rw [e.1, e.2] at q3; exact absurd (show fd2 < fd2 from q3) (by omega))))
                        have hfm276 : FrM K T wr2 (stR (stR (stR (stR X2 32 fd2 (nI d)) 33 fd2 x253) 34 fd2 (nI tn2)) 35 fd2 (nI yy)) nd md := (FrM.same hfm267 (by omega) (fun j i q1 q2 q3 => st_ne (by omega)) (fun i q => st_ne (by omega)))
                        have hlr277 : lsRow ((stR (stR (stR (stR X2 32 fd2 (nI d)) 33 fd2 x253) 34 fd2 (nI tn2)) 35 fd2 (nI yy)) 22) ((stR (stR (stR (stR X2 32 fd2 (nI d)) 33 fd2 x253) 34 fd2 (nI tn2)) 35 fd2 (nI yy)) 23) lz T := hlr268
                        have hce278 : (stR (stR (stR (stR X2 32 fd2 (nI d)) 33 fd2 x253) 34 fd2 (nI tn2)) 35 fd2 (nI yy)) 35 fd2 = (nI yy) := st_eq
                        refine lv_aload_n hx hb dX12_member_271 rfl (lv_at hl 6 rfl) ?_
                        refine lv_dup hx hb dX12_member_272 rfl ?_
                        refine r_get (v := .int (nI fd2)) hx hb hown hq hE hP 44 413 tFX12_44 (by decide) pw_1727 rfl dX12_member_273 ?_
                        refine lv_iconst (v := 1) hx hb dX12_member_276 (by decide) ?_
                        refine lv_iadd hx hb dX12_member_277 ?_
                        refine lv_topi (fun x279 e280 => ?_)
                        obtain rfl : x279 = nI (fd2 + 1) := e280.trans (nI_add (fd2) (1))
                        refine r_put (v := (nI (fd2 + 1))) (ty := .int) hx hb hown hq hE hP hD hS 44 413 tFX12_44 (by decide) pw_1727 (by decide) rfl rfl (ms_44 a _ _) dX12_member_278 (fun H locs hP hD hS => ?_)
                        refine lv_aload_n hx hb dX12_member_281 rfl (lv_at hl 6 rfl) ?_
                        refine lv_dup hx hb dX12_member_282 rfl ?_
                        refine r_get (v := .int (nI mf2)) hx hb hown hq hE hP 67 390 tFX12_67 (by decide) pw_1726 rfl dX12_member_283 ?_
                        refine lv_iconst (v := 1) hx hb dX12_member_286 (by decide) ?_
                        refine lv_iadd hx hb dX12_member_287 ?_
                        refine lv_topi (fun x281 e282 => ?_)
                        obtain rfl : x281 = nI (mf2 + 1) := e282.trans (nI_add (mf2) (1))
                        refine r_put (v := (nI (mf2 + 1))) (ty := .int) hx hb hown hq hE hP hD hS 67 390 tFX12_67 (by decide) pw_1726 (by decide) rfl rfl (ms_67 a _ _) dX12_member_288 (fun H locs hP hD hS => ?_)
                        refine lv_iconst (v := 0) hx hb dX12_member_291 (by decide) ?_
                        refine lv_istore (lv' := [(6, .int 0), (7, .int 1), (5, .int (nI mo)), (4, .int (nI tn2)), (3, .int (nI yy)), (1, .int (nI d)), (0, .ref h0)]) hx hb dX12_member_292 hl (by decide) rfl (fun ls hl => ?_)
                        refine lv_aload_n hx hb dX12_member_294 rfl (lv_at hl 6 rfl) ?_
                        refine lv_bipush (v := 44) hx hb dX12_member_295 (by decide) ?_
                        have hP : va_P G.1 pCl (mW G h0 a (upd (upd (upd (upd (upd (upd (upd (upd (upd (upd (upd (upd (upd (upd (upd (upd (upd F 15 0) 16 pl2) 27 (nI nd)) 31 (nI wr2)) 34 (nI lz)) 35 (nI dc)) 44 (nI (fd2 + 1))) 49 (nI md)) 59 (nI bk)) 60 (nI pr)) 64 (nI at2)) 65 ne0) 66 (nI lk)) 67 (nI (mf2 + 1))) 68 (nI mm)) 15 (nI 0)) 64 (nI at2)) (updA (updA (stR (stR (stR (stR X2 32 fd2 (nI d)) 33 fd2 x253) 34 fd2 (nI tn2)) 35 fd2 (nI yy)) 2 K) 2 K)) _ := hP
                        have hD : va_D A (mW G h0 a (upd (upd (upd (upd (upd (upd (upd (upd (upd (upd (upd (upd (upd (upd (upd (upd (upd F 15 0) 16 pl2) 27 (nI nd)) 31 (nI wr2)) 34 (nI lz)) 35 (nI dc)) 44 (nI (fd2 + 1))) 49 (nI md)) 59 (nI bk)) 60 (nI pr)) 64 (nI at2)) 65 ne0) 66 (nI lk)) 67 (nI (mf2 + 1))) 68 (nI mm)) 15 (nI 0)) 64 (nI at2)) (updA (updA (stR (stR (stR (stR X2 32 fd2 (nI d)) 33 fd2 x253) 34 fd2 (nI tn2)) 35 fd2 (nI yy)) 2 K) 2 K)) := hD
                        refine pc_V0 (G := G) (As := [.int 44]) (rest := []) hx hb hml hown hq hE hX pX0_al hP hD hS hA hl.1 (R_may l G h0 a (upd (upd (upd (upd (upd (upd (upd (upd (upd (upd (upd (upd (upd (upd (upd F 15 0) 16 pl2) 27 (nI nd)) 31 (nI wr2)) 34 (nI lz)) 35 (nI dc)) 44 (nI (fd2 + 1))) 49 (nI md)) 59 (nI bk)) 60 (nI pr)) 64 (nI at2)) 65 ne0) 66 (nI lk)) 67 (nI (mf2 + 1))) 68 (nI mm)) (updA (stR (stR (stR (stR X2 32 fd2 (nI d)) 33 fd2 x253) 34 fd2 (nI tn2)) 35 fd2 (nI yy)) 2 K) at2 T 0 K 44 (by omega) (by omega) hK (by omega) (by decide) (by decide)) (gV pw_1621 pw_1622 pw_1623 pw_1523 pw_1605) hV_X12_may 0 9 rfl rfl rfl rfl (Nat.le_of_ble_eq_true rfl) dX12_member_297 ⟨Nat.le_of_ble_eq_true rfl, Nat.le_of_ble_eq_true rfl⟩ ⟨Nat.le_of_ble_eq_true rfl, Nat.le_of_ble_eq_true rfl⟩ (fun v285 u283 H locs hw284 hP hD hS => ?_)
                        obtain ⟨at286, r287⟩ := u283
                        obtain ⟨hw284, h288, h289, h290, h291, h292, h293⟩ := hw284
                        replace h288 : r287 ≤ 1 := h288
                        replace h289 : 0 + 100 * r287 ≤ 100 := h289
                        replace h290 : at286 = at2 + r287 := h290
                        replace h291 : at286 ≤ T := h291
                        replace h292 : If (r287 = 1) (K at2 = 44) := h292
                        replace h293 : If (r287 = 0) (0 = 0 → ¬ K at2 = 44) := h293
                        obtain rfl : v285 = some (.int (nI r287)) := hw284
                        have hP : va_P G.1 pCl (mW G h0 a (upd (upd (upd (upd (upd (upd (upd (upd (upd (upd (upd (upd (upd (upd (upd F 15 0) 16 pl2) 27 (nI nd)) 31 (nI wr2)) 34 (nI lz)) 35 (nI dc)) 44 (nI (fd2 + 1))) 49 (nI md)) 59 (nI bk)) 60 (nI pr)) 64 (nI at286)) 65 ne0) 66 (nI lk)) 67 (nI (mf2 + 1))) 68 (nI mm)) (updA (stR (stR (stR (stR X2 32 fd2 (nI d)) 33 fd2 x253) 34 fd2 (nI tn2)) 35 fd2 (nI yy)) 2 K)) _ := hP
                        have hD : va_D A (mW G h0 a (upd (upd (upd (upd (upd (upd (upd (upd (upd (upd (upd (upd (upd (upd (upd F 15 0) 16 pl2) 27 (nI nd)) 31 (nI wr2)) 34 (nI lz)) 35 (nI dc)) 44 (nI (fd2 + 1))) 49 (nI md)) 59 (nI bk)) 60 (nI pr)) 64 (nI at286)) 65 ne0) 66 (nI lk)) 67 (nI (mf2 + 1))) 68 (nI mm)) (updA (stR (stR (stR (stR X2 32 fd2 (nI d)) 33 fd2 x253) 34 fd2 (nI tn2)) 35 fd2 (nI yy)) 2 K)) := hD
                        refine W.widen (k := 0) (n := 0) (Nat.le_of_ble_eq_true rfl) (Nat.le_of_ble_eq_true rfl) ?_
                        refine W.eq (g2 := F0 m 300 ls [.int (nI r287)]) rfl ?_
                        refine lv_istore (lv' := [(5, .int (nI r287)), (6, .int 0), (7, .int 1), (4, .int (nI tn2)), (3, .int (nI yy)), (1, .int (nI d)), (0, .ref h0)]) hx hb dX12_member_300 hl (by decide) rfl (fun ls hl => ?_)
                        refine lv_iload hx hb dX12_member_302 (lv_at hl 0 rfl) ?_
                        refine lv_if_eq (tgt := 313) hx hb dX12_member_304 (by decide) (fun c294 => ?_) (fun c294 => ?_)
                        · have n295 : r287 = 0 := (nI_eq (a := r287) (b := 0) (by omega) (by omega)).mp c294
                          refine lv_goto (tgt := 145) hx hb dX12_member_313 (by decide) ?_
                          have hP : va_P G.1 pCl (mW G h0 a (upd (upd (upd (upd (upd (upd (upd (upd (upd (upd (upd (upd (upd (upd (upd F 15 0) 16 pl2) 27 (nI nd)) 31 (nI wr2)) 34 (nI lz)) 35 (nI dc)) 44 (nI (fd2 + 1))) 49 (nI md)) 59 (nI bk)) 60 (nI pr)) 64 (nI at286)) 65 ne0) 66 (nI lk)) 67 (nI (mf2 + 1))) 68 (nI mm)) (updA (stR (stR (stR (stR X2 32 fd2 (nI d)) 33 fd2 x253) 34 fd2 (nI tn2)) 35 fd2 (nI yy)) 2 K)) _ := hP
                          have hD : va_D A (mW G h0 a (upd (upd (upd (upd (upd (upd (upd (upd (upd (upd (upd (upd (upd (upd (upd F 15 0) 16 pl2) 27 (nI nd)) 31 (nI wr2)) 34 (nI lz)) 35 (nI dc)) 44 (nI (fd2 + 1))) 49 (nI md)) 59 (nI bk)) 60 (nI pr)) 64 (nI at286)) 65 ne0) 66 (nI lk)) 67 (nI (mf2 + 1))) 68 (nI mm)) (updA (stR (stR (stR (stR X2 32 fd2 (nI d)) 33 fd2 x253) 34 fd2 (nI tn2)) 35 fd2 (nI yy)) 2 K)) := hD
                          exact ih_o (mf2 + 1) at286 wr2 (fd2 + 1) r287 0 tn2 yy pl2 (stR (stR (stR (stR X2 32 fd2 (nI d)) 33 fd2 x253) 34 fd2 (nI tn2)) 35 fd2 (nI yy)) _ _ _ (by omega) (by omega) (by omega) (by omega) (by omega) (by omega) (by omega) (by omega) (by omega) (by omega) hkq270 (PS.fld hps275 hce271 (by omega) (by omega) hce273 (by omega) hce278 (by omega) (by rw [hkq270 26 (by omega)]; exact hdi0)) hfm276 hty274 hlr277 hP hD hS (lv_sub hl [1, 0, 3, 4, 5, 6] rfl)
                        · have n296 : ¬ (r287 = 0) := fun h9 => c294 ((nI_eq (a := r287) (b := 0) (by omega) (by omega)).mpr h9)
                          refine lv_aload_n hx hb dX12_member_307 rfl (lv_at hl 6 rfl) ?_
                          have hP : va_P G.1 pCl (mW G h0 a (upd (upd (upd (upd (upd (upd (upd (upd (upd (upd (upd (upd (upd (upd (upd (upd (upd F 15 0) 16 pl2) 27 (nI nd)) 31 (nI wr2)) 34 (nI lz)) 35 (nI dc)) 44 (nI (fd2 + 1))) 49 (nI md)) 59 (nI bk)) 60 (nI pr)) 64 (nI at286)) 65 ne0) 66 (nI lk)) 67 (nI (mf2 + 1))) 68 (nI mm)) 15 (nI 0)) 64 (nI at286)) (updA (updA (stR (stR (stR (stR X2 32 fd2 (nI d)) 33 fd2 x253) 34 fd2 (nI tn2)) 35 fd2 (nI yy)) 2 K) 2 K)) _ := hP
                          have hD : va_D A (mW G h0 a (upd (upd (upd (upd (upd (upd (upd (upd (upd (upd (upd (upd (upd (upd (upd (upd (upd F 15 0) 16 pl2) 27 (nI nd)) 31 (nI wr2)) 34 (nI lz)) 35 (nI dc)) 44 (nI (fd2 + 1))) 49 (nI md)) 59 (nI bk)) 60 (nI pr)) 64 (nI at286)) 65 ne0) 66 (nI lk)) 67 (nI (mf2 + 1))) 68 (nI mm)) 15 (nI 0)) 64 (nI at286)) (updA (updA (stR (stR (stR (stR X2 32 fd2 (nI d)) 33 fd2 x253) 34 fd2 (nI tn2)) 35 fd2 (nI yy)) 2 K) 2 K)) := hD
                          refine pc_V0 (G := G) (As := []) (rest := []) hx hb hml hown hq hE hX pX0_al hP hD hS hA hl.1 (R_name l G h0 a (upd (upd (upd (upd (upd (upd (upd (upd (upd (upd (upd (upd (upd (upd (upd F 15 0) 16 pl2) 27 (nI nd)) 31 (nI wr2)) 34 (nI lz)) 35 (nI dc)) 44 (nI (fd2 + 1))) 49 (nI md)) 59 (nI bk)) 60 (nI pr)) 64 (nI at286)) 65 ne0) 66 (nI lk)) 67 (nI (mf2 + 1))) 68 (nI mm)) (updA (stR (stR (stR (stR X2 32 fd2 (nI d)) 33 fd2 x253) 34 fd2 (nI tn2)) 35 fd2 (nI yy)) 2 K) at286 T 0 K (by omega) (by omega) hK (by omega)) (gV pw_1618 pw_1619 pw_1620 pw_1523 pw_1613) hV_X12_name 0 9 rfl rfl rfl rfl (Nat.le_of_ble_eq_true rfl) dX12_member_308 ⟨Nat.le_of_ble_eq_true rfl, Nat.le_of_ble_eq_true rfl⟩ ⟨Nat.le_of_ble_eq_true rfl, Nat.le_of_ble_eq_true rfl⟩ (fun v299 u297 H locs hw298 hP hD hS => ?_)
                          obtain ⟨at300, fa301, pl302⟩ := u297
                          obtain ⟨hw298, h303, h304, h305, h306, h307, h308, h309, h310⟩ := hw298
                          replace h303 : at286 ≤ at300 := h303
                          replace h304 : at300 ≤ T := h304
                          replace h305 : 0 ≤ fa301 := h305
                          replace h306 : fa301 ≤ 100 := h306
                          replace h307 : If (0 < 0) (at300 = at286 ∧ fa301 = 0) := h307
                          replace h308 : at300 ≤ at286 + 1 := h308
                          replace h309 : at286 + 1 ≤ at300 + fa301 := h309
                          replace h310 : If (fa301 = 0) (K at286 = 1) := h310
                          obtain rfl : v299 = some (.int (nI at286)) := hw298
                          have hP : va_P G.1 pCl (mW G h0 a (upd (upd (upd (upd (upd (upd (upd (upd (upd (upd (upd (upd (upd (upd (upd F 15 (nI fa301)) 16 pl302) 27 (nI nd)) 31 (nI wr2)) 34 (nI lz)) 35 (nI dc)) 44 (nI (fd2 + 1))) 49 (nI md)) 59 (nI bk)) 60 (nI pr)) 64 (nI at300)) 65 ne0) 66 (nI lk)) 67 (nI (mf2 + 1))) 68 (nI mm)) (updA (stR (stR (stR (stR X2 32 fd2 (nI d)) 33 fd2 x253) 34 fd2 (nI tn2)) 35 fd2 (nI yy)) 2 K)) _ := hP
                          have hD : va_D A (mW G h0 a (upd (upd (upd (upd (upd (upd (upd (upd (upd (upd (upd (upd (upd (upd (upd F 15 (nI fa301)) 16 pl302) 27 (nI nd)) 31 (nI wr2)) 34 (nI lz)) 35 (nI dc)) 44 (nI (fd2 + 1))) 49 (nI md)) 59 (nI bk)) 60 (nI pr)) 64 (nI at300)) 65 ne0) 66 (nI lk)) 67 (nI (mf2 + 1))) 68 (nI mm)) (updA (stR (stR (stR (stR X2 32 fd2 (nI d)) 33 fd2 x253) 34 fd2 (nI tn2)) 35 fd2 (nI yy)) 2 K)) := hD
                          refine W.widen (k := 0) (n := 0) (Nat.le_of_ble_eq_true rfl) (Nat.le_of_ble_eq_true rfl) ?_
                          refine W.eq (g2 := F0 m 311 ls [.int (nI at286)]) rfl ?_
                          rcases Nat.eq_zero_or_pos fa301 with e311 | e311
                          · subst e311
                            have hP : va_P G.1 pCl (mW G h0 a (upd (upd (upd (upd (upd (upd (upd (upd (upd (upd (upd (upd (upd (upd (upd F 15 0) 16 pl302) 27 (nI nd)) 31 (nI wr2)) 34 (nI lz)) 35 (nI dc)) 44 (nI (fd2 + 1))) 49 (nI md)) 59 (nI bk)) 60 (nI pr)) 64 (nI at300)) 65 ne0) 66 (nI lk)) 67 (nI (mf2 + 1))) 68 (nI mm)) (updA (stR (stR (stR (stR X2 32 fd2 (nI d)) 33 fd2 x253) 34 fd2 (nI tn2)) 35 fd2 (nI yy)) 2 K)) _ := hP
                            have hD : va_D A (mW G h0 a (upd (upd (upd (upd (upd (upd (upd (upd (upd (upd (upd (upd (upd (upd (upd F 15 0) 16 pl302) 27 (nI nd)) 31 (nI wr2)) 34 (nI lz)) 35 (nI dc)) 44 (nI (fd2 + 1))) 49 (nI md)) 59 (nI bk)) 60 (nI pr)) 64 (nI at300)) 65 ne0) 66 (nI lk)) 67 (nI (mf2 + 1))) 68 (nI mm)) (updA (stR (stR (stR (stR X2 32 fd2 (nI d)) 33 fd2 x253) 34 fd2 (nI tn2)) 35 fd2 (nI yy)) 2 K)) := hD
                            refine lv_istore (lv' := [(4, .int (nI at286)), (5, .int (nI r287)), (6, .int 0), (7, .int 1), (3, .int (nI yy)), (1, .int (nI d)), (0, .ref h0)]) hx hb dX12_member_311 hl (by decide) rfl (fun ls hl => ?_)
                            refine lv_goto (tgt := 145) hx hb dX12_member_313 (by decide) ?_
                            have hP : va_P G.1 pCl (mW G h0 a (upd (upd (upd (upd (upd (upd (upd (upd (upd (upd (upd (upd (upd (upd (upd F 15 0) 16 pl302) 27 (nI nd)) 31 (nI wr2)) 34 (nI lz)) 35 (nI dc)) 44 (nI (fd2 + 1))) 49 (nI md)) 59 (nI bk)) 60 (nI pr)) 64 (nI at300)) 65 ne0) 66 (nI lk)) 67 (nI (mf2 + 1))) 68 (nI mm)) (updA (stR (stR (stR (stR X2 32 fd2 (nI d)) 33 fd2 x253) 34 fd2 (nI tn2)) 35 fd2 (nI yy)) 2 K)) _ := hP
                            have hD : va_D A (mW G h0 a (upd (upd (upd (upd (upd (upd (upd (upd (upd (upd (upd (upd (upd (upd (upd F 15 0) 16 pl302) 27 (nI nd)) 31 (nI wr2)) 34 (nI lz)) 35 (nI dc)) 44 (nI (fd2 + 1))) 49 (nI md)) 59 (nI bk)) 60 (nI pr)) 64 (nI at300)) 65 ne0) 66 (nI lk)) 67 (nI (mf2 + 1))) 68 (nI mm)) (updA (stR (stR (stR (stR X2 32 fd2 (nI d)) 33 fd2 x253) 34 fd2 (nI tn2)) 35 fd2 (nI yy)) 2 K)) := hD
                            exact ih_o (mf2 + 1) at300 wr2 (fd2 + 1) r287 0 at286 yy pl302 (stR (stR (stR (stR X2 32 fd2 (nI d)) 33 fd2 x253) 34 fd2 (nI tn2)) 35 fd2 (nI yy)) _ _ _ (by omega) (by omega) (by omega) (by omega) (by omega) (by omega) (by omega) (by omega) (by omega) (by omega) hkq270 (PS.fld hps275 hce271 (by omega) (by omega) hce273 (by omega) hce278 (by omega) (by rw [hkq270 26 (by omega)]; exact hdi0)) hfm276 hty274 hlr277 hP hD hS (lv_sub hl [2, 1, 0, 4, 5, 6] rfl)
                          · have e311 := e311
                            refine lv_istore (lv' := [(4, .int (nI at286)), (5, .int (nI r287)), (6, .int 0), (7, .int 1), (3, .int (nI yy)), (1, .int (nI d)), (0, .ref h0)]) hx hb dX12_member_311 hl (by decide) rfl (fun ls hl => ?_)
                            refine lv_goto (tgt := 145) hx hb dX12_member_313 (by decide) ?_
                            refine lv_iload hx hb dX12_member_145 (lv_at hl 1 rfl) ?_
                            refine lv_if_eq (tgt := 316) hx hb dX12_member_147 (by decide) (fun c312 => ?_) (fun c312 => ?_)
                            · have n313 : r287 = 0 := (nI_eq (a := r287) (b := 0) (by omega) (by omega)).mp c312
                              refine lv_aload_n hx hb dX12_member_316 rfl (lv_at hl 6 rfl) ?_
                              refine lv_bipush (v := 59) hx hb dX12_member_317 (by decide) ?_
                              have hP : va_P G.1 pCl (mW G h0 a (upd (upd (upd (upd (upd (upd (upd (upd (upd (upd (upd (upd (upd (upd (upd (upd (upd F 15 (nI fa301)) 16 pl302) 27 (nI nd)) 31 (nI wr2)) 34 (nI lz)) 35 (nI dc)) 44 (nI (fd2 + 1))) 49 (nI md)) 59 (nI bk)) 60 (nI pr)) 64 (nI at300)) 65 ne0) 66 (nI lk)) 67 (nI (mf2 + 1))) 68 (nI mm)) 15 (nI fa301)) 64 (nI at300)) (updA (updA (stR (stR (stR (stR X2 32 fd2 (nI d)) 33 fd2 x253) 34 fd2 (nI tn2)) 35 fd2 (nI yy)) 2 K) 2 K)) _ := hP
                              have hD : va_D A (mW G h0 a (upd (upd (upd (upd (upd (upd (upd (upd (upd (upd (upd (upd (upd (upd (upd (upd (upd F 15 (nI fa301)) 16 pl302) 27 (nI nd)) 31 (nI wr2)) 34 (nI lz)) 35 (nI dc)) 44 (nI (fd2 + 1))) 49 (nI md)) 59 (nI bk)) 60 (nI pr)) 64 (nI at300)) 65 ne0) 66 (nI lk)) 67 (nI (mf2 + 1))) 68 (nI mm)) 15 (nI fa301)) 64 (nI at300)) (updA (updA (stR (stR (stR (stR X2 32 fd2 (nI d)) 33 fd2 x253) 34 fd2 (nI tn2)) 35 fd2 (nI yy)) 2 K) 2 K)) := hD
                              refine pc_V0 (G := G) (As := [.int 59]) (rest := []) hx hb hml hown hq hE hX pX0_al hP hD hS hA hl.1 (R_take l G h0 a (upd (upd (upd (upd (upd (upd (upd (upd (upd (upd (upd (upd (upd (upd (upd F 15 (nI fa301)) 16 pl302) 27 (nI nd)) 31 (nI wr2)) 34 (nI lz)) 35 (nI dc)) 44 (nI (fd2 + 1))) 49 (nI md)) 59 (nI bk)) 60 (nI pr)) 64 (nI at300)) 65 ne0) 66 (nI lk)) 67 (nI (mf2 + 1))) 68 (nI mm)) (updA (stR (stR (stR (stR X2 32 fd2 (nI d)) 33 fd2 x253) 34 fd2 (nI tn2)) 35 fd2 (nI yy)) 2 K) at300 T fa301 K 59 (by omega) (by omega) hK (by omega) (by decide) (by decide)) (gV pw_1614 pw_1615 pw_1616 pw_1523 pw_1601) hV_X12_take 0 9 rfl rfl rfl rfl (Nat.le_of_ble_eq_true rfl) dX12_member_319 ⟨Nat.le_of_ble_eq_true rfl, Nat.le_of_ble_eq_true rfl⟩ ⟨Nat.le_of_ble_eq_true rfl, Nat.le_of_ble_eq_true rfl⟩ (fun v316 u314 H locs hw315 hP hD hS => ?_)
                              obtain ⟨at317, fa318, pl319⟩ := u314
                              obtain ⟨hw315, h320, h321, h322, h323, h324, h325, h326, h327⟩ := hw315
                              replace h320 : at300 ≤ at317 := h320
                              replace h321 : at317 ≤ T := h321
                              replace h322 : fa301 ≤ fa318 := h322
                              replace h323 : fa318 ≤ 100 := h323
                              replace h324 : If (0 < fa301) (at317 = at300 ∧ fa318 = fa301) := h324
                              replace h325 : at317 ≤ at300 + 1 := h325
                              replace h326 : at300 + 1 ≤ at317 + fa318 := h326
                              replace h327 : If (fa318 = 0) (K at300 = 59) := h327
                              obtain rfl : v316 = none := hw315
                              have hP : va_P G.1 pCl (mW G h0 a (upd (upd (upd (upd (upd (upd (upd (upd (upd (upd (upd (upd (upd (upd (upd F 15 (nI fa318)) 16 pl319) 27 (nI nd)) 31 (nI wr2)) 34 (nI lz)) 35 (nI dc)) 44 (nI (fd2 + 1))) 49 (nI md)) 59 (nI bk)) 60 (nI pr)) 64 (nI at317)) 65 ne0) 66 (nI lk)) 67 (nI (mf2 + 1))) 68 (nI mm)) (updA (stR (stR (stR (stR X2 32 fd2 (nI d)) 33 fd2 x253) 34 fd2 (nI tn2)) 35 fd2 (nI yy)) 2 K)) _ := hP
                              have hD : va_D A (mW G h0 a (upd (upd (upd (upd (upd (upd (upd (upd (upd (upd (upd (upd (upd (upd (upd F 15 (nI fa318)) 16 pl319) 27 (nI nd)) 31 (nI wr2)) 34 (nI lz)) 35 (nI dc)) 44 (nI (fd2 + 1))) 49 (nI md)) 59 (nI bk)) 60 (nI pr)) 64 (nI at317)) 65 ne0) 66 (nI lk)) 67 (nI (mf2 + 1))) 68 (nI mm)) (updA (stR (stR (stR (stR X2 32 fd2 (nI d)) 33 fd2 x253) 34 fd2 (nI tn2)) 35 fd2 (nI yy)) 2 K)) := hD
                              refine W.widen (k := 0) (n := 0) (Nat.le_of_ble_eq_true rfl) (Nat.le_of_ble_eq_true rfl) ?_
                              refine W.eq (g2 := F0 m 322 ls []) rfl ?_
                              obtain ⟨n329, n328⟩ := h324 e311
                              replace n329 := n329.symm
                              subst n329
                              replace n328 := n328.symm
                              subst n328
                              have hz330 : at0 ≤ at300 := (by omega)
                              have hz331 : at300 ≤ T := (by omega)
                              have hz332 : fa301 ≤ 100 := (by omega)
                              have hz333 : at0 + 1 ≤ at300 + fa301 := (by omega)
                              have hz334 : Kq 0 B (stR (stR (stR (stR X2 32 fd2 (nI d)) 33 fd2 x253) 34 fd2 (nI tn2)) 35 fd2 (nI yy)) := hkq270
                              have hz335 : If (fa301 = 0) ((nd ≤ 2 * at300 ∧ wr2 ≤ at300 ∧ lz ≤ at300 ∧ pr ≤ at300 ∧ dc ≤ 37 ∧ dc ≤ dc ∧ bk ≤ md ∧ wr ≤ wr2 ∧ lz ≤ lz) ∧ (md + 240 ≤ 30 * dc + mm ∧ (fd2 + 1) + 160 ≤ 20 * dc + (mf2 + 1) ∧ (mf2 + 1) ≤ 20 ∧ mm ≤ 30 ∧ dc = dc) ∧ PS T nm wr2 lz dc (fd2 + 1) md pr bk (stR (stR (stR (stR X2 32 fd2 (nI d)) 33 fd2 x253) 34 fd2 (nI tn2)) 35 fd2 (nI yy)) ∧ FrM K T wr2 (stR (stR (stR (stR X2 32 fd2 (nI d)) 33 fd2 x253) 34 fd2 (nI tn2)) 35 fd2 (nI yy)) nd md ∧ tkRow ((stR (stR (stR (stR X2 32 fd2 (nI d)) 33 fd2 x253) 34 fd2 (nI tn2)) 35 fd2 (nI yy)) 19) wr2 T ∧ lsRow ((stR (stR (stR (stR X2 32 fd2 (nI d)) 33 fd2 x253) 34 fd2 (nI tn2)) 35 fd2 (nI yy)) 22) ((stR (stR (stR (stR X2 32 fd2 (nI d)) 33 fd2 x253) 34 fd2 (nI tn2)) 35 fd2 (nI yy)) 23) lz T) := (fun e => absurd e (by omega))
                              have hP : va_P G.1 pCl (mW G h0 a (upd (upd (upd (upd (upd (upd (upd (upd (upd (upd (upd (upd (upd (upd (upd F 15 (nI fa301)) 16 pl319) 27 (nI nd)) 31 (nI wr2)) 34 (nI lz)) 35 (nI dc)) 44 (nI (fd2 + 1))) 49 (nI md)) 59 (nI bk)) 60 (nI pr)) 64 (nI at300)) 65 ne0) 66 (nI lk)) 67 (nI (mf2 + 1))) 68 (nI mm)) (updA (stR (stR (stR (stR X2 32 fd2 (nI d)) 33 fd2 x253) 34 fd2 (nI tn2)) 35 fd2 (nI yy)) 2 K)) _ := hP
                              have hD : va_D A (mW G h0 a (upd (upd (upd (upd (upd (upd (upd (upd (upd (upd (upd (upd (upd (upd (upd F 15 (nI fa301)) 16 pl319) 27 (nI nd)) 31 (nI wr2)) 34 (nI lz)) 35 (nI dc)) 44 (nI (fd2 + 1))) 49 (nI md)) 59 (nI bk)) 60 (nI pr)) 64 (nI at300)) 65 ne0) 66 (nI lk)) 67 (nI (mf2 + 1))) 68 (nI mm)) (updA (stR (stR (stR (stR X2 32 fd2 (nI d)) 33 fd2 x253) 34 fd2 (nI tn2)) 35 fd2 (nI yy)) 2 K)) := hD
                              exact W.vret hx hb hr (fun t9 ht9 hW9 => ⟨⟨_, (at300, fa301, pl319, nd, wr2, lz, dc, (fd2 + 1), md, pr, bk, (mf2 + 1), mm, ne0, (stR (stR (stR (stR X2 32 fd2 (nI d)) 33 fd2 x253) 34 fd2 (nI tn2)) 35 fd2 (nI yy))), rfl, ⟨rfl, hz330, hz331, hz332, hz333, hz334, hz335⟩, by rw [ht9]; exact hP, hD⟩, hS.F ht9⟩) hS.2.2 dX12_member_322
                            · have n336 : ¬ (r287 = 0) := fun h9 => c312 ((nI_eq (a := r287) (b := 0) (by omega) (by omega)).mpr h9)
                              refine lv_aload_n hx hb dX12_member_150 rfl (lv_at hl 6 rfl) ?_
                              refine r_get (v := .int (nI fa301)) hx hb hown hq hE hP 15 350 tFX12_15 (by decide) pw_1594 rfl dX12_member_151 ?_
                              refine lv_if_ne (tgt := 316) hx hb dX12_member_154 (by decide) (fun c337 => ?_) (fun c337 => (by have n338 : fa301 = 0 := (nI_eq (a := fa301) (b := 0) (by omega) (by omega)).mp c337; omega))
                              refine lv_aload_n hx hb dX12_member_316 rfl (lv_at hl 6 rfl) ?_
                              refine lv_bipush (v := 59) hx hb dX12_member_317 (by decide) ?_
                              have hP : va_P G.1 pCl (mW G h0 a (upd (upd (upd (upd (upd (upd (upd (upd (upd (upd (upd (upd (upd (upd (upd (upd (upd F 15 (nI fa301)) 16 pl302) 27 (nI nd)) 31 (nI wr2)) 34 (nI lz)) 35 (nI dc)) 44 (nI (fd2 + 1))) 49 (nI md)) 59 (nI bk)) 60 (nI pr)) 64 (nI at300)) 65 ne0) 66 (nI lk)) 67 (nI (mf2 + 1))) 68 (nI mm)) 15 (nI fa301)) 64 (nI at300)) (updA (updA (stR (stR (stR (stR X2 32 fd2 (nI d)) 33 fd2 x253) 34 fd2 (nI tn2)) 35 fd2 (nI yy)) 2 K) 2 K)) _ := hP
                              have hD : va_D A (mW G h0 a (upd (upd (upd (upd (upd (upd (upd (upd (upd (upd (upd (upd (upd (upd (upd (upd (upd F 15 (nI fa301)) 16 pl302) 27 (nI nd)) 31 (nI wr2)) 34 (nI lz)) 35 (nI dc)) 44 (nI (fd2 + 1))) 49 (nI md)) 59 (nI bk)) 60 (nI pr)) 64 (nI at300)) 65 ne0) 66 (nI lk)) 67 (nI (mf2 + 1))) 68 (nI mm)) 15 (nI fa301)) 64 (nI at300)) (updA (updA (stR (stR (stR (stR X2 32 fd2 (nI d)) 33 fd2 x253) 34 fd2 (nI tn2)) 35 fd2 (nI yy)) 2 K) 2 K)) := hD
                              refine pc_V0 (G := G) (As := [.int 59]) (rest := []) hx hb hml hown hq hE hX pX0_al hP hD hS hA hl.1 (R_take l G h0 a (upd (upd (upd (upd (upd (upd (upd (upd (upd (upd (upd (upd (upd (upd (upd F 15 (nI fa301)) 16 pl302) 27 (nI nd)) 31 (nI wr2)) 34 (nI lz)) 35 (nI dc)) 44 (nI (fd2 + 1))) 49 (nI md)) 59 (nI bk)) 60 (nI pr)) 64 (nI at300)) 65 ne0) 66 (nI lk)) 67 (nI (mf2 + 1))) 68 (nI mm)) (updA (stR (stR (stR (stR X2 32 fd2 (nI d)) 33 fd2 x253) 34 fd2 (nI tn2)) 35 fd2 (nI yy)) 2 K) at300 T fa301 K 59 (by omega) (by omega) hK (by omega) (by decide) (by decide)) (gV pw_1614 pw_1615 pw_1616 pw_1523 pw_1601) hV_X12_take 0 9 rfl rfl rfl rfl (Nat.le_of_ble_eq_true rfl) dX12_member_319 ⟨Nat.le_of_ble_eq_true rfl, Nat.le_of_ble_eq_true rfl⟩ ⟨Nat.le_of_ble_eq_true rfl, Nat.le_of_ble_eq_true rfl⟩ (fun v341 u339 H locs hw340 hP hD hS => ?_)
                              obtain ⟨at342, fa343, pl344⟩ := u339
                              obtain ⟨hw340, h345, h346, h347, h348, h349, h350, h351, h352⟩ := hw340
                              replace h345 : at300 ≤ at342 := h345
                              replace h346 : at342 ≤ T := h346
                              replace h347 : fa301 ≤ fa343 := h347
                              replace h348 : fa343 ≤ 100 := h348
                              replace h349 : If (0 < fa301) (at342 = at300 ∧ fa343 = fa301) := h349
                              replace h350 : at342 ≤ at300 + 1 := h350
                              replace h351 : at300 + 1 ≤ at342 + fa343 := h351
                              replace h352 : If (fa343 = 0) (K at300 = 59) := h352
                              obtain rfl : v341 = none := hw340
                              have hP : va_P G.1 pCl (mW G h0 a (upd (upd (upd (upd (upd (upd (upd (upd (upd (upd (upd (upd (upd (upd (upd F 15 (nI fa343)) 16 pl344) 27 (nI nd)) 31 (nI wr2)) 34 (nI lz)) 35 (nI dc)) 44 (nI (fd2 + 1))) 49 (nI md)) 59 (nI bk)) 60 (nI pr)) 64 (nI at342)) 65 ne0) 66 (nI lk)) 67 (nI (mf2 + 1))) 68 (nI mm)) (updA (stR (stR (stR (stR X2 32 fd2 (nI d)) 33 fd2 x253) 34 fd2 (nI tn2)) 35 fd2 (nI yy)) 2 K)) _ := hP
                              have hD : va_D A (mW G h0 a (upd (upd (upd (upd (upd (upd (upd (upd (upd (upd (upd (upd (upd (upd (upd F 15 (nI fa343)) 16 pl344) 27 (nI nd)) 31 (nI wr2)) 34 (nI lz)) 35 (nI dc)) 44 (nI (fd2 + 1))) 49 (nI md)) 59 (nI bk)) 60 (nI pr)) 64 (nI at342)) 65 ne0) 66 (nI lk)) 67 (nI (mf2 + 1))) 68 (nI mm)) (updA (stR (stR (stR (stR X2 32 fd2 (nI d)) 33 fd2 x253) 34 fd2 (nI tn2)) 35 fd2 (nI yy)) 2 K)) := hD
                              refine W.widen (k := 0) (n := 0) (Nat.le_of_ble_eq_true rfl) (Nat.le_of_ble_eq_true rfl) ?_
                              refine W.eq (g2 := F0 m 322 ls []) rfl ?_
                              obtain ⟨n354, n353⟩ := h349 e311
                              replace n354 := n354.symm
                              subst n354
                              replace n353 := n353.symm
                              subst n353
                              have hz355 : at0 ≤ at300 := (by omega)
                              have hz356 : at300 ≤ T := (by omega)
                              have hz357 : fa301 ≤ 100 := (by omega)
                              have hz358 : at0 + 1 ≤ at300 + fa301 := (by omega)
                              have hz359 : Kq 0 B (stR (stR (stR (stR X2 32 fd2 (nI d)) 33 fd2 x253) 34 fd2 (nI tn2)) 35 fd2 (nI yy)) := hkq270
                              have hz360 : If (fa301 = 0) ((nd ≤ 2 * at300 ∧ wr2 ≤ at300 ∧ lz ≤ at300 ∧ pr ≤ at300 ∧ dc ≤ 37 ∧ dc ≤ dc ∧ bk ≤ md ∧ wr ≤ wr2 ∧ lz ≤ lz) ∧ (md + 240 ≤ 30 * dc + mm ∧ (fd2 + 1) + 160 ≤ 20 * dc + (mf2 + 1) ∧ (mf2 + 1) ≤ 20 ∧ mm ≤ 30 ∧ dc = dc) ∧ PS T nm wr2 lz dc (fd2 + 1) md pr bk (stR (stR (stR (stR X2 32 fd2 (nI d)) 33 fd2 x253) 34 fd2 (nI tn2)) 35 fd2 (nI yy)) ∧ FrM K T wr2 (stR (stR (stR (stR X2 32 fd2 (nI d)) 33 fd2 x253) 34 fd2 (nI tn2)) 35 fd2 (nI yy)) nd md ∧ tkRow ((stR (stR (stR (stR X2 32 fd2 (nI d)) 33 fd2 x253) 34 fd2 (nI tn2)) 35 fd2 (nI yy)) 19) wr2 T ∧ lsRow ((stR (stR (stR (stR X2 32 fd2 (nI d)) 33 fd2 x253) 34 fd2 (nI tn2)) 35 fd2 (nI yy)) 22) ((stR (stR (stR (stR X2 32 fd2 (nI d)) 33 fd2 x253) 34 fd2 (nI tn2)) 35 fd2 (nI yy)) 23) lz T) := (fun e => absurd e (by omega))
                              have hP : va_P G.1 pCl (mW G h0 a (upd (upd (upd (upd (upd (upd (upd (upd (upd (upd (upd (upd (upd (upd (upd F 15 (nI fa301)) 16 pl344) 27 (nI nd)) 31 (nI wr2)) 34 (nI lz)) 35 (nI dc)) 44 (nI (fd2 + 1))) 49 (nI md)) 59 (nI bk)) 60 (nI pr)) 64 (nI at300)) 65 ne0) 66 (nI lk)) 67 (nI (mf2 + 1))) 68 (nI mm)) (updA (stR (stR (stR (stR X2 32 fd2 (nI d)) 33 fd2 x253) 34 fd2 (nI tn2)) 35 fd2 (nI yy)) 2 K)) _ := hP
                              have hD : va_D A (mW G h0 a (upd (upd (upd (upd (upd (upd (upd (upd (upd (upd (upd (upd (upd (upd (upd F 15 (nI fa301)) 16 pl344) 27 (nI nd)) 31 (nI wr2)) 34 (nI lz)) 35 (nI dc)) 44 (nI (fd2 + 1))) 49 (nI md)) 59 (nI bk)) 60 (nI pr)) 64 (nI at300)) 65 ne0) 66 (nI lk)) 67 (nI (mf2 + 1))) 68 (nI mm)) (updA (stR (stR (stR (stR X2 32 fd2 (nI d)) 33 fd2 x253) 34 fd2 (nI tn2)) 35 fd2 (nI yy)) 2 K)) := hD
                              exact W.vret hx hb hr (fun t9 ht9 hW9 => ⟨⟨_, (at300, fa301, pl344, nd, wr2, lz, dc, (fd2 + 1), md, pr, bk, (mf2 + 1), mm, ne0, (stR (stR (stR (stR X2 32 fd2 (nI d)) 33 fd2 x253) 34 fd2 (nI tn2)) 35 fd2 (nI yy))), rfl, ⟨rfl, hz355, hz356, hz357, hz358, hz359, hz360⟩, by rw [ht9]; exact hP, hD⟩, hS.F ht9⟩) hS.2.2 dX12_member_322
                      · have n361 : mf2 = 20 := (nI_eq (a := mf2) (b := 20) (by omega) (by omega)).mp c242
                        refine lv_aload_n hx hb dX12_member_209 rfl (lv_at hl 6 rfl) ?_
                        refine lv_iconst (v := 2) hx hb dX12_member_210 (by decide) ?_
                        refine lv_iload hx hb dX12_member_211 (lv_at hl 3 rfl) ?_
                        have hP : va_P G.1 pCl (mW G h0 a (upd (upd (upd (upd (upd (upd (upd (upd (upd (upd (upd (upd (upd (upd (upd (upd F 15 0) 16 pl2) 27 (nI nd)) 31 (nI wr2)) 34 (nI lz)) 35 (nI dc)) 44 (nI fd2)) 49 (nI md)) 59 (nI bk)) 60 (nI pr)) 64 (nI at2)) 65 ne0) 66 (nI lk)) 67 (nI mf2)) 68 (nI mm)) 15 (nI 0)) (updA X2 2 K)) _ := hP
                        have hD : va_D A (mW G h0 a (upd (upd (upd (upd (upd (upd (upd (upd (upd (upd (upd (upd (upd (upd (upd (upd F 15 0) 16 pl2) 27 (nI nd)) 31 (nI wr2)) 34 (nI lz)) 35 (nI dc)) 44 (nI fd2)) 49 (nI md)) 59 (nI bk)) 60 (nI pr)) 64 (nI at2)) 65 ne0) 66 (nI lk)) 67 (nI mf2)) 68 (nI mm)) 15 (nI 0)) (updA X2 2 K)) := hD
                        refine pc_V0 (G := G) (As := [.int (nI 2), .int (nI tn2)]) (rest := []) hx hb hml hown hq hE hX pX0_al hP hD hS hA hl.1 (R_badAt l G h0 a (upd (upd (upd (upd (upd (upd (upd (upd (upd (upd (upd (upd (upd (upd (upd F 15 0) 16 pl2) 27 (nI nd)) 31 (nI wr2)) 34 (nI lz)) 35 (nI dc)) 44 (nI fd2)) 49 (nI md)) 59 (nI bk)) 60 (nI pr)) 64 (nI at2)) 65 ne0) 66 (nI lk)) 67 (nI mf2)) 68 (nI mm)) (updA X2 2 K) 2 tn2 0 (by omega) (by omega) (by omega)) (gV pw_1597 pw_1598 pw_1599 pw_1523 pw_1593) hV_X12_badAt 0 9 rfl rfl rfl rfl (Nat.le_of_ble_eq_true rfl) dX12_member_213 ⟨Nat.le_of_ble_eq_true rfl, Nat.le_of_ble_eq_true rfl⟩ ⟨Nat.le_of_ble_eq_true rfl, Nat.le_of_ble_eq_true rfl⟩ (fun v364 u362 H locs hw363 hP hD hS => ?_)
                        obtain ⟨fa365, pl366⟩ := u362
                        obtain ⟨hw363, h367, h368, h369, h370⟩ := hw363
                        replace h367 : 0 ≤ fa365 := h367
                        replace h368 : fa365 ≤ 0 + 2 := h368
                        replace h369 : 0 < fa365 := h369
                        replace h370 : If (0 < 0) (fa365 = 0) := h370
                        obtain rfl : v364 = none := hw363
                        have hP : va_P G.1 pCl (mW G h0 a (upd (upd (upd (upd (upd (upd (upd (upd (upd (upd (upd (upd (upd (upd (upd F 15 (nI fa365)) 16 pl366) 27 (nI nd)) 31 (nI wr2)) 34 (nI lz)) 35 (nI dc)) 44 (nI fd2)) 49 (nI md)) 59 (nI bk)) 60 (nI pr)) 64 (nI at2)) 65 ne0) 66 (nI lk)) 67 (nI mf2)) 68 (nI mm)) (updA X2 2 K)) _ := hP
                        have hD : va_D A (mW G h0 a (upd (upd (upd (upd (upd (upd (upd (upd (upd (upd (upd (upd (upd (upd (upd F 15 (nI fa365)) 16 pl366) 27 (nI nd)) 31 (nI wr2)) 34 (nI lz)) 35 (nI dc)) 44 (nI fd2)) 49 (nI md)) 59 (nI bk)) 60 (nI pr)) 64 (nI at2)) 65 ne0) 66 (nI lk)) 67 (nI mf2)) 68 (nI mm)) (updA X2 2 K)) := hD
                        refine W.widen (k := 0) (n := 0) (Nat.le_of_ble_eq_true rfl) (Nat.le_of_ble_eq_true rfl) ?_
                        refine W.eq (g2 := F0 m 216 ls []) rfl ?_
                        refine lv_aload_n hx hb dX12_member_216 rfl (lv_at hl 6 rfl) ?_
                        refine r_get (v := .int (nI fa365)) hx hb hown hq hE hP 15 350 tFX12_15 (by decide) pw_1594 rfl dX12_member_217 ?_
                        refine lv_if_le (tgt := 224) hx hb dX12_member_220 (by decide) (fun c371 => (by have n372 : fa365 ≤ 0 := (nI_leI (a := fa365) (b := 0) (by omega) (by omega)).mp c371; omega)) (fun c371 => ?_)
                        have hz373 : at0 ≤ at2 := (by omega)
                        have hz374 : at2 ≤ T := (by omega)
                        have hz375 : fa365 ≤ 100 := (by omega)
                        have hz376 : at0 + 1 ≤ at2 + fa365 := (by omega)
                        have hz377 : Kq 0 B X2 := hkq2
                        have hz378 : If (fa365 = 0) ((nd ≤ 2 * at2 ∧ wr2 ≤ at2 ∧ lz ≤ at2 ∧ pr ≤ at2 ∧ dc ≤ 37 ∧ dc ≤ dc ∧ bk ≤ md ∧ wr ≤ wr2 ∧ lz ≤ lz) ∧ (md + 240 ≤ 30 * dc + mm ∧ fd2 + 160 ≤ 20 * dc + mf2 ∧ mf2 ≤ 20 ∧ mm ≤ 30 ∧ dc = dc) ∧ PS T nm wr2 lz dc fd2 md pr bk X2 ∧ FrM K T wr2 X2 nd md ∧ tkRow (X2 19) wr2 T ∧ lsRow (X2 22) (X2 23) lz T) := (fun e => absurd e (by omega))
                        have hP : va_P G.1 pCl (mW G h0 a (upd (upd (upd (upd (upd (upd (upd (upd (upd (upd (upd (upd (upd (upd (upd F 15 (nI fa365)) 16 pl366) 27 (nI nd)) 31 (nI wr2)) 34 (nI lz)) 35 (nI dc)) 44 (nI fd2)) 49 (nI md)) 59 (nI bk)) 60 (nI pr)) 64 (nI at2)) 65 ne0) 66 (nI lk)) 67 (nI mf2)) 68 (nI mm)) (updA X2 2 K)) _ := hP
                        have hD : va_D A (mW G h0 a (upd (upd (upd (upd (upd (upd (upd (upd (upd (upd (upd (upd (upd (upd (upd F 15 (nI fa365)) 16 pl366) 27 (nI nd)) 31 (nI wr2)) 34 (nI lz)) 35 (nI dc)) 44 (nI fd2)) 49 (nI md)) 59 (nI bk)) 60 (nI pr)) 64 (nI at2)) 65 ne0) 66 (nI lk)) 67 (nI mf2)) 68 (nI mm)) (updA X2 2 K)) := hD
                        exact W.vret hx hb hr (fun t9 ht9 hW9 => ⟨⟨_, (at2, fa365, pl366, nd, wr2, lz, dc, fd2, md, pr, bk, mf2, mm, ne0, X2), rfl, ⟨rfl, hz373, hz374, hz375, hz376, hz377, hz378⟩, by rw [ht9]; exact hP, hD⟩, hS.F ht9⟩) hS.2.2 dX12_member_223
                    · refine lv_aload_n hx hb dX12_member_171 rfl (lv_at hl 5 rfl) ?_
                      have hP : va_P G.1 pCl (mW G h0 a (upd (upd (upd (upd (upd (upd (upd (upd (upd (upd (upd (upd (upd (upd (upd (upd (upd F 15 0) 16 pl2) 27 (nI nd)) 31 (nI wr2)) 34 (nI lz)) 35 (nI dc)) 44 (nI fd2)) 49 (nI md)) 59 (nI bk)) 60 (nI pr)) 64 (nI at2)) 65 ne0) 66 (nI lk)) 67 (nI mf2)) 68 (nI mm)) 15 (nI 0)) 64 (nI at2)) (updA (updA X2 2 K) 2 K)) _ := hP
                      have hD : va_D A (mW G h0 a (upd (upd (upd (upd (upd (upd (upd (upd (upd (upd (upd (upd (upd (upd (upd (upd (upd F 15 0) 16 pl2) 27 (nI nd)) 31 (nI wr2)) 34 (nI lz)) 35 (nI dc)) 44 (nI fd2)) 49 (nI md)) 59 (nI bk)) 60 (nI pr)) 64 (nI at2)) 65 ne0) 66 (nI lk)) 67 (nI mf2)) 68 (nI mm)) 15 (nI 0)) 64 (nI at2)) (updA (updA X2 2 K) 2 K)) := hD
                      refine pc_V0 (G := G) (As := []) (rest := []) hx hb hml hown hq hE hX pX0_al hP hD hS hA hl.1 (R_kind l G h0 a (upd (upd (upd (upd (upd (upd (upd (upd (upd (upd (upd (upd (upd (upd (upd F 15 0) 16 pl2) 27 (nI nd)) 31 (nI wr2)) 34 (nI lz)) 35 (nI dc)) 44 (nI fd2)) 49 (nI md)) 59 (nI bk)) 60 (nI pr)) 64 (nI at2)) 65 ne0) 66 (nI lk)) 67 (nI mf2)) 68 (nI mm)) (updA X2 2 K) at2 T 0 K (by omega) (by omega) hK (by omega)) (gV pw_1626 pw_1627 pw_1628 pw_1523 pw_1591) hV_X12_kind 0 9 rfl rfl rfl rfl (Nat.le_of_ble_eq_true rfl) dX12_member_172 ⟨Nat.le_of_ble_eq_true rfl, Nat.le_of_ble_eq_true rfl⟩ ⟨Nat.le_of_ble_eq_true rfl, Nat.le_of_ble_eq_true rfl⟩ (fun v381 u379 H locs hw380 hP hD hS => ?_)
                      obtain rfl : v381 = some (.int (K at2)) := hw380
                      have hP : va_P G.1 pCl (mW G h0 a (upd (upd (upd (upd (upd (upd (upd (upd (upd (upd (upd (upd (upd (upd (upd F 15 0) 16 pl2) 27 (nI nd)) 31 (nI wr2)) 34 (nI lz)) 35 (nI dc)) 44 (nI fd2)) 49 (nI md)) 59 (nI bk)) 60 (nI pr)) 64 (nI at2)) 65 ne0) 66 (nI lk)) 67 (nI mf2)) 68 (nI mm)) (updA X2 2 K)) _ := hP
                      have hD : va_D A (mW G h0 a (upd (upd (upd (upd (upd (upd (upd (upd (upd (upd (upd (upd (upd (upd (upd F 15 0) 16 pl2) 27 (nI nd)) 31 (nI wr2)) 34 (nI lz)) 35 (nI dc)) 44 (nI fd2)) 49 (nI md)) 59 (nI bk)) 60 (nI pr)) 64 (nI at2)) 65 ne0) 66 (nI lk)) 67 (nI mf2)) 68 (nI mm)) (updA X2 2 K)) := hD
                      refine W.widen (k := 0) (n := 0) (Nat.le_of_ble_eq_true rfl) (Nat.le_of_ble_eq_true rfl) ?_
                      refine W.eq (g2 := F0 m 175 ls [.int (K at2)]) rfl ?_
                      refine lv_bipush (v := 59) hx hb dX12_member_175 (by decide) ?_
                      refine lv_icmp_ne (tgt := 184) hx hb dX12_member_177 (by decide) (fun c382 => ?_) (fun c382 => ?_)
                      · refine lv_iconst (v := 0) hx hb dX12_member_184 (by decide) ?_
                        refine lv_istore (lv' := [(7, .int 0), (6, .int (nI fs)), (5, .int (nI mo)), (4, .int (nI tn2)), (3, .int (nI yy)), (1, .int (nI d)), (0, .ref h0)]) hx hb dX12_member_185 hl (by decide) rfl (fun ls hl => ?_)
                        refine lv_iload hx hb dX12_member_187 (lv_at hl 0 rfl) ?_
                        refine lv_if_ne (tgt := 200) hx hb dX12_member_189 (by decide) (fun c383 => absurd c383 (by decide)) (fun c383 => ?_)
                        refine lv_aload_n hx hb dX12_member_192 rfl (lv_at hl 6 rfl) ?_
                        refine lv_iconst (v := 1) hx hb dX12_member_193 (by decide) ?_
                        have hP : va_P G.1 pCl (mW G h0 a (upd (upd (upd (upd (upd (upd (upd (upd (upd (upd (upd (upd (upd (upd (upd (upd (upd F 15 0) 16 pl2) 27 (nI nd)) 31 (nI wr2)) 34 (nI lz)) 35 (nI dc)) 44 (nI fd2)) 49 (nI md)) 59 (nI bk)) 60 (nI pr)) 64 (nI at2)) 65 ne0) 66 (nI lk)) 67 (nI mf2)) 68 (nI mm)) 15 (nI 0)) 64 (nI at2)) (updA (updA X2 2 K) 2 K)) _ := hP
                        have hD : va_D A (mW G h0 a (upd (upd (upd (upd (upd (upd (upd (upd (upd (upd (upd (upd (upd (upd (upd (upd (upd F 15 0) 16 pl2) 27 (nI nd)) 31 (nI wr2)) 34 (nI lz)) 35 (nI dc)) 44 (nI fd2)) 49 (nI md)) 59 (nI bk)) 60 (nI pr)) 64 (nI at2)) 65 ne0) 66 (nI lk)) 67 (nI mf2)) 68 (nI mm)) 15 (nI 0)) 64 (nI at2)) (updA (updA X2 2 K) 2 K)) := hD
                        refine pc_V0 (G := G) (As := [.int (nI 1)]) (rest := []) hx hb hml hown hq hE hX pX0_al hP hD hS hA hl.1 (R_bad l G h0 a (upd (upd (upd (upd (upd (upd (upd (upd (upd (upd (upd (upd (upd (upd (upd F 15 0) 16 pl2) 27 (nI nd)) 31 (nI wr2)) 34 (nI lz)) 35 (nI dc)) 44 (nI fd2)) 49 (nI md)) 59 (nI bk)) 60 (nI pr)) 64 (nI at2)) 65 ne0) 66 (nI lk)) 67 (nI mf2)) 68 (nI mm)) (updA X2 2 K) at2 T 0 K 1 (by omega) (by omega) hK (by omega) (by omega) (by omega)) (gV pw_1602 pw_1603 pw_1604 pw_1523 pw_1596) hV_X12_bad 0 9 rfl rfl rfl rfl (Nat.le_of_ble_eq_true rfl) dX12_member_194 ⟨Nat.le_of_ble_eq_true rfl, Nat.le_of_ble_eq_true rfl⟩ ⟨Nat.le_of_ble_eq_true rfl, Nat.le_of_ble_eq_true rfl⟩ (fun v386 u384 H locs hw385 hP hD hS => ?_)
                        obtain ⟨fa387, pl388⟩ := u384
                        obtain ⟨hw385, h389, h390, h391, h392⟩ := hw385
                        replace h389 : 0 ≤ fa387 := h389
                        replace h390 : fa387 ≤ 0 + 1 := h390
                        replace h391 : 0 < fa387 := h391
                        replace h392 : If (0 < 0) (fa387 = 0) := h392
                        obtain rfl : v386 = none := hw385
                        have hP : va_P G.1 pCl (mW G h0 a (upd (upd (upd (upd (upd (upd (upd (upd (upd (upd (upd (upd (upd (upd (upd F 15 (nI fa387)) 16 pl388) 27 (nI nd)) 31 (nI wr2)) 34 (nI lz)) 35 (nI dc)) 44 (nI fd2)) 49 (nI md)) 59 (nI bk)) 60 (nI pr)) 64 (nI at2)) 65 ne0) 66 (nI lk)) 67 (nI mf2)) 68 (nI mm)) (updA X2 2 K)) _ := hP
                        have hD : va_D A (mW G h0 a (upd (upd (upd (upd (upd (upd (upd (upd (upd (upd (upd (upd (upd (upd (upd F 15 (nI fa387)) 16 pl388) 27 (nI nd)) 31 (nI wr2)) 34 (nI lz)) 35 (nI dc)) 44 (nI fd2)) 49 (nI md)) 59 (nI bk)) 60 (nI pr)) 64 (nI at2)) 65 ne0) 66 (nI lk)) 67 (nI mf2)) 68 (nI mm)) (updA X2 2 K)) := hD
                        refine W.widen (k := 0) (n := 0) (Nat.le_of_ble_eq_true rfl) (Nat.le_of_ble_eq_true rfl) ?_
                        refine W.eq (g2 := F0 m 197 ls []) rfl ?_
                        refine lv_goto (tgt := 216) hx hb dX12_member_197 (by decide) ?_
                        refine lv_aload_n hx hb dX12_member_216 rfl (lv_at hl 6 rfl) ?_
                        refine r_get (v := .int (nI fa387)) hx hb hown hq hE hP 15 350 tFX12_15 (by decide) pw_1594 rfl dX12_member_217 ?_
                        refine lv_if_le (tgt := 224) hx hb dX12_member_220 (by decide) (fun c393 => (by have n394 : fa387 ≤ 0 := (nI_leI (a := fa387) (b := 0) (by omega) (by omega)).mp c393; omega)) (fun c393 => ?_)
                        have hz395 : at0 ≤ at2 := (by omega)
                        have hz396 : at2 ≤ T := (by omega)
                        have hz397 : fa387 ≤ 100 := (by omega)
                        have hz398 : at0 + 1 ≤ at2 + fa387 := (by omega)
                        have hz399 : Kq 0 B X2 := hkq2
                        have hz400 : If (fa387 = 0) ((nd ≤ 2 * at2 ∧ wr2 ≤ at2 ∧ lz ≤ at2 ∧ pr ≤ at2 ∧ dc ≤ 37 ∧ dc ≤ dc ∧ bk ≤ md ∧ wr ≤ wr2 ∧ lz ≤ lz) ∧ (md + 240 ≤ 30 * dc + mm ∧ fd2 + 160 ≤ 20 * dc + mf2 ∧ mf2 ≤ 20 ∧ mm ≤ 30 ∧ dc = dc) ∧ PS T nm wr2 lz dc fd2 md pr bk X2 ∧ FrM K T wr2 X2 nd md ∧ tkRow (X2 19) wr2 T ∧ lsRow (X2 22) (X2 23) lz T) := (fun e => absurd e (by omega))
                        have hP : va_P G.1 pCl (mW G h0 a (upd (upd (upd (upd (upd (upd (upd (upd (upd (upd (upd (upd (upd (upd (upd F 15 (nI fa387)) 16 pl388) 27 (nI nd)) 31 (nI wr2)) 34 (nI lz)) 35 (nI dc)) 44 (nI fd2)) 49 (nI md)) 59 (nI bk)) 60 (nI pr)) 64 (nI at2)) 65 ne0) 66 (nI lk)) 67 (nI mf2)) 68 (nI mm)) (updA X2 2 K)) _ := hP
                        have hD : va_D A (mW G h0 a (upd (upd (upd (upd (upd (upd (upd (upd (upd (upd (upd (upd (upd (upd (upd F 15 (nI fa387)) 16 pl388) 27 (nI nd)) 31 (nI wr2)) 34 (nI lz)) 35 (nI dc)) 44 (nI fd2)) 49 (nI md)) 59 (nI bk)) 60 (nI pr)) 64 (nI at2)) 65 ne0) 66 (nI lk)) 67 (nI mf2)) 68 (nI mm)) (updA X2 2 K)) := hD
                        exact W.vret hx hb hr (fun t9 ht9 hW9 => ⟨⟨_, (at2, fa387, pl388, nd, wr2, lz, dc, fd2, md, pr, bk, mf2, mm, ne0, X2), rfl, ⟨rfl, hz395, hz396, hz397, hz398, hz399, hz400⟩, by rw [ht9]; exact hP, hD⟩, hS.F ht9⟩) hS.2.2 dX12_member_223
                      · refine lv_iconst (v := 1) hx hb dX12_member_180 (by decide) ?_
                        refine lv_goto (tgt := 185) hx hb dX12_member_181 (by decide) ?_
                        refine lv_istore (lv' := [(7, .int 1), (6, .int (nI fs)), (5, .int (nI mo)), (4, .int (nI tn2)), (3, .int (nI yy)), (1, .int (nI d)), (0, .ref h0)]) hx hb dX12_member_185 hl (by decide) rfl (fun ls hl => ?_)
                        refine lv_iload hx hb dX12_member_187 (lv_at hl 0 rfl) ?_
                        refine lv_if_ne (tgt := 200) hx hb dX12_member_189 (by decide) (fun c401 => ?_) (fun c401 => absurd c401 (by decide))
                        refine lv_aload_n hx hb dX12_member_200 rfl (lv_at hl 6 rfl) ?_
                        refine r_get (v := .int (nI mf2)) hx hb hown hq hE hP 67 390 tFX12_67 (by decide) pw_1726 rfl dX12_member_201 ?_
                        refine lv_bipush (v := 20) hx hb dX12_member_204 (by decide) ?_
                        refine lv_icmp_ne (tgt := 216) hx hb dX12_member_206 (by decide) (fun c402 => ?_) (fun c402 => ?_)
                        · have n403 : ¬ (mf2 = 20) := fun h9 => c402 ((nI_eq (a := mf2) (b := 20) (by omega) (by omega)).mpr h9)
                          refine lv_aload_n hx hb dX12_member_216 rfl (lv_at hl 6 rfl) ?_
                          refine r_get (v := .int 0) hx hb hown hq hE hP 15 350 tFX12_15 (by decide) pw_1594 rfl dX12_member_217 ?_
                          refine lv_if_le (tgt := 224) hx hb dX12_member_220 (by decide) (fun c404 => ?_) (fun c404 => absurd c404 (by decide))
                          refine lv_aload_n hx hb dX12_member_224 rfl (lv_at hl 6 rfl) ?_
                          refine r_get (v := .ref (a 32)) hx hb hown hq hE hP 45 108 tFX12_45 (by decide) pw_1463 rfl dX12_member_225 ?_
                          refine lv_aload_n hx hb dX12_member_228 rfl (lv_at hl 6 rfl) ?_
                          refine r_get (v := .int (nI fd2)) hx hb hown hq hE hP 44 413 tFX12_44 (by decide) pw_1727 rfl dX12_member_229 ?_
                          refine lv_iload_n hx hb dX12_member_232 rfl (lv_at hl 5 rfl) ?_
                          refine r_sti (f := (X2 32)) (j := fd2) hx hb hE hP hD hS 32 (ma_32 G a _) rfl (mas_32 G a _) (by omega) (by decide) dX12_member_233 (fun H locs hP hD hS => ?_)
                          have hP : va_P G.1 pCl (mW G h0 a (upd (upd (upd (upd (upd (upd (upd (upd (upd (upd (upd (upd (upd (upd (upd F 15 0) 16 pl2) 27 (nI nd)) 31 (nI wr2)) 34 (nI lz)) 35 (nI dc)) 44 (nI fd2)) 49 (nI md)) 59 (nI bk)) 60 (nI pr)) 64 (nI at2)) 65 ne0) 66 (nI lk)) 67 (nI mf2)) 68 (nI mm)) (updA (stR X2 32 fd2 (nI d)) 2 K)) _ := hP
                          have hD : va_D A (mW G h0 a (upd (upd (upd (upd (upd (upd (upd (upd (upd (upd (upd (upd (upd (upd (upd F 15 0) 16 pl2) 27 (nI nd)) 31 (nI wr2)) 34 (nI lz)) 35 (nI dc)) 44 (nI fd2)) 49 (nI md)) 59 (nI bk)) 60 (nI pr)) 64 (nI at2)) 65 ne0) 66 (nI lk)) 67 (nI mf2)) 68 (nI mm)) (updA (stR X2 32 fd2 (nI d)) 2 K)) := hD
                          have hkq405 : Kq 0 B (stR X2 32 fd2 (nI d)) := (Kq.st hkq2 (by omega))
                          have hty406 : tkRow ((stR X2 32 fd2 (nI d)) 19) wr2 T := hy2
                          have hps407 : PS T nm wr2 lz dc fd2 md pr bk (stR X2 32 fd2 (nI d)) := (PS.same hps2 (by omega) (by omega) (fun r i q1 q2 q3 => st_ne (fun e => by rw [e.1, e.2] at q3; exact absurd (show fd2 < fd2 from q3) (by omega))))
                          have hfm408 : FrM K T wr2 (stR X2 32 fd2 (nI d)) nd md := (FrM.same hfm2 (by omega) (fun j i q1 q2 q3 => st_ne (by omega)) (fun i q => st_ne (by omega)))
                          have hlr409 : lsRow ((stR X2 32 fd2 (nI d)) 22) ((stR X2 32 fd2 (nI d)) 23) lz T := hlr2
                          have hce410 : (stR X2 32 fd2 (nI d)) 32 fd2 = (nI d) := st_eq
                          refine lv_aload_n hx hb dX12_member_234 rfl (lv_at hl 6 rfl) ?_
                          refine r_get (v := .ref (a 33)) hx hb hown hq hE hP 46 111 tFX12_46 (by decide) pw_1464 rfl dX12_member_235 ?_
                          refine lv_aload_n hx hb dX12_member_238 rfl (lv_at hl 6 rfl) ?_
                          refine r_get (v := .int (nI fd2)) hx hb hown hq hE hP 44 413 tFX12_44 (by decide) pw_1727 rfl dX12_member_239 ?_
                          refine lv_aload_n hx hb dX12_member_242 rfl (lv_at hl 6 rfl) ?_
                          refine r_get (v := .ref (a 5)) hx hb hown hq hE hP 8 25 tFX12_8 (by decide) pw_1435 rfl dX12_member_243 ?_
                          refine lv_iload hx hb dX12_member_246 (lv_at hl 3 rfl) ?_
                          refine r_ldi (f := ((stR X2 32 fd2 (nI d)) 5)) (j := tn2) hx hb hE hP 5 (ma_5 G a _) rfl (by omega) (by decide) dX12_member_248 ?_
                          refine lv_topi (fun x413 e414 => ?_)
                          refine r_sti (f := ((stR X2 32 fd2 (nI d)) 33)) (j := fd2) hx hb hE hP hD hS 33 (ma_33 G a _) rfl (mas_33 G a _) (by omega) (by decide) dX12_member_249 (fun H locs hP hD hS => ?_)
                          have hP : va_P G.1 pCl (mW G h0 a (upd (upd (upd (upd (upd (upd (upd (upd (upd (upd (upd (upd (upd (upd (upd F 15 0) 16 pl2) 27 (nI nd)) 31 (nI wr2)) 34 (nI lz)) 35 (nI dc)) 44 (nI fd2)) 49 (nI md)) 59 (nI bk)) 60 (nI pr)) 64 (nI at2)) 65 ne0) 66 (nI lk)) 67 (nI mf2)) 68 (nI mm)) (updA (stR (stR X2 32 fd2 (nI d)) 33 fd2 x413) 2 K)) _ := hP
                          have hD : va_D A (mW G h0 a (upd (upd (upd (upd (upd (upd (upd (upd (upd (upd (upd (upd (upd (upd (upd F 15 0) 16 pl2) 27 (nI nd)) 31 (nI wr2)) 34 (nI lz)) 35 (nI dc)) 44 (nI fd2)) 49 (nI md)) 59 (nI bk)) 60 (nI pr)) 64 (nI at2)) 65 ne0) 66 (nI lk)) 67 (nI mf2)) 68 (nI mm)) (updA (stR (stR X2 32 fd2 (nI d)) 33 fd2 x413) 2 K)) := hD
                          have hkq415 : Kq 0 B (stR (stR X2 32 fd2 (nI d)) 33 fd2 x413) := (Kq.st hkq405 (by omega))
                          have hce416 : (stR (stR X2 32 fd2 (nI d)) 33 fd2 x413) 32 fd2 = (nI d) := ((st_ne (by omega)).trans hce410)
                          have hty417 : tkRow ((stR (stR X2 32 fd2 (nI d)) 33 fd2 x413) 19) wr2 T := hty406
                          have hps418 : PS T nm wr2 lz dc fd2 md pr bk (stR (stR X2 32 fd2 (nI d)) 33 fd2 x413) := (PS.same hps407 (by omega) (by omega) (fun r i q1 q2 q3 => st_ne (fun e => by rw [e.1, e.2] at q3; exact absurd (show fd2 < fd2 from q3) (by omega))))
                          have hfm419 : FrM K T wr2 (stR (stR X2 32 fd2 (nI d)) 33 fd2 x413) nd md := (FrM.same hfm408 (by omega) (fun j i q1 q2 q3 => st_ne (by omega)) (fun i q => st_ne (by omega)))
                          have hlr420 : lsRow ((stR (stR X2 32 fd2 (nI d)) 33 fd2 x413) 22) ((stR (stR X2 32 fd2 (nI d)) 33 fd2 x413) 23) lz T := hlr409
                          have hce421 : (stR (stR X2 32 fd2 (nI d)) 33 fd2 x413) 33 fd2 = x413 := st_eq
                          refine lv_aload_n hx hb dX12_member_250 rfl (lv_at hl 6 rfl) ?_
                          refine r_get (v := .ref (a 34)) hx hb hown hq hE hP 47 114 tFX12_47 (by decide) pw_1465 rfl dX12_member_251 ?_
                          refine lv_aload_n hx hb dX12_member_254 rfl (lv_at hl 6 rfl) ?_
                          refine r_get (v := .int (nI fd2)) hx hb hown hq hE hP 44 413 tFX12_44 (by decide) pw_1727 rfl dX12_member_255 ?_
                          refine lv_iload hx hb dX12_member_258 (lv_at hl 3 rfl) ?_
                          refine r_sti (f := ((stR (stR X2 32 fd2 (nI d)) 33 fd2 x413) 34)) (j := fd2) hx hb hE hP hD hS 34 (ma_34 G a _) rfl (mas_34 G a _) (by omega) (by decide) dX12_member_260 (fun H locs hP hD hS => ?_)
                          have hP : va_P G.1 pCl (mW G h0 a (upd (upd (upd (upd (upd (upd (upd (upd (upd (upd (upd (upd (upd (upd (upd F 15 0) 16 pl2) 27 (nI nd)) 31 (nI wr2)) 34 (nI lz)) 35 (nI dc)) 44 (nI fd2)) 49 (nI md)) 59 (nI bk)) 60 (nI pr)) 64 (nI at2)) 65 ne0) 66 (nI lk)) 67 (nI mf2)) 68 (nI mm)) (updA (stR (stR (stR X2 32 fd2 (nI d)) 33 fd2 x413) 34 fd2 (nI tn2)) 2 K)) _ := hP
                          have hD : va_D A (mW G h0 a (upd (upd (upd (upd (upd (upd (upd (upd (upd (upd (upd (upd (upd (upd (upd F 15 0) 16 pl2) 27 (nI nd)) 31 (nI wr2)) 34 (nI lz)) 35 (nI dc)) 44 (nI fd2)) 49 (nI md)) 59 (nI bk)) 60 (nI pr)) 64 (nI at2)) 65 ne0) 66 (nI lk)) 67 (nI mf2)) 68 (nI mm)) (updA (stR (stR (stR X2 32 fd2 (nI d)) 33 fd2 x413) 34 fd2 (nI tn2)) 2 K)) := hD
                          have hkq422 : Kq 0 B (stR (stR (stR X2 32 fd2 (nI d)) 33 fd2 x413) 34 fd2 (nI tn2)) := (Kq.st hkq415 (by omega))
                          have hce423 : (stR (stR (stR X2 32 fd2 (nI d)) 33 fd2 x413) 34 fd2 (nI tn2)) 32 fd2 = (nI d) := ((st_ne (by omega)).trans hce416)
                          have hce424 : (stR (stR (stR X2 32 fd2 (nI d)) 33 fd2 x413) 34 fd2 (nI tn2)) 33 fd2 = x413 := ((st_ne (by omega)).trans hce421)
                          have hty425 : tkRow ((stR (stR (stR X2 32 fd2 (nI d)) 33 fd2 x413) 34 fd2 (nI tn2)) 19) wr2 T := hty417
                          have hps426 : PS T nm wr2 lz dc fd2 md pr bk (stR (stR (stR X2 32 fd2 (nI d)) 33 fd2 x413) 34 fd2 (nI tn2)) := (PS.same hps418 (by omega) (by omega) (fun r i q1 q2 q3 => st_ne (fun e => by rw [e.1, e.2] at q3; exact absurd (show fd2 < fd2 from q3) (by omega))))
                          have hfm427 : FrM K T wr2 (stR (stR (stR X2 32 fd2 (nI d)) 33 fd2 x413) 34 fd2 (nI tn2)) nd md := (FrM.same hfm419 (by omega) (fun j i q1 q2 q3 => st_ne (by omega)) (fun i q => st_ne (by omega)))
                          have hlr428 : lsRow ((stR (stR (stR X2 32 fd2 (nI d)) 33 fd2 x413) 34 fd2 (nI tn2)) 22) ((stR (stR (stR X2 32 fd2 (nI d)) 33 fd2 x413) 34 fd2 (nI tn2)) 23) lz T := hlr420
                          have hce429 : (stR (stR (stR X2 32 fd2 (nI d)) 33 fd2 x413) 34 fd2 (nI tn2)) 34 fd2 = (nI tn2) := st_eq
                          refine lv_aload_n hx hb dX12_member_261 rfl (lv_at hl 6 rfl) ?_
                          refine r_get (v := .ref (a 35)) hx hb hown hq hE hP 48 117 tFX12_48 (by decide) pw_1466 rfl dX12_member_262 ?_
                          refine lv_aload_n hx hb dX12_member_265 rfl (lv_at hl 6 rfl) ?_
                          refine r_get (v := .int (nI fd2)) hx hb hown hq hE hP 44 413 tFX12_44 (by decide) pw_1727 rfl dX12_member_266 ?_
                          refine lv_iload_n hx hb dX12_member_269 rfl (lv_at hl 4 rfl) ?_
                          refine r_sti (f := ((stR (stR (stR X2 32 fd2 (nI d)) 33 fd2 x413) 34 fd2 (nI tn2)) 35)) (j := fd2) hx hb hE hP hD hS 35 (ma_35 G a _) rfl (mas_35 G a _) (by omega) (by decide) dX12_member_270 (fun H locs hP hD hS => ?_)
                          have hP : va_P G.1 pCl (mW G h0 a (upd (upd (upd (upd (upd (upd (upd (upd (upd (upd (upd (upd (upd (upd (upd F 15 0) 16 pl2) 27 (nI nd)) 31 (nI wr2)) 34 (nI lz)) 35 (nI dc)) 44 (nI fd2)) 49 (nI md)) 59 (nI bk)) 60 (nI pr)) 64 (nI at2)) 65 ne0) 66 (nI lk)) 67 (nI mf2)) 68 (nI mm)) (updA (stR (stR (stR (stR X2 32 fd2 (nI d)) 33 fd2 x413) 34 fd2 (nI tn2)) 35 fd2 (nI yy)) 2 K)) _ := hP
                          have hD : va_D A (mW G h0 a (upd (upd (upd (upd (upd (upd (upd (upd (upd (upd (upd (upd (upd (upd (upd F 15 0) 16 pl2) 27 (nI nd)) 31 (nI wr2)) 34 (nI lz)) 35 (nI dc)) 44 (nI fd2)) 49 (nI md)) 59 (nI bk)) 60 (nI pr)) 64 (nI at2)) 65 ne0) 66 (nI lk)) 67 (nI mf2)) 68 (nI mm)) (updA (stR (stR (stR (stR X2 32 fd2 (nI d)) 33 fd2 x413) 34 fd2 (nI tn2)) 35 fd2 (nI yy)) 2 K)) := hD
                          have hkq430 : Kq 0 B (stR (stR (stR (stR X2 32 fd2 (nI d)) 33 fd2 x413) 34 fd2 (nI tn2)) 35 fd2 (nI yy)) := (Kq.st hkq422 (by omega))
                          have hce431 : (stR (stR (stR (stR X2 32 fd2 (nI d)) 33 fd2 x413) 34 fd2 (nI tn2)) 35 fd2 (nI yy)) 32 fd2 = (nI d) := ((st_ne (by omega)).trans hce423)
                          have hce432 : (stR (stR (stR (stR X2 32 fd2 (nI d)) 33 fd2 x413) 34 fd2 (nI tn2)) 35 fd2 (nI yy)) 33 fd2 = x413 := ((st_ne (by omega)).trans hce424)
                          have hce433 : (stR (stR (stR (stR X2 32 fd2 (nI d)) 33 fd2 x413) 34 fd2 (nI tn2)) 35 fd2 (nI yy)) 34 fd2 = (nI tn2) := ((st_ne (by omega)).trans hce429)
                          have hty434 : tkRow ((stR (stR (stR (stR X2 32 fd2 (nI d)) 33 fd2 x413) 34 fd2 (nI tn2)) 35 fd2 (nI yy)) 19) wr2 T := hty425
                          have hps435 : PS T nm wr2 lz dc fd2 md pr bk (stR (stR (stR (stR X2 32 fd2 (nI d)) 33 fd2 x413) 34 fd2 (nI tn2)) 35 fd2 (nI yy)) := (PS.same hps426 (by omega) (by omega) (fun r i q1 q2 q3 => st_ne (fun e => by rw [e.1, e.2] at q3; exact absurd (show fd2 < fd2 from q3) (by omega))))
                          have hfm436 : FrM K T wr2 (stR (stR (stR (stR X2 32 fd2 (nI d)) 33 fd2 x413) 34 fd2 (nI tn2)) 35 fd2 (nI yy)) nd md := (FrM.same hfm427 (by omega) (fun j i q1 q2 q3 => st_ne (by omega)) (fun i q => st_ne (by omega)))
                          have hlr437 : lsRow ((stR (stR (stR (stR X2 32 fd2 (nI d)) 33 fd2 x413) 34 fd2 (nI tn2)) 35 fd2 (nI yy)) 22) ((stR (stR (stR (stR X2 32 fd2 (nI d)) 33 fd2 x413) 34 fd2 (nI tn2)) 35 fd2 (nI yy)) 23) lz T := hlr428
                          have hce438 : (stR (stR (stR (stR X2 32 fd2 (nI d)) 33 fd2 x413) 34 fd2 (nI tn2)) 35 fd2 (nI yy)) 35 fd2 = (nI yy) := st_eq
                          refine lv_aload_n hx hb dX12_member_271 rfl (lv_at hl 6 rfl) ?_
                          refine lv_dup hx hb dX12_member_272 rfl ?_
                          refine r_get (v := .int (nI fd2)) hx hb hown hq hE hP 44 413 tFX12_44 (by decide) pw_1727 rfl dX12_member_273 ?_
                          refine lv_iconst (v := 1) hx hb dX12_member_276 (by decide) ?_
                          refine lv_iadd hx hb dX12_member_277 ?_
                          refine lv_topi (fun x439 e440 => ?_)
                          obtain rfl : x439 = nI (fd2 + 1) := e440.trans (nI_add (fd2) (1))
                          refine r_put (v := (nI (fd2 + 1))) (ty := .int) hx hb hown hq hE hP hD hS 44 413 tFX12_44 (by decide) pw_1727 (by decide) rfl rfl (ms_44 a _ _) dX12_member_278 (fun H locs hP hD hS => ?_)
                          refine lv_aload_n hx hb dX12_member_281 rfl (lv_at hl 6 rfl) ?_
                          refine lv_dup hx hb dX12_member_282 rfl ?_
                          refine r_get (v := .int (nI mf2)) hx hb hown hq hE hP 67 390 tFX12_67 (by decide) pw_1726 rfl dX12_member_283 ?_
                          refine lv_iconst (v := 1) hx hb dX12_member_286 (by decide) ?_
                          refine lv_iadd hx hb dX12_member_287 ?_
                          refine lv_topi (fun x441 e442 => ?_)
                          obtain rfl : x441 = nI (mf2 + 1) := e442.trans (nI_add (mf2) (1))
                          refine r_put (v := (nI (mf2 + 1))) (ty := .int) hx hb hown hq hE hP hD hS 67 390 tFX12_67 (by decide) pw_1726 (by decide) rfl rfl (ms_67 a _ _) dX12_member_288 (fun H locs hP hD hS => ?_)
                          refine lv_iconst (v := 0) hx hb dX12_member_291 (by decide) ?_
                          refine lv_istore (lv' := [(6, .int 0), (7, .int 1), (5, .int (nI mo)), (4, .int (nI tn2)), (3, .int (nI yy)), (1, .int (nI d)), (0, .ref h0)]) hx hb dX12_member_292 hl (by decide) rfl (fun ls hl => ?_)
                          refine lv_aload_n hx hb dX12_member_294 rfl (lv_at hl 6 rfl) ?_
                          refine lv_bipush (v := 44) hx hb dX12_member_295 (by decide) ?_
                          have hP : va_P G.1 pCl (mW G h0 a (upd (upd (upd (upd (upd (upd (upd (upd (upd (upd (upd (upd (upd (upd (upd (upd (upd F 15 0) 16 pl2) 27 (nI nd)) 31 (nI wr2)) 34 (nI lz)) 35 (nI dc)) 44 (nI (fd2 + 1))) 49 (nI md)) 59 (nI bk)) 60 (nI pr)) 64 (nI at2)) 65 ne0) 66 (nI lk)) 67 (nI (mf2 + 1))) 68 (nI mm)) 15 (nI 0)) 64 (nI at2)) (updA (updA (stR (stR (stR (stR X2 32 fd2 (nI d)) 33 fd2 x413) 34 fd2 (nI tn2)) 35 fd2 (nI yy)) 2 K) 2 K)) _ := hP
                          have hD : va_D A (mW G h0 a (upd (upd (upd (upd (upd (upd (upd (upd (upd (upd (upd (upd (upd (upd (upd (upd (upd F 15 0) 16 pl2) 27 (nI nd)) 31 (nI wr2)) 34 (nI lz)) 35 (nI dc)) 44 (nI (fd2 + 1))) 49 (nI md)) 59 (nI bk)) 60 (nI pr)) 64 (nI at2)) 65 ne0) 66 (nI lk)) 67 (nI (mf2 + 1))) 68 (nI mm)) 15 (nI 0)) 64 (nI at2)) (updA (updA (stR (stR (stR (stR X2 32 fd2 (nI d)) 33 fd2 x413) 34 fd2 (nI tn2)) 35 fd2 (nI yy)) 2 K) 2 K)) := hD
                          refine pc_V0 (G := G) (As := [.int 44]) (rest := []) hx hb hml hown hq hE hX pX0_al hP hD hS hA hl.1 (R_may l G h0 a (upd (upd (upd (upd (upd (upd (upd (upd (upd (upd (upd (upd (upd (upd (upd F 15 0) 16 pl2) 27 (nI nd)) 31 (nI wr2)) 34 (nI lz)) 35 (nI dc)) 44 (nI (fd2 + 1))) 49 (nI md)) 59 (nI bk)) 60 (nI pr)) 64 (nI at2)) 65 ne0) 66 (nI lk)) 67 (nI (mf2 + 1))) 68 (nI mm)) (updA (stR (stR (stR (stR X2 32 fd2 (nI d)) 33 fd2 x413) 34 fd2 (nI tn2)) 35 fd2 (nI yy)) 2 K) at2 T 0 K 44 (by omega) (by omega) hK (by omega) (by decide) (by decide)) (gV pw_1621 pw_1622 pw_1623 pw_1523 pw_1605) hV_X12_may 0 9 rfl rfl rfl rfl (Nat.le_of_ble_eq_true rfl) dX12_member_297 ⟨Nat.le_of_ble_eq_true rfl, Nat.le_of_ble_eq_true rfl⟩ ⟨Nat.le_of_ble_eq_true rfl, Nat.le_of_ble_eq_true rfl⟩ (fun v445 u443 H locs hw444 hP hD hS => ?_)
                          obtain ⟨at446, r447⟩ := u443
                          obtain ⟨hw444, h448, h449, h450, h451, h452, h453⟩ := hw444
                          replace h448 : r447 ≤ 1 := h448
                          replace h449 : 0 + 100 * r447 ≤ 100 := h449
                          replace h450 : at446 = at2 + r447 := h450
                          replace h451 : at446 ≤ T := h451
                          replace h452 : If (r447 = 1) (K at2 = 44) := h452
                          replace h453 : If (r447 = 0) (0 = 0 → ¬ K at2 = 44) := h453
                          obtain rfl : v445 = some (.int (nI r447)) := hw444
                          have hP : va_P G.1 pCl (mW G h0 a (upd (upd (upd (upd (upd (upd (upd (upd (upd (upd (upd (upd (upd (upd (upd F 15 0) 16 pl2) 27 (nI nd)) 31 (nI wr2)) 34 (nI lz)) 35 (nI dc)) 44 (nI (fd2 + 1))) 49 (nI md)) 59 (nI bk)) 60 (nI pr)) 64 (nI at446)) 65 ne0) 66 (nI lk)) 67 (nI (mf2 + 1))) 68 (nI mm)) (updA (stR (stR (stR (stR X2 32 fd2 (nI d)) 33 fd2 x413) 34 fd2 (nI tn2)) 35 fd2 (nI yy)) 2 K)) _ := hP
                          have hD : va_D A (mW G h0 a (upd (upd (upd (upd (upd (upd (upd (upd (upd (upd (upd (upd (upd (upd (upd F 15 0) 16 pl2) 27 (nI nd)) 31 (nI wr2)) 34 (nI lz)) 35 (nI dc)) 44 (nI (fd2 + 1))) 49 (nI md)) 59 (nI bk)) 60 (nI pr)) 64 (nI at446)) 65 ne0) 66 (nI lk)) 67 (nI (mf2 + 1))) 68 (nI mm)) (updA (stR (stR (stR (stR X2 32 fd2 (nI d)) 33 fd2 x413) 34 fd2 (nI tn2)) 35 fd2 (nI yy)) 2 K)) := hD
                          refine W.widen (k := 0) (n := 0) (Nat.le_of_ble_eq_true rfl) (Nat.le_of_ble_eq_true rfl) ?_
                          refine W.eq (g2 := F0 m 300 ls [.int (nI r447)]) rfl ?_
                          refine lv_istore (lv' := [(5, .int (nI r447)), (6, .int 0), (7, .int 1), (4, .int (nI tn2)), (3, .int (nI yy)), (1, .int (nI d)), (0, .ref h0)]) hx hb dX12_member_300 hl (by decide) rfl (fun ls hl => ?_)
                          refine lv_iload hx hb dX12_member_302 (lv_at hl 0 rfl) ?_
                          refine lv_if_eq (tgt := 313) hx hb dX12_member_304 (by decide) (fun c454 => ?_) (fun c454 => ?_)
                          · have n455 : r447 = 0 := (nI_eq (a := r447) (b := 0) (by omega) (by omega)).mp c454
                            refine lv_goto (tgt := 145) hx hb dX12_member_313 (by decide) ?_
                            have hP : va_P G.1 pCl (mW G h0 a (upd (upd (upd (upd (upd (upd (upd (upd (upd (upd (upd (upd (upd (upd (upd F 15 0) 16 pl2) 27 (nI nd)) 31 (nI wr2)) 34 (nI lz)) 35 (nI dc)) 44 (nI (fd2 + 1))) 49 (nI md)) 59 (nI bk)) 60 (nI pr)) 64 (nI at446)) 65 ne0) 66 (nI lk)) 67 (nI (mf2 + 1))) 68 (nI mm)) (updA (stR (stR (stR (stR X2 32 fd2 (nI d)) 33 fd2 x413) 34 fd2 (nI tn2)) 35 fd2 (nI yy)) 2 K)) _ := hP
                            have hD : va_D A (mW G h0 a (upd (upd (upd (upd (upd (upd (upd (upd (upd (upd (upd (upd (upd (upd (upd F 15 0) 16 pl2) 27 (nI nd)) 31 (nI wr2)) 34 (nI lz)) 35 (nI dc)) 44 (nI (fd2 + 1))) 49 (nI md)) 59 (nI bk)) 60 (nI pr)) 64 (nI at446)) 65 ne0) 66 (nI lk)) 67 (nI (mf2 + 1))) 68 (nI mm)) (updA (stR (stR (stR (stR X2 32 fd2 (nI d)) 33 fd2 x413) 34 fd2 (nI tn2)) 35 fd2 (nI yy)) 2 K)) := hD
                            exact ih_o (mf2 + 1) at446 wr2 (fd2 + 1) r447 0 tn2 yy pl2 (stR (stR (stR (stR X2 32 fd2 (nI d)) 33 fd2 x413) 34 fd2 (nI tn2)) 35 fd2 (nI yy)) _ _ _ (by omega) (by omega) (by omega) (by omega) (by omega) (by omega) (by omega) (by omega) (by omega) (by omega) hkq430 (PS.fld hps435 hce431 (by omega) (by omega) hce433 (by omega) hce438 (by omega) (by rw [hkq430 26 (by omega)]; exact hdi0)) hfm436 hty434 hlr437 hP hD hS (lv_sub hl [1, 0, 3, 4, 5, 6] rfl)
                          · have n456 : ¬ (r447 = 0) := fun h9 => c454 ((nI_eq (a := r447) (b := 0) (by omega) (by omega)).mpr h9)
                            refine lv_aload_n hx hb dX12_member_307 rfl (lv_at hl 6 rfl) ?_
                            have hP : va_P G.1 pCl (mW G h0 a (upd (upd (upd (upd (upd (upd (upd (upd (upd (upd (upd (upd (upd (upd (upd (upd (upd F 15 0) 16 pl2) 27 (nI nd)) 31 (nI wr2)) 34 (nI lz)) 35 (nI dc)) 44 (nI (fd2 + 1))) 49 (nI md)) 59 (nI bk)) 60 (nI pr)) 64 (nI at446)) 65 ne0) 66 (nI lk)) 67 (nI (mf2 + 1))) 68 (nI mm)) 15 (nI 0)) 64 (nI at446)) (updA (updA (stR (stR (stR (stR X2 32 fd2 (nI d)) 33 fd2 x413) 34 fd2 (nI tn2)) 35 fd2 (nI yy)) 2 K) 2 K)) _ := hP
                            have hD : va_D A (mW G h0 a (upd (upd (upd (upd (upd (upd (upd (upd (upd (upd (upd (upd (upd (upd (upd (upd (upd F 15 0) 16 pl2) 27 (nI nd)) 31 (nI wr2)) 34 (nI lz)) 35 (nI dc)) 44 (nI (fd2 + 1))) 49 (nI md)) 59 (nI bk)) 60 (nI pr)) 64 (nI at446)) 65 ne0) 66 (nI lk)) 67 (nI (mf2 + 1))) 68 (nI mm)) 15 (nI 0)) 64 (nI at446)) (updA (updA (stR (stR (stR (stR X2 32 fd2 (nI d)) 33 fd2 x413) 34 fd2 (nI tn2)) 35 fd2 (nI yy)) 2 K) 2 K)) := hD
                            refine pc_V0 (G := G) (As := []) (rest := []) hx hb hml hown hq hE hX pX0_al hP hD hS hA hl.1 (R_name l G h0 a (upd (upd (upd (upd (upd (upd (upd (upd (upd (upd (upd (upd (upd (upd (upd F 15 0) 16 pl2) 27 (nI nd)) 31 (nI wr2)) 34 (nI lz)) 35 (nI dc)) 44 (nI (fd2 + 1))) 49 (nI md)) 59 (nI bk)) 60 (nI pr)) 64 (nI at446)) 65 ne0) 66 (nI lk)) 67 (nI (mf2 + 1))) 68 (nI mm)) (updA (stR (stR (stR (stR X2 32 fd2 (nI d)) 33 fd2 x413) 34 fd2 (nI tn2)) 35 fd2 (nI yy)) 2 K) at446 T 0 K (by omega) (by omega) hK (by omega)) (gV pw_1618 pw_1619 pw_1620 pw_1523 pw_1613) hV_X12_name 0 9 rfl rfl rfl rfl (Nat.le_of_ble_eq_true rfl) dX12_member_308 ⟨Nat.le_of_ble_eq_true rfl, Nat.le_of_ble_eq_true rfl⟩ ⟨Nat.le_of_ble_eq_true rfl, Nat.le_of_ble_eq_true rfl⟩ (fun v459 u457 H locs hw458 hP hD hS => ?_)
                            obtain ⟨at460, fa461, pl462⟩ := u457
                            obtain ⟨hw458, h463, h464, h465, h466, h467, h468, h469, h470⟩ := hw458
                            replace h463 : at446 ≤ at460 := h463
                            replace h464 : at460 ≤ T := h464
                            replace h465 : 0 ≤ fa461 := h465
                            replace h466 : fa461 ≤ 100 := h466
                            replace h467 : If (0 < 0) (at460 = at446 ∧ fa461 = 0) := h467
                            replace h468 : at460 ≤ at446 + 1 := h468
                            replace h469 : at446 + 1 ≤ at460 + fa461 := h469
                            replace h470 : If (fa461 = 0) (K at446 = 1) := h470
                            obtain rfl : v459 = some (.int (nI at446)) := hw458
                            have hP : va_P G.1 pCl (mW G h0 a (upd (upd (upd (upd (upd (upd (upd (upd (upd (upd (upd (upd (upd (upd (upd F 15 (nI fa461)) 16 pl462) 27 (nI nd)) 31 (nI wr2)) 34 (nI lz)) 35 (nI dc)) 44 (nI (fd2 + 1))) 49 (nI md)) 59 (nI bk)) 60 (nI pr)) 64 (nI at460)) 65 ne0) 66 (nI lk)) 67 (nI (mf2 + 1))) 68 (nI mm)) (updA (stR (stR (stR (stR X2 32 fd2 (nI d)) 33 fd2 x413) 34 fd2 (nI tn2)) 35 fd2 (nI yy)) 2 K)) _ := hP
                            have hD : va_D A (mW G h0 a (upd (upd (upd (upd (upd (upd (upd (upd (upd (upd (upd (upd (upd (upd (upd F 15 (nI fa461)) 16 pl462) 27 (nI nd)) 31 (nI wr2)) 34 (nI lz)) 35 (nI dc)) 44 (nI (fd2 + 1))) 49 (nI md)) 59 (nI bk)) 60 (nI pr)) 64 (nI at460)) 65 ne0) 66 (nI lk)) 67 (nI (mf2 + 1))) 68 (nI mm)) (updA (stR (stR (stR (stR X2 32 fd2 (nI d)) 33 fd2 x413) 34 fd2 (nI tn2)) 35 fd2 (nI yy)) 2 K)) := hD
                            refine W.widen (k := 0) (n := 0) (Nat.le_of_ble_eq_true rfl) (Nat.le_of_ble_eq_true rfl) ?_
                            refine W.eq (g2 := F0 m 311 ls [.int (nI at446)]) rfl ?_
                            rcases Nat.eq_zero_or_pos fa461 with e471 | e471
                            · subst e471
                              have hP : va_P G.1 pCl (mW G h0 a (upd (upd (upd (upd (upd (upd (upd (upd (upd (upd (upd (upd (upd (upd (upd F 15 0) 16 pl462) 27 (nI nd)) 31 (nI wr2)) 34 (nI lz)) 35 (nI dc)) 44 (nI (fd2 + 1))) 49 (nI md)) 59 (nI bk)) 60 (nI pr)) 64 (nI at460)) 65 ne0) 66 (nI lk)) 67 (nI (mf2 + 1))) 68 (nI mm)) (updA (stR (stR (stR (stR X2 32 fd2 (nI d)) 33 fd2 x413) 34 fd2 (nI tn2)) 35 fd2 (nI yy)) 2 K)) _ := hP
                              have hD : va_D A (mW G h0 a (upd (upd (upd (upd (upd (upd (upd (upd (upd (upd (upd (upd (upd (upd (upd F 15 0) 16 pl462) 27 (nI nd)) 31 (nI wr2)) 34 (nI lz)) 35 (nI dc)) 44 (nI (fd2 + 1))) 49 (nI md)) 59 (nI bk)) 60 (nI pr)) 64 (nI at460)) 65 ne0) 66 (nI lk)) 67 (nI (mf2 + 1))) 68 (nI mm)) (updA (stR (stR (stR (stR X2 32 fd2 (nI d)) 33 fd2 x413) 34 fd2 (nI tn2)) 35 fd2 (nI yy)) 2 K)) := hD
                              refine lv_istore (lv' := [(4, .int (nI at446)), (5, .int (nI r447)), (6, .int 0), (7, .int 1), (3, .int (nI yy)), (1, .int (nI d)), (0, .ref h0)]) hx hb dX12_member_311 hl (by decide) rfl (fun ls hl => ?_)
                              refine lv_goto (tgt := 145) hx hb dX12_member_313 (by decide) ?_
                              have hP : va_P G.1 pCl (mW G h0 a (upd (upd (upd (upd (upd (upd (upd (upd (upd (upd (upd (upd (upd (upd (upd F 15 0) 16 pl462) 27 (nI nd)) 31 (nI wr2)) 34 (nI lz)) 35 (nI dc)) 44 (nI (fd2 + 1))) 49 (nI md)) 59 (nI bk)) 60 (nI pr)) 64 (nI at460)) 65 ne0) 66 (nI lk)) 67 (nI (mf2 + 1))) 68 (nI mm)) (updA (stR (stR (stR (stR X2 32 fd2 (nI d)) 33 fd2 x413) 34 fd2 (nI tn2)) 35 fd2 (nI yy)) 2 K)) _ := hP
                              have hD : va_D A (mW G h0 a (upd (upd (upd (upd (upd (upd (upd (upd (upd (upd (upd (upd (upd (upd (upd F 15 0) 16 pl462) 27 (nI nd)) 31 (nI wr2)) 34 (nI lz)) 35 (nI dc)) 44 (nI (fd2 + 1))) 49 (nI md)) 59 (nI bk)) 60 (nI pr)) 64 (nI at460)) 65 ne0) 66 (nI lk)) 67 (nI (mf2 + 1))) 68 (nI mm)) (updA (stR (stR (stR (stR X2 32 fd2 (nI d)) 33 fd2 x413) 34 fd2 (nI tn2)) 35 fd2 (nI yy)) 2 K)) := hD
                              exact ih_o (mf2 + 1) at460 wr2 (fd2 + 1) r447 0 at446 yy pl462 (stR (stR (stR (stR X2 32 fd2 (nI d)) 33 fd2 x413) 34 fd2 (nI tn2)) 35 fd2 (nI yy)) _ _ _ (by omega) (by omega) (by omega) (by omega) (by omega) (by omega) (by omega) (by omega) (by omega) (by omega) hkq430 (PS.fld hps435 hce431 (by omega) (by omega) hce433 (by omega) hce438 (by omega) (by rw [hkq430 26 (by omega)]; exact hdi0)) hfm436 hty434 hlr437 hP hD hS (lv_sub hl [2, 1, 0, 4, 5, 6] rfl)
                            · have e471 := e471
                              refine lv_istore (lv' := [(4, .int (nI at446)), (5, .int (nI r447)), (6, .int 0), (7, .int 1), (3, .int (nI yy)), (1, .int (nI d)), (0, .ref h0)]) hx hb dX12_member_311 hl (by decide) rfl (fun ls hl => ?_)
                              refine lv_goto (tgt := 145) hx hb dX12_member_313 (by decide) ?_
                              refine lv_iload hx hb dX12_member_145 (lv_at hl 1 rfl) ?_
                              refine lv_if_eq (tgt := 316) hx hb dX12_member_147 (by decide) (fun c472 => ?_) (fun c472 => ?_)
                              · have n473 : r447 = 0 := (nI_eq (a := r447) (b := 0) (by omega) (by omega)).mp c472
                                refine lv_aload_n hx hb dX12_member_316 rfl (lv_at hl 6 rfl) ?_
                                refine lv_bipush (v := 59) hx hb dX12_member_317 (by decide) ?_
                                have hP : va_P G.1 pCl (mW G h0 a (upd (upd (upd (upd (upd (upd (upd (upd (upd (upd (upd (upd (upd (upd (upd (upd (upd F 15 (nI fa461)) 16 pl462) 27 (nI nd)) 31 (nI wr2)) 34 (nI lz)) 35 (nI dc)) 44 (nI (fd2 + 1))) 49 (nI md)) 59 (nI bk)) 60 (nI pr)) 64 (nI at460)) 65 ne0) 66 (nI lk)) 67 (nI (mf2 + 1))) 68 (nI mm)) 15 (nI fa461)) 64 (nI at460)) (updA (updA (stR (stR (stR (stR X2 32 fd2 (nI d)) 33 fd2 x413) 34 fd2 (nI tn2)) 35 fd2 (nI yy)) 2 K) 2 K)) _ := hP
                                have hD : va_D A (mW G h0 a (upd (upd (upd (upd (upd (upd (upd (upd (upd (upd (upd (upd (upd (upd (upd (upd (upd F 15 (nI fa461)) 16 pl462) 27 (nI nd)) 31 (nI wr2)) 34 (nI lz)) 35 (nI dc)) 44 (nI (fd2 + 1))) 49 (nI md)) 59 (nI bk)) 60 (nI pr)) 64 (nI at460)) 65 ne0) 66 (nI lk)) 67 (nI (mf2 + 1))) 68 (nI mm)) 15 (nI fa461)) 64 (nI at460)) (updA (updA (stR (stR (stR (stR X2 32 fd2 (nI d)) 33 fd2 x413) 34 fd2 (nI tn2)) 35 fd2 (nI yy)) 2 K) 2 K)) := hD
                                refine pc_V0 (G := G) (As := [.int 59]) (rest := []) hx hb hml hown hq hE hX pX0_al hP hD hS hA hl.1 (R_take l G h0 a (upd (upd (upd (upd (upd (upd (upd (upd (upd (upd (upd (upd (upd (upd (upd F 15 (nI fa461)) 16 pl462) 27 (nI nd)) 31 (nI wr2)) 34 (nI lz)) 35 (nI dc)) 44 (nI (fd2 + 1))) 49 (nI md)) 59 (nI bk)) 60 (nI pr)) 64 (nI at460)) 65 ne0) 66 (nI lk)) 67 (nI (mf2 + 1))) 68 (nI mm)) (updA (stR (stR (stR (stR X2 32 fd2 (nI d)) 33 fd2 x413) 34 fd2 (nI tn2)) 35 fd2 (nI yy)) 2 K) at460 T fa461 K 59 (by omega) (by omega) hK (by omega) (by decide) (by decide)) (gV pw_1614 pw_1615 pw_1616 pw_1523 pw_1601) hV_X12_take 0 9 rfl rfl rfl rfl (Nat.le_of_ble_eq_true rfl) dX12_member_319 ⟨Nat.le_of_ble_eq_true rfl, Nat.le_of_ble_eq_true rfl⟩ ⟨Nat.le_of_ble_eq_true rfl, Nat.le_of_ble_eq_true rfl⟩ (fun v476 u474 H locs hw475 hP hD hS => ?_)
                                obtain ⟨at477, fa478, pl479⟩ := u474
                                obtain ⟨hw475, h480, h481, h482, h483, h484, h485, h486, h487⟩ := hw475
                                replace h480 : at460 ≤ at477 := h480
                                replace h481 : at477 ≤ T := h481
                                replace h482 : fa461 ≤ fa478 := h482
                                replace h483 : fa478 ≤ 100 := h483
                                replace h484 : If (0 < fa461) (at477 = at460 ∧ fa478 = fa461) := h484
                                replace h485 : at477 ≤ at460 + 1 := h485
                                replace h486 : at460 + 1 ≤ at477 + fa478 := h486
                                replace h487 : If (fa478 = 0) (K at460 = 59) := h487
                                obtain rfl : v476 = none := hw475
                                have hP : va_P G.1 pCl (mW G h0 a (upd (upd (upd (upd (upd (upd (upd (upd (upd (upd (upd (upd (upd (upd (upd F 15 (nI fa478)) 16 pl479) 27 (nI nd)) 31 (nI wr2)) 34 (nI lz)) 35 (nI dc)) 44 (nI (fd2 + 1))) 49 (nI md)) 59 (nI bk)) 60 (nI pr)) 64 (nI at477)) 65 ne0) 66 (nI lk)) 67 (nI (mf2 + 1))) 68 (nI mm)) (updA (stR (stR (stR (stR X2 32 fd2 (nI d)) 33 fd2 x413) 34 fd2 (nI tn2)) 35 fd2 (nI yy)) 2 K)) _ := hP
                                have hD : va_D A (mW G h0 a (upd (upd (upd (upd (upd (upd (upd (upd (upd (upd (upd (upd (upd (upd (upd F 15 (nI fa478)) 16 pl479) 27 (nI nd)) 31 (nI wr2)) 34 (nI lz)) 35 (nI dc)) 44 (nI (fd2 + 1))) 49 (nI md)) 59 (nI bk)) 60 (nI pr)) 64 (nI at477)) 65 ne0) 66 (nI lk)) 67 (nI (mf2 + 1))) 68 (nI mm)) (updA (stR (stR (stR (stR X2 32 fd2 (nI d)) 33 fd2 x413) 34 fd2 (nI tn2)) 35 fd2 (nI yy)) 2 K)) := hD
                                refine W.widen (k := 0) (n := 0) (Nat.le_of_ble_eq_true rfl) (Nat.le_of_ble_eq_true rfl) ?_
                                refine W.eq (g2 := F0 m 322 ls []) rfl ?_
                                obtain ⟨n489, n488⟩ := h484 e471
                                replace n489 := n489.symm
                                subst n489
                                replace n488 := n488.symm
                                subst n488
                                have hz490 : at0 ≤ at460 := (by omega)
                                have hz491 : at460 ≤ T := (by omega)
                                have hz492 : fa461 ≤ 100 := (by omega)
                                have hz493 : at0 + 1 ≤ at460 + fa461 := (by omega)
                                have hz494 : Kq 0 B (stR (stR (stR (stR X2 32 fd2 (nI d)) 33 fd2 x413) 34 fd2 (nI tn2)) 35 fd2 (nI yy)) := hkq430
                                have hz495 : If (fa461 = 0) ((nd ≤ 2 * at460 ∧ wr2 ≤ at460 ∧ lz ≤ at460 ∧ pr ≤ at460 ∧ dc ≤ 37 ∧ dc ≤ dc ∧ bk ≤ md ∧ wr ≤ wr2 ∧ lz ≤ lz) ∧ (md + 240 ≤ 30 * dc + mm ∧ (fd2 + 1) + 160 ≤ 20 * dc + (mf2 + 1) ∧ (mf2 + 1) ≤ 20 ∧ mm ≤ 30 ∧ dc = dc) ∧ PS T nm wr2 lz dc (fd2 + 1) md pr bk (stR (stR (stR (stR X2 32 fd2 (nI d)) 33 fd2 x413) 34 fd2 (nI tn2)) 35 fd2 (nI yy)) ∧ FrM K T wr2 (stR (stR (stR (stR X2 32 fd2 (nI d)) 33 fd2 x413) 34 fd2 (nI tn2)) 35 fd2 (nI yy)) nd md ∧ tkRow ((stR (stR (stR (stR X2 32 fd2 (nI d)) 33 fd2 x413) 34 fd2 (nI tn2)) 35 fd2 (nI yy)) 19) wr2 T ∧ lsRow ((stR (stR (stR (stR X2 32 fd2 (nI d)) 33 fd2 x413) 34 fd2 (nI tn2)) 35 fd2 (nI yy)) 22) ((stR (stR (stR (stR X2 32 fd2 (nI d)) 33 fd2 x413) 34 fd2 (nI tn2)) 35 fd2 (nI yy)) 23) lz T) := (fun e => absurd e (by omega))
                                have hP : va_P G.1 pCl (mW G h0 a (upd (upd (upd (upd (upd (upd (upd (upd (upd (upd (upd (upd (upd (upd (upd F 15 (nI fa461)) 16 pl479) 27 (nI nd)) 31 (nI wr2)) 34 (nI lz)) 35 (nI dc)) 44 (nI (fd2 + 1))) 49 (nI md)) 59 (nI bk)) 60 (nI pr)) 64 (nI at460)) 65 ne0) 66 (nI lk)) 67 (nI (mf2 + 1))) 68 (nI mm)) (updA (stR (stR (stR (stR X2 32 fd2 (nI d)) 33 fd2 x413) 34 fd2 (nI tn2)) 35 fd2 (nI yy)) 2 K)) _ := hP
                                have hD : va_D A (mW G h0 a (upd (upd (upd (upd (upd (upd (upd (upd (upd (upd (upd (upd (upd (upd (upd F 15 (nI fa461)) 16 pl479) 27 (nI nd)) 31 (nI wr2)) 34 (nI lz)) 35 (nI dc)) 44 (nI (fd2 + 1))) 49 (nI md)) 59 (nI bk)) 60 (nI pr)) 64 (nI at460)) 65 ne0) 66 (nI lk)) 67 (nI (mf2 + 1))) 68 (nI mm)) (updA (stR (stR (stR (stR X2 32 fd2 (nI d)) 33 fd2 x413) 34 fd2 (nI tn2)) 35 fd2 (nI yy)) 2 K)) := hD
                                exact W.vret hx hb hr (fun t9 ht9 hW9 => ⟨⟨_, (at460, fa461, pl479, nd, wr2, lz, dc, (fd2 + 1), md, pr, bk, (mf2 + 1), mm, ne0, (stR (stR (stR (stR X2 32 fd2 (nI d)) 33 fd2 x413) 34 fd2 (nI tn2)) 35 fd2 (nI yy))), rfl, ⟨rfl, hz490, hz491, hz492, hz493, hz494, hz495⟩, by rw [ht9]; exact hP, hD⟩, hS.F ht9⟩) hS.2.2 dX12_member_322
                              · have n496 : ¬ (r447 = 0) := fun h9 => c472 ((nI_eq (a := r447) (b := 0) (by omega) (by omega)).mpr h9)
                                refine lv_aload_n hx hb dX12_member_150 rfl (lv_at hl 6 rfl) ?_
                                refine r_get (v := .int (nI fa461)) hx hb hown hq hE hP 15 350 tFX12_15 (by decide) pw_1594 rfl dX12_member_151 ?_
                                refine lv_if_ne (tgt := 316) hx hb dX12_member_154 (by decide) (fun c497 => ?_) (fun c497 => (by have n498 : fa461 = 0 := (nI_eq (a := fa461) (b := 0) (by omega) (by omega)).mp c497; omega))
                                refine lv_aload_n hx hb dX12_member_316 rfl (lv_at hl 6 rfl) ?_
                                refine lv_bipush (v := 59) hx hb dX12_member_317 (by decide) ?_
                                have hP : va_P G.1 pCl (mW G h0 a (upd (upd (upd (upd (upd (upd (upd (upd (upd (upd (upd (upd (upd (upd (upd (upd (upd F 15 (nI fa461)) 16 pl462) 27 (nI nd)) 31 (nI wr2)) 34 (nI lz)) 35 (nI dc)) 44 (nI (fd2 + 1))) 49 (nI md)) 59 (nI bk)) 60 (nI pr)) 64 (nI at460)) 65 ne0) 66 (nI lk)) 67 (nI (mf2 + 1))) 68 (nI mm)) 15 (nI fa461)) 64 (nI at460)) (updA (updA (stR (stR (stR (stR X2 32 fd2 (nI d)) 33 fd2 x413) 34 fd2 (nI tn2)) 35 fd2 (nI yy)) 2 K) 2 K)) _ := hP
                                have hD : va_D A (mW G h0 a (upd (upd (upd (upd (upd (upd (upd (upd (upd (upd (upd (upd (upd (upd (upd (upd (upd F 15 (nI fa461)) 16 pl462) 27 (nI nd)) 31 (nI wr2)) 34 (nI lz)) 35 (nI dc)) 44 (nI (fd2 + 1))) 49 (nI md)) 59 (nI bk)) 60 (nI pr)) 64 (nI at460)) 65 ne0) 66 (nI lk)) 67 (nI (mf2 + 1))) 68 (nI mm)) 15 (nI fa461)) 64 (nI at460)) (updA (updA (stR (stR (stR (stR X2 32 fd2 (nI d)) 33 fd2 x413) 34 fd2 (nI tn2)) 35 fd2 (nI yy)) 2 K) 2 K)) := hD
                                refine pc_V0 (G := G) (As := [.int 59]) (rest := []) hx hb hml hown hq hE hX pX0_al hP hD hS hA hl.1 (R_take l G h0 a (upd (upd (upd (upd (upd (upd (upd (upd (upd (upd (upd (upd (upd (upd (upd F 15 (nI fa461)) 16 pl462) 27 (nI nd)) 31 (nI wr2)) 34 (nI lz)) 35 (nI dc)) 44 (nI (fd2 + 1))) 49 (nI md)) 59 (nI bk)) 60 (nI pr)) 64 (nI at460)) 65 ne0) 66 (nI lk)) 67 (nI (mf2 + 1))) 68 (nI mm)) (updA (stR (stR (stR (stR X2 32 fd2 (nI d)) 33 fd2 x413) 34 fd2 (nI tn2)) 35 fd2 (nI yy)) 2 K) at460 T fa461 K 59 (by omega) (by omega) hK (by omega) (by decide) (by decide)) (gV pw_1614 pw_1615 pw_1616 pw_1523 pw_1601) hV_X12_take 0 9 rfl rfl rfl rfl (Nat.le_of_ble_eq_true rfl) dX12_member_319 ⟨Nat.le_of_ble_eq_true rfl, Nat.le_of_ble_eq_true rfl⟩ ⟨Nat.le_of_ble_eq_true rfl, Nat.le_of_ble_eq_true rfl⟩ (fun v501 u499 H locs hw500 hP hD hS => ?_)
                                obtain ⟨at502, fa503, pl504⟩ := u499
                                obtain ⟨hw500, h505, h506, h507, h508, h509, h510, h511, h512⟩ := hw500
                                replace h505 : at460 ≤ at502 := h505
                                replace h506 : at502 ≤ T := h506
                                replace h507 : fa461 ≤ fa503 := h507
                                replace h508 : fa503 ≤ 100 := h508
                                replace h509 : If (0 < fa461) (at502 = at460 ∧ fa503 = fa461) := h509
                                replace h510 : at502 ≤ at460 + 1 := h510
                                replace h511 : at460 + 1 ≤ at502 + fa503 := h511
                                replace h512 : If (fa503 = 0) (K at460 = 59) := h512
                                obtain rfl : v501 = none := hw500
                                have hP : va_P G.1 pCl (mW G h0 a (upd (upd (upd (upd (upd (upd (upd (upd (upd (upd (upd (upd (upd (upd (upd F 15 (nI fa503)) 16 pl504) 27 (nI nd)) 31 (nI wr2)) 34 (nI lz)) 35 (nI dc)) 44 (nI (fd2 + 1))) 49 (nI md)) 59 (nI bk)) 60 (nI pr)) 64 (nI at502)) 65 ne0) 66 (nI lk)) 67 (nI (mf2 + 1))) 68 (nI mm)) (updA (stR (stR (stR (stR X2 32 fd2 (nI d)) 33 fd2 x413) 34 fd2 (nI tn2)) 35 fd2 (nI yy)) 2 K)) _ := hP
                                have hD : va_D A (mW G h0 a (upd (upd (upd (upd (upd (upd (upd (upd (upd (upd (upd (upd (upd (upd (upd F 15 (nI fa503)) 16 pl504) 27 (nI nd)) 31 (nI wr2)) 34 (nI lz)) 35 (nI dc)) 44 (nI (fd2 + 1))) 49 (nI md)) 59 (nI bk)) 60 (nI pr)) 64 (nI at502)) 65 ne0) 66 (nI lk)) 67 (nI (mf2 + 1))) 68 (nI mm)) (updA (stR (stR (stR (stR X2 32 fd2 (nI d)) 33 fd2 x413) 34 fd2 (nI tn2)) 35 fd2 (nI yy)) 2 K)) := hD
                                refine W.widen (k := 0) (n := 0) (Nat.le_of_ble_eq_true rfl) (Nat.le_of_ble_eq_true rfl) ?_
                                refine W.eq (g2 := F0 m 322 ls []) rfl ?_
                                obtain ⟨n514, n513⟩ := h509 e471
                                replace n514 := n514.symm
                                subst n514
                                replace n513 := n513.symm
                                subst n513
                                have hz515 : at0 ≤ at460 := (by omega)
                                have hz516 : at460 ≤ T := (by omega)
                                have hz517 : fa461 ≤ 100 := (by omega)
                                have hz518 : at0 + 1 ≤ at460 + fa461 := (by omega)
                                have hz519 : Kq 0 B (stR (stR (stR (stR X2 32 fd2 (nI d)) 33 fd2 x413) 34 fd2 (nI tn2)) 35 fd2 (nI yy)) := hkq430
                                have hz520 : If (fa461 = 0) ((nd ≤ 2 * at460 ∧ wr2 ≤ at460 ∧ lz ≤ at460 ∧ pr ≤ at460 ∧ dc ≤ 37 ∧ dc ≤ dc ∧ bk ≤ md ∧ wr ≤ wr2 ∧ lz ≤ lz) ∧ (md + 240 ≤ 30 * dc + mm ∧ (fd2 + 1) + 160 ≤ 20 * dc + (mf2 + 1) ∧ (mf2 + 1) ≤ 20 ∧ mm ≤ 30 ∧ dc = dc) ∧ PS T nm wr2 lz dc (fd2 + 1) md pr bk (stR (stR (stR (stR X2 32 fd2 (nI d)) 33 fd2 x413) 34 fd2 (nI tn2)) 35 fd2 (nI yy)) ∧ FrM K T wr2 (stR (stR (stR (stR X2 32 fd2 (nI d)) 33 fd2 x413) 34 fd2 (nI tn2)) 35 fd2 (nI yy)) nd md ∧ tkRow ((stR (stR (stR (stR X2 32 fd2 (nI d)) 33 fd2 x413) 34 fd2 (nI tn2)) 35 fd2 (nI yy)) 19) wr2 T ∧ lsRow ((stR (stR (stR (stR X2 32 fd2 (nI d)) 33 fd2 x413) 34 fd2 (nI tn2)) 35 fd2 (nI yy)) 22) ((stR (stR (stR (stR X2 32 fd2 (nI d)) 33 fd2 x413) 34 fd2 (nI tn2)) 35 fd2 (nI yy)) 23) lz T) := (fun e => absurd e (by omega))
                                have hP : va_P G.1 pCl (mW G h0 a (upd (upd (upd (upd (upd (upd (upd (upd (upd (upd (upd (upd (upd (upd (upd F 15 (nI fa461)) 16 pl504) 27 (nI nd)) 31 (nI wr2)) 34 (nI lz)) 35 (nI dc)) 44 (nI (fd2 + 1))) 49 (nI md)) 59 (nI bk)) 60 (nI pr)) 64 (nI at460)) 65 ne0) 66 (nI lk)) 67 (nI (mf2 + 1))) 68 (nI mm)) (updA (stR (stR (stR (stR X2 32 fd2 (nI d)) 33 fd2 x413) 34 fd2 (nI tn2)) 35 fd2 (nI yy)) 2 K)) _ := hP
                                have hD : va_D A (mW G h0 a (upd (upd (upd (upd (upd (upd (upd (upd (upd (upd (upd (upd (upd (upd (upd F 15 (nI fa461)) 16 pl504) 27 (nI nd)) 31 (nI wr2)) 34 (nI lz)) 35 (nI dc)) 44 (nI (fd2 + 1))) 49 (nI md)) 59 (nI bk)) 60 (nI pr)) 64 (nI at460)) 65 ne0) 66 (nI lk)) 67 (nI (mf2 + 1))) 68 (nI mm)) (updA (stR (stR (stR (stR X2 32 fd2 (nI d)) 33 fd2 x413) 34 fd2 (nI tn2)) 35 fd2 (nI yy)) 2 K)) := hD
                                exact W.vret hx hb hr (fun t9 ht9 hW9 => ⟨⟨_, (at460, fa461, pl504, nd, wr2, lz, dc, (fd2 + 1), md, pr, bk, (mf2 + 1), mm, ne0, (stR (stR (stR (stR X2 32 fd2 (nI d)) 33 fd2 x413) 34 fd2 (nI tn2)) 35 fd2 (nI yy))), rfl, ⟨rfl, hz515, hz516, hz517, hz518, hz519, hz520⟩, by rw [ht9]; exact hP, hD⟩, hS.F ht9⟩) hS.2.2 dX12_member_322
                        · have n521 : mf2 = 20 := (nI_eq (a := mf2) (b := 20) (by omega) (by omega)).mp c402
                          refine lv_aload_n hx hb dX12_member_209 rfl (lv_at hl 6 rfl) ?_
                          refine lv_iconst (v := 2) hx hb dX12_member_210 (by decide) ?_
                          refine lv_iload hx hb dX12_member_211 (lv_at hl 3 rfl) ?_
                          have hP : va_P G.1 pCl (mW G h0 a (upd (upd (upd (upd (upd (upd (upd (upd (upd (upd (upd (upd (upd (upd (upd (upd F 15 0) 16 pl2) 27 (nI nd)) 31 (nI wr2)) 34 (nI lz)) 35 (nI dc)) 44 (nI fd2)) 49 (nI md)) 59 (nI bk)) 60 (nI pr)) 64 (nI at2)) 65 ne0) 66 (nI lk)) 67 (nI mf2)) 68 (nI mm)) 15 (nI 0)) (updA X2 2 K)) _ := hP
                          have hD : va_D A (mW G h0 a (upd (upd (upd (upd (upd (upd (upd (upd (upd (upd (upd (upd (upd (upd (upd (upd F 15 0) 16 pl2) 27 (nI nd)) 31 (nI wr2)) 34 (nI lz)) 35 (nI dc)) 44 (nI fd2)) 49 (nI md)) 59 (nI bk)) 60 (nI pr)) 64 (nI at2)) 65 ne0) 66 (nI lk)) 67 (nI mf2)) 68 (nI mm)) 15 (nI 0)) (updA X2 2 K)) := hD
                          refine pc_V0 (G := G) (As := [.int (nI 2), .int (nI tn2)]) (rest := []) hx hb hml hown hq hE hX pX0_al hP hD hS hA hl.1 (R_badAt l G h0 a (upd (upd (upd (upd (upd (upd (upd (upd (upd (upd (upd (upd (upd (upd (upd F 15 0) 16 pl2) 27 (nI nd)) 31 (nI wr2)) 34 (nI lz)) 35 (nI dc)) 44 (nI fd2)) 49 (nI md)) 59 (nI bk)) 60 (nI pr)) 64 (nI at2)) 65 ne0) 66 (nI lk)) 67 (nI mf2)) 68 (nI mm)) (updA X2 2 K) 2 tn2 0 (by omega) (by omega) (by omega)) (gV pw_1597 pw_1598 pw_1599 pw_1523 pw_1593) hV_X12_badAt 0 9 rfl rfl rfl rfl (Nat.le_of_ble_eq_true rfl) dX12_member_213 ⟨Nat.le_of_ble_eq_true rfl, Nat.le_of_ble_eq_true rfl⟩ ⟨Nat.le_of_ble_eq_true rfl, Nat.le_of_ble_eq_true rfl⟩ (fun v524 u522 H locs hw523 hP hD hS => ?_)
                          obtain ⟨fa525, pl526⟩ := u522
                          obtain ⟨hw523, h527, h528, h529, h530⟩ := hw523
                          replace h527 : 0 ≤ fa525 := h527
                          replace h528 : fa525 ≤ 0 + 2 := h528
                          replace h529 : 0 < fa525 := h529
                          replace h530 : If (0 < 0) (fa525 = 0) := h530
                          obtain rfl : v524 = none := hw523
                          have hP : va_P G.1 pCl (mW G h0 a (upd (upd (upd (upd (upd (upd (upd (upd (upd (upd (upd (upd (upd (upd (upd F 15 (nI fa525)) 16 pl526) 27 (nI nd)) 31 (nI wr2)) 34 (nI lz)) 35 (nI dc)) 44 (nI fd2)) 49 (nI md)) 59 (nI bk)) 60 (nI pr)) 64 (nI at2)) 65 ne0) 66 (nI lk)) 67 (nI mf2)) 68 (nI mm)) (updA X2 2 K)) _ := hP
                          have hD : va_D A (mW G h0 a (upd (upd (upd (upd (upd (upd (upd (upd (upd (upd (upd (upd (upd (upd (upd F 15 (nI fa525)) 16 pl526) 27 (nI nd)) 31 (nI wr2)) 34 (nI lz)) 35 (nI dc)) 44 (nI fd2)) 49 (nI md)) 59 (nI bk)) 60 (nI pr)) 64 (nI at2)) 65 ne0) 66 (nI lk)) 67 (nI mf2)) 68 (nI mm)) (updA X2 2 K)) := hD
                          refine W.widen (k := 0) (n := 0) (Nat.le_of_ble_eq_true rfl) (Nat.le_of_ble_eq_true rfl) ?_
                          refine W.eq (g2 := F0 m 216 ls []) rfl ?_
                          refine lv_aload_n hx hb dX12_member_216 rfl (lv_at hl 6 rfl) ?_
                          refine r_get (v := .int (nI fa525)) hx hb hown hq hE hP 15 350 tFX12_15 (by decide) pw_1594 rfl dX12_member_217 ?_
                          refine lv_if_le (tgt := 224) hx hb dX12_member_220 (by decide) (fun c531 => (by have n532 : fa525 ≤ 0 := (nI_leI (a := fa525) (b := 0) (by omega) (by omega)).mp c531; omega)) (fun c531 => ?_)
                          have hz533 : at0 ≤ at2 := (by omega)
                          have hz534 : at2 ≤ T := (by omega)
                          have hz535 : fa525 ≤ 100 := (by omega)
                          have hz536 : at0 + 1 ≤ at2 + fa525 := (by omega)
                          have hz537 : Kq 0 B X2 := hkq2
                          have hz538 : If (fa525 = 0) ((nd ≤ 2 * at2 ∧ wr2 ≤ at2 ∧ lz ≤ at2 ∧ pr ≤ at2 ∧ dc ≤ 37 ∧ dc ≤ dc ∧ bk ≤ md ∧ wr ≤ wr2 ∧ lz ≤ lz) ∧ (md + 240 ≤ 30 * dc + mm ∧ fd2 + 160 ≤ 20 * dc + mf2 ∧ mf2 ≤ 20 ∧ mm ≤ 30 ∧ dc = dc) ∧ PS T nm wr2 lz dc fd2 md pr bk X2 ∧ FrM K T wr2 X2 nd md ∧ tkRow (X2 19) wr2 T ∧ lsRow (X2 22) (X2 23) lz T) := (fun e => absurd e (by omega))
                          have hP : va_P G.1 pCl (mW G h0 a (upd (upd (upd (upd (upd (upd (upd (upd (upd (upd (upd (upd (upd (upd (upd F 15 (nI fa525)) 16 pl526) 27 (nI nd)) 31 (nI wr2)) 34 (nI lz)) 35 (nI dc)) 44 (nI fd2)) 49 (nI md)) 59 (nI bk)) 60 (nI pr)) 64 (nI at2)) 65 ne0) 66 (nI lk)) 67 (nI mf2)) 68 (nI mm)) (updA X2 2 K)) _ := hP
                          have hD : va_D A (mW G h0 a (upd (upd (upd (upd (upd (upd (upd (upd (upd (upd (upd (upd (upd (upd (upd F 15 (nI fa525)) 16 pl526) 27 (nI nd)) 31 (nI wr2)) 34 (nI lz)) 35 (nI dc)) 44 (nI fd2)) 49 (nI md)) 59 (nI bk)) 60 (nI pr)) 64 (nI at2)) 65 ne0) 66 (nI lk)) 67 (nI mf2)) 68 (nI mm)) (updA X2 2 K)) := hD
                          exact W.vret hx hb hr (fun t9 ht9 hW9 => ⟨⟨_, (at2, fa525, pl526, nd, wr2, lz, dc, fd2, md, pr, bk, mf2, mm, ne0, X2), rfl, ⟨rfl, hz533, hz534, hz535, hz536, hz537, hz538⟩, by rw [ht9]; exact hP, hD⟩, hS.F ht9⟩) hS.2.2 dX12_member_223
            have hP : va_P G.1 pCl (mW G h0 a (upd (upd (upd (upd (upd (upd (upd (upd (upd (upd (upd (upd (upd (upd (upd F 15 0) 16 pl44) 27 (nI nd)) 31 (nI wr13)) 34 (nI lz)) 35 (nI dc)) 44 (nI fd)) 49 (nI md)) 59 (nI bk)) 60 (nI pr)) 64 (nI at42)) 65 ne0) 66 (nI lk)) 67 (nI mf)) 68 (nI mm)) (updA (updA (updA B 19 yt15) 20 yr16) 2 K)) _ := hP
            have hD : va_D A (mW G h0 a (upd (upd (upd (upd (upd (upd (upd (upd (upd (upd (upd (upd (upd (upd (upd F 15 0) 16 pl44) 27 (nI nd)) 31 (nI wr13)) 34 (nI lz)) 35 (nI dc)) 44 (nI fd)) 49 (nI md)) 59 (nI bk)) 60 (nI pr)) 64 (nI at42)) 65 ne0) 66 (nI lk)) 67 (nI mf)) 68 (nI mm)) (updA (updA (updA B 19 yt15) 20 yr16) 2 K)) := hD
            exact loop_o (20 + 1) mf at42 wr13 fd 1 1 at10 r14 pl44 (updA (updA B 19 yt15) 20 yr16) _ _ _ (by omega) (by omega) (by omega) (by omega) (by omega) (by omega) (by omega) (by omega) (by omega) (by omega) hkq33 hps35 hfm36 hty34 hlr37 hP hD hS (lv_sub hl [0, 1, 2, 3, 6, 5] rfl)
          · refine lv_aload_n hx hb dX12_member_113 rfl (lv_at hl 3 rfl) ?_
            refine r_get (v := .int (nI mm)) hx hb hown hq hE hP 68 393 tFX12_68 (by decide) pw_1722 rfl dX12_member_114 ?_
            refine lv_bipush (v := 30) hx hb dX12_member_117 (by decide) ?_
            refine lv_icmp_ne (tgt := 130) hx hb dX12_member_119 (by decide) (fun c539 => ?_) (fun c539 => ?_)
            · have n540 : ¬ (mm = 30) := fun h9 => c539 ((nI_eq (a := mm) (b := 30) (by omega) (by omega)).mpr h9)
              refine lv_aload_n hx hb dX12_member_130 rfl (lv_at hl 3 rfl) ?_
              refine lv_iload_n hx hb dX12_member_131 rfl (lv_at hl 4 rfl) ?_
              refine lv_iload_n hx hb dX12_member_132 rfl (lv_at hl 1 rfl) ?_
              refine lv_iload hx hb dX12_member_133 (lv_at hl 0 rfl) ?_
              have hP : va_P G.1 pCl (mW G h0 a (upd (upd (upd (upd (upd (upd (upd (upd (upd (upd (upd (upd (upd (upd (upd (upd (upd (upd (upd (upd (upd (upd (upd (upd (upd (upd (upd (upd (upd F 15 0) 16 pl44) 27 (nI nd)) 31 (nI wr13)) 34 (nI lz)) 35 (nI dc)) 44 (nI fd)) 49 (nI md)) 59 (nI bk)) 60 (nI pr)) 64 (nI at42)) 65 ne0) 66 (nI lk)) 67 (nI mf)) 68 (nI mm)) 15 0) 27 (nI nd)) 31 (nI wr13)) 34 (nI lz)) 35 (nI dc)) 44 (nI fd)) 49 (nI md)) 59 (nI bk)) 60 (nI pr)) 64 (nI at42)) 65 ne0) 66 (nI lk)) 67 (nI mf)) 68 (nI mm)) (updA (updA (updA B 19 yt15) 20 yr16) 2 K)) _ := hP
              have hD : va_D A (mW G h0 a (upd (upd (upd (upd (upd (upd (upd (upd (upd (upd (upd (upd (upd (upd (upd (upd (upd (upd (upd (upd (upd (upd (upd (upd (upd (upd (upd (upd (upd F 15 0) 16 pl44) 27 (nI nd)) 31 (nI wr13)) 34 (nI lz)) 35 (nI dc)) 44 (nI fd)) 49 (nI md)) 59 (nI bk)) 60 (nI pr)) 64 (nI at42)) 65 ne0) 66 (nI lk)) 67 (nI mf)) 68 (nI mm)) 15 0) 27 (nI nd)) 31 (nI wr13)) 34 (nI lz)) 35 (nI dc)) 44 (nI fd)) 49 (nI md)) 59 (nI bk)) 60 (nI pr)) 64 (nI at42)) 65 ne0) 66 (nI lk)) 67 (nI mf)) 68 (nI mm)) (updA (updA (updA B 19 yt15) 20 yr16) 2 K)) := hD
              refine pc_V0 (G := G) (As := [.int (nI d), .int (nI r14), .int (nI at10)]) (rest := []) hx hb hml hown hq hE hX pX0_al hP hD hS hA hl.1 (RM_method l G h0 a (upd (upd (upd (upd (upd (upd (upd (upd (upd (upd (upd (upd (upd (upd (upd F 15 0) 16 pl44) 27 (nI nd)) 31 (nI wr13)) 34 (nI lz)) 35 (nI dc)) 44 (nI fd)) 49 (nI md)) 59 (nI bk)) 60 (nI pr)) 64 (nI at42)) 65 ne0) 66 (nI lk)) 67 (nI mf)) 68 (nI mm)) (updA (updA B 19 yt15) 20 yr16) at42 T nm nd wr13 lz dc fd md pr bk mf mm lk ne0 K d at10 (nI r14) (by omega) (by omega) hK (by rw [hkq33 5 (by omega)]; exact hV) (by omega) (by omega) (by omega) (by omega) (by omega) (by omega) (by omega) (by omega) (by omega) (by omega) (by omega) (by omega) (by omega) (h52 rfl) (Or.inr ⟨r14, rfl, by omega⟩) hps35 hfm36 hty34 hlr37) (gV pw_1728 pw_1729 pw_1730 pw_1523 pw_1725) hV_X12_method 0 9 rfl rfl rfl rfl (Nat.le_of_ble_eq_true rfl) dX12_member_135 ⟨Nat.le_of_ble_eq_true rfl, Nat.le_of_ble_eq_true rfl⟩ ⟨Nat.le_of_ble_eq_true rfl, Nat.le_of_ble_eq_true rfl⟩ (fun v543 u541 H locs hw542 hP hD hS => ?_)
              obtain ⟨at544, fa545, pl546, nd547, wr548, lz549, dc550, fd551, md552, pr553, bk554, mf555, mm556, ne557, X558⟩ := u541
              obtain ⟨hw542, h559, h560, h561, h562, h563, h564⟩ := hw542
              replace h559 : at42 ≤ at544 := h559
              replace h560 : at544 ≤ T := h560
              replace h561 : fa545 ≤ 100 := h561
              replace h562 : at42 + 1 ≤ at544 + fa545 := h562
              replace h563 : Kq 0 (updA (updA B 19 yt15) 20 yr16) X558 := h563
              replace h564 : If (fa545 = 0) ((nd547 ≤ 2 * at544 ∧ wr548 ≤ at544 ∧ lz549 ≤ at544 ∧ pr553 ≤ at544 ∧ dc550 ≤ 37 ∧ dc ≤ dc550 ∧ bk554 ≤ md552 ∧ wr13 ≤ wr548 ∧ lz ≤ lz549) ∧ (md552 + 240 ≤ 30 * dc550 + mm556 ∧ fd551 + 160 ≤ 20 * dc550 + mf555 ∧ mf555 ≤ 20 ∧ mm556 ≤ 30 ∧ dc550 = dc) ∧ PS T nm wr548 lz549 dc550 fd551 md552 pr553 bk554 X558 ∧ FrM K T wr548 X558 nd547 md552 ∧ tkRow (X558 19) wr548 T ∧ lsRow (X558 22) (X558 23) lz549 T) := h564
              obtain rfl : v543 = none := hw542
              have hP : va_P G.1 pCl (mW G h0 a (upd (upd (upd (upd (upd (upd (upd (upd (upd (upd (upd (upd (upd (upd (upd F 15 (nI fa545)) 16 pl546) 27 (nI nd547)) 31 (nI wr548)) 34 (nI lz549)) 35 (nI dc550)) 44 (nI fd551)) 49 (nI md552)) 59 (nI bk554)) 60 (nI pr553)) 64 (nI at544)) 65 ne557) 66 (nI lk)) 67 (nI mf555)) 68 (nI mm556)) (updA X558 2 K)) _ := hP
              have hD : va_D A (mW G h0 a (upd (upd (upd (upd (upd (upd (upd (upd (upd (upd (upd (upd (upd (upd (upd F 15 (nI fa545)) 16 pl546) 27 (nI nd547)) 31 (nI wr548)) 34 (nI lz549)) 35 (nI dc550)) 44 (nI fd551)) 49 (nI md552)) 59 (nI bk554)) 60 (nI pr553)) 64 (nI at544)) 65 ne557) 66 (nI lk)) 67 (nI mf555)) 68 (nI mm556)) (updA X558 2 K)) := hD
              refine W.widen (k := 0) (n := 0) (Nat.le_of_ble_eq_true rfl) (Nat.le_of_ble_eq_true rfl) ?_
              refine W.eq (g2 := F0 m 138 ls []) rfl ?_
              have hkq565 : Kq 0 B X558 := (Kq.trans hkq33 h563 (by omega))
              rcases Nat.eq_zero_or_pos fa545 with e566 | e566
              · subst e566
                have hP : va_P G.1 pCl (mW G h0 a (upd (upd (upd (upd (upd (upd (upd (upd (upd (upd (upd (upd (upd (upd (upd F 15 0) 16 pl546) 27 (nI nd547)) 31 (nI wr548)) 34 (nI lz549)) 35 (nI dc550)) 44 (nI fd551)) 49 (nI md552)) 59 (nI bk554)) 60 (nI pr553)) 64 (nI at544)) 65 ne557) 66 (nI lk)) 67 (nI mf555)) 68 (nI mm556)) (updA X558 2 K)) _ := hP
                have hD : va_D A (mW G h0 a (upd (upd (upd (upd (upd (upd (upd (upd (upd (upd (upd (upd (upd (upd (upd F 15 0) 16 pl546) 27 (nI nd547)) 31 (nI wr548)) 34 (nI lz549)) 35 (nI dc550)) 44 (nI fd551)) 49 (nI md552)) 59 (nI bk554)) 60 (nI pr553)) 64 (nI at544)) 65 ne557) 66 (nI lk)) 67 (nI mf555)) 68 (nI mm556)) (updA X558 2 K)) := hD
                obtain ⟨hq567, hq568, hq569, hq570, hq571, hq572⟩ := h564 rfl
                obtain rfl : dc = dc550 := (by omega)
                have hz573 : at0 ≤ at544 := (by omega)
                have hz574 : at544 ≤ T := (by omega)
                have hz575 : 0 ≤ 100 := (by omega)
                have hz576 : at0 + 1 ≤ at544 + 0 := (by omega)
                have hz577 : Kq 0 B X558 := hkq565
                have hz578 : If (0 = 0) ((nd547 ≤ 2 * at544 ∧ wr548 ≤ at544 ∧ lz549 ≤ at544 ∧ pr553 ≤ at544 ∧ dc ≤ 37 ∧ dc ≤ dc ∧ bk554 ≤ md552 ∧ wr ≤ wr548 ∧ lz ≤ lz549) ∧ (md552 + 240 ≤ 30 * dc + mm556 ∧ fd551 + 160 ≤ 20 * dc + mf555 ∧ mf555 ≤ 20 ∧ mm556 ≤ 30 ∧ dc = dc) ∧ PS T nm wr548 lz549 dc fd551 md552 pr553 bk554 X558 ∧ FrM K T wr548 X558 nd547 md552 ∧ tkRow (X558 19) wr548 T ∧ lsRow (X558 22) (X558 23) lz549 T) := (fun _ => ⟨by omega, by omega, hq569, hq570, hq571, hq572⟩)
                have hP : va_P G.1 pCl (mW G h0 a (upd (upd (upd (upd (upd (upd (upd (upd (upd (upd (upd (upd (upd (upd (upd F 15 (nI 0)) 16 pl546) 27 (nI nd547)) 31 (nI wr548)) 34 (nI lz549)) 35 (nI dc)) 44 (nI fd551)) 49 (nI md552)) 59 (nI bk554)) 60 (nI pr553)) 64 (nI at544)) 65 ne557) 66 (nI lk)) 67 (nI mf555)) 68 (nI mm556)) (updA X558 2 K)) _ := hP
                have hD : va_D A (mW G h0 a (upd (upd (upd (upd (upd (upd (upd (upd (upd (upd (upd (upd (upd (upd (upd F 15 (nI 0)) 16 pl546) 27 (nI nd547)) 31 (nI wr548)) 34 (nI lz549)) 35 (nI dc)) 44 (nI fd551)) 49 (nI md552)) 59 (nI bk554)) 60 (nI pr553)) 64 (nI at544)) 65 ne557) 66 (nI lk)) 67 (nI mf555)) 68 (nI mm556)) (updA X558 2 K)) := hD
                exact W.vret hx hb hr (fun t9 ht9 hW9 => ⟨⟨_, (at544, 0, pl546, nd547, wr548, lz549, dc, fd551, md552, pr553, bk554, mf555, mm556, ne557, X558), rfl, ⟨rfl, hz573, hz574, hz575, hz576, hz577, hz578⟩, by rw [ht9]; exact hP, hD⟩, hS.F ht9⟩) hS.2.2 dX12_member_138
              · have e566 := e566
                have hz579 : at0 ≤ at544 := (by omega)
                have hz580 : at544 ≤ T := (by omega)
                have hz581 : fa545 ≤ 100 := (by omega)
                have hz582 : at0 + 1 ≤ at544 + fa545 := (by omega)
                have hz583 : Kq 0 B X558 := hkq565
                have hz584 : If (fa545 = 0) ((nd547 ≤ 2 * at544 ∧ wr548 ≤ at544 ∧ lz549 ≤ at544 ∧ pr553 ≤ at544 ∧ dc550 ≤ 37 ∧ dc ≤ dc550 ∧ bk554 ≤ md552 ∧ wr ≤ wr548 ∧ lz ≤ lz549) ∧ (md552 + 240 ≤ 30 * dc550 + mm556 ∧ fd551 + 160 ≤ 20 * dc550 + mf555 ∧ mf555 ≤ 20 ∧ mm556 ≤ 30 ∧ dc550 = dc) ∧ PS T nm wr548 lz549 dc550 fd551 md552 pr553 bk554 X558 ∧ FrM K T wr548 X558 nd547 md552 ∧ tkRow (X558 19) wr548 T ∧ lsRow (X558 22) (X558 23) lz549 T) := (fun e => absurd e (by omega))
                have hP : va_P G.1 pCl (mW G h0 a (upd (upd (upd (upd (upd (upd (upd (upd (upd (upd (upd (upd (upd (upd (upd F 15 (nI fa545)) 16 pl546) 27 (nI nd547)) 31 (nI wr548)) 34 (nI lz549)) 35 (nI dc550)) 44 (nI fd551)) 49 (nI md552)) 59 (nI bk554)) 60 (nI pr553)) 64 (nI at544)) 65 ne557) 66 (nI lk)) 67 (nI mf555)) 68 (nI mm556)) (updA X558 2 K)) _ := hP
                have hD : va_D A (mW G h0 a (upd (upd (upd (upd (upd (upd (upd (upd (upd (upd (upd (upd (upd (upd (upd F 15 (nI fa545)) 16 pl546) 27 (nI nd547)) 31 (nI wr548)) 34 (nI lz549)) 35 (nI dc550)) 44 (nI fd551)) 49 (nI md552)) 59 (nI bk554)) 60 (nI pr553)) 64 (nI at544)) 65 ne557) 66 (nI lk)) 67 (nI mf555)) 68 (nI mm556)) (updA X558 2 K)) := hD
                exact W.vret hx hb hr (fun t9 ht9 hW9 => ⟨⟨_, (at544, fa545, pl546, nd547, wr548, lz549, dc550, fd551, md552, pr553, bk554, mf555, mm556, ne557, X558), rfl, ⟨rfl, hz579, hz580, hz581, hz582, hz583, hz584⟩, by rw [ht9]; exact hP, hD⟩, hS.F ht9⟩) hS.2.2 dX12_member_138
            · have n585 : mm = 30 := (nI_eq (a := mm) (b := 30) (by omega) (by omega)).mp c539
              refine lv_aload_n hx hb dX12_member_122 rfl (lv_at hl 3 rfl) ?_
              refine lv_iconst (v := 2) hx hb dX12_member_123 (by decide) ?_
              refine lv_iload hx hb dX12_member_124 (lv_at hl 0 rfl) ?_
              have hP : va_P G.1 pCl (mW G h0 a (upd (upd (upd (upd (upd (upd (upd (upd (upd (upd (upd (upd (upd (upd (upd (upd F 15 0) 16 pl44) 27 (nI nd)) 31 (nI wr13)) 34 (nI lz)) 35 (nI dc)) 44 (nI fd)) 49 (nI md)) 59 (nI bk)) 60 (nI pr)) 64 (nI at42)) 65 ne0) 66 (nI lk)) 67 (nI mf)) 68 (nI mm)) 15 (nI 0)) (updA (updA (updA B 19 yt15) 20 yr16) 2 K)) _ := hP
              have hD : va_D A (mW G h0 a (upd (upd (upd (upd (upd (upd (upd (upd (upd (upd (upd (upd (upd (upd (upd (upd F 15 0) 16 pl44) 27 (nI nd)) 31 (nI wr13)) 34 (nI lz)) 35 (nI dc)) 44 (nI fd)) 49 (nI md)) 59 (nI bk)) 60 (nI pr)) 64 (nI at42)) 65 ne0) 66 (nI lk)) 67 (nI mf)) 68 (nI mm)) 15 (nI 0)) (updA (updA (updA B 19 yt15) 20 yr16) 2 K)) := hD
              refine pc_V0 (G := G) (As := [.int (nI 2), .int (nI at10)]) (rest := []) hx hb hml hown hq hE hX pX0_al hP hD hS hA hl.1 (R_badAt l G h0 a (upd (upd (upd (upd (upd (upd (upd (upd (upd (upd (upd (upd (upd (upd (upd F 15 0) 16 pl44) 27 (nI nd)) 31 (nI wr13)) 34 (nI lz)) 35 (nI dc)) 44 (nI fd)) 49 (nI md)) 59 (nI bk)) 60 (nI pr)) 64 (nI at42)) 65 ne0) 66 (nI lk)) 67 (nI mf)) 68 (nI mm)) (updA (updA (updA B 19 yt15) 20 yr16) 2 K) 2 at10 0 (by omega) (by omega) (by omega)) (gV pw_1597 pw_1598 pw_1599 pw_1523 pw_1593) hV_X12_badAt 0 9 rfl rfl rfl rfl (Nat.le_of_ble_eq_true rfl) dX12_member_126 ⟨Nat.le_of_ble_eq_true rfl, Nat.le_of_ble_eq_true rfl⟩ ⟨Nat.le_of_ble_eq_true rfl, Nat.le_of_ble_eq_true rfl⟩ (fun v588 u586 H locs hw587 hP hD hS => ?_)
              obtain ⟨fa589, pl590⟩ := u586
              obtain ⟨hw587, h591, h592, h593, h594⟩ := hw587
              replace h591 : 0 ≤ fa589 := h591
              replace h592 : fa589 ≤ 0 + 2 := h592
              replace h593 : 0 < fa589 := h593
              replace h594 : If (0 < 0) (fa589 = 0) := h594
              obtain rfl : v588 = none := hw587
              have hP : va_P G.1 pCl (mW G h0 a (upd (upd (upd (upd (upd (upd (upd (upd (upd (upd (upd (upd (upd (upd (upd F 15 (nI fa589)) 16 pl590) 27 (nI nd)) 31 (nI wr13)) 34 (nI lz)) 35 (nI dc)) 44 (nI fd)) 49 (nI md)) 59 (nI bk)) 60 (nI pr)) 64 (nI at42)) 65 ne0) 66 (nI lk)) 67 (nI mf)) 68 (nI mm)) (updA (updA (updA B 19 yt15) 20 yr16) 2 K)) _ := hP
              have hD : va_D A (mW G h0 a (upd (upd (upd (upd (upd (upd (upd (upd (upd (upd (upd (upd (upd (upd (upd F 15 (nI fa589)) 16 pl590) 27 (nI nd)) 31 (nI wr13)) 34 (nI lz)) 35 (nI dc)) 44 (nI fd)) 49 (nI md)) 59 (nI bk)) 60 (nI pr)) 64 (nI at42)) 65 ne0) 66 (nI lk)) 67 (nI mf)) 68 (nI mm)) (updA (updA (updA B 19 yt15) 20 yr16) 2 K)) := hD
              refine W.widen (k := 0) (n := 0) (Nat.le_of_ble_eq_true rfl) (Nat.le_of_ble_eq_true rfl) ?_
              refine W.eq (g2 := F0 m 129 ls []) rfl ?_
              have hz595 : at0 ≤ at42 := (by omega)
              have hz596 : at42 ≤ T := (by omega)
              have hz597 : fa589 ≤ 100 := (by omega)
              have hz598 : at0 + 1 ≤ at42 + fa589 := (by omega)
              have hz599 : Kq 0 B (updA (updA B 19 yt15) 20 yr16) := hkq33
              have hz600 : If (fa589 = 0) ((nd ≤ 2 * at42 ∧ wr13 ≤ at42 ∧ lz ≤ at42 ∧ pr ≤ at42 ∧ dc ≤ 37 ∧ dc ≤ dc ∧ bk ≤ md ∧ wr ≤ wr13 ∧ lz ≤ lz) ∧ (md + 240 ≤ 30 * dc + mm ∧ fd + 160 ≤ 20 * dc + mf ∧ mf ≤ 20 ∧ mm ≤ 30 ∧ dc = dc) ∧ PS T nm wr13 lz dc fd md pr bk (updA (updA B 19 yt15) 20 yr16) ∧ FrM K T wr13 (updA (updA B 19 yt15) 20 yr16) nd md ∧ tkRow ((updA (updA B 19 yt15) 20 yr16) 19) wr13 T ∧ lsRow ((updA (updA B 19 yt15) 20 yr16) 22) ((updA (updA B 19 yt15) 20 yr16) 23) lz T) := (fun e => absurd e (by omega))
              have hP : va_P G.1 pCl (mW G h0 a (upd (upd (upd (upd (upd (upd (upd (upd (upd (upd (upd (upd (upd (upd (upd F 15 (nI fa589)) 16 pl590) 27 (nI nd)) 31 (nI wr13)) 34 (nI lz)) 35 (nI dc)) 44 (nI fd)) 49 (nI md)) 59 (nI bk)) 60 (nI pr)) 64 (nI at42)) 65 ne0) 66 (nI lk)) 67 (nI mf)) 68 (nI mm)) (updA (updA (updA B 19 yt15) 20 yr16) 2 K)) _ := hP
              have hD : va_D A (mW G h0 a (upd (upd (upd (upd (upd (upd (upd (upd (upd (upd (upd (upd (upd (upd (upd F 15 (nI fa589)) 16 pl590) 27 (nI nd)) 31 (nI wr13)) 34 (nI lz)) 35 (nI dc)) 44 (nI fd)) 49 (nI md)) 59 (nI bk)) 60 (nI pr)) 64 (nI at42)) 65 ne0) 66 (nI lk)) 67 (nI mf)) 68 (nI mm)) (updA (updA (updA B 19 yt15) 20 yr16) 2 K)) := hD
              exact W.vret hx hb hr (fun t9 ht9 hW9 => ⟨⟨_, (at42, fa589, pl590, nd, wr13, lz, dc, fd, md, pr, bk, mf, mm, ne0, (updA (updA B 19 yt15) 20 yr16)), rfl, ⟨rfl, hz595, hz596, hz597, hz598, hz599, hz600⟩, by rw [ht9]; exact hP, hD⟩, hS.F ht9⟩) hS.2.2 dX12_member_129
        · have hce601 : (updA (updA B 19 yt15) 20 yr16) 26 d = 1 := e58
          refine lv_topi (fun x56 e57 => ?_)
          obtain rfl : x56 = 1 := e57.trans e58
          refine lv_if_ne (tgt := 113) hx hb dX12_member_101 (by decide) (fun c602 => ?_) (fun c602 => absurd c602 (by decide))
          refine lv_aload_n hx hb dX12_member_113 rfl (lv_at hl 3 rfl) ?_
          refine r_get (v := .int (nI mm)) hx hb hown hq hE hP 68 393 tFX12_68 (by decide) pw_1722 rfl dX12_member_114 ?_
          refine lv_bipush (v := 30) hx hb dX12_member_117 (by decide) ?_
          refine lv_icmp_ne (tgt := 130) hx hb dX12_member_119 (by decide) (fun c603 => ?_) (fun c603 => ?_)
          · have n604 : ¬ (mm = 30) := fun h9 => c603 ((nI_eq (a := mm) (b := 30) (by omega) (by omega)).mpr h9)
            refine lv_aload_n hx hb dX12_member_130 rfl (lv_at hl 3 rfl) ?_
            refine lv_iload_n hx hb dX12_member_131 rfl (lv_at hl 4 rfl) ?_
            refine lv_iload_n hx hb dX12_member_132 rfl (lv_at hl 1 rfl) ?_
            refine lv_iload hx hb dX12_member_133 (lv_at hl 0 rfl) ?_
            have hP : va_P G.1 pCl (mW G h0 a (upd (upd (upd (upd (upd (upd (upd (upd (upd (upd (upd (upd (upd (upd (upd (upd (upd (upd (upd (upd (upd (upd (upd (upd (upd (upd (upd (upd (upd F 15 0) 16 pl44) 27 (nI nd)) 31 (nI wr13)) 34 (nI lz)) 35 (nI dc)) 44 (nI fd)) 49 (nI md)) 59 (nI bk)) 60 (nI pr)) 64 (nI at42)) 65 ne0) 66 (nI lk)) 67 (nI mf)) 68 (nI mm)) 15 0) 27 (nI nd)) 31 (nI wr13)) 34 (nI lz)) 35 (nI dc)) 44 (nI fd)) 49 (nI md)) 59 (nI bk)) 60 (nI pr)) 64 (nI at42)) 65 ne0) 66 (nI lk)) 67 (nI mf)) 68 (nI mm)) (updA (updA (updA B 19 yt15) 20 yr16) 2 K)) _ := hP
            have hD : va_D A (mW G h0 a (upd (upd (upd (upd (upd (upd (upd (upd (upd (upd (upd (upd (upd (upd (upd (upd (upd (upd (upd (upd (upd (upd (upd (upd (upd (upd (upd (upd (upd F 15 0) 16 pl44) 27 (nI nd)) 31 (nI wr13)) 34 (nI lz)) 35 (nI dc)) 44 (nI fd)) 49 (nI md)) 59 (nI bk)) 60 (nI pr)) 64 (nI at42)) 65 ne0) 66 (nI lk)) 67 (nI mf)) 68 (nI mm)) 15 0) 27 (nI nd)) 31 (nI wr13)) 34 (nI lz)) 35 (nI dc)) 44 (nI fd)) 49 (nI md)) 59 (nI bk)) 60 (nI pr)) 64 (nI at42)) 65 ne0) 66 (nI lk)) 67 (nI mf)) 68 (nI mm)) (updA (updA (updA B 19 yt15) 20 yr16) 2 K)) := hD
            refine pc_V0 (G := G) (As := [.int (nI d), .int (nI r14), .int (nI at10)]) (rest := []) hx hb hml hown hq hE hX pX0_al hP hD hS hA hl.1 (RM_method l G h0 a (upd (upd (upd (upd (upd (upd (upd (upd (upd (upd (upd (upd (upd (upd (upd F 15 0) 16 pl44) 27 (nI nd)) 31 (nI wr13)) 34 (nI lz)) 35 (nI dc)) 44 (nI fd)) 49 (nI md)) 59 (nI bk)) 60 (nI pr)) 64 (nI at42)) 65 ne0) 66 (nI lk)) 67 (nI mf)) 68 (nI mm)) (updA (updA B 19 yt15) 20 yr16) at42 T nm nd wr13 lz dc fd md pr bk mf mm lk ne0 K d at10 (nI r14) (by omega) (by omega) hK (by rw [hkq33 5 (by omega)]; exact hV) (by omega) (by omega) (by omega) (by omega) (by omega) (by omega) (by omega) (by omega) (by omega) (by omega) (by omega) (by omega) (by omega) (h52 rfl) (Or.inr ⟨r14, rfl, by omega⟩) hps35 hfm36 hty34 hlr37) (gV pw_1728 pw_1729 pw_1730 pw_1523 pw_1725) hV_X12_method 0 9 rfl rfl rfl rfl (Nat.le_of_ble_eq_true rfl) dX12_member_135 ⟨Nat.le_of_ble_eq_true rfl, Nat.le_of_ble_eq_true rfl⟩ ⟨Nat.le_of_ble_eq_true rfl, Nat.le_of_ble_eq_true rfl⟩ (fun v607 u605 H locs hw606 hP hD hS => ?_)
            obtain ⟨at608, fa609, pl610, nd611, wr612, lz613, dc614, fd615, md616, pr617, bk618, mf619, mm620, ne621, X622⟩ := u605
            obtain ⟨hw606, h623, h624, h625, h626, h627, h628⟩ := hw606
            replace h623 : at42 ≤ at608 := h623
            replace h624 : at608 ≤ T := h624
            replace h625 : fa609 ≤ 100 := h625
            replace h626 : at42 + 1 ≤ at608 + fa609 := h626
            replace h627 : Kq 0 (updA (updA B 19 yt15) 20 yr16) X622 := h627
            replace h628 : If (fa609 = 0) ((nd611 ≤ 2 * at608 ∧ wr612 ≤ at608 ∧ lz613 ≤ at608 ∧ pr617 ≤ at608 ∧ dc614 ≤ 37 ∧ dc ≤ dc614 ∧ bk618 ≤ md616 ∧ wr13 ≤ wr612 ∧ lz ≤ lz613) ∧ (md616 + 240 ≤ 30 * dc614 + mm620 ∧ fd615 + 160 ≤ 20 * dc614 + mf619 ∧ mf619 ≤ 20 ∧ mm620 ≤ 30 ∧ dc614 = dc) ∧ PS T nm wr612 lz613 dc614 fd615 md616 pr617 bk618 X622 ∧ FrM K T wr612 X622 nd611 md616 ∧ tkRow (X622 19) wr612 T ∧ lsRow (X622 22) (X622 23) lz613 T) := h628
            obtain rfl : v607 = none := hw606
            have hP : va_P G.1 pCl (mW G h0 a (upd (upd (upd (upd (upd (upd (upd (upd (upd (upd (upd (upd (upd (upd (upd F 15 (nI fa609)) 16 pl610) 27 (nI nd611)) 31 (nI wr612)) 34 (nI lz613)) 35 (nI dc614)) 44 (nI fd615)) 49 (nI md616)) 59 (nI bk618)) 60 (nI pr617)) 64 (nI at608)) 65 ne621) 66 (nI lk)) 67 (nI mf619)) 68 (nI mm620)) (updA X622 2 K)) _ := hP
            have hD : va_D A (mW G h0 a (upd (upd (upd (upd (upd (upd (upd (upd (upd (upd (upd (upd (upd (upd (upd F 15 (nI fa609)) 16 pl610) 27 (nI nd611)) 31 (nI wr612)) 34 (nI lz613)) 35 (nI dc614)) 44 (nI fd615)) 49 (nI md616)) 59 (nI bk618)) 60 (nI pr617)) 64 (nI at608)) 65 ne621) 66 (nI lk)) 67 (nI mf619)) 68 (nI mm620)) (updA X622 2 K)) := hD
            refine W.widen (k := 0) (n := 0) (Nat.le_of_ble_eq_true rfl) (Nat.le_of_ble_eq_true rfl) ?_
            refine W.eq (g2 := F0 m 138 ls []) rfl ?_
            have hkq629 : Kq 0 B X622 := (Kq.trans hkq33 h627 (by omega))
            rcases Nat.eq_zero_or_pos fa609 with e630 | e630
            · subst e630
              have hP : va_P G.1 pCl (mW G h0 a (upd (upd (upd (upd (upd (upd (upd (upd (upd (upd (upd (upd (upd (upd (upd F 15 0) 16 pl610) 27 (nI nd611)) 31 (nI wr612)) 34 (nI lz613)) 35 (nI dc614)) 44 (nI fd615)) 49 (nI md616)) 59 (nI bk618)) 60 (nI pr617)) 64 (nI at608)) 65 ne621) 66 (nI lk)) 67 (nI mf619)) 68 (nI mm620)) (updA X622 2 K)) _ := hP
              have hD : va_D A (mW G h0 a (upd (upd (upd (upd (upd (upd (upd (upd (upd (upd (upd (upd (upd (upd (upd F 15 0) 16 pl610) 27 (nI nd611)) 31 (nI wr612)) 34 (nI lz613)) 35 (nI dc614)) 44 (nI fd615)) 49 (nI md616)) 59 (nI bk618)) 60 (nI pr617)) 64 (nI at608)) 65 ne621) 66 (nI lk)) 67 (nI mf619)) 68 (nI mm620)) (updA X622 2 K)) := hD
              obtain ⟨hq631, hq632, hq633, hq634, hq635, hq636⟩ := h628 rfl
              obtain rfl : dc = dc614 := (by omega)
              have hz637 : at0 ≤ at608 := (by omega)
              have hz638 : at608 ≤ T := (by omega)
              have hz639 : 0 ≤ 100 := (by omega)
              have hz640 : at0 + 1 ≤ at608 + 0 := (by omega)
              have hz641 : Kq 0 B X622 := hkq629
              have hz642 : If (0 = 0) ((nd611 ≤ 2 * at608 ∧ wr612 ≤ at608 ∧ lz613 ≤ at608 ∧ pr617 ≤ at608 ∧ dc ≤ 37 ∧ dc ≤ dc ∧ bk618 ≤ md616 ∧ wr ≤ wr612 ∧ lz ≤ lz613) ∧ (md616 + 240 ≤ 30 * dc + mm620 ∧ fd615 + 160 ≤ 20 * dc + mf619 ∧ mf619 ≤ 20 ∧ mm620 ≤ 30 ∧ dc = dc) ∧ PS T nm wr612 lz613 dc fd615 md616 pr617 bk618 X622 ∧ FrM K T wr612 X622 nd611 md616 ∧ tkRow (X622 19) wr612 T ∧ lsRow (X622 22) (X622 23) lz613 T) := (fun _ => ⟨by omega, by omega, hq633, hq634, hq635, hq636⟩)
              have hP : va_P G.1 pCl (mW G h0 a (upd (upd (upd (upd (upd (upd (upd (upd (upd (upd (upd (upd (upd (upd (upd F 15 (nI 0)) 16 pl610) 27 (nI nd611)) 31 (nI wr612)) 34 (nI lz613)) 35 (nI dc)) 44 (nI fd615)) 49 (nI md616)) 59 (nI bk618)) 60 (nI pr617)) 64 (nI at608)) 65 ne621) 66 (nI lk)) 67 (nI mf619)) 68 (nI mm620)) (updA X622 2 K)) _ := hP
              have hD : va_D A (mW G h0 a (upd (upd (upd (upd (upd (upd (upd (upd (upd (upd (upd (upd (upd (upd (upd F 15 (nI 0)) 16 pl610) 27 (nI nd611)) 31 (nI wr612)) 34 (nI lz613)) 35 (nI dc)) 44 (nI fd615)) 49 (nI md616)) 59 (nI bk618)) 60 (nI pr617)) 64 (nI at608)) 65 ne621) 66 (nI lk)) 67 (nI mf619)) 68 (nI mm620)) (updA X622 2 K)) := hD
              exact W.vret hx hb hr (fun t9 ht9 hW9 => ⟨⟨_, (at608, 0, pl610, nd611, wr612, lz613, dc, fd615, md616, pr617, bk618, mf619, mm620, ne621, X622), rfl, ⟨rfl, hz637, hz638, hz639, hz640, hz641, hz642⟩, by rw [ht9]; exact hP, hD⟩, hS.F ht9⟩) hS.2.2 dX12_member_138
            · have e630 := e630
              have hz643 : at0 ≤ at608 := (by omega)
              have hz644 : at608 ≤ T := (by omega)
              have hz645 : fa609 ≤ 100 := (by omega)
              have hz646 : at0 + 1 ≤ at608 + fa609 := (by omega)
              have hz647 : Kq 0 B X622 := hkq629
              have hz648 : If (fa609 = 0) ((nd611 ≤ 2 * at608 ∧ wr612 ≤ at608 ∧ lz613 ≤ at608 ∧ pr617 ≤ at608 ∧ dc614 ≤ 37 ∧ dc ≤ dc614 ∧ bk618 ≤ md616 ∧ wr ≤ wr612 ∧ lz ≤ lz613) ∧ (md616 + 240 ≤ 30 * dc614 + mm620 ∧ fd615 + 160 ≤ 20 * dc614 + mf619 ∧ mf619 ≤ 20 ∧ mm620 ≤ 30 ∧ dc614 = dc) ∧ PS T nm wr612 lz613 dc614 fd615 md616 pr617 bk618 X622 ∧ FrM K T wr612 X622 nd611 md616 ∧ tkRow (X622 19) wr612 T ∧ lsRow (X622 22) (X622 23) lz613 T) := (fun e => absurd e (by omega))
              have hP : va_P G.1 pCl (mW G h0 a (upd (upd (upd (upd (upd (upd (upd (upd (upd (upd (upd (upd (upd (upd (upd F 15 (nI fa609)) 16 pl610) 27 (nI nd611)) 31 (nI wr612)) 34 (nI lz613)) 35 (nI dc614)) 44 (nI fd615)) 49 (nI md616)) 59 (nI bk618)) 60 (nI pr617)) 64 (nI at608)) 65 ne621) 66 (nI lk)) 67 (nI mf619)) 68 (nI mm620)) (updA X622 2 K)) _ := hP
              have hD : va_D A (mW G h0 a (upd (upd (upd (upd (upd (upd (upd (upd (upd (upd (upd (upd (upd (upd (upd F 15 (nI fa609)) 16 pl610) 27 (nI nd611)) 31 (nI wr612)) 34 (nI lz613)) 35 (nI dc614)) 44 (nI fd615)) 49 (nI md616)) 59 (nI bk618)) 60 (nI pr617)) 64 (nI at608)) 65 ne621) 66 (nI lk)) 67 (nI mf619)) 68 (nI mm620)) (updA X622 2 K)) := hD
              exact W.vret hx hb hr (fun t9 ht9 hW9 => ⟨⟨_, (at608, fa609, pl610, nd611, wr612, lz613, dc614, fd615, md616, pr617, bk618, mf619, mm620, ne621, X622), rfl, ⟨rfl, hz643, hz644, hz645, hz646, hz647, hz648⟩, by rw [ht9]; exact hP, hD⟩, hS.F ht9⟩) hS.2.2 dX12_member_138
          · have n649 : mm = 30 := (nI_eq (a := mm) (b := 30) (by omega) (by omega)).mp c603
            refine lv_aload_n hx hb dX12_member_122 rfl (lv_at hl 3 rfl) ?_
            refine lv_iconst (v := 2) hx hb dX12_member_123 (by decide) ?_
            refine lv_iload hx hb dX12_member_124 (lv_at hl 0 rfl) ?_
            have hP : va_P G.1 pCl (mW G h0 a (upd (upd (upd (upd (upd (upd (upd (upd (upd (upd (upd (upd (upd (upd (upd (upd F 15 0) 16 pl44) 27 (nI nd)) 31 (nI wr13)) 34 (nI lz)) 35 (nI dc)) 44 (nI fd)) 49 (nI md)) 59 (nI bk)) 60 (nI pr)) 64 (nI at42)) 65 ne0) 66 (nI lk)) 67 (nI mf)) 68 (nI mm)) 15 (nI 0)) (updA (updA (updA B 19 yt15) 20 yr16) 2 K)) _ := hP
            have hD : va_D A (mW G h0 a (upd (upd (upd (upd (upd (upd (upd (upd (upd (upd (upd (upd (upd (upd (upd (upd F 15 0) 16 pl44) 27 (nI nd)) 31 (nI wr13)) 34 (nI lz)) 35 (nI dc)) 44 (nI fd)) 49 (nI md)) 59 (nI bk)) 60 (nI pr)) 64 (nI at42)) 65 ne0) 66 (nI lk)) 67 (nI mf)) 68 (nI mm)) 15 (nI 0)) (updA (updA (updA B 19 yt15) 20 yr16) 2 K)) := hD
            refine pc_V0 (G := G) (As := [.int (nI 2), .int (nI at10)]) (rest := []) hx hb hml hown hq hE hX pX0_al hP hD hS hA hl.1 (R_badAt l G h0 a (upd (upd (upd (upd (upd (upd (upd (upd (upd (upd (upd (upd (upd (upd (upd F 15 0) 16 pl44) 27 (nI nd)) 31 (nI wr13)) 34 (nI lz)) 35 (nI dc)) 44 (nI fd)) 49 (nI md)) 59 (nI bk)) 60 (nI pr)) 64 (nI at42)) 65 ne0) 66 (nI lk)) 67 (nI mf)) 68 (nI mm)) (updA (updA (updA B 19 yt15) 20 yr16) 2 K) 2 at10 0 (by omega) (by omega) (by omega)) (gV pw_1597 pw_1598 pw_1599 pw_1523 pw_1593) hV_X12_badAt 0 9 rfl rfl rfl rfl (Nat.le_of_ble_eq_true rfl) dX12_member_126 ⟨Nat.le_of_ble_eq_true rfl, Nat.le_of_ble_eq_true rfl⟩ ⟨Nat.le_of_ble_eq_true rfl, Nat.le_of_ble_eq_true rfl⟩ (fun v652 u650 H locs hw651 hP hD hS => ?_)
            obtain ⟨fa653, pl654⟩ := u650
            obtain ⟨hw651, h655, h656, h657, h658⟩ := hw651
            replace h655 : 0 ≤ fa653 := h655
            replace h656 : fa653 ≤ 0 + 2 := h656
            replace h657 : 0 < fa653 := h657
            replace h658 : If (0 < 0) (fa653 = 0) := h658
            obtain rfl : v652 = none := hw651
            have hP : va_P G.1 pCl (mW G h0 a (upd (upd (upd (upd (upd (upd (upd (upd (upd (upd (upd (upd (upd (upd (upd F 15 (nI fa653)) 16 pl654) 27 (nI nd)) 31 (nI wr13)) 34 (nI lz)) 35 (nI dc)) 44 (nI fd)) 49 (nI md)) 59 (nI bk)) 60 (nI pr)) 64 (nI at42)) 65 ne0) 66 (nI lk)) 67 (nI mf)) 68 (nI mm)) (updA (updA (updA B 19 yt15) 20 yr16) 2 K)) _ := hP
            have hD : va_D A (mW G h0 a (upd (upd (upd (upd (upd (upd (upd (upd (upd (upd (upd (upd (upd (upd (upd F 15 (nI fa653)) 16 pl654) 27 (nI nd)) 31 (nI wr13)) 34 (nI lz)) 35 (nI dc)) 44 (nI fd)) 49 (nI md)) 59 (nI bk)) 60 (nI pr)) 64 (nI at42)) 65 ne0) 66 (nI lk)) 67 (nI mf)) 68 (nI mm)) (updA (updA (updA B 19 yt15) 20 yr16) 2 K)) := hD
            refine W.widen (k := 0) (n := 0) (Nat.le_of_ble_eq_true rfl) (Nat.le_of_ble_eq_true rfl) ?_
            refine W.eq (g2 := F0 m 129 ls []) rfl ?_
            have hz659 : at0 ≤ at42 := (by omega)
            have hz660 : at42 ≤ T := (by omega)
            have hz661 : fa653 ≤ 100 := (by omega)
            have hz662 : at0 + 1 ≤ at42 + fa653 := (by omega)
            have hz663 : Kq 0 B (updA (updA B 19 yt15) 20 yr16) := hkq33
            have hz664 : If (fa653 = 0) ((nd ≤ 2 * at42 ∧ wr13 ≤ at42 ∧ lz ≤ at42 ∧ pr ≤ at42 ∧ dc ≤ 37 ∧ dc ≤ dc ∧ bk ≤ md ∧ wr ≤ wr13 ∧ lz ≤ lz) ∧ (md + 240 ≤ 30 * dc + mm ∧ fd + 160 ≤ 20 * dc + mf ∧ mf ≤ 20 ∧ mm ≤ 30 ∧ dc = dc) ∧ PS T nm wr13 lz dc fd md pr bk (updA (updA B 19 yt15) 20 yr16) ∧ FrM K T wr13 (updA (updA B 19 yt15) 20 yr16) nd md ∧ tkRow ((updA (updA B 19 yt15) 20 yr16) 19) wr13 T ∧ lsRow ((updA (updA B 19 yt15) 20 yr16) 22) ((updA (updA B 19 yt15) 20 yr16) 23) lz T) := (fun e => absurd e (by omega))
            have hP : va_P G.1 pCl (mW G h0 a (upd (upd (upd (upd (upd (upd (upd (upd (upd (upd (upd (upd (upd (upd (upd F 15 (nI fa653)) 16 pl654) 27 (nI nd)) 31 (nI wr13)) 34 (nI lz)) 35 (nI dc)) 44 (nI fd)) 49 (nI md)) 59 (nI bk)) 60 (nI pr)) 64 (nI at42)) 65 ne0) 66 (nI lk)) 67 (nI mf)) 68 (nI mm)) (updA (updA (updA B 19 yt15) 20 yr16) 2 K)) _ := hP
            have hD : va_D A (mW G h0 a (upd (upd (upd (upd (upd (upd (upd (upd (upd (upd (upd (upd (upd (upd (upd F 15 (nI fa653)) 16 pl654) 27 (nI nd)) 31 (nI wr13)) 34 (nI lz)) 35 (nI dc)) 44 (nI fd)) 49 (nI md)) 59 (nI bk)) 60 (nI pr)) 64 (nI at42)) 65 ne0) 66 (nI lk)) 67 (nI mf)) 68 (nI mm)) (updA (updA (updA B 19 yt15) 20 yr16) 2 K)) := hD
            exact W.vret hx hb hr (fun t9 ht9 hW9 => ⟨⟨_, (at42, fa653, pl654, nd, wr13, lz, dc, fd, md, pr, bk, mf, mm, ne0, (updA (updA B 19 yt15) 20 yr16)), rfl, ⟨rfl, hz659, hz660, hz661, hz662, hz663, hz664⟩, by rw [ht9]; exact hP, hD⟩, hS.F ht9⟩) hS.2.2 dX12_member_129
      · have e53 := e53
        refine lv_aload_n hx hb dX12_member_59 rfl (lv_at hl 3 rfl) ?_
        refine r_get (v := .int (nI fa43)) hx hb hown hq hE hP 15 350 tFX12_15 (by decide) pw_1594 rfl dX12_member_60 ?_
        refine lv_if_le (tgt := 67) hx hb dX12_member_63 (by decide) (fun c665 => (by have n666 : fa43 ≤ 0 := (nI_leI (a := fa43) (b := 0) (by omega) (by omega)).mp c665; omega)) (fun c665 => ?_)
        have hz667 : at0 ≤ at42 := (by omega)
        have hz668 : at42 ≤ T := (by omega)
        have hz669 : fa43 ≤ 100 := (by omega)
        have hz670 : at0 + 1 ≤ at42 + fa43 := (by omega)
        have hz671 : Kq 0 B (updA (updA B 19 yt15) 20 yr16) := hkq33
        have hz672 : If (fa43 = 0) ((nd ≤ 2 * at42 ∧ wr13 ≤ at42 ∧ lz ≤ at42 ∧ pr ≤ at42 ∧ dc ≤ 37 ∧ dc ≤ dc ∧ bk ≤ md ∧ wr ≤ wr13 ∧ lz ≤ lz) ∧ (md + 240 ≤ 30 * dc + mm ∧ fd + 160 ≤ 20 * dc + mf ∧ mf ≤ 20 ∧ mm ≤ 30 ∧ dc = dc) ∧ PS T nm wr13 lz dc fd md pr bk (updA (updA B 19 yt15) 20 yr16) ∧ FrM K T wr13 (updA (updA B 19 yt15) 20 yr16) nd md ∧ tkRow ((updA (updA B 19 yt15) 20 yr16) 19) wr13 T ∧ lsRow ((updA (updA B 19 yt15) 20 yr16) 22) ((updA (updA B 19 yt15) 20 yr16) 23) lz T) := (fun e => absurd e (by omega))
        have hP : va_P G.1 pCl (mW G h0 a (upd (upd (upd (upd (upd (upd (upd (upd (upd (upd (upd (upd (upd (upd (upd F 15 (nI fa43)) 16 pl44) 27 (nI nd)) 31 (nI wr13)) 34 (nI lz)) 35 (nI dc)) 44 (nI fd)) 49 (nI md)) 59 (nI bk)) 60 (nI pr)) 64 (nI at42)) 65 ne0) 66 (nI lk)) 67 (nI mf)) 68 (nI mm)) (updA (updA (updA B 19 yt15) 20 yr16) 2 K)) _ := hP
        have hD : va_D A (mW G h0 a (upd (upd (upd (upd (upd (upd (upd (upd (upd (upd (upd (upd (upd (upd (upd F 15 (nI fa43)) 16 pl44) 27 (nI nd)) 31 (nI wr13)) 34 (nI lz)) 35 (nI dc)) 44 (nI fd)) 49 (nI md)) 59 (nI bk)) 60 (nI pr)) 64 (nI at42)) 65 ne0) 66 (nI lk)) 67 (nI mf)) 68 (nI mm)) (updA (updA (updA B 19 yt15) 20 yr16) 2 K)) := hD
        exact W.vret hx hb hr (fun t9 ht9 hW9 => ⟨⟨_, (at42, fa43, pl44, nd, wr13, lz, dc, fd, md, pr, bk, mf, mm, ne0, (updA (updA B 19 yt15) 20 yr16)), rfl, ⟨rfl, hz667, hz668, hz669, hz670, hz671, hz672⟩, by rw [ht9]; exact hP, hD⟩, hS.F ht9⟩) hS.2.2 dX12_member_66
    · have e32 := e32
      have hkq673 : Kq 0 B (updA (updA B 19 yt15) 20 yr16) := (Kq.row (Kq.row hkq1 (by omega)) (by omega))
      have hty674 : tkRow ((updA (updA B 19 yt15) 20 yr16) 19) wr13 T := h27
      refine lv_istore_n (lv' := [(3, .int (nI r14)), (2, .int 0), (0, .ref h0), (1, .int (nI d))]) hx hb dX12_member_39 rfl hl (by decide) rfl (fun ls hl => ?_)
      refine lv_aload_n hx hb dX12_member_40 rfl (lv_at hl 2 rfl) ?_
      refine r_get (v := .int (nI fa11)) hx hb hown hq hE hP 15 350 tFX12_15 (by decide) pw_1594 rfl dX12_member_41 ?_
      refine lv_if_le (tgt := 48) hx hb dX12_member_44 (by decide) (fun c675 => (by have n676 : fa11 ≤ 0 := (nI_leI (a := fa11) (b := 0) (by omega) (by omega)).mp c675; omega)) (fun c675 => ?_)
      have hz677 : at0 ≤ at10 := (by omega)
      have hz678 : at10 ≤ T := (by omega)
      have hz679 : fa11 ≤ 100 := (by omega)
      have hz680 : at0 + 1 ≤ at10 + fa11 := (by omega)
      have hz681 : Kq 0 B (updA (updA B 19 yt15) 20 yr16) := hkq673
      have hz682 : If (fa11 = 0) ((nd ≤ 2 * at10 ∧ wr13 ≤ at10 ∧ lz ≤ at10 ∧ pr ≤ at10 ∧ dc ≤ 37 ∧ dc ≤ dc ∧ bk ≤ md ∧ wr ≤ wr13 ∧ lz ≤ lz) ∧ (md + 240 ≤ 30 * dc + mm ∧ fd + 160 ≤ 20 * dc + mf ∧ mf ≤ 20 ∧ mm ≤ 30 ∧ dc = dc) ∧ PS T nm wr13 lz dc fd md pr bk (updA (updA B 19 yt15) 20 yr16) ∧ FrM K T wr13 (updA (updA B 19 yt15) 20 yr16) nd md ∧ tkRow ((updA (updA B 19 yt15) 20 yr16) 19) wr13 T ∧ lsRow ((updA (updA B 19 yt15) 20 yr16) 22) ((updA (updA B 19 yt15) 20 yr16) 23) lz T) := (fun e => absurd e (by omega))
      have hP : va_P G.1 pCl (mW G h0 a (upd (upd (upd (upd (upd (upd (upd (upd (upd (upd (upd (upd (upd (upd (upd F 15 (nI fa11)) 16 pl12) 27 (nI nd)) 31 (nI wr13)) 34 (nI lz)) 35 (nI dc)) 44 (nI fd)) 49 (nI md)) 59 (nI bk)) 60 (nI pr)) 64 (nI at10)) 65 ne0) 66 (nI lk)) 67 (nI mf)) 68 (nI mm)) (updA (updA (updA B 19 yt15) 20 yr16) 2 K)) _ := hP
      have hD : va_D A (mW G h0 a (upd (upd (upd (upd (upd (upd (upd (upd (upd (upd (upd (upd (upd (upd (upd F 15 (nI fa11)) 16 pl12) 27 (nI nd)) 31 (nI wr13)) 34 (nI lz)) 35 (nI dc)) 44 (nI fd)) 49 (nI md)) 59 (nI bk)) 60 (nI pr)) 64 (nI at10)) 65 ne0) 66 (nI lk)) 67 (nI mf)) 68 (nI mm)) (updA (updA (updA B 19 yt15) 20 yr16) 2 K)) := hD
      exact W.vret hx hb hr (fun t9 ht9 hW9 => ⟨⟨_, (at10, fa11, pl12, nd, wr13, lz, dc, fd, md, pr, bk, mf, mm, ne0, (updA (updA B 19 yt15) 20 yr16)), rfl, ⟨rfl, hz677, hz678, hz679, hz680, hz681, hz682⟩, by rw [ht9]; exact hP, hD⟩, hS.F ht9⟩) hS.2.2 dX12_member_47
  · have n683 : at0 < T := tk_lt hat hK c5 (by decide) (by decide)
    refine lv_iconst (v := 1) hx hb dX12_member_10 (by decide) ?_
    refine lv_goto (tgt := 15) hx hb dX12_member_11 (by decide) ?_
    refine lv_istore_n (lv' := [(2, .int 1), (0, .ref h0), (1, .int (nI d))]) hx hb dX12_member_15 rfl hl (by decide) rfl (fun ls hl => ?_)
    refine lv_iconst (v := (-1)) hx hb dX12_member_16 (by decide) ?_
    refine lv_istore_n (lv' := [(3, .int (-1)), (2, .int 1), (0, .ref h0), (1, .int (nI d))]) hx hb dX12_member_17 rfl hl (by decide) rfl (fun ls hl => ?_)
    refine lv_iload_n hx hb dX12_member_18 rfl (lv_at hl 1 rfl) ?_
    refine lv_if_eq (tgt := 35) hx hb dX12_member_19 (by decide) (fun c684 => absurd c684 (by decide)) (fun c684 => ?_)
    refine lv_aload_n hx hb dX12_member_22 rfl (lv_at hl 2 rfl) ?_
    refine lv_dup hx hb dX12_member_23 rfl ?_
    refine r_get (v := .int (nI at0)) hx hb hown hq hE hP 64 343 tFX12_64 (by decide) pw_1592 rfl dX12_member_24 ?_
    refine lv_iconst (v := 1) hx hb dX12_member_27 (by decide) ?_
    refine lv_iadd hx hb dX12_member_28 ?_
    refine lv_topi (fun x685 e686 => ?_)
    obtain rfl : x685 = nI (at0 + 1) := e686.trans (nI_add (at0) (1))
    refine r_put (v := (nI (at0 + 1))) (ty := .int) hx hb hown hq hE hP hD hS 64 343 tFX12_64 (by decide) pw_1592 (by decide) rfl rfl (ms_64 a _ _) dX12_member_29 (fun H locs hP hD hS => ?_)
    refine lv_goto (tgt := 40) hx hb dX12_member_32 (by decide) ?_
    refine lv_aload_n hx hb dX12_member_40 rfl (lv_at hl 2 rfl) ?_
    refine r_get (v := .int 0) hx hb hown hq hE hP 15 350 tFX12_15 (by decide) pw_1594 rfl dX12_member_41 ?_
    refine lv_if_le (tgt := 48) hx hb dX12_member_44 (by decide) (fun c687 => ?_) (fun c687 => absurd c687 (by decide))
    refine lv_aload_n hx hb dX12_member_48 rfl (lv_at hl 2 rfl) ?_
    refine r_get (v := .int (nI (at0 + 1))) hx hb hown hq hE hP 64 343 tFX12_64 (by decide) pw_1592 rfl dX12_member_49 ?_
    refine lv_istore (lv' := [(4, .int (nI (at0 + 1))), (3, .int (-1)), (2, .int 1), (0, .ref h0), (1, .int (nI d))]) hx hb dX12_member_52 hl (by decide) rfl (fun ls hl => ?_)
    refine lv_aload_n hx hb dX12_member_54 rfl (lv_at hl 3 rfl) ?_
    refine lv_iconst (v := 1) hx hb dX12_member_55 (by decide) ?_
    have hP : va_P G.1 pCl (mW G h0 a (upd (upd (upd (upd (upd (upd (upd (upd (upd (upd (upd (upd (upd (upd (upd (upd F 15 0) 27 (nI nd)) 31 (nI wr)) 34 (nI lz)) 35 (nI dc)) 44 (nI fd)) 49 (nI md)) 59 (nI bk)) 60 (nI pr)) 64 (nI (at0 + 1))) 65 ne0) 66 (nI lk)) 67 (nI mf)) 68 (nI mm)) 15 (nI 0)) 64 (nI (at0 + 1))) (updA (updA B 2 K) 2 K)) _ := hP
    have hD : va_D A (mW G h0 a (upd (upd (upd (upd (upd (upd (upd (upd (upd (upd (upd (upd (upd (upd (upd (upd F 15 0) 27 (nI nd)) 31 (nI wr)) 34 (nI lz)) 35 (nI dc)) 44 (nI fd)) 49 (nI md)) 59 (nI bk)) 60 (nI pr)) 64 (nI (at0 + 1))) 65 ne0) 66 (nI lk)) 67 (nI mf)) 68 (nI mm)) 15 (nI 0)) 64 (nI (at0 + 1))) (updA (updA B 2 K) 2 K)) := hD
    refine pc_V0 (G := G) (As := [.int 1]) (rest := []) hx hb hml hown hq hE hX pX0_al hP hD hS hA hl.1 (R_take l G h0 a (upd (upd (upd (upd (upd (upd (upd (upd (upd (upd (upd (upd (upd (upd F 15 0) 27 (nI nd)) 31 (nI wr)) 34 (nI lz)) 35 (nI dc)) 44 (nI fd)) 49 (nI md)) 59 (nI bk)) 60 (nI pr)) 64 (nI (at0 + 1))) 65 ne0) 66 (nI lk)) 67 (nI mf)) 68 (nI mm)) (updA B 2 K) (at0 + 1) T 0 K 1 (by omega) (by omega) hK (by omega) (by decide) (by decide)) (gV pw_1614 pw_1615 pw_1616 pw_1523 pw_1601) hV_X12_take 0 9 rfl rfl rfl rfl (Nat.le_of_ble_eq_true rfl) dX12_member_56 ⟨Nat.le_of_ble_eq_true rfl, Nat.le_of_ble_eq_true rfl⟩ ⟨Nat.le_of_ble_eq_true rfl, Nat.le_of_ble_eq_true rfl⟩ (fun v690 u688 H locs hw689 hP hD hS => ?_)
    obtain ⟨at691, fa692, pl693⟩ := u688
    obtain ⟨hw689, h694, h695, h696, h697, h698, h699, h700, h701⟩ := hw689
    replace h694 : (at0 + 1) ≤ at691 := h694
    replace h695 : at691 ≤ T := h695
    replace h696 : 0 ≤ fa692 := h696
    replace h697 : fa692 ≤ 100 := h697
    replace h698 : If (0 < 0) (at691 = (at0 + 1) ∧ fa692 = 0) := h698
    replace h699 : at691 ≤ (at0 + 1) + 1 := h699
    replace h700 : (at0 + 1) + 1 ≤ at691 + fa692 := h700
    replace h701 : If (fa692 = 0) (K (at0 + 1) = 1) := h701
    obtain rfl : v690 = none := hw689
    have hP : va_P G.1 pCl (mW G h0 a (upd (upd (upd (upd (upd (upd (upd (upd (upd (upd (upd (upd (upd (upd (upd F 15 (nI fa692)) 16 pl693) 27 (nI nd)) 31 (nI wr)) 34 (nI lz)) 35 (nI dc)) 44 (nI fd)) 49 (nI md)) 59 (nI bk)) 60 (nI pr)) 64 (nI at691)) 65 ne0) 66 (nI lk)) 67 (nI mf)) 68 (nI mm)) (updA B 2 K)) _ := hP
    have hD : va_D A (mW G h0 a (upd (upd (upd (upd (upd (upd (upd (upd (upd (upd (upd (upd (upd (upd (upd F 15 (nI fa692)) 16 pl693) 27 (nI nd)) 31 (nI wr)) 34 (nI lz)) 35 (nI dc)) 44 (nI fd)) 49 (nI md)) 59 (nI bk)) 60 (nI pr)) 64 (nI at691)) 65 ne0) 66 (nI lk)) 67 (nI mf)) 68 (nI mm)) (updA B 2 K)) := hD
    refine W.widen (k := 0) (n := 0) (Nat.le_of_ble_eq_true rfl) (Nat.le_of_ble_eq_true rfl) ?_
    refine W.eq (g2 := F0 m 59 ls []) rfl ?_
    rcases Nat.eq_zero_or_pos fa692 with e702 | e702
    · subst e702
      have hP : va_P G.1 pCl (mW G h0 a (upd (upd (upd (upd (upd (upd (upd (upd (upd (upd (upd (upd (upd (upd (upd F 15 0) 16 pl693) 27 (nI nd)) 31 (nI wr)) 34 (nI lz)) 35 (nI dc)) 44 (nI fd)) 49 (nI md)) 59 (nI bk)) 60 (nI pr)) 64 (nI at691)) 65 ne0) 66 (nI lk)) 67 (nI mf)) 68 (nI mm)) (updA B 2 K)) _ := hP
      have hD : va_D A (mW G h0 a (upd (upd (upd (upd (upd (upd (upd (upd (upd (upd (upd (upd (upd (upd (upd F 15 0) 16 pl693) 27 (nI nd)) 31 (nI wr)) 34 (nI lz)) 35 (nI dc)) 44 (nI fd)) 49 (nI md)) 59 (nI bk)) 60 (nI pr)) 64 (nI at691)) 65 ne0) 66 (nI lk)) 67 (nI mf)) 68 (nI mm)) (updA B 2 K)) := hD
      refine lv_aload_n hx hb dX12_member_59 rfl (lv_at hl 3 rfl) ?_
      refine r_get (v := .int 0) hx hb hown hq hE hP 15 350 tFX12_15 (by decide) pw_1594 rfl dX12_member_60 ?_
      refine lv_if_le (tgt := 67) hx hb dX12_member_63 (by decide) (fun c703 => ?_) (fun c703 => absurd c703 (by decide))
      refine lv_iload_n hx hb dX12_member_67 rfl (lv_at hl 2 rfl) ?_
      refine lv_if_eq (tgt := 95) hx hb dX12_member_68 (by decide) (fun c704 => absurd c704 (by decide)) (fun c704 => ?_)
      refine lv_aload_n hx hb dX12_member_71 rfl (lv_at hl 3 rfl) ?_
      refine r_get (v := .ref (a 26)) hx hb hown hq hE hP 38 90 tFX12_38 (by decide) pw_1457 rfl dX12_member_72 ?_
      refine lv_iload_n hx hb dX12_member_75 rfl (lv_at hl 4 rfl) ?_
      refine r_ldz (f := (B 26)) (j := d) hx hb hE hP 26 (ma_26 G a _) rfl (by omega) (by decide) dX12_member_76 ?_
      rcases (hps.1 d (by omega)).2.2.1 with e707 | e707
      · have hce708 : B 26 d = 0 := e707
        refine lv_topi (fun x705 e706 => ?_)
        obtain rfl : x705 = 0 := e706.trans e707
        refine lv_if_ne (tgt := 95) hx hb dX12_member_77 (by decide) (fun c709 => absurd c709 (by decide)) (fun c709 => ?_)
        refine lv_aload_n hx hb dX12_member_80 rfl (lv_at hl 3 rfl) ?_
        have hP : va_P G.1 pCl (mW G h0 a (upd (upd (upd (upd (upd (upd (upd (upd (upd (upd (upd (upd (upd (upd (upd (upd (upd F 15 0) 16 pl693) 27 (nI nd)) 31 (nI wr)) 34 (nI lz)) 35 (nI dc)) 44 (nI fd)) 49 (nI md)) 59 (nI bk)) 60 (nI pr)) 64 (nI at691)) 65 ne0) 66 (nI lk)) 67 (nI mf)) 68 (nI mm)) 15 (nI 0)) 64 (nI at691)) (updA (updA B 2 K) 2 K)) _ := hP
        have hD : va_D A (mW G h0 a (upd (upd (upd (upd (upd (upd (upd (upd (upd (upd (upd (upd (upd (upd (upd (upd (upd F 15 0) 16 pl693) 27 (nI nd)) 31 (nI wr)) 34 (nI lz)) 35 (nI dc)) 44 (nI fd)) 49 (nI md)) 59 (nI bk)) 60 (nI pr)) 64 (nI at691)) 65 ne0) 66 (nI lk)) 67 (nI mf)) 68 (nI mm)) 15 (nI 0)) 64 (nI at691)) (updA (updA B 2 K) 2 K)) := hD
        refine pc_V0 (G := G) (As := []) (rest := []) hx hb hml hown hq hE hX pX0_al hP hD hS hA hl.1 (R_kind l G h0 a (upd (upd (upd (upd (upd (upd (upd (upd (upd (upd (upd (upd (upd (upd (upd F 15 0) 16 pl693) 27 (nI nd)) 31 (nI wr)) 34 (nI lz)) 35 (nI dc)) 44 (nI fd)) 49 (nI md)) 59 (nI bk)) 60 (nI pr)) 64 (nI at691)) 65 ne0) 66 (nI lk)) 67 (nI mf)) 68 (nI mm)) (updA B 2 K) at691 T 0 K (by omega) (by omega) hK (by omega)) (gV pw_1626 pw_1627 pw_1628 pw_1523 pw_1591) hV_X12_kind 0 9 rfl rfl rfl rfl (Nat.le_of_ble_eq_true rfl) dX12_member_81 ⟨Nat.le_of_ble_eq_true rfl, Nat.le_of_ble_eq_true rfl⟩ ⟨Nat.le_of_ble_eq_true rfl, Nat.le_of_ble_eq_true rfl⟩ (fun v712 u710 H locs hw711 hP hD hS => ?_)
        obtain rfl : v712 = some (.int (K at691)) := hw711
        have hP : va_P G.1 pCl (mW G h0 a (upd (upd (upd (upd (upd (upd (upd (upd (upd (upd (upd (upd (upd (upd (upd F 15 0) 16 pl693) 27 (nI nd)) 31 (nI wr)) 34 (nI lz)) 35 (nI dc)) 44 (nI fd)) 49 (nI md)) 59 (nI bk)) 60 (nI pr)) 64 (nI at691)) 65 ne0) 66 (nI lk)) 67 (nI mf)) 68 (nI mm)) (updA B 2 K)) _ := hP
        have hD : va_D A (mW G h0 a (upd (upd (upd (upd (upd (upd (upd (upd (upd (upd (upd (upd (upd (upd (upd F 15 0) 16 pl693) 27 (nI nd)) 31 (nI wr)) 34 (nI lz)) 35 (nI dc)) 44 (nI fd)) 49 (nI md)) 59 (nI bk)) 60 (nI pr)) 64 (nI at691)) 65 ne0) 66 (nI lk)) 67 (nI mf)) 68 (nI mm)) (updA B 2 K)) := hD
        refine W.widen (k := 0) (n := 0) (Nat.le_of_ble_eq_true rfl) (Nat.le_of_ble_eq_true rfl) ?_
        refine W.eq (g2 := F0 m 84 ls [.int (K at691)]) rfl ?_
        refine lv_bipush (v := 40) hx hb dX12_member_84 (by decide) ?_
        refine lv_icmp_eq (tgt := 95) hx hb dX12_member_86 (by decide) (fun c713 => ?_) (fun c713 => ?_)
        · refine lv_aload_n hx hb dX12_member_95 rfl (lv_at hl 3 rfl) ?_
          refine r_get (v := .ref (a 26)) hx hb hown hq hE hP 38 90 tFX12_38 (by decide) pw_1457 rfl dX12_member_96 ?_
          refine lv_iload_n hx hb dX12_member_99 rfl (lv_at hl 4 rfl) ?_
          refine r_ldz (f := (B 26)) (j := d) hx hb hE hP 26 (ma_26 G a _) rfl (by omega) (by decide) dX12_member_100 ?_
          refine lv_topi (fun x714 e715 => ?_)
          obtain rfl : x714 = 0 := e715.trans hce708
          refine lv_if_ne (tgt := 113) hx hb dX12_member_101 (by decide) (fun c716 => absurd c716 (by decide)) (fun c716 => ?_)
          refine lv_aload_n hx hb dX12_member_104 rfl (lv_at hl 3 rfl) ?_
          have hP : va_P G.1 pCl (mW G h0 a (upd (upd (upd (upd (upd (upd (upd (upd (upd (upd (upd (upd (upd (upd (upd (upd (upd F 15 0) 16 pl693) 27 (nI nd)) 31 (nI wr)) 34 (nI lz)) 35 (nI dc)) 44 (nI fd)) 49 (nI md)) 59 (nI bk)) 60 (nI pr)) 64 (nI at691)) 65 ne0) 66 (nI lk)) 67 (nI mf)) 68 (nI mm)) 15 (nI 0)) 64 (nI at691)) (updA (updA B 2 K) 2 K)) _ := hP
          have hD : va_D A (mW G h0 a (upd (upd (upd (upd (upd (upd (upd (upd (upd (upd (upd (upd (upd (upd (upd (upd (upd F 15 0) 16 pl693) 27 (nI nd)) 31 (nI wr)) 34 (nI lz)) 35 (nI dc)) 44 (nI fd)) 49 (nI md)) 59 (nI bk)) 60 (nI pr)) 64 (nI at691)) 65 ne0) 66 (nI lk)) 67 (nI mf)) 68 (nI mm)) 15 (nI 0)) 64 (nI at691)) (updA (updA B 2 K) 2 K)) := hD
          refine pc_V0 (G := G) (As := []) (rest := []) hx hb hml hown hq hE hX pX0_al hP hD hS hA hl.1 (R_kind l G h0 a (upd (upd (upd (upd (upd (upd (upd (upd (upd (upd (upd (upd (upd (upd (upd F 15 0) 16 pl693) 27 (nI nd)) 31 (nI wr)) 34 (nI lz)) 35 (nI dc)) 44 (nI fd)) 49 (nI md)) 59 (nI bk)) 60 (nI pr)) 64 (nI at691)) 65 ne0) 66 (nI lk)) 67 (nI mf)) 68 (nI mm)) (updA B 2 K) at691 T 0 K (by omega) (by omega) hK (by omega)) (gV pw_1626 pw_1627 pw_1628 pw_1523 pw_1591) hV_X12_kind 0 9 rfl rfl rfl rfl (Nat.le_of_ble_eq_true rfl) dX12_member_105 ⟨Nat.le_of_ble_eq_true rfl, Nat.le_of_ble_eq_true rfl⟩ ⟨Nat.le_of_ble_eq_true rfl, Nat.le_of_ble_eq_true rfl⟩ (fun v719 u717 H locs hw718 hP hD hS => ?_)
          obtain rfl : v719 = some (.int (K at691)) := hw718
          have hP : va_P G.1 pCl (mW G h0 a (upd (upd (upd (upd (upd (upd (upd (upd (upd (upd (upd (upd (upd (upd (upd F 15 0) 16 pl693) 27 (nI nd)) 31 (nI wr)) 34 (nI lz)) 35 (nI dc)) 44 (nI fd)) 49 (nI md)) 59 (nI bk)) 60 (nI pr)) 64 (nI at691)) 65 ne0) 66 (nI lk)) 67 (nI mf)) 68 (nI mm)) (updA B 2 K)) _ := hP
          have hD : va_D A (mW G h0 a (upd (upd (upd (upd (upd (upd (upd (upd (upd (upd (upd (upd (upd (upd (upd F 15 0) 16 pl693) 27 (nI nd)) 31 (nI wr)) 34 (nI lz)) 35 (nI dc)) 44 (nI fd)) 49 (nI md)) 59 (nI bk)) 60 (nI pr)) 64 (nI at691)) 65 ne0) 66 (nI lk)) 67 (nI mf)) 68 (nI mm)) (updA B 2 K)) := hD
          refine W.widen (k := 0) (n := 0) (Nat.le_of_ble_eq_true rfl) (Nat.le_of_ble_eq_true rfl) ?_
          refine W.eq (g2 := F0 m 108 ls [.int (K at691)]) rfl ?_
          refine lv_bipush (v := 40) hx hb dX12_member_108 (by decide) ?_
          refine lv_icmp_ne (tgt := 139) hx hb dX12_member_110 (by decide) (fun c720 => absurd c713 c720) (fun c720 => ?_)
          refine lv_aload_n hx hb dX12_member_113 rfl (lv_at hl 3 rfl) ?_
          refine r_get (v := .int (nI mm)) hx hb hown hq hE hP 68 393 tFX12_68 (by decide) pw_1722 rfl dX12_member_114 ?_
          refine lv_bipush (v := 30) hx hb dX12_member_117 (by decide) ?_
          refine lv_icmp_ne (tgt := 130) hx hb dX12_member_119 (by decide) (fun c721 => ?_) (fun c721 => ?_)
          · have n722 : ¬ (mm = 30) := fun h9 => c721 ((nI_eq (a := mm) (b := 30) (by omega) (by omega)).mpr h9)
            refine lv_aload_n hx hb dX12_member_130 rfl (lv_at hl 3 rfl) ?_
            refine lv_iload_n hx hb dX12_member_131 rfl (lv_at hl 4 rfl) ?_
            refine lv_iload_n hx hb dX12_member_132 rfl (lv_at hl 1 rfl) ?_
            refine lv_iload hx hb dX12_member_133 (lv_at hl 0 rfl) ?_
            have hP : va_P G.1 pCl (mW G h0 a (upd (upd (upd (upd (upd (upd (upd (upd (upd (upd (upd (upd (upd (upd (upd (upd (upd (upd (upd (upd (upd (upd (upd (upd (upd (upd (upd (upd (upd F 15 0) 16 pl693) 27 (nI nd)) 31 (nI wr)) 34 (nI lz)) 35 (nI dc)) 44 (nI fd)) 49 (nI md)) 59 (nI bk)) 60 (nI pr)) 64 (nI at691)) 65 ne0) 66 (nI lk)) 67 (nI mf)) 68 (nI mm)) 15 0) 27 (nI nd)) 31 (nI wr)) 34 (nI lz)) 35 (nI dc)) 44 (nI fd)) 49 (nI md)) 59 (nI bk)) 60 (nI pr)) 64 (nI at691)) 65 ne0) 66 (nI lk)) 67 (nI mf)) 68 (nI mm)) (updA B 2 K)) _ := hP
            have hD : va_D A (mW G h0 a (upd (upd (upd (upd (upd (upd (upd (upd (upd (upd (upd (upd (upd (upd (upd (upd (upd (upd (upd (upd (upd (upd (upd (upd (upd (upd (upd (upd (upd F 15 0) 16 pl693) 27 (nI nd)) 31 (nI wr)) 34 (nI lz)) 35 (nI dc)) 44 (nI fd)) 49 (nI md)) 59 (nI bk)) 60 (nI pr)) 64 (nI at691)) 65 ne0) 66 (nI lk)) 67 (nI mf)) 68 (nI mm)) 15 0) 27 (nI nd)) 31 (nI wr)) 34 (nI lz)) 35 (nI dc)) 44 (nI fd)) 49 (nI md)) 59 (nI bk)) 60 (nI pr)) 64 (nI at691)) 65 ne0) 66 (nI lk)) 67 (nI mf)) 68 (nI mm)) (updA B 2 K)) := hD
            refine pc_V0 (G := G) (As := [.int (nI d), .int (-1), .int (nI (at0 + 1))]) (rest := []) hx hb hml hown hq hE hX pX0_al hP hD hS hA hl.1 (RM_method l G h0 a (upd (upd (upd (upd (upd (upd (upd (upd (upd (upd (upd (upd (upd (upd (upd F 15 0) 16 pl693) 27 (nI nd)) 31 (nI wr)) 34 (nI lz)) 35 (nI dc)) 44 (nI fd)) 49 (nI md)) 59 (nI bk)) 60 (nI pr)) 64 (nI at691)) 65 ne0) 66 (nI lk)) 67 (nI mf)) 68 (nI mm)) B at691 T nm nd wr lz dc fd md pr bk mf mm lk ne0 K d (at0 + 1) (-1) (by omega) (by omega) hK (by rw [hkq1 5 (by omega)]; exact hV) (by omega) (by omega) (by omega) (by omega) (by omega) (by omega) (by omega) (by omega) (by omega) (by omega) (by omega) (by omega) (by omega) (h701 rfl) (Or.inl rfl) hps hfm hy hlr) (gV pw_1728 pw_1729 pw_1730 pw_1523 pw_1725) hV_X12_method 0 9 rfl rfl rfl rfl (Nat.le_of_ble_eq_true rfl) dX12_member_135 ⟨Nat.le_of_ble_eq_true rfl, Nat.le_of_ble_eq_true rfl⟩ ⟨Nat.le_of_ble_eq_true rfl, Nat.le_of_ble_eq_true rfl⟩ (fun v725 u723 H locs hw724 hP hD hS => ?_)
            obtain ⟨at726, fa727, pl728, nd729, wr730, lz731, dc732, fd733, md734, pr735, bk736, mf737, mm738, ne739, X740⟩ := u723
            obtain ⟨hw724, h741, h742, h743, h744, h745, h746⟩ := hw724
            replace h741 : at691 ≤ at726 := h741
            replace h742 : at726 ≤ T := h742
            replace h743 : fa727 ≤ 100 := h743
            replace h744 : at691 + 1 ≤ at726 + fa727 := h744
            replace h745 : Kq 0 B X740 := h745
            replace h746 : If (fa727 = 0) ((nd729 ≤ 2 * at726 ∧ wr730 ≤ at726 ∧ lz731 ≤ at726 ∧ pr735 ≤ at726 ∧ dc732 ≤ 37 ∧ dc ≤ dc732 ∧ bk736 ≤ md734 ∧ wr ≤ wr730 ∧ lz ≤ lz731) ∧ (md734 + 240 ≤ 30 * dc732 + mm738 ∧ fd733 + 160 ≤ 20 * dc732 + mf737 ∧ mf737 ≤ 20 ∧ mm738 ≤ 30 ∧ dc732 = dc) ∧ PS T nm wr730 lz731 dc732 fd733 md734 pr735 bk736 X740 ∧ FrM K T wr730 X740 nd729 md734 ∧ tkRow (X740 19) wr730 T ∧ lsRow (X740 22) (X740 23) lz731 T) := h746
            obtain rfl : v725 = none := hw724
            have hP : va_P G.1 pCl (mW G h0 a (upd (upd (upd (upd (upd (upd (upd (upd (upd (upd (upd (upd (upd (upd (upd F 15 (nI fa727)) 16 pl728) 27 (nI nd729)) 31 (nI wr730)) 34 (nI lz731)) 35 (nI dc732)) 44 (nI fd733)) 49 (nI md734)) 59 (nI bk736)) 60 (nI pr735)) 64 (nI at726)) 65 ne739) 66 (nI lk)) 67 (nI mf737)) 68 (nI mm738)) (updA X740 2 K)) _ := hP
            have hD : va_D A (mW G h0 a (upd (upd (upd (upd (upd (upd (upd (upd (upd (upd (upd (upd (upd (upd (upd F 15 (nI fa727)) 16 pl728) 27 (nI nd729)) 31 (nI wr730)) 34 (nI lz731)) 35 (nI dc732)) 44 (nI fd733)) 49 (nI md734)) 59 (nI bk736)) 60 (nI pr735)) 64 (nI at726)) 65 ne739) 66 (nI lk)) 67 (nI mf737)) 68 (nI mm738)) (updA X740 2 K)) := hD
            refine W.widen (k := 0) (n := 0) (Nat.le_of_ble_eq_true rfl) (Nat.le_of_ble_eq_true rfl) ?_
            refine W.eq (g2 := F0 m 138 ls []) rfl ?_
            have hkq747 : Kq 0 B X740 := (Kq.trans hkq1 h745 (by omega))
            rcases Nat.eq_zero_or_pos fa727 with e748 | e748
            · subst e748
              have hP : va_P G.1 pCl (mW G h0 a (upd (upd (upd (upd (upd (upd (upd (upd (upd (upd (upd (upd (upd (upd (upd F 15 0) 16 pl728) 27 (nI nd729)) 31 (nI wr730)) 34 (nI lz731)) 35 (nI dc732)) 44 (nI fd733)) 49 (nI md734)) 59 (nI bk736)) 60 (nI pr735)) 64 (nI at726)) 65 ne739) 66 (nI lk)) 67 (nI mf737)) 68 (nI mm738)) (updA X740 2 K)) _ := hP
              have hD : va_D A (mW G h0 a (upd (upd (upd (upd (upd (upd (upd (upd (upd (upd (upd (upd (upd (upd (upd F 15 0) 16 pl728) 27 (nI nd729)) 31 (nI wr730)) 34 (nI lz731)) 35 (nI dc732)) 44 (nI fd733)) 49 (nI md734)) 59 (nI bk736)) 60 (nI pr735)) 64 (nI at726)) 65 ne739) 66 (nI lk)) 67 (nI mf737)) 68 (nI mm738)) (updA X740 2 K)) := hD
              obtain ⟨hq749, hq750, hq751, hq752, hq753, hq754⟩ := h746 rfl
              obtain rfl : dc = dc732 := (by omega)
              have hz755 : at0 ≤ at726 := (by omega)
              have hz756 : at726 ≤ T := (by omega)
              have hz757 : 0 ≤ 100 := (by omega)
              have hz758 : at0 + 1 ≤ at726 + 0 := (by omega)
              have hz759 : Kq 0 B X740 := hkq747
              have hz760 : If (0 = 0) ((nd729 ≤ 2 * at726 ∧ wr730 ≤ at726 ∧ lz731 ≤ at726 ∧ pr735 ≤ at726 ∧ dc ≤ 37 ∧ dc ≤ dc ∧ bk736 ≤ md734 ∧ wr ≤ wr730 ∧ lz ≤ lz731) ∧ (md734 + 240 ≤ 30 * dc + mm738 ∧ fd733 + 160 ≤ 20 * dc + mf737 ∧ mf737 ≤ 20 ∧ mm738 ≤ 30 ∧ dc = dc) ∧ PS T nm wr730 lz731 dc fd733 md734 pr735 bk736 X740 ∧ FrM K T wr730 X740 nd729 md734 ∧ tkRow (X740 19) wr730 T ∧ lsRow (X740 22) (X740 23) lz731 T) := (fun _ => ⟨by omega, by omega, hq751, hq752, hq753, hq754⟩)
              have hP : va_P G.1 pCl (mW G h0 a (upd (upd (upd (upd (upd (upd (upd (upd (upd (upd (upd (upd (upd (upd (upd F 15 (nI 0)) 16 pl728) 27 (nI nd729)) 31 (nI wr730)) 34 (nI lz731)) 35 (nI dc)) 44 (nI fd733)) 49 (nI md734)) 59 (nI bk736)) 60 (nI pr735)) 64 (nI at726)) 65 ne739) 66 (nI lk)) 67 (nI mf737)) 68 (nI mm738)) (updA X740 2 K)) _ := hP
              have hD : va_D A (mW G h0 a (upd (upd (upd (upd (upd (upd (upd (upd (upd (upd (upd (upd (upd (upd (upd F 15 (nI 0)) 16 pl728) 27 (nI nd729)) 31 (nI wr730)) 34 (nI lz731)) 35 (nI dc)) 44 (nI fd733)) 49 (nI md734)) 59 (nI bk736)) 60 (nI pr735)) 64 (nI at726)) 65 ne739) 66 (nI lk)) 67 (nI mf737)) 68 (nI mm738)) (updA X740 2 K)) := hD
              exact W.vret hx hb hr (fun t9 ht9 hW9 => ⟨⟨_, (at726, 0, pl728, nd729, wr730, lz731, dc, fd733, md734, pr735, bk736, mf737, mm738, ne739, X740), rfl, ⟨rfl, hz755, hz756, hz757, hz758, hz759, hz760⟩, by rw [ht9]; exact hP, hD⟩, hS.F ht9⟩) hS.2.2 dX12_member_138
            · have e748 := e748
              have hz761 : at0 ≤ at726 := (by omega)
              have hz762 : at726 ≤ T := (by omega)
              have hz763 : fa727 ≤ 100 := (by omega)
              have hz764 : at0 + 1 ≤ at726 + fa727 := (by omega)
              have hz765 : Kq 0 B X740 := hkq747
              have hz766 : If (fa727 = 0) ((nd729 ≤ 2 * at726 ∧ wr730 ≤ at726 ∧ lz731 ≤ at726 ∧ pr735 ≤ at726 ∧ dc732 ≤ 37 ∧ dc ≤ dc732 ∧ bk736 ≤ md734 ∧ wr ≤ wr730 ∧ lz ≤ lz731) ∧ (md734 + 240 ≤ 30 * dc732 + mm738 ∧ fd733 + 160 ≤ 20 * dc732 + mf737 ∧ mf737 ≤ 20 ∧ mm738 ≤ 30 ∧ dc732 = dc) ∧ PS T nm wr730 lz731 dc732 fd733 md734 pr735 bk736 X740 ∧ FrM K T wr730 X740 nd729 md734 ∧ tkRow (X740 19) wr730 T ∧ lsRow (X740 22) (X740 23) lz731 T) := (fun e => absurd e (by omega))
              have hP : va_P G.1 pCl (mW G h0 a (upd (upd (upd (upd (upd (upd (upd (upd (upd (upd (upd (upd (upd (upd (upd F 15 (nI fa727)) 16 pl728) 27 (nI nd729)) 31 (nI wr730)) 34 (nI lz731)) 35 (nI dc732)) 44 (nI fd733)) 49 (nI md734)) 59 (nI bk736)) 60 (nI pr735)) 64 (nI at726)) 65 ne739) 66 (nI lk)) 67 (nI mf737)) 68 (nI mm738)) (updA X740 2 K)) _ := hP
              have hD : va_D A (mW G h0 a (upd (upd (upd (upd (upd (upd (upd (upd (upd (upd (upd (upd (upd (upd (upd F 15 (nI fa727)) 16 pl728) 27 (nI nd729)) 31 (nI wr730)) 34 (nI lz731)) 35 (nI dc732)) 44 (nI fd733)) 49 (nI md734)) 59 (nI bk736)) 60 (nI pr735)) 64 (nI at726)) 65 ne739) 66 (nI lk)) 67 (nI mf737)) 68 (nI mm738)) (updA X740 2 K)) := hD
              exact W.vret hx hb hr (fun t9 ht9 hW9 => ⟨⟨_, (at726, fa727, pl728, nd729, wr730, lz731, dc732, fd733, md734, pr735, bk736, mf737, mm738, ne739, X740), rfl, ⟨rfl, hz761, hz762, hz763, hz764, hz765, hz766⟩, by rw [ht9]; exact hP, hD⟩, hS.F ht9⟩) hS.2.2 dX12_member_138
          · have n767 : mm = 30 := (nI_eq (a := mm) (b := 30) (by omega) (by omega)).mp c721
            refine lv_aload_n hx hb dX12_member_122 rfl (lv_at hl 3 rfl) ?_
            refine lv_iconst (v := 2) hx hb dX12_member_123 (by decide) ?_
            refine lv_iload hx hb dX12_member_124 (lv_at hl 0 rfl) ?_
            have hP : va_P G.1 pCl (mW G h0 a (upd (upd (upd (upd (upd (upd (upd (upd (upd (upd (upd (upd (upd (upd (upd (upd F 15 0) 16 pl693) 27 (nI nd)) 31 (nI wr)) 34 (nI lz)) 35 (nI dc)) 44 (nI fd)) 49 (nI md)) 59 (nI bk)) 60 (nI pr)) 64 (nI at691)) 65 ne0) 66 (nI lk)) 67 (nI mf)) 68 (nI mm)) 15 (nI 0)) (updA B 2 K)) _ := hP
            have hD : va_D A (mW G h0 a (upd (upd (upd (upd (upd (upd (upd (upd (upd (upd (upd (upd (upd (upd (upd (upd F 15 0) 16 pl693) 27 (nI nd)) 31 (nI wr)) 34 (nI lz)) 35 (nI dc)) 44 (nI fd)) 49 (nI md)) 59 (nI bk)) 60 (nI pr)) 64 (nI at691)) 65 ne0) 66 (nI lk)) 67 (nI mf)) 68 (nI mm)) 15 (nI 0)) (updA B 2 K)) := hD
            refine pc_V0 (G := G) (As := [.int (nI 2), .int (nI (at0 + 1))]) (rest := []) hx hb hml hown hq hE hX pX0_al hP hD hS hA hl.1 (R_badAt l G h0 a (upd (upd (upd (upd (upd (upd (upd (upd (upd (upd (upd (upd (upd (upd (upd F 15 0) 16 pl693) 27 (nI nd)) 31 (nI wr)) 34 (nI lz)) 35 (nI dc)) 44 (nI fd)) 49 (nI md)) 59 (nI bk)) 60 (nI pr)) 64 (nI at691)) 65 ne0) 66 (nI lk)) 67 (nI mf)) 68 (nI mm)) (updA B 2 K) 2 (at0 + 1) 0 (by omega) (by omega) (by omega)) (gV pw_1597 pw_1598 pw_1599 pw_1523 pw_1593) hV_X12_badAt 0 9 rfl rfl rfl rfl (Nat.le_of_ble_eq_true rfl) dX12_member_126 ⟨Nat.le_of_ble_eq_true rfl, Nat.le_of_ble_eq_true rfl⟩ ⟨Nat.le_of_ble_eq_true rfl, Nat.le_of_ble_eq_true rfl⟩ (fun v770 u768 H locs hw769 hP hD hS => ?_)
            obtain ⟨fa771, pl772⟩ := u768
            obtain ⟨hw769, h773, h774, h775, h776⟩ := hw769
            replace h773 : 0 ≤ fa771 := h773
            replace h774 : fa771 ≤ 0 + 2 := h774
            replace h775 : 0 < fa771 := h775
            replace h776 : If (0 < 0) (fa771 = 0) := h776
            obtain rfl : v770 = none := hw769
            have hP : va_P G.1 pCl (mW G h0 a (upd (upd (upd (upd (upd (upd (upd (upd (upd (upd (upd (upd (upd (upd (upd F 15 (nI fa771)) 16 pl772) 27 (nI nd)) 31 (nI wr)) 34 (nI lz)) 35 (nI dc)) 44 (nI fd)) 49 (nI md)) 59 (nI bk)) 60 (nI pr)) 64 (nI at691)) 65 ne0) 66 (nI lk)) 67 (nI mf)) 68 (nI mm)) (updA B 2 K)) _ := hP
            have hD : va_D A (mW G h0 a (upd (upd (upd (upd (upd (upd (upd (upd (upd (upd (upd (upd (upd (upd (upd F 15 (nI fa771)) 16 pl772) 27 (nI nd)) 31 (nI wr)) 34 (nI lz)) 35 (nI dc)) 44 (nI fd)) 49 (nI md)) 59 (nI bk)) 60 (nI pr)) 64 (nI at691)) 65 ne0) 66 (nI lk)) 67 (nI mf)) 68 (nI mm)) (updA B 2 K)) := hD
            refine W.widen (k := 0) (n := 0) (Nat.le_of_ble_eq_true rfl) (Nat.le_of_ble_eq_true rfl) ?_
            refine W.eq (g2 := F0 m 129 ls []) rfl ?_
            have hz777 : at0 ≤ at691 := (by omega)
            have hz778 : at691 ≤ T := (by omega)
            have hz779 : fa771 ≤ 100 := (by omega)
            have hz780 : at0 + 1 ≤ at691 + fa771 := (by omega)
            have hz781 : Kq 0 B B := hkq1
            have hz782 : If (fa771 = 0) ((nd ≤ 2 * at691 ∧ wr ≤ at691 ∧ lz ≤ at691 ∧ pr ≤ at691 ∧ dc ≤ 37 ∧ dc ≤ dc ∧ bk ≤ md ∧ wr ≤ wr ∧ lz ≤ lz) ∧ (md + 240 ≤ 30 * dc + mm ∧ fd + 160 ≤ 20 * dc + mf ∧ mf ≤ 20 ∧ mm ≤ 30 ∧ dc = dc) ∧ PS T nm wr lz dc fd md pr bk B ∧ FrM K T wr B nd md ∧ tkRow (B 19) wr T ∧ lsRow (B 22) (B 23) lz T) := (fun e => absurd e (by omega))
            have hP : va_P G.1 pCl (mW G h0 a (upd (upd (upd (upd (upd (upd (upd (upd (upd (upd (upd (upd (upd (upd (upd F 15 (nI fa771)) 16 pl772) 27 (nI nd)) 31 (nI wr)) 34 (nI lz)) 35 (nI dc)) 44 (nI fd)) 49 (nI md)) 59 (nI bk)) 60 (nI pr)) 64 (nI at691)) 65 ne0) 66 (nI lk)) 67 (nI mf)) 68 (nI mm)) (updA B 2 K)) _ := hP
            have hD : va_D A (mW G h0 a (upd (upd (upd (upd (upd (upd (upd (upd (upd (upd (upd (upd (upd (upd (upd F 15 (nI fa771)) 16 pl772) 27 (nI nd)) 31 (nI wr)) 34 (nI lz)) 35 (nI dc)) 44 (nI fd)) 49 (nI md)) 59 (nI bk)) 60 (nI pr)) 64 (nI at691)) 65 ne0) 66 (nI lk)) 67 (nI mf)) 68 (nI mm)) (updA B 2 K)) := hD
            exact W.vret hx hb hr (fun t9 ht9 hW9 => ⟨⟨_, (at691, fa771, pl772, nd, wr, lz, dc, fd, md, pr, bk, mf, mm, ne0, B), rfl, ⟨rfl, hz777, hz778, hz779, hz780, hz781, hz782⟩, by rw [ht9]; exact hP, hD⟩, hS.F ht9⟩) hS.2.2 dX12_member_129
        · refine lv_aload_n hx hb dX12_member_89 rfl (lv_at hl 3 rfl) ?_
          refine lv_iconst (v := 1) hx hb dX12_member_90 (by decide) ?_
          have hP : va_P G.1 pCl (mW G h0 a (upd (upd (upd (upd (upd (upd (upd (upd (upd (upd (upd (upd (upd (upd (upd (upd (upd F 15 0) 16 pl693) 27 (nI nd)) 31 (nI wr)) 34 (nI lz)) 35 (nI dc)) 44 (nI fd)) 49 (nI md)) 59 (nI bk)) 60 (nI pr)) 64 (nI at691)) 65 ne0) 66 (nI lk)) 67 (nI mf)) 68 (nI mm)) 15 (nI 0)) 64 (nI at691)) (updA (updA B 2 K) 2 K)) _ := hP
          have hD : va_D A (mW G h0 a (upd (upd (upd (upd (upd (upd (upd (upd (upd (upd (upd (upd (upd (upd (upd (upd (upd F 15 0) 16 pl693) 27 (nI nd)) 31 (nI wr)) 34 (nI lz)) 35 (nI dc)) 44 (nI fd)) 49 (nI md)) 59 (nI bk)) 60 (nI pr)) 64 (nI at691)) 65 ne0) 66 (nI lk)) 67 (nI mf)) 68 (nI mm)) 15 (nI 0)) 64 (nI at691)) (updA (updA B 2 K) 2 K)) := hD
          refine pc_V0 (G := G) (As := [.int (nI 1)]) (rest := []) hx hb hml hown hq hE hX pX0_al hP hD hS hA hl.1 (R_bad l G h0 a (upd (upd (upd (upd (upd (upd (upd (upd (upd (upd (upd (upd (upd (upd (upd F 15 0) 16 pl693) 27 (nI nd)) 31 (nI wr)) 34 (nI lz)) 35 (nI dc)) 44 (nI fd)) 49 (nI md)) 59 (nI bk)) 60 (nI pr)) 64 (nI at691)) 65 ne0) 66 (nI lk)) 67 (nI mf)) 68 (nI mm)) (updA B 2 K) at691 T 0 K 1 (by omega) (by omega) hK (by omega) (by omega) (by omega)) (gV pw_1602 pw_1603 pw_1604 pw_1523 pw_1596) hV_X12_bad 0 9 rfl rfl rfl rfl (Nat.le_of_ble_eq_true rfl) dX12_member_91 ⟨Nat.le_of_ble_eq_true rfl, Nat.le_of_ble_eq_true rfl⟩ ⟨Nat.le_of_ble_eq_true rfl, Nat.le_of_ble_eq_true rfl⟩ (fun v785 u783 H locs hw784 hP hD hS => ?_)
          obtain ⟨fa786, pl787⟩ := u783
          obtain ⟨hw784, h788, h789, h790, h791⟩ := hw784
          replace h788 : 0 ≤ fa786 := h788
          replace h789 : fa786 ≤ 0 + 1 := h789
          replace h790 : 0 < fa786 := h790
          replace h791 : If (0 < 0) (fa786 = 0) := h791
          obtain rfl : v785 = none := hw784
          have hP : va_P G.1 pCl (mW G h0 a (upd (upd (upd (upd (upd (upd (upd (upd (upd (upd (upd (upd (upd (upd (upd F 15 (nI fa786)) 16 pl787) 27 (nI nd)) 31 (nI wr)) 34 (nI lz)) 35 (nI dc)) 44 (nI fd)) 49 (nI md)) 59 (nI bk)) 60 (nI pr)) 64 (nI at691)) 65 ne0) 66 (nI lk)) 67 (nI mf)) 68 (nI mm)) (updA B 2 K)) _ := hP
          have hD : va_D A (mW G h0 a (upd (upd (upd (upd (upd (upd (upd (upd (upd (upd (upd (upd (upd (upd (upd F 15 (nI fa786)) 16 pl787) 27 (nI nd)) 31 (nI wr)) 34 (nI lz)) 35 (nI dc)) 44 (nI fd)) 49 (nI md)) 59 (nI bk)) 60 (nI pr)) 64 (nI at691)) 65 ne0) 66 (nI lk)) 67 (nI mf)) 68 (nI mm)) (updA B 2 K)) := hD
          refine W.widen (k := 0) (n := 0) (Nat.le_of_ble_eq_true rfl) (Nat.le_of_ble_eq_true rfl) ?_
          refine W.eq (g2 := F0 m 94 ls []) rfl ?_
          have hz792 : at0 ≤ at691 := (by omega)
          have hz793 : at691 ≤ T := (by omega)
          have hz794 : fa786 ≤ 100 := (by omega)
          have hz795 : at0 + 1 ≤ at691 + fa786 := (by omega)
          have hz796 : Kq 0 B B := hkq1
          have hz797 : If (fa786 = 0) ((nd ≤ 2 * at691 ∧ wr ≤ at691 ∧ lz ≤ at691 ∧ pr ≤ at691 ∧ dc ≤ 37 ∧ dc ≤ dc ∧ bk ≤ md ∧ wr ≤ wr ∧ lz ≤ lz) ∧ (md + 240 ≤ 30 * dc + mm ∧ fd + 160 ≤ 20 * dc + mf ∧ mf ≤ 20 ∧ mm ≤ 30 ∧ dc = dc) ∧ PS T nm wr lz dc fd md pr bk B ∧ FrM K T wr B nd md ∧ tkRow (B 19) wr T ∧ lsRow (B 22) (B 23) lz T) := (fun e => absurd e (by omega))
          have hP : va_P G.1 pCl (mW G h0 a (upd (upd (upd (upd (upd (upd (upd (upd (upd (upd (upd (upd (upd (upd (upd F 15 (nI fa786)) 16 pl787) 27 (nI nd)) 31 (nI wr)) 34 (nI lz)) 35 (nI dc)) 44 (nI fd)) 49 (nI md)) 59 (nI bk)) 60 (nI pr)) 64 (nI at691)) 65 ne0) 66 (nI lk)) 67 (nI mf)) 68 (nI mm)) (updA B 2 K)) _ := hP
          have hD : va_D A (mW G h0 a (upd (upd (upd (upd (upd (upd (upd (upd (upd (upd (upd (upd (upd (upd (upd F 15 (nI fa786)) 16 pl787) 27 (nI nd)) 31 (nI wr)) 34 (nI lz)) 35 (nI dc)) 44 (nI fd)) 49 (nI md)) 59 (nI bk)) 60 (nI pr)) 64 (nI at691)) 65 ne0) 66 (nI lk)) 67 (nI mf)) 68 (nI mm)) (updA B 2 K)) := hD
          exact W.vret hx hb hr (fun t9 ht9 hW9 => ⟨⟨_, (at691, fa786, pl787, nd, wr, lz, dc, fd, md, pr, bk, mf, mm, ne0, B), rfl, ⟨rfl, hz792, hz793, hz794, hz795, hz796, hz797⟩, by rw [ht9]; exact hP, hD⟩, hS.F ht9⟩) hS.2.2 dX12_member_94
      · have hce798 : B 26 d = 1 := e707
        refine lv_topi (fun x705 e706 => ?_)
        obtain rfl : x705 = 1 := e706.trans e707
        refine lv_if_ne (tgt := 95) hx hb dX12_member_77 (by decide) (fun c799 => ?_) (fun c799 => absurd c799 (by decide))
        refine lv_aload_n hx hb dX12_member_95 rfl (lv_at hl 3 rfl) ?_
        refine r_get (v := .ref (a 26)) hx hb hown hq hE hP 38 90 tFX12_38 (by decide) pw_1457 rfl dX12_member_96 ?_
        refine lv_iload_n hx hb dX12_member_99 rfl (lv_at hl 4 rfl) ?_
        refine r_ldz (f := (B 26)) (j := d) hx hb hE hP 26 (ma_26 G a _) rfl (by omega) (by decide) dX12_member_100 ?_
        refine lv_topi (fun x800 e801 => ?_)
        obtain rfl : x800 = 1 := e801.trans hce798
        refine lv_if_ne (tgt := 113) hx hb dX12_member_101 (by decide) (fun c802 => ?_) (fun c802 => absurd c802 (by decide))
        refine lv_aload_n hx hb dX12_member_113 rfl (lv_at hl 3 rfl) ?_
        refine r_get (v := .int (nI mm)) hx hb hown hq hE hP 68 393 tFX12_68 (by decide) pw_1722 rfl dX12_member_114 ?_
        refine lv_bipush (v := 30) hx hb dX12_member_117 (by decide) ?_
        refine lv_icmp_ne (tgt := 130) hx hb dX12_member_119 (by decide) (fun c803 => ?_) (fun c803 => ?_)
        · have n804 : ¬ (mm = 30) := fun h9 => c803 ((nI_eq (a := mm) (b := 30) (by omega) (by omega)).mpr h9)
          refine lv_aload_n hx hb dX12_member_130 rfl (lv_at hl 3 rfl) ?_
          refine lv_iload_n hx hb dX12_member_131 rfl (lv_at hl 4 rfl) ?_
          refine lv_iload_n hx hb dX12_member_132 rfl (lv_at hl 1 rfl) ?_
          refine lv_iload hx hb dX12_member_133 (lv_at hl 0 rfl) ?_
          have hP : va_P G.1 pCl (mW G h0 a (upd (upd (upd (upd (upd (upd (upd (upd (upd (upd (upd (upd (upd (upd (upd (upd (upd (upd (upd (upd (upd (upd (upd (upd (upd (upd (upd (upd (upd F 15 0) 16 pl693) 27 (nI nd)) 31 (nI wr)) 34 (nI lz)) 35 (nI dc)) 44 (nI fd)) 49 (nI md)) 59 (nI bk)) 60 (nI pr)) 64 (nI at691)) 65 ne0) 66 (nI lk)) 67 (nI mf)) 68 (nI mm)) 15 0) 27 (nI nd)) 31 (nI wr)) 34 (nI lz)) 35 (nI dc)) 44 (nI fd)) 49 (nI md)) 59 (nI bk)) 60 (nI pr)) 64 (nI at691)) 65 ne0) 66 (nI lk)) 67 (nI mf)) 68 (nI mm)) (updA B 2 K)) _ := hP
          have hD : va_D A (mW G h0 a (upd (upd (upd (upd (upd (upd (upd (upd (upd (upd (upd (upd (upd (upd (upd (upd (upd (upd (upd (upd (upd (upd (upd (upd (upd (upd (upd (upd (upd F 15 0) 16 pl693) 27 (nI nd)) 31 (nI wr)) 34 (nI lz)) 35 (nI dc)) 44 (nI fd)) 49 (nI md)) 59 (nI bk)) 60 (nI pr)) 64 (nI at691)) 65 ne0) 66 (nI lk)) 67 (nI mf)) 68 (nI mm)) 15 0) 27 (nI nd)) 31 (nI wr)) 34 (nI lz)) 35 (nI dc)) 44 (nI fd)) 49 (nI md)) 59 (nI bk)) 60 (nI pr)) 64 (nI at691)) 65 ne0) 66 (nI lk)) 67 (nI mf)) 68 (nI mm)) (updA B 2 K)) := hD
          refine pc_V0 (G := G) (As := [.int (nI d), .int (-1), .int (nI (at0 + 1))]) (rest := []) hx hb hml hown hq hE hX pX0_al hP hD hS hA hl.1 (RM_method l G h0 a (upd (upd (upd (upd (upd (upd (upd (upd (upd (upd (upd (upd (upd (upd (upd F 15 0) 16 pl693) 27 (nI nd)) 31 (nI wr)) 34 (nI lz)) 35 (nI dc)) 44 (nI fd)) 49 (nI md)) 59 (nI bk)) 60 (nI pr)) 64 (nI at691)) 65 ne0) 66 (nI lk)) 67 (nI mf)) 68 (nI mm)) B at691 T nm nd wr lz dc fd md pr bk mf mm lk ne0 K d (at0 + 1) (-1) (by omega) (by omega) hK (by rw [hkq1 5 (by omega)]; exact hV) (by omega) (by omega) (by omega) (by omega) (by omega) (by omega) (by omega) (by omega) (by omega) (by omega) (by omega) (by omega) (by omega) (h701 rfl) (Or.inl rfl) hps hfm hy hlr) (gV pw_1728 pw_1729 pw_1730 pw_1523 pw_1725) hV_X12_method 0 9 rfl rfl rfl rfl (Nat.le_of_ble_eq_true rfl) dX12_member_135 ⟨Nat.le_of_ble_eq_true rfl, Nat.le_of_ble_eq_true rfl⟩ ⟨Nat.le_of_ble_eq_true rfl, Nat.le_of_ble_eq_true rfl⟩ (fun v807 u805 H locs hw806 hP hD hS => ?_)
          obtain ⟨at808, fa809, pl810, nd811, wr812, lz813, dc814, fd815, md816, pr817, bk818, mf819, mm820, ne821, X822⟩ := u805
          obtain ⟨hw806, h823, h824, h825, h826, h827, h828⟩ := hw806
          replace h823 : at691 ≤ at808 := h823
          replace h824 : at808 ≤ T := h824
          replace h825 : fa809 ≤ 100 := h825
          replace h826 : at691 + 1 ≤ at808 + fa809 := h826
          replace h827 : Kq 0 B X822 := h827
          replace h828 : If (fa809 = 0) ((nd811 ≤ 2 * at808 ∧ wr812 ≤ at808 ∧ lz813 ≤ at808 ∧ pr817 ≤ at808 ∧ dc814 ≤ 37 ∧ dc ≤ dc814 ∧ bk818 ≤ md816 ∧ wr ≤ wr812 ∧ lz ≤ lz813) ∧ (md816 + 240 ≤ 30 * dc814 + mm820 ∧ fd815 + 160 ≤ 20 * dc814 + mf819 ∧ mf819 ≤ 20 ∧ mm820 ≤ 30 ∧ dc814 = dc) ∧ PS T nm wr812 lz813 dc814 fd815 md816 pr817 bk818 X822 ∧ FrM K T wr812 X822 nd811 md816 ∧ tkRow (X822 19) wr812 T ∧ lsRow (X822 22) (X822 23) lz813 T) := h828
          obtain rfl : v807 = none := hw806
          have hP : va_P G.1 pCl (mW G h0 a (upd (upd (upd (upd (upd (upd (upd (upd (upd (upd (upd (upd (upd (upd (upd F 15 (nI fa809)) 16 pl810) 27 (nI nd811)) 31 (nI wr812)) 34 (nI lz813)) 35 (nI dc814)) 44 (nI fd815)) 49 (nI md816)) 59 (nI bk818)) 60 (nI pr817)) 64 (nI at808)) 65 ne821) 66 (nI lk)) 67 (nI mf819)) 68 (nI mm820)) (updA X822 2 K)) _ := hP
          have hD : va_D A (mW G h0 a (upd (upd (upd (upd (upd (upd (upd (upd (upd (upd (upd (upd (upd (upd (upd F 15 (nI fa809)) 16 pl810) 27 (nI nd811)) 31 (nI wr812)) 34 (nI lz813)) 35 (nI dc814)) 44 (nI fd815)) 49 (nI md816)) 59 (nI bk818)) 60 (nI pr817)) 64 (nI at808)) 65 ne821) 66 (nI lk)) 67 (nI mf819)) 68 (nI mm820)) (updA X822 2 K)) := hD
          refine W.widen (k := 0) (n := 0) (Nat.le_of_ble_eq_true rfl) (Nat.le_of_ble_eq_true rfl) ?_
          refine W.eq (g2 := F0 m 138 ls []) rfl ?_
          have hkq829 : Kq 0 B X822 := (Kq.trans hkq1 h827 (by omega))
          rcases Nat.eq_zero_or_pos fa809 with e830 | e830
          · subst e830
            have hP : va_P G.1 pCl (mW G h0 a (upd (upd (upd (upd (upd (upd (upd (upd (upd (upd (upd (upd (upd (upd (upd F 15 0) 16 pl810) 27 (nI nd811)) 31 (nI wr812)) 34 (nI lz813)) 35 (nI dc814)) 44 (nI fd815)) 49 (nI md816)) 59 (nI bk818)) 60 (nI pr817)) 64 (nI at808)) 65 ne821) 66 (nI lk)) 67 (nI mf819)) 68 (nI mm820)) (updA X822 2 K)) _ := hP
            have hD : va_D A (mW G h0 a (upd (upd (upd (upd (upd (upd (upd (upd (upd (upd (upd (upd (upd (upd (upd F 15 0) 16 pl810) 27 (nI nd811)) 31 (nI wr812)) 34 (nI lz813)) 35 (nI dc814)) 44 (nI fd815)) 49 (nI md816)) 59 (nI bk818)) 60 (nI pr817)) 64 (nI at808)) 65 ne821) 66 (nI lk)) 67 (nI mf819)) 68 (nI mm820)) (updA X822 2 K)) := hD
            obtain ⟨hq831, hq832, hq833, hq834, hq835, hq836⟩ := h828 rfl
            obtain rfl : dc = dc814 := (by omega)
            have hz837 : at0 ≤ at808 := (by omega)
            have hz838 : at808 ≤ T := (by omega)
            have hz839 : 0 ≤ 100 := (by omega)
            have hz840 : at0 + 1 ≤ at808 + 0 := (by omega)
            have hz841 : Kq 0 B X822 := hkq829
            have hz842 : If (0 = 0) ((nd811 ≤ 2 * at808 ∧ wr812 ≤ at808 ∧ lz813 ≤ at808 ∧ pr817 ≤ at808 ∧ dc ≤ 37 ∧ dc ≤ dc ∧ bk818 ≤ md816 ∧ wr ≤ wr812 ∧ lz ≤ lz813) ∧ (md816 + 240 ≤ 30 * dc + mm820 ∧ fd815 + 160 ≤ 20 * dc + mf819 ∧ mf819 ≤ 20 ∧ mm820 ≤ 30 ∧ dc = dc) ∧ PS T nm wr812 lz813 dc fd815 md816 pr817 bk818 X822 ∧ FrM K T wr812 X822 nd811 md816 ∧ tkRow (X822 19) wr812 T ∧ lsRow (X822 22) (X822 23) lz813 T) := (fun _ => ⟨by omega, by omega, hq833, hq834, hq835, hq836⟩)
            have hP : va_P G.1 pCl (mW G h0 a (upd (upd (upd (upd (upd (upd (upd (upd (upd (upd (upd (upd (upd (upd (upd F 15 (nI 0)) 16 pl810) 27 (nI nd811)) 31 (nI wr812)) 34 (nI lz813)) 35 (nI dc)) 44 (nI fd815)) 49 (nI md816)) 59 (nI bk818)) 60 (nI pr817)) 64 (nI at808)) 65 ne821) 66 (nI lk)) 67 (nI mf819)) 68 (nI mm820)) (updA X822 2 K)) _ := hP
            have hD : va_D A (mW G h0 a (upd (upd (upd (upd (upd (upd (upd (upd (upd (upd (upd (upd (upd (upd (upd F 15 (nI 0)) 16 pl810) 27 (nI nd811)) 31 (nI wr812)) 34 (nI lz813)) 35 (nI dc)) 44 (nI fd815)) 49 (nI md816)) 59 (nI bk818)) 60 (nI pr817)) 64 (nI at808)) 65 ne821) 66 (nI lk)) 67 (nI mf819)) 68 (nI mm820)) (updA X822 2 K)) := hD
            exact W.vret hx hb hr (fun t9 ht9 hW9 => ⟨⟨_, (at808, 0, pl810, nd811, wr812, lz813, dc, fd815, md816, pr817, bk818, mf819, mm820, ne821, X822), rfl, ⟨rfl, hz837, hz838, hz839, hz840, hz841, hz842⟩, by rw [ht9]; exact hP, hD⟩, hS.F ht9⟩) hS.2.2 dX12_member_138
          · have e830 := e830
            have hz843 : at0 ≤ at808 := (by omega)
            have hz844 : at808 ≤ T := (by omega)
            have hz845 : fa809 ≤ 100 := (by omega)
            have hz846 : at0 + 1 ≤ at808 + fa809 := (by omega)
            have hz847 : Kq 0 B X822 := hkq829
            have hz848 : If (fa809 = 0) ((nd811 ≤ 2 * at808 ∧ wr812 ≤ at808 ∧ lz813 ≤ at808 ∧ pr817 ≤ at808 ∧ dc814 ≤ 37 ∧ dc ≤ dc814 ∧ bk818 ≤ md816 ∧ wr ≤ wr812 ∧ lz ≤ lz813) ∧ (md816 + 240 ≤ 30 * dc814 + mm820 ∧ fd815 + 160 ≤ 20 * dc814 + mf819 ∧ mf819 ≤ 20 ∧ mm820 ≤ 30 ∧ dc814 = dc) ∧ PS T nm wr812 lz813 dc814 fd815 md816 pr817 bk818 X822 ∧ FrM K T wr812 X822 nd811 md816 ∧ tkRow (X822 19) wr812 T ∧ lsRow (X822 22) (X822 23) lz813 T) := (fun e => absurd e (by omega))
            have hP : va_P G.1 pCl (mW G h0 a (upd (upd (upd (upd (upd (upd (upd (upd (upd (upd (upd (upd (upd (upd (upd F 15 (nI fa809)) 16 pl810) 27 (nI nd811)) 31 (nI wr812)) 34 (nI lz813)) 35 (nI dc814)) 44 (nI fd815)) 49 (nI md816)) 59 (nI bk818)) 60 (nI pr817)) 64 (nI at808)) 65 ne821) 66 (nI lk)) 67 (nI mf819)) 68 (nI mm820)) (updA X822 2 K)) _ := hP
            have hD : va_D A (mW G h0 a (upd (upd (upd (upd (upd (upd (upd (upd (upd (upd (upd (upd (upd (upd (upd F 15 (nI fa809)) 16 pl810) 27 (nI nd811)) 31 (nI wr812)) 34 (nI lz813)) 35 (nI dc814)) 44 (nI fd815)) 49 (nI md816)) 59 (nI bk818)) 60 (nI pr817)) 64 (nI at808)) 65 ne821) 66 (nI lk)) 67 (nI mf819)) 68 (nI mm820)) (updA X822 2 K)) := hD
            exact W.vret hx hb hr (fun t9 ht9 hW9 => ⟨⟨_, (at808, fa809, pl810, nd811, wr812, lz813, dc814, fd815, md816, pr817, bk818, mf819, mm820, ne821, X822), rfl, ⟨rfl, hz843, hz844, hz845, hz846, hz847, hz848⟩, by rw [ht9]; exact hP, hD⟩, hS.F ht9⟩) hS.2.2 dX12_member_138
        · have n849 : mm = 30 := (nI_eq (a := mm) (b := 30) (by omega) (by omega)).mp c803
          refine lv_aload_n hx hb dX12_member_122 rfl (lv_at hl 3 rfl) ?_
          refine lv_iconst (v := 2) hx hb dX12_member_123 (by decide) ?_
          refine lv_iload hx hb dX12_member_124 (lv_at hl 0 rfl) ?_
          have hP : va_P G.1 pCl (mW G h0 a (upd (upd (upd (upd (upd (upd (upd (upd (upd (upd (upd (upd (upd (upd (upd (upd F 15 0) 16 pl693) 27 (nI nd)) 31 (nI wr)) 34 (nI lz)) 35 (nI dc)) 44 (nI fd)) 49 (nI md)) 59 (nI bk)) 60 (nI pr)) 64 (nI at691)) 65 ne0) 66 (nI lk)) 67 (nI mf)) 68 (nI mm)) 15 (nI 0)) (updA B 2 K)) _ := hP
          have hD : va_D A (mW G h0 a (upd (upd (upd (upd (upd (upd (upd (upd (upd (upd (upd (upd (upd (upd (upd (upd F 15 0) 16 pl693) 27 (nI nd)) 31 (nI wr)) 34 (nI lz)) 35 (nI dc)) 44 (nI fd)) 49 (nI md)) 59 (nI bk)) 60 (nI pr)) 64 (nI at691)) 65 ne0) 66 (nI lk)) 67 (nI mf)) 68 (nI mm)) 15 (nI 0)) (updA B 2 K)) := hD
          refine pc_V0 (G := G) (As := [.int (nI 2), .int (nI (at0 + 1))]) (rest := []) hx hb hml hown hq hE hX pX0_al hP hD hS hA hl.1 (R_badAt l G h0 a (upd (upd (upd (upd (upd (upd (upd (upd (upd (upd (upd (upd (upd (upd (upd F 15 0) 16 pl693) 27 (nI nd)) 31 (nI wr)) 34 (nI lz)) 35 (nI dc)) 44 (nI fd)) 49 (nI md)) 59 (nI bk)) 60 (nI pr)) 64 (nI at691)) 65 ne0) 66 (nI lk)) 67 (nI mf)) 68 (nI mm)) (updA B 2 K) 2 (at0 + 1) 0 (by omega) (by omega) (by omega)) (gV pw_1597 pw_1598 pw_1599 pw_1523 pw_1593) hV_X12_badAt 0 9 rfl rfl rfl rfl (Nat.le_of_ble_eq_true rfl) dX12_member_126 ⟨Nat.le_of_ble_eq_true rfl, Nat.le_of_ble_eq_true rfl⟩ ⟨Nat.le_of_ble_eq_true rfl, Nat.le_of_ble_eq_true rfl⟩ (fun v852 u850 H locs hw851 hP hD hS => ?_)
          obtain ⟨fa853, pl854⟩ := u850
          obtain ⟨hw851, h855, h856, h857, h858⟩ := hw851
          replace h855 : 0 ≤ fa853 := h855
          replace h856 : fa853 ≤ 0 + 2 := h856
          replace h857 : 0 < fa853 := h857
          replace h858 : If (0 < 0) (fa853 = 0) := h858
          obtain rfl : v852 = none := hw851
          have hP : va_P G.1 pCl (mW G h0 a (upd (upd (upd (upd (upd (upd (upd (upd (upd (upd (upd (upd (upd (upd (upd F 15 (nI fa853)) 16 pl854) 27 (nI nd)) 31 (nI wr)) 34 (nI lz)) 35 (nI dc)) 44 (nI fd)) 49 (nI md)) 59 (nI bk)) 60 (nI pr)) 64 (nI at691)) 65 ne0) 66 (nI lk)) 67 (nI mf)) 68 (nI mm)) (updA B 2 K)) _ := hP
          have hD : va_D A (mW G h0 a (upd (upd (upd (upd (upd (upd (upd (upd (upd (upd (upd (upd (upd (upd (upd F 15 (nI fa853)) 16 pl854) 27 (nI nd)) 31 (nI wr)) 34 (nI lz)) 35 (nI dc)) 44 (nI fd)) 49 (nI md)) 59 (nI bk)) 60 (nI pr)) 64 (nI at691)) 65 ne0) 66 (nI lk)) 67 (nI mf)) 68 (nI mm)) (updA B 2 K)) := hD
          refine W.widen (k := 0) (n := 0) (Nat.le_of_ble_eq_true rfl) (Nat.le_of_ble_eq_true rfl) ?_
          refine W.eq (g2 := F0 m 129 ls []) rfl ?_
          have hz859 : at0 ≤ at691 := (by omega)
          have hz860 : at691 ≤ T := (by omega)
          have hz861 : fa853 ≤ 100 := (by omega)
          have hz862 : at0 + 1 ≤ at691 + fa853 := (by omega)
          have hz863 : Kq 0 B B := hkq1
          have hz864 : If (fa853 = 0) ((nd ≤ 2 * at691 ∧ wr ≤ at691 ∧ lz ≤ at691 ∧ pr ≤ at691 ∧ dc ≤ 37 ∧ dc ≤ dc ∧ bk ≤ md ∧ wr ≤ wr ∧ lz ≤ lz) ∧ (md + 240 ≤ 30 * dc + mm ∧ fd + 160 ≤ 20 * dc + mf ∧ mf ≤ 20 ∧ mm ≤ 30 ∧ dc = dc) ∧ PS T nm wr lz dc fd md pr bk B ∧ FrM K T wr B nd md ∧ tkRow (B 19) wr T ∧ lsRow (B 22) (B 23) lz T) := (fun e => absurd e (by omega))
          have hP : va_P G.1 pCl (mW G h0 a (upd (upd (upd (upd (upd (upd (upd (upd (upd (upd (upd (upd (upd (upd (upd F 15 (nI fa853)) 16 pl854) 27 (nI nd)) 31 (nI wr)) 34 (nI lz)) 35 (nI dc)) 44 (nI fd)) 49 (nI md)) 59 (nI bk)) 60 (nI pr)) 64 (nI at691)) 65 ne0) 66 (nI lk)) 67 (nI mf)) 68 (nI mm)) (updA B 2 K)) _ := hP
          have hD : va_D A (mW G h0 a (upd (upd (upd (upd (upd (upd (upd (upd (upd (upd (upd (upd (upd (upd (upd F 15 (nI fa853)) 16 pl854) 27 (nI nd)) 31 (nI wr)) 34 (nI lz)) 35 (nI dc)) 44 (nI fd)) 49 (nI md)) 59 (nI bk)) 60 (nI pr)) 64 (nI at691)) 65 ne0) 66 (nI lk)) 67 (nI mf)) 68 (nI mm)) (updA B 2 K)) := hD
          exact W.vret hx hb hr (fun t9 ht9 hW9 => ⟨⟨_, (at691, fa853, pl854, nd, wr, lz, dc, fd, md, pr, bk, mf, mm, ne0, B), rfl, ⟨rfl, hz859, hz860, hz861, hz862, hz863, hz864⟩, by rw [ht9]; exact hP, hD⟩, hS.F ht9⟩) hS.2.2 dX12_member_129
    · have e702 := e702
      refine lv_aload_n hx hb dX12_member_59 rfl (lv_at hl 3 rfl) ?_
      refine r_get (v := .int (nI fa692)) hx hb hown hq hE hP 15 350 tFX12_15 (by decide) pw_1594 rfl dX12_member_60 ?_
      refine lv_if_le (tgt := 67) hx hb dX12_member_63 (by decide) (fun c865 => (by have n866 : fa692 ≤ 0 := (nI_leI (a := fa692) (b := 0) (by omega) (by omega)).mp c865; omega)) (fun c865 => ?_)
      have hz867 : at0 ≤ at691 := (by omega)
      have hz868 : at691 ≤ T := (by omega)
      have hz869 : fa692 ≤ 100 := (by omega)
      have hz870 : at0 + 1 ≤ at691 + fa692 := (by omega)
      have hz871 : Kq 0 B B := hkq1
      have hz872 : If (fa692 = 0) ((nd ≤ 2 * at691 ∧ wr ≤ at691 ∧ lz ≤ at691 ∧ pr ≤ at691 ∧ dc ≤ 37 ∧ dc ≤ dc ∧ bk ≤ md ∧ wr ≤ wr ∧ lz ≤ lz) ∧ (md + 240 ≤ 30 * dc + mm ∧ fd + 160 ≤ 20 * dc + mf ∧ mf ≤ 20 ∧ mm ≤ 30 ∧ dc = dc) ∧ PS T nm wr lz dc fd md pr bk B ∧ FrM K T wr B nd md ∧ tkRow (B 19) wr T ∧ lsRow (B 22) (B 23) lz T) := (fun e => absurd e (by omega))
      have hP : va_P G.1 pCl (mW G h0 a (upd (upd (upd (upd (upd (upd (upd (upd (upd (upd (upd (upd (upd (upd (upd F 15 (nI fa692)) 16 pl693) 27 (nI nd)) 31 (nI wr)) 34 (nI lz)) 35 (nI dc)) 44 (nI fd)) 49 (nI md)) 59 (nI bk)) 60 (nI pr)) 64 (nI at691)) 65 ne0) 66 (nI lk)) 67 (nI mf)) 68 (nI mm)) (updA B 2 K)) _ := hP
      have hD : va_D A (mW G h0 a (upd (upd (upd (upd (upd (upd (upd (upd (upd (upd (upd (upd (upd (upd (upd F 15 (nI fa692)) 16 pl693) 27 (nI nd)) 31 (nI wr)) 34 (nI lz)) 35 (nI dc)) 44 (nI fd)) 49 (nI md)) 59 (nI bk)) 60 (nI pr)) 64 (nI at691)) 65 ne0) 66 (nI lk)) 67 (nI mf)) 68 (nI mm)) (updA B 2 K)) := hD
      exact W.vret hx hb hr (fun t9 ht9 hW9 => ⟨⟨_, (at691, fa692, pl693, nd, wr, lz, dc, fd, md, pr, bk, mf, mm, ne0, B), rfl, ⟨rfl, hz867, hz868, hz869, hz870, hz871, hz872⟩, by rw [ht9]; exact hP, hD⟩, hS.F ht9⟩) hS.2.2 dX12_member_66

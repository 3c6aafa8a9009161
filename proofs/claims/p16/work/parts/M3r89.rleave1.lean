theorem upd2_id {B : Nat → Nat → Int32} : updA (updA B 68 (B 68)) 69 (B 69) = B := by
  funext i
  unfold updA
  by_cases e : i = 69
  · rw [if_pos e, e]
  · rw [if_neg e]
    by_cases e2 : i = 68
    · rw [if_pos e2, e2]
    · rw [if_neg e2]
section LVX
variable {X Y : Nat → Nat → Int32} {gh : Nat → Nat → Nat} {nd T nm wr lz dc fd md pr bk rmm mu op wn fu rd on idn fl ct p c kk sc : Nat} {M : MTb} {mt ps : Nat → Nat} {yy : Nat → Ps} {bf wf : Nat → Nat} {u : Ps} {e : En}
theorem lpD_ok (P : Pg X Y gh nd T nm wr lz dc fd md pr bk M) (pn : p < nd) (ek : X 9 p = nI kk) (hk : kk = 35 ∨ kk = 36) (hs : sc = e.1) : nI (sc + lpD Y p) = nI (lpE X p e kk).1 := by
  have b := P.bd
  have r9 : Y 9 = X 9 := P.row 9 (by omega) (by omega) (by omega) (by omega) (by omega)
  have r12 : Y 12 = X 12 := P.row 12 (by omega) (by omega) (by omega) (by omega) (by omega)
  have ch : chN Y 1 p = chN X 1 p := by unfold chN; rw [show Y (11 + 1) = X (11 + 1) from r12]
  unfold lpD lpE
  rw [r9, r12, ch, hs]
  rcases hk with w | w <;> subst w
  · rw [if_neg (fun h => by rw [ek] at h; exact absurd h.1 (by decide)), if_neg (by decide)]; rfl
  · rw [if_pos rfl]
    unfold forE
    by_cases q : X 12 p = -1
    · rw [if_neg (fun h => h.2.1 q), if_pos q]; rfl
    · rw [if_neg q]
      by_cases q2 : X 9 (chN X 1 p) = 30
      · rw [if_pos ⟨ek, q, q2⟩, aft_y q2]
      · rw [if_neg (fun h => q2 h.2.2), aft_no q2]; rfl
theorem c14_ok (P : Pg X Y gh nd T nm wr lz dc fd md pr bk M) (pn : p < nd) (ek : X 9 p = nI kk) (hk : kk = 35 ∨ kk = 36) (h : ¬ Y 14 p = -1) : kk = 36 → ∃ j : Nat, Y 14 p = nI j ∧ j < nd := fun w => by
  have b := P.bd
  subst w
  have e14 : Y 14 p = X 14 p := P.r14 p pn (by rw [ek]; decide)
  rw [e14] at h ⊢
  obtain ⟨k2, e2, _, k44, hs⟩ := P.fs.knd pn
  have e0 : k2 = 36 := (nI_eq (by omega) (by omega)).mp (e2.symm.trans ek)
  subst e0
  rcases (hs 3 (by omega) (by omega)).2.2.2 (by decide) (by decide) (by decide) (by decide) with ⟨w, _⟩ | ⟨j2, w1, _, w2, _⟩
  · exact absurd w h
  · exact ⟨j2, w1, w2⟩
end LVX
theorem dX12_leaves_0 : decode cX12_leaves 0 = .ok (.iload_n 1, 1) := by decide +kernel
theorem dX12_leaves_1 : decode cX12_leaves 1 = .ok (.istore 5, 2) := by decide +kernel
theorem dX12_leaves_3 : decode cX12_leaves 3 = .ok (.iconst 1, 1) := by decide +kernel
theorem dX12_leaves_4 : decode cX12_leaves 4 = .ok (.istore 6, 2) := by decide +kernel
theorem dX12_leaves_6 : decode cX12_leaves 6 = .ok (.iload 6, 2) := by decide +kernel
theorem dX12_leaves_8 : decode cX12_leaves 8 = .ok (.ifCond .eq 352, 3) := by decide +kernel
theorem dX12_leaves_11 : decode cX12_leaves 11 = .ok (.aload_n 0, 1) := by decide +kernel
theorem dX12_leaves_12 : decode cX12_leaves 12 = .ok (.aload_n 0, 1) := by decide +kernel
theorem dX12_leaves_13 : decode cX12_leaves 13 = .ok (.getfield 205, 3) := by decide +kernel
theorem dX12_leaves_16 : decode cX12_leaves 16 = .ok (.aload_n 0, 1) := by decide +kernel
theorem dX12_leaves_17 : decode cX12_leaves 17 = .ok (.getfield 707, 3) := by decide +kernel
theorem dX12_leaves_20 : decode cX12_leaves 20 = .ok (.iconst 1, 1) := by decide +kernel
theorem dX12_leaves_21 : decode cX12_leaves 21 = .ok (.isub, 1) := by decide +kernel
theorem dX12_leaves_22 : decode cX12_leaves 22 = .ok (.iaload, 1) := by decide +kernel
theorem dX12_leaves_23 : decode cX12_leaves 23 = .ok (.putfield 698, 3) := by decide +kernel
theorem dX12_leaves_26 : decode cX12_leaves 26 = .ok (.aload_n 0, 1) := by decide +kernel
theorem dX12_leaves_27 : decode cX12_leaves 27 = .ok (.getfield 168, 3) := by decide +kernel
theorem dX12_leaves_30 : decode cX12_leaves 30 = .ok (.iload 5, 2) := by decide +kernel
theorem dX12_leaves_32 : decode cX12_leaves 32 = .ok (.iaload, 1) := by decide +kernel
theorem dX12_leaves_33 : decode cX12_leaves 33 = .ok (.istore 7, 2) := by decide +kernel
theorem dX12_leaves_35 : decode cX12_leaves 35 = .ok (.iload 7, 2) := by decide +kernel
theorem dX12_leaves_37 : decode cX12_leaves 37 = .ok (.iconst (-1), 1) := by decide +kernel
theorem dX12_leaves_38 : decode cX12_leaves 38 = .ok (.if_icmp .ne 21, 3) := by decide +kernel
theorem dX12_leaves_41 : decode cX12_leaves 41 = .ok (.iload_n 2, 1) := by decide +kernel
theorem dX12_leaves_42 : decode cX12_leaves 42 = .ok (.iconst 2, 1) := by decide +kernel
theorem dX12_leaves_43 : decode cX12_leaves 43 = .ok (.if_icmp .ne 16, 3) := by decide +kernel
theorem dX12_leaves_59 : decode cX12_leaves 59 = .ok (.iload 7, 2) := by decide +kernel
theorem dX12_leaves_61 : decode cX12_leaves 61 = .ok (.iconst (-1), 1) := by decide +kernel
theorem dX12_leaves_62 : decode cX12_leaves 62 = .ok (.if_icmp .ne 46, 3) := by decide +kernel
theorem dX12_leaves_65 : decode cX12_leaves 65 = .ok (.aload_n 0, 1) := by decide +kernel
theorem dX12_leaves_66 : decode cX12_leaves 66 = .ok (.dup, 1) := by decide +kernel
theorem dX12_leaves_67 : decode cX12_leaves 67 = .ok (.getfield 707, 3) := by decide +kernel
theorem dX12_leaves_70 : decode cX12_leaves 70 = .ok (.iconst 1, 1) := by decide +kernel
theorem dX12_leaves_71 : decode cX12_leaves 71 = .ok (.isub, 1) := by decide +kernel
theorem dX12_leaves_72 : decode cX12_leaves 72 = .ok (.putfield 707, 3) := by decide +kernel
theorem dX12_leaves_75 : decode cX12_leaves 75 = .ok (.aload_n 0, 1) := by decide +kernel
theorem dX12_leaves_76 : decode cX12_leaves 76 = .ok (.getfield 208, 3) := by decide +kernel
theorem dX12_leaves_79 : decode cX12_leaves 79 = .ok (.aload_n 0, 1) := by decide +kernel
theorem dX12_leaves_80 : decode cX12_leaves 80 = .ok (.getfield 707, 3) := by decide +kernel
theorem dX12_leaves_83 : decode cX12_leaves 83 = .ok (.iaload, 1) := by decide +kernel
theorem dX12_leaves_84 : decode cX12_leaves 84 = .ok (.istore 5, 2) := by decide +kernel
theorem dX12_leaves_86 : decode cX12_leaves 86 = .ok (.iload 5, 2) := by decide +kernel
theorem dX12_leaves_88 : decode cX12_leaves 88 = .ok (.iconst (-1), 1) := by decide +kernel
theorem dX12_leaves_89 : decode cX12_leaves 89 = .ok (.if_icmp .ne 268, 3) := by decide +kernel
theorem dX12_leaves_92 : decode cX12_leaves 92 = .ok (.aload_n 0, 1) := by decide +kernel
theorem dX12_leaves_93 : decode cX12_leaves 93 = .ok (.iconst 1, 1) := by decide +kernel
theorem dX12_leaves_94 : decode cX12_leaves 94 = .ok (.putfield 233, 3) := by decide +kernel
theorem dX12_leaves_97 : decode cX12_leaves 97 = .ok (.aload_n 0, 1) := by decide +kernel
theorem dX12_leaves_98 : decode cX12_leaves 98 = .ok (.iload_n 3, 1) := by decide +kernel
theorem dX12_leaves_99 : decode cX12_leaves 99 = .ok (.putfield 766, 3) := by decide +kernel
theorem dX12_leaves_102 : decode cX12_leaves 102 = .ok (.iconst 0, 1) := by decide +kernel
theorem dX12_leaves_103 : decode cX12_leaves 103 = .ok (.istore 6, 2) := by decide +kernel
theorem dX12_leaves_105 : decode cX12_leaves 105 = .ok (.goto 252, 3) := by decide +kernel
theorem dX12_leaves_357 : decode cX12_leaves 357 = .ok (.goto (-351), 3) := by decide +kernel
theorem dX12_leaves_360 : decode cX12_leaves 360 = .ok (.return_, 1) := by decide +kernel
theorem dX12_leaves_108 : decode cX12_leaves 108 = .ok (.aload_n 0, 1) := by decide +kernel
theorem dX12_leaves_109 : decode cX12_leaves 109 = .ok (.getfield 38, 3) := by decide +kernel
theorem dX12_leaves_112 : decode cX12_leaves 112 = .ok (.iload 7, 2) := by decide +kernel
theorem dX12_leaves_114 : decode cX12_leaves 114 = .ok (.iaload, 1) := by decide +kernel
theorem dX12_leaves_115 : decode cX12_leaves 115 = .ok (.bipush 41, 2) := by decide +kernel
theorem dX12_leaves_117 : decode cX12_leaves 117 = .ok (.if_icmp .ne 32, 3) := by decide +kernel
theorem dX12_leaves_120 : decode cX12_leaves 120 = .ok (.iload 5, 2) := by decide +kernel
theorem dX12_leaves_122 : decode cX12_leaves 122 = .ok (.aload_n 0, 1) := by decide +kernel
theorem dX12_leaves_123 : decode cX12_leaves 123 = .ok (.getfield 53, 3) := by decide +kernel
theorem dX12_leaves_126 : decode cX12_leaves 126 = .ok (.iload 7, 2) := by decide +kernel
theorem dX12_leaves_128 : decode cX12_leaves 128 = .ok (.iaload, 1) := by decide +kernel
theorem dX12_leaves_129 : decode cX12_leaves 129 = .ok (.if_icmp .ne 20, 3) := by decide +kernel
theorem dX12_leaves_149 : decode cX12_leaves 149 = .ok (.aload_n 0, 1) := by decide +kernel
theorem dX12_leaves_150 : decode cX12_leaves 150 = .ok (.getfield 38, 3) := by decide +kernel
theorem dX12_leaves_153 : decode cX12_leaves 153 = .ok (.iload 7, 2) := by decide +kernel
theorem dX12_leaves_155 : decode cX12_leaves 155 = .ok (.iaload, 1) := by decide +kernel
theorem dX12_leaves_156 : decode cX12_leaves 156 = .ok (.bipush 41, 2) := by decide +kernel
theorem dX12_leaves_158 : decode cX12_leaves 158 = .ok (.if_icmp .ne 153, 3) := by decide +kernel
theorem dX12_leaves_161 : decode cX12_leaves 161 = .ok (.iload_n 2, 1) := by decide +kernel
theorem dX12_leaves_162 : decode cX12_leaves 162 = .ok (.iconst 1, 1) := by decide +kernel
theorem dX12_leaves_163 : decode cX12_leaves 163 = .ok (.if_icmp .ne 25, 3) := by decide +kernel
theorem dX12_leaves_166 : decode cX12_leaves 166 = .ok (.iload 5, 2) := by decide +kernel
theorem dX12_leaves_168 : decode cX12_leaves 168 = .ok (.aload_n 0, 1) := by decide +kernel
theorem dX12_leaves_169 : decode cX12_leaves 169 = .ok (.getfield 47, 3) := by decide +kernel
theorem dX12_leaves_172 : decode cX12_leaves 172 = .ok (.iload 7, 2) := by decide +kernel
theorem dX12_leaves_174 : decode cX12_leaves 174 = .ok (.iaload, 1) := by decide +kernel
theorem dX12_leaves_175 : decode cX12_leaves 175 = .ok (.if_icmp .ne 13, 3) := by decide +kernel
theorem dX12_leaves_188 : decode cX12_leaves 188 = .ok (.iconst (-1), 1) := by decide +kernel
theorem dX12_leaves_189 : decode cX12_leaves 189 = .ok (.istore 8, 2) := by decide +kernel
theorem dX12_leaves_191 : decode cX12_leaves 191 = .ok (.iload 8, 2) := by decide +kernel
theorem dX12_leaves_193 : decode cX12_leaves 193 = .ok (.iconst (-1), 1) := by decide +kernel
theorem dX12_leaves_194 : decode cX12_leaves 194 = .ok (.if_icmp .ne 18, 3) := by decide +kernel
theorem dX12_leaves_197 : decode cX12_leaves 197 = .ok (.aload_n 0, 1) := by decide +kernel
theorem dX12_leaves_198 : decode cX12_leaves 198 = .ok (.getfield 53, 3) := by decide +kernel
theorem dX12_leaves_201 : decode cX12_leaves 201 = .ok (.iload 7, 2) := by decide +kernel
theorem dX12_leaves_203 : decode cX12_leaves 203 = .ok (.iaload, 1) := by decide +kernel
theorem dX12_leaves_204 : decode cX12_leaves 204 = .ok (.iconst (-1), 1) := by decide +kernel
theorem dX12_leaves_205 : decode cX12_leaves 205 = .ok (.if_icmp .ne 7, 3) := by decide +kernel
theorem dX12_leaves_212 : decode cX12_leaves 212 = .ok (.iconst 0, 1) := by decide +kernel
theorem dX12_leaves_213 : decode cX12_leaves 213 = .ok (.istore 6, 2) := by decide +kernel
theorem dX12_leaves_215 : decode cX12_leaves 215 = .ok (.iload 7, 2) := by decide +kernel
theorem dX12_leaves_217 : decode cX12_leaves 217 = .ok (.istore 5, 2) := by decide +kernel
theorem dX12_leaves_219 : decode cX12_leaves 219 = .ok (.iload 8, 2) := by decide +kernel
theorem dX12_leaves_221 : decode cX12_leaves 221 = .ok (.iconst (-1), 1) := by decide +kernel
theorem dX12_leaves_222 : decode cX12_leaves 222 = .ok (.if_icmp .eq 71, 3) := by decide +kernel
theorem dX12_leaves_293 : decode cX12_leaves 293 = .ok (.iload 6, 2) := by decide +kernel
theorem dX12_leaves_295 : decode cX12_leaves 295 = .ok (.ifCond .ne 13, 3) := by decide +kernel
theorem dX12_leaves_298 : decode cX12_leaves 298 = .ok (.aload_n 0, 1) := by decide +kernel
theorem dX12_leaves_299 : decode cX12_leaves 299 = .ok (.iload 7, 2) := by decide +kernel
theorem dX12_leaves_301 : decode cX12_leaves 301 = .ok (.iload_n 2, 1) := by decide +kernel
theorem dX12_leaves_302 : decode cX12_leaves 302 = .ok (.iload_n 3, 1) := by decide +kernel
theorem dX12_leaves_303 : decode cX12_leaves 303 = .ok (.iload 4, 2) := by decide +kernel
theorem dX12_leaves_305 : decode cX12_leaves 305 = .ok (.invokevirtual 867, 3) := by decide +kernel
theorem dX12_leaves_308 : decode cX12_leaves 308 = .ok (.goto 49, 3) := by decide +kernel
theorem dX12_leaves_208 : decode cX12_leaves 208 = .ok (.iconst 1, 1) := by decide +kernel
theorem dX12_leaves_209 : decode cX12_leaves 209 = .ok (.goto 4, 3) := by decide +kernel
theorem dX12_leaves_178 : decode cX12_leaves 178 = .ok (.aload_n 0, 1) := by decide +kernel
theorem dX12_leaves_179 : decode cX12_leaves 179 = .ok (.iload 7, 2) := by decide +kernel
theorem dX12_leaves_181 : decode cX12_leaves 181 = .ok (.iload_n 3, 1) := by decide +kernel
theorem dX12_leaves_182 : decode cX12_leaves 182 = .ok (.invokevirtual 870, 3) := by decide +kernel
theorem dX12_leaves_185 : decode cX12_leaves 185 = .ok (.goto 4, 3) := by decide +kernel
theorem dX12_leaves_225 : decode cX12_leaves 225 = .ok (.aload_n 0, 1) := by decide +kernel
theorem dX12_leaves_226 : decode cX12_leaves 226 = .ok (.getfield 211, 3) := by decide +kernel
theorem dX12_leaves_229 : decode cX12_leaves 229 = .ok (.aload_n 0, 1) := by decide +kernel
theorem dX12_leaves_230 : decode cX12_leaves 230 = .ok (.aload_n 0, 1) := by decide +kernel
theorem dX12_leaves_231 : decode cX12_leaves 231 = .ok (.getfield 65, 3) := by decide +kernel
theorem dX12_leaves_234 : decode cX12_leaves 234 = .ok (.iload 8, 2) := by decide +kernel
theorem dX12_leaves_236 : decode cX12_leaves 236 = .ok (.iaload, 1) := by decide +kernel
theorem dX12_leaves_237 : decode cX12_leaves 237 = .ok (.invokevirtual 803, 3) := by decide +kernel
theorem dX12_leaves_240 : decode cX12_leaves 240 = .ok (.iload_n 3, 1) := by decide +kernel
theorem dX12_leaves_241 : decode cX12_leaves 241 = .ok (.iastore, 1) := by decide +kernel
theorem dX12_leaves_242 : decode cX12_leaves 242 = .ok (.aload_n 0, 1) := by decide +kernel
theorem dX12_leaves_243 : decode cX12_leaves 243 = .ok (.getfield 214, 3) := by decide +kernel
theorem dX12_leaves_246 : decode cX12_leaves 246 = .ok (.aload_n 0, 1) := by decide +kernel
theorem dX12_leaves_247 : decode cX12_leaves 247 = .ok (.aload_n 0, 1) := by decide +kernel
theorem dX12_leaves_248 : decode cX12_leaves 248 = .ok (.getfield 65, 3) := by decide +kernel
theorem dX12_leaves_251 : decode cX12_leaves 251 = .ok (.iload 8, 2) := by decide +kernel
theorem dX12_leaves_253 : decode cX12_leaves 253 = .ok (.iaload, 1) := by decide +kernel
theorem dX12_leaves_254 : decode cX12_leaves 254 = .ok (.invokevirtual 803, 3) := by decide +kernel
theorem dX12_leaves_257 : decode cX12_leaves 257 = .ok (.iconst 1, 1) := by decide +kernel
theorem dX12_leaves_258 : decode cX12_leaves 258 = .ok (.bastore, 1) := by decide +kernel
theorem dX12_leaves_259 : decode cX12_leaves 259 = .ok (.aload_n 0, 1) := by decide +kernel
theorem dX12_leaves_260 : decode cX12_leaves 260 = .ok (.getfield 202, 3) := by decide +kernel
theorem dX12_leaves_263 : decode cX12_leaves 263 = .ok (.aload_n 0, 1) := by decide +kernel
theorem dX12_leaves_264 : decode cX12_leaves 264 = .ok (.getfield 707, 3) := by decide +kernel
theorem dX12_leaves_267 : decode cX12_leaves 267 = .ok (.iconst 1, 1) := by decide +kernel
theorem dX12_leaves_268 : decode cX12_leaves 268 = .ok (.isub, 1) := by decide +kernel
theorem dX12_leaves_269 : decode cX12_leaves 269 = .ok (.aload_n 0, 1) := by decide +kernel
theorem dX12_leaves_270 : decode cX12_leaves 270 = .ok (.getfield 65, 3) := by decide +kernel
theorem dX12_leaves_273 : decode cX12_leaves 273 = .ok (.iload 8, 2) := by decide +kernel
theorem dX12_leaves_275 : decode cX12_leaves 275 = .ok (.iaload, 1) := by decide +kernel
theorem dX12_leaves_276 : decode cX12_leaves 276 = .ok (.iconst 1, 1) := by decide +kernel
theorem dX12_leaves_277 : decode cX12_leaves 277 = .ok (.iadd, 1) := by decide +kernel
theorem dX12_leaves_278 : decode cX12_leaves 278 = .ok (.iastore, 1) := by decide +kernel
theorem dX12_leaves_279 : decode cX12_leaves 279 = .ok (.aload_n 0, 1) := by decide +kernel
theorem dX12_leaves_280 : decode cX12_leaves 280 = .ok (.aload_n 0, 1) := by decide +kernel
theorem dX12_leaves_281 : decode cX12_leaves 281 = .ok (.getfield 50, 3) := by decide +kernel
theorem dX12_leaves_284 : decode cX12_leaves 284 = .ok (.iload 8, 2) := by decide +kernel
theorem dX12_leaves_286 : decode cX12_leaves 286 = .ok (.iaload, 1) := by decide +kernel
theorem dX12_leaves_287 : decode cX12_leaves 287 = .ok (.invokevirtual 794, 3) := by decide +kernel
theorem dX12_leaves_290 : decode cX12_leaves 290 = .ok (.goto 18, 3) := by decide +kernel
theorem dX12_leaves_132 : decode cX12_leaves 132 = .ok (.aload_n 0, 1) := by decide +kernel
theorem dX12_leaves_133 : decode cX12_leaves 133 = .ok (.dup, 1) := by decide +kernel
theorem dX12_leaves_134 : decode cX12_leaves 134 = .ok (.getfield 713, 3) := by decide +kernel
theorem dX12_leaves_137 : decode cX12_leaves 137 = .ok (.iconst 1, 1) := by decide +kernel
theorem dX12_leaves_138 : decode cX12_leaves 138 = .ok (.isub, 1) := by decide +kernel
theorem dX12_leaves_139 : decode cX12_leaves 139 = .ok (.putfield 713, 3) := by decide +kernel
theorem dX12_leaves_142 : decode cX12_leaves 142 = .ok (.iload 7, 2) := by decide +kernel
theorem dX12_leaves_144 : decode cX12_leaves 144 = .ok (.istore 5, 2) := by decide +kernel
theorem dX12_leaves_146 : decode cX12_leaves 146 = .ok (.goto 211, 3) := by decide +kernel
theorem dX12_leaves_311 : decode cX12_leaves 311 = .ok (.aload_n 0, 1) := by decide +kernel
theorem dX12_leaves_312 : decode cX12_leaves 312 = .ok (.getfield 38, 3) := by decide +kernel
theorem dX12_leaves_315 : decode cX12_leaves 315 = .ok (.iload 7, 2) := by decide +kernel
theorem dX12_leaves_317 : decode cX12_leaves 317 = .ok (.iaload, 1) := by decide +kernel
theorem dX12_leaves_318 : decode cX12_leaves 318 = .ok (.bipush 35, 2) := by decide +kernel
theorem dX12_leaves_320 : decode cX12_leaves 320 = .ok (.if_icmp .eq 15, 3) := by decide +kernel
theorem dX12_leaves_335 : decode cX12_leaves 335 = .ok (.iload_n 2, 1) := by decide +kernel
theorem dX12_leaves_336 : decode cX12_leaves 336 = .ok (.iconst 3, 1) := by decide +kernel
theorem dX12_leaves_337 : decode cX12_leaves 337 = .ok (.if_icmp .lt 16, 3) := by decide +kernel
theorem dX12_leaves_353 : decode cX12_leaves 353 = .ok (.iload 7, 2) := by decide +kernel
theorem dX12_leaves_355 : decode cX12_leaves 355 = .ok (.istore 5, 2) := by decide +kernel
theorem dX12_leaves_323 : decode cX12_leaves 323 = .ok (.aload_n 0, 1) := by decide +kernel
theorem dX12_leaves_324 : decode cX12_leaves 324 = .ok (.getfield 38, 3) := by decide +kernel
theorem dX12_leaves_327 : decode cX12_leaves 327 = .ok (.iload 7, 2) := by decide +kernel
theorem dX12_leaves_329 : decode cX12_leaves 329 = .ok (.iaload, 1) := by decide +kernel
theorem dX12_leaves_330 : decode cX12_leaves 330 = .ok (.bipush 36, 2) := by decide +kernel
theorem dX12_leaves_332 : decode cX12_leaves 332 = .ok (.if_icmp .ne 21, 3) := by decide +kernel
theorem hV_X12_waitsFor : yX12_waitsFor.cls = RX12 ∧ yX12_waitsFor.cls ≠ "java/lang/invoke/MethodHandle" ∧ yX12_waitsFor.cls ≠ "java/lang/invoke/VarHandle" ∧ (parseMethodDescriptor yX12_waitsFor.desc).map (fun d => d.parameters.length) = some 4 := by decide +kernel
theorem hV_X12_catcher : yX12_catcher.cls = RX12 ∧ yX12_catcher.cls ≠ "java/lang/invoke/MethodHandle" ∧ yX12_catcher.cls ≠ "java/lang/invoke/VarHandle" ∧ (parseMethodDescriptor yX12_catcher.desc).map (fun d => d.parameters.length) = some 2 := by decide +kernel
theorem hV_X12_at32 : yX12_at32.cls = RX12 ∧ yX12_at32.cls ≠ "java/lang/invoke/MethodHandle" ∧ yX12_at32.cls ≠ "java/lang/invoke/VarHandle" ∧ (parseMethodDescriptor yX12_at32.desc).map (fun d => d.parameters.length) = some 1 := by decide +kernel
set_option maxHeartbeats 16000000 in
set_option maxRecDepth 100000 in
/-- leaves, kind 1 -/
theorem R_leaves1 (l : Launch) (G : pT) (h0 : Nat) (a : Nat → Nat) (F : Nat → Int32) (B : Nat → Nat → Int32) (Xs : Nat → Nat → Int32) (gh : Nat → Nat → Nat) (nd : Nat) (T : Nat) (nm : Nat) (wr : Nat) (lz : Nat) (dc : Nat) (fd : Nat) (md : Nat) (pr : Nat) (bk : Nat) (M : MTb) (rmm : Nat) (mu : Nat) (op : Nat) (wn : Nat) (fu : Nat) (rd : Nat) (on : Nat) (idn : Nat) (fl : Nat) (ct : Nat) (c9 : Nat) (xn : Nat) (kc : Nat) (mt : Nat → Nat) (ps : Nat → Nat) (yy : Nat → Ps) (bf : Nat → Nat) (wf : Nat → Nat) (tx : Int32) (nw : Int32) (isn : Int32) (rs0 : Int32) (uc0 : Int32) (hL : Ln Xs B gh nd T nm wr lz dc fd md pr bk M rmm mu op wn fu rd on idn fl ct c9 mt ps yy bf wf) (hfu : fu ≤ 20000) (hx1 : 1 ≤ xn) (hx2 : (xn ≤ 3000 ∧ Lvd (B 73) on (xn - 1)) ∨ (4001 ≤ xn ∧ xn ≤ 4006)) (hx3 : clF (B 55) xn = nI kc) (hx4 : kc < dc) : PM l G pX0 yX12_leaves cX12_leaves 9 none ({ frames := 4, cells := 0, slots := 0, locals := 106 }) [.ref h0, .int (nI c9), .int 1, .int (nI xn), .int 1] (mW G h0 a (upd (upd (upd (upd (upd (upd (upd (upd (upd F 102 (nI op)) 111 tx) 115 (nI wn)) 116 (-1)) 117 (nI fu)) 118 rs0) 119 uc0) 125 nw) 126 isn) B) (fun (v : Option Value) (u : Nat × Nat × Nat × Nat × Int32 × Int32 × Int32 × Int32 × Int32 × (Nat → Nat → Int32)) => v = none ∧ (Nx Xs u.2.2.2.2.2.2.2.2.2 gh nd T nm wr lz dc fd md pr bk M rmm fu mu u.1 u.2.1 u.2.2.1 u.2.2.2.1 rd on idn fl ct u.2.2.2.2.1 u.2.2.2.2.2.1 u.2.2.2.2.2.2.1 u.2.2.2.2.2.2.2.2.1)) (fun u => (mW G h0 a (upd (upd (upd (upd (upd (upd (upd (upd (upd F 102 (nI u.1)) 111 (nI u.2.1)) 115 (nI u.2.2.1)) 116 u.2.2.2.2.1) 117 (nI u.2.2.2.1)) 118 u.2.2.2.2.2.2.2.1) 119 u.2.2.2.2.2.2.2.2.1) 125 u.2.2.2.2.2.1) 126 u.2.2.2.2.2.2.1) u.2.2.2.2.2.2.2.2.2)) := by
  intro sz
  refine Met.ofW (cc := cX12_leaves) (maxL := 9) (ret := none) (by decide) rfl ?_
  intro p e s m args below meth c s₁ B9 hml hv
  obtain ⟨rfl, hsz, hP, hD0, hE, hX⟩ := hv
  have hx := B9.exec
  have hb := B9.bytes
  have hr := B9.returns
  have hts := atoms_spec (ws := Cond.code yX12_leaves cX12_leaves 9 none :: pw) B9.pre
  have hq : ∀ w ∈ pw, w.before _ s = true := fun w h => hts w (List.mem_cons_of_mem _ h)
  have hown : s.vm.findClass RX12 = some m.cls := findClass_of_methodNamed B9.named
  have hlocks := B9.notSynchronized
  subst hsz
  have hD := hD0.self (sz := s.heap.size)
  have hA : ∀ q : Nat, s.heap.size ≤ q → va_A (mW G h0 a (upd (upd (upd (upd (upd (upd (upd (upd (upd F 102 (nI op)) 111 tx) 115 (nI wn)) 116 (-1)) 117 (nI fu)) 118 rs0) 119 uc0) 125 nw) 126 isn) B) s.heap.size q := fun q h => Or.inr h
  have hP : va_P G.1 pCl (mW G h0 a (upd (upd (upd (upd (upd (upd (upd (upd (upd F 102 (nI op)) 111 tx) 115 (nI wn)) 116 (-1)) 117 (nI fu)) 118 rs0) 119 uc0) 125 nw) 126 isn) B) s.heap := hP
  generalize va_A (mW G h0 a (upd (upd (upd (upd (upd (upd (upd (upd (upd F 102 (nI op)) 111 tx) 115 (nI wn)) 116 (-1)) 117 (nI fu)) 118 rs0) 119 uc0) 125 nw) 126 isn) B) s.heap.size = A at hD hE hA ⊢
  have hS : va_S A s.heap s.heap [] := va_S.rf
  have hl := lv_entry ([.ref h0, .int (nI c9), .int 1, .int (nI xn), .int 1]) (n := 9) (Nat.le_of_ble_eq_true rfl)
  rw [lg_entry_eq]
  generalize (lg_sl ([.ref h0, .int (nI c9), .int 1, .int (nI xn), .int 1]) ++ List.replicate (9 - (lg_sl ([.ref h0, .int (nI c9), .int 1, .int (nI xn), .int 1])).length) Slot.unset).toArray = ls at hl ⊢
  have hl : lv_has ls 9 [(0, .ref h0), (1, .int (nI c9)), (2, .int 1), (3, .int (nI xn)), (4, .int 1)] := hl
  have hPg := hL.1
  have hbd := hPg.bd
  have hrm := hL.room
  have hw9 : B 9 = Xs 9 := hPg.row 9 (by omega) (by omega) (by omega) (by omega) (by omega)
  have hw12 : B 12 = Xs 12 := hPg.row 12 (by omega) (by omega) (by omega) (by omega) (by omega)
  have hw13 : B 13 = Xs 13 := hPg.row 13 (by omega) (by omega) (by omega) (by omega) (by omega)
  have hw16 : B 16 = Xs 16 := hPg.row 16 (by omega) (by omega) (by omega) (by omega) (by omega)
  have hw31 : B 31 = Xs 31 := hPg.row 31 (by omega) (by omega) (by omega) (by omega) (by omega)
  refine lv_iload_n hx hb dX12_leaves_0 rfl (lv_at hl 1 rfl) ?_
  refine lv_istore (lv' := [(5, .int (nI c9)), (0, .ref h0), (1, .int (nI c9)), (2, .int 1), (3, .int (nI xn)), (4, .int 1)]) hx hb dX12_leaves_1 hl (by decide) rfl (fun ls hl => ?_)
  refine lv_iconst (v := 1) hx hb dX12_leaves_3 (by decide) ?_
  refine lv_istore (lv' := [(6, .int 1), (5, .int (nI c9)), (0, .ref h0), (1, .int (nI c9)), (2, .int 1), (3, .int (nI xn)), (4, .int 1)]) hx hb dX12_leaves_4 hl (by decide) rfl (fun ls hl => ?_)
  have loop_o : ∀ (n_o : Nat) (zq : Nat) (op2 : Nat) (wn2 : Nat) (c2 : Nat) (yy2 : Nat → Ps) (tx2 : Int32) (H : Heap) (locs : List Loc) (ls : Array Slot), zq ≤ 40400 → 40400 + 1 ≤ zq + n_o → (Ln Xs B gh nd T nm wr lz dc fd md pr bk M rmm mu op2 wn2 fu rd on idn fl ct c2 mt ps yy2 bf wf) → (zq = 400 * (100 - op2) + gh 1 c2 ∧ gh 1 c2 ≤ 361 ∧ 1 ≤ op2 ∧ op2 ≤ 100 ∧ c2 < nd ∧ wn2 ≤ 20 * op2) → va_P G.1 pCl (mW G h0 a (upd (upd (upd (upd (upd (upd (upd (upd (upd F 102 (nI op2)) 111 tx2) 115 (nI wn2)) 116 (-1)) 117 (nI fu)) 118 rs0) 119 uc0) 125 nw) 126 isn) B) H → va_D A (mW G h0 a (upd (upd (upd (upd (upd (upd (upd (upd (upd F 102 (nI op2)) 111 tx2) 115 (nI wn2)) 116 (-1)) 117 (nI fu)) 118 rs0) 119 uc0) 125 nw) 126 isn) B) → va_S A s.heap H locs → lv_has ls 9 [(6, .int 1), (5, .int (nI c2)), (4, .int 1), (3, .int (nI xn)), (2, .int 1), (1, .int (nI c9)), (0, .ref h0)] → W p l e (headSpec (Cond.code yX12_leaves cX12_leaves 9 none :: pw) ({ frames := 4, cells := 0, slots := 0, locals := 106 } : Room)).room s m ([.ref h0, .int (nI c9), .int 1, .int (nI xn), .int 1] : List Value).toArray below meth c H locs 0 0 (MQ below (pQ G A (fun (v : Option Value) (u : Nat × Nat × Nat × Nat × Int32 × Int32 × Int32 × Int32 × Int32 × (Nat → Nat → Int32)) => v = none ∧ (Nx Xs u.2.2.2.2.2.2.2.2.2 gh nd T nm wr lz dc fd md pr bk M rmm fu mu u.1 u.2.1 u.2.2.1 u.2.2.2.1 rd on idn fl ct u.2.2.2.2.1 u.2.2.2.2.2.1 u.2.2.2.2.2.2.1 u.2.2.2.2.2.2.2.2.1)) (fun u => (mW G h0 a (upd (upd (upd (upd (upd (upd (upd (upd (upd F 102 (nI u.1)) 111 (nI u.2.1)) 115 (nI u.2.2.1)) 116 u.2.2.2.2.1) 117 (nI u.2.2.2.1)) 118 u.2.2.2.2.2.2.2.1) 119 u.2.2.2.2.2.2.2.2.1) 125 u.2.2.2.2.2.1) 126 u.2.2.2.2.2.2.1) u.2.2.2.2.2.2.2.2.2))) ([.ref h0, .int (nI c9), .int 1, .int (nI xn), .int 1] : List Value).toArray s ({ frames := 4, cells := 0, slots := 0, locals := 106 } : Room).cells ({ frames := 4, cells := 0, slots := 0, locals := 106 } : Room).slots A) (F0 m 6 ls []) := by
    intro n_o
    induction n_o with
    | zero => intro zq op2 wn2 c2 yy2 tx2 H locs ls hk_o hn_o; omega
    | succ n_o ih_o =>
      intro zq op2 wn2 c2 yy2 tx2 H locs ls hk_o hn_o hL2 hz2 hP hD hS hl
      refine lv_iload hx hb dX12_leaves_6 (lv_at hl 0 rfl) ?_
      refine lv_if_eq (tgt := 360) hx hb dX12_leaves_8 (by decide) (fun c1 => absurd c1 (by decide)) (fun c1 => ?_)
      have hrm2 := hL2.room
      refine lv_aload_n hx hb dX12_leaves_11 rfl (lv_at hl 6 rfl) ?_
      refine lv_aload_n hx hb dX12_leaves_12 rfl (lv_at hl 6 rfl) ?_
      refine r_get (v := .ref (a 64)) hx hb hown hq hE hP 105 205 tFX12_105 (by decide) pw_1496 rfl dX12_leaves_13 ?_
      refine lv_aload_n hx hb dX12_leaves_16 rfl (lv_at hl 6 rfl) ?_
      refine r_get (v := .int (nI op2)) hx hb hown hq hE hP 102 707 tFX12_102 (by decide) pw_1969 rfl dX12_leaves_17 ?_
      refine lv_iconst (v := 1) hx hb dX12_leaves_20 (by decide) ?_
      refine lv_isub hx hb dX12_leaves_21 ?_
      refine lv_topi (fun x2 e3 => ?_)
      obtain rfl : x2 = nI (op2 - 1) := e3.trans (nI_subN (a := 1) (b := op2) (by omega))
      refine r_ldi (f := (B 64)) (j := (op2 - 1)) hx hb hE hP 64 (ma_64 G a _) rfl (by omega) (by decide) dX12_leaves_22 ?_
      refine lv_topi (fun x4 e5 => ?_)
      obtain rfl : x4 = nI (bf (op2 - 1)) := e5.trans hrm2.2.2.2.2.2.2.1
      refine r_put (v := (nI (bf (op2 - 1)))) (ty := .int) hx hb hown hq hE hP hD hS 111 698 tFX12_111 (by decide) pw_1964 (by decide) rfl rfl (ms_111 a _ _) dX12_leaves_23 (fun H locs hP hD hS => ?_)
      refine lv_aload_n hx hb dX12_leaves_26 rfl (lv_at hl 6 rfl) ?_
      refine r_get (v := .ref (a 52)) hx hb hown hq hE hP 88 168 tFX12_88 (by decide) pw_1483 rfl dX12_leaves_27 ?_
      refine lv_iload hx hb dX12_leaves_30 (lv_at hl 1 rfl) ?_
      refine r_ldi (f := (B 52)) (j := c2) hx hb hE hP 52 (ma_52 G a _) rfl (by omega) (by decide) dX12_leaves_32 ?_
      rcases hL2.up with ⟨hu1, hu2, hu3⟩ | ⟨p2, u2, hp1, hp2, hp3, hp4, hp5⟩
      · refine lv_topi (fun x6 e7 => ?_)
        obtain rfl : x6 = (-1) := e7.trans hu1
        refine lv_istore (lv' := [(7, .int (-1)), (6, .int 1), (5, .int (nI c2)), (4, .int 1), (3, .int (nI xn)), (2, .int 1), (1, .int (nI c9)), (0, .ref h0)]) hx hb dX12_leaves_33 hl (by decide) rfl (fun ls hl => ?_)
        refine lv_iload hx hb dX12_leaves_35 (lv_at hl 0 rfl) ?_
        refine lv_iconst (v := (-1)) hx hb dX12_leaves_37 (by decide) ?_
        refine lv_icmp_ne (tgt := 59) hx hb dX12_leaves_38 (by decide) (fun c8 => absurd c8 (by decide)) (fun c8 => ?_)
        refine lv_iload_n hx hb dX12_leaves_41 rfl (lv_at hl 5 rfl) ?_
        refine lv_iconst (v := 2) hx hb dX12_leaves_42 (by decide) ?_
        refine lv_icmp_ne (tgt := 59) hx hb dX12_leaves_43 (by decide) (fun c10 => ?_) (fun c10 => absurd c10 (by decide))
        refine lv_iload hx hb dX12_leaves_59 (lv_at hl 0 rfl) ?_
        refine lv_iconst (v := (-1)) hx hb dX12_leaves_61 (by decide) ?_
        refine lv_icmp_ne (tgt := 108) hx hb dX12_leaves_62 (by decide) (fun c11 => absurd c11 (by decide)) (fun c11 => ?_)
        refine lv_aload_n hx hb dX12_leaves_65 rfl (lv_at hl 7 rfl) ?_
        refine lv_dup hx hb dX12_leaves_66 rfl ?_
        refine r_get (v := .int (nI op2)) hx hb hown hq hE hP 102 707 tFX12_102 (by decide) pw_1969 rfl dX12_leaves_67 ?_
        refine lv_iconst (v := 1) hx hb dX12_leaves_70 (by decide) ?_
        refine lv_isub hx hb dX12_leaves_71 ?_
        refine lv_topi (fun x12 e13 => ?_)
        obtain rfl : x12 = nI (op2 - 1) := e13.trans (nI_subN (a := 1) (b := op2) (by omega))
        refine r_put (v := (nI (op2 - 1))) (ty := .int) hx hb hown hq hE hP hD hS 102 707 tFX12_102 (by decide) pw_1969 (by decide) rfl rfl (ms_102 a _ _) dX12_leaves_72 (fun H locs hP hD hS => ?_)
        refine lv_aload_n hx hb dX12_leaves_75 rfl (lv_at hl 7 rfl) ?_
        refine r_get (v := .ref (a 65)) hx hb hown hq hE hP 106 208 tFX12_106 (by decide) pw_1497 rfl dX12_leaves_76 ?_
        refine lv_aload_n hx hb dX12_leaves_79 rfl (lv_at hl 7 rfl) ?_
        refine r_get (v := .int (nI (op2 - 1))) hx hb hown hq hE hP 102 707 tFX12_102 (by decide) pw_1969 rfl dX12_leaves_80 ?_
        refine r_ldi (f := (B 65)) (j := (op2 - 1)) hx hb hE hP 65 (ma_65 G a _) rfl (by omega) (by decide) dX12_leaves_83 ?_
        rcases hL2.pop hu3 with ⟨ho1, hn1⟩ | ⟨ho2, hn2, hn3, hn4, hn5⟩
        · refine lv_topi (fun x14 e15 => ?_)
          obtain rfl : x14 = (-1) := e15.trans hn1
          refine lv_istore (lv' := [(5, .int (-1)), (7, .int (-1)), (6, .int 1), (4, .int 1), (3, .int (nI xn)), (2, .int 1), (1, .int (nI c9)), (0, .ref h0)]) hx hb dX12_leaves_84 hl (by decide) rfl (fun ls hl => ?_)
          refine lv_iload hx hb dX12_leaves_86 (lv_at hl 0 rfl) ?_
          refine lv_iconst (v := (-1)) hx hb dX12_leaves_88 (by decide) ?_
          refine lv_icmp_ne (tgt := 357) hx hb dX12_leaves_89 (by decide) (fun c16 => absurd c16 (by decide)) (fun c16 => ?_)
          refine lv_aload_n hx hb dX12_leaves_92 rfl (lv_at hl 7 rfl) ?_
          refine lv_iconst (v := 1) hx hb dX12_leaves_93 (by decide) ?_
          refine r_put (v := 1) (ty := .int) hx hb hown hq hE hP hD hS 116 233 tFX12_116 (by decide) pw_1506 (by decide) rfl rfl (ms_116 a _ _) dX12_leaves_94 (fun H locs hP hD hS => ?_)
          refine lv_aload_n hx hb dX12_leaves_97 rfl (lv_at hl 7 rfl) ?_
          refine lv_iload_n hx hb dX12_leaves_98 rfl (lv_at hl 4 rfl) ?_
          refine r_put (v := (nI xn)) (ty := .int) hx hb hown hq hE hP hD hS 119 766 tFX12_119 (by decide) pw_2033 (by decide) rfl rfl (ms_119 a _ _) dX12_leaves_99 (fun H locs hP hD hS => ?_)
          refine lv_iconst (v := 0) hx hb dX12_leaves_102 (by decide) ?_
          refine lv_istore (lv' := [(6, .int 0), (5, .int (-1)), (7, .int (-1)), (4, .int 1), (3, .int (nI xn)), (2, .int 1), (1, .int (nI c9)), (0, .ref h0)]) hx hb dX12_leaves_103 hl (by decide) rfl (fun ls hl => ?_)
          refine lv_goto (tgt := 357) hx hb dX12_leaves_105 (by decide) ?_
          refine lv_goto (tgt := 6) hx hb dX12_leaves_357 (by decide) ?_
          refine lv_iload hx hb dX12_leaves_6 (lv_at hl 0 rfl) ?_
          refine lv_if_eq (tgt := 360) hx hb dX12_leaves_8 (by decide) (fun c17 => ?_) (fun c17 => absurd c17 (by decide))
          have hz18 : Nx Xs B gh nd T nm wr lz dc fd md pr bk M rmm fu mu (op2 - 1) (bf (op2 - 1)) wn2 fu rd on idn fl ct (1 : Int32) nw isn (nI xn) := (hL2.stop Sta.rfl hL2.2.1 (by decide) (fun _ => ⟨xn, kc, rfl, hx1, hx2, hx3, hx4⟩))
          have hP : va_P G.1 pCl (mW G h0 a (upd (upd (upd (upd (upd (upd (upd (upd (upd F 102 (nI (op2 - 1))) 111 (nI (bf (op2 - 1)))) 115 (nI wn2)) 116 (1 : Int32)) 117 (nI fu)) 118 rs0) 119 (nI xn)) 125 nw) 126 isn) B) _ := mW_to (F := F) (l1 := [(102, (nI op2)), (111, tx2), (115, (nI wn2)), (116, (-1)), (117, (nI fu)), (118, rs0), (119, uc0), (125, nw), (126, isn), (111, (nI (bf (op2 - 1)))), (102, (nI (op2 - 1))), (116, 1), (119, (nI xn))]) (l2 := [(102, (nI (op2 - 1))), (111, (nI (bf (op2 - 1)))), (115, (nI wn2)), (116, (1 : Int32)), (117, (nI fu)), (118, rs0), (119, (nI xn)), (125, nw), (126, isn)]) (V := [(nI (op2 - 1)), (nI (bf (op2 - 1))), (nI wn2), (1 : Int32), (nI fu), rs0, (nI xn), nw, isn, (nI (bf (op2 - 1))), (nI (op2 - 1)), (1 : Int32), (nI xn), (nI (op2 - 1)), (nI (bf (op2 - 1))), (nI wn2), (1 : Int32), (nI fu), rs0, (nI xn), nw, isn]) rfl rfl rfl hP
          have hD : va_D A (mW G h0 a (upd (upd (upd (upd (upd (upd (upd (upd (upd F 102 (nI (op2 - 1))) 111 (nI (bf (op2 - 1)))) 115 (nI wn2)) 116 (1 : Int32)) 117 (nI fu)) 118 rs0) 119 (nI xn)) 125 nw) 126 isn) B) := mW_D hD
          exact W.vret hx hb hr (fun t9 ht9 hW9 => ⟨⟨_, ((op2 - 1), (bf (op2 - 1)), wn2, fu, (1 : Int32), nw, isn, rs0, (nI xn), B), rfl, ⟨rfl, hz18⟩, by rw [ht9]; exact hP, hD⟩, hS.F ht9⟩) hS.2.2 dX12_leaves_360
        · refine lv_topi (fun x19 e20 => ?_)
          obtain rfl : x19 = nI (ps (op2 - 2)) := e20.trans hn2
          refine lv_istore (lv' := [(5, .int (nI (ps (op2 - 2)))), (7, .int (-1)), (6, .int 1), (4, .int 1), (3, .int (nI xn)), (2, .int 1), (1, .int (nI c9)), (0, .ref h0)]) hx hb dX12_leaves_84 hl (by decide) rfl (fun ls hl => ?_)
          refine lv_iload hx hb dX12_leaves_86 (lv_at hl 0 rfl) ?_
          refine lv_iconst (v := (-1)) hx hb dX12_leaves_88 (by decide) ?_
          refine lv_icmp_ne (tgt := 357) hx hb dX12_leaves_89 (by decide) (fun c21 => ?_) (fun c21 => absurd c21 (nI_m1 (by omega)))
          refine lv_goto (tgt := 6) hx hb dX12_leaves_357 (by decide) ?_
          have hr22 := hn4.room
          have hP : va_P G.1 pCl (mW G h0 a (upd (upd (upd (upd (upd (upd (upd (upd (upd F 102 (nI (op2 - 1))) 111 (nI (bf (op2 - 1)))) 115 (nI wn2)) 116 (-1)) 117 (nI fu)) 118 rs0) 119 uc0) 125 nw) 126 isn) B) _ := mW_to (F := F) (l1 := [(102, (nI op2)), (111, tx2), (115, (nI wn2)), (116, (-1)), (117, (nI fu)), (118, rs0), (119, uc0), (125, nw), (126, isn), (111, (nI (bf (op2 - 1)))), (102, (nI (op2 - 1)))]) (l2 := [(102, (nI (op2 - 1))), (111, (nI (bf (op2 - 1)))), (115, (nI wn2)), (116, (-1)), (117, (nI fu)), (118, rs0), (119, uc0), (125, nw), (126, isn)]) (V := [(nI (op2 - 1)), (nI (bf (op2 - 1))), (nI wn2), (-1), (nI fu), rs0, uc0, nw, isn, (nI (bf (op2 - 1))), (nI (op2 - 1)), (nI (op2 - 1)), (nI (bf (op2 - 1))), (nI wn2), (-1), (nI fu), rs0, uc0, nw, isn]) rfl rfl rfl hP
          have hD : va_D A (mW G h0 a (upd (upd (upd (upd (upd (upd (upd (upd (upd F 102 (nI (op2 - 1))) 111 (nI (bf (op2 - 1)))) 115 (nI wn2)) 116 (-1)) 117 (nI fu)) 118 rs0) 119 uc0) 125 nw) 126 isn) B) := mW_D hD
          exact ih_o (400 * (100 - (op2 - 1)) + gh 1 (ps (op2 - 2))) (op2 - 1) wn2 (ps (op2 - 2)) yy2 (nI (bf (op2 - 1))) _ _ _ (by omega) (by omega) hn4 ⟨rfl, hr22.2.2.2.2.2.2.2.1, hr22.1, hr22.2.1, hr22.2.2.1, hr22.2.2.2.2.1⟩ hP hD hS (lv_sub hl [2, 0, 3, 4, 5, 6, 7] rfl)
      · refine lv_topi (fun x23 e24 => ?_)
        obtain rfl : x23 = nI p2 := e24.trans hp2
        obtain ⟨kp, ekp, -, kp4, -⟩ := hPg.fs.knd hp1
        rcases (show kp = 41 ∨ kp = 35 ∨ kp = 36 ∨ (kp ≠ 41 ∧ kp ≠ 35 ∧ kp ≠ 36) by omega) with rfl | rfl | rfl | hk3
        · refine lv_istore (lv' := [(7, .int (nI p2)), (6, .int 1), (5, .int (nI c2)), (4, .int 1), (3, .int (nI xn)), (2, .int 1), (1, .int (nI c9)), (0, .ref h0)]) hx hb dX12_leaves_33 hl (by decide) rfl (fun ls hl => ?_)
          refine lv_iload hx hb dX12_leaves_35 (lv_at hl 0 rfl) ?_
          refine lv_iconst (v := (-1)) hx hb dX12_leaves_37 (by decide) ?_
          refine lv_icmp_ne (tgt := 59) hx hb dX12_leaves_38 (by decide) (fun c25 => ?_) (fun c25 => absurd c25 (nI_m1 (by omega)))
          refine lv_iload hx hb dX12_leaves_59 (lv_at hl 0 rfl) ?_
          refine lv_iconst (v := (-1)) hx hb dX12_leaves_61 (by decide) ?_
          refine lv_icmp_ne (tgt := 108) hx hb dX12_leaves_62 (by decide) (fun c26 => ?_) (fun c26 => absurd c26 (nI_m1 (by omega)))
          refine lv_aload_n hx hb dX12_leaves_108 rfl (lv_at hl 7 rfl) ?_
          refine r_get (v := .ref (a 9)) hx hb hown hq hE hP 17 38 tFX12_17 (by decide) pw_1439 rfl dX12_leaves_109 ?_
          refine lv_iload hx hb dX12_leaves_112 (lv_at hl 0 rfl) ?_
          refine r_ldi (f := (B 9)) (j := p2) hx hb hE hP 9 (ma_9 G a _) rfl (by omega) (by decide) dX12_leaves_114 ?_
          refine lv_topi (fun x27 e28 => ?_)
          obtain rfl : x27 = 41 := e28.trans ((congrFun hw9 _).trans ekp)
          refine lv_bipush (v := 41) hx hb dX12_leaves_115 (by decide) ?_
          refine lv_icmp_ne (tgt := 149) hx hb dX12_leaves_117 (by decide) (fun c29 => absurd c29 (by decide)) (fun c29 => ?_)
          refine lv_iload hx hb dX12_leaves_120 (lv_at hl 2 rfl) ?_
          refine lv_aload_n hx hb dX12_leaves_122 rfl (lv_at hl 7 rfl) ?_
          refine r_get (v := .ref (a 14)) hx hb hown hq hE hP 22 53 tFX12_22 (by decide) pw_1444 rfl dX12_leaves_123 ?_
          refine lv_iload hx hb dX12_leaves_126 (lv_at hl 0 rfl) ?_
          refine r_ldi (f := (B 14)) (j := p2) hx hb hE hP 14 (ma_14 G a _) rfl (by omega) (by decide) dX12_leaves_128 ?_
          refine lv_icmp_ne (tgt := 149) hx hb dX12_leaves_129 (by decide) (fun c30 => ?_) (fun c30 => ?_)
          · refine lv_aload_n hx hb dX12_leaves_149 rfl (lv_at hl 7 rfl) ?_
            refine r_get (v := .ref (a 9)) hx hb hown hq hE hP 17 38 tFX12_17 (by decide) pw_1439 rfl dX12_leaves_150 ?_
            refine lv_iload hx hb dX12_leaves_153 (lv_at hl 0 rfl) ?_
            refine r_ldi (f := (B 9)) (j := p2) hx hb hE hP 9 (ma_9 G a _) rfl (by omega) (by decide) dX12_leaves_155 ?_
            refine lv_topi (fun x31 e32 => ?_)
            obtain rfl : x31 = 41 := e32.trans ((congrFun hw9 _).trans ekp)
            refine lv_bipush (v := 41) hx hb dX12_leaves_156 (by decide) ?_
            refine lv_icmp_ne (tgt := 311) hx hb dX12_leaves_158 (by decide) (fun c33 => absurd c33 (by decide)) (fun c33 => ?_)
            refine lv_iload_n hx hb dX12_leaves_161 rfl (lv_at hl 5 rfl) ?_
            refine lv_iconst (v := 1) hx hb dX12_leaves_162 (by decide) ?_
            refine lv_icmp_ne (tgt := 188) hx hb dX12_leaves_163 (by decide) (fun c34 => absurd c34 (by decide)) (fun c34 => ?_)
            refine lv_iload hx hb dX12_leaves_166 (lv_at hl 2 rfl) ?_
            refine lv_aload_n hx hb dX12_leaves_168 rfl (lv_at hl 7 rfl) ?_
            refine r_get (v := .ref (a 12)) hx hb hown hq hE hP 20 47 tFX12_20 (by decide) pw_1442 rfl dX12_leaves_169 ?_
            refine lv_iload hx hb dX12_leaves_172 (lv_at hl 0 rfl) ?_
            refine r_ldi (f := (B 12)) (j := p2) hx hb hE hP 12 (ma_12 G a _) rfl (by omega) (by decide) dX12_leaves_174 ?_
            refine lv_icmp_ne (tgt := 188) hx hb dX12_leaves_175 (by decide) (fun c35 => ?_) (fun c35 => ?_)
            · refine lv_iconst (v := (-1)) hx hb dX12_leaves_188 (by decide) ?_
              refine lv_istore (lv' := [(8, .int (-1)), (7, .int (nI p2)), (6, .int 1), (5, .int (nI c2)), (4, .int 1), (3, .int (nI xn)), (2, .int 1), (1, .int (nI c9)), (0, .ref h0)]) hx hb dX12_leaves_189 hl (by decide) rfl (fun ls hl => ?_)
              refine lv_iload hx hb dX12_leaves_191 (lv_at hl 0 rfl) ?_
              refine lv_iconst (v := (-1)) hx hb dX12_leaves_193 (by decide) ?_
              refine lv_icmp_ne (tgt := 212) hx hb dX12_leaves_194 (by decide) (fun c36 => absurd c36 (by decide)) (fun c36 => ?_)
              refine lv_aload_n hx hb dX12_leaves_197 rfl (lv_at hl 8 rfl) ?_
              refine r_get (v := .ref (a 14)) hx hb hown hq hE hP 22 53 tFX12_22 (by decide) pw_1444 rfl dX12_leaves_198 ?_
              refine lv_iload hx hb dX12_leaves_201 (lv_at hl 1 rfl) ?_
              refine r_ldi (f := (B 14)) (j := p2) hx hb hE hP 14 (ma_14 G a _) rfl (by omega) (by decide) dX12_leaves_203 ?_
              refine lv_iconst (v := (-1)) hx hb dX12_leaves_204 (by decide) ?_
              refine lv_icmp_ne (tgt := 212) hx hb dX12_leaves_205 (by decide) (fun c37 => ?_) (fun c37 => ?_)
              · refine lv_iconst (v := 0) hx hb dX12_leaves_212 (by decide) ?_
                refine lv_istore (lv' := [(6, .int 0), (8, .int (-1)), (7, .int (nI p2)), (5, .int (nI c2)), (4, .int 1), (3, .int (nI xn)), (2, .int 1), (1, .int (nI c9)), (0, .ref h0)]) hx hb dX12_leaves_213 hl (by decide) rfl (fun ls hl => ?_)
                refine lv_iload hx hb dX12_leaves_215 (lv_at hl 2 rfl) ?_
                refine lv_istore (lv' := [(5, .int (nI p2)), (6, .int 0), (8, .int (-1)), (7, .int (nI p2)), (4, .int 1), (3, .int (nI xn)), (2, .int 1), (1, .int (nI c9)), (0, .ref h0)]) hx hb dX12_leaves_217 hl (by decide) rfl (fun ls hl => ?_)
                refine lv_iload hx hb dX12_leaves_219 (lv_at hl 2 rfl) ?_
                refine lv_iconst (v := (-1)) hx hb dX12_leaves_221 (by decide) ?_
                refine lv_icmp_eq (tgt := 293) hx hb dX12_leaves_222 (by decide) (fun c38 => ?_) (fun c38 => absurd c38 (by decide))
                refine lv_iload hx hb dX12_leaves_293 (lv_at hl 1 rfl) ?_
                refine lv_if_ne (tgt := 308) hx hb dX12_leaves_295 (by decide) (fun c39 => absurd c39 (by decide)) (fun c39 => ?_)
                refine lv_aload_n hx hb dX12_leaves_298 rfl (lv_at hl 8 rfl) ?_
                refine lv_iload hx hb dX12_leaves_299 (lv_at hl 3 rfl) ?_
                refine lv_iload_n hx hb dX12_leaves_301 rfl (lv_at hl 6 rfl) ?_
                refine lv_iload_n hx hb dX12_leaves_302 rfl (lv_at hl 5 rfl) ?_
                refine lv_iload hx hb dX12_leaves_303 (lv_at hl 4 rfl) ?_
                obtain ⟨vc, jc, hg1, hg2, hg4, hg5, hg6⟩ := hL2.last (x := (nI xn)) (b := 1) (kd := 1) (uc := uc0) hp4 hp3 ekp (by rw [← hPg.r14 p2 hp1 (by rw [ekp]; decide)]; exact fun h => c30 h.symm) c37 ⟨by omega, Or.inr (Or.inl ⟨rfl, ⟨xn, kc, rfl, hx1, hx2, hx3, hx4⟩, rfl⟩), fun _ => ⟨xn, rfl, Or.inr (hx2.imp (fun z => ⟨hx1, z.1, z.2⟩) id)⟩⟩
                have hP : va_P G.1 pCl (mW G h0 a (upd (upd (upd (upd (upd (upd (upd (upd (upd (upd (upd F 102 (nI op2)) 111 (nI (bf (op2 - 1)))) 115 (nI wn2)) 116 (-1)) 117 (nI fu)) 118 rs0) 119 uc0) 125 nw) 126 isn) 102 (nI op2)) 115 (nI wn2)) (updA (updA (updA (updA B 63 (B 63)) 70 (B 70)) 71 (B 71)) 72 (B 72))) _ := hP
                have hD : va_D A (mW G h0 a (upd (upd (upd (upd (upd (upd (upd (upd (upd (upd (upd F 102 (nI op2)) 111 (nI (bf (op2 - 1)))) 115 (nI wn2)) 116 (-1)) 117 (nI fu)) 118 rs0) 119 uc0) 125 nw) 126 isn) 102 (nI op2)) 115 (nI wn2)) (updA (updA (updA (updA B 63 (B 63)) 70 (B 70)) 71 (B 71)) 72 (B 72))) := mW_D hD
                refine pc_V0 (G := G) (As := [.int (nI p2), .int 1, .int (nI xn), .int (nI 1)]) (rest := []) hx hb hml hown hq hE hX pX0_al hP hD hS hA hl.1 (R_waitsFor l G h0 a (upd (upd (upd (upd (upd (upd (upd (upd (upd F 102 (nI op2)) 111 (nI (bf (op2 - 1)))) 115 (nI wn2)) 116 (-1)) 117 (nI fu)) 118 rs0) 119 uc0) 125 nw) 126 isn) B p2 op2 wn2 1 1 (nI xn) (B 70) (B 71) (B 72) (B 63) (by omega) (by omega) (by omega) (by omega)) (gV pw_2043 pw_2044 pw_2045 pw_1523 pw_2024) hV_X12_waitsFor 0 9 rfl rfl rfl rfl (Nat.le_of_ble_eq_true rfl) dX12_leaves_305 ⟨Nat.le_of_ble_eq_true rfl, Nat.le_of_ble_eq_true rfl⟩ ⟨Nat.le_of_ble_eq_true rfl, Nat.le_of_ble_eq_true rfl⟩ (fun v42 u40 H locs hw41 hP hD hS => ?_)
                obtain ⟨wf43, rfl⟩ : ∃ z, z = u40 := ⟨_, rfl⟩
                obtain ⟨hw41, h44⟩ := hw41
                replace h44 : wf43 = upd (B 72) wn2 (nI 1) := h44
                obtain rfl : v42 = none := hw41
                have hP : va_P G.1 pCl (mW G h0 a (upd (upd (upd (upd (upd (upd (upd (upd (upd F 102 (nI op2)) 111 (nI (bf (op2 - 1)))) 115 (nI (wn2 + 1))) 116 (-1)) 117 (nI fu)) 118 rs0) 119 uc0) 125 ((B 14) p2)) 126 1) (updA (updA (updA (updA B 63 (upd (B 63) (op2 - 1) ((B 18) p2))) 70 (upd (B 70) wn2 1)) 71 (upd (B 71) wn2 (nI xn))) 72 wf43)) _ := mW_to (F := F) (l1 := [(102, (nI op2)), (111, (nI (bf (op2 - 1)))), (115, (nI wn2)), (116, (-1)), (117, (nI fu)), (118, rs0), (119, uc0), (125, nw), (126, isn), (102, (nI op2)), (115, (nI (wn2 + 1))), (125, (B 14 p2)), (126, 1)]) (l2 := [(102, (nI op2)), (111, (nI (bf (op2 - 1)))), (115, (nI (wn2 + 1))), (116, (-1)), (117, (nI fu)), (118, rs0), (119, uc0), (125, ((B 14) p2)), (126, 1)]) (V := [(nI op2), (nI (bf (op2 - 1))), (nI (wn2 + 1)), (-1), (nI fu), rs0, uc0, ((B 14) p2), 1, (nI op2), (nI (wn2 + 1)), ((B 14) p2), 1, (nI op2), (nI (bf (op2 - 1))), (nI (wn2 + 1)), (-1), (nI fu), rs0, uc0, ((B 14) p2), 1]) rfl rfl (show (updA (updA (updA (updA B 63 (upd (B 63) (op2 - 1) (B 18 p2))) 70 (upd (B 70) wn2 1)) 71 (upd (B 71) wn2 (nI xn))) 72 wf43) = (updA (updA (updA (updA B 63 (upd (B 63) (op2 - 1) ((B 18) p2))) 70 (upd (B 70) wn2 1)) 71 (upd (B 71) wn2 (nI xn))) 72 wf43) from updsA_eq2 (F := B) (l1 := [(63, (upd (B 63) (op2 - 1) (B 18 p2))), (70, (upd (B 70) wn2 1)), (71, (upd (B 71) wn2 (nI xn))), (72, wf43)]) (l2 := [(63, (upd (B 63) (op2 - 1) ((B 18) p2))), (70, (upd (B 70) wn2 1)), (71, (upd (B 71) wn2 (nI xn))), (72, wf43)]) (V := [(upd (B 63) (op2 - 1) ((B 18) p2)), (upd (B 70) wn2 1), (upd (B 71) wn2 (nI xn)), wf43, (upd (B 63) (op2 - 1) ((B 18) p2)), (upd (B 70) wn2 1), (upd (B 71) wn2 (nI xn)), wf43]) rfl rfl) hP
                have hD : va_D A (mW G h0 a (upd (upd (upd (upd (upd (upd (upd (upd (upd F 102 (nI op2)) 111 (nI (bf (op2 - 1)))) 115 (nI (wn2 + 1))) 116 (-1)) 117 (nI fu)) 118 rs0) 119 uc0) 125 ((B 14) p2)) 126 1) (updA (updA (updA (updA B 63 (upd (B 63) (op2 - 1) ((B 18) p2))) 70 (upd (B 70) wn2 1)) 71 (upd (B 71) wn2 (nI xn))) 72 wf43)) := mW_D hD
                refine W.widen (k := 0) (n := 0) (Nat.le_of_ble_eq_true rfl) (Nat.le_of_ble_eq_true rfl) ?_
                refine W.eq (g2 := F0 m 308 ls []) rfl ?_
                obtain rfl : wf43 = _ := h44
                have hP : va_P G.1 pCl (mW G h0 a (upd (upd (upd (upd (upd (upd (upd (upd (upd F 102 (nI op2)) 111 (nI (bf (op2 - 1)))) 115 (nI (wn2 + 1))) 116 (-1)) 117 (nI fu)) 118 rs0) 119 uc0) 125 ((B 14) p2)) 126 1) (updA (updA (updA (updA B 63 (upd (B 63) (op2 - 1) ((B 18) p2))) 70 (upd (B 70) wn2 1)) 71 (upd (B 71) wn2 (nI xn))) 72 (upd (B 72) wn2 (nI 1)))) _ := hP
                have hD : va_D A (mW G h0 a (upd (upd (upd (upd (upd (upd (upd (upd (upd F 102 (nI op2)) 111 (nI (bf (op2 - 1)))) 115 (nI (wn2 + 1))) 116 (-1)) 117 (nI fu)) 118 rs0) 119 uc0) 125 ((B 14) p2)) 126 1) (updA (updA (updA (updA B 63 (upd (B 63) (op2 - 1) ((B 18) p2))) 70 (upd (B 70) wn2 1)) 71 (upd (B 71) wn2 (nI xn))) 72 (upd (B 72) wn2 (nI 1)))) := mW_D hD
                refine lv_goto (tgt := 357) hx hb dX12_leaves_308 (by decide) ?_
                refine lv_goto (tgt := 6) hx hb dX12_leaves_357 (by decide) ?_
                refine lv_iload hx hb dX12_leaves_6 (lv_at hl 1 rfl) ?_
                refine lv_if_eq (tgt := 360) hx hb dX12_leaves_8 (by decide) (fun c45 => ?_) (fun c45 => absurd c45 (by decide))
                have hz46 : Nx Xs (updA (updA (updA (updA B 63 (upd (B 63) (op2 - 1) ((B 18) p2))) 70 (upd (B 70) wn2 1)) 71 (upd (B 71) wn2 (nI xn))) 72 (upd (B 72) wn2 (nI 1))) gh nd T nm wr lz dc fd md pr bk M rmm fu mu op2 (bf (op2 - 1)) (wn2 + 1) fu rd on idn fl ct ((-1) : Int32) ((B 14) p2) (1 : Int32) uc0 := (by rw [hg4]; exact hg6 _ (upd_eq.trans hg1) (fun i h => if_neg h))
                have hP : va_P G.1 pCl (mW G h0 a (upd (upd (upd (upd (upd (upd (upd (upd (upd F 102 (nI op2)) 111 (nI (bf (op2 - 1)))) 115 (nI (wn2 + 1))) 116 ((-1) : Int32)) 117 (nI fu)) 118 rs0) 119 uc0) 125 ((B 14) p2)) 126 (1 : Int32)) (updA (updA (updA (updA B 63 (upd (B 63) (op2 - 1) ((B 18) p2))) 70 (upd (B 70) wn2 1)) 71 (upd (B 71) wn2 (nI xn))) 72 (upd (B 72) wn2 (nI 1)))) _ := mW_to (F := F) (l1 := [(102, (nI op2)), (111, (nI (bf (op2 - 1)))), (115, (nI (wn2 + 1))), (116, (-1)), (117, (nI fu)), (118, rs0), (119, uc0), (125, ((B 14) p2)), (126, 1)]) (l2 := [(102, (nI op2)), (111, (nI (bf (op2 - 1)))), (115, (nI (wn2 + 1))), (116, ((-1) : Int32)), (117, (nI fu)), (118, rs0), (119, uc0), (125, ((B 14) p2)), (126, (1 : Int32))]) (V := [(nI op2), (nI (bf (op2 - 1))), (nI (wn2 + 1)), ((-1) : Int32), (nI fu), rs0, uc0, ((B 14) p2), (1 : Int32), (nI op2), (nI (bf (op2 - 1))), (nI (wn2 + 1)), ((-1) : Int32), (nI fu), rs0, uc0, ((B 14) p2), (1 : Int32)]) rfl rfl rfl hP
                have hD : va_D A (mW G h0 a (upd (upd (upd (upd (upd (upd (upd (upd (upd F 102 (nI op2)) 111 (nI (bf (op2 - 1)))) 115 (nI (wn2 + 1))) 116 ((-1) : Int32)) 117 (nI fu)) 118 rs0) 119 uc0) 125 ((B 14) p2)) 126 (1 : Int32)) (updA (updA (updA (updA B 63 (upd (B 63) (op2 - 1) ((B 18) p2))) 70 (upd (B 70) wn2 1)) 71 (upd (B 71) wn2 (nI xn))) 72 (upd (B 72) wn2 (nI 1)))) := mW_D hD
                exact W.vret hx hb hr (fun t9 ht9 hW9 => ⟨⟨_, (op2, (bf (op2 - 1)), (wn2 + 1), fu, ((-1) : Int32), ((B 14) p2), (1 : Int32), rs0, uc0, (updA (updA (updA (updA B 63 (upd (B 63) (op2 - 1) ((B 18) p2))) 70 (upd (B 70) wn2 1)) 71 (upd (B 71) wn2 (nI xn))) 72 (upd (B 72) wn2 (nI 1)))), rfl, ⟨rfl, hz46⟩, by rw [ht9]; exact hP, hD⟩, hS.F ht9⟩) hS.2.2 dX12_leaves_360
              · obtain ⟨hm1, hm2⟩ := hL2.mv2 hp4 hp3 ekp kp4 (fun _ h => c30 h.symm)
                refine lv_iconst (v := 1) hx hb dX12_leaves_208 (by decide) ?_
                refine lv_goto (tgt := 213) hx hb dX12_leaves_209 (by decide) ?_
                refine lv_istore (lv' := [(6, .int 1), (8, .int (-1)), (7, .int (nI p2)), (5, .int (nI c2)), (4, .int 1), (3, .int (nI xn)), (2, .int 1), (1, .int (nI c9)), (0, .ref h0)]) hx hb dX12_leaves_213 hl (by decide) rfl (fun ls hl => ?_)
                refine lv_iload hx hb dX12_leaves_215 (lv_at hl 2 rfl) ?_
                refine lv_istore (lv' := [(5, .int (nI p2)), (6, .int 1), (8, .int (-1)), (7, .int (nI p2)), (4, .int 1), (3, .int (nI xn)), (2, .int 1), (1, .int (nI c9)), (0, .ref h0)]) hx hb dX12_leaves_217 hl (by decide) rfl (fun ls hl => ?_)
                refine lv_iload hx hb dX12_leaves_219 (lv_at hl 2 rfl) ?_
                refine lv_iconst (v := (-1)) hx hb dX12_leaves_221 (by decide) ?_
                refine lv_icmp_eq (tgt := 293) hx hb dX12_leaves_222 (by decide) (fun c47 => ?_) (fun c47 => absurd c47 (by decide))
                refine lv_iload hx hb dX12_leaves_293 (lv_at hl 1 rfl) ?_
                refine lv_if_ne (tgt := 308) hx hb dX12_leaves_295 (by decide) (fun c48 => ?_) (fun c48 => absurd c48 (by decide))
                refine lv_goto (tgt := 357) hx hb dX12_leaves_308 (by decide) ?_
                refine lv_goto (tgt := 6) hx hb dX12_leaves_357 (by decide) ?_
                have hr49 := hm1.room
                have hP : va_P G.1 pCl (mW G h0 a (upd (upd (upd (upd (upd (upd (upd (upd (upd F 102 (nI op2)) 111 (nI (bf (op2 - 1)))) 115 (nI wn2)) 116 (-1)) 117 (nI fu)) 118 rs0) 119 uc0) 125 nw) 126 isn) B) _ := hP
                have hD : va_D A (mW G h0 a (upd (upd (upd (upd (upd (upd (upd (upd (upd F 102 (nI op2)) 111 (nI (bf (op2 - 1)))) 115 (nI wn2)) 116 (-1)) 117 (nI fu)) 118 rs0) 119 uc0) 125 nw) 126 isn) B) := mW_D hD
                exact ih_o (400 * (100 - op2) + gh 1 p2) op2 wn2 p2 (yyU yy2 (op2 - 1) u2) (nI (bf (op2 - 1))) _ _ _ (by omega) (by omega) hm1 ⟨rfl, hr49.2.2.2.2.2.2.2.1, hr49.1, hr49.2.1, hr49.2.2.1, hr49.2.2.2.2.1⟩ hP hD hS (lv_sub hl [1, 0, 4, 5, 6, 7, 8] rfl)
            · refine lv_aload_n hx hb dX12_leaves_178 rfl (lv_at hl 7 rfl) ?_
              refine lv_iload hx hb dX12_leaves_179 (lv_at hl 0 rfl) ?_
              refine lv_iload_n hx hb dX12_leaves_181 rfl (lv_at hl 4 rfl) ?_
              have hct9 : ∀ z q : Nat, q < nd → itr (B 16) (B 13 p2) z = nI q → ∃ d : Nat, d < dc ∧ B 14 q = nI d := fun z q hq w => by
                rw [hw16, hw13] at w
                obtain ⟨_, _, _, _, _, _, _, d, _, d1, _, d2, _⟩ := hL2.cts hp4 ekp (by omega) w
                exact ⟨d, d1, d2⟩
              have hln9 : lnRow (B 16) nd := by rw [hw16]; exact hPg.fs.lnr
              have hv13 : B 13 p2 = -1 ∨ ∃ q : Nat, B 13 p2 = nI q ∧ q < nd := by
                obtain ⟨k2, e2, _, _, hs⟩ := hPg.fs.knd hp1
                have e9 : k2 = 41 := (nI_eq (by omega) (by omega)).mp (e2.symm.trans ekp)
                subst e9
                rw [hw13]; exact sok.or (hs 2 (by omega) (by omega)) (by decide)
              have hP : va_P G.1 pCl (mW G h0 a (upd (upd (upd (upd (upd (upd (upd (upd (upd F 102 (nI op2)) 111 (nI (bf (op2 - 1)))) 115 (nI wn2)) 116 (-1)) 117 (nI fu)) 118 rs0) 119 uc0) 125 nw) 126 isn) B) _ := hP
              have hD : va_D A (mW G h0 a (upd (upd (upd (upd (upd (upd (upd (upd (upd F 102 (nI op2)) 111 (nI (bf (op2 - 1)))) 115 (nI wn2)) 116 (-1)) 117 (nI fu)) 118 rs0) 119 uc0) 125 nw) 126 isn) B) := mW_D hD
              refine pc_V0 (G := G) (As := [.int (nI p2), .int (nI xn)]) (rest := []) hx hb hml hown hq hE hX pX0_al hP hD hS hA hl.1 (R_catcher l G h0 a (upd (upd (upd (upd (upd (upd (upd (upd (upd F 102 (nI op2)) 111 (nI (bf (op2 - 1)))) 115 (nI wn2)) 116 (-1)) 117 (nI fu)) 118 rs0) 119 uc0) 125 nw) 126 isn) B p2 xn kc dc nd (by omega) (by omega) (by omega) ⟨hx1, hx2.imp (fun z => z.1) id⟩ hx3 (by omega) (by rw [hw31]; exact hPg.1.1.2.2.1) hln9 hv13 hct9) (gV pw_2037 pw_2038 pw_2039 pw_1523 pw_2023) hV_X12_catcher 0 9 rfl rfl rfl rfl (Nat.le_of_ble_eq_true rfl) dX12_leaves_182 ⟨Nat.le_of_ble_eq_true rfl, Nat.le_of_ble_eq_true rfl⟩ ⟨Nat.le_of_ble_eq_true rfl, Nat.le_of_ble_eq_true rfl⟩ (fun v52 u50 H locs hw51 hP hD hS => ?_)
              obtain ⟨r53, rfl⟩ : ∃ z, z = u50 := ⟨_, rfl⟩
              obtain ⟨hw51, h54⟩ := hw51
              replace h54 : r53 = -1 ∨ ∃ z c d : Nat, r53 = nI c ∧ c < nd ∧ itr ((B 16)) ((B 13) p2) z = nI c ∧ (B 14) c = nI d ∧ d < dc ∧ (d = kc ∨ (B 31) (40 * d + kc) = 1) := h54
              obtain rfl : v52 = some (.int r53) := hw51
              have hP : va_P G.1 pCl (mW G h0 a (upd (upd (upd (upd (upd (upd (upd (upd (upd F 102 (nI op2)) 111 (nI (bf (op2 - 1)))) 115 (nI wn2)) 116 (-1)) 117 (nI fu)) 118 rs0) 119 uc0) 125 nw) 126 isn) B) _ := hP
              have hD : va_D A (mW G h0 a (upd (upd (upd (upd (upd (upd (upd (upd (upd F 102 (nI op2)) 111 (nI (bf (op2 - 1)))) 115 (nI wn2)) 116 (-1)) 117 (nI fu)) 118 rs0) 119 uc0) 125 nw) 126 isn) B) := mW_D hD
              refine W.widen (k := 0) (n := 0) (Nat.le_of_ble_eq_true rfl) (Nat.le_of_ble_eq_true rfl) ?_
              refine W.eq (g2 := F0 m 185 ls [.int r53]) rfl ?_
              rcases h54 with rfl | ⟨zc, hc9, dc9, rfl, hc1, hc2, hc3, hc4, hc5⟩
              · have hP : va_P G.1 pCl (mW G h0 a (upd (upd (upd (upd (upd (upd (upd (upd (upd F 102 (nI op2)) 111 (nI (bf (op2 - 1)))) 115 (nI wn2)) 116 (-1)) 117 (nI fu)) 118 rs0) 119 uc0) 125 nw) 126 isn) B) _ := hP
                have hD : va_D A (mW G h0 a (upd (upd (upd (upd (upd (upd (upd (upd (upd F 102 (nI op2)) 111 (nI (bf (op2 - 1)))) 115 (nI wn2)) 116 (-1)) 117 (nI fu)) 118 rs0) 119 uc0) 125 nw) 126 isn) B) := mW_D hD
                refine W.eq (g2 := F0 m 185 ls [.int (-1)]) rfl ?_
                refine lv_goto (tgt := 189) hx hb dX12_leaves_185 (by decide) ?_
                refine lv_istore (lv' := [(8, .int (-1)), (7, .int (nI p2)), (6, .int 1), (5, .int (nI c2)), (4, .int 1), (3, .int (nI xn)), (2, .int 1), (1, .int (nI c9)), (0, .ref h0)]) hx hb dX12_leaves_189 hl (by decide) rfl (fun ls hl => ?_)
                refine lv_iload hx hb dX12_leaves_191 (lv_at hl 0 rfl) ?_
                refine lv_iconst (v := (-1)) hx hb dX12_leaves_193 (by decide) ?_
                refine lv_icmp_ne (tgt := 212) hx hb dX12_leaves_194 (by decide) (fun c55 => absurd c55 (by decide)) (fun c55 => ?_)
                refine lv_aload_n hx hb dX12_leaves_197 rfl (lv_at hl 8 rfl) ?_
                refine r_get (v := .ref (a 14)) hx hb hown hq hE hP 22 53 tFX12_22 (by decide) pw_1444 rfl dX12_leaves_198 ?_
                refine lv_iload hx hb dX12_leaves_201 (lv_at hl 1 rfl) ?_
                refine r_ldi (f := (B 14)) (j := p2) hx hb hE hP 14 (ma_14 G a _) rfl (by omega) (by decide) dX12_leaves_203 ?_
                refine lv_iconst (v := (-1)) hx hb dX12_leaves_204 (by decide) ?_
                refine lv_icmp_ne (tgt := 212) hx hb dX12_leaves_205 (by decide) (fun c56 => ?_) (fun c56 => ?_)
                · refine lv_iconst (v := 0) hx hb dX12_leaves_212 (by decide) ?_
                  refine lv_istore (lv' := [(6, .int 0), (8, .int (-1)), (7, .int (nI p2)), (5, .int (nI c2)), (4, .int 1), (3, .int (nI xn)), (2, .int 1), (1, .int (nI c9)), (0, .ref h0)]) hx hb dX12_leaves_213 hl (by decide) rfl (fun ls hl => ?_)
                  refine lv_iload hx hb dX12_leaves_215 (lv_at hl 2 rfl) ?_
                  refine lv_istore (lv' := [(5, .int (nI p2)), (6, .int 0), (8, .int (-1)), (7, .int (nI p2)), (4, .int 1), (3, .int (nI xn)), (2, .int 1), (1, .int (nI c9)), (0, .ref h0)]) hx hb dX12_leaves_217 hl (by decide) rfl (fun ls hl => ?_)
                  refine lv_iload hx hb dX12_leaves_219 (lv_at hl 2 rfl) ?_
                  refine lv_iconst (v := (-1)) hx hb dX12_leaves_221 (by decide) ?_
                  refine lv_icmp_eq (tgt := 293) hx hb dX12_leaves_222 (by decide) (fun c57 => ?_) (fun c57 => absurd c57 (by decide))
                  refine lv_iload hx hb dX12_leaves_293 (lv_at hl 1 rfl) ?_
                  refine lv_if_ne (tgt := 308) hx hb dX12_leaves_295 (by decide) (fun c58 => absurd c58 (by decide)) (fun c58 => ?_)
                  refine lv_aload_n hx hb dX12_leaves_298 rfl (lv_at hl 8 rfl) ?_
                  refine lv_iload hx hb dX12_leaves_299 (lv_at hl 3 rfl) ?_
                  refine lv_iload_n hx hb dX12_leaves_301 rfl (lv_at hl 6 rfl) ?_
                  refine lv_iload_n hx hb dX12_leaves_302 rfl (lv_at hl 5 rfl) ?_
                  refine lv_iload hx hb dX12_leaves_303 (lv_at hl 4 rfl) ?_
                  obtain ⟨vc, jc, hg1, hg2, hg4, hg5, hg6⟩ := hL2.last (x := (nI xn)) (b := 1) (kd := 1) (uc := uc0) hp4 hp3 ekp (by rw [← hPg.r14 p2 hp1 (by rw [ekp]; decide)]; exact fun h => c30 h.symm) c56 ⟨by omega, Or.inr (Or.inl ⟨rfl, ⟨xn, kc, rfl, hx1, hx2, hx3, hx4⟩, rfl⟩), fun _ => ⟨xn, rfl, Or.inr (hx2.imp (fun z => ⟨hx1, z.1, z.2⟩) id)⟩⟩
                  have hP : va_P G.1 pCl (mW G h0 a (upd (upd (upd (upd (upd (upd (upd (upd (upd (upd (upd F 102 (nI op2)) 111 (nI (bf (op2 - 1)))) 115 (nI wn2)) 116 (-1)) 117 (nI fu)) 118 rs0) 119 uc0) 125 nw) 126 isn) 102 (nI op2)) 115 (nI wn2)) (updA (updA (updA (updA B 63 (B 63)) 70 (B 70)) 71 (B 71)) 72 (B 72))) _ := mW_to (F := F) (l1 := [(102, (nI op2)), (111, (nI (bf (op2 - 1)))), (115, (nI wn2)), (116, (-1)), (117, (nI fu)), (118, rs0), (119, uc0), (125, nw), (126, isn)]) (l2 := [(102, (nI op2)), (111, (nI (bf (op2 - 1)))), (115, (nI wn2)), (116, (-1)), (117, (nI fu)), (118, rs0), (119, uc0), (125, nw), (126, isn), (102, (nI op2)), (115, (nI wn2))]) (V := [(nI op2), (nI (bf (op2 - 1))), (nI wn2), (-1), (nI fu), rs0, uc0, nw, isn, (nI op2), (nI (bf (op2 - 1))), (nI wn2), (-1), (nI fu), rs0, uc0, nw, isn, (nI op2), (nI wn2)]) rfl rfl (show B = (updA (updA (updA (updA B 63 (B 63)) 70 (B 70)) 71 (B 71)) 72 (B 72)) from updsA_eq2 (F := B) (l1 := []) (l2 := [(63, (B 63)), (70, (B 70)), (71, (B 71)), (72, (B 72))]) (V := [(B 63), (B 70), (B 71), (B 72)]) rfl rfl) hP
                  have hD : va_D A (mW G h0 a (upd (upd (upd (upd (upd (upd (upd (upd (upd (upd (upd F 102 (nI op2)) 111 (nI (bf (op2 - 1)))) 115 (nI wn2)) 116 (-1)) 117 (nI fu)) 118 rs0) 119 uc0) 125 nw) 126 isn) 102 (nI op2)) 115 (nI wn2)) (updA (updA (updA (updA B 63 (B 63)) 70 (B 70)) 71 (B 71)) 72 (B 72))) := mW_D hD
                  refine pc_V0 (G := G) (As := [.int (nI p2), .int 1, .int (nI xn), .int (nI 1)]) (rest := []) hx hb hml hown hq hE hX pX0_al hP hD hS hA hl.1 (R_waitsFor l G h0 a (upd (upd (upd (upd (upd (upd (upd (upd (upd F 102 (nI op2)) 111 (nI (bf (op2 - 1)))) 115 (nI wn2)) 116 (-1)) 117 (nI fu)) 118 rs0) 119 uc0) 125 nw) 126 isn) B p2 op2 wn2 1 1 (nI xn) (B 70) (B 71) (B 72) (B 63) (by omega) (by omega) (by omega) (by omega)) (gV pw_2043 pw_2044 pw_2045 pw_1523 pw_2024) hV_X12_waitsFor 0 9 rfl rfl rfl rfl (Nat.le_of_ble_eq_true rfl) dX12_leaves_305 ⟨Nat.le_of_ble_eq_true rfl, Nat.le_of_ble_eq_true rfl⟩ ⟨Nat.le_of_ble_eq_true rfl, Nat.le_of_ble_eq_true rfl⟩ (fun v61 u59 H locs hw60 hP hD hS => ?_)
                  obtain ⟨wf62, rfl⟩ : ∃ z, z = u59 := ⟨_, rfl⟩
                  obtain ⟨hw60, h63⟩ := hw60
                  replace h63 : wf62 = upd (B 72) wn2 (nI 1) := h63
                  obtain rfl : v61 = none := hw60
                  have hP : va_P G.1 pCl (mW G h0 a (upd (upd (upd (upd (upd (upd (upd (upd (upd F 102 (nI op2)) 111 (nI (bf (op2 - 1)))) 115 (nI (wn2 + 1))) 116 (-1)) 117 (nI fu)) 118 rs0) 119 uc0) 125 ((B 14) p2)) 126 1) (updA (updA (updA (updA B 63 (upd (B 63) (op2 - 1) ((B 18) p2))) 70 (upd (B 70) wn2 1)) 71 (upd (B 71) wn2 (nI xn))) 72 wf62)) _ := mW_to (F := F) (l1 := [(102, (nI op2)), (111, (nI (bf (op2 - 1)))), (115, (nI wn2)), (116, (-1)), (117, (nI fu)), (118, rs0), (119, uc0), (125, nw), (126, isn), (102, (nI op2)), (115, (nI (wn2 + 1))), (125, (B 14 p2)), (126, 1)]) (l2 := [(102, (nI op2)), (111, (nI (bf (op2 - 1)))), (115, (nI (wn2 + 1))), (116, (-1)), (117, (nI fu)), (118, rs0), (119, uc0), (125, ((B 14) p2)), (126, 1)]) (V := [(nI op2), (nI (bf (op2 - 1))), (nI (wn2 + 1)), (-1), (nI fu), rs0, uc0, ((B 14) p2), 1, (nI op2), (nI (wn2 + 1)), ((B 14) p2), 1, (nI op2), (nI (bf (op2 - 1))), (nI (wn2 + 1)), (-1), (nI fu), rs0, uc0, ((B 14) p2), 1]) rfl rfl (show (updA (updA (updA (updA B 63 (upd (B 63) (op2 - 1) (B 18 p2))) 70 (upd (B 70) wn2 1)) 71 (upd (B 71) wn2 (nI xn))) 72 wf62) = (updA (updA (updA (updA B 63 (upd (B 63) (op2 - 1) ((B 18) p2))) 70 (upd (B 70) wn2 1)) 71 (upd (B 71) wn2 (nI xn))) 72 wf62) from updsA_eq2 (F := B) (l1 := [(63, (upd (B 63) (op2 - 1) (B 18 p2))), (70, (upd (B 70) wn2 1)), (71, (upd (B 71) wn2 (nI xn))), (72, wf62)]) (l2 := [(63, (upd (B 63) (op2 - 1) ((B 18) p2))), (70, (upd (B 70) wn2 1)), (71, (upd (B 71) wn2 (nI xn))), (72, wf62)]) (V := [(upd (B 63) (op2 - 1) ((B 18) p2)), (upd (B 70) wn2 1), (upd (B 71) wn2 (nI xn)), wf62, (upd (B 63) (op2 - 1) ((B 18) p2)), (upd (B 70) wn2 1), (upd (B 71) wn2 (nI xn)), wf62]) rfl rfl) hP
                  have hD : va_D A (mW G h0 a (upd (upd (upd (upd (upd (upd (upd (upd (upd F 102 (nI op2)) 111 (nI (bf (op2 - 1)))) 115 (nI (wn2 + 1))) 116 (-1)) 117 (nI fu)) 118 rs0) 119 uc0) 125 ((B 14) p2)) 126 1) (updA (updA (updA (updA B 63 (upd (B 63) (op2 - 1) ((B 18) p2))) 70 (upd (B 70) wn2 1)) 71 (upd (B 71) wn2 (nI xn))) 72 wf62)) := mW_D hD
                  refine W.widen (k := 0) (n := 0) (Nat.le_of_ble_eq_true rfl) (Nat.le_of_ble_eq_true rfl) ?_
                  refine W.eq (g2 := F0 m 308 ls []) rfl ?_
                  obtain rfl : wf62 = _ := h63
                  have hP : va_P G.1 pCl (mW G h0 a (upd (upd (upd (upd (upd (upd (upd (upd (upd F 102 (nI op2)) 111 (nI (bf (op2 - 1)))) 115 (nI (wn2 + 1))) 116 (-1)) 117 (nI fu)) 118 rs0) 119 uc0) 125 ((B 14) p2)) 126 1) (updA (updA (updA (updA B 63 (upd (B 63) (op2 - 1) ((B 18) p2))) 70 (upd (B 70) wn2 1)) 71 (upd (B 71) wn2 (nI xn))) 72 (upd (B 72) wn2 (nI 1)))) _ := hP
                  have hD : va_D A (mW G h0 a (upd (upd (upd (upd (upd (upd (upd (upd (upd F 102 (nI op2)) 111 (nI (bf (op2 - 1)))) 115 (nI (wn2 + 1))) 116 (-1)) 117 (nI fu)) 118 rs0) 119 uc0) 125 ((B 14) p2)) 126 1) (updA (updA (updA (updA B 63 (upd (B 63) (op2 - 1) ((B 18) p2))) 70 (upd (B 70) wn2 1)) 71 (upd (B 71) wn2 (nI xn))) 72 (upd (B 72) wn2 (nI 1)))) := mW_D hD
                  refine lv_goto (tgt := 357) hx hb dX12_leaves_308 (by decide) ?_
                  refine lv_goto (tgt := 6) hx hb dX12_leaves_357 (by decide) ?_
                  refine lv_iload hx hb dX12_leaves_6 (lv_at hl 1 rfl) ?_
                  refine lv_if_eq (tgt := 360) hx hb dX12_leaves_8 (by decide) (fun c64 => ?_) (fun c64 => absurd c64 (by decide))
                  have hz65 : Nx Xs (updA (updA (updA (updA B 63 (upd (B 63) (op2 - 1) ((B 18) p2))) 70 (upd (B 70) wn2 1)) 71 (upd (B 71) wn2 (nI xn))) 72 (upd (B 72) wn2 (nI 1))) gh nd T nm wr lz dc fd md pr bk M rmm fu mu op2 (bf (op2 - 1)) (wn2 + 1) fu rd on idn fl ct ((-1) : Int32) ((B 14) p2) (1 : Int32) uc0 := (by rw [hg4]; exact hg6 _ (upd_eq.trans hg1) (fun i h => if_neg h))
                  have hP : va_P G.1 pCl (mW G h0 a (upd (upd (upd (upd (upd (upd (upd (upd (upd F 102 (nI op2)) 111 (nI (bf (op2 - 1)))) 115 (nI (wn2 + 1))) 116 ((-1) : Int32)) 117 (nI fu)) 118 rs0) 119 uc0) 125 ((B 14) p2)) 126 (1 : Int32)) (updA (updA (updA (updA B 63 (upd (B 63) (op2 - 1) ((B 18) p2))) 70 (upd (B 70) wn2 1)) 71 (upd (B 71) wn2 (nI xn))) 72 (upd (B 72) wn2 (nI 1)))) _ := mW_to (F := F) (l1 := [(102, (nI op2)), (111, (nI (bf (op2 - 1)))), (115, (nI (wn2 + 1))), (116, (-1)), (117, (nI fu)), (118, rs0), (119, uc0), (125, ((B 14) p2)), (126, 1)]) (l2 := [(102, (nI op2)), (111, (nI (bf (op2 - 1)))), (115, (nI (wn2 + 1))), (116, ((-1) : Int32)), (117, (nI fu)), (118, rs0), (119, uc0), (125, ((B 14) p2)), (126, (1 : Int32))]) (V := [(nI op2), (nI (bf (op2 - 1))), (nI (wn2 + 1)), ((-1) : Int32), (nI fu), rs0, uc0, ((B 14) p2), (1 : Int32), (nI op2), (nI (bf (op2 - 1))), (nI (wn2 + 1)), ((-1) : Int32), (nI fu), rs0, uc0, ((B 14) p2), (1 : Int32)]) rfl rfl rfl hP
                  have hD : va_D A (mW G h0 a (upd (upd (upd (upd (upd (upd (upd (upd (upd F 102 (nI op2)) 111 (nI (bf (op2 - 1)))) 115 (nI (wn2 + 1))) 116 ((-1) : Int32)) 117 (nI fu)) 118 rs0) 119 uc0) 125 ((B 14) p2)) 126 (1 : Int32)) (updA (updA (updA (updA B 63 (upd (B 63) (op2 - 1) ((B 18) p2))) 70 (upd (B 70) wn2 1)) 71 (upd (B 71) wn2 (nI xn))) 72 (upd (B 72) wn2 (nI 1)))) := mW_D hD
                  exact W.vret hx hb hr (fun t9 ht9 hW9 => ⟨⟨_, (op2, (bf (op2 - 1)), (wn2 + 1), fu, ((-1) : Int32), ((B 14) p2), (1 : Int32), rs0, uc0, (updA (updA (updA (updA B 63 (upd (B 63) (op2 - 1) ((B 18) p2))) 70 (upd (B 70) wn2 1)) 71 (upd (B 71) wn2 (nI xn))) 72 (upd (B 72) wn2 (nI 1)))), rfl, ⟨rfl, hz65⟩, by rw [ht9]; exact hP, hD⟩, hS.F ht9⟩) hS.2.2 dX12_leaves_360
                · obtain ⟨hm1, hm2⟩ := hL2.mv2 hp4 hp3 ekp kp4 (fun _ h => c30 h.symm)
                  refine lv_iconst (v := 1) hx hb dX12_leaves_208 (by decide) ?_
                  refine lv_goto (tgt := 213) hx hb dX12_leaves_209 (by decide) ?_
                  refine lv_istore (lv' := [(6, .int 1), (8, .int (-1)), (7, .int (nI p2)), (5, .int (nI c2)), (4, .int 1), (3, .int (nI xn)), (2, .int 1), (1, .int (nI c9)), (0, .ref h0)]) hx hb dX12_leaves_213 hl (by decide) rfl (fun ls hl => ?_)
                  refine lv_iload hx hb dX12_leaves_215 (lv_at hl 2 rfl) ?_
                  refine lv_istore (lv' := [(5, .int (nI p2)), (6, .int 1), (8, .int (-1)), (7, .int (nI p2)), (4, .int 1), (3, .int (nI xn)), (2, .int 1), (1, .int (nI c9)), (0, .ref h0)]) hx hb dX12_leaves_217 hl (by decide) rfl (fun ls hl => ?_)
                  refine lv_iload hx hb dX12_leaves_219 (lv_at hl 2 rfl) ?_
                  refine lv_iconst (v := (-1)) hx hb dX12_leaves_221 (by decide) ?_
                  refine lv_icmp_eq (tgt := 293) hx hb dX12_leaves_222 (by decide) (fun c66 => ?_) (fun c66 => absurd c66 (by decide))
                  refine lv_iload hx hb dX12_leaves_293 (lv_at hl 1 rfl) ?_
                  refine lv_if_ne (tgt := 308) hx hb dX12_leaves_295 (by decide) (fun c67 => ?_) (fun c67 => absurd c67 (by decide))
                  refine lv_goto (tgt := 357) hx hb dX12_leaves_308 (by decide) ?_
                  refine lv_goto (tgt := 6) hx hb dX12_leaves_357 (by decide) ?_
                  have hr68 := hm1.room
                  have hP : va_P G.1 pCl (mW G h0 a (upd (upd (upd (upd (upd (upd (upd (upd (upd F 102 (nI op2)) 111 (nI (bf (op2 - 1)))) 115 (nI wn2)) 116 (-1)) 117 (nI fu)) 118 rs0) 119 uc0) 125 nw) 126 isn) B) _ := hP
                  have hD : va_D A (mW G h0 a (upd (upd (upd (upd (upd (upd (upd (upd (upd F 102 (nI op2)) 111 (nI (bf (op2 - 1)))) 115 (nI wn2)) 116 (-1)) 117 (nI fu)) 118 rs0) 119 uc0) 125 nw) 126 isn) B) := mW_D hD
                  exact ih_o (400 * (100 - op2) + gh 1 p2) op2 wn2 p2 (yyU yy2 (op2 - 1) u2) (nI (bf (op2 - 1))) _ _ _ (by omega) (by omega) hm1 ⟨rfl, hr68.2.2.2.2.2.2.2.1, hr68.1, hr68.2.1, hr68.2.2.1, hr68.2.2.2.2.1⟩ hP hD hS (lv_sub hl [1, 0, 4, 5, 6, 7, 8] rfl)
              · have hP : va_P G.1 pCl (mW G h0 a (upd (upd (upd (upd (upd (upd (upd (upd (upd F 102 (nI op2)) 111 (nI (bf (op2 - 1)))) 115 (nI wn2)) 116 (-1)) 117 (nI fu)) 118 rs0) 119 uc0) 125 nw) 126 isn) B) _ := hP
                have hD : va_D A (mW G h0 a (upd (upd (upd (upd (upd (upd (upd (upd (upd F 102 (nI op2)) 111 (nI (bf (op2 - 1)))) 115 (nI wn2)) 116 (-1)) 117 (nI fu)) 118 rs0) 119 uc0) 125 nw) 126 isn) B) := mW_D hD
                refine W.eq (g2 := F0 m 185 ls [.int (nI hc9)]) rfl ?_
                refine lv_goto (tgt := 189) hx hb dX12_leaves_185 (by decide) ?_
                refine lv_istore (lv' := [(8, .int (nI hc9)), (7, .int (nI p2)), (6, .int 1), (5, .int (nI c2)), (4, .int 1), (3, .int (nI xn)), (2, .int 1), (1, .int (nI c9)), (0, .ref h0)]) hx hb dX12_leaves_189 hl (by decide) rfl (fun ls hl => ?_)
                refine lv_iload hx hb dX12_leaves_191 (lv_at hl 0 rfl) ?_
                refine lv_iconst (v := (-1)) hx hb dX12_leaves_193 (by decide) ?_
                refine lv_icmp_ne (tgt := 212) hx hb dX12_leaves_194 (by decide) (fun c69 => ?_) (fun c69 => absurd c69 (nI_m1 (by omega)))
                refine lv_iconst (v := 0) hx hb dX12_leaves_212 (by decide) ?_
                refine lv_istore (lv' := [(6, .int 0), (8, .int (nI hc9)), (7, .int (nI p2)), (5, .int (nI c2)), (4, .int 1), (3, .int (nI xn)), (2, .int 1), (1, .int (nI c9)), (0, .ref h0)]) hx hb dX12_leaves_213 hl (by decide) rfl (fun ls hl => ?_)
                refine lv_iload hx hb dX12_leaves_215 (lv_at hl 2 rfl) ?_
                refine lv_istore (lv' := [(5, .int (nI p2)), (6, .int 0), (8, .int (nI hc9)), (7, .int (nI p2)), (4, .int 1), (3, .int (nI xn)), (2, .int 1), (1, .int (nI c9)), (0, .ref h0)]) hx hb dX12_leaves_217 hl (by decide) rfl (fun ls hl => ?_)
                refine lv_iload hx hb dX12_leaves_219 (lv_at hl 2 rfl) ?_
                refine lv_iconst (v := (-1)) hx hb dX12_leaves_221 (by decide) ?_
                refine lv_icmp_eq (tgt := 293) hx hb dX12_leaves_222 (by decide) (fun c70 => absurd c70 (nI_m1 (by omega))) (fun c70 => ?_)
                rw [hw16, hw13] at hc2
                rw [hw31] at hc5
                obtain ⟨vc, jc, hg1, hg2, hg3, hg4, hg5, hg6⟩ := hL2.catch (uc := uc0) hp4 hp3 ekp ((congrFun hw12 _).symm.trans c35.symm) hx1 hx2 hx3 hx4 (by omega) hc2 hc3 hc4 hc5
                refine lv_aload_n hx hb dX12_leaves_225 rfl (lv_at hl 8 rfl) ?_
                refine r_get (v := .ref (a 66)) hx hb hown hq hE hP 107 211 tFX12_107 (by decide) pw_1498 rfl dX12_leaves_226 ?_
                refine lv_aload_n hx hb dX12_leaves_229 rfl (lv_at hl 8 rfl) ?_
                refine lv_aload_n hx hb dX12_leaves_230 rfl (lv_at hl 8 rfl) ?_
                refine r_get (v := .ref (a 18)) hx hb hown hq hE hP 26 65 tFX12_26 (by decide) pw_1448 rfl dX12_leaves_231 ?_
                refine lv_iload hx hb dX12_leaves_234 (lv_at hl 2 rfl) ?_
                refine r_ldi (f := (B 18)) (j := hc9) hx hb hE hP 18 (ma_18 G a _) rfl (by omega) (by decide) dX12_leaves_236 ?_
                refine lv_topi (fun x71 e72 => ?_)
                obtain rfl : x71 = nI vc := e72.trans hg1
                have hP : va_P G.1 pCl (mW G h0 a (upd (upd (upd (upd (upd (upd (upd (upd (upd (upd F 102 (nI op2)) 111 (nI (bf (op2 - 1)))) 115 (nI wn2)) 116 (-1)) 117 (nI fu)) 118 rs0) 119 uc0) 125 nw) 126 isn) 102 (nI op2)) B) _ := mW_to (F := F) (l1 := [(102, (nI op2)), (111, (nI (bf (op2 - 1)))), (115, (nI wn2)), (116, (-1)), (117, (nI fu)), (118, rs0), (119, uc0), (125, nw), (126, isn)]) (l2 := [(102, (nI op2)), (111, (nI (bf (op2 - 1)))), (115, (nI wn2)), (116, (-1)), (117, (nI fu)), (118, rs0), (119, uc0), (125, nw), (126, isn), (102, (nI op2))]) (V := [(nI op2), (nI (bf (op2 - 1))), (nI wn2), (-1), (nI fu), rs0, uc0, nw, isn, (nI op2), (nI (bf (op2 - 1))), (nI wn2), (-1), (nI fu), rs0, uc0, nw, isn, (nI op2)]) rfl rfl rfl hP
                have hD : va_D A (mW G h0 a (upd (upd (upd (upd (upd (upd (upd (upd (upd (upd F 102 (nI op2)) 111 (nI (bf (op2 - 1)))) 115 (nI wn2)) 116 (-1)) 117 (nI fu)) 118 rs0) 119 uc0) 125 nw) 126 isn) 102 (nI op2)) B) := mW_D hD
                refine pc_V0 (G := G) (As := [.int (nI vc)]) (rest := [.ref (a 66)]) hx hb hml hown hq hE hX pX0_al hP hD hS hA hl.1 (R_at32 l G h0 a (upd (upd (upd (upd (upd (upd (upd (upd (upd F 102 (nI op2)) 111 (nI (bf (op2 - 1)))) 115 (nI wn2)) 116 (-1)) 117 (nI fu)) 118 rs0) 119 uc0) 125 nw) 126 isn) B vc op2 (by omega) (by omega)) (gV pw_2040 pw_2041 pw_2042 pw_1523 pw_2013) hV_X12_at32 0 9 rfl rfl rfl rfl (Nat.le_of_ble_eq_true rfl) dX12_leaves_237 ⟨Nat.le_of_ble_eq_true rfl, Nat.le_of_ble_eq_true rfl⟩ ⟨Nat.le_of_ble_eq_true rfl, Nat.le_of_ble_eq_true rfl⟩ (fun v75 u73 H locs hw74 hP hD hS => ?_)
                obtain rfl : v75 = some (.int (nI (32 * (op2 - 1) + vc))) := hw74
                have hP : va_P G.1 pCl (mW G h0 a (upd (upd (upd (upd (upd (upd (upd (upd (upd F 102 (nI op2)) 111 (nI (bf (op2 - 1)))) 115 (nI wn2)) 116 (-1)) 117 (nI fu)) 118 rs0) 119 uc0) 125 nw) 126 isn) B) _ := mW_to (F := F) (l1 := [(102, (nI op2)), (111, (nI (bf (op2 - 1)))), (115, (nI wn2)), (116, (-1)), (117, (nI fu)), (118, rs0), (119, uc0), (125, nw), (126, isn), (102, (nI op2))]) (l2 := [(102, (nI op2)), (111, (nI (bf (op2 - 1)))), (115, (nI wn2)), (116, (-1)), (117, (nI fu)), (118, rs0), (119, uc0), (125, nw), (126, isn)]) (V := [(nI op2), (nI (bf (op2 - 1))), (nI wn2), (-1), (nI fu), rs0, uc0, nw, isn, (nI op2), (nI op2), (nI (bf (op2 - 1))), (nI wn2), (-1), (nI fu), rs0, uc0, nw, isn]) rfl rfl rfl hP
                have hD : va_D A (mW G h0 a (upd (upd (upd (upd (upd (upd (upd (upd (upd F 102 (nI op2)) 111 (nI (bf (op2 - 1)))) 115 (nI wn2)) 116 (-1)) 117 (nI fu)) 118 rs0) 119 uc0) 125 nw) 126 isn) B) := mW_D hD
                refine W.widen (k := 0) (n := 0) (Nat.le_of_ble_eq_true rfl) (Nat.le_of_ble_eq_true rfl) ?_
                refine W.eq (g2 := F0 m 240 ls [.int (nI (32 * (op2 - 1) + vc)), .ref (a 66)]) rfl ?_
                refine lv_iload_n hx hb dX12_leaves_240 rfl (lv_at hl 5 rfl) ?_
                refine r_sti (f := (B 66)) (j := (32 * (op2 - 1) + vc)) hx hb hE hP hD hS 66 (ma_66 G a _) rfl (mas_66 G a _) (by omega) (by decide) dX12_leaves_241 (fun H locs hP hD hS => ?_)
                refine lv_aload_n hx hb dX12_leaves_242 rfl (lv_at hl 8 rfl) ?_
                refine r_get (v := .ref (a 67)) hx hb hown hq hE hP 108 214 tFX12_108 (by decide) pw_1499 rfl dX12_leaves_243 ?_
                refine lv_aload_n hx hb dX12_leaves_246 rfl (lv_at hl 8 rfl) ?_
                refine lv_aload_n hx hb dX12_leaves_247 rfl (lv_at hl 8 rfl) ?_
                refine r_get (v := .ref (a 18)) hx hb hown hq hE hP 26 65 tFX12_26 (by decide) pw_1448 rfl dX12_leaves_248 ?_
                refine lv_iload hx hb dX12_leaves_251 (lv_at hl 2 rfl) ?_
                refine r_ldi (f := (B 18)) (j := hc9) hx hb hE hP 18 (ma_18 G a _) rfl (by omega) (by decide) dX12_leaves_253 ?_
                refine lv_topi (fun x76 e77 => ?_)
                obtain rfl : x76 = nI vc := e77.trans hg1
                have hP : va_P G.1 pCl (mW G h0 a (upd (upd (upd (upd (upd (upd (upd (upd (upd (upd F 102 (nI op2)) 111 (nI (bf (op2 - 1)))) 115 (nI wn2)) 116 (-1)) 117 (nI fu)) 118 rs0) 119 uc0) 125 nw) 126 isn) 102 (nI op2)) (updA B 66 (upd (B 66) (32 * (op2 - 1) + vc) (nI xn)))) _ := mW_to (F := F) (l1 := [(102, (nI op2)), (111, (nI (bf (op2 - 1)))), (115, (nI wn2)), (116, (-1)), (117, (nI fu)), (118, rs0), (119, uc0), (125, nw), (126, isn)]) (l2 := [(102, (nI op2)), (111, (nI (bf (op2 - 1)))), (115, (nI wn2)), (116, (-1)), (117, (nI fu)), (118, rs0), (119, uc0), (125, nw), (126, isn), (102, (nI op2))]) (V := [(nI op2), (nI (bf (op2 - 1))), (nI wn2), (-1), (nI fu), rs0, uc0, nw, isn, (nI op2), (nI (bf (op2 - 1))), (nI wn2), (-1), (nI fu), rs0, uc0, nw, isn, (nI op2)]) rfl rfl rfl hP
                have hD : va_D A (mW G h0 a (upd (upd (upd (upd (upd (upd (upd (upd (upd (upd F 102 (nI op2)) 111 (nI (bf (op2 - 1)))) 115 (nI wn2)) 116 (-1)) 117 (nI fu)) 118 rs0) 119 uc0) 125 nw) 126 isn) 102 (nI op2)) (updA B 66 (upd (B 66) (32 * (op2 - 1) + vc) (nI xn)))) := mW_D hD
                refine pc_V0 (G := G) (As := [.int (nI vc)]) (rest := [.ref (a 67)]) hx hb hml hown hq hE hX pX0_al hP hD hS hA hl.1 (R_at32 l G h0 a (upd (upd (upd (upd (upd (upd (upd (upd (upd F 102 (nI op2)) 111 (nI (bf (op2 - 1)))) 115 (nI wn2)) 116 (-1)) 117 (nI fu)) 118 rs0) 119 uc0) 125 nw) 126 isn) (updA B 66 (upd (B 66) (32 * (op2 - 1) + vc) (nI xn))) vc op2 (by omega) (by omega)) (gV pw_2040 pw_2041 pw_2042 pw_1523 pw_2013) hV_X12_at32 0 9 rfl rfl rfl rfl (Nat.le_of_ble_eq_true rfl) dX12_leaves_254 ⟨Nat.le_of_ble_eq_true rfl, Nat.le_of_ble_eq_true rfl⟩ ⟨Nat.le_of_ble_eq_true rfl, Nat.le_of_ble_eq_true rfl⟩ (fun v80 u78 H locs hw79 hP hD hS => ?_)
                obtain rfl : v80 = some (.int (nI (32 * (op2 - 1) + vc))) := hw79
                have hP : va_P G.1 pCl (mW G h0 a (upd (upd (upd (upd (upd (upd (upd (upd (upd F 102 (nI op2)) 111 (nI (bf (op2 - 1)))) 115 (nI wn2)) 116 (-1)) 117 (nI fu)) 118 rs0) 119 uc0) 125 nw) 126 isn) (updA B 66 (upd (B 66) (32 * (op2 - 1) + vc) (nI xn)))) _ := mW_to (F := F) (l1 := [(102, (nI op2)), (111, (nI (bf (op2 - 1)))), (115, (nI wn2)), (116, (-1)), (117, (nI fu)), (118, rs0), (119, uc0), (125, nw), (126, isn), (102, (nI op2))]) (l2 := [(102, (nI op2)), (111, (nI (bf (op2 - 1)))), (115, (nI wn2)), (116, (-1)), (117, (nI fu)), (118, rs0), (119, uc0), (125, nw), (126, isn)]) (V := [(nI op2), (nI (bf (op2 - 1))), (nI wn2), (-1), (nI fu), rs0, uc0, nw, isn, (nI op2), (nI op2), (nI (bf (op2 - 1))), (nI wn2), (-1), (nI fu), rs0, uc0, nw, isn]) rfl rfl rfl hP
                have hD : va_D A (mW G h0 a (upd (upd (upd (upd (upd (upd (upd (upd (upd F 102 (nI op2)) 111 (nI (bf (op2 - 1)))) 115 (nI wn2)) 116 (-1)) 117 (nI fu)) 118 rs0) 119 uc0) 125 nw) 126 isn) (updA B 66 (upd (B 66) (32 * (op2 - 1) + vc) (nI xn)))) := mW_D hD
                refine W.widen (k := 0) (n := 0) (Nat.le_of_ble_eq_true rfl) (Nat.le_of_ble_eq_true rfl) ?_
                refine W.eq (g2 := F0 m 257 ls [.int (nI (32 * (op2 - 1) + vc)), .ref (a 67)]) rfl ?_
                refine lv_iconst (v := 1) hx hb dX12_leaves_257 (by decide) ?_
                refine r_stz (f := (B 67)) (j := (32 * (op2 - 1) + vc)) hx hb hE hP hD hS 67 (ma_67 G a _) rfl (mas_67 G a _) (by omega) (by decide) dX12_leaves_258 (fun H locs hP hD hS => ?_)
                refine lv_aload_n hx hb dX12_leaves_259 rfl (lv_at hl 8 rfl) ?_
                refine r_get (v := .ref (a 63)) hx hb hown hq hE hP 104 202 tFX12_104 (by decide) pw_1495 rfl dX12_leaves_260 ?_
                refine lv_aload_n hx hb dX12_leaves_263 rfl (lv_at hl 8 rfl) ?_
                refine r_get (v := .int (nI op2)) hx hb hown hq hE hP 102 707 tFX12_102 (by decide) pw_1969 rfl dX12_leaves_264 ?_
                refine lv_iconst (v := 1) hx hb dX12_leaves_267 (by decide) ?_
                refine lv_isub hx hb dX12_leaves_268 ?_
                refine lv_topi (fun x81 e82 => ?_)
                obtain rfl : x81 = nI (op2 - 1) := e82.trans (nI_subN (a := 1) (b := op2) (by omega))
                refine lv_aload_n hx hb dX12_leaves_269 rfl (lv_at hl 8 rfl) ?_
                refine r_get (v := .ref (a 18)) hx hb hown hq hE hP 26 65 tFX12_26 (by decide) pw_1448 rfl dX12_leaves_270 ?_
                refine lv_iload hx hb dX12_leaves_273 (lv_at hl 2 rfl) ?_
                refine r_ldi (f := (B 18)) (j := hc9) hx hb hE hP 18 (ma_18 G a _) rfl (by omega) (by decide) dX12_leaves_275 ?_
                refine lv_topi (fun x83 e84 => ?_)
                obtain rfl : x83 = nI vc := e84.trans hg1
                refine lv_iconst (v := 1) hx hb dX12_leaves_276 (by decide) ?_
                refine lv_iadd hx hb dX12_leaves_277 ?_
                refine lv_topi (fun x85 e86 => ?_)
                obtain rfl : x85 = nI (vc + 1) := e86.trans (nI_add (vc) (1))
                refine r_sti (f := (B 63)) (j := (op2 - 1)) hx hb hE hP hD hS 63 (ma_63 G a _) rfl (mas_63 G a _) (by omega) (by decide) dX12_leaves_278 (fun H locs hP hD hS => ?_)
                refine lv_aload_n hx hb dX12_leaves_279 rfl (lv_at hl 8 rfl) ?_
                refine lv_aload_n hx hb dX12_leaves_280 rfl (lv_at hl 8 rfl) ?_
                refine r_get (v := .ref (a 13)) hx hb hown hq hE hP 21 50 tFX12_21 (by decide) pw_1443 rfl dX12_leaves_281 ?_
                refine lv_iload hx hb dX12_leaves_284 (lv_at hl 2 rfl) ?_
                refine r_ldi (f := (B 13)) (j := hc9) hx hb hE hP 13 (ma_13 G a _) rfl (by omega) (by decide) dX12_leaves_286 ?_
                refine lv_topi (fun x87 e88 => ?_)
                obtain rfl : x87 = nI jc := e88.trans ((congrFun hw13 _).trans hg4)
                have hP : va_P G.1 pCl (mW G h0 a (upd (upd (upd (upd (upd (upd (upd (upd (upd F 102 (nI op2)) 111 (nI (bf (op2 - 1)))) 115 (nI wn2)) 116 (-1)) 117 (nI fu)) 118 rs0) 119 uc0) 125 nw) 126 isn) (updA (updA (updA B 63 (upd (B 63) (op2 - 1) (nI (vc + 1)))) 66 (upd (B 66) (32 * (op2 - 1) + vc) (nI xn))) 67 (upd (B 67) (32 * (op2 - 1) + vc) 1))) _ := mW_to (F := F) (l1 := [(102, (nI op2)), (111, (nI (bf (op2 - 1)))), (115, (nI wn2)), (116, (-1)), (117, (nI fu)), (118, rs0), (119, uc0), (125, nw), (126, isn)]) (l2 := [(102, (nI op2)), (111, (nI (bf (op2 - 1)))), (115, (nI wn2)), (116, (-1)), (117, (nI fu)), (118, rs0), (119, uc0), (125, nw), (126, isn)]) (V := [(nI op2), (nI (bf (op2 - 1))), (nI wn2), (-1), (nI fu), rs0, uc0, nw, isn, (nI op2), (nI (bf (op2 - 1))), (nI wn2), (-1), (nI fu), rs0, uc0, nw, isn]) rfl rfl (show (updA (updA (updA B 66 (upd (B 66) (32 * (op2 - 1) + vc) (nI xn))) 67 (upd (B 67) (32 * (op2 - 1) + vc) 1)) 63 (upd (B 63) (op2 - 1) (nI (vc + 1)))) = (updA (updA (updA B 63 (upd (B 63) (op2 - 1) (nI (vc + 1)))) 66 (upd (B 66) (32 * (op2 - 1) + vc) (nI xn))) 67 (upd (B 67) (32 * (op2 - 1) + vc) 1)) from updsA_eq2 (F := B) (l1 := [(66, (upd (B 66) (32 * (op2 - 1) + vc) (nI xn))), (67, (upd (B 67) (32 * (op2 - 1) + vc) 1)), (63, (upd (B 63) (op2 - 1) (nI (vc + 1))))]) (l2 := [(63, (upd (B 63) (op2 - 1) (nI (vc + 1)))), (66, (upd (B 66) (32 * (op2 - 1) + vc) (nI xn))), (67, (upd (B 67) (32 * (op2 - 1) + vc) 1))]) (V := [(upd (B 66) (32 * (op2 - 1) + vc) (nI xn)), (upd (B 67) (32 * (op2 - 1) + vc) 1), (upd (B 63) (op2 - 1) (nI (vc + 1))), (upd (B 63) (op2 - 1) (nI (vc + 1))), (upd (B 66) (32 * (op2 - 1) + vc) (nI xn)), (upd (B 67) (32 * (op2 - 1) + vc) 1)]) rfl rfl) hP
                have hD : va_D A (mW G h0 a (upd (upd (upd (upd (upd (upd (upd (upd (upd F 102 (nI op2)) 111 (nI (bf (op2 - 1)))) 115 (nI wn2)) 116 (-1)) 117 (nI fu)) 118 rs0) 119 uc0) 125 nw) 126 isn) (updA (updA (updA B 63 (upd (B 63) (op2 - 1) (nI (vc + 1)))) 66 (upd (B 66) (32 * (op2 - 1) + vc) (nI xn))) 67 (upd (B 67) (32 * (op2 - 1) + vc) 1))) := mW_D hD
                refine pc_V0 (G := G) (As := [.int (nI jc)]) (rest := []) hx hb hml hown hq hE hX pX0_al hP hD hS hA hl.1 (R_begin l G h0 a (upd (upd (upd (upd (upd (upd (upd (upd (upd F 102 (nI op2)) 111 (nI (bf (op2 - 1)))) 115 (nI wn2)) 116 (-1)) 117 (nI fu)) 118 rs0) 119 uc0) 125 nw) 126 isn) (updA (updA (updA B 63 (upd (B 63) (op2 - 1) (nI (vc + 1)))) 66 (upd (B 66) (32 * (op2 - 1) + vc) (nI xn))) 67 (upd (B 67) (32 * (op2 - 1) + vc) 1)) (nI jc)) (gV pw_2016 pw_2017 pw_2018 pw_1523 pw_2002) hV_X12_begin 0 9 rfl rfl rfl rfl (Nat.le_of_ble_eq_true rfl) dX12_leaves_287 ⟨Nat.le_of_ble_eq_true rfl, Nat.le_of_ble_eq_true rfl⟩ ⟨Nat.le_of_ble_eq_true rfl, Nat.le_of_ble_eq_true rfl⟩ (fun v91 u89 H locs hw90 hP hD hS => ?_)
                obtain rfl : v91 = none := hw90
                have hP : va_P G.1 pCl (mW G h0 a (upd (upd (upd (upd (upd (upd (upd (upd (upd F 102 (nI op2)) 111 (nI (bf (op2 - 1)))) 115 (nI wn2)) 116 (-1)) 117 (nI fu)) 118 rs0) 119 uc0) 125 (nI jc)) 126 1) (updA (updA (updA B 63 (upd (B 63) (op2 - 1) (nI (vc + 1)))) 66 (upd (B 66) (32 * (op2 - 1) + vc) (nI xn))) 67 (upd (B 67) (32 * (op2 - 1) + vc) 1))) _ := mW_to (F := F) (l1 := [(102, (nI op2)), (111, (nI (bf (op2 - 1)))), (115, (nI wn2)), (116, (-1)), (117, (nI fu)), (118, rs0), (119, uc0), (125, nw), (126, isn), (125, (nI jc)), (126, 1)]) (l2 := [(102, (nI op2)), (111, (nI (bf (op2 - 1)))), (115, (nI wn2)), (116, (-1)), (117, (nI fu)), (118, rs0), (119, uc0), (125, (nI jc)), (126, 1)]) (V := [(nI op2), (nI (bf (op2 - 1))), (nI wn2), (-1), (nI fu), rs0, uc0, (nI jc), 1, (nI jc), 1, (nI op2), (nI (bf (op2 - 1))), (nI wn2), (-1), (nI fu), rs0, uc0, (nI jc), 1]) rfl rfl rfl hP
                have hD : va_D A (mW G h0 a (upd (upd (upd (upd (upd (upd (upd (upd (upd F 102 (nI op2)) 111 (nI (bf (op2 - 1)))) 115 (nI wn2)) 116 (-1)) 117 (nI fu)) 118 rs0) 119 uc0) 125 (nI jc)) 126 1) (updA (updA (updA B 63 (upd (B 63) (op2 - 1) (nI (vc + 1)))) 66 (upd (B 66) (32 * (op2 - 1) + vc) (nI xn))) 67 (upd (B 67) (32 * (op2 - 1) + vc) 1))) := mW_D hD
                refine W.widen (k := 0) (n := 0) (Nat.le_of_ble_eq_true rfl) (Nat.le_of_ble_eq_true rfl) ?_
                refine W.eq (g2 := F0 m 290 ls []) rfl ?_
                refine lv_goto (tgt := 308) hx hb dX12_leaves_290 (by decide) ?_
                refine lv_goto (tgt := 357) hx hb dX12_leaves_308 (by decide) ?_
                refine lv_goto (tgt := 6) hx hb dX12_leaves_357 (by decide) ?_
                refine lv_iload hx hb dX12_leaves_6 (lv_at hl 1 rfl) ?_
                refine lv_if_eq (tgt := 360) hx hb dX12_leaves_8 (by decide) (fun c92 => ?_) (fun c92 => absurd c92 (by decide))
                have hz93 : Nx Xs (updA (updA (updA B 63 (upd (B 63) (op2 - 1) (nI (vc + 1)))) 66 (upd (B 66) (32 * (op2 - 1) + vc) (nI xn))) 67 (upd (B 67) (32 * (op2 - 1) + vc) 1)) gh nd T nm wr lz dc fd md pr bk M rmm fu mu op2 (bf (op2 - 1)) wn2 fu rd on idn fl ct ((-1) : Int32) (nI jc) (1 : Int32) uc0 := (hg6 _ upd_eq (fun i h => if_neg h))
                have hP : va_P G.1 pCl (mW G h0 a (upd (upd (upd (upd (upd (upd (upd (upd (upd F 102 (nI op2)) 111 (nI (bf (op2 - 1)))) 115 (nI wn2)) 116 ((-1) : Int32)) 117 (nI fu)) 118 rs0) 119 uc0) 125 (nI jc)) 126 (1 : Int32)) (updA (updA (updA B 63 (upd (B 63) (op2 - 1) (nI (vc + 1)))) 66 (upd (B 66) (32 * (op2 - 1) + vc) (nI xn))) 67 (upd (B 67) (32 * (op2 - 1) + vc) 1))) _ := mW_to (F := F) (l1 := [(102, (nI op2)), (111, (nI (bf (op2 - 1)))), (115, (nI wn2)), (116, (-1)), (117, (nI fu)), (118, rs0), (119, uc0), (125, (nI jc)), (126, 1)]) (l2 := [(102, (nI op2)), (111, (nI (bf (op2 - 1)))), (115, (nI wn2)), (116, ((-1) : Int32)), (117, (nI fu)), (118, rs0), (119, uc0), (125, (nI jc)), (126, (1 : Int32))]) (V := [(nI op2), (nI (bf (op2 - 1))), (nI wn2), ((-1) : Int32), (nI fu), rs0, uc0, (nI jc), (1 : Int32), (nI op2), (nI (bf (op2 - 1))), (nI wn2), ((-1) : Int32), (nI fu), rs0, uc0, (nI jc), (1 : Int32)]) rfl rfl rfl hP
                have hD : va_D A (mW G h0 a (upd (upd (upd (upd (upd (upd (upd (upd (upd F 102 (nI op2)) 111 (nI (bf (op2 - 1)))) 115 (nI wn2)) 116 ((-1) : Int32)) 117 (nI fu)) 118 rs0) 119 uc0) 125 (nI jc)) 126 (1 : Int32)) (updA (updA (updA B 63 (upd (B 63) (op2 - 1) (nI (vc + 1)))) 66 (upd (B 66) (32 * (op2 - 1) + vc) (nI xn))) 67 (upd (B 67) (32 * (op2 - 1) + vc) 1))) := mW_D hD
                exact W.vret hx hb hr (fun t9 ht9 hW9 => ⟨⟨_, (op2, (bf (op2 - 1)), wn2, fu, ((-1) : Int32), (nI jc), (1 : Int32), rs0, uc0, (updA (updA (updA B 63 (upd (B 63) (op2 - 1) (nI (vc + 1)))) 66 (upd (B 66) (32 * (op2 - 1) + vc) (nI xn))) 67 (upd (B 67) (32 * (op2 - 1) + vc) 1))), rfl, ⟨rfl, hz93⟩, by rw [ht9]; exact hP, hD⟩, hS.F ht9⟩) hS.2.2 dX12_leaves_360
          · obtain ⟨hw1, hm1, hm2⟩ := hL2.mv3 hp4 hp3 ekp c30.symm
            refine lv_aload_n hx hb dX12_leaves_132 rfl (lv_at hl 7 rfl) ?_
            refine lv_dup hx hb dX12_leaves_133 rfl ?_
            refine r_get (v := .int (nI wn2)) hx hb hown hq hE hP 115 713 tFX12_115 (by decide) pw_1970 rfl dX12_leaves_134 ?_
            refine lv_iconst (v := 1) hx hb dX12_leaves_137 (by decide) ?_
            refine lv_isub hx hb dX12_leaves_138 ?_
            refine lv_topi (fun x94 e95 => ?_)
            obtain rfl : x94 = nI (wn2 - 1) := e95.trans (nI_subN (a := 1) (b := wn2) (by omega))
            refine r_put (v := (nI (wn2 - 1))) (ty := .int) hx hb hown hq hE hP hD hS 115 713 tFX12_115 (by decide) pw_1970 (by decide) rfl rfl (ms_115 a _ _) dX12_leaves_139 (fun H locs hP hD hS => ?_)
            refine lv_iload hx hb dX12_leaves_142 (lv_at hl 0 rfl) ?_
            refine lv_istore (lv' := [(5, .int (nI p2)), (7, .int (nI p2)), (6, .int 1), (4, .int 1), (3, .int (nI xn)), (2, .int 1), (1, .int (nI c9)), (0, .ref h0)]) hx hb dX12_leaves_144 hl (by decide) rfl (fun ls hl => ?_)
            refine lv_goto (tgt := 357) hx hb dX12_leaves_146 (by decide) ?_
            refine lv_goto (tgt := 6) hx hb dX12_leaves_357 (by decide) ?_
            have hr96 := hm1.room
            have hP : va_P G.1 pCl (mW G h0 a (upd (upd (upd (upd (upd (upd (upd (upd (upd F 102 (nI op2)) 111 (nI (bf (op2 - 1)))) 115 (nI (wn2 - 1))) 116 (-1)) 117 (nI fu)) 118 rs0) 119 uc0) 125 nw) 126 isn) B) _ := hP
            have hD : va_D A (mW G h0 a (upd (upd (upd (upd (upd (upd (upd (upd (upd F 102 (nI op2)) 111 (nI (bf (op2 - 1)))) 115 (nI (wn2 - 1))) 116 (-1)) 117 (nI fu)) 118 rs0) 119 uc0) 125 nw) 126 isn) B) := mW_D hD
            exact ih_o (400 * (100 - op2) + gh 1 p2) op2 (wn2 - 1) p2 (yyU yy2 (op2 - 1) u2) (nI (bf (op2 - 1))) _ _ _ (by omega) (by omega) hm1 ⟨rfl, hr96.2.2.2.2.2.2.2.1, hr96.1, hr96.2.1, hr96.2.2.1, hr96.2.2.2.2.1⟩ hP hD hS (lv_sub hl [2, 0, 3, 4, 5, 6, 7] rfl)
        · refine lv_istore (lv' := [(7, .int (nI p2)), (6, .int 1), (5, .int (nI c2)), (4, .int 1), (3, .int (nI xn)), (2, .int 1), (1, .int (nI c9)), (0, .ref h0)]) hx hb dX12_leaves_33 hl (by decide) rfl (fun ls hl => ?_)
          refine lv_iload hx hb dX12_leaves_35 (lv_at hl 0 rfl) ?_
          refine lv_iconst (v := (-1)) hx hb dX12_leaves_37 (by decide) ?_
          refine lv_icmp_ne (tgt := 59) hx hb dX12_leaves_38 (by decide) (fun c97 => ?_) (fun c97 => absurd c97 (nI_m1 (by omega)))
          refine lv_iload hx hb dX12_leaves_59 (lv_at hl 0 rfl) ?_
          refine lv_iconst (v := (-1)) hx hb dX12_leaves_61 (by decide) ?_
          refine lv_icmp_ne (tgt := 108) hx hb dX12_leaves_62 (by decide) (fun c98 => ?_) (fun c98 => absurd c98 (nI_m1 (by omega)))
          refine lv_aload_n hx hb dX12_leaves_108 rfl (lv_at hl 7 rfl) ?_
          refine r_get (v := .ref (a 9)) hx hb hown hq hE hP 17 38 tFX12_17 (by decide) pw_1439 rfl dX12_leaves_109 ?_
          refine lv_iload hx hb dX12_leaves_112 (lv_at hl 0 rfl) ?_
          refine r_ldi (f := (B 9)) (j := p2) hx hb hE hP 9 (ma_9 G a _) rfl (by omega) (by decide) dX12_leaves_114 ?_
          refine lv_topi (fun x99 e100 => ?_)
          obtain rfl : x99 = 35 := e100.trans ((congrFun hw9 _).trans ekp)
          refine lv_bipush (v := 41) hx hb dX12_leaves_115 (by decide) ?_
          refine lv_icmp_ne (tgt := 149) hx hb dX12_leaves_117 (by decide) (fun c101 => ?_) (fun c101 => absurd c101 (by decide))
          refine lv_aload_n hx hb dX12_leaves_149 rfl (lv_at hl 7 rfl) ?_
          refine r_get (v := .ref (a 9)) hx hb hown hq hE hP 17 38 tFX12_17 (by decide) pw_1439 rfl dX12_leaves_150 ?_
          refine lv_iload hx hb dX12_leaves_153 (lv_at hl 0 rfl) ?_
          refine r_ldi (f := (B 9)) (j := p2) hx hb hE hP 9 (ma_9 G a _) rfl (by omega) (by decide) dX12_leaves_155 ?_
          refine lv_topi (fun x102 e103 => ?_)
          obtain rfl : x102 = 35 := e103.trans ((congrFun hw9 _).trans ekp)
          refine lv_bipush (v := 41) hx hb dX12_leaves_156 (by decide) ?_
          refine lv_icmp_ne (tgt := 311) hx hb dX12_leaves_158 (by decide) (fun c104 => ?_) (fun c104 => absurd c104 (by decide))
          refine lv_aload_n hx hb dX12_leaves_311 rfl (lv_at hl 7 rfl) ?_
          refine r_get (v := .ref (a 9)) hx hb hown hq hE hP 17 38 tFX12_17 (by decide) pw_1439 rfl dX12_leaves_312 ?_
          refine lv_iload hx hb dX12_leaves_315 (lv_at hl 0 rfl) ?_
          refine r_ldi (f := (B 9)) (j := p2) hx hb hE hP 9 (ma_9 G a _) rfl (by omega) (by decide) dX12_leaves_317 ?_
          refine lv_topi (fun x105 e106 => ?_)
          obtain rfl : x105 = 35 := e106.trans ((congrFun hw9 _).trans ekp)
          refine lv_bipush (v := 35) hx hb dX12_leaves_318 (by decide) ?_
          refine lv_icmp_eq (tgt := 335) hx hb dX12_leaves_320 (by decide) (fun c107 => ?_) (fun c107 => absurd c107 (by decide))
          refine lv_iload_n hx hb dX12_leaves_335 rfl (lv_at hl 5 rfl) ?_
          refine lv_iconst (v := 3) hx hb dX12_leaves_336 (by decide) ?_
          refine lv_icmp_lt (tgt := 353) hx hb dX12_leaves_337 (by decide) (fun c108 => ?_) (fun c108 => absurd c108 (by decide))
          obtain ⟨hm1, hm2⟩ := hL2.mv2 hp4 hp3 ekp kp4 (fun h => absurd h (by omega))
          refine lv_iload hx hb dX12_leaves_353 (lv_at hl 0 rfl) ?_
          refine lv_istore (lv' := [(5, .int (nI p2)), (7, .int (nI p2)), (6, .int 1), (4, .int 1), (3, .int (nI xn)), (2, .int 1), (1, .int (nI c9)), (0, .ref h0)]) hx hb dX12_leaves_355 hl (by decide) rfl (fun ls hl => ?_)
          refine lv_goto (tgt := 6) hx hb dX12_leaves_357 (by decide) ?_
          have hr109 := hm1.room
          have hP : va_P G.1 pCl (mW G h0 a (upd (upd (upd (upd (upd (upd (upd (upd (upd F 102 (nI op2)) 111 (nI (bf (op2 - 1)))) 115 (nI wn2)) 116 (-1)) 117 (nI fu)) 118 rs0) 119 uc0) 125 nw) 126 isn) B) _ := hP
          have hD : va_D A (mW G h0 a (upd (upd (upd (upd (upd (upd (upd (upd (upd F 102 (nI op2)) 111 (nI (bf (op2 - 1)))) 115 (nI wn2)) 116 (-1)) 117 (nI fu)) 118 rs0) 119 uc0) 125 nw) 126 isn) B) := mW_D hD
          exact ih_o (400 * (100 - op2) + gh 1 p2) op2 wn2 p2 (yyU yy2 (op2 - 1) u2) (nI (bf (op2 - 1))) _ _ _ (by omega) (by omega) hm1 ⟨rfl, hr109.2.2.2.2.2.2.2.1, hr109.1, hr109.2.1, hr109.2.2.1, hr109.2.2.2.2.1⟩ hP hD hS (lv_sub hl [2, 0, 3, 4, 5, 6, 7] rfl)
        · refine lv_istore (lv' := [(7, .int (nI p2)), (6, .int 1), (5, .int (nI c2)), (4, .int 1), (3, .int (nI xn)), (2, .int 1), (1, .int (nI c9)), (0, .ref h0)]) hx hb dX12_leaves_33 hl (by decide) rfl (fun ls hl => ?_)
          refine lv_iload hx hb dX12_leaves_35 (lv_at hl 0 rfl) ?_
          refine lv_iconst (v := (-1)) hx hb dX12_leaves_37 (by decide) ?_
          refine lv_icmp_ne (tgt := 59) hx hb dX12_leaves_38 (by decide) (fun c110 => ?_) (fun c110 => absurd c110 (nI_m1 (by omega)))
          refine lv_iload hx hb dX12_leaves_59 (lv_at hl 0 rfl) ?_
          refine lv_iconst (v := (-1)) hx hb dX12_leaves_61 (by decide) ?_
          refine lv_icmp_ne (tgt := 108) hx hb dX12_leaves_62 (by decide) (fun c111 => ?_) (fun c111 => absurd c111 (nI_m1 (by omega)))
          refine lv_aload_n hx hb dX12_leaves_108 rfl (lv_at hl 7 rfl) ?_
          refine r_get (v := .ref (a 9)) hx hb hown hq hE hP 17 38 tFX12_17 (by decide) pw_1439 rfl dX12_leaves_109 ?_
          refine lv_iload hx hb dX12_leaves_112 (lv_at hl 0 rfl) ?_
          refine r_ldi (f := (B 9)) (j := p2) hx hb hE hP 9 (ma_9 G a _) rfl (by omega) (by decide) dX12_leaves_114 ?_
          refine lv_topi (fun x112 e113 => ?_)
          obtain rfl : x112 = 36 := e113.trans ((congrFun hw9 _).trans ekp)
          refine lv_bipush (v := 41) hx hb dX12_leaves_115 (by decide) ?_
          refine lv_icmp_ne (tgt := 149) hx hb dX12_leaves_117 (by decide) (fun c114 => ?_) (fun c114 => absurd c114 (by decide))
          refine lv_aload_n hx hb dX12_leaves_149 rfl (lv_at hl 7 rfl) ?_
          refine r_get (v := .ref (a 9)) hx hb hown hq hE hP 17 38 tFX12_17 (by decide) pw_1439 rfl dX12_leaves_150 ?_
          refine lv_iload hx hb dX12_leaves_153 (lv_at hl 0 rfl) ?_
          refine r_ldi (f := (B 9)) (j := p2) hx hb hE hP 9 (ma_9 G a _) rfl (by omega) (by decide) dX12_leaves_155 ?_
          refine lv_topi (fun x115 e116 => ?_)
          obtain rfl : x115 = 36 := e116.trans ((congrFun hw9 _).trans ekp)
          refine lv_bipush (v := 41) hx hb dX12_leaves_156 (by decide) ?_
          refine lv_icmp_ne (tgt := 311) hx hb dX12_leaves_158 (by decide) (fun c117 => ?_) (fun c117 => absurd c117 (by decide))
          refine lv_aload_n hx hb dX12_leaves_311 rfl (lv_at hl 7 rfl) ?_
          refine r_get (v := .ref (a 9)) hx hb hown hq hE hP 17 38 tFX12_17 (by decide) pw_1439 rfl dX12_leaves_312 ?_
          refine lv_iload hx hb dX12_leaves_315 (lv_at hl 0 rfl) ?_
          refine r_ldi (f := (B 9)) (j := p2) hx hb hE hP 9 (ma_9 G a _) rfl (by omega) (by decide) dX12_leaves_317 ?_
          refine lv_topi (fun x118 e119 => ?_)
          obtain rfl : x118 = 36 := e119.trans ((congrFun hw9 _).trans ekp)
          refine lv_bipush (v := 35) hx hb dX12_leaves_318 (by decide) ?_
          refine lv_icmp_eq (tgt := 335) hx hb dX12_leaves_320 (by decide) (fun c120 => absurd c120 (by decide)) (fun c120 => ?_)
          refine lv_aload_n hx hb dX12_leaves_323 rfl (lv_at hl 7 rfl) ?_
          refine r_get (v := .ref (a 9)) hx hb hown hq hE hP 17 38 tFX12_17 (by decide) pw_1439 rfl dX12_leaves_324 ?_
          refine lv_iload hx hb dX12_leaves_327 (lv_at hl 0 rfl) ?_
          refine r_ldi (f := (B 9)) (j := p2) hx hb hE hP 9 (ma_9 G a _) rfl (by omega) (by decide) dX12_leaves_329 ?_
          refine lv_topi (fun x121 e122 => ?_)
          obtain rfl : x121 = 36 := e122.trans ((congrFun hw9 _).trans ekp)
          refine lv_bipush (v := 36) hx hb dX12_leaves_330 (by decide) ?_
          refine lv_icmp_ne (tgt := 353) hx hb dX12_leaves_332 (by decide) (fun c123 => absurd c123 (by decide)) (fun c123 => ?_)
          refine lv_iload_n hx hb dX12_leaves_335 rfl (lv_at hl 5 rfl) ?_
          refine lv_iconst (v := 3) hx hb dX12_leaves_336 (by decide) ?_
          refine lv_icmp_lt (tgt := 353) hx hb dX12_leaves_337 (by decide) (fun c124 => ?_) (fun c124 => absurd c124 (by decide))
          obtain ⟨hm1, hm2⟩ := hL2.mv2 hp4 hp3 ekp kp4 (fun h => absurd h (by omega))
          refine lv_iload hx hb dX12_leaves_353 (lv_at hl 0 rfl) ?_
          refine lv_istore (lv' := [(5, .int (nI p2)), (7, .int (nI p2)), (6, .int 1), (4, .int 1), (3, .int (nI xn)), (2, .int 1), (1, .int (nI c9)), (0, .ref h0)]) hx hb dX12_leaves_355 hl (by decide) rfl (fun ls hl => ?_)
          refine lv_goto (tgt := 6) hx hb dX12_leaves_357 (by decide) ?_
          have hr125 := hm1.room
          have hP : va_P G.1 pCl (mW G h0 a (upd (upd (upd (upd (upd (upd (upd (upd (upd F 102 (nI op2)) 111 (nI (bf (op2 - 1)))) 115 (nI wn2)) 116 (-1)) 117 (nI fu)) 118 rs0) 119 uc0) 125 nw) 126 isn) B) _ := hP
          have hD : va_D A (mW G h0 a (upd (upd (upd (upd (upd (upd (upd (upd (upd F 102 (nI op2)) 111 (nI (bf (op2 - 1)))) 115 (nI wn2)) 116 (-1)) 117 (nI fu)) 118 rs0) 119 uc0) 125 nw) 126 isn) B) := mW_D hD
          exact ih_o (400 * (100 - op2) + gh 1 p2) op2 wn2 p2 (yyU yy2 (op2 - 1) u2) (nI (bf (op2 - 1))) _ _ _ (by omega) (by omega) hm1 ⟨rfl, hr125.2.2.2.2.2.2.2.1, hr125.1, hr125.2.1, hr125.2.2.1, hr125.2.2.2.2.1⟩ hP hD hS (lv_sub hl [2, 0, 3, 4, 5, 6, 7] rfl)
        · refine lv_istore (lv' := [(7, .int (nI p2)), (6, .int 1), (5, .int (nI c2)), (4, .int 1), (3, .int (nI xn)), (2, .int 1), (1, .int (nI c9)), (0, .ref h0)]) hx hb dX12_leaves_33 hl (by decide) rfl (fun ls hl => ?_)
          refine lv_iload hx hb dX12_leaves_35 (lv_at hl 0 rfl) ?_
          refine lv_iconst (v := (-1)) hx hb dX12_leaves_37 (by decide) ?_
          refine lv_icmp_ne (tgt := 59) hx hb dX12_leaves_38 (by decide) (fun c126 => ?_) (fun c126 => absurd c126 (nI_m1 (by omega)))
          refine lv_iload hx hb dX12_leaves_59 (lv_at hl 0 rfl) ?_
          refine lv_iconst (v := (-1)) hx hb dX12_leaves_61 (by decide) ?_
          refine lv_icmp_ne (tgt := 108) hx hb dX12_leaves_62 (by decide) (fun c127 => ?_) (fun c127 => absurd c127 (nI_m1 (by omega)))
          refine lv_aload_n hx hb dX12_leaves_108 rfl (lv_at hl 7 rfl) ?_
          refine r_get (v := .ref (a 9)) hx hb hown hq hE hP 17 38 tFX12_17 (by decide) pw_1439 rfl dX12_leaves_109 ?_
          refine lv_iload hx hb dX12_leaves_112 (lv_at hl 0 rfl) ?_
          refine r_ldi (f := (B 9)) (j := p2) hx hb hE hP 9 (ma_9 G a _) rfl (by omega) (by decide) dX12_leaves_114 ?_
          refine lv_topi (fun x128 e129 => ?_)
          obtain rfl : x128 = nI kp := e129.trans ((congrFun hw9 _).trans ekp)
          refine lv_bipush (v := 41) hx hb dX12_leaves_115 (by decide) ?_
          refine lv_icmp_ne (tgt := 149) hx hb dX12_leaves_117 (by decide) (fun c130 => ?_) (fun c130 => (by have n131 : kp = 41 := (nI_eq (a := kp) (b := 41) (by omega) (by omega)).mp c130; omega))
          refine lv_aload_n hx hb dX12_leaves_149 rfl (lv_at hl 7 rfl) ?_
          refine r_get (v := .ref (a 9)) hx hb hown hq hE hP 17 38 tFX12_17 (by decide) pw_1439 rfl dX12_leaves_150 ?_
          refine lv_iload hx hb dX12_leaves_153 (lv_at hl 0 rfl) ?_
          refine r_ldi (f := (B 9)) (j := p2) hx hb hE hP 9 (ma_9 G a _) rfl (by omega) (by decide) dX12_leaves_155 ?_
          refine lv_topi (fun x132 e133 => ?_)
          obtain rfl : x132 = nI kp := e133.trans ((congrFun hw9 _).trans ekp)
          refine lv_bipush (v := 41) hx hb dX12_leaves_156 (by decide) ?_
          refine lv_icmp_ne (tgt := 311) hx hb dX12_leaves_158 (by decide) (fun c134 => ?_) (fun c134 => (by have n135 : kp = 41 := (nI_eq (a := kp) (b := 41) (by omega) (by omega)).mp c134; omega))
          refine lv_aload_n hx hb dX12_leaves_311 rfl (lv_at hl 7 rfl) ?_
          refine r_get (v := .ref (a 9)) hx hb hown hq hE hP 17 38 tFX12_17 (by decide) pw_1439 rfl dX12_leaves_312 ?_
          refine lv_iload hx hb dX12_leaves_315 (lv_at hl 0 rfl) ?_
          refine r_ldi (f := (B 9)) (j := p2) hx hb hE hP 9 (ma_9 G a _) rfl (by omega) (by decide) dX12_leaves_317 ?_
          refine lv_topi (fun x136 e137 => ?_)
          obtain rfl : x136 = nI kp := e137.trans ((congrFun hw9 _).trans ekp)
          refine lv_bipush (v := 35) hx hb dX12_leaves_318 (by decide) ?_
          refine lv_icmp_eq (tgt := 335) hx hb dX12_leaves_320 (by decide) (fun c138 => (by have n139 : kp = 35 := (nI_eq (a := kp) (b := 35) (by omega) (by omega)).mp c138; omega)) (fun c138 => ?_)
          refine lv_aload_n hx hb dX12_leaves_323 rfl (lv_at hl 7 rfl) ?_
          refine r_get (v := .ref (a 9)) hx hb hown hq hE hP 17 38 tFX12_17 (by decide) pw_1439 rfl dX12_leaves_324 ?_
          refine lv_iload hx hb dX12_leaves_327 (lv_at hl 0 rfl) ?_
          refine r_ldi (f := (B 9)) (j := p2) hx hb hE hP 9 (ma_9 G a _) rfl (by omega) (by decide) dX12_leaves_329 ?_
          refine lv_topi (fun x140 e141 => ?_)
          obtain rfl : x140 = nI kp := e141.trans ((congrFun hw9 _).trans ekp)
          refine lv_bipush (v := 36) hx hb dX12_leaves_330 (by decide) ?_
          refine lv_icmp_ne (tgt := 353) hx hb dX12_leaves_332 (by decide) (fun c142 => ?_) (fun c142 => (by have n143 : kp = 36 := (nI_eq (a := kp) (b := 36) (by omega) (by omega)).mp c142; omega))
          obtain ⟨hm1, hm2⟩ := hL2.mv2 hp4 hp3 ekp kp4 (fun h => absurd h (by omega))
          refine lv_iload hx hb dX12_leaves_353 (lv_at hl 0 rfl) ?_
          refine lv_istore (lv' := [(5, .int (nI p2)), (7, .int (nI p2)), (6, .int 1), (4, .int 1), (3, .int (nI xn)), (2, .int 1), (1, .int (nI c9)), (0, .ref h0)]) hx hb dX12_leaves_355 hl (by decide) rfl (fun ls hl => ?_)
          refine lv_goto (tgt := 6) hx hb dX12_leaves_357 (by decide) ?_
          have hr144 := hm1.room
          have hP : va_P G.1 pCl (mW G h0 a (upd (upd (upd (upd (upd (upd (upd (upd (upd F 102 (nI op2)) 111 (nI (bf (op2 - 1)))) 115 (nI wn2)) 116 (-1)) 117 (nI fu)) 118 rs0) 119 uc0) 125 nw) 126 isn) B) _ := hP
          have hD : va_D A (mW G h0 a (upd (upd (upd (upd (upd (upd (upd (upd (upd F 102 (nI op2)) 111 (nI (bf (op2 - 1)))) 115 (nI wn2)) 116 (-1)) 117 (nI fu)) 118 rs0) 119 uc0) 125 nw) 126 isn) B) := mW_D hD
          exact ih_o (400 * (100 - op2) + gh 1 p2) op2 wn2 p2 (yyU yy2 (op2 - 1) u2) (nI (bf (op2 - 1))) _ _ _ (by omega) (by omega) hm1 ⟨rfl, hr144.2.2.2.2.2.2.2.1, hr144.1, hr144.2.1, hr144.2.2.1, hr144.2.2.2.2.1⟩ hP hD hS (lv_sub hl [2, 0, 3, 4, 5, 6, 7] rfl)
  have hP : va_P G.1 pCl (mW G h0 a (upd (upd (upd (upd (upd (upd (upd (upd (upd F 102 (nI op)) 111 tx) 115 (nI wn)) 116 (-1)) 117 (nI fu)) 118 rs0) 119 uc0) 125 nw) 126 isn) B) _ := hP
  have hD : va_D A (mW G h0 a (upd (upd (upd (upd (upd (upd (upd (upd (upd F 102 (nI op)) 111 tx) 115 (nI wn)) 116 (-1)) 117 (nI fu)) 118 rs0) 119 uc0) 125 nw) 126 isn) B) := mW_D hD
  exact loop_o (40400 + 1) (400 * (100 - op) + gh 1 c9) op wn c9 yy tx _ _ _ (by have z := hL.room; omega) (by omega) hL (by have z := hL.room; exact ⟨rfl, z.2.2.2.2.2.2.2.1, z.1, z.2.1, z.2.2.1, z.2.2.2.2.1⟩) hP hD hS (lv_sub hl [0, 1, 6, 5, 4, 3, 2] rfl)

theorem dX12_operand_9 : decode cX12_operand 9 = .ok (.aload_n 0, 1) := by decide +kernel
theorem dX12_operand_10 : decode cX12_operand 10 = .ok (.invokevirtual 450, 3) := by decide +kernel
theorem dX12_operand_13 : decode cX12_operand 13 = .ok (.ifCond .ne 10, 3) := by decide +kernel
theorem dX12_operand_23 : decode cX12_operand 23 = .ok (.aload_n 0, 1) := by decide +kernel
theorem dX12_operand_24 : decode cX12_operand 24 = .ok (.getfield 343, 3) := by decide +kernel
theorem dX12_operand_27 : decode cX12_operand 27 = .ok (.istore_n 1, 1) := by decide +kernel
theorem dX12_operand_28 : decode cX12_operand 28 = .ok (.aload_n 0, 1) := by decide +kernel
theorem dX12_operand_29 : decode cX12_operand 29 = .ok (.invokevirtual 381, 3) := by decide +kernel
theorem dX12_operand_32 : decode cX12_operand 32 = .ok (.istore_n 2, 1) := by decide +kernel
theorem dX12_operand_33 : decode cX12_operand 33 = .ok (.iload_n 2, 1) := by decide +kernel
theorem dX12_operand_34 : decode cX12_operand 34 = .ok (.bipush 40, 2) := by decide +kernel
theorem dX12_operand_36 : decode cX12_operand 36 = .ok (.if_icmp .ne 49, 3) := by decide +kernel
theorem dX12_operand_85 : decode cX12_operand 85 = .ok (.aload_n 0, 1) := by decide +kernel
theorem dX12_operand_86 : decode cX12_operand 86 = .ok (.dup, 1) := by decide +kernel
theorem dX12_operand_87 : decode cX12_operand 87 = .ok (.getfield 343, 3) := by decide +kernel
theorem dX12_operand_90 : decode cX12_operand 90 = .ok (.iconst 1, 1) := by decide +kernel
theorem dX12_operand_91 : decode cX12_operand 91 = .ok (.iadd, 1) := by decide +kernel
theorem dX12_operand_92 : decode cX12_operand 92 = .ok (.putfield 343, 3) := by decide +kernel
theorem dX12_operand_95 : decode cX12_operand 95 = .ok (.iload_n 2, 1) := by decide +kernel
theorem dX12_operand_96 : decode cX12_operand 96 = .ok (.lookupswitch 276 #[(1, 126), (2, 76), (318, 96), (328, 106), (330, 216), (332, 164), (333, 116), (335, 86)], 76) := by decide +kernel
theorem dX12_operand_222 : decode cX12_operand 222 = .ok (.aload_n 0, 1) := by decide +kernel
theorem dX12_operand_223 : decode cX12_operand 223 = .ok (.bipush 40, 2) := by decide +kernel
theorem dX12_operand_225 : decode cX12_operand 225 = .ok (.invokevirtual 360, 3) := by decide +kernel
theorem dX12_operand_228 : decode cX12_operand 228 = .ok (.ifCond .ne 14, 3) := by decide +kernel
theorem dX12_operand_242 : decode cX12_operand 242 = .ok (.aload_n 0, 1) := by decide +kernel
theorem dX12_operand_243 : decode cX12_operand 243 = .ok (.bipush 7, 2) := by decide +kernel
theorem dX12_operand_245 : decode cX12_operand 245 = .ok (.iload_n 1, 1) := by decide +kernel
theorem dX12_operand_246 : decode cX12_operand 246 = .ok (.iload_n 1, 1) := by decide +kernel
theorem dX12_operand_247 : decode cX12_operand 247 = .ok (.iconst (-1), 1) := by decide +kernel
theorem dX12_operand_248 : decode cX12_operand 248 = .ok (.iconst (-1), 1) := by decide +kernel
theorem dX12_operand_249 : decode cX12_operand 249 = .ok (.invokevirtual 428, 3) := by decide +kernel
theorem dX12_operand_252 : decode cX12_operand 252 = .ok (.istore_n 3, 1) := by decide +kernel
theorem dX12_operand_253 : decode cX12_operand 253 = .ok (.aload_n 0, 1) := by decide +kernel
theorem dX12_operand_254 : decode cX12_operand 254 = .ok (.iload_n 3, 1) := by decide +kernel
theorem dX12_operand_255 : decode cX12_operand 255 = .ok (.invokevirtual 487, 3) := by decide +kernel
theorem dX12_operand_258 : decode cX12_operand 258 = .ok (.iload_n 3, 1) := by decide +kernel
theorem dX12_operand_259 : decode cX12_operand 259 = .ok (.ireturn, 1) := by decide +kernel
theorem dX12_operand_231 : decode cX12_operand 231 = .ok (.aload_n 0, 1) := by decide +kernel
theorem dX12_operand_232 : decode cX12_operand 232 = .ok (.bipush 6, 2) := by decide +kernel
theorem dX12_operand_234 : decode cX12_operand 234 = .ok (.iload_n 1, 1) := by decide +kernel
theorem dX12_operand_235 : decode cX12_operand 235 = .ok (.iload_n 1, 1) := by decide +kernel
theorem dX12_operand_236 : decode cX12_operand 236 = .ok (.iconst (-1), 1) := by decide +kernel
theorem dX12_operand_237 : decode cX12_operand 237 = .ok (.iconst (-1), 1) := by decide +kernel
theorem dX12_operand_238 : decode cX12_operand 238 = .ok (.invokevirtual 428, 3) := by decide +kernel
theorem dX12_operand_241 : decode cX12_operand 241 = .ok (.ireturn, 1) := by decide +kernel
theorem dX12_operand_172 : decode cX12_operand 172 = .ok (.aload_n 0, 1) := by decide +kernel
theorem dX12_operand_173 : decode cX12_operand 173 = .ok (.iconst 1, 1) := by decide +kernel
theorem dX12_operand_174 : decode cX12_operand 174 = .ok (.iload_n 1, 1) := by decide +kernel
theorem dX12_operand_175 : decode cX12_operand 175 = .ok (.iload_n 1, 1) := by decide +kernel
theorem dX12_operand_176 : decode cX12_operand 176 = .ok (.iconst (-1), 1) := by decide +kernel
theorem dX12_operand_177 : decode cX12_operand 177 = .ok (.iconst (-1), 1) := by decide +kernel
theorem dX12_operand_178 : decode cX12_operand 178 = .ok (.invokevirtual 428, 3) := by decide +kernel
theorem dX12_operand_181 : decode cX12_operand 181 = .ok (.ireturn, 1) := by decide +kernel
theorem dX12_operand_192 : decode cX12_operand 192 = .ok (.aload_n 0, 1) := by decide +kernel
theorem dX12_operand_193 : decode cX12_operand 193 = .ok (.iconst 3, 1) := by decide +kernel
theorem dX12_operand_194 : decode cX12_operand 194 = .ok (.iload_n 1, 1) := by decide +kernel
theorem dX12_operand_195 : decode cX12_operand 195 = .ok (.iload_n 1, 1) := by decide +kernel
theorem dX12_operand_196 : decode cX12_operand 196 = .ok (.iconst (-1), 1) := by decide +kernel
theorem dX12_operand_197 : decode cX12_operand 197 = .ok (.iconst (-1), 1) := by decide +kernel
theorem dX12_operand_198 : decode cX12_operand 198 = .ok (.invokevirtual 428, 3) := by decide +kernel
theorem dX12_operand_201 : decode cX12_operand 201 = .ok (.ireturn, 1) := by decide +kernel
theorem dX12_operand_202 : decode cX12_operand 202 = .ok (.aload_n 0, 1) := by decide +kernel
theorem dX12_operand_203 : decode cX12_operand 203 = .ok (.iconst 4, 1) := by decide +kernel
theorem dX12_operand_204 : decode cX12_operand 204 = .ok (.iload_n 1, 1) := by decide +kernel
theorem dX12_operand_205 : decode cX12_operand 205 = .ok (.iload_n 1, 1) := by decide +kernel
theorem dX12_operand_206 : decode cX12_operand 206 = .ok (.iconst (-1), 1) := by decide +kernel
theorem dX12_operand_207 : decode cX12_operand 207 = .ok (.iconst (-1), 1) := by decide +kernel
theorem dX12_operand_208 : decode cX12_operand 208 = .ok (.invokevirtual 428, 3) := by decide +kernel
theorem dX12_operand_211 : decode cX12_operand 211 = .ok (.ireturn, 1) := by decide +kernel
theorem dX12_operand_312 : decode cX12_operand 312 = .ok (.aload_n 0, 1) := by decide +kernel
theorem dX12_operand_313 : decode cX12_operand 313 = .ok (.bipush 11, 2) := by decide +kernel
theorem dX12_operand_315 : decode cX12_operand 315 = .ok (.iload_n 1, 1) := by decide +kernel
theorem dX12_operand_316 : decode cX12_operand 316 = .ok (.iload_n 1, 1) := by decide +kernel
theorem dX12_operand_317 : decode cX12_operand 317 = .ok (.iconst (-1), 1) := by decide +kernel
theorem dX12_operand_318 : decode cX12_operand 318 = .ok (.iconst (-1), 1) := by decide +kernel
theorem dX12_operand_319 : decode cX12_operand 319 = .ok (.invokevirtual 428, 3) := by decide +kernel
theorem dX12_operand_322 : decode cX12_operand 322 = .ok (.istore_n 3, 1) := by decide +kernel
theorem dX12_operand_323 : decode cX12_operand 323 = .ok (.aload_n 0, 1) := by decide +kernel
theorem dX12_operand_324 : decode cX12_operand 324 = .ok (.getfield 350, 3) := by decide +kernel
theorem dX12_operand_327 : decode cX12_operand 327 = .ok (.ifCond .ne 17, 3) := by decide +kernel
theorem dX12_operand_330 : decode cX12_operand 330 = .ok (.aload_n 0, 1) := by decide +kernel
theorem dX12_operand_331 : decode cX12_operand 331 = .ok (.invokevirtual 381, 3) := by decide +kernel
theorem dX12_operand_334 : decode cX12_operand 334 = .ok (.bipush 40, 2) := by decide +kernel
theorem dX12_operand_336 : decode cX12_operand 336 = .ok (.if_icmp .eq 8, 3) := by decide +kernel
theorem dX12_operand_344 : decode cX12_operand 344 = .ok (.aload_n 0, 1) := by decide +kernel
theorem dX12_operand_345 : decode cX12_operand 345 = .ok (.invokevirtual 441, 3) := by decide +kernel
theorem dX12_operand_348 : decode cX12_operand 348 = .ok (.aload_n 0, 1) := by decide +kernel
theorem dX12_operand_349 : decode cX12_operand 349 = .ok (.bipush 40, 2) := by decide +kernel
theorem dX12_operand_351 : decode cX12_operand 351 = .ok (.invokevirtual 369, 3) := by decide +kernel
theorem dX12_operand_354 : decode cX12_operand 354 = .ok (.aload_n 0, 1) := by decide +kernel
theorem dX12_operand_355 : decode cX12_operand 355 = .ok (.bipush 41, 2) := by decide +kernel
theorem dX12_operand_357 : decode cX12_operand 357 = .ok (.invokevirtual 369, 3) := by decide +kernel
theorem dX12_operand_360 : decode cX12_operand 360 = .ok (.aload_n 0, 1) := by decide +kernel
theorem dX12_operand_361 : decode cX12_operand 361 = .ok (.dup, 1) := by decide +kernel
theorem dX12_operand_362 : decode cX12_operand 362 = .ok (.getfield 366, 3) := by decide +kernel
theorem dX12_operand_365 : decode cX12_operand 365 = .ok (.iconst 1, 1) := by decide +kernel
theorem dX12_operand_366 : decode cX12_operand 366 = .ok (.isub, 1) := by decide +kernel
theorem dX12_operand_367 : decode cX12_operand 367 = .ok (.putfield 366, 3) := by decide +kernel
theorem dX12_operand_370 : decode cX12_operand 370 = .ok (.iload_n 3, 1) := by decide +kernel
theorem dX12_operand_371 : decode cX12_operand 371 = .ok (.ireturn, 1) := by decide +kernel
theorem dX12_operand_339 : decode cX12_operand 339 = .ok (.aload_n 0, 1) := by decide +kernel
theorem dX12_operand_340 : decode cX12_operand 340 = .ok (.iconst 1, 1) := by decide +kernel
theorem dX12_operand_341 : decode cX12_operand 341 = .ok (.invokevirtual 356, 3) := by decide +kernel
theorem dX12_operand_260 : decode cX12_operand 260 = .ok (.aload_n 0, 1) := by decide +kernel
theorem dX12_operand_261 : decode cX12_operand 261 = .ok (.bipush 46, 2) := by decide +kernel
theorem dX12_operand_263 : decode cX12_operand 263 = .ok (.invokevirtual 369, 3) := by decide +kernel
theorem dX12_operand_266 : decode cX12_operand 266 = .ok (.aload_n 0, 1) := by decide +kernel
theorem dX12_operand_267 : decode cX12_operand 267 = .ok (.invokevirtual 375, 3) := by decide +kernel
theorem dX12_operand_270 : decode cX12_operand 270 = .ok (.istore 4, 2) := by decide +kernel
theorem dX12_operand_272 : decode cX12_operand 272 = .ok (.aload_n 0, 1) := by decide +kernel
theorem dX12_operand_273 : decode cX12_operand 273 = .ok (.bipush 8, 2) := by decide +kernel
theorem dX12_operand_275 : decode cX12_operand 275 = .ok (.iload_n 1, 1) := by decide +kernel
theorem dX12_operand_276 : decode cX12_operand 276 = .ok (.iload 4, 2) := by decide +kernel
theorem dX12_operand_278 : decode cX12_operand 278 = .ok (.iconst (-1), 1) := by decide +kernel
theorem dX12_operand_279 : decode cX12_operand 279 = .ok (.iconst (-1), 1) := by decide +kernel
theorem dX12_operand_280 : decode cX12_operand 280 = .ok (.invokevirtual 428, 3) := by decide +kernel
theorem dX12_operand_283 : decode cX12_operand 283 = .ok (.istore_n 3, 1) := by decide +kernel
theorem dX12_operand_284 : decode cX12_operand 284 = .ok (.aload_n 0, 1) := by decide +kernel
theorem dX12_operand_285 : decode cX12_operand 285 = .ok (.getfield 350, 3) := by decide +kernel
theorem dX12_operand_288 : decode cX12_operand 288 = .ok (.ifCond .ne 17, 3) := by decide +kernel
theorem dX12_operand_291 : decode cX12_operand 291 = .ok (.aload_n 0, 1) := by decide +kernel
theorem dX12_operand_292 : decode cX12_operand 292 = .ok (.invokevirtual 381, 3) := by decide +kernel
theorem dX12_operand_295 : decode cX12_operand 295 = .ok (.bipush 40, 2) := by decide +kernel
theorem dX12_operand_297 : decode cX12_operand 297 = .ok (.if_icmp .eq 8, 3) := by decide +kernel
theorem dX12_operand_305 : decode cX12_operand 305 = .ok (.aload_n 0, 1) := by decide +kernel
theorem dX12_operand_306 : decode cX12_operand 306 = .ok (.iload_n 3, 1) := by decide +kernel
theorem dX12_operand_307 : decode cX12_operand 307 = .ok (.invokevirtual 487, 3) := by decide +kernel
theorem dX12_operand_310 : decode cX12_operand 310 = .ok (.iload_n 3, 1) := by decide +kernel
theorem dX12_operand_311 : decode cX12_operand 311 = .ok (.ireturn, 1) := by decide +kernel
theorem dX12_operand_300 : decode cX12_operand 300 = .ok (.aload_n 0, 1) := by decide +kernel
theorem dX12_operand_301 : decode cX12_operand 301 = .ok (.iconst 1, 1) := by decide +kernel
theorem dX12_operand_302 : decode cX12_operand 302 = .ok (.invokevirtual 356, 3) := by decide +kernel
theorem dX12_operand_212 : decode cX12_operand 212 = .ok (.aload_n 0, 1) := by decide +kernel
theorem dX12_operand_213 : decode cX12_operand 213 = .ok (.iconst 5, 1) := by decide +kernel
theorem dX12_operand_214 : decode cX12_operand 214 = .ok (.iload_n 1, 1) := by decide +kernel
theorem dX12_operand_215 : decode cX12_operand 215 = .ok (.iload_n 1, 1) := by decide +kernel
theorem dX12_operand_216 : decode cX12_operand 216 = .ok (.iconst (-1), 1) := by decide +kernel
theorem dX12_operand_217 : decode cX12_operand 217 = .ok (.iconst (-1), 1) := by decide +kernel
theorem dX12_operand_218 : decode cX12_operand 218 = .ok (.invokevirtual 428, 3) := by decide +kernel
theorem dX12_operand_221 : decode cX12_operand 221 = .ok (.ireturn, 1) := by decide +kernel
theorem dX12_operand_182 : decode cX12_operand 182 = .ok (.aload_n 0, 1) := by decide +kernel
theorem dX12_operand_183 : decode cX12_operand 183 = .ok (.iconst 2, 1) := by decide +kernel
theorem dX12_operand_184 : decode cX12_operand 184 = .ok (.iload_n 1, 1) := by decide +kernel
theorem dX12_operand_185 : decode cX12_operand 185 = .ok (.iload_n 1, 1) := by decide +kernel
theorem dX12_operand_186 : decode cX12_operand 186 = .ok (.iconst (-1), 1) := by decide +kernel
theorem dX12_operand_187 : decode cX12_operand 187 = .ok (.iconst (-1), 1) := by decide +kernel
theorem dX12_operand_188 : decode cX12_operand 188 = .ok (.invokevirtual 428, 3) := by decide +kernel
theorem dX12_operand_191 : decode cX12_operand 191 = .ok (.ireturn, 1) := by decide +kernel
theorem dX12_operand_372 : decode cX12_operand 372 = .ok (.aload_n 0, 1) := by decide +kernel
theorem dX12_operand_373 : decode cX12_operand 373 = .ok (.iload_n 1, 1) := by decide +kernel
theorem dX12_operand_374 : decode cX12_operand 374 = .ok (.invokevirtual 490, 3) := by decide +kernel
theorem dX12_operand_377 : decode cX12_operand 377 = .ok (.ireturn, 1) := by decide +kernel
theorem dX12_operand_39 : decode cX12_operand 39 = .ok (.aload_n 0, 1) := by decide +kernel
theorem dX12_operand_40 : decode cX12_operand 40 = .ok (.invokevirtual 441, 3) := by decide +kernel
theorem dX12_operand_43 : decode cX12_operand 43 = .ok (.aload_n 0, 1) := by decide +kernel
theorem dX12_operand_44 : decode cX12_operand 44 = .ok (.dup, 1) := by decide +kernel
theorem dX12_operand_45 : decode cX12_operand 45 = .ok (.getfield 343, 3) := by decide +kernel
theorem dX12_operand_48 : decode cX12_operand 48 = .ok (.iconst 1, 1) := by decide +kernel
theorem dX12_operand_49 : decode cX12_operand 49 = .ok (.iadd, 1) := by decide +kernel
theorem dX12_operand_50 : decode cX12_operand 50 = .ok (.putfield 343, 3) := by decide +kernel
theorem dX12_operand_53 : decode cX12_operand 53 = .ok (.aload_n 0, 1) := by decide +kernel
theorem dX12_operand_54 : decode cX12_operand 54 = .ok (.bipush 16, 2) := by decide +kernel
theorem dX12_operand_56 : decode cX12_operand 56 = .ok (.iload_n 1, 1) := by decide +kernel
theorem dX12_operand_57 : decode cX12_operand 57 = .ok (.iload_n 1, 1) := by decide +kernel
theorem dX12_operand_58 : decode cX12_operand 58 = .ok (.aload_n 0, 1) := by decide +kernel
theorem dX12_operand_59 : decode cX12_operand 59 = .ok (.invokevirtual 447, 3) := by decide +kernel
theorem dX12_operand_62 : decode cX12_operand 62 = .ok (.iconst (-1), 1) := by decide +kernel
theorem dX12_operand_63 : decode cX12_operand 63 = .ok (.invokevirtual 428, 3) := by decide +kernel
theorem dX12_operand_66 : decode cX12_operand 66 = .ok (.istore_n 3, 1) := by decide +kernel
theorem dX12_operand_67 : decode cX12_operand 67 = .ok (.aload_n 0, 1) := by decide +kernel
theorem dX12_operand_68 : decode cX12_operand 68 = .ok (.bipush 41, 2) := by decide +kernel
theorem dX12_operand_70 : decode cX12_operand 70 = .ok (.invokevirtual 369, 3) := by decide +kernel
theorem dX12_operand_73 : decode cX12_operand 73 = .ok (.aload_n 0, 1) := by decide +kernel
theorem dX12_operand_74 : decode cX12_operand 74 = .ok (.dup, 1) := by decide +kernel
theorem dX12_operand_75 : decode cX12_operand 75 = .ok (.getfield 366, 3) := by decide +kernel
theorem dX12_operand_78 : decode cX12_operand 78 = .ok (.iconst 1, 1) := by decide +kernel
theorem dX12_operand_79 : decode cX12_operand 79 = .ok (.isub, 1) := by decide +kernel
theorem dX12_operand_80 : decode cX12_operand 80 = .ok (.putfield 366, 3) := by decide +kernel
theorem dX12_operand_83 : decode cX12_operand 83 = .ok (.iload_n 3, 1) := by decide +kernel
theorem dX12_operand_84 : decode cX12_operand 84 = .ok (.ireturn, 1) := by decide +kernel
theorem dX12_operand_16 : decode cX12_operand 16 = .ok (.aload_n 0, 1) := by decide +kernel
theorem dX12_operand_17 : decode cX12_operand 17 = .ok (.iconst 1, 1) := by decide +kernel
theorem dX12_operand_18 : decode cX12_operand 18 = .ok (.invokevirtual 356, 3) := by decide +kernel
theorem dX12_operand_21 : decode cX12_operand 21 = .ok (.iconst 0, 1) := by decide +kernel
theorem dX12_operand_22 : decode cX12_operand 22 = .ok (.ireturn, 1) := by decide +kernel
set_option maxHeartbeats 2000000 in
set_option maxRecDepth 100000 in
/-- operand(), no fault ahead -/
theorem RT_operand (l : Launch) (G : pT) (h0 : Nat) (a : Nat → Nat) (F : Nat → Int32) (B : Nat → Nat → Int32) (at0 : Nat) (T : Nat) (n : Nat) (ne : Nat) (nd : Nat) (wr : Nat) (lk : Nat) (K : Nat → Int32) (hat : at0 ≤ T) (hT : T ≤ 5000) (hK : K T = 0 ∨ K T = 3) (hne : ne ≤ 20) (hnd : nd ≤ 2 * at0) (hwr : wr ≤ at0) (hlk : lk ≤ 60) (hy : tkRow (B 19) wr T) (hn : 21 ≤ n + ne) (ihc : Pchoice l G (n - 1)) (ha : Parguments l G n) (hw : PnewHere l G n) : PM l G pX0 yX12_operand cX12_operand 5 (some .int) ({ frames := (20 * n + 10), cells := 0, slots := 0, locals := (1000 * n + 40 * 10) }) [.ref h0] (mW G h0 a (upd (upd (upd (upd (upd (upd F 15 0) 27 (nI nd)) 31 (nI wr)) 64 (nI at0)) 65 (nI ne)) 66 (nI lk)) (updA B 2 K)) (fun (v : Option Value) (u : Nat × Nat × Int32 × Nat × Nat × Nat × Nat × (Nat → Nat → Int32)) => v = some (.int (nI u.2.2.2.2.2.2.1)) ∧ (at0 ≤ u.1) ∧ (u.1 ≤ T) ∧ (u.2.1 ≤ 100) ∧ (nd ≤ u.2.2.2.1) ∧ (u.2.2.2.1 + 2 * at0 ≤ nd + 2 * u.1 + 100000 * u.2.1) ∧ (u.2.2.2.1 + 2 * at0 ≤ nd + 2 * u.1 + 40 * (21 - ne)) ∧ (wr ≤ u.2.2.2.2.2.1) ∧ (u.2.2.2.2.2.1 + at0 ≤ wr + u.1) ∧ (lk ≤ u.2.2.2.2.1) ∧ (u.2.2.2.2.1 ≤ 60 + 100 * u.2.1) ∧ (at0 + 1 ≤ u.1 + u.2.1) ∧ (u.2.2.2.2.2.2.1 ≤ u.2.2.2.1) ∧ (Kp B u.2.2.2.2.2.2.2 u.2.2.2.2.2.1 T) ∧ (If (u.2.1 = 0) (Low B u.2.2.2.2.2.2.2 nd wr ∧ Frs K T u.2.2.2.2.2.1 u.2.2.2.2.2.2.2 nd u.2.2.2.1 20000 [(u.2.2.2.2.2.2.1, (210 + u.2.2.2.2.1 - (10 * ne + lk)))] ∧ kcl 1 (u.2.2.2.2.2.2.2 9 u.2.2.2.2.2.2.1) = true))) (fun u => (mW G h0 a (upd (upd (upd (upd (upd (upd (upd F 15 (nI u.2.1)) 16 u.2.2.1) 27 (nI u.2.2.2.1)) 31 (nI u.2.2.2.2.2.1)) 64 (nI u.1)) 65 (nI ne)) 66 (nI u.2.2.2.2.1)) (updA u.2.2.2.2.2.2.2 2 K))) := by
  intro sz
  refine Met.ofW (cc := cX12_operand) (maxL := 5) (ret := (some .int)) (by decide) rfl ?_
  intro p e s m args below meth c s₁ B9 hml hv
  obtain ⟨rfl, hsz, hP, hD0, hE, hX⟩ := hv
  have hx := B9.exec
  have hb := B9.bytes
  have hr := B9.returns
  have hts := atoms_spec (ws := Cond.code yX12_operand cX12_operand 5 (some .int) :: pw) B9.pre
  have hq : ∀ w ∈ pw, w.before _ s = true := fun w h => hts w (List.mem_cons_of_mem _ h)
  have hown : s.vm.findClass RX12 = some m.cls := findClass_of_methodNamed B9.named
  have hlocks := B9.notSynchronized
  subst hsz
  have hD := hD0.self (sz := s.heap.size)
  have hA : ∀ q : Nat, s.heap.size ≤ q → va_A (mW G h0 a (upd (upd (upd (upd (upd (upd F 15 0) 27 (nI nd)) 31 (nI wr)) 64 (nI at0)) 65 (nI ne)) 66 (nI lk)) (updA B 2 K)) s.heap.size q := fun q h => Or.inr h
  have hP : va_P G.1 pCl (mW G h0 a (upd (upd (upd (upd (upd (upd F 15 0) 27 (nI nd)) 31 (nI wr)) 64 (nI at0)) 65 (nI ne)) 66 (nI lk)) (updA B 2 K)) s.heap := hP
  generalize va_A (mW G h0 a (upd (upd (upd (upd (upd (upd F 15 0) 27 (nI nd)) 31 (nI wr)) 64 (nI at0)) 65 (nI ne)) 66 (nI lk)) (updA B 2 K)) s.heap.size = A at hD hE hA ⊢
  have hS : va_S A s.heap s.heap [] := va_S.rf
  have hl := lv_entry ([.ref h0]) (n := 5) (Nat.le_of_ble_eq_true rfl)
  rw [lg_entry_eq]
  generalize (lg_sl ([.ref h0]) ++ List.replicate (5 - (lg_sl ([.ref h0])).length) Slot.unset).toArray = ls at hl ⊢
  have hl : lv_has ls 5 [(0, .ref h0)] := hl
  have hkp1 : Kp B B wr T := Kp.rfl hy
  have hlo2 : Low B B nd wr := Low.rfl
  refine lv_aload_n hx hb dX12_operand_0 rfl (lv_at hl 0 rfl) ?_
  refine r_get (v := .int 0) hx hb hown hq hE hP 15 350 tFX12_15 (by decide) pw_1594 rfl dX12_operand_1 ?_
  refine lv_if_le (tgt := 9) hx hb dX12_operand_4 (by decide) (fun c3 => ?_) (fun c3 => absurd c3 (by decide))
  refine lv_aload_n hx hb dX12_operand_9 rfl (lv_at hl 0 rfl) ?_
  have hP : va_P G.1 pCl (mW G h0 a (upd (upd (upd (upd (upd (upd (upd (upd F 15 0) 27 (nI nd)) 31 (nI wr)) 64 (nI at0)) 65 (nI ne)) 66 (nI lk)) 15 (nI 0)) 64 (nI at0)) (updA (updA B 2 K) 2 K)) _ := mW_to (F := F) (l1 := [(15, 0), (27, (nI nd)), (31, (nI wr)), (64, (nI at0)), (65, (nI ne)), (66, (nI lk))]) (l2 := [(15, 0), (27, (nI nd)), (31, (nI wr)), (64, (nI at0)), (65, (nI ne)), (66, (nI lk)), (15, (nI 0)), (64, (nI at0))]) (V := [(nI 0), (nI nd), (nI wr), (nI at0), (nI ne), (nI lk), (nI 0), (nI nd), (nI wr), (nI at0), (nI ne), (nI lk), (nI 0), (nI at0)]) rfl rfl (show (updA B 2 K) = (updA (updA B 2 K) 2 K) from updsA_eq2 (F := B) (l1 := [(2, K)]) (l2 := [(2, K), (2, K)]) (V := [K, K, K]) rfl rfl) hP
  have hD : va_D A (mW G h0 a (upd (upd (upd (upd (upd (upd (upd (upd F 15 0) 27 (nI nd)) 31 (nI wr)) 64 (nI at0)) 65 (nI ne)) 66 (nI lk)) 15 (nI 0)) 64 (nI at0)) (updA (updA B 2 K) 2 K)) := mW_D hD
  refine pc_V0 (G := G) (As := []) (rest := []) hx hb hml hown hq hE hX pX0_al hP hD hS hA hl.1 (R_isOperand l G h0 a (upd (upd (upd (upd (upd (upd F 15 0) 27 (nI nd)) 31 (nI wr)) 64 (nI at0)) 65 (nI ne)) 66 (nI lk)) (updA B 2 K) at0 T 0 K (by omega) (by omega) hK (by omega)) (gV pw_1675 pw_1676 pw_1677 pw_1523 pw_1636) hV_X12_isOperand 0 9 rfl rfl rfl rfl (Nat.le_of_ble_eq_true rfl) dX12_operand_10 ⟨Nat.le_of_ble_eq_true rfl, Nat.le_of_ble_eq_true rfl⟩ ⟨(by show 3 + 1 ≤ (20 * n + 10); omega), (by show 8 + (2 + 11) + 80 ≤ (1000 * n + 40 * 10); omega)⟩ (fun v6 u4 H locs hw5 hP hD hS => ?_)
  obtain ⟨r7, rfl⟩ : ∃ z, z = u4 := ⟨_, rfl⟩
  obtain ⟨hw5, h8, h9⟩ := hw5
  have h8 : r7 ≤ 1 := h8
  have h9 : at0 + r7 ≤ T := h9
  obtain rfl : v6 = some (.int (nI r7)) := hw5
  have hP : va_P G.1 pCl (mW G h0 a (upd (upd (upd (upd (upd (upd F 15 0) 27 (nI nd)) 31 (nI wr)) 64 (nI at0)) 65 (nI ne)) 66 (nI lk)) (updA B 2 K)) _ := mW_to (F := F) (l1 := [(15, 0), (27, (nI nd)), (31, (nI wr)), (64, (nI at0)), (65, (nI ne)), (66, (nI lk)), (15, (nI 0)), (64, (nI at0))]) (l2 := [(15, 0), (27, (nI nd)), (31, (nI wr)), (64, (nI at0)), (65, (nI ne)), (66, (nI lk))]) (V := [0, (nI nd), (nI wr), (nI at0), (nI ne), (nI lk), 0, (nI at0), 0, (nI nd), (nI wr), (nI at0), (nI ne), (nI lk)]) rfl rfl (show (updA (updA B 2 K) 2 K) = (updA B 2 K) from updsA_eq2 (F := B) (l1 := [(2, K), (2, K)]) (l2 := [(2, K)]) (V := [K, K, K]) rfl rfl) hP
  have hD : va_D A (mW G h0 a (upd (upd (upd (upd (upd (upd F 15 0) 27 (nI nd)) 31 (nI wr)) 64 (nI at0)) 65 (nI ne)) 66 (nI lk)) (updA B 2 K)) := mW_D hD
  refine W.widen (k := 0) (n := 0) (Nat.le_of_ble_eq_true rfl) (Nat.le_of_ble_eq_true rfl) ?_
  refine W.eq (g2 := F0 m 13 ls [.int (nI r7)]) rfl ?_
  refine lv_if_ne (tgt := 23) hx hb dX12_operand_13 (by decide) (fun c10 => ?_) (fun c10 => ?_)
  · have n11 : ¬ (r7 = 0) := fun h9 => c10 ((nI_eq (a := r7) (b := 0) (by omega) (by omega)).mpr h9)
    refine lv_aload_n hx hb dX12_operand_23 rfl (lv_at hl 0 rfl) ?_
    refine r_get (v := .int (nI at0)) hx hb hown hq hE hP 64 343 tFX12_64 (by decide) pw_1592 rfl dX12_operand_24 ?_
    refine lv_istore_n (lv' := [(1, .int (nI at0)), (0, .ref h0)]) hx hb dX12_operand_27 rfl hl (by decide) rfl (fun ls hl => ?_)
    refine lv_aload_n hx hb dX12_operand_28 rfl (lv_at hl 1 rfl) ?_
    have hP : va_P G.1 pCl (mW G h0 a (upd (upd (upd (upd (upd (upd (upd (upd F 15 0) 27 (nI nd)) 31 (nI wr)) 64 (nI at0)) 65 (nI ne)) 66 (nI lk)) 15 (nI 0)) 64 (nI at0)) (updA (updA B 2 K) 2 K)) _ := mW_to (F := F) (l1 := [(15, 0), (27, (nI nd)), (31, (nI wr)), (64, (nI at0)), (65, (nI ne)), (66, (nI lk))]) (l2 := [(15, 0), (27, (nI nd)), (31, (nI wr)), (64, (nI at0)), (65, (nI ne)), (66, (nI lk)), (15, (nI 0)), (64, (nI at0))]) (V := [(nI 0), (nI nd), (nI wr), (nI at0), (nI ne), (nI lk), (nI 0), (nI nd), (nI wr), (nI at0), (nI ne), (nI lk), (nI 0), (nI at0)]) rfl rfl (show (updA B 2 K) = (updA (updA B 2 K) 2 K) from updsA_eq2 (F := B) (l1 := [(2, K)]) (l2 := [(2, K), (2, K)]) (V := [K, K, K]) rfl rfl) hP
    have hD : va_D A (mW G h0 a (upd (upd (upd (upd (upd (upd (upd (upd F 15 0) 27 (nI nd)) 31 (nI wr)) 64 (nI at0)) 65 (nI ne)) 66 (nI lk)) 15 (nI 0)) 64 (nI at0)) (updA (updA B 2 K) 2 K)) := mW_D hD
    refine pc_V0 (G := G) (As := []) (rest := []) hx hb hml hown hq hE hX pX0_al hP hD hS hA hl.1 (R_kind l G h0 a (upd (upd (upd (upd (upd (upd F 15 0) 27 (nI nd)) 31 (nI wr)) 64 (nI at0)) 65 (nI ne)) 66 (nI lk)) (updA B 2 K) at0 T 0 K (by omega) (by omega) hK (by omega)) (gV pw_1626 pw_1627 pw_1628 pw_1523 pw_1591) hV_X12_kind 0 9 rfl rfl rfl rfl (Nat.le_of_ble_eq_true rfl) dX12_operand_29 ⟨Nat.le_of_ble_eq_true rfl, Nat.le_of_ble_eq_true rfl⟩ ⟨(by show 2 + 1 ≤ (20 * n + 10); omega), (by show 8 + (1 + 11) + 60 ≤ (1000 * n + 40 * 10); omega)⟩ (fun v14 u12 H locs hw13 hP hD hS => ?_)
    obtain rfl : v14 = some (.int (K at0)) := hw13
    have hP : va_P G.1 pCl (mW G h0 a (upd (upd (upd (upd (upd (upd F 15 0) 27 (nI nd)) 31 (nI wr)) 64 (nI at0)) 65 (nI ne)) 66 (nI lk)) (updA B 2 K)) _ := mW_to (F := F) (l1 := [(15, 0), (27, (nI nd)), (31, (nI wr)), (64, (nI at0)), (65, (nI ne)), (66, (nI lk)), (15, (nI 0)), (64, (nI at0))]) (l2 := [(15, 0), (27, (nI nd)), (31, (nI wr)), (64, (nI at0)), (65, (nI ne)), (66, (nI lk))]) (V := [0, (nI nd), (nI wr), (nI at0), (nI ne), (nI lk), 0, (nI at0), 0, (nI nd), (nI wr), (nI at0), (nI ne), (nI lk)]) rfl rfl (show (updA (updA B 2 K) 2 K) = (updA B 2 K) from updsA_eq2 (F := B) (l1 := [(2, K), (2, K)]) (l2 := [(2, K)]) (V := [K, K, K]) rfl rfl) hP
    have hD : va_D A (mW G h0 a (upd (upd (upd (upd (upd (upd F 15 0) 27 (nI nd)) 31 (nI wr)) 64 (nI at0)) 65 (nI ne)) 66 (nI lk)) (updA B 2 K)) := mW_D hD
    refine W.widen (k := 0) (n := 0) (Nat.le_of_ble_eq_true rfl) (Nat.le_of_ble_eq_true rfl) ?_
    refine W.eq (g2 := F0 m 32 ls [.int (K at0)]) rfl ?_
    refine lv_istore_n (lv' := [(2, .int (K at0)), (1, .int (nI at0)), (0, .ref h0)]) hx hb dX12_operand_32 rfl hl (by decide) rfl (fun ls hl => ?_)
    refine lv_iload_n hx hb dX12_operand_33 rfl (lv_at hl 0 rfl) ?_
    refine lv_bipush (v := 40) hx hb dX12_operand_34 (by decide) ?_
    refine lv_icmp_ne (tgt := 85) hx hb dX12_operand_36 (by decide) (fun c15 => ?_) (fun c15 => ?_)
    · refine lv_aload_n hx hb dX12_operand_85 rfl (lv_at hl 2 rfl) ?_
      refine lv_dup hx hb dX12_operand_86 rfl ?_
      refine r_get (v := .int (nI at0)) hx hb hown hq hE hP 64 343 tFX12_64 (by decide) pw_1592 rfl dX12_operand_87 ?_
      refine lv_iconst (v := 1) hx hb dX12_operand_90 (by decide) ?_
      refine lv_iadd hx hb dX12_operand_91 ?_
      refine lv_topi (fun x16 e17 => ?_)
      obtain rfl : x16 = nI (at0 + 1) := e17.trans (nI_add (at0) (1))
      refine r_put (v := (nI (at0 + 1))) (ty := .int) hx hb hown hq hE hP hD hS 64 343 tFX12_64 (by decide) pw_1592 (by decide) rfl rfl (ms_64 a _ _) dX12_operand_92 (fun H locs hP hD hS => ?_)
      refine lv_iload_n hx hb dX12_operand_95 rfl (lv_at hl 0 rfl) ?_
      by_cases h18 : (K at0) = 1
      · refine lv_lookup (tgt := 222) (off := 126) hx hb dX12_operand_96 (by decide) (by rw [h18]; decide) (by decide) ?_
        refine lv_aload_n hx hb dX12_operand_222 rfl (lv_at hl 2 rfl) ?_
        refine lv_bipush (v := 40) hx hb dX12_operand_223 (by decide) ?_
        have hP : va_P G.1 pCl (mW G h0 a (upd (upd (upd (upd (upd (upd (upd (upd F 15 0) 27 (nI nd)) 31 (nI wr)) 64 (nI (at0 + 1))) 65 (nI ne)) 66 (nI lk)) 15 (nI 0)) 64 (nI (at0 + 1))) (updA (updA B 2 K) 2 K)) _ := mW_to (F := F) (l1 := [(15, 0), (27, (nI nd)), (31, (nI wr)), (64, (nI at0)), (65, (nI ne)), (66, (nI lk)), (64, (nI (at0 + 1)))]) (l2 := [(15, 0), (27, (nI nd)), (31, (nI wr)), (64, (nI (at0 + 1))), (65, (nI ne)), (66, (nI lk)), (15, (nI 0)), (64, (nI (at0 + 1)))]) (V := [(nI 0), (nI nd), (nI wr), (nI (at0 + 1)), (nI ne), (nI lk), (nI (at0 + 1)), (nI 0), (nI nd), (nI wr), (nI (at0 + 1)), (nI ne), (nI lk), (nI 0), (nI (at0 + 1))]) rfl rfl (show (updA B 2 K) = (updA (updA B 2 K) 2 K) from updsA_eq2 (F := B) (l1 := [(2, K)]) (l2 := [(2, K), (2, K)]) (V := [K, K, K]) rfl rfl) hP
        have hD : va_D A (mW G h0 a (upd (upd (upd (upd (upd (upd (upd (upd F 15 0) 27 (nI nd)) 31 (nI wr)) 64 (nI (at0 + 1))) 65 (nI ne)) 66 (nI lk)) 15 (nI 0)) 64 (nI (at0 + 1))) (updA (updA B 2 K) 2 K)) := mW_D hD
        refine pc_V0 (G := G) (As := [.int 40]) (rest := []) hx hb hml hown hq hE hX pX0_al hP hD hS hA hl.1 (R_is l G h0 a (upd (upd (upd (upd (upd (upd F 15 0) 27 (nI nd)) 31 (nI wr)) 64 (nI (at0 + 1))) 65 (nI ne)) 66 (nI lk)) (updA B 2 K) (at0 + 1) T 0 K 40 (by omega) (by omega) hK (by omega)) (gV pw_1606 pw_1607 pw_1608 pw_1523 pw_1600) hV_X12_is 0 9 rfl rfl rfl rfl (Nat.le_of_ble_eq_true rfl) dX12_operand_225 ⟨Nat.le_of_ble_eq_true rfl, Nat.le_of_ble_eq_true rfl⟩ ⟨(by show 2 + 1 ≤ (20 * n + 10); omega), (by show 8 + (2 + 11) + 60 ≤ (1000 * n + 40 * 10); omega)⟩ (fun v21 u19 H locs hw20 hP hD hS => ?_)
        obtain ⟨r22, rfl⟩ : ∃ z, z = u19 := ⟨_, rfl⟩
        obtain ⟨hw20, h23, h24, h25, h26⟩ := hw20
        have h23 : r22 ≤ 1 := h23
        have h24 : 0 + 100 * r22 ≤ 100 := h24
        have h25 : If (r22 = 1) (K (at0 + 1) = 40) := h25
        have h26 : If (r22 = 0) (0 = 0 → ¬ K (at0 + 1) = 40) := h26
        obtain rfl : v21 = some (.int (nI r22)) := hw20
        have hP : va_P G.1 pCl (mW G h0 a (upd (upd (upd (upd (upd (upd F 15 0) 27 (nI nd)) 31 (nI wr)) 64 (nI (at0 + 1))) 65 (nI ne)) 66 (nI lk)) (updA B 2 K)) _ := mW_to (F := F) (l1 := [(15, 0), (27, (nI nd)), (31, (nI wr)), (64, (nI (at0 + 1))), (65, (nI ne)), (66, (nI lk)), (15, (nI 0)), (64, (nI (at0 + 1)))]) (l2 := [(15, 0), (27, (nI nd)), (31, (nI wr)), (64, (nI (at0 + 1))), (65, (nI ne)), (66, (nI lk))]) (V := [0, (nI nd), (nI wr), (nI (at0 + 1)), (nI ne), (nI lk), 0, (nI (at0 + 1)), 0, (nI nd), (nI wr), (nI (at0 + 1)), (nI ne), (nI lk)]) rfl rfl (show (updA (updA B 2 K) 2 K) = (updA B 2 K) from updsA_eq2 (F := B) (l1 := [(2, K), (2, K)]) (l2 := [(2, K)]) (V := [K, K, K]) rfl rfl) hP
        have hD : va_D A (mW G h0 a (upd (upd (upd (upd (upd (upd F 15 0) 27 (nI nd)) 31 (nI wr)) 64 (nI (at0 + 1))) 65 (nI ne)) 66 (nI lk)) (updA B 2 K)) := mW_D hD
        refine W.widen (k := 0) (n := 0) (Nat.le_of_ble_eq_true rfl) (Nat.le_of_ble_eq_true rfl) ?_
        refine W.eq (g2 := F0 m 228 ls [.int (nI r22)]) rfl ?_
        refine lv_if_ne (tgt := 242) hx hb dX12_operand_228 (by decide) (fun c27 => ?_) (fun c27 => ?_)
        · have n28 : ¬ (r22 = 0) := fun h9 => c27 ((nI_eq (a := r22) (b := 0) (by omega) (by omega)).mpr h9)
          refine lv_aload_n hx hb dX12_operand_242 rfl (lv_at hl 2 rfl) ?_
          refine lv_bipush (v := 7) hx hb dX12_operand_243 (by decide) ?_
          refine lv_iload_n hx hb dX12_operand_245 rfl (lv_at hl 1 rfl) ?_
          refine lv_iload_n hx hb dX12_operand_246 rfl (lv_at hl 1 rfl) ?_
          refine lv_iconst (v := (-1)) hx hb dX12_operand_247 (by decide) ?_
          refine lv_iconst (v := (-1)) hx hb dX12_operand_248 (by decide) ?_
          have hP : va_P G.1 pCl (mW G h0 a (upd (upd (upd (upd (upd (upd (upd F 15 0) 27 (nI nd)) 31 (nI wr)) 64 (nI (at0 + 1))) 65 (nI ne)) 66 (nI lk)) 27 (nI nd)) (updA B 2 K)) _ := mW_to (F := F) (l1 := [(15, 0), (27, (nI nd)), (31, (nI wr)), (64, (nI (at0 + 1))), (65, (nI ne)), (66, (nI lk))]) (l2 := [(15, 0), (27, (nI nd)), (31, (nI wr)), (64, (nI (at0 + 1))), (65, (nI ne)), (66, (nI lk)), (27, (nI nd))]) (V := [0, (nI nd), (nI wr), (nI (at0 + 1)), (nI ne), (nI lk), 0, (nI nd), (nI wr), (nI (at0 + 1)), (nI ne), (nI lk), (nI nd)]) rfl rfl rfl hP
          have hD : va_D A (mW G h0 a (upd (upd (upd (upd (upd (upd (upd F 15 0) 27 (nI nd)) 31 (nI wr)) 64 (nI (at0 + 1))) 65 (nI ne)) 66 (nI lk)) 27 (nI nd)) (updA B 2 K)) := mW_D hD
          refine pc_V0 (G := G) (As := [.int 7, .int (nI at0), .int (nI at0), .int (-1), .int (-1)]) (rest := []) hx hb hml hown hq hE hX pX0_al hP hD hS hA hl.1 (R_nodeB l G h0 a (upd (upd (upd (upd (upd (upd F 15 0) 27 (nI nd)) 31 (nI wr)) 64 (nI (at0 + 1))) 65 (nI ne)) 66 (nI lk)) B 7 (nI at0) (nI at0) (-1) (-1) nd K (by omega)) (gV pw_1650 pw_1651 pw_1652 pw_1523 pw_1589) hV_X12_node 0 9 rfl rfl rfl rfl (Nat.le_of_ble_eq_true rfl) dX12_operand_249 ⟨Nat.le_of_ble_eq_true rfl, Nat.le_of_ble_eq_true rfl⟩ ⟨(by show 2 + 1 ≤ (20 * n + 10); omega), (by show 8 + (7 + 11) + 60 ≤ (1000 * n + 40 * 10); omega)⟩ (fun v31 u29 H locs hw30 hP hD hS => ?_)
          obtain ⟨X32, rfl⟩ : ∃ z, z = u29 := ⟨_, rfl⟩
          obtain ⟨hw30, h33⟩ := hw30
          have h33 : NewN B X32 nd 7 (nI at0) (nI at0) (-1) (-1) := h33
          obtain rfl : v31 = some (.int (nI nd)) := hw30
          have hP : va_P G.1 pCl (mW G h0 a (upd (upd (upd (upd (upd (upd F 15 0) 27 (nI (nd + 1))) 31 (nI wr)) 64 (nI (at0 + 1))) 65 (nI ne)) 66 (nI lk)) (updA X32 2 K)) _ := mW_to (F := F) (l1 := [(15, 0), (27, (nI nd)), (31, (nI wr)), (64, (nI (at0 + 1))), (65, (nI ne)), (66, (nI lk)), (27, (nI (nd + 1)))]) (l2 := [(15, 0), (27, (nI (nd + 1))), (31, (nI wr)), (64, (nI (at0 + 1))), (65, (nI ne)), (66, (nI lk))]) (V := [0, (nI (nd + 1)), (nI wr), (nI (at0 + 1)), (nI ne), (nI lk), (nI (nd + 1)), 0, (nI (nd + 1)), (nI wr), (nI (at0 + 1)), (nI ne), (nI lk)]) rfl rfl rfl hP
          have hD : va_D A (mW G h0 a (upd (upd (upd (upd (upd (upd F 15 0) 27 (nI (nd + 1))) 31 (nI wr)) 64 (nI (at0 + 1))) 65 (nI ne)) 66 (nI lk)) (updA X32 2 K)) := mW_D hD
          refine W.widen (k := 0) (n := 0) (Nat.le_of_ble_eq_true rfl) (Nat.le_of_ble_eq_true rfl) ?_
          refine W.eq (g2 := F0 m 252 ls [.int (nI nd)]) rfl ?_
          have hkp34 : Kp B X32 wr T := (Kp.new hkp1 h33)
          have hlo35 : Low B X32 nd wr := (Low.new hlo2 h33 (by omega))
          have hf36 : Frs K T wr X32 nd (nd + 1) nd [(nd, 0)] := (Frs.new0 (k := 7) Frs.nil (Nat.le_refl _) (Nat.le_refl _) h33 rfl (by decide) (by decide) (by omega) (by omega) (fun e => absurd e (by decide)) (newOK.m1 (by decide)) (newOK.m1 (by decide)) (newOK.m1 (by decide)) (newOK.m1 (by decide)))
          have hn37 : Nd X32 nd 7 (-1) (-1) (-1) (-1) := (NewN.toNd h33)
          refine lv_istore_n (lv' := [(3, .int (nI nd)), (2, .int (K at0)), (1, .int (nI at0)), (0, .ref h0)]) hx hb dX12_operand_252 rfl hl (by decide) rfl (fun ls hl => ?_)
          refine lv_aload_n hx hb dX12_operand_253 rfl (lv_at hl 3 rfl) ?_
          refine lv_iload_n hx hb dX12_operand_254 rfl (lv_at hl 0 rfl) ?_
          have hP : va_P G.1 pCl (mW G h0 a (upd (upd (upd (upd (upd (upd (upd (upd (upd (upd (upd (upd F 15 0) 27 (nI (nd + 1))) 31 (nI wr)) 64 (nI (at0 + 1))) 65 (nI ne)) 66 (nI lk)) 15 0) 27 (nI (nd + 1))) 31 (nI wr)) 64 (nI (at0 + 1))) 65 (nI ne)) 66 (nI lk)) (updA X32 2 K)) _ := mW_to (F := F) (l1 := [(15, 0), (27, (nI (nd + 1))), (31, (nI wr)), (64, (nI (at0 + 1))), (65, (nI ne)), (66, (nI lk))]) (l2 := [(15, 0), (27, (nI (nd + 1))), (31, (nI wr)), (64, (nI (at0 + 1))), (65, (nI ne)), (66, (nI lk)), (15, 0), (27, (nI (nd + 1))), (31, (nI wr)), (64, (nI (at0 + 1))), (65, (nI ne)), (66, (nI lk))]) (V := [0, (nI (nd + 1)), (nI wr), (nI (at0 + 1)), (nI ne), (nI lk), 0, (nI (nd + 1)), (nI wr), (nI (at0 + 1)), (nI ne), (nI lk), 0, (nI (nd + 1)), (nI wr), (nI (at0 + 1)), (nI ne), (nI lk)]) rfl rfl rfl hP
          have hD : va_D A (mW G h0 a (upd (upd (upd (upd (upd (upd (upd (upd (upd (upd (upd (upd F 15 0) 27 (nI (nd + 1))) 31 (nI wr)) 64 (nI (at0 + 1))) 65 (nI ne)) 66 (nI lk)) 15 0) 27 (nI (nd + 1))) 31 (nI wr)) 64 (nI (at0 + 1))) 65 (nI ne)) 66 (nI lk)) (updA X32 2 K)) := mW_D hD
          refine pc_V0 (G := G) (As := [.int (nI nd)]) (rest := []) hx hb hml hown hq hE hX pX0_al hP hD hS hA hl.1 (ha h0 a (upd (upd (upd (upd (upd (upd F 15 0) 27 (nI (nd + 1))) 31 (nI wr)) 64 (nI (at0 + 1))) 65 (nI ne)) 66 (nI lk)) X32 (at0 + 1) T ne (nd + 1) wr lk K nd nd 0 (210 + lk - (10 * ne + lk)) 7 (-1) (by omega) (by omega) hK (by omega) (by omega) (by omega) (by omega) (hkp34).2 (by omega) hf36 hn37 (by decide) (fun h => absurd h (by decide)) (by omega) (by omega) (by omega)) (gV pw_1653 pw_1654 pw_1655 pw_1523 pw_1681) hV_X12_arguments 0 9 rfl rfl rfl rfl (Nat.le_of_ble_eq_true rfl) dX12_operand_255 ⟨Nat.le_of_ble_eq_true rfl, Nat.le_of_ble_eq_true rfl⟩ ⟨(by show (20 * n + 8) + 1 ≤ (20 * n + 10); omega), (by show 8 + (5 + 11) + (1000 * n + 40 * 8) ≤ (1000 * n + 40 * 10); omega)⟩ (fun v40 u38 H locs hw39 hP hD hS => ?_)
          obtain ⟨at41, fa42, pl43, nd44, lk45, wr46, X47⟩ := u38
          obtain ⟨hw39, h48, h49, h50, h51, h52, h53, h54, h55, h56, h57, h58, h59, h60⟩ := hw39
          have h48 : (at0 + 1) ≤ at41 := h48
          have h49 : at41 ≤ T := h49
          have h50 : fa42 ≤ 100 := h50
          have h51 : (nd + 1) ≤ nd44 := h51
          have h52 : nd44 + 2 * (at0 + 1) ≤ (nd + 1) + 2 * at41 + 100000 * fa42 := h52
          have h53 : nd44 + 2 * (at0 + 1) ≤ (nd + 1) + 2 * at41 + 40 * (21 - ne) := h53
          have h54 : wr ≤ wr46 := h54
          have h55 : wr46 + (at0 + 1) ≤ wr + at41 := h55
          have h56 : lk ≤ lk45 := h56
          have h57 : lk45 ≤ 60 + 100 * fa42 := h57
          have h58 : (at0 + 1) + 1 ≤ at41 + fa42 := h58
          have h59 : Kp X32 X47 wr46 T := h59
          have h60 : If (fa42 = 0) (Low X32 X47 nd wr ∧ Frs K T wr46 X47 nd nd44 20000 [(nd, ((210 + lk - (10 * ne + lk)) + lk45 - lk))] ∧ X47 9 nd = nI 7) := h60
          obtain rfl : v40 = none := hw39
          have hP : va_P G.1 pCl (mW G h0 a (upd (upd (upd (upd (upd (upd (upd F 15 (nI fa42)) 16 pl43) 27 (nI nd44)) 31 (nI wr46)) 64 (nI at41)) 65 (nI ne)) 66 (nI lk45)) (updA X47 2 K)) _ := mW_to (F := F) (l1 := [(15, 0), (27, (nI (nd + 1))), (31, (nI wr)), (64, (nI (at0 + 1))), (65, (nI ne)), (66, (nI lk)), (15, (nI fa42)), (16, pl43), (27, (nI nd44)), (31, (nI wr46)), (64, (nI at41)), (65, (nI ne)), (66, (nI lk45))]) (l2 := [(15, (nI fa42)), (16, pl43), (27, (nI nd44)), (31, (nI wr46)), (64, (nI at41)), (65, (nI ne)), (66, (nI lk45))]) (V := [(nI fa42), (nI nd44), (nI wr46), (nI at41), (nI ne), (nI lk45), (nI fa42), pl43, (nI nd44), (nI wr46), (nI at41), (nI ne), (nI lk45), (nI fa42), pl43, (nI nd44), (nI wr46), (nI at41), (nI ne), (nI lk45)]) rfl rfl rfl hP
          have hD : va_D A (mW G h0 a (upd (upd (upd (upd (upd (upd (upd F 15 (nI fa42)) 16 pl43) 27 (nI nd44)) 31 (nI wr46)) 64 (nI at41)) 65 (nI ne)) 66 (nI lk45)) (updA X47 2 K)) := mW_D hD
          refine W.widen (k := 0) (n := 0) (Nat.le_of_ble_eq_true rfl) (Nat.le_of_ble_eq_true rfl) ?_
          refine W.eq (g2 := F0 m 258 ls []) rfl ?_
          have hkp61 : Kp B X47 wr46 T := (Kp.trans hkp34 h59)
          rcases Nat.eq_zero_or_pos fa42 with e62 | e62
          · subst e62
            have hP : va_P G.1 pCl (mW G h0 a (upd (upd (upd (upd (upd (upd (upd F 15 0) 16 pl43) 27 (nI nd44)) 31 (nI wr46)) 64 (nI at41)) 65 (nI ne)) 66 (nI lk45)) (updA X47 2 K)) _ := hP
            have hD : va_D A (mW G h0 a (upd (upd (upd (upd (upd (upd (upd F 15 0) 16 pl43) 27 (nI nd44)) 31 (nI wr46)) 64 (nI at41)) 65 (nI ne)) 66 (nI lk45)) (updA X47 2 K)) := mW_D hD
            obtain ⟨hlw63, hf64, hc65⟩ := h60 rfl
            have hlo66 : Low B X47 nd wr := (Low.trans hlo35 hlw63 (by omega) (by omega))
            have hm67 := Frs.mem hf64
            have hc68 : kcl 1 (X47 9 nd) = true := (by rw [hc65]; decide)
            refine lv_iload_n hx hb dX12_operand_258 rfl (lv_at hl 0 rfl) ?_
            have hz69 : at0 ≤ at41 := (by omega)
            have hz70 : at41 ≤ T := (by omega)
            have hz71 : 0 ≤ 100 := (by omega)
            have hz72 : nd ≤ nd44 := (by omega)
            have hz73 : nd44 + 2 * at0 ≤ nd + 2 * at41 + 100000 * 0 := (by omega)
            have hz74 : nd44 + 2 * at0 ≤ nd + 2 * at41 + 40 * (21 - ne) := (by omega)
            have hz75 : wr ≤ wr46 := (by omega)
            have hz76 : wr46 + at0 ≤ wr + at41 := (by omega)
            have hz77 : lk ≤ lk45 := (by omega)
            have hz78 : lk45 ≤ 60 + 100 * 0 := (by omega)
            have hz79 : at0 + 1 ≤ at41 + 0 := (by omega)
            have hz80 : nd ≤ nd44 := (by omega)
            have hz81 : Kp B X47 wr46 T := hkp61
            have hz82 : If (0 = 0) (Low B X47 nd wr ∧ Frs K T wr46 X47 nd nd44 20000 [(nd, (210 + lk45 - (10 * ne + lk)))] ∧ kcl 1 (X47 9 nd) = true) := (fun _ => ⟨hlo66, Frs.up hf64 (by omega), hc68⟩)
            have hP : va_P G.1 pCl (mW G h0 a (upd (upd (upd (upd (upd (upd (upd F 15 (nI 0)) 16 pl43) 27 (nI nd44)) 31 (nI wr46)) 64 (nI at41)) 65 (nI ne)) 66 (nI lk45)) (updA X47 2 K)) _ := mW_to (F := F) (l1 := [(15, 0), (16, pl43), (27, (nI nd44)), (31, (nI wr46)), (64, (nI at41)), (65, (nI ne)), (66, (nI lk45))]) (l2 := [(15, (nI 0)), (16, pl43), (27, (nI nd44)), (31, (nI wr46)), (64, (nI at41)), (65, (nI ne)), (66, (nI lk45))]) (V := [(nI 0), pl43, (nI nd44), (nI wr46), (nI at41), (nI ne), (nI lk45), (nI 0), pl43, (nI nd44), (nI wr46), (nI at41), (nI ne), (nI lk45)]) rfl rfl rfl hP
            have hD : va_D A (mW G h0 a (upd (upd (upd (upd (upd (upd (upd F 15 (nI 0)) 16 pl43) 27 (nI nd44)) 31 (nI wr46)) 64 (nI at41)) 65 (nI ne)) 66 (nI lk45)) (updA X47 2 K)) := mW_D hD
            exact W.iret (v := (nI nd)) hx hb hr (fun t9 ht9 hW9 => ⟨⟨_, (at41, 0, pl43, nd44, lk45, wr46, nd, X47), rfl, ⟨rfl, hz69, hz70, hz71, hz72, hz73, hz74, hz75, hz76, hz77, hz78, hz79, hz80, hz81, hz82⟩, by rw [ht9]; exact hP, hD⟩, hS.F ht9⟩) hS.2.2 dX12_operand_259
          · have e62 := e62
            refine lv_iload_n hx hb dX12_operand_258 rfl (lv_at hl 0 rfl) ?_
            have hz83 : at0 ≤ at41 := (by omega)
            have hz84 : at41 ≤ T := (by omega)
            have hz85 : fa42 ≤ 100 := (by omega)
            have hz86 : nd ≤ nd44 := (by omega)
            have hz87 : nd44 + 2 * at0 ≤ nd + 2 * at41 + 100000 * fa42 := (by omega)
            have hz88 : nd44 + 2 * at0 ≤ nd + 2 * at41 + 40 * (21 - ne) := (by omega)
            have hz89 : wr ≤ wr46 := (by omega)
            have hz90 : wr46 + at0 ≤ wr + at41 := (by omega)
            have hz91 : lk ≤ lk45 := (by omega)
            have hz92 : lk45 ≤ 60 + 100 * fa42 := (by omega)
            have hz93 : at0 + 1 ≤ at41 + fa42 := (by omega)
            have hz94 : nd ≤ nd44 := (by omega)
            have hz95 : Kp B X47 wr46 T := hkp61
            have hz96 : If (fa42 = 0) (Low B X47 nd wr ∧ Frs K T wr46 X47 nd nd44 20000 [(nd, (210 + lk45 - (10 * ne + lk)))] ∧ kcl 1 (X47 9 nd) = true) := (fun e => absurd e (by omega))
            have hP : va_P G.1 pCl (mW G h0 a (upd (upd (upd (upd (upd (upd (upd F 15 (nI fa42)) 16 pl43) 27 (nI nd44)) 31 (nI wr46)) 64 (nI at41)) 65 (nI ne)) 66 (nI lk45)) (updA X47 2 K)) _ := hP
            have hD : va_D A (mW G h0 a (upd (upd (upd (upd (upd (upd (upd F 15 (nI fa42)) 16 pl43) 27 (nI nd44)) 31 (nI wr46)) 64 (nI at41)) 65 (nI ne)) 66 (nI lk45)) (updA X47 2 K)) := mW_D hD
            exact W.iret (v := (nI nd)) hx hb hr (fun t9 ht9 hW9 => ⟨⟨_, (at41, fa42, pl43, nd44, lk45, wr46, nd, X47), rfl, ⟨rfl, hz83, hz84, hz85, hz86, hz87, hz88, hz89, hz90, hz91, hz92, hz93, hz94, hz95, hz96⟩, by rw [ht9]; exact hP, hD⟩, hS.F ht9⟩) hS.2.2 dX12_operand_259
        · have n97 : r22 = 0 := (nI_eq (a := r22) (b := 0) (by omega) (by omega)).mp c27
          refine lv_aload_n hx hb dX12_operand_231 rfl (lv_at hl 2 rfl) ?_
          refine lv_bipush (v := 6) hx hb dX12_operand_232 (by decide) ?_
          refine lv_iload_n hx hb dX12_operand_234 rfl (lv_at hl 1 rfl) ?_
          refine lv_iload_n hx hb dX12_operand_235 rfl (lv_at hl 1 rfl) ?_
          refine lv_iconst (v := (-1)) hx hb dX12_operand_236 (by decide) ?_
          refine lv_iconst (v := (-1)) hx hb dX12_operand_237 (by decide) ?_
          have hP : va_P G.1 pCl (mW G h0 a (upd (upd (upd (upd (upd (upd (upd F 15 0) 27 (nI nd)) 31 (nI wr)) 64 (nI (at0 + 1))) 65 (nI ne)) 66 (nI lk)) 27 (nI nd)) (updA B 2 K)) _ := mW_to (F := F) (l1 := [(15, 0), (27, (nI nd)), (31, (nI wr)), (64, (nI (at0 + 1))), (65, (nI ne)), (66, (nI lk))]) (l2 := [(15, 0), (27, (nI nd)), (31, (nI wr)), (64, (nI (at0 + 1))), (65, (nI ne)), (66, (nI lk)), (27, (nI nd))]) (V := [0, (nI nd), (nI wr), (nI (at0 + 1)), (nI ne), (nI lk), 0, (nI nd), (nI wr), (nI (at0 + 1)), (nI ne), (nI lk), (nI nd)]) rfl rfl rfl hP
          have hD : va_D A (mW G h0 a (upd (upd (upd (upd (upd (upd (upd F 15 0) 27 (nI nd)) 31 (nI wr)) 64 (nI (at0 + 1))) 65 (nI ne)) 66 (nI lk)) 27 (nI nd)) (updA B 2 K)) := mW_D hD
          refine pc_V0 (G := G) (As := [.int 6, .int (nI at0), .int (nI at0), .int (-1), .int (-1)]) (rest := []) hx hb hml hown hq hE hX pX0_al hP hD hS hA hl.1 (R_nodeB l G h0 a (upd (upd (upd (upd (upd (upd F 15 0) 27 (nI nd)) 31 (nI wr)) 64 (nI (at0 + 1))) 65 (nI ne)) 66 (nI lk)) B 6 (nI at0) (nI at0) (-1) (-1) nd K (by omega)) (gV pw_1650 pw_1651 pw_1652 pw_1523 pw_1589) hV_X12_node 0 9 rfl rfl rfl rfl (Nat.le_of_ble_eq_true rfl) dX12_operand_238 ⟨Nat.le_of_ble_eq_true rfl, Nat.le_of_ble_eq_true rfl⟩ ⟨(by show 2 + 1 ≤ (20 * n + 10); omega), (by show 8 + (7 + 11) + 60 ≤ (1000 * n + 40 * 10); omega)⟩ (fun v100 u98 H locs hw99 hP hD hS => ?_)
          obtain ⟨X101, rfl⟩ : ∃ z, z = u98 := ⟨_, rfl⟩
          obtain ⟨hw99, h102⟩ := hw99
          have h102 : NewN B X101 nd 6 (nI at0) (nI at0) (-1) (-1) := h102
          obtain rfl : v100 = some (.int (nI nd)) := hw99
          have hP : va_P G.1 pCl (mW G h0 a (upd (upd (upd (upd (upd (upd F 15 0) 27 (nI (nd + 1))) 31 (nI wr)) 64 (nI (at0 + 1))) 65 (nI ne)) 66 (nI lk)) (updA X101 2 K)) _ := mW_to (F := F) (l1 := [(15, 0), (27, (nI nd)), (31, (nI wr)), (64, (nI (at0 + 1))), (65, (nI ne)), (66, (nI lk)), (27, (nI (nd + 1)))]) (l2 := [(15, 0), (27, (nI (nd + 1))), (31, (nI wr)), (64, (nI (at0 + 1))), (65, (nI ne)), (66, (nI lk))]) (V := [0, (nI (nd + 1)), (nI wr), (nI (at0 + 1)), (nI ne), (nI lk), (nI (nd + 1)), 0, (nI (nd + 1)), (nI wr), (nI (at0 + 1)), (nI ne), (nI lk)]) rfl rfl rfl hP
          have hD : va_D A (mW G h0 a (upd (upd (upd (upd (upd (upd F 15 0) 27 (nI (nd + 1))) 31 (nI wr)) 64 (nI (at0 + 1))) 65 (nI ne)) 66 (nI lk)) (updA X101 2 K)) := mW_D hD
          refine W.widen (k := 0) (n := 0) (Nat.le_of_ble_eq_true rfl) (Nat.le_of_ble_eq_true rfl) ?_
          refine W.eq (g2 := F0 m 241 ls [.int (nI nd)]) rfl ?_
          have hkp103 : Kp B X101 wr T := (Kp.new hkp1 h102)
          have hlo104 : Low B X101 nd wr := (Low.new hlo2 h102 (by omega))
          have hf105 : Frs K T wr X101 nd (nd + 1) nd [(nd, 0)] := (Frs.new0 (k := 6) Frs.nil (Nat.le_refl _) (Nat.le_refl _) h102 rfl (by decide) (by decide) (by omega) (by omega) (fun e => absurd e (by decide)) (newOK.m1 (by decide)) (newOK.m1 (by decide)) (newOK.m1 (by decide)) (newOK.m1 (by decide)))
          have hn106 : Nd X101 nd 6 (-1) (-1) (-1) (-1) := (NewN.toNd h102)
          have hf107 : Frs K T wr X101 nd (nd + 1) 20000 [(nd, 0)] := (Frs.fin (k := 6) hf105 hn106 rfl (by decide) (fun h => absurd h (by decide)) (fun h => absurd h (by decide)) (fun h => absurd h (by decide)) (fun h => absurd h (by decide)))
          have hz108 : at0 ≤ (at0 + 1) := (by omega)
          have hz109 : (at0 + 1) ≤ T := (by omega)
          have hz110 : 0 ≤ 100 := (by omega)
          have hz111 : nd ≤ (nd + 1) := (by omega)
          have hz112 : (nd + 1) + 2 * at0 ≤ nd + 2 * (at0 + 1) + 100000 * 0 := (by omega)
          have hz113 : (nd + 1) + 2 * at0 ≤ nd + 2 * (at0 + 1) + 40 * (21 - ne) := (by omega)
          have hz114 : wr ≤ wr := (by omega)
          have hz115 : wr + at0 ≤ wr + (at0 + 1) := (by omega)
          have hz116 : lk ≤ lk := (by omega)
          have hz117 : lk ≤ 60 + 100 * 0 := (by omega)
          have hz118 : at0 + 1 ≤ (at0 + 1) + 0 := (by omega)
          have hz119 : nd ≤ (nd + 1) := (by omega)
          have hz120 : Kp B X101 wr T := hkp103
          have hz121 : If (0 = 0) (Low B X101 nd wr ∧ Frs K T wr X101 nd (nd + 1) 20000 [(nd, (210 + lk - (10 * ne + lk)))] ∧ kcl 1 (X101 9 nd) = true) := (fun _ => ⟨hlo104, Frs.up hf107 (by omega), (by rw [hn106.1]; decide)⟩)
          have hP : va_P G.1 pCl (mW G h0 a (upd (upd (upd (upd (upd (upd (upd F 15 (nI 0)) 16 (F 16)) 27 (nI (nd + 1))) 31 (nI wr)) 64 (nI (at0 + 1))) 65 (nI ne)) 66 (nI lk)) (updA X101 2 K)) _ := mW_to (F := F) (l1 := [(15, 0), (27, (nI (nd + 1))), (31, (nI wr)), (64, (nI (at0 + 1))), (65, (nI ne)), (66, (nI lk))]) (l2 := [(15, (nI 0)), (16, (F 16)), (27, (nI (nd + 1))), (31, (nI wr)), (64, (nI (at0 + 1))), (65, (nI ne)), (66, (nI lk))]) (V := [(nI 0), (nI (nd + 1)), (nI wr), (nI (at0 + 1)), (nI ne), (nI lk), (nI 0), (F 16), (nI (nd + 1)), (nI wr), (nI (at0 + 1)), (nI ne), (nI lk)]) rfl rfl rfl hP
          have hD : va_D A (mW G h0 a (upd (upd (upd (upd (upd (upd (upd F 15 (nI 0)) 16 (F 16)) 27 (nI (nd + 1))) 31 (nI wr)) 64 (nI (at0 + 1))) 65 (nI ne)) 66 (nI lk)) (updA X101 2 K)) := mW_D hD
          exact W.iret (v := (nI nd)) hx hb hr (fun t9 ht9 hW9 => ⟨⟨_, ((at0 + 1), 0, (F 16), (nd + 1), lk, wr, nd, X101), rfl, ⟨rfl, hz108, hz109, hz110, hz111, hz112, hz113, hz114, hz115, hz116, hz117, hz118, hz119, hz120, hz121⟩, by rw [ht9]; exact hP, hD⟩, hS.F ht9⟩) hS.2.2 dX12_operand_241
      by_cases h122 : (K at0) = 2
      · refine lv_lookup (tgt := 172) (off := 76) hx hb dX12_operand_96 (by decide) (by rw [h122]; decide) (by decide) ?_
        refine lv_aload_n hx hb dX12_operand_172 rfl (lv_at hl 2 rfl) ?_
        refine lv_iconst (v := 1) hx hb dX12_operand_173 (by decide) ?_
        refine lv_iload_n hx hb dX12_operand_174 rfl (lv_at hl 1 rfl) ?_
        refine lv_iload_n hx hb dX12_operand_175 rfl (lv_at hl 1 rfl) ?_
        refine lv_iconst (v := (-1)) hx hb dX12_operand_176 (by decide) ?_
        refine lv_iconst (v := (-1)) hx hb dX12_operand_177 (by decide) ?_
        have hP : va_P G.1 pCl (mW G h0 a (upd (upd (upd (upd (upd (upd (upd F 15 0) 27 (nI nd)) 31 (nI wr)) 64 (nI (at0 + 1))) 65 (nI ne)) 66 (nI lk)) 27 (nI nd)) (updA B 2 K)) _ := mW_to (F := F) (l1 := [(15, 0), (27, (nI nd)), (31, (nI wr)), (64, (nI at0)), (65, (nI ne)), (66, (nI lk)), (64, (nI (at0 + 1)))]) (l2 := [(15, 0), (27, (nI nd)), (31, (nI wr)), (64, (nI (at0 + 1))), (65, (nI ne)), (66, (nI lk)), (27, (nI nd))]) (V := [0, (nI nd), (nI wr), (nI (at0 + 1)), (nI ne), (nI lk), (nI (at0 + 1)), 0, (nI nd), (nI wr), (nI (at0 + 1)), (nI ne), (nI lk), (nI nd)]) rfl rfl rfl hP
        have hD : va_D A (mW G h0 a (upd (upd (upd (upd (upd (upd (upd F 15 0) 27 (nI nd)) 31 (nI wr)) 64 (nI (at0 + 1))) 65 (nI ne)) 66 (nI lk)) 27 (nI nd)) (updA B 2 K)) := mW_D hD
        refine pc_V0 (G := G) (As := [.int 1, .int (nI at0), .int (nI at0), .int (-1), .int (-1)]) (rest := []) hx hb hml hown hq hE hX pX0_al hP hD hS hA hl.1 (R_nodeB l G h0 a (upd (upd (upd (upd (upd (upd F 15 0) 27 (nI nd)) 31 (nI wr)) 64 (nI (at0 + 1))) 65 (nI ne)) 66 (nI lk)) B 1 (nI at0) (nI at0) (-1) (-1) nd K (by omega)) (gV pw_1650 pw_1651 pw_1652 pw_1523 pw_1589) hV_X12_node 0 9 rfl rfl rfl rfl (Nat.le_of_ble_eq_true rfl) dX12_operand_178 ⟨Nat.le_of_ble_eq_true rfl, Nat.le_of_ble_eq_true rfl⟩ ⟨(by show 2 + 1 ≤ (20 * n + 10); omega), (by show 8 + (7 + 11) + 60 ≤ (1000 * n + 40 * 10); omega)⟩ (fun v125 u123 H locs hw124 hP hD hS => ?_)
        obtain ⟨X126, rfl⟩ : ∃ z, z = u123 := ⟨_, rfl⟩
        obtain ⟨hw124, h127⟩ := hw124
        have h127 : NewN B X126 nd 1 (nI at0) (nI at0) (-1) (-1) := h127
        obtain rfl : v125 = some (.int (nI nd)) := hw124
        have hP : va_P G.1 pCl (mW G h0 a (upd (upd (upd (upd (upd (upd F 15 0) 27 (nI (nd + 1))) 31 (nI wr)) 64 (nI (at0 + 1))) 65 (nI ne)) 66 (nI lk)) (updA X126 2 K)) _ := mW_to (F := F) (l1 := [(15, 0), (27, (nI nd)), (31, (nI wr)), (64, (nI (at0 + 1))), (65, (nI ne)), (66, (nI lk)), (27, (nI (nd + 1)))]) (l2 := [(15, 0), (27, (nI (nd + 1))), (31, (nI wr)), (64, (nI (at0 + 1))), (65, (nI ne)), (66, (nI lk))]) (V := [0, (nI (nd + 1)), (nI wr), (nI (at0 + 1)), (nI ne), (nI lk), (nI (nd + 1)), 0, (nI (nd + 1)), (nI wr), (nI (at0 + 1)), (nI ne), (nI lk)]) rfl rfl rfl hP
        have hD : va_D A (mW G h0 a (upd (upd (upd (upd (upd (upd F 15 0) 27 (nI (nd + 1))) 31 (nI wr)) 64 (nI (at0 + 1))) 65 (nI ne)) 66 (nI lk)) (updA X126 2 K)) := mW_D hD
        refine W.widen (k := 0) (n := 0) (Nat.le_of_ble_eq_true rfl) (Nat.le_of_ble_eq_true rfl) ?_
        refine W.eq (g2 := F0 m 181 ls [.int (nI nd)]) rfl ?_
        have hkp128 : Kp B X126 wr T := (Kp.new hkp1 h127)
        have hlo129 : Low B X126 nd wr := (Low.new hlo2 h127 (by omega))
        have hf130 : Frs K T wr X126 nd (nd + 1) nd [(nd, 0)] := (Frs.new0 (k := 1) Frs.nil (Nat.le_refl _) (Nat.le_refl _) h127 rfl (by decide) (by decide) (by omega) (by omega) (fun e => absurd e (by decide)) (newOK.m1 (by decide)) (newOK.m1 (by decide)) (newOK.m1 (by decide)) (newOK.m1 (by decide)))
        have hn131 : Nd X126 nd 1 (-1) (-1) (-1) (-1) := (NewN.toNd h127)
        have hf132 : Frs K T wr X126 nd (nd + 1) 20000 [(nd, 0)] := (Frs.fin (k := 1) hf130 hn131 rfl (by decide) (fun h => absurd h (by decide)) (fun h => absurd h (by decide)) (fun h => absurd h (by decide)) (fun h => absurd h (by decide)))
        have hz133 : at0 ≤ (at0 + 1) := (by omega)
        have hz134 : (at0 + 1) ≤ T := (by omega)
        have hz135 : 0 ≤ 100 := (by omega)
        have hz136 : nd ≤ (nd + 1) := (by omega)
        have hz137 : (nd + 1) + 2 * at0 ≤ nd + 2 * (at0 + 1) + 100000 * 0 := (by omega)
        have hz138 : (nd + 1) + 2 * at0 ≤ nd + 2 * (at0 + 1) + 40 * (21 - ne) := (by omega)
        have hz139 : wr ≤ wr := (by omega)
        have hz140 : wr + at0 ≤ wr + (at0 + 1) := (by omega)
        have hz141 : lk ≤ lk := (by omega)
        have hz142 : lk ≤ 60 + 100 * 0 := (by omega)
        have hz143 : at0 + 1 ≤ (at0 + 1) + 0 := (by omega)
        have hz144 : nd ≤ (nd + 1) := (by omega)
        have hz145 : Kp B X126 wr T := hkp128
        have hz146 : If (0 = 0) (Low B X126 nd wr ∧ Frs K T wr X126 nd (nd + 1) 20000 [(nd, (210 + lk - (10 * ne + lk)))] ∧ kcl 1 (X126 9 nd) = true) := (fun _ => ⟨hlo129, Frs.up hf132 (by omega), (by rw [hn131.1]; decide)⟩)
        have hP : va_P G.1 pCl (mW G h0 a (upd (upd (upd (upd (upd (upd (upd F 15 (nI 0)) 16 (F 16)) 27 (nI (nd + 1))) 31 (nI wr)) 64 (nI (at0 + 1))) 65 (nI ne)) 66 (nI lk)) (updA X126 2 K)) _ := mW_to (F := F) (l1 := [(15, 0), (27, (nI (nd + 1))), (31, (nI wr)), (64, (nI (at0 + 1))), (65, (nI ne)), (66, (nI lk))]) (l2 := [(15, (nI 0)), (16, (F 16)), (27, (nI (nd + 1))), (31, (nI wr)), (64, (nI (at0 + 1))), (65, (nI ne)), (66, (nI lk))]) (V := [(nI 0), (nI (nd + 1)), (nI wr), (nI (at0 + 1)), (nI ne), (nI lk), (nI 0), (F 16), (nI (nd + 1)), (nI wr), (nI (at0 + 1)), (nI ne), (nI lk)]) rfl rfl rfl hP
        have hD : va_D A (mW G h0 a (upd (upd (upd (upd (upd (upd (upd F 15 (nI 0)) 16 (F 16)) 27 (nI (nd + 1))) 31 (nI wr)) 64 (nI (at0 + 1))) 65 (nI ne)) 66 (nI lk)) (updA X126 2 K)) := mW_D hD
        exact W.iret (v := (nI nd)) hx hb hr (fun t9 ht9 hW9 => ⟨⟨_, ((at0 + 1), 0, (F 16), (nd + 1), lk, wr, nd, X126), rfl, ⟨rfl, hz133, hz134, hz135, hz136, hz137, hz138, hz139, hz140, hz141, hz142, hz143, hz144, hz145, hz146⟩, by rw [ht9]; exact hP, hD⟩, hS.F ht9⟩) hS.2.2 dX12_operand_181
      by_cases h147 : (K at0) = 318
      · refine lv_lookup (tgt := 192) (off := 96) hx hb dX12_operand_96 (by decide) (by rw [h147]; decide) (by decide) ?_
        refine lv_aload_n hx hb dX12_operand_192 rfl (lv_at hl 2 rfl) ?_
        refine lv_iconst (v := 3) hx hb dX12_operand_193 (by decide) ?_
        refine lv_iload_n hx hb dX12_operand_194 rfl (lv_at hl 1 rfl) ?_
        refine lv_iload_n hx hb dX12_operand_195 rfl (lv_at hl 1 rfl) ?_
        refine lv_iconst (v := (-1)) hx hb dX12_operand_196 (by decide) ?_
        refine lv_iconst (v := (-1)) hx hb dX12_operand_197 (by decide) ?_
        have hP : va_P G.1 pCl (mW G h0 a (upd (upd (upd (upd (upd (upd (upd F 15 0) 27 (nI nd)) 31 (nI wr)) 64 (nI (at0 + 1))) 65 (nI ne)) 66 (nI lk)) 27 (nI nd)) (updA B 2 K)) _ := mW_to (F := F) (l1 := [(15, 0), (27, (nI nd)), (31, (nI wr)), (64, (nI at0)), (65, (nI ne)), (66, (nI lk)), (64, (nI (at0 + 1)))]) (l2 := [(15, 0), (27, (nI nd)), (31, (nI wr)), (64, (nI (at0 + 1))), (65, (nI ne)), (66, (nI lk)), (27, (nI nd))]) (V := [0, (nI nd), (nI wr), (nI (at0 + 1)), (nI ne), (nI lk), (nI (at0 + 1)), 0, (nI nd), (nI wr), (nI (at0 + 1)), (nI ne), (nI lk), (nI nd)]) rfl rfl rfl hP
        have hD : va_D A (mW G h0 a (upd (upd (upd (upd (upd (upd (upd F 15 0) 27 (nI nd)) 31 (nI wr)) 64 (nI (at0 + 1))) 65 (nI ne)) 66 (nI lk)) 27 (nI nd)) (updA B 2 K)) := mW_D hD
        refine pc_V0 (G := G) (As := [.int 3, .int (nI at0), .int (nI at0), .int (-1), .int (-1)]) (rest := []) hx hb hml hown hq hE hX pX0_al hP hD hS hA hl.1 (R_nodeB l G h0 a (upd (upd (upd (upd (upd (upd F 15 0) 27 (nI nd)) 31 (nI wr)) 64 (nI (at0 + 1))) 65 (nI ne)) 66 (nI lk)) B 3 (nI at0) (nI at0) (-1) (-1) nd K (by omega)) (gV pw_1650 pw_1651 pw_1652 pw_1523 pw_1589) hV_X12_node 0 9 rfl rfl rfl rfl (Nat.le_of_ble_eq_true rfl) dX12_operand_198 ⟨Nat.le_of_ble_eq_true rfl, Nat.le_of_ble_eq_true rfl⟩ ⟨(by show 2 + 1 ≤ (20 * n + 10); omega), (by show 8 + (7 + 11) + 60 ≤ (1000 * n + 40 * 10); omega)⟩ (fun v150 u148 H locs hw149 hP hD hS => ?_)
        obtain ⟨X151, rfl⟩ : ∃ z, z = u148 := ⟨_, rfl⟩
        obtain ⟨hw149, h152⟩ := hw149
        have h152 : NewN B X151 nd 3 (nI at0) (nI at0) (-1) (-1) := h152
        obtain rfl : v150 = some (.int (nI nd)) := hw149
        have hP : va_P G.1 pCl (mW G h0 a (upd (upd (upd (upd (upd (upd F 15 0) 27 (nI (nd + 1))) 31 (nI wr)) 64 (nI (at0 + 1))) 65 (nI ne)) 66 (nI lk)) (updA X151 2 K)) _ := mW_to (F := F) (l1 := [(15, 0), (27, (nI nd)), (31, (nI wr)), (64, (nI (at0 + 1))), (65, (nI ne)), (66, (nI lk)), (27, (nI (nd + 1)))]) (l2 := [(15, 0), (27, (nI (nd + 1))), (31, (nI wr)), (64, (nI (at0 + 1))), (65, (nI ne)), (66, (nI lk))]) (V := [0, (nI (nd + 1)), (nI wr), (nI (at0 + 1)), (nI ne), (nI lk), (nI (nd + 1)), 0, (nI (nd + 1)), (nI wr), (nI (at0 + 1)), (nI ne), (nI lk)]) rfl rfl rfl hP
        have hD : va_D A (mW G h0 a (upd (upd (upd (upd (upd (upd F 15 0) 27 (nI (nd + 1))) 31 (nI wr)) 64 (nI (at0 + 1))) 65 (nI ne)) 66 (nI lk)) (updA X151 2 K)) := mW_D hD
        refine W.widen (k := 0) (n := 0) (Nat.le_of_ble_eq_true rfl) (Nat.le_of_ble_eq_true rfl) ?_
        refine W.eq (g2 := F0 m 201 ls [.int (nI nd)]) rfl ?_
        have hkp153 : Kp B X151 wr T := (Kp.new hkp1 h152)
        have hlo154 : Low B X151 nd wr := (Low.new hlo2 h152 (by omega))
        have hf155 : Frs K T wr X151 nd (nd + 1) nd [(nd, 0)] := (Frs.new0 (k := 3) Frs.nil (Nat.le_refl _) (Nat.le_refl _) h152 rfl (by decide) (by decide) (by omega) (by omega) (fun e => absurd e (by decide)) (newOK.m1 (by decide)) (newOK.m1 (by decide)) (newOK.m1 (by decide)) (newOK.m1 (by decide)))
        have hn156 : Nd X151 nd 3 (-1) (-1) (-1) (-1) := (NewN.toNd h152)
        have hf157 : Frs K T wr X151 nd (nd + 1) 20000 [(nd, 0)] := (Frs.fin (k := 3) hf155 hn156 rfl (by decide) (fun h => absurd h (by decide)) (fun h => absurd h (by decide)) (fun h => absurd h (by decide)) (fun h => absurd h (by decide)))
        have hz158 : at0 ≤ (at0 + 1) := (by omega)
        have hz159 : (at0 + 1) ≤ T := (by omega)
        have hz160 : 0 ≤ 100 := (by omega)
        have hz161 : nd ≤ (nd + 1) := (by omega)
        have hz162 : (nd + 1) + 2 * at0 ≤ nd + 2 * (at0 + 1) + 100000 * 0 := (by omega)
        have hz163 : (nd + 1) + 2 * at0 ≤ nd + 2 * (at0 + 1) + 40 * (21 - ne) := (by omega)
        have hz164 : wr ≤ wr := (by omega)
        have hz165 : wr + at0 ≤ wr + (at0 + 1) := (by omega)
        have hz166 : lk ≤ lk := (by omega)
        have hz167 : lk ≤ 60 + 100 * 0 := (by omega)
        have hz168 : at0 + 1 ≤ (at0 + 1) + 0 := (by omega)
        have hz169 : nd ≤ (nd + 1) := (by omega)
        have hz170 : Kp B X151 wr T := hkp153
        have hz171 : If (0 = 0) (Low B X151 nd wr ∧ Frs K T wr X151 nd (nd + 1) 20000 [(nd, (210 + lk - (10 * ne + lk)))] ∧ kcl 1 (X151 9 nd) = true) := (fun _ => ⟨hlo154, Frs.up hf157 (by omega), (by rw [hn156.1]; decide)⟩)
        have hP : va_P G.1 pCl (mW G h0 a (upd (upd (upd (upd (upd (upd (upd F 15 (nI 0)) 16 (F 16)) 27 (nI (nd + 1))) 31 (nI wr)) 64 (nI (at0 + 1))) 65 (nI ne)) 66 (nI lk)) (updA X151 2 K)) _ := mW_to (F := F) (l1 := [(15, 0), (27, (nI (nd + 1))), (31, (nI wr)), (64, (nI (at0 + 1))), (65, (nI ne)), (66, (nI lk))]) (l2 := [(15, (nI 0)), (16, (F 16)), (27, (nI (nd + 1))), (31, (nI wr)), (64, (nI (at0 + 1))), (65, (nI ne)), (66, (nI lk))]) (V := [(nI 0), (nI (nd + 1)), (nI wr), (nI (at0 + 1)), (nI ne), (nI lk), (nI 0), (F 16), (nI (nd + 1)), (nI wr), (nI (at0 + 1)), (nI ne), (nI lk)]) rfl rfl rfl hP
        have hD : va_D A (mW G h0 a (upd (upd (upd (upd (upd (upd (upd F 15 (nI 0)) 16 (F 16)) 27 (nI (nd + 1))) 31 (nI wr)) 64 (nI (at0 + 1))) 65 (nI ne)) 66 (nI lk)) (updA X151 2 K)) := mW_D hD
        exact W.iret (v := (nI nd)) hx hb hr (fun t9 ht9 hW9 => ⟨⟨_, ((at0 + 1), 0, (F 16), (nd + 1), lk, wr, nd, X151), rfl, ⟨rfl, hz158, hz159, hz160, hz161, hz162, hz163, hz164, hz165, hz166, hz167, hz168, hz169, hz170, hz171⟩, by rw [ht9]; exact hP, hD⟩, hS.F ht9⟩) hS.2.2 dX12_operand_201
      by_cases h172 : (K at0) = 328
      · refine lv_lookup (tgt := 202) (off := 106) hx hb dX12_operand_96 (by decide) (by rw [h172]; decide) (by decide) ?_
        refine lv_aload_n hx hb dX12_operand_202 rfl (lv_at hl 2 rfl) ?_
        refine lv_iconst (v := 4) hx hb dX12_operand_203 (by decide) ?_
        refine lv_iload_n hx hb dX12_operand_204 rfl (lv_at hl 1 rfl) ?_
        refine lv_iload_n hx hb dX12_operand_205 rfl (lv_at hl 1 rfl) ?_
        refine lv_iconst (v := (-1)) hx hb dX12_operand_206 (by decide) ?_
        refine lv_iconst (v := (-1)) hx hb dX12_operand_207 (by decide) ?_
        have hP : va_P G.1 pCl (mW G h0 a (upd (upd (upd (upd (upd (upd (upd F 15 0) 27 (nI nd)) 31 (nI wr)) 64 (nI (at0 + 1))) 65 (nI ne)) 66 (nI lk)) 27 (nI nd)) (updA B 2 K)) _ := mW_to (F := F) (l1 := [(15, 0), (27, (nI nd)), (31, (nI wr)), (64, (nI at0)), (65, (nI ne)), (66, (nI lk)), (64, (nI (at0 + 1)))]) (l2 := [(15, 0), (27, (nI nd)), (31, (nI wr)), (64, (nI (at0 + 1))), (65, (nI ne)), (66, (nI lk)), (27, (nI nd))]) (V := [0, (nI nd), (nI wr), (nI (at0 + 1)), (nI ne), (nI lk), (nI (at0 + 1)), 0, (nI nd), (nI wr), (nI (at0 + 1)), (nI ne), (nI lk), (nI nd)]) rfl rfl rfl hP
        have hD : va_D A (mW G h0 a (upd (upd (upd (upd (upd (upd (upd F 15 0) 27 (nI nd)) 31 (nI wr)) 64 (nI (at0 + 1))) 65 (nI ne)) 66 (nI lk)) 27 (nI nd)) (updA B 2 K)) := mW_D hD
        refine pc_V0 (G := G) (As := [.int 4, .int (nI at0), .int (nI at0), .int (-1), .int (-1)]) (rest := []) hx hb hml hown hq hE hX pX0_al hP hD hS hA hl.1 (R_nodeB l G h0 a (upd (upd (upd (upd (upd (upd F 15 0) 27 (nI nd)) 31 (nI wr)) 64 (nI (at0 + 1))) 65 (nI ne)) 66 (nI lk)) B 4 (nI at0) (nI at0) (-1) (-1) nd K (by omega)) (gV pw_1650 pw_1651 pw_1652 pw_1523 pw_1589) hV_X12_node 0 9 rfl rfl rfl rfl (Nat.le_of_ble_eq_true rfl) dX12_operand_208 ⟨Nat.le_of_ble_eq_true rfl, Nat.le_of_ble_eq_true rfl⟩ ⟨(by show 2 + 1 ≤ (20 * n + 10); omega), (by show 8 + (7 + 11) + 60 ≤ (1000 * n + 40 * 10); omega)⟩ (fun v175 u173 H locs hw174 hP hD hS => ?_)
        obtain ⟨X176, rfl⟩ : ∃ z, z = u173 := ⟨_, rfl⟩
        obtain ⟨hw174, h177⟩ := hw174
        have h177 : NewN B X176 nd 4 (nI at0) (nI at0) (-1) (-1) := h177
        obtain rfl : v175 = some (.int (nI nd)) := hw174
        have hP : va_P G.1 pCl (mW G h0 a (upd (upd (upd (upd (upd (upd F 15 0) 27 (nI (nd + 1))) 31 (nI wr)) 64 (nI (at0 + 1))) 65 (nI ne)) 66 (nI lk)) (updA X176 2 K)) _ := mW_to (F := F) (l1 := [(15, 0), (27, (nI nd)), (31, (nI wr)), (64, (nI (at0 + 1))), (65, (nI ne)), (66, (nI lk)), (27, (nI (nd + 1)))]) (l2 := [(15, 0), (27, (nI (nd + 1))), (31, (nI wr)), (64, (nI (at0 + 1))), (65, (nI ne)), (66, (nI lk))]) (V := [0, (nI (nd + 1)), (nI wr), (nI (at0 + 1)), (nI ne), (nI lk), (nI (nd + 1)), 0, (nI (nd + 1)), (nI wr), (nI (at0 + 1)), (nI ne), (nI lk)]) rfl rfl rfl hP
        have hD : va_D A (mW G h0 a (upd (upd (upd (upd (upd (upd F 15 0) 27 (nI (nd + 1))) 31 (nI wr)) 64 (nI (at0 + 1))) 65 (nI ne)) 66 (nI lk)) (updA X176 2 K)) := mW_D hD
        refine W.widen (k := 0) (n := 0) (Nat.le_of_ble_eq_true rfl) (Nat.le_of_ble_eq_true rfl) ?_
        refine W.eq (g2 := F0 m 211 ls [.int (nI nd)]) rfl ?_
        have hkp178 : Kp B X176 wr T := (Kp.new hkp1 h177)
        have hlo179 : Low B X176 nd wr := (Low.new hlo2 h177 (by omega))
        have hf180 : Frs K T wr X176 nd (nd + 1) nd [(nd, 0)] := (Frs.new0 (k := 4) Frs.nil (Nat.le_refl _) (Nat.le_refl _) h177 rfl (by decide) (by decide) (by omega) (by omega) (fun e => absurd e (by decide)) (newOK.m1 (by decide)) (newOK.m1 (by decide)) (newOK.m1 (by decide)) (newOK.m1 (by decide)))
        have hn181 : Nd X176 nd 4 (-1) (-1) (-1) (-1) := (NewN.toNd h177)
        have hf182 : Frs K T wr X176 nd (nd + 1) 20000 [(nd, 0)] := (Frs.fin (k := 4) hf180 hn181 rfl (by decide) (fun h => absurd h (by decide)) (fun h => absurd h (by decide)) (fun h => absurd h (by decide)) (fun h => absurd h (by decide)))
        have hz183 : at0 ≤ (at0 + 1) := (by omega)
        have hz184 : (at0 + 1) ≤ T := (by omega)
        have hz185 : 0 ≤ 100 := (by omega)
        have hz186 : nd ≤ (nd + 1) := (by omega)
        have hz187 : (nd + 1) + 2 * at0 ≤ nd + 2 * (at0 + 1) + 100000 * 0 := (by omega)
        have hz188 : (nd + 1) + 2 * at0 ≤ nd + 2 * (at0 + 1) + 40 * (21 - ne) := (by omega)
        have hz189 : wr ≤ wr := (by omega)
        have hz190 : wr + at0 ≤ wr + (at0 + 1) := (by omega)
        have hz191 : lk ≤ lk := (by omega)
        have hz192 : lk ≤ 60 + 100 * 0 := (by omega)
        have hz193 : at0 + 1 ≤ (at0 + 1) + 0 := (by omega)
        have hz194 : nd ≤ (nd + 1) := (by omega)
        have hz195 : Kp B X176 wr T := hkp178
        have hz196 : If (0 = 0) (Low B X176 nd wr ∧ Frs K T wr X176 nd (nd + 1) 20000 [(nd, (210 + lk - (10 * ne + lk)))] ∧ kcl 1 (X176 9 nd) = true) := (fun _ => ⟨hlo179, Frs.up hf182 (by omega), (by rw [hn181.1]; decide)⟩)
        have hP : va_P G.1 pCl (mW G h0 a (upd (upd (upd (upd (upd (upd (upd F 15 (nI 0)) 16 (F 16)) 27 (nI (nd + 1))) 31 (nI wr)) 64 (nI (at0 + 1))) 65 (nI ne)) 66 (nI lk)) (updA X176 2 K)) _ := mW_to (F := F) (l1 := [(15, 0), (27, (nI (nd + 1))), (31, (nI wr)), (64, (nI (at0 + 1))), (65, (nI ne)), (66, (nI lk))]) (l2 := [(15, (nI 0)), (16, (F 16)), (27, (nI (nd + 1))), (31, (nI wr)), (64, (nI (at0 + 1))), (65, (nI ne)), (66, (nI lk))]) (V := [(nI 0), (nI (nd + 1)), (nI wr), (nI (at0 + 1)), (nI ne), (nI lk), (nI 0), (F 16), (nI (nd + 1)), (nI wr), (nI (at0 + 1)), (nI ne), (nI lk)]) rfl rfl rfl hP
        have hD : va_D A (mW G h0 a (upd (upd (upd (upd (upd (upd (upd F 15 (nI 0)) 16 (F 16)) 27 (nI (nd + 1))) 31 (nI wr)) 64 (nI (at0 + 1))) 65 (nI ne)) 66 (nI lk)) (updA X176 2 K)) := mW_D hD
        exact W.iret (v := (nI nd)) hx hb hr (fun t9 ht9 hW9 => ⟨⟨_, ((at0 + 1), 0, (F 16), (nd + 1), lk, wr, nd, X176), rfl, ⟨rfl, hz183, hz184, hz185, hz186, hz187, hz188, hz189, hz190, hz191, hz192, hz193, hz194, hz195, hz196⟩, by rw [ht9]; exact hP, hD⟩, hS.F ht9⟩) hS.2.2 dX12_operand_211
      by_cases h197 : (K at0) = 330
      · refine lv_lookup (tgt := 312) (off := 216) hx hb dX12_operand_96 (by decide) (by rw [h197]; decide) (by decide) ?_
        refine lv_aload_n hx hb dX12_operand_312 rfl (lv_at hl 2 rfl) ?_
        refine lv_bipush (v := 11) hx hb dX12_operand_313 (by decide) ?_
        refine lv_iload_n hx hb dX12_operand_315 rfl (lv_at hl 1 rfl) ?_
        refine lv_iload_n hx hb dX12_operand_316 rfl (lv_at hl 1 rfl) ?_
        refine lv_iconst (v := (-1)) hx hb dX12_operand_317 (by decide) ?_
        refine lv_iconst (v := (-1)) hx hb dX12_operand_318 (by decide) ?_
        have hP : va_P G.1 pCl (mW G h0 a (upd (upd (upd (upd (upd (upd (upd F 15 0) 27 (nI nd)) 31 (nI wr)) 64 (nI (at0 + 1))) 65 (nI ne)) 66 (nI lk)) 27 (nI nd)) (updA B 2 K)) _ := mW_to (F := F) (l1 := [(15, 0), (27, (nI nd)), (31, (nI wr)), (64, (nI at0)), (65, (nI ne)), (66, (nI lk)), (64, (nI (at0 + 1)))]) (l2 := [(15, 0), (27, (nI nd)), (31, (nI wr)), (64, (nI (at0 + 1))), (65, (nI ne)), (66, (nI lk)), (27, (nI nd))]) (V := [0, (nI nd), (nI wr), (nI (at0 + 1)), (nI ne), (nI lk), (nI (at0 + 1)), 0, (nI nd), (nI wr), (nI (at0 + 1)), (nI ne), (nI lk), (nI nd)]) rfl rfl rfl hP
        have hD : va_D A (mW G h0 a (upd (upd (upd (upd (upd (upd (upd F 15 0) 27 (nI nd)) 31 (nI wr)) 64 (nI (at0 + 1))) 65 (nI ne)) 66 (nI lk)) 27 (nI nd)) (updA B 2 K)) := mW_D hD
        refine pc_V0 (G := G) (As := [.int 11, .int (nI at0), .int (nI at0), .int (-1), .int (-1)]) (rest := []) hx hb hml hown hq hE hX pX0_al hP hD hS hA hl.1 (R_nodeB l G h0 a (upd (upd (upd (upd (upd (upd F 15 0) 27 (nI nd)) 31 (nI wr)) 64 (nI (at0 + 1))) 65 (nI ne)) 66 (nI lk)) B 11 (nI at0) (nI at0) (-1) (-1) nd K (by omega)) (gV pw_1650 pw_1651 pw_1652 pw_1523 pw_1589) hV_X12_node 0 9 rfl rfl rfl rfl (Nat.le_of_ble_eq_true rfl) dX12_operand_319 ⟨Nat.le_of_ble_eq_true rfl, Nat.le_of_ble_eq_true rfl⟩ ⟨(by show 2 + 1 ≤ (20 * n + 10); omega), (by show 8 + (7 + 11) + 60 ≤ (1000 * n + 40 * 10); omega)⟩ (fun v200 u198 H locs hw199 hP hD hS => ?_)
        obtain ⟨X201, rfl⟩ : ∃ z, z = u198 := ⟨_, rfl⟩
        obtain ⟨hw199, h202⟩ := hw199
        have h202 : NewN B X201 nd 11 (nI at0) (nI at0) (-1) (-1) := h202
        obtain rfl : v200 = some (.int (nI nd)) := hw199
        have hP : va_P G.1 pCl (mW G h0 a (upd (upd (upd (upd (upd (upd F 15 0) 27 (nI (nd + 1))) 31 (nI wr)) 64 (nI (at0 + 1))) 65 (nI ne)) 66 (nI lk)) (updA X201 2 K)) _ := mW_to (F := F) (l1 := [(15, 0), (27, (nI nd)), (31, (nI wr)), (64, (nI (at0 + 1))), (65, (nI ne)), (66, (nI lk)), (27, (nI (nd + 1)))]) (l2 := [(15, 0), (27, (nI (nd + 1))), (31, (nI wr)), (64, (nI (at0 + 1))), (65, (nI ne)), (66, (nI lk))]) (V := [0, (nI (nd + 1)), (nI wr), (nI (at0 + 1)), (nI ne), (nI lk), (nI (nd + 1)), 0, (nI (nd + 1)), (nI wr), (nI (at0 + 1)), (nI ne), (nI lk)]) rfl rfl rfl hP
        have hD : va_D A (mW G h0 a (upd (upd (upd (upd (upd (upd F 15 0) 27 (nI (nd + 1))) 31 (nI wr)) 64 (nI (at0 + 1))) 65 (nI ne)) 66 (nI lk)) (updA X201 2 K)) := mW_D hD
        refine W.widen (k := 0) (n := 0) (Nat.le_of_ble_eq_true rfl) (Nat.le_of_ble_eq_true rfl) ?_
        refine W.eq (g2 := F0 m 322 ls [.int (nI nd)]) rfl ?_
        have hkp203 : Kp B X201 wr T := (Kp.new hkp1 h202)
        have hlo204 : Low B X201 nd wr := (Low.new hlo2 h202 (by omega))
        have hf205 : Frs K T wr X201 nd (nd + 1) nd [(nd, 0)] := (Frs.new0 (k := 11) Frs.nil (Nat.le_refl _) (Nat.le_refl _) h202 rfl (by decide) (by decide) (by omega) (by omega) (fun e => absurd e (by decide)) (newOK.m1 (by decide)) (newOK.m1 (by decide)) (newOK.m1 (by decide)) (newOK.m1 (by decide)))
        have hn206 : Nd X201 nd 11 (-1) (-1) (-1) (-1) := (NewN.toNd h202)
        have hf207 : Frs K T wr X201 nd (nd + 1) 20000 [(nd, 0)] := (Frs.fin (k := 11) hf205 hn206 rfl (by decide) (fun h => absurd h (by decide)) (fun h => absurd h (by decide)) (fun h => absurd h (by decide)) (fun h => absurd h (by decide)))
        refine lv_istore_n (lv' := [(3, .int (nI nd)), (2, .int (K at0)), (1, .int (nI at0)), (0, .ref h0)]) hx hb dX12_operand_322 rfl hl (by decide) rfl (fun ls hl => ?_)
        refine lv_aload_n hx hb dX12_operand_323 rfl (lv_at hl 3 rfl) ?_
        refine r_get (v := .int 0) hx hb hown hq hE hP 15 350 tFX12_15 (by decide) pw_1594 rfl dX12_operand_324 ?_
        refine lv_if_ne (tgt := 344) hx hb dX12_operand_327 (by decide) (fun c208 => absurd c208 (by decide)) (fun c208 => ?_)
        refine lv_aload_n hx hb dX12_operand_330 rfl (lv_at hl 3 rfl) ?_
        have hP : va_P G.1 pCl (mW G h0 a (upd (upd (upd (upd (upd (upd (upd (upd F 15 0) 27 (nI (nd + 1))) 31 (nI wr)) 64 (nI (at0 + 1))) 65 (nI ne)) 66 (nI lk)) 15 (nI 0)) 64 (nI (at0 + 1))) (updA (updA X201 2 K) 2 K)) _ := mW_to (F := F) (l1 := [(15, 0), (27, (nI (nd + 1))), (31, (nI wr)), (64, (nI (at0 + 1))), (65, (nI ne)), (66, (nI lk))]) (l2 := [(15, 0), (27, (nI (nd + 1))), (31, (nI wr)), (64, (nI (at0 + 1))), (65, (nI ne)), (66, (nI lk)), (15, (nI 0)), (64, (nI (at0 + 1)))]) (V := [(nI 0), (nI (nd + 1)), (nI wr), (nI (at0 + 1)), (nI ne), (nI lk), (nI 0), (nI (nd + 1)), (nI wr), (nI (at0 + 1)), (nI ne), (nI lk), (nI 0), (nI (at0 + 1))]) rfl rfl (show (updA X201 2 K) = (updA (updA X201 2 K) 2 K) from updsA_eq2 (F := X201) (l1 := [(2, K)]) (l2 := [(2, K), (2, K)]) (V := [K, K, K]) rfl rfl) hP
        have hD : va_D A (mW G h0 a (upd (upd (upd (upd (upd (upd (upd (upd F 15 0) 27 (nI (nd + 1))) 31 (nI wr)) 64 (nI (at0 + 1))) 65 (nI ne)) 66 (nI lk)) 15 (nI 0)) 64 (nI (at0 + 1))) (updA (updA X201 2 K) 2 K)) := mW_D hD
        refine pc_V0 (G := G) (As := []) (rest := []) hx hb hml hown hq hE hX pX0_al hP hD hS hA hl.1 (R_kind l G h0 a (upd (upd (upd (upd (upd (upd F 15 0) 27 (nI (nd + 1))) 31 (nI wr)) 64 (nI (at0 + 1))) 65 (nI ne)) 66 (nI lk)) (updA X201 2 K) (at0 + 1) T 0 K (by omega) (by omega) hK (by omega)) (gV pw_1626 pw_1627 pw_1628 pw_1523 pw_1591) hV_X12_kind 0 9 rfl rfl rfl rfl (Nat.le_of_ble_eq_true rfl) dX12_operand_331 ⟨Nat.le_of_ble_eq_true rfl, Nat.le_of_ble_eq_true rfl⟩ ⟨(by show 2 + 1 ≤ (20 * n + 10); omega), (by show 8 + (1 + 11) + 60 ≤ (1000 * n + 40 * 10); omega)⟩ (fun v211 u209 H locs hw210 hP hD hS => ?_)
        obtain rfl : v211 = some (.int (K (at0 + 1))) := hw210
        have hP : va_P G.1 pCl (mW G h0 a (upd (upd (upd (upd (upd (upd F 15 0) 27 (nI (nd + 1))) 31 (nI wr)) 64 (nI (at0 + 1))) 65 (nI ne)) 66 (nI lk)) (updA X201 2 K)) _ := mW_to (F := F) (l1 := [(15, 0), (27, (nI (nd + 1))), (31, (nI wr)), (64, (nI (at0 + 1))), (65, (nI ne)), (66, (nI lk)), (15, (nI 0)), (64, (nI (at0 + 1)))]) (l2 := [(15, 0), (27, (nI (nd + 1))), (31, (nI wr)), (64, (nI (at0 + 1))), (65, (nI ne)), (66, (nI lk))]) (V := [0, (nI (nd + 1)), (nI wr), (nI (at0 + 1)), (nI ne), (nI lk), 0, (nI (at0 + 1)), 0, (nI (nd + 1)), (nI wr), (nI (at0 + 1)), (nI ne), (nI lk)]) rfl rfl (show (updA (updA X201 2 K) 2 K) = (updA X201 2 K) from updsA_eq2 (F := X201) (l1 := [(2, K), (2, K)]) (l2 := [(2, K)]) (V := [K, K, K]) rfl rfl) hP
        have hD : va_D A (mW G h0 a (upd (upd (upd (upd (upd (upd F 15 0) 27 (nI (nd + 1))) 31 (nI wr)) 64 (nI (at0 + 1))) 65 (nI ne)) 66 (nI lk)) (updA X201 2 K)) := mW_D hD
        refine W.widen (k := 0) (n := 0) (Nat.le_of_ble_eq_true rfl) (Nat.le_of_ble_eq_true rfl) ?_
        refine W.eq (g2 := F0 m 334 ls [.int (K (at0 + 1))]) rfl ?_
        refine lv_bipush (v := 40) hx hb dX12_operand_334 (by decide) ?_
        refine lv_icmp_eq (tgt := 344) hx hb dX12_operand_336 (by decide) (fun c212 => ?_) (fun c212 => ?_)
        · refine lv_aload_n hx hb dX12_operand_344 rfl (lv_at hl 3 rfl) ?_
          have hP : va_P G.1 pCl (mW G h0 a (upd (upd (upd (upd (upd (upd (upd (upd (upd F 15 0) 27 (nI (nd + 1))) 31 (nI wr)) 64 (nI (at0 + 1))) 65 (nI ne)) 66 (nI lk)) 15 (nI 0)) 64 (nI (at0 + 1))) 65 (nI ne)) (updA (updA X201 2 K) 2 K)) _ := mW_to (F := F) (l1 := [(15, 0), (27, (nI (nd + 1))), (31, (nI wr)), (64, (nI (at0 + 1))), (65, (nI ne)), (66, (nI lk))]) (l2 := [(15, 0), (27, (nI (nd + 1))), (31, (nI wr)), (64, (nI (at0 + 1))), (65, (nI ne)), (66, (nI lk)), (15, (nI 0)), (64, (nI (at0 + 1))), (65, (nI ne))]) (V := [(nI 0), (nI (nd + 1)), (nI wr), (nI (at0 + 1)), (nI ne), (nI lk), (nI 0), (nI (nd + 1)), (nI wr), (nI (at0 + 1)), (nI ne), (nI lk), (nI 0), (nI (at0 + 1)), (nI ne)]) rfl rfl (show (updA X201 2 K) = (updA (updA X201 2 K) 2 K) from updsA_eq2 (F := X201) (l1 := [(2, K)]) (l2 := [(2, K), (2, K)]) (V := [K, K, K]) rfl rfl) hP
          have hD : va_D A (mW G h0 a (upd (upd (upd (upd (upd (upd (upd (upd (upd F 15 0) 27 (nI (nd + 1))) 31 (nI wr)) 64 (nI (at0 + 1))) 65 (nI ne)) 66 (nI lk)) 15 (nI 0)) 64 (nI (at0 + 1))) 65 (nI ne)) (updA (updA X201 2 K) 2 K)) := mW_D hD
          refine pc_V0 (G := G) (As := []) (rest := []) hx hb hml hown hq hE hX pX0_al hP hD hS hA hl.1 (R_deeper l G h0 a (upd (upd (upd (upd (upd (upd F 15 0) 27 (nI (nd + 1))) 31 (nI wr)) 64 (nI (at0 + 1))) 65 (nI ne)) 66 (nI lk)) (updA X201 2 K) (at0 + 1) T 0 K ne (by omega) (by omega) hK (by omega) (by omega)) (gV pw_1637 pw_1638 pw_1639 pw_1523 pw_1611) hV_X12_deeper 0 9 rfl rfl rfl rfl (Nat.le_of_ble_eq_true rfl) dX12_operand_345 ⟨Nat.le_of_ble_eq_true rfl, Nat.le_of_ble_eq_true rfl⟩ ⟨(by show 4 + 1 ≤ (20 * n + 10); omega), (by show 8 + (1 + 11) + 103 ≤ (1000 * n + 40 * 10); omega)⟩ (fun v215 u213 H locs hw214 hP hD hS => ?_)
          obtain ⟨fa216, pl217⟩ := u213
          obtain ⟨hw214, h218, h219, h220, h221⟩ := hw214
          have h218 : 0 ≤ fa216 := h218
          have h219 : fa216 ≤ 100 := h219
          have h220 : If (0 < 0) (fa216 = 0) := h220
          have h221 : If (ne ≤ 20) (ne + 1 ≤ 20 + fa216) := h221
          obtain rfl : v215 = none := hw214
          have hP : va_P G.1 pCl (mW G h0 a (upd (upd (upd (upd (upd (upd (upd F 15 (nI fa216)) 16 pl217) 27 (nI (nd + 1))) 31 (nI wr)) 64 (nI (at0 + 1))) 65 (nI (ne + 1))) 66 (nI lk)) (updA X201 2 K)) _ := mW_to (F := F) (l1 := [(15, 0), (27, (nI (nd + 1))), (31, (nI wr)), (64, (nI (at0 + 1))), (65, (nI ne)), (66, (nI lk)), (15, (nI fa216)), (16, pl217), (64, (nI (at0 + 1))), (65, (nI (ne + 1)))]) (l2 := [(15, (nI fa216)), (16, pl217), (27, (nI (nd + 1))), (31, (nI wr)), (64, (nI (at0 + 1))), (65, (nI (ne + 1))), (66, (nI lk))]) (V := [(nI fa216), (nI (nd + 1)), (nI wr), (nI (at0 + 1)), (nI (ne + 1)), (nI lk), (nI fa216), pl217, (nI (at0 + 1)), (nI (ne + 1)), (nI fa216), pl217, (nI (nd + 1)), (nI wr), (nI (at0 + 1)), (nI (ne + 1)), (nI lk)]) rfl rfl (show (updA (updA X201 2 K) 2 K) = (updA X201 2 K) from updsA_eq2 (F := X201) (l1 := [(2, K), (2, K)]) (l2 := [(2, K)]) (V := [K, K, K]) rfl rfl) hP
          have hD : va_D A (mW G h0 a (upd (upd (upd (upd (upd (upd (upd F 15 (nI fa216)) 16 pl217) 27 (nI (nd + 1))) 31 (nI wr)) 64 (nI (at0 + 1))) 65 (nI (ne + 1))) 66 (nI lk)) (updA X201 2 K)) := mW_D hD
          refine W.widen (k := 0) (n := 0) (Nat.le_of_ble_eq_true rfl) (Nat.le_of_ble_eq_true rfl) ?_
          refine W.eq (g2 := F0 m 348 ls []) rfl ?_
          rcases Nat.eq_zero_or_pos fa216 with e222 | e222
          · subst e222
            have hP : va_P G.1 pCl (mW G h0 a (upd (upd (upd (upd (upd (upd (upd F 15 0) 16 pl217) 27 (nI (nd + 1))) 31 (nI wr)) 64 (nI (at0 + 1))) 65 (nI (ne + 1))) 66 (nI lk)) (updA X201 2 K)) _ := hP
            have hD : va_D A (mW G h0 a (upd (upd (upd (upd (upd (upd (upd F 15 0) 16 pl217) 27 (nI (nd + 1))) 31 (nI wr)) 64 (nI (at0 + 1))) 65 (nI (ne + 1))) 66 (nI lk)) (updA X201 2 K)) := mW_D hD
            have n223 : ne + 1 ≤ 20 := (h221 (by omega))
            refine lv_aload_n hx hb dX12_operand_348 rfl (lv_at hl 3 rfl) ?_
            refine lv_bipush (v := 40) hx hb dX12_operand_349 (by decide) ?_
            have hP : va_P G.1 pCl (mW G h0 a (upd (upd (upd (upd (upd (upd (upd (upd (upd F 15 0) 16 pl217) 27 (nI (nd + 1))) 31 (nI wr)) 64 (nI (at0 + 1))) 65 (nI (ne + 1))) 66 (nI lk)) 15 (nI 0)) 64 (nI (at0 + 1))) (updA (updA X201 2 K) 2 K)) _ := mW_to (F := F) (l1 := [(15, 0), (16, pl217), (27, (nI (nd + 1))), (31, (nI wr)), (64, (nI (at0 + 1))), (65, (nI (ne + 1))), (66, (nI lk))]) (l2 := [(15, 0), (16, pl217), (27, (nI (nd + 1))), (31, (nI wr)), (64, (nI (at0 + 1))), (65, (nI (ne + 1))), (66, (nI lk)), (15, (nI 0)), (64, (nI (at0 + 1)))]) (V := [(nI 0), pl217, (nI (nd + 1)), (nI wr), (nI (at0 + 1)), (nI (ne + 1)), (nI lk), (nI 0), pl217, (nI (nd + 1)), (nI wr), (nI (at0 + 1)), (nI (ne + 1)), (nI lk), (nI 0), (nI (at0 + 1))]) rfl rfl (show (updA X201 2 K) = (updA (updA X201 2 K) 2 K) from updsA_eq2 (F := X201) (l1 := [(2, K)]) (l2 := [(2, K), (2, K)]) (V := [K, K, K]) rfl rfl) hP
            have hD : va_D A (mW G h0 a (upd (upd (upd (upd (upd (upd (upd (upd (upd F 15 0) 16 pl217) 27 (nI (nd + 1))) 31 (nI wr)) 64 (nI (at0 + 1))) 65 (nI (ne + 1))) 66 (nI lk)) 15 (nI 0)) 64 (nI (at0 + 1))) (updA (updA X201 2 K) 2 K)) := mW_D hD
            refine pc_V0 (G := G) (As := [.int 40]) (rest := []) hx hb hml hown hq hE hX pX0_al hP hD hS hA hl.1 (R_take l G h0 a (upd (upd (upd (upd (upd (upd (upd F 15 0) 16 pl217) 27 (nI (nd + 1))) 31 (nI wr)) 64 (nI (at0 + 1))) 65 (nI (ne + 1))) 66 (nI lk)) (updA X201 2 K) (at0 + 1) T 0 K 40 (by omega) (by omega) hK (by omega) (by decide) (by decide)) (gV pw_1614 pw_1615 pw_1616 pw_1523 pw_1601) hV_X12_take 0 9 rfl rfl rfl rfl (Nat.le_of_ble_eq_true rfl) dX12_operand_351 ⟨Nat.le_of_ble_eq_true rfl, Nat.le_of_ble_eq_true rfl⟩ ⟨(by show 4 + 1 ≤ (20 * n + 10); omega), (by show 8 + (2 + 11) + 103 ≤ (1000 * n + 40 * 10); omega)⟩ (fun v226 u224 H locs hw225 hP hD hS => ?_)
            obtain ⟨at227, fa228, pl229⟩ := u224
            obtain ⟨hw225, h230, h231, h232, h233, h234, h235, h236, h237⟩ := hw225
            have h230 : (at0 + 1) ≤ at227 := h230
            have h231 : at227 ≤ T := h231
            have h232 : 0 ≤ fa228 := h232
            have h233 : fa228 ≤ 100 := h233
            have h234 : If (0 < 0) (at227 = (at0 + 1) ∧ fa228 = 0) := h234
            have h235 : at227 ≤ (at0 + 1) + 1 := h235
            have h236 : (at0 + 1) + 1 ≤ at227 + fa228 := h236
            have h237 : If (fa228 = 0) (K (at0 + 1) = 40) := h237
            obtain rfl : v226 = none := hw225
            have hP : va_P G.1 pCl (mW G h0 a (upd (upd (upd (upd (upd (upd (upd F 15 (nI fa228)) 16 pl229) 27 (nI (nd + 1))) 31 (nI wr)) 64 (nI at227)) 65 (nI (ne + 1))) 66 (nI lk)) (updA X201 2 K)) _ := mW_to (F := F) (l1 := [(15, 0), (16, pl217), (27, (nI (nd + 1))), (31, (nI wr)), (64, (nI (at0 + 1))), (65, (nI (ne + 1))), (66, (nI lk)), (15, (nI fa228)), (16, pl229), (64, (nI at227))]) (l2 := [(15, (nI fa228)), (16, pl229), (27, (nI (nd + 1))), (31, (nI wr)), (64, (nI at227)), (65, (nI (ne + 1))), (66, (nI lk))]) (V := [(nI fa228), pl229, (nI (nd + 1)), (nI wr), (nI at227), (nI (ne + 1)), (nI lk), (nI fa228), pl229, (nI at227), (nI fa228), pl229, (nI (nd + 1)), (nI wr), (nI at227), (nI (ne + 1)), (nI lk)]) rfl rfl (show (updA (updA X201 2 K) 2 K) = (updA X201 2 K) from updsA_eq2 (F := X201) (l1 := [(2, K), (2, K)]) (l2 := [(2, K)]) (V := [K, K, K]) rfl rfl) hP
            have hD : va_D A (mW G h0 a (upd (upd (upd (upd (upd (upd (upd F 15 (nI fa228)) 16 pl229) 27 (nI (nd + 1))) 31 (nI wr)) 64 (nI at227)) 65 (nI (ne + 1))) 66 (nI lk)) (updA X201 2 K)) := mW_D hD
            refine W.widen (k := 0) (n := 0) (Nat.le_of_ble_eq_true rfl) (Nat.le_of_ble_eq_true rfl) ?_
            refine W.eq (g2 := F0 m 354 ls []) rfl ?_
            rcases Nat.eq_zero_or_pos fa228 with e238 | e238
            · subst e238
              have hP : va_P G.1 pCl (mW G h0 a (upd (upd (upd (upd (upd (upd (upd F 15 0) 16 pl229) 27 (nI (nd + 1))) 31 (nI wr)) 64 (nI at227)) 65 (nI (ne + 1))) 66 (nI lk)) (updA X201 2 K)) _ := hP
              have hD : va_D A (mW G h0 a (upd (upd (upd (upd (upd (upd (upd F 15 0) 16 pl229) 27 (nI (nd + 1))) 31 (nI wr)) 64 (nI at227)) 65 (nI (ne + 1))) 66 (nI lk)) (updA X201 2 K)) := mW_D hD
              refine lv_aload_n hx hb dX12_operand_354 rfl (lv_at hl 3 rfl) ?_
              refine lv_bipush (v := 41) hx hb dX12_operand_355 (by decide) ?_
              have hP : va_P G.1 pCl (mW G h0 a (upd (upd (upd (upd (upd (upd (upd (upd (upd F 15 0) 16 pl229) 27 (nI (nd + 1))) 31 (nI wr)) 64 (nI at227)) 65 (nI (ne + 1))) 66 (nI lk)) 15 (nI 0)) 64 (nI at227)) (updA (updA X201 2 K) 2 K)) _ := mW_to (F := F) (l1 := [(15, 0), (16, pl229), (27, (nI (nd + 1))), (31, (nI wr)), (64, (nI at227)), (65, (nI (ne + 1))), (66, (nI lk))]) (l2 := [(15, 0), (16, pl229), (27, (nI (nd + 1))), (31, (nI wr)), (64, (nI at227)), (65, (nI (ne + 1))), (66, (nI lk)), (15, (nI 0)), (64, (nI at227))]) (V := [(nI 0), pl229, (nI (nd + 1)), (nI wr), (nI at227), (nI (ne + 1)), (nI lk), (nI 0), pl229, (nI (nd + 1)), (nI wr), (nI at227), (nI (ne + 1)), (nI lk), (nI 0), (nI at227)]) rfl rfl (show (updA X201 2 K) = (updA (updA X201 2 K) 2 K) from updsA_eq2 (F := X201) (l1 := [(2, K)]) (l2 := [(2, K), (2, K)]) (V := [K, K, K]) rfl rfl) hP
              have hD : va_D A (mW G h0 a (upd (upd (upd (upd (upd (upd (upd (upd (upd F 15 0) 16 pl229) 27 (nI (nd + 1))) 31 (nI wr)) 64 (nI at227)) 65 (nI (ne + 1))) 66 (nI lk)) 15 (nI 0)) 64 (nI at227)) (updA (updA X201 2 K) 2 K)) := mW_D hD
              refine pc_V0 (G := G) (As := [.int 41]) (rest := []) hx hb hml hown hq hE hX pX0_al hP hD hS hA hl.1 (R_take l G h0 a (upd (upd (upd (upd (upd (upd (upd F 15 0) 16 pl229) 27 (nI (nd + 1))) 31 (nI wr)) 64 (nI at227)) 65 (nI (ne + 1))) 66 (nI lk)) (updA X201 2 K) at227 T 0 K 41 (by omega) (by omega) hK (by omega) (by decide) (by decide)) (gV pw_1614 pw_1615 pw_1616 pw_1523 pw_1601) hV_X12_take 0 9 rfl rfl rfl rfl (Nat.le_of_ble_eq_true rfl) dX12_operand_357 ⟨Nat.le_of_ble_eq_true rfl, Nat.le_of_ble_eq_true rfl⟩ ⟨(by show 4 + 1 ≤ (20 * n + 10); omega), (by show 8 + (2 + 11) + 103 ≤ (1000 * n + 40 * 10); omega)⟩ (fun v241 u239 H locs hw240 hP hD hS => ?_)
              obtain ⟨at242, fa243, pl244⟩ := u239
              obtain ⟨hw240, h245, h246, h247, h248, h249, h250, h251, h252⟩ := hw240
              have h245 : at227 ≤ at242 := h245
              have h246 : at242 ≤ T := h246
              have h247 : 0 ≤ fa243 := h247
              have h248 : fa243 ≤ 100 := h248
              have h249 : If (0 < 0) (at242 = at227 ∧ fa243 = 0) := h249
              have h250 : at242 ≤ at227 + 1 := h250
              have h251 : at227 + 1 ≤ at242 + fa243 := h251
              have h252 : If (fa243 = 0) (K at227 = 41) := h252
              obtain rfl : v241 = none := hw240
              have hP : va_P G.1 pCl (mW G h0 a (upd (upd (upd (upd (upd (upd (upd F 15 (nI fa243)) 16 pl244) 27 (nI (nd + 1))) 31 (nI wr)) 64 (nI at242)) 65 (nI (ne + 1))) 66 (nI lk)) (updA X201 2 K)) _ := mW_to (F := F) (l1 := [(15, 0), (16, pl229), (27, (nI (nd + 1))), (31, (nI wr)), (64, (nI at227)), (65, (nI (ne + 1))), (66, (nI lk)), (15, (nI fa243)), (16, pl244), (64, (nI at242))]) (l2 := [(15, (nI fa243)), (16, pl244), (27, (nI (nd + 1))), (31, (nI wr)), (64, (nI at242)), (65, (nI (ne + 1))), (66, (nI lk))]) (V := [(nI fa243), pl244, (nI (nd + 1)), (nI wr), (nI at242), (nI (ne + 1)), (nI lk), (nI fa243), pl244, (nI at242), (nI fa243), pl244, (nI (nd + 1)), (nI wr), (nI at242), (nI (ne + 1)), (nI lk)]) rfl rfl (show (updA (updA X201 2 K) 2 K) = (updA X201 2 K) from updsA_eq2 (F := X201) (l1 := [(2, K), (2, K)]) (l2 := [(2, K)]) (V := [K, K, K]) rfl rfl) hP
              have hD : va_D A (mW G h0 a (upd (upd (upd (upd (upd (upd (upd F 15 (nI fa243)) 16 pl244) 27 (nI (nd + 1))) 31 (nI wr)) 64 (nI at242)) 65 (nI (ne + 1))) 66 (nI lk)) (updA X201 2 K)) := mW_D hD
              refine W.widen (k := 0) (n := 0) (Nat.le_of_ble_eq_true rfl) (Nat.le_of_ble_eq_true rfl) ?_
              refine W.eq (g2 := F0 m 360 ls []) rfl ?_
              rcases Nat.eq_zero_or_pos fa243 with e253 | e253
              · subst e253
                have hP : va_P G.1 pCl (mW G h0 a (upd (upd (upd (upd (upd (upd (upd F 15 0) 16 pl244) 27 (nI (nd + 1))) 31 (nI wr)) 64 (nI at242)) 65 (nI (ne + 1))) 66 (nI lk)) (updA X201 2 K)) _ := hP
                have hD : va_D A (mW G h0 a (upd (upd (upd (upd (upd (upd (upd F 15 0) 16 pl244) 27 (nI (nd + 1))) 31 (nI wr)) 64 (nI at242)) 65 (nI (ne + 1))) 66 (nI lk)) (updA X201 2 K)) := mW_D hD
                refine lv_aload_n hx hb dX12_operand_360 rfl (lv_at hl 3 rfl) ?_
                refine lv_dup hx hb dX12_operand_361 rfl ?_
                refine r_get (v := .int (nI (ne + 1))) hx hb hown hq hE hP 65 366 tFX12_65 (by decide) pw_1612 rfl dX12_operand_362 ?_
                refine lv_iconst (v := 1) hx hb dX12_operand_365 (by decide) ?_
                refine lv_isub hx hb dX12_operand_366 ?_
                refine lv_topi (fun x254 e255 => ?_)
                obtain rfl : x254 = nI ((ne + 1) - 1) := e255.trans (nI_subN (a := 1) (b := (ne + 1)) (by omega))
                refine r_put (v := (nI ((ne + 1) - 1))) (ty := .int) hx hb hown hq hE hP hD hS 65 366 tFX12_65 (by decide) pw_1612 (by decide) rfl rfl (ms_65 a _ _) dX12_operand_367 (fun H locs hP hD hS => ?_)
                refine lv_iload_n hx hb dX12_operand_370 rfl (lv_at hl 0 rfl) ?_
                have hz256 : at0 ≤ at242 := (by omega)
                have hz257 : at242 ≤ T := (by omega)
                have hz258 : 0 ≤ 100 := (by omega)
                have hz259 : nd ≤ (nd + 1) := (by omega)
                have hz260 : (nd + 1) + 2 * at0 ≤ nd + 2 * at242 + 100000 * 0 := (by omega)
                have hz261 : (nd + 1) + 2 * at0 ≤ nd + 2 * at242 + 40 * (21 - ne) := (by omega)
                have hz262 : wr ≤ wr := (by omega)
                have hz263 : wr + at0 ≤ wr + at242 := (by omega)
                have hz264 : lk ≤ lk := (by omega)
                have hz265 : lk ≤ 60 + 100 * 0 := (by omega)
                have hz266 : at0 + 1 ≤ at242 + 0 := (by omega)
                have hz267 : nd ≤ (nd + 1) := (by omega)
                have hz268 : Kp B X201 wr T := hkp203
                have hz269 : If (0 = 0) (Low B X201 nd wr ∧ Frs K T wr X201 nd (nd + 1) 20000 [(nd, (210 + lk - (10 * ne + lk)))] ∧ kcl 1 (X201 9 nd) = true) := (fun _ => ⟨hlo204, Frs.up hf207 (by omega), (by rw [hn206.1]; decide)⟩)
                have hP : va_P G.1 pCl (mW G h0 a (upd (upd (upd (upd (upd (upd (upd F 15 (nI 0)) 16 pl244) 27 (nI (nd + 1))) 31 (nI wr)) 64 (nI at242)) 65 (nI ne)) 66 (nI lk)) (updA X201 2 K)) _ := mW_to (F := F) (l1 := [(15, 0), (16, pl244), (27, (nI (nd + 1))), (31, (nI wr)), (64, (nI at242)), (65, (nI (ne + 1))), (66, (nI lk)), (65, (nI ((ne + 1) - 1)))]) (l2 := [(15, (nI 0)), (16, pl244), (27, (nI (nd + 1))), (31, (nI wr)), (64, (nI at242)), (65, (nI ne)), (66, (nI lk))]) (V := [(nI 0), pl244, (nI (nd + 1)), (nI wr), (nI at242), (nI ne), (nI lk), (nI ne), (nI 0), pl244, (nI (nd + 1)), (nI wr), (nI at242), (nI ne), (nI lk)]) rfl rfl rfl hP
                have hD : va_D A (mW G h0 a (upd (upd (upd (upd (upd (upd (upd F 15 (nI 0)) 16 pl244) 27 (nI (nd + 1))) 31 (nI wr)) 64 (nI at242)) 65 (nI ne)) 66 (nI lk)) (updA X201 2 K)) := mW_D hD
                exact W.iret (v := (nI nd)) hx hb hr (fun t9 ht9 hW9 => ⟨⟨_, (at242, 0, pl244, (nd + 1), lk, wr, nd, X201), rfl, ⟨rfl, hz256, hz257, hz258, hz259, hz260, hz261, hz262, hz263, hz264, hz265, hz266, hz267, hz268, hz269⟩, by rw [ht9]; exact hP, hD⟩, hS.F ht9⟩) hS.2.2 dX12_operand_371
              · have e253 := e253
                refine lv_aload_n hx hb dX12_operand_360 rfl (lv_at hl 3 rfl) ?_
                refine lv_dup hx hb dX12_operand_361 rfl ?_
                refine r_get (v := .int (nI (ne + 1))) hx hb hown hq hE hP 65 366 tFX12_65 (by decide) pw_1612 rfl dX12_operand_362 ?_
                refine lv_iconst (v := 1) hx hb dX12_operand_365 (by decide) ?_
                refine lv_isub hx hb dX12_operand_366 ?_
                refine lv_topi (fun x270 e271 => ?_)
                obtain rfl : x270 = nI ((ne + 1) - 1) := e271.trans (nI_subN (a := 1) (b := (ne + 1)) (by omega))
                refine r_put (v := (nI ((ne + 1) - 1))) (ty := .int) hx hb hown hq hE hP hD hS 65 366 tFX12_65 (by decide) pw_1612 (by decide) rfl rfl (ms_65 a _ _) dX12_operand_367 (fun H locs hP hD hS => ?_)
                refine lv_iload_n hx hb dX12_operand_370 rfl (lv_at hl 0 rfl) ?_
                have hz272 : at0 ≤ at242 := (by omega)
                have hz273 : at242 ≤ T := (by omega)
                have hz274 : fa243 ≤ 100 := (by omega)
                have hz275 : nd ≤ (nd + 1) := (by omega)
                have hz276 : (nd + 1) + 2 * at0 ≤ nd + 2 * at242 + 100000 * fa243 := (by omega)
                have hz277 : (nd + 1) + 2 * at0 ≤ nd + 2 * at242 + 40 * (21 - ne) := (by omega)
                have hz278 : wr ≤ wr := (by omega)
                have hz279 : wr + at0 ≤ wr + at242 := (by omega)
                have hz280 : lk ≤ lk := (by omega)
                have hz281 : lk ≤ 60 + 100 * fa243 := (by omega)
                have hz282 : at0 + 1 ≤ at242 + fa243 := (by omega)
                have hz283 : nd ≤ (nd + 1) := (by omega)
                have hz284 : Kp B X201 wr T := hkp203
                have hz285 : If (fa243 = 0) (Low B X201 nd wr ∧ Frs K T wr X201 nd (nd + 1) 20000 [(nd, (210 + lk - (10 * ne + lk)))] ∧ kcl 1 (X201 9 nd) = true) := (fun e => absurd e (by omega))
                have hP : va_P G.1 pCl (mW G h0 a (upd (upd (upd (upd (upd (upd (upd F 15 (nI fa243)) 16 pl244) 27 (nI (nd + 1))) 31 (nI wr)) 64 (nI at242)) 65 (nI ne)) 66 (nI lk)) (updA X201 2 K)) _ := mW_to (F := F) (l1 := [(15, (nI fa243)), (16, pl244), (27, (nI (nd + 1))), (31, (nI wr)), (64, (nI at242)), (65, (nI (ne + 1))), (66, (nI lk)), (65, (nI ((ne + 1) - 1)))]) (l2 := [(15, (nI fa243)), (16, pl244), (27, (nI (nd + 1))), (31, (nI wr)), (64, (nI at242)), (65, (nI ne)), (66, (nI lk))]) (V := [(nI fa243), pl244, (nI (nd + 1)), (nI wr), (nI at242), (nI ne), (nI lk), (nI ne), (nI fa243), pl244, (nI (nd + 1)), (nI wr), (nI at242), (nI ne), (nI lk)]) rfl rfl rfl hP
                have hD : va_D A (mW G h0 a (upd (upd (upd (upd (upd (upd (upd F 15 (nI fa243)) 16 pl244) 27 (nI (nd + 1))) 31 (nI wr)) 64 (nI at242)) 65 (nI ne)) 66 (nI lk)) (updA X201 2 K)) := mW_D hD
                exact W.iret (v := (nI nd)) hx hb hr (fun t9 ht9 hW9 => ⟨⟨_, (at242, fa243, pl244, (nd + 1), lk, wr, nd, X201), rfl, ⟨rfl, hz272, hz273, hz274, hz275, hz276, hz277, hz278, hz279, hz280, hz281, hz282, hz283, hz284, hz285⟩, by rw [ht9]; exact hP, hD⟩, hS.F ht9⟩) hS.2.2 dX12_operand_371
            · have e238 := e238
              refine lv_aload_n hx hb dX12_operand_354 rfl (lv_at hl 3 rfl) ?_
              refine lv_bipush (v := 41) hx hb dX12_operand_355 (by decide) ?_
              have hP : va_P G.1 pCl (mW G h0 a (upd (upd (upd (upd (upd (upd (upd (upd (upd F 15 (nI fa228)) 16 pl229) 27 (nI (nd + 1))) 31 (nI wr)) 64 (nI at227)) 65 (nI (ne + 1))) 66 (nI lk)) 15 (nI fa228)) 64 (nI at227)) (updA (updA X201 2 K) 2 K)) _ := mW_to (F := F) (l1 := [(15, (nI fa228)), (16, pl229), (27, (nI (nd + 1))), (31, (nI wr)), (64, (nI at227)), (65, (nI (ne + 1))), (66, (nI lk))]) (l2 := [(15, (nI fa228)), (16, pl229), (27, (nI (nd + 1))), (31, (nI wr)), (64, (nI at227)), (65, (nI (ne + 1))), (66, (nI lk)), (15, (nI fa228)), (64, (nI at227))]) (V := [(nI fa228), pl229, (nI (nd + 1)), (nI wr), (nI at227), (nI (ne + 1)), (nI lk), (nI fa228), pl229, (nI (nd + 1)), (nI wr), (nI at227), (nI (ne + 1)), (nI lk), (nI fa228), (nI at227)]) rfl rfl (show (updA X201 2 K) = (updA (updA X201 2 K) 2 K) from updsA_eq2 (F := X201) (l1 := [(2, K)]) (l2 := [(2, K), (2, K)]) (V := [K, K, K]) rfl rfl) hP
              have hD : va_D A (mW G h0 a (upd (upd (upd (upd (upd (upd (upd (upd (upd F 15 (nI fa228)) 16 pl229) 27 (nI (nd + 1))) 31 (nI wr)) 64 (nI at227)) 65 (nI (ne + 1))) 66 (nI lk)) 15 (nI fa228)) 64 (nI at227)) (updA (updA X201 2 K) 2 K)) := mW_D hD
              refine pc_V0 (G := G) (As := [.int 41]) (rest := []) hx hb hml hown hq hE hX pX0_al hP hD hS hA hl.1 (R_take l G h0 a (upd (upd (upd (upd (upd (upd (upd F 15 (nI fa228)) 16 pl229) 27 (nI (nd + 1))) 31 (nI wr)) 64 (nI at227)) 65 (nI (ne + 1))) 66 (nI lk)) (updA X201 2 K) at227 T fa228 K 41 (by omega) (by omega) hK (by omega) (by decide) (by decide)) (gV pw_1614 pw_1615 pw_1616 pw_1523 pw_1601) hV_X12_take 0 9 rfl rfl rfl rfl (Nat.le_of_ble_eq_true rfl) dX12_operand_357 ⟨Nat.le_of_ble_eq_true rfl, Nat.le_of_ble_eq_true rfl⟩ ⟨(by show 4 + 1 ≤ (20 * n + 10); omega), (by show 8 + (2 + 11) + 103 ≤ (1000 * n + 40 * 10); omega)⟩ (fun v288 u286 H locs hw287 hP hD hS => ?_)
              obtain ⟨at289, fa290, pl291⟩ := u286
              obtain ⟨hw287, h292, h293, h294, h295, h296, h297, h298, h299⟩ := hw287
              have h292 : at227 ≤ at289 := h292
              have h293 : at289 ≤ T := h293
              have h294 : fa228 ≤ fa290 := h294
              have h295 : fa290 ≤ 100 := h295
              have h296 : If (0 < fa228) (at289 = at227 ∧ fa290 = fa228) := h296
              have h297 : at289 ≤ at227 + 1 := h297
              have h298 : at227 + 1 ≤ at289 + fa290 := h298
              have h299 : If (fa290 = 0) (K at227 = 41) := h299
              obtain rfl : v288 = none := hw287
              have hP : va_P G.1 pCl (mW G h0 a (upd (upd (upd (upd (upd (upd (upd F 15 (nI fa290)) 16 pl291) 27 (nI (nd + 1))) 31 (nI wr)) 64 (nI at289)) 65 (nI (ne + 1))) 66 (nI lk)) (updA X201 2 K)) _ := mW_to (F := F) (l1 := [(15, (nI fa228)), (16, pl229), (27, (nI (nd + 1))), (31, (nI wr)), (64, (nI at227)), (65, (nI (ne + 1))), (66, (nI lk)), (15, (nI fa290)), (16, pl291), (64, (nI at289))]) (l2 := [(15, (nI fa290)), (16, pl291), (27, (nI (nd + 1))), (31, (nI wr)), (64, (nI at289)), (65, (nI (ne + 1))), (66, (nI lk))]) (V := [(nI fa290), pl291, (nI (nd + 1)), (nI wr), (nI at289), (nI (ne + 1)), (nI lk), (nI fa290), pl291, (nI at289), (nI fa290), pl291, (nI (nd + 1)), (nI wr), (nI at289), (nI (ne + 1)), (nI lk)]) rfl rfl (show (updA (updA X201 2 K) 2 K) = (updA X201 2 K) from updsA_eq2 (F := X201) (l1 := [(2, K), (2, K)]) (l2 := [(2, K)]) (V := [K, K, K]) rfl rfl) hP
              have hD : va_D A (mW G h0 a (upd (upd (upd (upd (upd (upd (upd F 15 (nI fa290)) 16 pl291) 27 (nI (nd + 1))) 31 (nI wr)) 64 (nI at289)) 65 (nI (ne + 1))) 66 (nI lk)) (updA X201 2 K)) := mW_D hD
              refine W.widen (k := 0) (n := 0) (Nat.le_of_ble_eq_true rfl) (Nat.le_of_ble_eq_true rfl) ?_
              refine W.eq (g2 := F0 m 360 ls []) rfl ?_
              obtain ⟨n301, n300⟩ := h296 e238
              replace n301 := n301.symm
              subst n301
              replace n300 := n300.symm
              subst n300
              refine lv_aload_n hx hb dX12_operand_360 rfl (lv_at hl 3 rfl) ?_
              refine lv_dup hx hb dX12_operand_361 rfl ?_
              refine r_get (v := .int (nI (ne + 1))) hx hb hown hq hE hP 65 366 tFX12_65 (by decide) pw_1612 rfl dX12_operand_362 ?_
              refine lv_iconst (v := 1) hx hb dX12_operand_365 (by decide) ?_
              refine lv_isub hx hb dX12_operand_366 ?_
              refine lv_topi (fun x302 e303 => ?_)
              obtain rfl : x302 = nI ((ne + 1) - 1) := e303.trans (nI_subN (a := 1) (b := (ne + 1)) (by omega))
              refine r_put (v := (nI ((ne + 1) - 1))) (ty := .int) hx hb hown hq hE hP hD hS 65 366 tFX12_65 (by decide) pw_1612 (by decide) rfl rfl (ms_65 a _ _) dX12_operand_367 (fun H locs hP hD hS => ?_)
              refine lv_iload_n hx hb dX12_operand_370 rfl (lv_at hl 0 rfl) ?_
              have hz304 : at0 ≤ at227 := (by omega)
              have hz305 : at227 ≤ T := (by omega)
              have hz306 : fa228 ≤ 100 := (by omega)
              have hz307 : nd ≤ (nd + 1) := (by omega)
              have hz308 : (nd + 1) + 2 * at0 ≤ nd + 2 * at227 + 100000 * fa228 := (by omega)
              have hz309 : (nd + 1) + 2 * at0 ≤ nd + 2 * at227 + 40 * (21 - ne) := (by omega)
              have hz310 : wr ≤ wr := (by omega)
              have hz311 : wr + at0 ≤ wr + at227 := (by omega)
              have hz312 : lk ≤ lk := (by omega)
              have hz313 : lk ≤ 60 + 100 * fa228 := (by omega)
              have hz314 : at0 + 1 ≤ at227 + fa228 := (by omega)
              have hz315 : nd ≤ (nd + 1) := (by omega)
              have hz316 : Kp B X201 wr T := hkp203
              have hz317 : If (fa228 = 0) (Low B X201 nd wr ∧ Frs K T wr X201 nd (nd + 1) 20000 [(nd, (210 + lk - (10 * ne + lk)))] ∧ kcl 1 (X201 9 nd) = true) := (fun e => absurd e (by omega))
              have hP : va_P G.1 pCl (mW G h0 a (upd (upd (upd (upd (upd (upd (upd F 15 (nI fa228)) 16 pl291) 27 (nI (nd + 1))) 31 (nI wr)) 64 (nI at227)) 65 (nI ne)) 66 (nI lk)) (updA X201 2 K)) _ := hP
              have hD : va_D A (mW G h0 a (upd (upd (upd (upd (upd (upd (upd F 15 (nI fa228)) 16 pl291) 27 (nI (nd + 1))) 31 (nI wr)) 64 (nI at227)) 65 (nI ne)) 66 (nI lk)) (updA X201 2 K)) := mW_D hD
              exact W.iret (v := (nI nd)) hx hb hr (fun t9 ht9 hW9 => ⟨⟨_, (at227, fa228, pl291, (nd + 1), lk, wr, nd, X201), rfl, ⟨rfl, hz304, hz305, hz306, hz307, hz308, hz309, hz310, hz311, hz312, hz313, hz314, hz315, hz316, hz317⟩, by rw [ht9]; exact hP, hD⟩, hS.F ht9⟩) hS.2.2 dX12_operand_371
          · have e222 := e222
            refine lv_aload_n hx hb dX12_operand_348 rfl (lv_at hl 3 rfl) ?_
            refine lv_bipush (v := 40) hx hb dX12_operand_349 (by decide) ?_
            have hP : va_P G.1 pCl (mW G h0 a (upd (upd (upd (upd (upd (upd (upd (upd (upd F 15 (nI fa216)) 16 pl217) 27 (nI (nd + 1))) 31 (nI wr)) 64 (nI (at0 + 1))) 65 (nI (ne + 1))) 66 (nI lk)) 15 (nI fa216)) 64 (nI (at0 + 1))) (updA (updA X201 2 K) 2 K)) _ := mW_to (F := F) (l1 := [(15, (nI fa216)), (16, pl217), (27, (nI (nd + 1))), (31, (nI wr)), (64, (nI (at0 + 1))), (65, (nI (ne + 1))), (66, (nI lk))]) (l2 := [(15, (nI fa216)), (16, pl217), (27, (nI (nd + 1))), (31, (nI wr)), (64, (nI (at0 + 1))), (65, (nI (ne + 1))), (66, (nI lk)), (15, (nI fa216)), (64, (nI (at0 + 1)))]) (V := [(nI fa216), pl217, (nI (nd + 1)), (nI wr), (nI (at0 + 1)), (nI (ne + 1)), (nI lk), (nI fa216), pl217, (nI (nd + 1)), (nI wr), (nI (at0 + 1)), (nI (ne + 1)), (nI lk), (nI fa216), (nI (at0 + 1))]) rfl rfl (show (updA X201 2 K) = (updA (updA X201 2 K) 2 K) from updsA_eq2 (F := X201) (l1 := [(2, K)]) (l2 := [(2, K), (2, K)]) (V := [K, K, K]) rfl rfl) hP
            have hD : va_D A (mW G h0 a (upd (upd (upd (upd (upd (upd (upd (upd (upd F 15 (nI fa216)) 16 pl217) 27 (nI (nd + 1))) 31 (nI wr)) 64 (nI (at0 + 1))) 65 (nI (ne + 1))) 66 (nI lk)) 15 (nI fa216)) 64 (nI (at0 + 1))) (updA (updA X201 2 K) 2 K)) := mW_D hD
            refine pc_V0 (G := G) (As := [.int 40]) (rest := []) hx hb hml hown hq hE hX pX0_al hP hD hS hA hl.1 (R_take l G h0 a (upd (upd (upd (upd (upd (upd (upd F 15 (nI fa216)) 16 pl217) 27 (nI (nd + 1))) 31 (nI wr)) 64 (nI (at0 + 1))) 65 (nI (ne + 1))) 66 (nI lk)) (updA X201 2 K) (at0 + 1) T fa216 K 40 (by omega) (by omega) hK (by omega) (by decide) (by decide)) (gV pw_1614 pw_1615 pw_1616 pw_1523 pw_1601) hV_X12_take 0 9 rfl rfl rfl rfl (Nat.le_of_ble_eq_true rfl) dX12_operand_351 ⟨Nat.le_of_ble_eq_true rfl, Nat.le_of_ble_eq_true rfl⟩ ⟨(by show 4 + 1 ≤ (20 * n + 10); omega), (by show 8 + (2 + 11) + 103 ≤ (1000 * n + 40 * 10); omega)⟩ (fun v320 u318 H locs hw319 hP hD hS => ?_)
            obtain ⟨at321, fa322, pl323⟩ := u318
            obtain ⟨hw319, h324, h325, h326, h327, h328, h329, h330, h331⟩ := hw319
            have h324 : (at0 + 1) ≤ at321 := h324
            have h325 : at321 ≤ T := h325
            have h326 : fa216 ≤ fa322 := h326
            have h327 : fa322 ≤ 100 := h327
            have h328 : If (0 < fa216) (at321 = (at0 + 1) ∧ fa322 = fa216) := h328
            have h329 : at321 ≤ (at0 + 1) + 1 := h329
            have h330 : (at0 + 1) + 1 ≤ at321 + fa322 := h330
            have h331 : If (fa322 = 0) (K (at0 + 1) = 40) := h331
            obtain rfl : v320 = none := hw319
            have hP : va_P G.1 pCl (mW G h0 a (upd (upd (upd (upd (upd (upd (upd F 15 (nI fa322)) 16 pl323) 27 (nI (nd + 1))) 31 (nI wr)) 64 (nI at321)) 65 (nI (ne + 1))) 66 (nI lk)) (updA X201 2 K)) _ := mW_to (F := F) (l1 := [(15, (nI fa216)), (16, pl217), (27, (nI (nd + 1))), (31, (nI wr)), (64, (nI (at0 + 1))), (65, (nI (ne + 1))), (66, (nI lk)), (15, (nI fa322)), (16, pl323), (64, (nI at321))]) (l2 := [(15, (nI fa322)), (16, pl323), (27, (nI (nd + 1))), (31, (nI wr)), (64, (nI at321)), (65, (nI (ne + 1))), (66, (nI lk))]) (V := [(nI fa322), pl323, (nI (nd + 1)), (nI wr), (nI at321), (nI (ne + 1)), (nI lk), (nI fa322), pl323, (nI at321), (nI fa322), pl323, (nI (nd + 1)), (nI wr), (nI at321), (nI (ne + 1)), (nI lk)]) rfl rfl (show (updA (updA X201 2 K) 2 K) = (updA X201 2 K) from updsA_eq2 (F := X201) (l1 := [(2, K), (2, K)]) (l2 := [(2, K)]) (V := [K, K, K]) rfl rfl) hP
            have hD : va_D A (mW G h0 a (upd (upd (upd (upd (upd (upd (upd F 15 (nI fa322)) 16 pl323) 27 (nI (nd + 1))) 31 (nI wr)) 64 (nI at321)) 65 (nI (ne + 1))) 66 (nI lk)) (updA X201 2 K)) := mW_D hD
            refine W.widen (k := 0) (n := 0) (Nat.le_of_ble_eq_true rfl) (Nat.le_of_ble_eq_true rfl) ?_
            refine W.eq (g2 := F0 m 354 ls []) rfl ?_
            obtain ⟨n333, n332⟩ := h328 e222
            replace n333 := n333.symm
            subst n333
            replace n332 := n332.symm
            subst n332
            refine lv_aload_n hx hb dX12_operand_354 rfl (lv_at hl 3 rfl) ?_
            refine lv_bipush (v := 41) hx hb dX12_operand_355 (by decide) ?_
            have hP : va_P G.1 pCl (mW G h0 a (upd (upd (upd (upd (upd (upd (upd (upd (upd F 15 (nI fa216)) 16 pl323) 27 (nI (nd + 1))) 31 (nI wr)) 64 (nI (at0 + 1))) 65 (nI (ne + 1))) 66 (nI lk)) 15 (nI fa216)) 64 (nI (at0 + 1))) (updA (updA X201 2 K) 2 K)) _ := hP
            have hD : va_D A (mW G h0 a (upd (upd (upd (upd (upd (upd (upd (upd (upd F 15 (nI fa216)) 16 pl323) 27 (nI (nd + 1))) 31 (nI wr)) 64 (nI (at0 + 1))) 65 (nI (ne + 1))) 66 (nI lk)) 15 (nI fa216)) 64 (nI (at0 + 1))) (updA (updA X201 2 K) 2 K)) := mW_D hD
            refine pc_V0 (G := G) (As := [.int 41]) (rest := []) hx hb hml hown hq hE hX pX0_al hP hD hS hA hl.1 (R_take l G h0 a (upd (upd (upd (upd (upd (upd (upd F 15 (nI fa216)) 16 pl323) 27 (nI (nd + 1))) 31 (nI wr)) 64 (nI (at0 + 1))) 65 (nI (ne + 1))) 66 (nI lk)) (updA X201 2 K) (at0 + 1) T fa216 K 41 (by omega) (by omega) hK (by omega) (by decide) (by decide)) (gV pw_1614 pw_1615 pw_1616 pw_1523 pw_1601) hV_X12_take 0 9 rfl rfl rfl rfl (Nat.le_of_ble_eq_true rfl) dX12_operand_357 ⟨Nat.le_of_ble_eq_true rfl, Nat.le_of_ble_eq_true rfl⟩ ⟨(by show 4 + 1 ≤ (20 * n + 10); omega), (by show 8 + (2 + 11) + 103 ≤ (1000 * n + 40 * 10); omega)⟩ (fun v336 u334 H locs hw335 hP hD hS => ?_)
            obtain ⟨at337, fa338, pl339⟩ := u334
            obtain ⟨hw335, h340, h341, h342, h343, h344, h345, h346, h347⟩ := hw335
            have h340 : (at0 + 1) ≤ at337 := h340
            have h341 : at337 ≤ T := h341
            have h342 : fa216 ≤ fa338 := h342
            have h343 : fa338 ≤ 100 := h343
            have h344 : If (0 < fa216) (at337 = (at0 + 1) ∧ fa338 = fa216) := h344
            have h345 : at337 ≤ (at0 + 1) + 1 := h345
            have h346 : (at0 + 1) + 1 ≤ at337 + fa338 := h346
            have h347 : If (fa338 = 0) (K (at0 + 1) = 41) := h347
            obtain rfl : v336 = none := hw335
            have hP : va_P G.1 pCl (mW G h0 a (upd (upd (upd (upd (upd (upd (upd F 15 (nI fa338)) 16 pl339) 27 (nI (nd + 1))) 31 (nI wr)) 64 (nI at337)) 65 (nI (ne + 1))) 66 (nI lk)) (updA X201 2 K)) _ := mW_to (F := F) (l1 := [(15, (nI fa216)), (16, pl323), (27, (nI (nd + 1))), (31, (nI wr)), (64, (nI (at0 + 1))), (65, (nI (ne + 1))), (66, (nI lk)), (15, (nI fa338)), (16, pl339), (64, (nI at337))]) (l2 := [(15, (nI fa338)), (16, pl339), (27, (nI (nd + 1))), (31, (nI wr)), (64, (nI at337)), (65, (nI (ne + 1))), (66, (nI lk))]) (V := [(nI fa338), pl339, (nI (nd + 1)), (nI wr), (nI at337), (nI (ne + 1)), (nI lk), (nI fa338), pl339, (nI at337), (nI fa338), pl339, (nI (nd + 1)), (nI wr), (nI at337), (nI (ne + 1)), (nI lk)]) rfl rfl (show (updA (updA X201 2 K) 2 K) = (updA X201 2 K) from updsA_eq2 (F := X201) (l1 := [(2, K), (2, K)]) (l2 := [(2, K)]) (V := [K, K, K]) rfl rfl) hP
            have hD : va_D A (mW G h0 a (upd (upd (upd (upd (upd (upd (upd F 15 (nI fa338)) 16 pl339) 27 (nI (nd + 1))) 31 (nI wr)) 64 (nI at337)) 65 (nI (ne + 1))) 66 (nI lk)) (updA X201 2 K)) := mW_D hD
            refine W.widen (k := 0) (n := 0) (Nat.le_of_ble_eq_true rfl) (Nat.le_of_ble_eq_true rfl) ?_
            refine W.eq (g2 := F0 m 360 ls []) rfl ?_
            obtain ⟨n349, n348⟩ := h344 e222
            replace n349 := n349.symm
            subst n349
            replace n348 := n348.symm
            subst n348
            refine lv_aload_n hx hb dX12_operand_360 rfl (lv_at hl 3 rfl) ?_
            refine lv_dup hx hb dX12_operand_361 rfl ?_
            refine r_get (v := .int (nI (ne + 1))) hx hb hown hq hE hP 65 366 tFX12_65 (by decide) pw_1612 rfl dX12_operand_362 ?_
            refine lv_iconst (v := 1) hx hb dX12_operand_365 (by decide) ?_
            refine lv_isub hx hb dX12_operand_366 ?_
            refine lv_topi (fun x350 e351 => ?_)
            obtain rfl : x350 = nI ((ne + 1) - 1) := e351.trans (nI_subN (a := 1) (b := (ne + 1)) (by omega))
            refine r_put (v := (nI ((ne + 1) - 1))) (ty := .int) hx hb hown hq hE hP hD hS 65 366 tFX12_65 (by decide) pw_1612 (by decide) rfl rfl (ms_65 a _ _) dX12_operand_367 (fun H locs hP hD hS => ?_)
            refine lv_iload_n hx hb dX12_operand_370 rfl (lv_at hl 0 rfl) ?_
            have hz352 : at0 ≤ (at0 + 1) := (by omega)
            have hz353 : (at0 + 1) ≤ T := (by omega)
            have hz354 : fa216 ≤ 100 := (by omega)
            have hz355 : nd ≤ (nd + 1) := (by omega)
            have hz356 : (nd + 1) + 2 * at0 ≤ nd + 2 * (at0 + 1) + 100000 * fa216 := (by omega)
            have hz357 : (nd + 1) + 2 * at0 ≤ nd + 2 * (at0 + 1) + 40 * (21 - ne) := (by omega)
            have hz358 : wr ≤ wr := (by omega)
            have hz359 : wr + at0 ≤ wr + (at0 + 1) := (by omega)
            have hz360 : lk ≤ lk := (by omega)
            have hz361 : lk ≤ 60 + 100 * fa216 := (by omega)
            have hz362 : at0 + 1 ≤ (at0 + 1) + fa216 := (by omega)
            have hz363 : nd ≤ (nd + 1) := (by omega)
            have hz364 : Kp B X201 wr T := hkp203
            have hz365 : If (fa216 = 0) (Low B X201 nd wr ∧ Frs K T wr X201 nd (nd + 1) 20000 [(nd, (210 + lk - (10 * ne + lk)))] ∧ kcl 1 (X201 9 nd) = true) := (fun e => absurd e (by omega))
            have hP : va_P G.1 pCl (mW G h0 a (upd (upd (upd (upd (upd (upd (upd F 15 (nI fa216)) 16 pl339) 27 (nI (nd + 1))) 31 (nI wr)) 64 (nI (at0 + 1))) 65 (nI ne)) 66 (nI lk)) (updA X201 2 K)) _ := hP
            have hD : va_D A (mW G h0 a (upd (upd (upd (upd (upd (upd (upd F 15 (nI fa216)) 16 pl339) 27 (nI (nd + 1))) 31 (nI wr)) 64 (nI (at0 + 1))) 65 (nI ne)) 66 (nI lk)) (updA X201 2 K)) := mW_D hD
            exact W.iret (v := (nI nd)) hx hb hr (fun t9 ht9 hW9 => ⟨⟨_, ((at0 + 1), fa216, pl339, (nd + 1), lk, wr, nd, X201), rfl, ⟨rfl, hz352, hz353, hz354, hz355, hz356, hz357, hz358, hz359, hz360, hz361, hz362, hz363, hz364, hz365⟩, by rw [ht9]; exact hP, hD⟩, hS.F ht9⟩) hS.2.2 dX12_operand_371
        · refine lv_aload_n hx hb dX12_operand_339 rfl (lv_at hl 3 rfl) ?_
          refine lv_iconst (v := 1) hx hb dX12_operand_340 (by decide) ?_
          have hP : va_P G.1 pCl (mW G h0 a (upd (upd (upd (upd (upd (upd (upd (upd F 15 0) 27 (nI (nd + 1))) 31 (nI wr)) 64 (nI (at0 + 1))) 65 (nI ne)) 66 (nI lk)) 15 (nI 0)) 64 (nI (at0 + 1))) (updA (updA X201 2 K) 2 K)) _ := mW_to (F := F) (l1 := [(15, 0), (27, (nI (nd + 1))), (31, (nI wr)), (64, (nI (at0 + 1))), (65, (nI ne)), (66, (nI lk))]) (l2 := [(15, 0), (27, (nI (nd + 1))), (31, (nI wr)), (64, (nI (at0 + 1))), (65, (nI ne)), (66, (nI lk)), (15, (nI 0)), (64, (nI (at0 + 1)))]) (V := [(nI 0), (nI (nd + 1)), (nI wr), (nI (at0 + 1)), (nI ne), (nI lk), (nI 0), (nI (nd + 1)), (nI wr), (nI (at0 + 1)), (nI ne), (nI lk), (nI 0), (nI (at0 + 1))]) rfl rfl (show (updA X201 2 K) = (updA (updA X201 2 K) 2 K) from updsA_eq2 (F := X201) (l1 := [(2, K)]) (l2 := [(2, K), (2, K)]) (V := [K, K, K]) rfl rfl) hP
          have hD : va_D A (mW G h0 a (upd (upd (upd (upd (upd (upd (upd (upd F 15 0) 27 (nI (nd + 1))) 31 (nI wr)) 64 (nI (at0 + 1))) 65 (nI ne)) 66 (nI lk)) 15 (nI 0)) 64 (nI (at0 + 1))) (updA (updA X201 2 K) 2 K)) := mW_D hD
          refine pc_V0 (G := G) (As := [.int (nI 1)]) (rest := []) hx hb hml hown hq hE hX pX0_al hP hD hS hA hl.1 (R_bad l G h0 a (upd (upd (upd (upd (upd (upd F 15 0) 27 (nI (nd + 1))) 31 (nI wr)) 64 (nI (at0 + 1))) 65 (nI ne)) 66 (nI lk)) (updA X201 2 K) (at0 + 1) T 0 K 1 (by omega) (by omega) hK (by omega) (by omega) (by omega)) (gV pw_1602 pw_1603 pw_1604 pw_1523 pw_1596) hV_X12_bad 0 9 rfl rfl rfl rfl (Nat.le_of_ble_eq_true rfl) dX12_operand_341 ⟨Nat.le_of_ble_eq_true rfl, Nat.le_of_ble_eq_true rfl⟩ ⟨(by show 3 + 1 ≤ (20 * n + 10); omega), (by show 8 + (2 + 11) + 82 ≤ (1000 * n + 40 * 10); omega)⟩ (fun v368 u366 H locs hw367 hP hD hS => ?_)
          obtain ⟨fa369, pl370⟩ := u366
          obtain ⟨hw367, h371, h372, h373, h374⟩ := hw367
          have h371 : 0 ≤ fa369 := h371
          have h372 : fa369 ≤ 0 + 1 := h372
          have h373 : 0 < fa369 := h373
          have h374 : If (0 < 0) (fa369 = 0) := h374
          obtain rfl : v368 = none := hw367
          have hP : va_P G.1 pCl (mW G h0 a (upd (upd (upd (upd (upd (upd (upd F 15 (nI fa369)) 16 pl370) 27 (nI (nd + 1))) 31 (nI wr)) 64 (nI (at0 + 1))) 65 (nI ne)) 66 (nI lk)) (updA X201 2 K)) _ := mW_to (F := F) (l1 := [(15, 0), (27, (nI (nd + 1))), (31, (nI wr)), (64, (nI (at0 + 1))), (65, (nI ne)), (66, (nI lk)), (15, (nI fa369)), (16, pl370), (64, (nI (at0 + 1)))]) (l2 := [(15, (nI fa369)), (16, pl370), (27, (nI (nd + 1))), (31, (nI wr)), (64, (nI (at0 + 1))), (65, (nI ne)), (66, (nI lk))]) (V := [(nI fa369), (nI (nd + 1)), (nI wr), (nI (at0 + 1)), (nI ne), (nI lk), (nI fa369), pl370, (nI (at0 + 1)), (nI fa369), pl370, (nI (nd + 1)), (nI wr), (nI (at0 + 1)), (nI ne), (nI lk)]) rfl rfl (show (updA (updA X201 2 K) 2 K) = (updA X201 2 K) from updsA_eq2 (F := X201) (l1 := [(2, K), (2, K)]) (l2 := [(2, K)]) (V := [K, K, K]) rfl rfl) hP
          have hD : va_D A (mW G h0 a (upd (upd (upd (upd (upd (upd (upd F 15 (nI fa369)) 16 pl370) 27 (nI (nd + 1))) 31 (nI wr)) 64 (nI (at0 + 1))) 65 (nI ne)) 66 (nI lk)) (updA X201 2 K)) := mW_D hD
          refine W.widen (k := 0) (n := 0) (Nat.le_of_ble_eq_true rfl) (Nat.le_of_ble_eq_true rfl) ?_
          refine W.eq (g2 := F0 m 344 ls []) rfl ?_
          refine lv_aload_n hx hb dX12_operand_344 rfl (lv_at hl 3 rfl) ?_
          have hP : va_P G.1 pCl (mW G h0 a (upd (upd (upd (upd (upd (upd (upd (upd (upd (upd F 15 (nI fa369)) 16 pl370) 27 (nI (nd + 1))) 31 (nI wr)) 64 (nI (at0 + 1))) 65 (nI ne)) 66 (nI lk)) 15 (nI fa369)) 64 (nI (at0 + 1))) 65 (nI ne)) (updA (updA X201 2 K) 2 K)) _ := mW_to (F := F) (l1 := [(15, (nI fa369)), (16, pl370), (27, (nI (nd + 1))), (31, (nI wr)), (64, (nI (at0 + 1))), (65, (nI ne)), (66, (nI lk))]) (l2 := [(15, (nI fa369)), (16, pl370), (27, (nI (nd + 1))), (31, (nI wr)), (64, (nI (at0 + 1))), (65, (nI ne)), (66, (nI lk)), (15, (nI fa369)), (64, (nI (at0 + 1))), (65, (nI ne))]) (V := [(nI fa369), pl370, (nI (nd + 1)), (nI wr), (nI (at0 + 1)), (nI ne), (nI lk), (nI fa369), pl370, (nI (nd + 1)), (nI wr), (nI (at0 + 1)), (nI ne), (nI lk), (nI fa369), (nI (at0 + 1)), (nI ne)]) rfl rfl (show (updA X201 2 K) = (updA (updA X201 2 K) 2 K) from updsA_eq2 (F := X201) (l1 := [(2, K)]) (l2 := [(2, K), (2, K)]) (V := [K, K, K]) rfl rfl) hP
          have hD : va_D A (mW G h0 a (upd (upd (upd (upd (upd (upd (upd (upd (upd (upd F 15 (nI fa369)) 16 pl370) 27 (nI (nd + 1))) 31 (nI wr)) 64 (nI (at0 + 1))) 65 (nI ne)) 66 (nI lk)) 15 (nI fa369)) 64 (nI (at0 + 1))) 65 (nI ne)) (updA (updA X201 2 K) 2 K)) := mW_D hD
          refine pc_V0 (G := G) (As := []) (rest := []) hx hb hml hown hq hE hX pX0_al hP hD hS hA hl.1 (R_deeper l G h0 a (upd (upd (upd (upd (upd (upd (upd F 15 (nI fa369)) 16 pl370) 27 (nI (nd + 1))) 31 (nI wr)) 64 (nI (at0 + 1))) 65 (nI ne)) 66 (nI lk)) (updA X201 2 K) (at0 + 1) T fa369 K ne (by omega) (by omega) hK (by omega) (by omega)) (gV pw_1637 pw_1638 pw_1639 pw_1523 pw_1611) hV_X12_deeper 0 9 rfl rfl rfl rfl (Nat.le_of_ble_eq_true rfl) dX12_operand_345 ⟨Nat.le_of_ble_eq_true rfl, Nat.le_of_ble_eq_true rfl⟩ ⟨(by show 4 + 1 ≤ (20 * n + 10); omega), (by show 8 + (1 + 11) + 103 ≤ (1000 * n + 40 * 10); omega)⟩ (fun v377 u375 H locs hw376 hP hD hS => ?_)
          obtain ⟨fa378, pl379⟩ := u375
          obtain ⟨hw376, h380, h381, h382, h383⟩ := hw376
          have h380 : fa369 ≤ fa378 := h380
          have h381 : fa378 ≤ 100 := h381
          have h382 : If (0 < fa369) (fa378 = fa369) := h382
          have h383 : If (ne ≤ 20) (ne + 1 ≤ 20 + fa378) := h383
          obtain rfl : v377 = none := hw376
          have hP : va_P G.1 pCl (mW G h0 a (upd (upd (upd (upd (upd (upd (upd F 15 (nI fa378)) 16 pl379) 27 (nI (nd + 1))) 31 (nI wr)) 64 (nI (at0 + 1))) 65 (nI (ne + 1))) 66 (nI lk)) (updA X201 2 K)) _ := mW_to (F := F) (l1 := [(15, (nI fa369)), (16, pl370), (27, (nI (nd + 1))), (31, (nI wr)), (64, (nI (at0 + 1))), (65, (nI ne)), (66, (nI lk)), (15, (nI fa378)), (16, pl379), (64, (nI (at0 + 1))), (65, (nI (ne + 1)))]) (l2 := [(15, (nI fa378)), (16, pl379), (27, (nI (nd + 1))), (31, (nI wr)), (64, (nI (at0 + 1))), (65, (nI (ne + 1))), (66, (nI lk))]) (V := [(nI fa378), pl379, (nI (nd + 1)), (nI wr), (nI (at0 + 1)), (nI (ne + 1)), (nI lk), (nI fa378), pl379, (nI (at0 + 1)), (nI (ne + 1)), (nI fa378), pl379, (nI (nd + 1)), (nI wr), (nI (at0 + 1)), (nI (ne + 1)), (nI lk)]) rfl rfl (show (updA (updA X201 2 K) 2 K) = (updA X201 2 K) from updsA_eq2 (F := X201) (l1 := [(2, K), (2, K)]) (l2 := [(2, K)]) (V := [K, K, K]) rfl rfl) hP
          have hD : va_D A (mW G h0 a (upd (upd (upd (upd (upd (upd (upd F 15 (nI fa378)) 16 pl379) 27 (nI (nd + 1))) 31 (nI wr)) 64 (nI (at0 + 1))) 65 (nI (ne + 1))) 66 (nI lk)) (updA X201 2 K)) := mW_D hD
          refine W.widen (k := 0) (n := 0) (Nat.le_of_ble_eq_true rfl) (Nat.le_of_ble_eq_true rfl) ?_
          refine W.eq (g2 := F0 m 348 ls []) rfl ?_
          have n384 := h382 h373
          replace n384 := n384.symm
          subst n384
          refine lv_aload_n hx hb dX12_operand_348 rfl (lv_at hl 3 rfl) ?_
          refine lv_bipush (v := 40) hx hb dX12_operand_349 (by decide) ?_
          have hP : va_P G.1 pCl (mW G h0 a (upd (upd (upd (upd (upd (upd (upd (upd (upd F 15 (nI fa369)) 16 pl379) 27 (nI (nd + 1))) 31 (nI wr)) 64 (nI (at0 + 1))) 65 (nI (ne + 1))) 66 (nI lk)) 15 (nI fa369)) 64 (nI (at0 + 1))) (updA (updA X201 2 K) 2 K)) _ := hP
          have hD : va_D A (mW G h0 a (upd (upd (upd (upd (upd (upd (upd (upd (upd F 15 (nI fa369)) 16 pl379) 27 (nI (nd + 1))) 31 (nI wr)) 64 (nI (at0 + 1))) 65 (nI (ne + 1))) 66 (nI lk)) 15 (nI fa369)) 64 (nI (at0 + 1))) (updA (updA X201 2 K) 2 K)) := mW_D hD
          refine pc_V0 (G := G) (As := [.int 40]) (rest := []) hx hb hml hown hq hE hX pX0_al hP hD hS hA hl.1 (R_take l G h0 a (upd (upd (upd (upd (upd (upd (upd F 15 (nI fa369)) 16 pl379) 27 (nI (nd + 1))) 31 (nI wr)) 64 (nI (at0 + 1))) 65 (nI (ne + 1))) 66 (nI lk)) (updA X201 2 K) (at0 + 1) T fa369 K 40 (by omega) (by omega) hK (by omega) (by decide) (by decide)) (gV pw_1614 pw_1615 pw_1616 pw_1523 pw_1601) hV_X12_take 0 9 rfl rfl rfl rfl (Nat.le_of_ble_eq_true rfl) dX12_operand_351 ⟨Nat.le_of_ble_eq_true rfl, Nat.le_of_ble_eq_true rfl⟩ ⟨(by show 4 + 1 ≤ (20 * n + 10); omega), (by show 8 + (2 + 11) + 103 ≤ (1000 * n + 40 * 10); omega)⟩ (fun v388 u386 H locs hw387 hP hD hS => ?_)
          obtain ⟨at389, fa390, pl391⟩ := u386
          obtain ⟨hw387, h392, h393, h394, h395, h396, h397, h398, h399⟩ := hw387
          have h392 : (at0 + 1) ≤ at389 := h392
          have h393 : at389 ≤ T := h393
          have h394 : fa369 ≤ fa390 := h394
          have h395 : fa390 ≤ 100 := h395
          have h396 : If (0 < fa369) (at389 = (at0 + 1) ∧ fa390 = fa369) := h396
          have h397 : at389 ≤ (at0 + 1) + 1 := h397
          have h398 : (at0 + 1) + 1 ≤ at389 + fa390 := h398
          have h399 : If (fa390 = 0) (K (at0 + 1) = 40) := h399
          obtain rfl : v388 = none := hw387
          have hP : va_P G.1 pCl (mW G h0 a (upd (upd (upd (upd (upd (upd (upd F 15 (nI fa390)) 16 pl391) 27 (nI (nd + 1))) 31 (nI wr)) 64 (nI at389)) 65 (nI (ne + 1))) 66 (nI lk)) (updA X201 2 K)) _ := mW_to (F := F) (l1 := [(15, (nI fa369)), (16, pl379), (27, (nI (nd + 1))), (31, (nI wr)), (64, (nI (at0 + 1))), (65, (nI (ne + 1))), (66, (nI lk)), (15, (nI fa390)), (16, pl391), (64, (nI at389))]) (l2 := [(15, (nI fa390)), (16, pl391), (27, (nI (nd + 1))), (31, (nI wr)), (64, (nI at389)), (65, (nI (ne + 1))), (66, (nI lk))]) (V := [(nI fa390), pl391, (nI (nd + 1)), (nI wr), (nI at389), (nI (ne + 1)), (nI lk), (nI fa390), pl391, (nI at389), (nI fa390), pl391, (nI (nd + 1)), (nI wr), (nI at389), (nI (ne + 1)), (nI lk)]) rfl rfl (show (updA (updA X201 2 K) 2 K) = (updA X201 2 K) from updsA_eq2 (F := X201) (l1 := [(2, K), (2, K)]) (l2 := [(2, K)]) (V := [K, K, K]) rfl rfl) hP
          have hD : va_D A (mW G h0 a (upd (upd (upd (upd (upd (upd (upd F 15 (nI fa390)) 16 pl391) 27 (nI (nd + 1))) 31 (nI wr)) 64 (nI at389)) 65 (nI (ne + 1))) 66 (nI lk)) (updA X201 2 K)) := mW_D hD
          refine W.widen (k := 0) (n := 0) (Nat.le_of_ble_eq_true rfl) (Nat.le_of_ble_eq_true rfl) ?_
          refine W.eq (g2 := F0 m 354 ls []) rfl ?_
          obtain ⟨n401, n400⟩ := h396 h373
          replace n401 := n401.symm
          subst n401
          replace n400 := n400.symm
          subst n400
          refine lv_aload_n hx hb dX12_operand_354 rfl (lv_at hl 3 rfl) ?_
          refine lv_bipush (v := 41) hx hb dX12_operand_355 (by decide) ?_
          have hP : va_P G.1 pCl (mW G h0 a (upd (upd (upd (upd (upd (upd (upd (upd (upd F 15 (nI fa369)) 16 pl391) 27 (nI (nd + 1))) 31 (nI wr)) 64 (nI (at0 + 1))) 65 (nI (ne + 1))) 66 (nI lk)) 15 (nI fa369)) 64 (nI (at0 + 1))) (updA (updA X201 2 K) 2 K)) _ := hP
          have hD : va_D A (mW G h0 a (upd (upd (upd (upd (upd (upd (upd (upd (upd F 15 (nI fa369)) 16 pl391) 27 (nI (nd + 1))) 31 (nI wr)) 64 (nI (at0 + 1))) 65 (nI (ne + 1))) 66 (nI lk)) 15 (nI fa369)) 64 (nI (at0 + 1))) (updA (updA X201 2 K) 2 K)) := mW_D hD
          refine pc_V0 (G := G) (As := [.int 41]) (rest := []) hx hb hml hown hq hE hX pX0_al hP hD hS hA hl.1 (R_take l G h0 a (upd (upd (upd (upd (upd (upd (upd F 15 (nI fa369)) 16 pl391) 27 (nI (nd + 1))) 31 (nI wr)) 64 (nI (at0 + 1))) 65 (nI (ne + 1))) 66 (nI lk)) (updA X201 2 K) (at0 + 1) T fa369 K 41 (by omega) (by omega) hK (by omega) (by decide) (by decide)) (gV pw_1614 pw_1615 pw_1616 pw_1523 pw_1601) hV_X12_take 0 9 rfl rfl rfl rfl (Nat.le_of_ble_eq_true rfl) dX12_operand_357 ⟨Nat.le_of_ble_eq_true rfl, Nat.le_of_ble_eq_true rfl⟩ ⟨(by show 4 + 1 ≤ (20 * n + 10); omega), (by show 8 + (2 + 11) + 103 ≤ (1000 * n + 40 * 10); omega)⟩ (fun v404 u402 H locs hw403 hP hD hS => ?_)
          obtain ⟨at405, fa406, pl407⟩ := u402
          obtain ⟨hw403, h408, h409, h410, h411, h412, h413, h414, h415⟩ := hw403
          have h408 : (at0 + 1) ≤ at405 := h408
          have h409 : at405 ≤ T := h409
          have h410 : fa369 ≤ fa406 := h410
          have h411 : fa406 ≤ 100 := h411
          have h412 : If (0 < fa369) (at405 = (at0 + 1) ∧ fa406 = fa369) := h412
          have h413 : at405 ≤ (at0 + 1) + 1 := h413
          have h414 : (at0 + 1) + 1 ≤ at405 + fa406 := h414
          have h415 : If (fa406 = 0) (K (at0 + 1) = 41) := h415
          obtain rfl : v404 = none := hw403
          have hP : va_P G.1 pCl (mW G h0 a (upd (upd (upd (upd (upd (upd (upd F 15 (nI fa406)) 16 pl407) 27 (nI (nd + 1))) 31 (nI wr)) 64 (nI at405)) 65 (nI (ne + 1))) 66 (nI lk)) (updA X201 2 K)) _ := mW_to (F := F) (l1 := [(15, (nI fa369)), (16, pl391), (27, (nI (nd + 1))), (31, (nI wr)), (64, (nI (at0 + 1))), (65, (nI (ne + 1))), (66, (nI lk)), (15, (nI fa406)), (16, pl407), (64, (nI at405))]) (l2 := [(15, (nI fa406)), (16, pl407), (27, (nI (nd + 1))), (31, (nI wr)), (64, (nI at405)), (65, (nI (ne + 1))), (66, (nI lk))]) (V := [(nI fa406), pl407, (nI (nd + 1)), (nI wr), (nI at405), (nI (ne + 1)), (nI lk), (nI fa406), pl407, (nI at405), (nI fa406), pl407, (nI (nd + 1)), (nI wr), (nI at405), (nI (ne + 1)), (nI lk)]) rfl rfl (show (updA (updA X201 2 K) 2 K) = (updA X201 2 K) from updsA_eq2 (F := X201) (l1 := [(2, K), (2, K)]) (l2 := [(2, K)]) (V := [K, K, K]) rfl rfl) hP
          have hD : va_D A (mW G h0 a (upd (upd (upd (upd (upd (upd (upd F 15 (nI fa406)) 16 pl407) 27 (nI (nd + 1))) 31 (nI wr)) 64 (nI at405)) 65 (nI (ne + 1))) 66 (nI lk)) (updA X201 2 K)) := mW_D hD
          refine W.widen (k := 0) (n := 0) (Nat.le_of_ble_eq_true rfl) (Nat.le_of_ble_eq_true rfl) ?_
          refine W.eq (g2 := F0 m 360 ls []) rfl ?_
          obtain ⟨n417, n416⟩ := h412 h373
          replace n417 := n417.symm
          subst n417
          replace n416 := n416.symm
          subst n416
          refine lv_aload_n hx hb dX12_operand_360 rfl (lv_at hl 3 rfl) ?_
          refine lv_dup hx hb dX12_operand_361 rfl ?_
          refine r_get (v := .int (nI (ne + 1))) hx hb hown hq hE hP 65 366 tFX12_65 (by decide) pw_1612 rfl dX12_operand_362 ?_
          refine lv_iconst (v := 1) hx hb dX12_operand_365 (by decide) ?_
          refine lv_isub hx hb dX12_operand_366 ?_
          refine lv_topi (fun x418 e419 => ?_)
          obtain rfl : x418 = nI ((ne + 1) - 1) := e419.trans (nI_subN (a := 1) (b := (ne + 1)) (by omega))
          refine r_put (v := (nI ((ne + 1) - 1))) (ty := .int) hx hb hown hq hE hP hD hS 65 366 tFX12_65 (by decide) pw_1612 (by decide) rfl rfl (ms_65 a _ _) dX12_operand_367 (fun H locs hP hD hS => ?_)
          refine lv_iload_n hx hb dX12_operand_370 rfl (lv_at hl 0 rfl) ?_
          have hz420 : at0 ≤ (at0 + 1) := (by omega)
          have hz421 : (at0 + 1) ≤ T := (by omega)
          have hz422 : fa369 ≤ 100 := (by omega)
          have hz423 : nd ≤ (nd + 1) := (by omega)
          have hz424 : (nd + 1) + 2 * at0 ≤ nd + 2 * (at0 + 1) + 100000 * fa369 := (by omega)
          have hz425 : (nd + 1) + 2 * at0 ≤ nd + 2 * (at0 + 1) + 40 * (21 - ne) := (by omega)
          have hz426 : wr ≤ wr := (by omega)
          have hz427 : wr + at0 ≤ wr + (at0 + 1) := (by omega)
          have hz428 : lk ≤ lk := (by omega)
          have hz429 : lk ≤ 60 + 100 * fa369 := (by omega)
          have hz430 : at0 + 1 ≤ (at0 + 1) + fa369 := (by omega)
          have hz431 : nd ≤ (nd + 1) := (by omega)
          have hz432 : Kp B X201 wr T := hkp203
          have hz433 : If (fa369 = 0) (Low B X201 nd wr ∧ Frs K T wr X201 nd (nd + 1) 20000 [(nd, (210 + lk - (10 * ne + lk)))] ∧ kcl 1 (X201 9 nd) = true) := (fun e => absurd e (by omega))
          have hP : va_P G.1 pCl (mW G h0 a (upd (upd (upd (upd (upd (upd (upd F 15 (nI fa369)) 16 pl407) 27 (nI (nd + 1))) 31 (nI wr)) 64 (nI (at0 + 1))) 65 (nI ne)) 66 (nI lk)) (updA X201 2 K)) _ := hP
          have hD : va_D A (mW G h0 a (upd (upd (upd (upd (upd (upd (upd F 15 (nI fa369)) 16 pl407) 27 (nI (nd + 1))) 31 (nI wr)) 64 (nI (at0 + 1))) 65 (nI ne)) 66 (nI lk)) (updA X201 2 K)) := mW_D hD
          exact W.iret (v := (nI nd)) hx hb hr (fun t9 ht9 hW9 => ⟨⟨_, ((at0 + 1), fa369, pl407, (nd + 1), lk, wr, nd, X201), rfl, ⟨rfl, hz420, hz421, hz422, hz423, hz424, hz425, hz426, hz427, hz428, hz429, hz430, hz431, hz432, hz433⟩, by rw [ht9]; exact hP, hD⟩, hS.F ht9⟩) hS.2.2 dX12_operand_371
      by_cases h434 : (K at0) = 332
      · refine lv_lookup (tgt := 260) (off := 164) hx hb dX12_operand_96 (by decide) (by rw [h434]; decide) (by decide) ?_
        refine lv_aload_n hx hb dX12_operand_260 rfl (lv_at hl 2 rfl) ?_
        refine lv_bipush (v := 46) hx hb dX12_operand_261 (by decide) ?_
        have hP : va_P G.1 pCl (mW G h0 a (upd (upd (upd (upd (upd (upd (upd (upd F 15 0) 27 (nI nd)) 31 (nI wr)) 64 (nI (at0 + 1))) 65 (nI ne)) 66 (nI lk)) 15 (nI 0)) 64 (nI (at0 + 1))) (updA (updA B 2 K) 2 K)) _ := mW_to (F := F) (l1 := [(15, 0), (27, (nI nd)), (31, (nI wr)), (64, (nI at0)), (65, (nI ne)), (66, (nI lk)), (64, (nI (at0 + 1)))]) (l2 := [(15, 0), (27, (nI nd)), (31, (nI wr)), (64, (nI (at0 + 1))), (65, (nI ne)), (66, (nI lk)), (15, (nI 0)), (64, (nI (at0 + 1)))]) (V := [(nI 0), (nI nd), (nI wr), (nI (at0 + 1)), (nI ne), (nI lk), (nI (at0 + 1)), (nI 0), (nI nd), (nI wr), (nI (at0 + 1)), (nI ne), (nI lk), (nI 0), (nI (at0 + 1))]) rfl rfl (show (updA B 2 K) = (updA (updA B 2 K) 2 K) from updsA_eq2 (F := B) (l1 := [(2, K)]) (l2 := [(2, K), (2, K)]) (V := [K, K, K]) rfl rfl) hP
        have hD : va_D A (mW G h0 a (upd (upd (upd (upd (upd (upd (upd (upd F 15 0) 27 (nI nd)) 31 (nI wr)) 64 (nI (at0 + 1))) 65 (nI ne)) 66 (nI lk)) 15 (nI 0)) 64 (nI (at0 + 1))) (updA (updA B 2 K) 2 K)) := mW_D hD
        refine pc_V0 (G := G) (As := [.int 46]) (rest := []) hx hb hml hown hq hE hX pX0_al hP hD hS hA hl.1 (R_take l G h0 a (upd (upd (upd (upd (upd (upd F 15 0) 27 (nI nd)) 31 (nI wr)) 64 (nI (at0 + 1))) 65 (nI ne)) 66 (nI lk)) (updA B 2 K) (at0 + 1) T 0 K 46 (by omega) (by omega) hK (by omega) (by decide) (by decide)) (gV pw_1614 pw_1615 pw_1616 pw_1523 pw_1601) hV_X12_take 0 9 rfl rfl rfl rfl (Nat.le_of_ble_eq_true rfl) dX12_operand_263 ⟨Nat.le_of_ble_eq_true rfl, Nat.le_of_ble_eq_true rfl⟩ ⟨(by show 4 + 1 ≤ (20 * n + 10); omega), (by show 8 + (2 + 11) + 103 ≤ (1000 * n + 40 * 10); omega)⟩ (fun v437 u435 H locs hw436 hP hD hS => ?_)
        obtain ⟨at438, fa439, pl440⟩ := u435
        obtain ⟨hw436, h441, h442, h443, h444, h445, h446, h447, h448⟩ := hw436
        have h441 : (at0 + 1) ≤ at438 := h441
        have h442 : at438 ≤ T := h442
        have h443 : 0 ≤ fa439 := h443
        have h444 : fa439 ≤ 100 := h444
        have h445 : If (0 < 0) (at438 = (at0 + 1) ∧ fa439 = 0) := h445
        have h446 : at438 ≤ (at0 + 1) + 1 := h446
        have h447 : (at0 + 1) + 1 ≤ at438 + fa439 := h447
        have h448 : If (fa439 = 0) (K (at0 + 1) = 46) := h448
        obtain rfl : v437 = none := hw436
        have hP : va_P G.1 pCl (mW G h0 a (upd (upd (upd (upd (upd (upd (upd F 15 (nI fa439)) 16 pl440) 27 (nI nd)) 31 (nI wr)) 64 (nI at438)) 65 (nI ne)) 66 (nI lk)) (updA B 2 K)) _ := mW_to (F := F) (l1 := [(15, 0), (27, (nI nd)), (31, (nI wr)), (64, (nI (at0 + 1))), (65, (nI ne)), (66, (nI lk)), (15, (nI fa439)), (16, pl440), (64, (nI at438))]) (l2 := [(15, (nI fa439)), (16, pl440), (27, (nI nd)), (31, (nI wr)), (64, (nI at438)), (65, (nI ne)), (66, (nI lk))]) (V := [(nI fa439), (nI nd), (nI wr), (nI at438), (nI ne), (nI lk), (nI fa439), pl440, (nI at438), (nI fa439), pl440, (nI nd), (nI wr), (nI at438), (nI ne), (nI lk)]) rfl rfl (show (updA (updA B 2 K) 2 K) = (updA B 2 K) from updsA_eq2 (F := B) (l1 := [(2, K), (2, K)]) (l2 := [(2, K)]) (V := [K, K, K]) rfl rfl) hP
        have hD : va_D A (mW G h0 a (upd (upd (upd (upd (upd (upd (upd F 15 (nI fa439)) 16 pl440) 27 (nI nd)) 31 (nI wr)) 64 (nI at438)) 65 (nI ne)) 66 (nI lk)) (updA B 2 K)) := mW_D hD
        refine W.widen (k := 0) (n := 0) (Nat.le_of_ble_eq_true rfl) (Nat.le_of_ble_eq_true rfl) ?_
        refine W.eq (g2 := F0 m 266 ls []) rfl ?_
        rcases Nat.eq_zero_or_pos fa439 with e449 | e449
        · subst e449
          have hP : va_P G.1 pCl (mW G h0 a (upd (upd (upd (upd (upd (upd (upd F 15 0) 16 pl440) 27 (nI nd)) 31 (nI wr)) 64 (nI at438)) 65 (nI ne)) 66 (nI lk)) (updA B 2 K)) _ := hP
          have hD : va_D A (mW G h0 a (upd (upd (upd (upd (upd (upd (upd F 15 0) 16 pl440) 27 (nI nd)) 31 (nI wr)) 64 (nI at438)) 65 (nI ne)) 66 (nI lk)) (updA B 2 K)) := mW_D hD
          refine lv_aload_n hx hb dX12_operand_266 rfl (lv_at hl 2 rfl) ?_
          have hP : va_P G.1 pCl (mW G h0 a (upd (upd (upd (upd (upd (upd (upd (upd (upd F 15 0) 16 pl440) 27 (nI nd)) 31 (nI wr)) 64 (nI at438)) 65 (nI ne)) 66 (nI lk)) 15 (nI 0)) 64 (nI at438)) (updA (updA B 2 K) 2 K)) _ := mW_to (F := F) (l1 := [(15, 0), (16, pl440), (27, (nI nd)), (31, (nI wr)), (64, (nI at438)), (65, (nI ne)), (66, (nI lk))]) (l2 := [(15, 0), (16, pl440), (27, (nI nd)), (31, (nI wr)), (64, (nI at438)), (65, (nI ne)), (66, (nI lk)), (15, (nI 0)), (64, (nI at438))]) (V := [(nI 0), pl440, (nI nd), (nI wr), (nI at438), (nI ne), (nI lk), (nI 0), pl440, (nI nd), (nI wr), (nI at438), (nI ne), (nI lk), (nI 0), (nI at438)]) rfl rfl (show (updA B 2 K) = (updA (updA B 2 K) 2 K) from updsA_eq2 (F := B) (l1 := [(2, K)]) (l2 := [(2, K), (2, K)]) (V := [K, K, K]) rfl rfl) hP
          have hD : va_D A (mW G h0 a (upd (upd (upd (upd (upd (upd (upd (upd (upd F 15 0) 16 pl440) 27 (nI nd)) 31 (nI wr)) 64 (nI at438)) 65 (nI ne)) 66 (nI lk)) 15 (nI 0)) 64 (nI at438)) (updA (updA B 2 K) 2 K)) := mW_D hD
          refine pc_V0 (G := G) (As := []) (rest := []) hx hb hml hown hq hE hX pX0_al hP hD hS hA hl.1 (R_name l G h0 a (upd (upd (upd (upd (upd (upd (upd F 15 0) 16 pl440) 27 (nI nd)) 31 (nI wr)) 64 (nI at438)) 65 (nI ne)) 66 (nI lk)) (updA B 2 K) at438 T 0 K (by omega) (by omega) hK (by omega)) (gV pw_1618 pw_1619 pw_1620 pw_1523 pw_1613) hV_X12_name 0 9 rfl rfl rfl rfl (Nat.le_of_ble_eq_true rfl) dX12_operand_267 ⟨Nat.le_of_ble_eq_true rfl, Nat.le_of_ble_eq_true rfl⟩ ⟨(by show 5 + 1 ≤ (20 * n + 10); omega), (by show 8 + (2 + 11) + 124 ≤ (1000 * n + 40 * 10); omega)⟩ (fun v452 u450 H locs hw451 hP hD hS => ?_)
          obtain ⟨at453, fa454, pl455⟩ := u450
          obtain ⟨hw451, h456, h457, h458, h459, h460, h461, h462, h463⟩ := hw451
          have h456 : at438 ≤ at453 := h456
          have h457 : at453 ≤ T := h457
          have h458 : 0 ≤ fa454 := h458
          have h459 : fa454 ≤ 100 := h459
          have h460 : If (0 < 0) (at453 = at438 ∧ fa454 = 0) := h460
          have h461 : at453 ≤ at438 + 1 := h461
          have h462 : at438 + 1 ≤ at453 + fa454 := h462
          have h463 : If (fa454 = 0) (K at438 = 1) := h463
          obtain rfl : v452 = some (.int (nI at438)) := hw451
          have hP : va_P G.1 pCl (mW G h0 a (upd (upd (upd (upd (upd (upd (upd F 15 (nI fa454)) 16 pl455) 27 (nI nd)) 31 (nI wr)) 64 (nI at453)) 65 (nI ne)) 66 (nI lk)) (updA B 2 K)) _ := mW_to (F := F) (l1 := [(15, 0), (16, pl440), (27, (nI nd)), (31, (nI wr)), (64, (nI at438)), (65, (nI ne)), (66, (nI lk)), (15, (nI fa454)), (16, pl455), (64, (nI at453))]) (l2 := [(15, (nI fa454)), (16, pl455), (27, (nI nd)), (31, (nI wr)), (64, (nI at453)), (65, (nI ne)), (66, (nI lk))]) (V := [(nI fa454), pl455, (nI nd), (nI wr), (nI at453), (nI ne), (nI lk), (nI fa454), pl455, (nI at453), (nI fa454), pl455, (nI nd), (nI wr), (nI at453), (nI ne), (nI lk)]) rfl rfl (show (updA (updA B 2 K) 2 K) = (updA B 2 K) from updsA_eq2 (F := B) (l1 := [(2, K), (2, K)]) (l2 := [(2, K)]) (V := [K, K, K]) rfl rfl) hP
          have hD : va_D A (mW G h0 a (upd (upd (upd (upd (upd (upd (upd F 15 (nI fa454)) 16 pl455) 27 (nI nd)) 31 (nI wr)) 64 (nI at453)) 65 (nI ne)) 66 (nI lk)) (updA B 2 K)) := mW_D hD
          refine W.widen (k := 0) (n := 0) (Nat.le_of_ble_eq_true rfl) (Nat.le_of_ble_eq_true rfl) ?_
          refine W.eq (g2 := F0 m 270 ls [.int (nI at438)]) rfl ?_
          rcases Nat.eq_zero_or_pos fa454 with e464 | e464
          · subst e464
            have hP : va_P G.1 pCl (mW G h0 a (upd (upd (upd (upd (upd (upd (upd F 15 0) 16 pl455) 27 (nI nd)) 31 (nI wr)) 64 (nI at453)) 65 (nI ne)) 66 (nI lk)) (updA B 2 K)) _ := hP
            have hD : va_D A (mW G h0 a (upd (upd (upd (upd (upd (upd (upd F 15 0) 16 pl455) 27 (nI nd)) 31 (nI wr)) 64 (nI at453)) 65 (nI ne)) 66 (nI lk)) (updA B 2 K)) := mW_D hD
            refine lv_istore (lv' := [(4, .int (nI at438)), (2, .int (K at0)), (1, .int (nI at0)), (0, .ref h0)]) hx hb dX12_operand_270 hl (by decide) rfl (fun ls hl => ?_)
            refine lv_aload_n hx hb dX12_operand_272 rfl (lv_at hl 3 rfl) ?_
            refine lv_bipush (v := 8) hx hb dX12_operand_273 (by decide) ?_
            refine lv_iload_n hx hb dX12_operand_275 rfl (lv_at hl 2 rfl) ?_
            refine lv_iload hx hb dX12_operand_276 (lv_at hl 0 rfl) ?_
            refine lv_iconst (v := (-1)) hx hb dX12_operand_278 (by decide) ?_
            refine lv_iconst (v := (-1)) hx hb dX12_operand_279 (by decide) ?_
            have hP : va_P G.1 pCl (mW G h0 a (upd (upd (upd (upd (upd (upd (upd (upd F 15 0) 16 pl455) 27 (nI nd)) 31 (nI wr)) 64 (nI at453)) 65 (nI ne)) 66 (nI lk)) 27 (nI nd)) (updA B 2 K)) _ := mW_to (F := F) (l1 := [(15, 0), (16, pl455), (27, (nI nd)), (31, (nI wr)), (64, (nI at453)), (65, (nI ne)), (66, (nI lk))]) (l2 := [(15, 0), (16, pl455), (27, (nI nd)), (31, (nI wr)), (64, (nI at453)), (65, (nI ne)), (66, (nI lk)), (27, (nI nd))]) (V := [0, pl455, (nI nd), (nI wr), (nI at453), (nI ne), (nI lk), 0, pl455, (nI nd), (nI wr), (nI at453), (nI ne), (nI lk), (nI nd)]) rfl rfl rfl hP
            have hD : va_D A (mW G h0 a (upd (upd (upd (upd (upd (upd (upd (upd F 15 0) 16 pl455) 27 (nI nd)) 31 (nI wr)) 64 (nI at453)) 65 (nI ne)) 66 (nI lk)) 27 (nI nd)) (updA B 2 K)) := mW_D hD
            refine pc_V0 (G := G) (As := [.int 8, .int (nI at0), .int (nI at438), .int (-1), .int (-1)]) (rest := []) hx hb hml hown hq hE hX pX0_al hP hD hS hA hl.1 (R_nodeB l G h0 a (upd (upd (upd (upd (upd (upd (upd F 15 0) 16 pl455) 27 (nI nd)) 31 (nI wr)) 64 (nI at453)) 65 (nI ne)) 66 (nI lk)) B 8 (nI at0) (nI at438) (-1) (-1) nd K (by omega)) (gV pw_1650 pw_1651 pw_1652 pw_1523 pw_1589) hV_X12_node 0 9 rfl rfl rfl rfl (Nat.le_of_ble_eq_true rfl) dX12_operand_280 ⟨Nat.le_of_ble_eq_true rfl, Nat.le_of_ble_eq_true rfl⟩ ⟨(by show 2 + 1 ≤ (20 * n + 10); omega), (by show 8 + (7 + 11) + 60 ≤ (1000 * n + 40 * 10); omega)⟩ (fun v467 u465 H locs hw466 hP hD hS => ?_)
            obtain ⟨X468, rfl⟩ : ∃ z, z = u465 := ⟨_, rfl⟩
            obtain ⟨hw466, h469⟩ := hw466
            have h469 : NewN B X468 nd 8 (nI at0) (nI at438) (-1) (-1) := h469
            obtain rfl : v467 = some (.int (nI nd)) := hw466
            have hP : va_P G.1 pCl (mW G h0 a (upd (upd (upd (upd (upd (upd (upd F 15 0) 16 pl455) 27 (nI (nd + 1))) 31 (nI wr)) 64 (nI at453)) 65 (nI ne)) 66 (nI lk)) (updA X468 2 K)) _ := mW_to (F := F) (l1 := [(15, 0), (16, pl455), (27, (nI nd)), (31, (nI wr)), (64, (nI at453)), (65, (nI ne)), (66, (nI lk)), (27, (nI (nd + 1)))]) (l2 := [(15, 0), (16, pl455), (27, (nI (nd + 1))), (31, (nI wr)), (64, (nI at453)), (65, (nI ne)), (66, (nI lk))]) (V := [0, pl455, (nI (nd + 1)), (nI wr), (nI at453), (nI ne), (nI lk), (nI (nd + 1)), 0, pl455, (nI (nd + 1)), (nI wr), (nI at453), (nI ne), (nI lk)]) rfl rfl rfl hP
            have hD : va_D A (mW G h0 a (upd (upd (upd (upd (upd (upd (upd F 15 0) 16 pl455) 27 (nI (nd + 1))) 31 (nI wr)) 64 (nI at453)) 65 (nI ne)) 66 (nI lk)) (updA X468 2 K)) := mW_D hD
            refine W.widen (k := 0) (n := 0) (Nat.le_of_ble_eq_true rfl) (Nat.le_of_ble_eq_true rfl) ?_
            refine W.eq (g2 := F0 m 283 ls [.int (nI nd)]) rfl ?_
            have hkp470 : Kp B X468 wr T := (Kp.new hkp1 h469)
            have hlo471 : Low B X468 nd wr := (Low.new hlo2 h469 (by omega))
            have hf472 : Frs K T wr X468 nd (nd + 1) nd [(nd, 0)] := (Frs.new0 (k := 8) Frs.nil (Nat.le_refl _) (Nat.le_refl _) h469 rfl (by decide) (by decide) (by omega) (by omega) (fun e => absurd e (by decide)) (newOK.m1 (by decide)) (newOK.m1 (by decide)) (newOK.m1 (by decide)) (newOK.m1 (by decide)))
            have hn473 : Nd X468 nd 8 (-1) (-1) (-1) (-1) := (NewN.toNd h469)
            refine lv_istore_n (lv' := [(3, .int (nI nd)), (4, .int (nI at438)), (2, .int (K at0)), (1, .int (nI at0)), (0, .ref h0)]) hx hb dX12_operand_283 rfl hl (by decide) rfl (fun ls hl => ?_)
            refine lv_aload_n hx hb dX12_operand_284 rfl (lv_at hl 4 rfl) ?_
            refine r_get (v := .int 0) hx hb hown hq hE hP 15 350 tFX12_15 (by decide) pw_1594 rfl dX12_operand_285 ?_
            refine lv_if_ne (tgt := 305) hx hb dX12_operand_288 (by decide) (fun c474 => absurd c474 (by decide)) (fun c474 => ?_)
            refine lv_aload_n hx hb dX12_operand_291 rfl (lv_at hl 4 rfl) ?_
            have hP : va_P G.1 pCl (mW G h0 a (upd (upd (upd (upd (upd (upd (upd (upd (upd F 15 0) 16 pl455) 27 (nI (nd + 1))) 31 (nI wr)) 64 (nI at453)) 65 (nI ne)) 66 (nI lk)) 15 (nI 0)) 64 (nI at453)) (updA (updA X468 2 K) 2 K)) _ := mW_to (F := F) (l1 := [(15, 0), (16, pl455), (27, (nI (nd + 1))), (31, (nI wr)), (64, (nI at453)), (65, (nI ne)), (66, (nI lk))]) (l2 := [(15, 0), (16, pl455), (27, (nI (nd + 1))), (31, (nI wr)), (64, (nI at453)), (65, (nI ne)), (66, (nI lk)), (15, (nI 0)), (64, (nI at453))]) (V := [(nI 0), pl455, (nI (nd + 1)), (nI wr), (nI at453), (nI ne), (nI lk), (nI 0), pl455, (nI (nd + 1)), (nI wr), (nI at453), (nI ne), (nI lk), (nI 0), (nI at453)]) rfl rfl (show (updA X468 2 K) = (updA (updA X468 2 K) 2 K) from updsA_eq2 (F := X468) (l1 := [(2, K)]) (l2 := [(2, K), (2, K)]) (V := [K, K, K]) rfl rfl) hP
            have hD : va_D A (mW G h0 a (upd (upd (upd (upd (upd (upd (upd (upd (upd F 15 0) 16 pl455) 27 (nI (nd + 1))) 31 (nI wr)) 64 (nI at453)) 65 (nI ne)) 66 (nI lk)) 15 (nI 0)) 64 (nI at453)) (updA (updA X468 2 K) 2 K)) := mW_D hD
            refine pc_V0 (G := G) (As := []) (rest := []) hx hb hml hown hq hE hX pX0_al hP hD hS hA hl.1 (R_kind l G h0 a (upd (upd (upd (upd (upd (upd (upd F 15 0) 16 pl455) 27 (nI (nd + 1))) 31 (nI wr)) 64 (nI at453)) 65 (nI ne)) 66 (nI lk)) (updA X468 2 K) at453 T 0 K (by omega) (by omega) hK (by omega)) (gV pw_1626 pw_1627 pw_1628 pw_1523 pw_1591) hV_X12_kind 0 9 rfl rfl rfl rfl (Nat.le_of_ble_eq_true rfl) dX12_operand_292 ⟨Nat.le_of_ble_eq_true rfl, Nat.le_of_ble_eq_true rfl⟩ ⟨(by show 2 + 1 ≤ (20 * n + 10); omega), (by show 8 + (1 + 11) + 60 ≤ (1000 * n + 40 * 10); omega)⟩ (fun v477 u475 H locs hw476 hP hD hS => ?_)
            obtain rfl : v477 = some (.int (K at453)) := hw476
            have hP : va_P G.1 pCl (mW G h0 a (upd (upd (upd (upd (upd (upd (upd F 15 0) 16 pl455) 27 (nI (nd + 1))) 31 (nI wr)) 64 (nI at453)) 65 (nI ne)) 66 (nI lk)) (updA X468 2 K)) _ := mW_to (F := F) (l1 := [(15, 0), (16, pl455), (27, (nI (nd + 1))), (31, (nI wr)), (64, (nI at453)), (65, (nI ne)), (66, (nI lk)), (15, (nI 0)), (64, (nI at453))]) (l2 := [(15, 0), (16, pl455), (27, (nI (nd + 1))), (31, (nI wr)), (64, (nI at453)), (65, (nI ne)), (66, (nI lk))]) (V := [0, pl455, (nI (nd + 1)), (nI wr), (nI at453), (nI ne), (nI lk), 0, (nI at453), 0, pl455, (nI (nd + 1)), (nI wr), (nI at453), (nI ne), (nI lk)]) rfl rfl (show (updA (updA X468 2 K) 2 K) = (updA X468 2 K) from updsA_eq2 (F := X468) (l1 := [(2, K), (2, K)]) (l2 := [(2, K)]) (V := [K, K, K]) rfl rfl) hP
            have hD : va_D A (mW G h0 a (upd (upd (upd (upd (upd (upd (upd F 15 0) 16 pl455) 27 (nI (nd + 1))) 31 (nI wr)) 64 (nI at453)) 65 (nI ne)) 66 (nI lk)) (updA X468 2 K)) := mW_D hD
            refine W.widen (k := 0) (n := 0) (Nat.le_of_ble_eq_true rfl) (Nat.le_of_ble_eq_true rfl) ?_
            refine W.eq (g2 := F0 m 295 ls [.int (K at453)]) rfl ?_
            refine lv_bipush (v := 40) hx hb dX12_operand_295 (by decide) ?_
            refine lv_icmp_eq (tgt := 305) hx hb dX12_operand_297 (by decide) (fun c478 => ?_) (fun c478 => ?_)
            · refine lv_aload_n hx hb dX12_operand_305 rfl (lv_at hl 4 rfl) ?_
              refine lv_iload_n hx hb dX12_operand_306 rfl (lv_at hl 0 rfl) ?_
              have hP : va_P G.1 pCl (mW G h0 a (upd (upd (upd (upd (upd (upd (upd (upd (upd (upd (upd (upd (upd F 15 0) 16 pl455) 27 (nI (nd + 1))) 31 (nI wr)) 64 (nI at453)) 65 (nI ne)) 66 (nI lk)) 15 0) 27 (nI (nd + 1))) 31 (nI wr)) 64 (nI at453)) 65 (nI ne)) 66 (nI lk)) (updA X468 2 K)) _ := mW_to (F := F) (l1 := [(15, 0), (16, pl455), (27, (nI (nd + 1))), (31, (nI wr)), (64, (nI at453)), (65, (nI ne)), (66, (nI lk))]) (l2 := [(15, 0), (16, pl455), (27, (nI (nd + 1))), (31, (nI wr)), (64, (nI at453)), (65, (nI ne)), (66, (nI lk)), (15, 0), (27, (nI (nd + 1))), (31, (nI wr)), (64, (nI at453)), (65, (nI ne)), (66, (nI lk))]) (V := [0, pl455, (nI (nd + 1)), (nI wr), (nI at453), (nI ne), (nI lk), 0, pl455, (nI (nd + 1)), (nI wr), (nI at453), (nI ne), (nI lk), 0, (nI (nd + 1)), (nI wr), (nI at453), (nI ne), (nI lk)]) rfl rfl rfl hP
              have hD : va_D A (mW G h0 a (upd (upd (upd (upd (upd (upd (upd (upd (upd (upd (upd (upd (upd F 15 0) 16 pl455) 27 (nI (nd + 1))) 31 (nI wr)) 64 (nI at453)) 65 (nI ne)) 66 (nI lk)) 15 0) 27 (nI (nd + 1))) 31 (nI wr)) 64 (nI at453)) 65 (nI ne)) 66 (nI lk)) (updA X468 2 K)) := mW_D hD
              refine pc_V0 (G := G) (As := [.int (nI nd)]) (rest := []) hx hb hml hown hq hE hX pX0_al hP hD hS hA hl.1 (ha h0 a (upd (upd (upd (upd (upd (upd (upd F 15 0) 16 pl455) 27 (nI (nd + 1))) 31 (nI wr)) 64 (nI at453)) 65 (nI ne)) 66 (nI lk)) X468 at453 T ne (nd + 1) wr lk K nd nd 0 (210 + lk - (10 * ne + lk)) 8 (-1) (by omega) (by omega) hK (by omega) (by omega) (by omega) (by omega) (hkp470).2 (by omega) hf472 hn473 (by decide) (fun h => absurd h (by decide)) (by omega) (by omega) (by omega)) (gV pw_1653 pw_1654 pw_1655 pw_1523 pw_1681) hV_X12_arguments 0 9 rfl rfl rfl rfl (Nat.le_of_ble_eq_true rfl) dX12_operand_307 ⟨Nat.le_of_ble_eq_true rfl, Nat.le_of_ble_eq_true rfl⟩ ⟨(by show (20 * n + 8) + 1 ≤ (20 * n + 10); omega), (by show 8 + (5 + 11) + (1000 * n + 40 * 8) ≤ (1000 * n + 40 * 10); omega)⟩ (fun v481 u479 H locs hw480 hP hD hS => ?_)
              obtain ⟨at482, fa483, pl484, nd485, lk486, wr487, X488⟩ := u479
              obtain ⟨hw480, h489, h490, h491, h492, h493, h494, h495, h496, h497, h498, h499, h500, h501⟩ := hw480
              have h489 : at453 ≤ at482 := h489
              have h490 : at482 ≤ T := h490
              have h491 : fa483 ≤ 100 := h491
              have h492 : (nd + 1) ≤ nd485 := h492
              have h493 : nd485 + 2 * at453 ≤ (nd + 1) + 2 * at482 + 100000 * fa483 := h493
              have h494 : nd485 + 2 * at453 ≤ (nd + 1) + 2 * at482 + 40 * (21 - ne) := h494
              have h495 : wr ≤ wr487 := h495
              have h496 : wr487 + at453 ≤ wr + at482 := h496
              have h497 : lk ≤ lk486 := h497
              have h498 : lk486 ≤ 60 + 100 * fa483 := h498
              have h499 : at453 + 1 ≤ at482 + fa483 := h499
              have h500 : Kp X468 X488 wr487 T := h500
              have h501 : If (fa483 = 0) (Low X468 X488 nd wr ∧ Frs K T wr487 X488 nd nd485 20000 [(nd, ((210 + lk - (10 * ne + lk)) + lk486 - lk))] ∧ X488 9 nd = nI 8) := h501
              obtain rfl : v481 = none := hw480
              have hP : va_P G.1 pCl (mW G h0 a (upd (upd (upd (upd (upd (upd (upd F 15 (nI fa483)) 16 pl484) 27 (nI nd485)) 31 (nI wr487)) 64 (nI at482)) 65 (nI ne)) 66 (nI lk486)) (updA X488 2 K)) _ := mW_to (F := F) (l1 := [(15, 0), (16, pl455), (27, (nI (nd + 1))), (31, (nI wr)), (64, (nI at453)), (65, (nI ne)), (66, (nI lk)), (15, (nI fa483)), (16, pl484), (27, (nI nd485)), (31, (nI wr487)), (64, (nI at482)), (65, (nI ne)), (66, (nI lk486))]) (l2 := [(15, (nI fa483)), (16, pl484), (27, (nI nd485)), (31, (nI wr487)), (64, (nI at482)), (65, (nI ne)), (66, (nI lk486))]) (V := [(nI fa483), pl484, (nI nd485), (nI wr487), (nI at482), (nI ne), (nI lk486), (nI fa483), pl484, (nI nd485), (nI wr487), (nI at482), (nI ne), (nI lk486), (nI fa483), pl484, (nI nd485), (nI wr487), (nI at482), (nI ne), (nI lk486)]) rfl rfl rfl hP
              have hD : va_D A (mW G h0 a (upd (upd (upd (upd (upd (upd (upd F 15 (nI fa483)) 16 pl484) 27 (nI nd485)) 31 (nI wr487)) 64 (nI at482)) 65 (nI ne)) 66 (nI lk486)) (updA X488 2 K)) := mW_D hD
              refine W.widen (k := 0) (n := 0) (Nat.le_of_ble_eq_true rfl) (Nat.le_of_ble_eq_true rfl) ?_
              refine W.eq (g2 := F0 m 310 ls []) rfl ?_
              have hkp502 : Kp B X488 wr487 T := (Kp.trans hkp470 h500)
              rcases Nat.eq_zero_or_pos fa483 with e503 | e503
              · subst e503
                have hP : va_P G.1 pCl (mW G h0 a (upd (upd (upd (upd (upd (upd (upd F 15 0) 16 pl484) 27 (nI nd485)) 31 (nI wr487)) 64 (nI at482)) 65 (nI ne)) 66 (nI lk486)) (updA X488 2 K)) _ := hP
                have hD : va_D A (mW G h0 a (upd (upd (upd (upd (upd (upd (upd F 15 0) 16 pl484) 27 (nI nd485)) 31 (nI wr487)) 64 (nI at482)) 65 (nI ne)) 66 (nI lk486)) (updA X488 2 K)) := mW_D hD
                obtain ⟨hlw504, hf505, hc506⟩ := h501 rfl
                have hlo507 : Low B X488 nd wr := (Low.trans hlo471 hlw504 (by omega) (by omega))
                have hm508 := Frs.mem hf505
                have hc509 : kcl 1 (X488 9 nd) = true := (by rw [hc506]; decide)
                refine lv_iload_n hx hb dX12_operand_310 rfl (lv_at hl 0 rfl) ?_
                have hz510 : at0 ≤ at482 := (by omega)
                have hz511 : at482 ≤ T := (by omega)
                have hz512 : 0 ≤ 100 := (by omega)
                have hz513 : nd ≤ nd485 := (by omega)
                have hz514 : nd485 + 2 * at0 ≤ nd + 2 * at482 + 100000 * 0 := (by omega)
                have hz515 : nd485 + 2 * at0 ≤ nd + 2 * at482 + 40 * (21 - ne) := (by omega)
                have hz516 : wr ≤ wr487 := (by omega)
                have hz517 : wr487 + at0 ≤ wr + at482 := (by omega)
                have hz518 : lk ≤ lk486 := (by omega)
                have hz519 : lk486 ≤ 60 + 100 * 0 := (by omega)
                have hz520 : at0 + 1 ≤ at482 + 0 := (by omega)
                have hz521 : nd ≤ nd485 := (by omega)
                have hz522 : Kp B X488 wr487 T := hkp502
                have hz523 : If (0 = 0) (Low B X488 nd wr ∧ Frs K T wr487 X488 nd nd485 20000 [(nd, (210 + lk486 - (10 * ne + lk)))] ∧ kcl 1 (X488 9 nd) = true) := (fun _ => ⟨hlo507, Frs.up hf505 (by omega), hc509⟩)
                have hP : va_P G.1 pCl (mW G h0 a (upd (upd (upd (upd (upd (upd (upd F 15 (nI 0)) 16 pl484) 27 (nI nd485)) 31 (nI wr487)) 64 (nI at482)) 65 (nI ne)) 66 (nI lk486)) (updA X488 2 K)) _ := mW_to (F := F) (l1 := [(15, 0), (16, pl484), (27, (nI nd485)), (31, (nI wr487)), (64, (nI at482)), (65, (nI ne)), (66, (nI lk486))]) (l2 := [(15, (nI 0)), (16, pl484), (27, (nI nd485)), (31, (nI wr487)), (64, (nI at482)), (65, (nI ne)), (66, (nI lk486))]) (V := [(nI 0), pl484, (nI nd485), (nI wr487), (nI at482), (nI ne), (nI lk486), (nI 0), pl484, (nI nd485), (nI wr487), (nI at482), (nI ne), (nI lk486)]) rfl rfl rfl hP
                have hD : va_D A (mW G h0 a (upd (upd (upd (upd (upd (upd (upd F 15 (nI 0)) 16 pl484) 27 (nI nd485)) 31 (nI wr487)) 64 (nI at482)) 65 (nI ne)) 66 (nI lk486)) (updA X488 2 K)) := mW_D hD
                exact W.iret (v := (nI nd)) hx hb hr (fun t9 ht9 hW9 => ⟨⟨_, (at482, 0, pl484, nd485, lk486, wr487, nd, X488), rfl, ⟨rfl, hz510, hz511, hz512, hz513, hz514, hz515, hz516, hz517, hz518, hz519, hz520, hz521, hz522, hz523⟩, by rw [ht9]; exact hP, hD⟩, hS.F ht9⟩) hS.2.2 dX12_operand_311
              · have e503 := e503
                refine lv_iload_n hx hb dX12_operand_310 rfl (lv_at hl 0 rfl) ?_
                have hz524 : at0 ≤ at482 := (by omega)
                have hz525 : at482 ≤ T := (by omega)
                have hz526 : fa483 ≤ 100 := (by omega)
                have hz527 : nd ≤ nd485 := (by omega)
                have hz528 : nd485 + 2 * at0 ≤ nd + 2 * at482 + 100000 * fa483 := (by omega)
                have hz529 : nd485 + 2 * at0 ≤ nd + 2 * at482 + 40 * (21 - ne) := (by omega)
                have hz530 : wr ≤ wr487 := (by omega)
                have hz531 : wr487 + at0 ≤ wr + at482 := (by omega)
                have hz532 : lk ≤ lk486 := (by omega)
                have hz533 : lk486 ≤ 60 + 100 * fa483 := (by omega)
                have hz534 : at0 + 1 ≤ at482 + fa483 := (by omega)
                have hz535 : nd ≤ nd485 := (by omega)
                have hz536 : Kp B X488 wr487 T := hkp502
                have hz537 : If (fa483 = 0) (Low B X488 nd wr ∧ Frs K T wr487 X488 nd nd485 20000 [(nd, (210 + lk486 - (10 * ne + lk)))] ∧ kcl 1 (X488 9 nd) = true) := (fun e => absurd e (by omega))
                have hP : va_P G.1 pCl (mW G h0 a (upd (upd (upd (upd (upd (upd (upd F 15 (nI fa483)) 16 pl484) 27 (nI nd485)) 31 (nI wr487)) 64 (nI at482)) 65 (nI ne)) 66 (nI lk486)) (updA X488 2 K)) _ := hP
                have hD : va_D A (mW G h0 a (upd (upd (upd (upd (upd (upd (upd F 15 (nI fa483)) 16 pl484) 27 (nI nd485)) 31 (nI wr487)) 64 (nI at482)) 65 (nI ne)) 66 (nI lk486)) (updA X488 2 K)) := mW_D hD
                exact W.iret (v := (nI nd)) hx hb hr (fun t9 ht9 hW9 => ⟨⟨_, (at482, fa483, pl484, nd485, lk486, wr487, nd, X488), rfl, ⟨rfl, hz524, hz525, hz526, hz527, hz528, hz529, hz530, hz531, hz532, hz533, hz534, hz535, hz536, hz537⟩, by rw [ht9]; exact hP, hD⟩, hS.F ht9⟩) hS.2.2 dX12_operand_311
            · refine lv_aload_n hx hb dX12_operand_300 rfl (lv_at hl 4 rfl) ?_
              refine lv_iconst (v := 1) hx hb dX12_operand_301 (by decide) ?_
              have hP : va_P G.1 pCl (mW G h0 a (upd (upd (upd (upd (upd (upd (upd (upd (upd F 15 0) 16 pl455) 27 (nI (nd + 1))) 31 (nI wr)) 64 (nI at453)) 65 (nI ne)) 66 (nI lk)) 15 (nI 0)) 64 (nI at453)) (updA (updA X468 2 K) 2 K)) _ := mW_to (F := F) (l1 := [(15, 0), (16, pl455), (27, (nI (nd + 1))), (31, (nI wr)), (64, (nI at453)), (65, (nI ne)), (66, (nI lk))]) (l2 := [(15, 0), (16, pl455), (27, (nI (nd + 1))), (31, (nI wr)), (64, (nI at453)), (65, (nI ne)), (66, (nI lk)), (15, (nI 0)), (64, (nI at453))]) (V := [(nI 0), pl455, (nI (nd + 1)), (nI wr), (nI at453), (nI ne), (nI lk), (nI 0), pl455, (nI (nd + 1)), (nI wr), (nI at453), (nI ne), (nI lk), (nI 0), (nI at453)]) rfl rfl (show (updA X468 2 K) = (updA (updA X468 2 K) 2 K) from updsA_eq2 (F := X468) (l1 := [(2, K)]) (l2 := [(2, K), (2, K)]) (V := [K, K, K]) rfl rfl) hP
              have hD : va_D A (mW G h0 a (upd (upd (upd (upd (upd (upd (upd (upd (upd F 15 0) 16 pl455) 27 (nI (nd + 1))) 31 (nI wr)) 64 (nI at453)) 65 (nI ne)) 66 (nI lk)) 15 (nI 0)) 64 (nI at453)) (updA (updA X468 2 K) 2 K)) := mW_D hD
              refine pc_V0 (G := G) (As := [.int (nI 1)]) (rest := []) hx hb hml hown hq hE hX pX0_al hP hD hS hA hl.1 (R_bad l G h0 a (upd (upd (upd (upd (upd (upd (upd F 15 0) 16 pl455) 27 (nI (nd + 1))) 31 (nI wr)) 64 (nI at453)) 65 (nI ne)) 66 (nI lk)) (updA X468 2 K) at453 T 0 K 1 (by omega) (by omega) hK (by omega) (by omega) (by omega)) (gV pw_1602 pw_1603 pw_1604 pw_1523 pw_1596) hV_X12_bad 0 9 rfl rfl rfl rfl (Nat.le_of_ble_eq_true rfl) dX12_operand_302 ⟨Nat.le_of_ble_eq_true rfl, Nat.le_of_ble_eq_true rfl⟩ ⟨(by show 3 + 1 ≤ (20 * n + 10); omega), (by show 8 + (2 + 11) + 82 ≤ (1000 * n + 40 * 10); omega)⟩ (fun v540 u538 H locs hw539 hP hD hS => ?_)
              obtain ⟨fa541, pl542⟩ := u538
              obtain ⟨hw539, h543, h544, h545, h546⟩ := hw539
              have h543 : 0 ≤ fa541 := h543
              have h544 : fa541 ≤ 0 + 1 := h544
              have h545 : 0 < fa541 := h545
              have h546 : If (0 < 0) (fa541 = 0) := h546
              obtain rfl : v540 = none := hw539
              have hP : va_P G.1 pCl (mW G h0 a (upd (upd (upd (upd (upd (upd (upd F 15 (nI fa541)) 16 pl542) 27 (nI (nd + 1))) 31 (nI wr)) 64 (nI at453)) 65 (nI ne)) 66 (nI lk)) (updA X468 2 K)) _ := mW_to (F := F) (l1 := [(15, 0), (16, pl455), (27, (nI (nd + 1))), (31, (nI wr)), (64, (nI at453)), (65, (nI ne)), (66, (nI lk)), (15, (nI fa541)), (16, pl542), (64, (nI at453))]) (l2 := [(15, (nI fa541)), (16, pl542), (27, (nI (nd + 1))), (31, (nI wr)), (64, (nI at453)), (65, (nI ne)), (66, (nI lk))]) (V := [(nI fa541), pl542, (nI (nd + 1)), (nI wr), (nI at453), (nI ne), (nI lk), (nI fa541), pl542, (nI at453), (nI fa541), pl542, (nI (nd + 1)), (nI wr), (nI at453), (nI ne), (nI lk)]) rfl rfl (show (updA (updA X468 2 K) 2 K) = (updA X468 2 K) from updsA_eq2 (F := X468) (l1 := [(2, K), (2, K)]) (l2 := [(2, K)]) (V := [K, K, K]) rfl rfl) hP
              have hD : va_D A (mW G h0 a (upd (upd (upd (upd (upd (upd (upd F 15 (nI fa541)) 16 pl542) 27 (nI (nd + 1))) 31 (nI wr)) 64 (nI at453)) 65 (nI ne)) 66 (nI lk)) (updA X468 2 K)) := mW_D hD
              refine W.widen (k := 0) (n := 0) (Nat.le_of_ble_eq_true rfl) (Nat.le_of_ble_eq_true rfl) ?_
              refine W.eq (g2 := F0 m 305 ls []) rfl ?_
              refine lv_aload_n hx hb dX12_operand_305 rfl (lv_at hl 4 rfl) ?_
              refine lv_iload_n hx hb dX12_operand_306 rfl (lv_at hl 0 rfl) ?_
              have hP : va_P G.1 pCl (mW G h0 a (upd (upd (upd (upd (upd (upd (upd (upd (upd (upd F 15 (nI fa541)) 16 pl542) 27 (nI (nd + 1))) 31 (nI wr)) 64 (nI at453)) 65 (nI ne)) 66 (nI lk)) 15 (nI fa541)) 64 (nI at453)) 65 (nI ne)) (updA (updA X468 2 K) 2 K)) _ := mW_to (F := F) (l1 := [(15, (nI fa541)), (16, pl542), (27, (nI (nd + 1))), (31, (nI wr)), (64, (nI at453)), (65, (nI ne)), (66, (nI lk))]) (l2 := [(15, (nI fa541)), (16, pl542), (27, (nI (nd + 1))), (31, (nI wr)), (64, (nI at453)), (65, (nI ne)), (66, (nI lk)), (15, (nI fa541)), (64, (nI at453)), (65, (nI ne))]) (V := [(nI fa541), pl542, (nI (nd + 1)), (nI wr), (nI at453), (nI ne), (nI lk), (nI fa541), pl542, (nI (nd + 1)), (nI wr), (nI at453), (nI ne), (nI lk), (nI fa541), (nI at453), (nI ne)]) rfl rfl (show (updA X468 2 K) = (updA (updA X468 2 K) 2 K) from updsA_eq2 (F := X468) (l1 := [(2, K)]) (l2 := [(2, K), (2, K)]) (V := [K, K, K]) rfl rfl) hP
              have hD : va_D A (mW G h0 a (upd (upd (upd (upd (upd (upd (upd (upd (upd (upd F 15 (nI fa541)) 16 pl542) 27 (nI (nd + 1))) 31 (nI wr)) 64 (nI at453)) 65 (nI ne)) 66 (nI lk)) 15 (nI fa541)) 64 (nI at453)) 65 (nI ne)) (updA (updA X468 2 K) 2 K)) := mW_D hD
              refine pc_V0 (G := G) (As := [.int (nI nd)]) (rest := []) hx hb hml hown hq hE hX pX0_al hP hD hS hA hl.1 (RF_arguments l G h0 a (upd (upd (upd (upd (upd (upd (upd F 15 (nI fa541)) 16 pl542) 27 (nI (nd + 1))) 31 (nI wr)) 64 (nI at453)) 65 (nI ne)) 66 (nI lk)) (updA X468 2 K) at453 T fa541 K nd ne (by omega) (by omega) hK (by omega) h545 (by omega) (by omega)) (gV pw_1653 pw_1654 pw_1655 pw_1523 pw_1681) hV_X12_arguments 0 9 rfl rfl rfl rfl (Nat.le_of_ble_eq_true rfl) dX12_operand_307 ⟨Nat.le_of_ble_eq_true rfl, Nat.le_of_ble_eq_true rfl⟩ ⟨(by show 5 + 1 ≤ (20 * n + 10); omega), (by show 8 + (5 + 11) + 124 ≤ (1000 * n + 40 * 10); omega)⟩ (fun v549 u547 H locs hw548 hP hD hS => ?_)
              obtain ⟨pl550, nd551⟩ := u547
              obtain rfl : v549 = none := hw548
              have hP : va_P G.1 pCl (mW G h0 a (upd (upd (upd (upd (upd (upd (upd F 15 (nI fa541)) 16 pl550) 27 (nI (nd + 1))) 31 (nI wr)) 64 (nI at453)) 65 (nI ne)) 66 (nI lk)) (updA (updA X468 2 K) 15 nd551)) _ := mW_to (F := F) (l1 := [(15, (nI fa541)), (16, pl542), (27, (nI (nd + 1))), (31, (nI wr)), (64, (nI at453)), (65, (nI ne)), (66, (nI lk)), (15, (nI fa541)), (16, pl550), (64, (nI at453)), (65, (nI ne))]) (l2 := [(15, (nI fa541)), (16, pl550), (27, (nI (nd + 1))), (31, (nI wr)), (64, (nI at453)), (65, (nI ne)), (66, (nI lk))]) (V := [(nI fa541), pl550, (nI (nd + 1)), (nI wr), (nI at453), (nI ne), (nI lk), (nI fa541), pl550, (nI at453), (nI ne), (nI fa541), pl550, (nI (nd + 1)), (nI wr), (nI at453), (nI ne), (nI lk)]) rfl rfl (show (updA (updA (updA X468 2 K) 2 K) 15 nd551) = (updA (updA X468 2 K) 15 nd551) from updsA_eq2 (F := X468) (l1 := [(2, K), (2, K), (15, nd551)]) (l2 := [(2, K), (15, nd551)]) (V := [K, K, nd551, K, nd551]) rfl rfl) hP
              have hD : va_D A (mW G h0 a (upd (upd (upd (upd (upd (upd (upd F 15 (nI fa541)) 16 pl550) 27 (nI (nd + 1))) 31 (nI wr)) 64 (nI at453)) 65 (nI ne)) 66 (nI lk)) (updA (updA X468 2 K) 15 nd551)) := mW_D hD
              refine W.widen (k := 0) (n := 0) (Nat.le_of_ble_eq_true rfl) (Nat.le_of_ble_eq_true rfl) ?_
              refine W.eq (g2 := F0 m 310 ls []) rfl ?_
              have hP : va_P G.1 pCl (mW G h0 a (upd (upd (upd (upd (upd (upd (upd F 15 (nI fa541)) 16 pl550) 27 (nI (nd + 1))) 31 (nI wr)) 64 (nI at453)) 65 (nI ne)) 66 (nI lk)) (updA (updA X468 15 nd551) 2 K)) _ := mW_to (F := F) (l1 := [(15, (nI fa541)), (16, pl550), (27, (nI (nd + 1))), (31, (nI wr)), (64, (nI at453)), (65, (nI ne)), (66, (nI lk))]) (l2 := [(15, (nI fa541)), (16, pl550), (27, (nI (nd + 1))), (31, (nI wr)), (64, (nI at453)), (65, (nI ne)), (66, (nI lk))]) (V := [(nI fa541), pl550, (nI (nd + 1)), (nI wr), (nI at453), (nI ne), (nI lk), (nI fa541), pl550, (nI (nd + 1)), (nI wr), (nI at453), (nI ne), (nI lk)]) rfl rfl (show (updA (updA X468 2 K) 15 nd551) = (updA (updA X468 15 nd551) 2 K) from updsA_eq2 (F := X468) (l1 := [(2, K), (15, nd551)]) (l2 := [(15, nd551), (2, K)]) (V := [K, nd551, nd551, K]) rfl rfl) hP
              have hD : va_D A (mW G h0 a (upd (upd (upd (upd (upd (upd (upd F 15 (nI fa541)) 16 pl550) 27 (nI (nd + 1))) 31 (nI wr)) 64 (nI at453)) 65 (nI ne)) 66 (nI lk)) (updA (updA X468 15 nd551) 2 K)) := mW_D hD
              have hkp552 : Kp B (updA X468 15 nd551) wr T := (Kp.row hkp470 (by omega))
              refine lv_iload_n hx hb dX12_operand_310 rfl (lv_at hl 0 rfl) ?_
              have hz553 : at0 ≤ at453 := (by omega)
              have hz554 : at453 ≤ T := (by omega)
              have hz555 : fa541 ≤ 100 := (by omega)
              have hz556 : nd ≤ (nd + 1) := (by omega)
              have hz557 : (nd + 1) + 2 * at0 ≤ nd + 2 * at453 + 100000 * fa541 := (by omega)
              have hz558 : (nd + 1) + 2 * at0 ≤ nd + 2 * at453 + 40 * (21 - ne) := (by omega)
              have hz559 : wr ≤ wr := (by omega)
              have hz560 : wr + at0 ≤ wr + at453 := (by omega)
              have hz561 : lk ≤ lk := (by omega)
              have hz562 : lk ≤ 60 + 100 * fa541 := (by omega)
              have hz563 : at0 + 1 ≤ at453 + fa541 := (by omega)
              have hz564 : nd ≤ (nd + 1) := (by omega)
              have hz565 : Kp B (updA X468 15 nd551) wr T := hkp552
              have hz566 : If (fa541 = 0) (Low B (updA X468 15 nd551) nd wr ∧ Frs K T wr (updA X468 15 nd551) nd (nd + 1) 20000 [(nd, (210 + lk - (10 * ne + lk)))] ∧ kcl 1 ((updA X468 15 nd551) 9 nd) = true) := (fun e => absurd e (by omega))
              have hP : va_P G.1 pCl (mW G h0 a (upd (upd (upd (upd (upd (upd (upd F 15 (nI fa541)) 16 pl550) 27 (nI (nd + 1))) 31 (nI wr)) 64 (nI at453)) 65 (nI ne)) 66 (nI lk)) (updA (updA X468 15 nd551) 2 K)) _ := hP
              have hD : va_D A (mW G h0 a (upd (upd (upd (upd (upd (upd (upd F 15 (nI fa541)) 16 pl550) 27 (nI (nd + 1))) 31 (nI wr)) 64 (nI at453)) 65 (nI ne)) 66 (nI lk)) (updA (updA X468 15 nd551) 2 K)) := mW_D hD
              exact W.iret (v := (nI nd)) hx hb hr (fun t9 ht9 hW9 => ⟨⟨_, (at453, fa541, pl550, (nd + 1), lk, wr, nd, (updA X468 15 nd551)), rfl, ⟨rfl, hz553, hz554, hz555, hz556, hz557, hz558, hz559, hz560, hz561, hz562, hz563, hz564, hz565, hz566⟩, by rw [ht9]; exact hP, hD⟩, hS.F ht9⟩) hS.2.2 dX12_operand_311
          · have e464 := e464
            refine lv_istore (lv' := [(4, .int (nI at438)), (2, .int (K at0)), (1, .int (nI at0)), (0, .ref h0)]) hx hb dX12_operand_270 hl (by decide) rfl (fun ls hl => ?_)
            refine lv_aload_n hx hb dX12_operand_272 rfl (lv_at hl 3 rfl) ?_
            refine lv_bipush (v := 8) hx hb dX12_operand_273 (by decide) ?_
            refine lv_iload_n hx hb dX12_operand_275 rfl (lv_at hl 2 rfl) ?_
            refine lv_iload hx hb dX12_operand_276 (lv_at hl 0 rfl) ?_
            refine lv_iconst (v := (-1)) hx hb dX12_operand_278 (by decide) ?_
            refine lv_iconst (v := (-1)) hx hb dX12_operand_279 (by decide) ?_
            have hP : va_P G.1 pCl (mW G h0 a (upd (upd (upd (upd (upd (upd (upd (upd F 15 (nI fa454)) 16 pl455) 27 (nI nd)) 31 (nI wr)) 64 (nI at453)) 65 (nI ne)) 66 (nI lk)) 27 (nI nd)) (updA B 2 K)) _ := mW_to (F := F) (l1 := [(15, (nI fa454)), (16, pl455), (27, (nI nd)), (31, (nI wr)), (64, (nI at453)), (65, (nI ne)), (66, (nI lk))]) (l2 := [(15, (nI fa454)), (16, pl455), (27, (nI nd)), (31, (nI wr)), (64, (nI at453)), (65, (nI ne)), (66, (nI lk)), (27, (nI nd))]) (V := [(nI fa454), pl455, (nI nd), (nI wr), (nI at453), (nI ne), (nI lk), (nI fa454), pl455, (nI nd), (nI wr), (nI at453), (nI ne), (nI lk), (nI nd)]) rfl rfl rfl hP
            have hD : va_D A (mW G h0 a (upd (upd (upd (upd (upd (upd (upd (upd F 15 (nI fa454)) 16 pl455) 27 (nI nd)) 31 (nI wr)) 64 (nI at453)) 65 (nI ne)) 66 (nI lk)) 27 (nI nd)) (updA B 2 K)) := mW_D hD
            refine pc_V0 (G := G) (As := [.int 8, .int (nI at0), .int (nI at438), .int (-1), .int (-1)]) (rest := []) hx hb hml hown hq hE hX pX0_al hP hD hS hA hl.1 (R_nodeB l G h0 a (upd (upd (upd (upd (upd (upd (upd F 15 (nI fa454)) 16 pl455) 27 (nI nd)) 31 (nI wr)) 64 (nI at453)) 65 (nI ne)) 66 (nI lk)) B 8 (nI at0) (nI at438) (-1) (-1) nd K (by omega)) (gV pw_1650 pw_1651 pw_1652 pw_1523 pw_1589) hV_X12_node 0 9 rfl rfl rfl rfl (Nat.le_of_ble_eq_true rfl) dX12_operand_280 ⟨Nat.le_of_ble_eq_true rfl, Nat.le_of_ble_eq_true rfl⟩ ⟨(by show 2 + 1 ≤ (20 * n + 10); omega), (by show 8 + (7 + 11) + 60 ≤ (1000 * n + 40 * 10); omega)⟩ (fun v569 u567 H locs hw568 hP hD hS => ?_)
            obtain ⟨X570, rfl⟩ : ∃ z, z = u567 := ⟨_, rfl⟩
            obtain ⟨hw568, h571⟩ := hw568
            have h571 : NewN B X570 nd 8 (nI at0) (nI at438) (-1) (-1) := h571
            obtain rfl : v569 = some (.int (nI nd)) := hw568
            have hP : va_P G.1 pCl (mW G h0 a (upd (upd (upd (upd (upd (upd (upd F 15 (nI fa454)) 16 pl455) 27 (nI (nd + 1))) 31 (nI wr)) 64 (nI at453)) 65 (nI ne)) 66 (nI lk)) (updA X570 2 K)) _ := mW_to (F := F) (l1 := [(15, (nI fa454)), (16, pl455), (27, (nI nd)), (31, (nI wr)), (64, (nI at453)), (65, (nI ne)), (66, (nI lk)), (27, (nI (nd + 1)))]) (l2 := [(15, (nI fa454)), (16, pl455), (27, (nI (nd + 1))), (31, (nI wr)), (64, (nI at453)), (65, (nI ne)), (66, (nI lk))]) (V := [(nI fa454), pl455, (nI (nd + 1)), (nI wr), (nI at453), (nI ne), (nI lk), (nI (nd + 1)), (nI fa454), pl455, (nI (nd + 1)), (nI wr), (nI at453), (nI ne), (nI lk)]) rfl rfl rfl hP
            have hD : va_D A (mW G h0 a (upd (upd (upd (upd (upd (upd (upd F 15 (nI fa454)) 16 pl455) 27 (nI (nd + 1))) 31 (nI wr)) 64 (nI at453)) 65 (nI ne)) 66 (nI lk)) (updA X570 2 K)) := mW_D hD
            refine W.widen (k := 0) (n := 0) (Nat.le_of_ble_eq_true rfl) (Nat.le_of_ble_eq_true rfl) ?_
            refine W.eq (g2 := F0 m 283 ls [.int (nI nd)]) rfl ?_
            have hkp572 : Kp B X570 wr T := (Kp.new hkp1 h571)
            refine lv_istore_n (lv' := [(3, .int (nI nd)), (4, .int (nI at438)), (2, .int (K at0)), (1, .int (nI at0)), (0, .ref h0)]) hx hb dX12_operand_283 rfl hl (by decide) rfl (fun ls hl => ?_)
            refine lv_aload_n hx hb dX12_operand_284 rfl (lv_at hl 4 rfl) ?_
            refine r_get (v := .int (nI fa454)) hx hb hown hq hE hP 15 350 tFX12_15 (by decide) pw_1594 rfl dX12_operand_285 ?_
            refine lv_if_ne (tgt := 305) hx hb dX12_operand_288 (by decide) (fun c573 => ?_) (fun c573 => (by have n574 : fa454 = 0 := (nI_eq (a := fa454) (b := 0) (by omega) (by omega)).mp c573; omega))
            refine lv_aload_n hx hb dX12_operand_305 rfl (lv_at hl 4 rfl) ?_
            refine lv_iload_n hx hb dX12_operand_306 rfl (lv_at hl 0 rfl) ?_
            have hP : va_P G.1 pCl (mW G h0 a (upd (upd (upd (upd (upd (upd (upd (upd (upd (upd F 15 (nI fa454)) 16 pl455) 27 (nI (nd + 1))) 31 (nI wr)) 64 (nI at453)) 65 (nI ne)) 66 (nI lk)) 15 (nI fa454)) 64 (nI at453)) 65 (nI ne)) (updA (updA X570 2 K) 2 K)) _ := mW_to (F := F) (l1 := [(15, (nI fa454)), (16, pl455), (27, (nI (nd + 1))), (31, (nI wr)), (64, (nI at453)), (65, (nI ne)), (66, (nI lk))]) (l2 := [(15, (nI fa454)), (16, pl455), (27, (nI (nd + 1))), (31, (nI wr)), (64, (nI at453)), (65, (nI ne)), (66, (nI lk)), (15, (nI fa454)), (64, (nI at453)), (65, (nI ne))]) (V := [(nI fa454), pl455, (nI (nd + 1)), (nI wr), (nI at453), (nI ne), (nI lk), (nI fa454), pl455, (nI (nd + 1)), (nI wr), (nI at453), (nI ne), (nI lk), (nI fa454), (nI at453), (nI ne)]) rfl rfl (show (updA X570 2 K) = (updA (updA X570 2 K) 2 K) from updsA_eq2 (F := X570) (l1 := [(2, K)]) (l2 := [(2, K), (2, K)]) (V := [K, K, K]) rfl rfl) hP
            have hD : va_D A (mW G h0 a (upd (upd (upd (upd (upd (upd (upd (upd (upd (upd F 15 (nI fa454)) 16 pl455) 27 (nI (nd + 1))) 31 (nI wr)) 64 (nI at453)) 65 (nI ne)) 66 (nI lk)) 15 (nI fa454)) 64 (nI at453)) 65 (nI ne)) (updA (updA X570 2 K) 2 K)) := mW_D hD
            refine pc_V0 (G := G) (As := [.int (nI nd)]) (rest := []) hx hb hml hown hq hE hX pX0_al hP hD hS hA hl.1 (RF_arguments l G h0 a (upd (upd (upd (upd (upd (upd (upd F 15 (nI fa454)) 16 pl455) 27 (nI (nd + 1))) 31 (nI wr)) 64 (nI at453)) 65 (nI ne)) 66 (nI lk)) (updA X570 2 K) at453 T fa454 K nd ne (by omega) (by omega) hK (by omega) e464 (by omega) (by omega)) (gV pw_1653 pw_1654 pw_1655 pw_1523 pw_1681) hV_X12_arguments 0 9 rfl rfl rfl rfl (Nat.le_of_ble_eq_true rfl) dX12_operand_307 ⟨Nat.le_of_ble_eq_true rfl, Nat.le_of_ble_eq_true rfl⟩ ⟨(by show 5 + 1 ≤ (20 * n + 10); omega), (by show 8 + (5 + 11) + 124 ≤ (1000 * n + 40 * 10); omega)⟩ (fun v577 u575 H locs hw576 hP hD hS => ?_)
            obtain ⟨pl578, nd579⟩ := u575
            obtain rfl : v577 = none := hw576
            have hP : va_P G.1 pCl (mW G h0 a (upd (upd (upd (upd (upd (upd (upd F 15 (nI fa454)) 16 pl578) 27 (nI (nd + 1))) 31 (nI wr)) 64 (nI at453)) 65 (nI ne)) 66 (nI lk)) (updA (updA X570 2 K) 15 nd579)) _ := mW_to (F := F) (l1 := [(15, (nI fa454)), (16, pl455), (27, (nI (nd + 1))), (31, (nI wr)), (64, (nI at453)), (65, (nI ne)), (66, (nI lk)), (15, (nI fa454)), (16, pl578), (64, (nI at453)), (65, (nI ne))]) (l2 := [(15, (nI fa454)), (16, pl578), (27, (nI (nd + 1))), (31, (nI wr)), (64, (nI at453)), (65, (nI ne)), (66, (nI lk))]) (V := [(nI fa454), pl578, (nI (nd + 1)), (nI wr), (nI at453), (nI ne), (nI lk), (nI fa454), pl578, (nI at453), (nI ne), (nI fa454), pl578, (nI (nd + 1)), (nI wr), (nI at453), (nI ne), (nI lk)]) rfl rfl (show (updA (updA (updA X570 2 K) 2 K) 15 nd579) = (updA (updA X570 2 K) 15 nd579) from updsA_eq2 (F := X570) (l1 := [(2, K), (2, K), (15, nd579)]) (l2 := [(2, K), (15, nd579)]) (V := [K, K, nd579, K, nd579]) rfl rfl) hP
            have hD : va_D A (mW G h0 a (upd (upd (upd (upd (upd (upd (upd F 15 (nI fa454)) 16 pl578) 27 (nI (nd + 1))) 31 (nI wr)) 64 (nI at453)) 65 (nI ne)) 66 (nI lk)) (updA (updA X570 2 K) 15 nd579)) := mW_D hD
            refine W.widen (k := 0) (n := 0) (Nat.le_of_ble_eq_true rfl) (Nat.le_of_ble_eq_true rfl) ?_
            refine W.eq (g2 := F0 m 310 ls []) rfl ?_
            have hP : va_P G.1 pCl (mW G h0 a (upd (upd (upd (upd (upd (upd (upd F 15 (nI fa454)) 16 pl578) 27 (nI (nd + 1))) 31 (nI wr)) 64 (nI at453)) 65 (nI ne)) 66 (nI lk)) (updA (updA X570 15 nd579) 2 K)) _ := mW_to (F := F) (l1 := [(15, (nI fa454)), (16, pl578), (27, (nI (nd + 1))), (31, (nI wr)), (64, (nI at453)), (65, (nI ne)), (66, (nI lk))]) (l2 := [(15, (nI fa454)), (16, pl578), (27, (nI (nd + 1))), (31, (nI wr)), (64, (nI at453)), (65, (nI ne)), (66, (nI lk))]) (V := [(nI fa454), pl578, (nI (nd + 1)), (nI wr), (nI at453), (nI ne), (nI lk), (nI fa454), pl578, (nI (nd + 1)), (nI wr), (nI at453), (nI ne), (nI lk)]) rfl rfl (show (updA (updA X570 2 K) 15 nd579) = (updA (updA X570 15 nd579) 2 K) from updsA_eq2 (F := X570) (l1 := [(2, K), (15, nd579)]) (l2 := [(15, nd579), (2, K)]) (V := [K, nd579, nd579, K]) rfl rfl) hP
            have hD : va_D A (mW G h0 a (upd (upd (upd (upd (upd (upd (upd F 15 (nI fa454)) 16 pl578) 27 (nI (nd + 1))) 31 (nI wr)) 64 (nI at453)) 65 (nI ne)) 66 (nI lk)) (updA (updA X570 15 nd579) 2 K)) := mW_D hD
            have hkp580 : Kp B (updA X570 15 nd579) wr T := (Kp.row hkp572 (by omega))
            refine lv_iload_n hx hb dX12_operand_310 rfl (lv_at hl 0 rfl) ?_
            have hz581 : at0 ≤ at453 := (by omega)
            have hz582 : at453 ≤ T := (by omega)
            have hz583 : fa454 ≤ 100 := (by omega)
            have hz584 : nd ≤ (nd + 1) := (by omega)
            have hz585 : (nd + 1) + 2 * at0 ≤ nd + 2 * at453 + 100000 * fa454 := (by omega)
            have hz586 : (nd + 1) + 2 * at0 ≤ nd + 2 * at453 + 40 * (21 - ne) := (by omega)
            have hz587 : wr ≤ wr := (by omega)
            have hz588 : wr + at0 ≤ wr + at453 := (by omega)
            have hz589 : lk ≤ lk := (by omega)
            have hz590 : lk ≤ 60 + 100 * fa454 := (by omega)
            have hz591 : at0 + 1 ≤ at453 + fa454 := (by omega)
            have hz592 : nd ≤ (nd + 1) := (by omega)
            have hz593 : Kp B (updA X570 15 nd579) wr T := hkp580
            have hz594 : If (fa454 = 0) (Low B (updA X570 15 nd579) nd wr ∧ Frs K T wr (updA X570 15 nd579) nd (nd + 1) 20000 [(nd, (210 + lk - (10 * ne + lk)))] ∧ kcl 1 ((updA X570 15 nd579) 9 nd) = true) := (fun e => absurd e (by omega))
            have hP : va_P G.1 pCl (mW G h0 a (upd (upd (upd (upd (upd (upd (upd F 15 (nI fa454)) 16 pl578) 27 (nI (nd + 1))) 31 (nI wr)) 64 (nI at453)) 65 (nI ne)) 66 (nI lk)) (updA (updA X570 15 nd579) 2 K)) _ := hP
            have hD : va_D A (mW G h0 a (upd (upd (upd (upd (upd (upd (upd F 15 (nI fa454)) 16 pl578) 27 (nI (nd + 1))) 31 (nI wr)) 64 (nI at453)) 65 (nI ne)) 66 (nI lk)) (updA (updA X570 15 nd579) 2 K)) := mW_D hD
            exact W.iret (v := (nI nd)) hx hb hr (fun t9 ht9 hW9 => ⟨⟨_, (at453, fa454, pl578, (nd + 1), lk, wr, nd, (updA X570 15 nd579)), rfl, ⟨rfl, hz581, hz582, hz583, hz584, hz585, hz586, hz587, hz588, hz589, hz590, hz591, hz592, hz593, hz594⟩, by rw [ht9]; exact hP, hD⟩, hS.F ht9⟩) hS.2.2 dX12_operand_311
        · have e449 := e449
          refine lv_aload_n hx hb dX12_operand_266 rfl (lv_at hl 2 rfl) ?_
          have hP : va_P G.1 pCl (mW G h0 a (upd (upd (upd (upd (upd (upd (upd (upd (upd F 15 (nI fa439)) 16 pl440) 27 (nI nd)) 31 (nI wr)) 64 (nI at438)) 65 (nI ne)) 66 (nI lk)) 15 (nI fa439)) 64 (nI at438)) (updA (updA B 2 K) 2 K)) _ := mW_to (F := F) (l1 := [(15, (nI fa439)), (16, pl440), (27, (nI nd)), (31, (nI wr)), (64, (nI at438)), (65, (nI ne)), (66, (nI lk))]) (l2 := [(15, (nI fa439)), (16, pl440), (27, (nI nd)), (31, (nI wr)), (64, (nI at438)), (65, (nI ne)), (66, (nI lk)), (15, (nI fa439)), (64, (nI at438))]) (V := [(nI fa439), pl440, (nI nd), (nI wr), (nI at438), (nI ne), (nI lk), (nI fa439), pl440, (nI nd), (nI wr), (nI at438), (nI ne), (nI lk), (nI fa439), (nI at438)]) rfl rfl (show (updA B 2 K) = (updA (updA B 2 K) 2 K) from updsA_eq2 (F := B) (l1 := [(2, K)]) (l2 := [(2, K), (2, K)]) (V := [K, K, K]) rfl rfl) hP
          have hD : va_D A (mW G h0 a (upd (upd (upd (upd (upd (upd (upd (upd (upd F 15 (nI fa439)) 16 pl440) 27 (nI nd)) 31 (nI wr)) 64 (nI at438)) 65 (nI ne)) 66 (nI lk)) 15 (nI fa439)) 64 (nI at438)) (updA (updA B 2 K) 2 K)) := mW_D hD
          refine pc_V0 (G := G) (As := []) (rest := []) hx hb hml hown hq hE hX pX0_al hP hD hS hA hl.1 (R_name l G h0 a (upd (upd (upd (upd (upd (upd (upd F 15 (nI fa439)) 16 pl440) 27 (nI nd)) 31 (nI wr)) 64 (nI at438)) 65 (nI ne)) 66 (nI lk)) (updA B 2 K) at438 T fa439 K (by omega) (by omega) hK (by omega)) (gV pw_1618 pw_1619 pw_1620 pw_1523 pw_1613) hV_X12_name 0 9 rfl rfl rfl rfl (Nat.le_of_ble_eq_true rfl) dX12_operand_267 ⟨Nat.le_of_ble_eq_true rfl, Nat.le_of_ble_eq_true rfl⟩ ⟨(by show 5 + 1 ≤ (20 * n + 10); omega), (by show 8 + (2 + 11) + 124 ≤ (1000 * n + 40 * 10); omega)⟩ (fun v597 u595 H locs hw596 hP hD hS => ?_)
          obtain ⟨at598, fa599, pl600⟩ := u595
          obtain ⟨hw596, h601, h602, h603, h604, h605, h606, h607, h608⟩ := hw596
          have h601 : at438 ≤ at598 := h601
          have h602 : at598 ≤ T := h602
          have h603 : fa439 ≤ fa599 := h603
          have h604 : fa599 ≤ 100 := h604
          have h605 : If (0 < fa439) (at598 = at438 ∧ fa599 = fa439) := h605
          have h606 : at598 ≤ at438 + 1 := h606
          have h607 : at438 + 1 ≤ at598 + fa599 := h607
          have h608 : If (fa599 = 0) (K at438 = 1) := h608
          obtain rfl : v597 = some (.int (nI at438)) := hw596
          have hP : va_P G.1 pCl (mW G h0 a (upd (upd (upd (upd (upd (upd (upd F 15 (nI fa599)) 16 pl600) 27 (nI nd)) 31 (nI wr)) 64 (nI at598)) 65 (nI ne)) 66 (nI lk)) (updA B 2 K)) _ := mW_to (F := F) (l1 := [(15, (nI fa439)), (16, pl440), (27, (nI nd)), (31, (nI wr)), (64, (nI at438)), (65, (nI ne)), (66, (nI lk)), (15, (nI fa599)), (16, pl600), (64, (nI at598))]) (l2 := [(15, (nI fa599)), (16, pl600), (27, (nI nd)), (31, (nI wr)), (64, (nI at598)), (65, (nI ne)), (66, (nI lk))]) (V := [(nI fa599), pl600, (nI nd), (nI wr), (nI at598), (nI ne), (nI lk), (nI fa599), pl600, (nI at598), (nI fa599), pl600, (nI nd), (nI wr), (nI at598), (nI ne), (nI lk)]) rfl rfl (show (updA (updA B 2 K) 2 K) = (updA B 2 K) from updsA_eq2 (F := B) (l1 := [(2, K), (2, K)]) (l2 := [(2, K)]) (V := [K, K, K]) rfl rfl) hP
          have hD : va_D A (mW G h0 a (upd (upd (upd (upd (upd (upd (upd F 15 (nI fa599)) 16 pl600) 27 (nI nd)) 31 (nI wr)) 64 (nI at598)) 65 (nI ne)) 66 (nI lk)) (updA B 2 K)) := mW_D hD
          refine W.widen (k := 0) (n := 0) (Nat.le_of_ble_eq_true rfl) (Nat.le_of_ble_eq_true rfl) ?_
          refine W.eq (g2 := F0 m 270 ls [.int (nI at438)]) rfl ?_
          obtain ⟨n610, n609⟩ := h605 e449
          replace n610 := n610.symm
          subst n610
          replace n609 := n609.symm
          subst n609
          refine lv_istore (lv' := [(4, .int (nI at438)), (2, .int (K at0)), (1, .int (nI at0)), (0, .ref h0)]) hx hb dX12_operand_270 hl (by decide) rfl (fun ls hl => ?_)
          refine lv_aload_n hx hb dX12_operand_272 rfl (lv_at hl 3 rfl) ?_
          refine lv_bipush (v := 8) hx hb dX12_operand_273 (by decide) ?_
          refine lv_iload_n hx hb dX12_operand_275 rfl (lv_at hl 2 rfl) ?_
          refine lv_iload hx hb dX12_operand_276 (lv_at hl 0 rfl) ?_
          refine lv_iconst (v := (-1)) hx hb dX12_operand_278 (by decide) ?_
          refine lv_iconst (v := (-1)) hx hb dX12_operand_279 (by decide) ?_
          have hP : va_P G.1 pCl (mW G h0 a (upd (upd (upd (upd (upd (upd (upd (upd F 15 (nI fa439)) 16 pl600) 27 (nI nd)) 31 (nI wr)) 64 (nI at438)) 65 (nI ne)) 66 (nI lk)) 27 (nI nd)) (updA B 2 K)) _ := hP
          have hD : va_D A (mW G h0 a (upd (upd (upd (upd (upd (upd (upd (upd F 15 (nI fa439)) 16 pl600) 27 (nI nd)) 31 (nI wr)) 64 (nI at438)) 65 (nI ne)) 66 (nI lk)) 27 (nI nd)) (updA B 2 K)) := mW_D hD
          refine pc_V0 (G := G) (As := [.int 8, .int (nI at0), .int (nI at438), .int (-1), .int (-1)]) (rest := []) hx hb hml hown hq hE hX pX0_al hP hD hS hA hl.1 (R_nodeB l G h0 a (upd (upd (upd (upd (upd (upd (upd F 15 (nI fa439)) 16 pl600) 27 (nI nd)) 31 (nI wr)) 64 (nI at438)) 65 (nI ne)) 66 (nI lk)) B 8 (nI at0) (nI at438) (-1) (-1) nd K (by omega)) (gV pw_1650 pw_1651 pw_1652 pw_1523 pw_1589) hV_X12_node 0 9 rfl rfl rfl rfl (Nat.le_of_ble_eq_true rfl) dX12_operand_280 ⟨Nat.le_of_ble_eq_true rfl, Nat.le_of_ble_eq_true rfl⟩ ⟨(by show 2 + 1 ≤ (20 * n + 10); omega), (by show 8 + (7 + 11) + 60 ≤ (1000 * n + 40 * 10); omega)⟩ (fun v613 u611 H locs hw612 hP hD hS => ?_)
          obtain ⟨X614, rfl⟩ : ∃ z, z = u611 := ⟨_, rfl⟩
          obtain ⟨hw612, h615⟩ := hw612
          have h615 : NewN B X614 nd 8 (nI at0) (nI at438) (-1) (-1) := h615
          obtain rfl : v613 = some (.int (nI nd)) := hw612
          have hP : va_P G.1 pCl (mW G h0 a (upd (upd (upd (upd (upd (upd (upd F 15 (nI fa439)) 16 pl600) 27 (nI (nd + 1))) 31 (nI wr)) 64 (nI at438)) 65 (nI ne)) 66 (nI lk)) (updA X614 2 K)) _ := mW_to (F := F) (l1 := [(15, (nI fa439)), (16, pl600), (27, (nI nd)), (31, (nI wr)), (64, (nI at438)), (65, (nI ne)), (66, (nI lk)), (27, (nI (nd + 1)))]) (l2 := [(15, (nI fa439)), (16, pl600), (27, (nI (nd + 1))), (31, (nI wr)), (64, (nI at438)), (65, (nI ne)), (66, (nI lk))]) (V := [(nI fa439), pl600, (nI (nd + 1)), (nI wr), (nI at438), (nI ne), (nI lk), (nI (nd + 1)), (nI fa439), pl600, (nI (nd + 1)), (nI wr), (nI at438), (nI ne), (nI lk)]) rfl rfl rfl hP
          have hD : va_D A (mW G h0 a (upd (upd (upd (upd (upd (upd (upd F 15 (nI fa439)) 16 pl600) 27 (nI (nd + 1))) 31 (nI wr)) 64 (nI at438)) 65 (nI ne)) 66 (nI lk)) (updA X614 2 K)) := mW_D hD
          refine W.widen (k := 0) (n := 0) (Nat.le_of_ble_eq_true rfl) (Nat.le_of_ble_eq_true rfl) ?_
          refine W.eq (g2 := F0 m 283 ls [.int (nI nd)]) rfl ?_
          have hkp616 : Kp B X614 wr T := (Kp.new hkp1 h615)
          refine lv_istore_n (lv' := [(3, .int (nI nd)), (4, .int (nI at438)), (2, .int (K at0)), (1, .int (nI at0)), (0, .ref h0)]) hx hb dX12_operand_283 rfl hl (by decide) rfl (fun ls hl => ?_)
          refine lv_aload_n hx hb dX12_operand_284 rfl (lv_at hl 4 rfl) ?_
          refine r_get (v := .int (nI fa439)) hx hb hown hq hE hP 15 350 tFX12_15 (by decide) pw_1594 rfl dX12_operand_285 ?_
          refine lv_if_ne (tgt := 305) hx hb dX12_operand_288 (by decide) (fun c617 => ?_) (fun c617 => (by have n618 : fa439 = 0 := (nI_eq (a := fa439) (b := 0) (by omega) (by omega)).mp c617; omega))
          refine lv_aload_n hx hb dX12_operand_305 rfl (lv_at hl 4 rfl) ?_
          refine lv_iload_n hx hb dX12_operand_306 rfl (lv_at hl 0 rfl) ?_
          have hP : va_P G.1 pCl (mW G h0 a (upd (upd (upd (upd (upd (upd (upd (upd (upd (upd F 15 (nI fa439)) 16 pl600) 27 (nI (nd + 1))) 31 (nI wr)) 64 (nI at438)) 65 (nI ne)) 66 (nI lk)) 15 (nI fa439)) 64 (nI at438)) 65 (nI ne)) (updA (updA X614 2 K) 2 K)) _ := mW_to (F := F) (l1 := [(15, (nI fa439)), (16, pl600), (27, (nI (nd + 1))), (31, (nI wr)), (64, (nI at438)), (65, (nI ne)), (66, (nI lk))]) (l2 := [(15, (nI fa439)), (16, pl600), (27, (nI (nd + 1))), (31, (nI wr)), (64, (nI at438)), (65, (nI ne)), (66, (nI lk)), (15, (nI fa439)), (64, (nI at438)), (65, (nI ne))]) (V := [(nI fa439), pl600, (nI (nd + 1)), (nI wr), (nI at438), (nI ne), (nI lk), (nI fa439), pl600, (nI (nd + 1)), (nI wr), (nI at438), (nI ne), (nI lk), (nI fa439), (nI at438), (nI ne)]) rfl rfl (show (updA X614 2 K) = (updA (updA X614 2 K) 2 K) from updsA_eq2 (F := X614) (l1 := [(2, K)]) (l2 := [(2, K), (2, K)]) (V := [K, K, K]) rfl rfl) hP
          have hD : va_D A (mW G h0 a (upd (upd (upd (upd (upd (upd (upd (upd (upd (upd F 15 (nI fa439)) 16 pl600) 27 (nI (nd + 1))) 31 (nI wr)) 64 (nI at438)) 65 (nI ne)) 66 (nI lk)) 15 (nI fa439)) 64 (nI at438)) 65 (nI ne)) (updA (updA X614 2 K) 2 K)) := mW_D hD
          refine pc_V0 (G := G) (As := [.int (nI nd)]) (rest := []) hx hb hml hown hq hE hX pX0_al hP hD hS hA hl.1 (RF_arguments l G h0 a (upd (upd (upd (upd (upd (upd (upd F 15 (nI fa439)) 16 pl600) 27 (nI (nd + 1))) 31 (nI wr)) 64 (nI at438)) 65 (nI ne)) 66 (nI lk)) (updA X614 2 K) at438 T fa439 K nd ne (by omega) (by omega) hK (by omega) e449 (by omega) (by omega)) (gV pw_1653 pw_1654 pw_1655 pw_1523 pw_1681) hV_X12_arguments 0 9 rfl rfl rfl rfl (Nat.le_of_ble_eq_true rfl) dX12_operand_307 ⟨Nat.le_of_ble_eq_true rfl, Nat.le_of_ble_eq_true rfl⟩ ⟨(by show 5 + 1 ≤ (20 * n + 10); omega), (by show 8 + (5 + 11) + 124 ≤ (1000 * n + 40 * 10); omega)⟩ (fun v621 u619 H locs hw620 hP hD hS => ?_)
          obtain ⟨pl622, nd623⟩ := u619
          obtain rfl : v621 = none := hw620
          have hP : va_P G.1 pCl (mW G h0 a (upd (upd (upd (upd (upd (upd (upd F 15 (nI fa439)) 16 pl622) 27 (nI (nd + 1))) 31 (nI wr)) 64 (nI at438)) 65 (nI ne)) 66 (nI lk)) (updA (updA X614 2 K) 15 nd623)) _ := mW_to (F := F) (l1 := [(15, (nI fa439)), (16, pl600), (27, (nI (nd + 1))), (31, (nI wr)), (64, (nI at438)), (65, (nI ne)), (66, (nI lk)), (15, (nI fa439)), (16, pl622), (64, (nI at438)), (65, (nI ne))]) (l2 := [(15, (nI fa439)), (16, pl622), (27, (nI (nd + 1))), (31, (nI wr)), (64, (nI at438)), (65, (nI ne)), (66, (nI lk))]) (V := [(nI fa439), pl622, (nI (nd + 1)), (nI wr), (nI at438), (nI ne), (nI lk), (nI fa439), pl622, (nI at438), (nI ne), (nI fa439), pl622, (nI (nd + 1)), (nI wr), (nI at438), (nI ne), (nI lk)]) rfl rfl (show (updA (updA (updA X614 2 K) 2 K) 15 nd623) = (updA (updA X614 2 K) 15 nd623) from updsA_eq2 (F := X614) (l1 := [(2, K), (2, K), (15, nd623)]) (l2 := [(2, K), (15, nd623)]) (V := [K, K, nd623, K, nd623]) rfl rfl) hP
          have hD : va_D A (mW G h0 a (upd (upd (upd (upd (upd (upd (upd F 15 (nI fa439)) 16 pl622) 27 (nI (nd + 1))) 31 (nI wr)) 64 (nI at438)) 65 (nI ne)) 66 (nI lk)) (updA (updA X614 2 K) 15 nd623)) := mW_D hD
          refine W.widen (k := 0) (n := 0) (Nat.le_of_ble_eq_true rfl) (Nat.le_of_ble_eq_true rfl) ?_
          refine W.eq (g2 := F0 m 310 ls []) rfl ?_
          have hP : va_P G.1 pCl (mW G h0 a (upd (upd (upd (upd (upd (upd (upd F 15 (nI fa439)) 16 pl622) 27 (nI (nd + 1))) 31 (nI wr)) 64 (nI at438)) 65 (nI ne)) 66 (nI lk)) (updA (updA X614 15 nd623) 2 K)) _ := mW_to (F := F) (l1 := [(15, (nI fa439)), (16, pl622), (27, (nI (nd + 1))), (31, (nI wr)), (64, (nI at438)), (65, (nI ne)), (66, (nI lk))]) (l2 := [(15, (nI fa439)), (16, pl622), (27, (nI (nd + 1))), (31, (nI wr)), (64, (nI at438)), (65, (nI ne)), (66, (nI lk))]) (V := [(nI fa439), pl622, (nI (nd + 1)), (nI wr), (nI at438), (nI ne), (nI lk), (nI fa439), pl622, (nI (nd + 1)), (nI wr), (nI at438), (nI ne), (nI lk)]) rfl rfl (show (updA (updA X614 2 K) 15 nd623) = (updA (updA X614 15 nd623) 2 K) from updsA_eq2 (F := X614) (l1 := [(2, K), (15, nd623)]) (l2 := [(15, nd623), (2, K)]) (V := [K, nd623, nd623, K]) rfl rfl) hP
          have hD : va_D A (mW G h0 a (upd (upd (upd (upd (upd (upd (upd F 15 (nI fa439)) 16 pl622) 27 (nI (nd + 1))) 31 (nI wr)) 64 (nI at438)) 65 (nI ne)) 66 (nI lk)) (updA (updA X614 15 nd623) 2 K)) := mW_D hD
          have hkp624 : Kp B (updA X614 15 nd623) wr T := (Kp.row hkp616 (by omega))
          refine lv_iload_n hx hb dX12_operand_310 rfl (lv_at hl 0 rfl) ?_
          have hz625 : at0 ≤ at438 := (by omega)
          have hz626 : at438 ≤ T := (by omega)
          have hz627 : fa439 ≤ 100 := (by omega)
          have hz628 : nd ≤ (nd + 1) := (by omega)
          have hz629 : (nd + 1) + 2 * at0 ≤ nd + 2 * at438 + 100000 * fa439 := (by omega)
          have hz630 : (nd + 1) + 2 * at0 ≤ nd + 2 * at438 + 40 * (21 - ne) := (by omega)
          have hz631 : wr ≤ wr := (by omega)
          have hz632 : wr + at0 ≤ wr + at438 := (by omega)
          have hz633 : lk ≤ lk := (by omega)
          have hz634 : lk ≤ 60 + 100 * fa439 := (by omega)
          have hz635 : at0 + 1 ≤ at438 + fa439 := (by omega)
          have hz636 : nd ≤ (nd + 1) := (by omega)
          have hz637 : Kp B (updA X614 15 nd623) wr T := hkp624
          have hz638 : If (fa439 = 0) (Low B (updA X614 15 nd623) nd wr ∧ Frs K T wr (updA X614 15 nd623) nd (nd + 1) 20000 [(nd, (210 + lk - (10 * ne + lk)))] ∧ kcl 1 ((updA X614 15 nd623) 9 nd) = true) := (fun e => absurd e (by omega))
          have hP : va_P G.1 pCl (mW G h0 a (upd (upd (upd (upd (upd (upd (upd F 15 (nI fa439)) 16 pl622) 27 (nI (nd + 1))) 31 (nI wr)) 64 (nI at438)) 65 (nI ne)) 66 (nI lk)) (updA (updA X614 15 nd623) 2 K)) _ := hP
          have hD : va_D A (mW G h0 a (upd (upd (upd (upd (upd (upd (upd F 15 (nI fa439)) 16 pl622) 27 (nI (nd + 1))) 31 (nI wr)) 64 (nI at438)) 65 (nI ne)) 66 (nI lk)) (updA (updA X614 15 nd623) 2 K)) := mW_D hD
          exact W.iret (v := (nI nd)) hx hb hr (fun t9 ht9 hW9 => ⟨⟨_, (at438, fa439, pl622, (nd + 1), lk, wr, nd, (updA X614 15 nd623)), rfl, ⟨rfl, hz625, hz626, hz627, hz628, hz629, hz630, hz631, hz632, hz633, hz634, hz635, hz636, hz637, hz638⟩, by rw [ht9]; exact hP, hD⟩, hS.F ht9⟩) hS.2.2 dX12_operand_311
      by_cases h639 : (K at0) = 333
      · refine lv_lookup (tgt := 212) (off := 116) hx hb dX12_operand_96 (by decide) (by rw [h639]; decide) (by decide) ?_
        refine lv_aload_n hx hb dX12_operand_212 rfl (lv_at hl 2 rfl) ?_
        refine lv_iconst (v := 5) hx hb dX12_operand_213 (by decide) ?_
        refine lv_iload_n hx hb dX12_operand_214 rfl (lv_at hl 1 rfl) ?_
        refine lv_iload_n hx hb dX12_operand_215 rfl (lv_at hl 1 rfl) ?_
        refine lv_iconst (v := (-1)) hx hb dX12_operand_216 (by decide) ?_
        refine lv_iconst (v := (-1)) hx hb dX12_operand_217 (by decide) ?_
        have hP : va_P G.1 pCl (mW G h0 a (upd (upd (upd (upd (upd (upd (upd F 15 0) 27 (nI nd)) 31 (nI wr)) 64 (nI (at0 + 1))) 65 (nI ne)) 66 (nI lk)) 27 (nI nd)) (updA B 2 K)) _ := mW_to (F := F) (l1 := [(15, 0), (27, (nI nd)), (31, (nI wr)), (64, (nI at0)), (65, (nI ne)), (66, (nI lk)), (64, (nI (at0 + 1)))]) (l2 := [(15, 0), (27, (nI nd)), (31, (nI wr)), (64, (nI (at0 + 1))), (65, (nI ne)), (66, (nI lk)), (27, (nI nd))]) (V := [0, (nI nd), (nI wr), (nI (at0 + 1)), (nI ne), (nI lk), (nI (at0 + 1)), 0, (nI nd), (nI wr), (nI (at0 + 1)), (nI ne), (nI lk), (nI nd)]) rfl rfl rfl hP
        have hD : va_D A (mW G h0 a (upd (upd (upd (upd (upd (upd (upd F 15 0) 27 (nI nd)) 31 (nI wr)) 64 (nI (at0 + 1))) 65 (nI ne)) 66 (nI lk)) 27 (nI nd)) (updA B 2 K)) := mW_D hD
        refine pc_V0 (G := G) (As := [.int 5, .int (nI at0), .int (nI at0), .int (-1), .int (-1)]) (rest := []) hx hb hml hown hq hE hX pX0_al hP hD hS hA hl.1 (R_nodeB l G h0 a (upd (upd (upd (upd (upd (upd F 15 0) 27 (nI nd)) 31 (nI wr)) 64 (nI (at0 + 1))) 65 (nI ne)) 66 (nI lk)) B 5 (nI at0) (nI at0) (-1) (-1) nd K (by omega)) (gV pw_1650 pw_1651 pw_1652 pw_1523 pw_1589) hV_X12_node 0 9 rfl rfl rfl rfl (Nat.le_of_ble_eq_true rfl) dX12_operand_218 ⟨Nat.le_of_ble_eq_true rfl, Nat.le_of_ble_eq_true rfl⟩ ⟨(by show 2 + 1 ≤ (20 * n + 10); omega), (by show 8 + (7 + 11) + 60 ≤ (1000 * n + 40 * 10); omega)⟩ (fun v642 u640 H locs hw641 hP hD hS => ?_)
        obtain ⟨X643, rfl⟩ : ∃ z, z = u640 := ⟨_, rfl⟩
        obtain ⟨hw641, h644⟩ := hw641
        have h644 : NewN B X643 nd 5 (nI at0) (nI at0) (-1) (-1) := h644
        obtain rfl : v642 = some (.int (nI nd)) := hw641
        have hP : va_P G.1 pCl (mW G h0 a (upd (upd (upd (upd (upd (upd F 15 0) 27 (nI (nd + 1))) 31 (nI wr)) 64 (nI (at0 + 1))) 65 (nI ne)) 66 (nI lk)) (updA X643 2 K)) _ := mW_to (F := F) (l1 := [(15, 0), (27, (nI nd)), (31, (nI wr)), (64, (nI (at0 + 1))), (65, (nI ne)), (66, (nI lk)), (27, (nI (nd + 1)))]) (l2 := [(15, 0), (27, (nI (nd + 1))), (31, (nI wr)), (64, (nI (at0 + 1))), (65, (nI ne)), (66, (nI lk))]) (V := [0, (nI (nd + 1)), (nI wr), (nI (at0 + 1)), (nI ne), (nI lk), (nI (nd + 1)), 0, (nI (nd + 1)), (nI wr), (nI (at0 + 1)), (nI ne), (nI lk)]) rfl rfl rfl hP
        have hD : va_D A (mW G h0 a (upd (upd (upd (upd (upd (upd F 15 0) 27 (nI (nd + 1))) 31 (nI wr)) 64 (nI (at0 + 1))) 65 (nI ne)) 66 (nI lk)) (updA X643 2 K)) := mW_D hD
        refine W.widen (k := 0) (n := 0) (Nat.le_of_ble_eq_true rfl) (Nat.le_of_ble_eq_true rfl) ?_
        refine W.eq (g2 := F0 m 221 ls [.int (nI nd)]) rfl ?_
        have hkp645 : Kp B X643 wr T := (Kp.new hkp1 h644)
        have hlo646 : Low B X643 nd wr := (Low.new hlo2 h644 (by omega))
        have hf647 : Frs K T wr X643 nd (nd + 1) nd [(nd, 0)] := (Frs.new0 (k := 5) Frs.nil (Nat.le_refl _) (Nat.le_refl _) h644 rfl (by decide) (by decide) (by omega) (by omega) (fun e => absurd e (by decide)) (newOK.m1 (by decide)) (newOK.m1 (by decide)) (newOK.m1 (by decide)) (newOK.m1 (by decide)))
        have hn648 : Nd X643 nd 5 (-1) (-1) (-1) (-1) := (NewN.toNd h644)
        have hf649 : Frs K T wr X643 nd (nd + 1) 20000 [(nd, 0)] := (Frs.fin (k := 5) hf647 hn648 rfl (by decide) (fun h => absurd h (by decide)) (fun h => absurd h (by decide)) (fun h => absurd h (by decide)) (fun h => absurd h (by decide)))
        have hz650 : at0 ≤ (at0 + 1) := (by omega)
        have hz651 : (at0 + 1) ≤ T := (by omega)
        have hz652 : 0 ≤ 100 := (by omega)
        have hz653 : nd ≤ (nd + 1) := (by omega)
        have hz654 : (nd + 1) + 2 * at0 ≤ nd + 2 * (at0 + 1) + 100000 * 0 := (by omega)
        have hz655 : (nd + 1) + 2 * at0 ≤ nd + 2 * (at0 + 1) + 40 * (21 - ne) := (by omega)
        have hz656 : wr ≤ wr := (by omega)
        have hz657 : wr + at0 ≤ wr + (at0 + 1) := (by omega)
        have hz658 : lk ≤ lk := (by omega)
        have hz659 : lk ≤ 60 + 100 * 0 := (by omega)
        have hz660 : at0 + 1 ≤ (at0 + 1) + 0 := (by omega)
        have hz661 : nd ≤ (nd + 1) := (by omega)
        have hz662 : Kp B X643 wr T := hkp645
        have hz663 : If (0 = 0) (Low B X643 nd wr ∧ Frs K T wr X643 nd (nd + 1) 20000 [(nd, (210 + lk - (10 * ne + lk)))] ∧ kcl 1 (X643 9 nd) = true) := (fun _ => ⟨hlo646, Frs.up hf649 (by omega), (by rw [hn648.1]; decide)⟩)
        have hP : va_P G.1 pCl (mW G h0 a (upd (upd (upd (upd (upd (upd (upd F 15 (nI 0)) 16 (F 16)) 27 (nI (nd + 1))) 31 (nI wr)) 64 (nI (at0 + 1))) 65 (nI ne)) 66 (nI lk)) (updA X643 2 K)) _ := mW_to (F := F) (l1 := [(15, 0), (27, (nI (nd + 1))), (31, (nI wr)), (64, (nI (at0 + 1))), (65, (nI ne)), (66, (nI lk))]) (l2 := [(15, (nI 0)), (16, (F 16)), (27, (nI (nd + 1))), (31, (nI wr)), (64, (nI (at0 + 1))), (65, (nI ne)), (66, (nI lk))]) (V := [(nI 0), (nI (nd + 1)), (nI wr), (nI (at0 + 1)), (nI ne), (nI lk), (nI 0), (F 16), (nI (nd + 1)), (nI wr), (nI (at0 + 1)), (nI ne), (nI lk)]) rfl rfl rfl hP
        have hD : va_D A (mW G h0 a (upd (upd (upd (upd (upd (upd (upd F 15 (nI 0)) 16 (F 16)) 27 (nI (nd + 1))) 31 (nI wr)) 64 (nI (at0 + 1))) 65 (nI ne)) 66 (nI lk)) (updA X643 2 K)) := mW_D hD
        exact W.iret (v := (nI nd)) hx hb hr (fun t9 ht9 hW9 => ⟨⟨_, ((at0 + 1), 0, (F 16), (nd + 1), lk, wr, nd, X643), rfl, ⟨rfl, hz650, hz651, hz652, hz653, hz654, hz655, hz656, hz657, hz658, hz659, hz660, hz661, hz662, hz663⟩, by rw [ht9]; exact hP, hD⟩, hS.F ht9⟩) hS.2.2 dX12_operand_221
      by_cases h664 : (K at0) = 335
      · refine lv_lookup (tgt := 182) (off := 86) hx hb dX12_operand_96 (by decide) (by rw [h664]; decide) (by decide) ?_
        refine lv_aload_n hx hb dX12_operand_182 rfl (lv_at hl 2 rfl) ?_
        refine lv_iconst (v := 2) hx hb dX12_operand_183 (by decide) ?_
        refine lv_iload_n hx hb dX12_operand_184 rfl (lv_at hl 1 rfl) ?_
        refine lv_iload_n hx hb dX12_operand_185 rfl (lv_at hl 1 rfl) ?_
        refine lv_iconst (v := (-1)) hx hb dX12_operand_186 (by decide) ?_
        refine lv_iconst (v := (-1)) hx hb dX12_operand_187 (by decide) ?_
        have hP : va_P G.1 pCl (mW G h0 a (upd (upd (upd (upd (upd (upd (upd F 15 0) 27 (nI nd)) 31 (nI wr)) 64 (nI (at0 + 1))) 65 (nI ne)) 66 (nI lk)) 27 (nI nd)) (updA B 2 K)) _ := mW_to (F := F) (l1 := [(15, 0), (27, (nI nd)), (31, (nI wr)), (64, (nI at0)), (65, (nI ne)), (66, (nI lk)), (64, (nI (at0 + 1)))]) (l2 := [(15, 0), (27, (nI nd)), (31, (nI wr)), (64, (nI (at0 + 1))), (65, (nI ne)), (66, (nI lk)), (27, (nI nd))]) (V := [0, (nI nd), (nI wr), (nI (at0 + 1)), (nI ne), (nI lk), (nI (at0 + 1)), 0, (nI nd), (nI wr), (nI (at0 + 1)), (nI ne), (nI lk), (nI nd)]) rfl rfl rfl hP
        have hD : va_D A (mW G h0 a (upd (upd (upd (upd (upd (upd (upd F 15 0) 27 (nI nd)) 31 (nI wr)) 64 (nI (at0 + 1))) 65 (nI ne)) 66 (nI lk)) 27 (nI nd)) (updA B 2 K)) := mW_D hD
        refine pc_V0 (G := G) (As := [.int 2, .int (nI at0), .int (nI at0), .int (-1), .int (-1)]) (rest := []) hx hb hml hown hq hE hX pX0_al hP hD hS hA hl.1 (R_nodeB l G h0 a (upd (upd (upd (upd (upd (upd F 15 0) 27 (nI nd)) 31 (nI wr)) 64 (nI (at0 + 1))) 65 (nI ne)) 66 (nI lk)) B 2 (nI at0) (nI at0) (-1) (-1) nd K (by omega)) (gV pw_1650 pw_1651 pw_1652 pw_1523 pw_1589) hV_X12_node 0 9 rfl rfl rfl rfl (Nat.le_of_ble_eq_true rfl) dX12_operand_188 ⟨Nat.le_of_ble_eq_true rfl, Nat.le_of_ble_eq_true rfl⟩ ⟨(by show 2 + 1 ≤ (20 * n + 10); omega), (by show 8 + (7 + 11) + 60 ≤ (1000 * n + 40 * 10); omega)⟩ (fun v667 u665 H locs hw666 hP hD hS => ?_)
        obtain ⟨X668, rfl⟩ : ∃ z, z = u665 := ⟨_, rfl⟩
        obtain ⟨hw666, h669⟩ := hw666
        have h669 : NewN B X668 nd 2 (nI at0) (nI at0) (-1) (-1) := h669
        obtain rfl : v667 = some (.int (nI nd)) := hw666
        have hP : va_P G.1 pCl (mW G h0 a (upd (upd (upd (upd (upd (upd F 15 0) 27 (nI (nd + 1))) 31 (nI wr)) 64 (nI (at0 + 1))) 65 (nI ne)) 66 (nI lk)) (updA X668 2 K)) _ := mW_to (F := F) (l1 := [(15, 0), (27, (nI nd)), (31, (nI wr)), (64, (nI (at0 + 1))), (65, (nI ne)), (66, (nI lk)), (27, (nI (nd + 1)))]) (l2 := [(15, 0), (27, (nI (nd + 1))), (31, (nI wr)), (64, (nI (at0 + 1))), (65, (nI ne)), (66, (nI lk))]) (V := [0, (nI (nd + 1)), (nI wr), (nI (at0 + 1)), (nI ne), (nI lk), (nI (nd + 1)), 0, (nI (nd + 1)), (nI wr), (nI (at0 + 1)), (nI ne), (nI lk)]) rfl rfl rfl hP
        have hD : va_D A (mW G h0 a (upd (upd (upd (upd (upd (upd F 15 0) 27 (nI (nd + 1))) 31 (nI wr)) 64 (nI (at0 + 1))) 65 (nI ne)) 66 (nI lk)) (updA X668 2 K)) := mW_D hD
        refine W.widen (k := 0) (n := 0) (Nat.le_of_ble_eq_true rfl) (Nat.le_of_ble_eq_true rfl) ?_
        refine W.eq (g2 := F0 m 191 ls [.int (nI nd)]) rfl ?_
        have hkp670 : Kp B X668 wr T := (Kp.new hkp1 h669)
        have hlo671 : Low B X668 nd wr := (Low.new hlo2 h669 (by omega))
        have hf672 : Frs K T wr X668 nd (nd + 1) nd [(nd, 0)] := (Frs.new0 (k := 2) Frs.nil (Nat.le_refl _) (Nat.le_refl _) h669 rfl (by decide) (by decide) (by omega) (by omega) (fun e => absurd e (by decide)) (newOK.m1 (by decide)) (newOK.m1 (by decide)) (newOK.m1 (by decide)) (newOK.m1 (by decide)))
        have hn673 : Nd X668 nd 2 (-1) (-1) (-1) (-1) := (NewN.toNd h669)
        have hf674 : Frs K T wr X668 nd (nd + 1) 20000 [(nd, 0)] := (Frs.fin (k := 2) hf672 hn673 rfl (by decide) (fun h => absurd h (by decide)) (fun h => absurd h (by decide)) (fun h => absurd h (by decide)) (fun h => absurd h (by decide)))
        have hz675 : at0 ≤ (at0 + 1) := (by omega)
        have hz676 : (at0 + 1) ≤ T := (by omega)
        have hz677 : 0 ≤ 100 := (by omega)
        have hz678 : nd ≤ (nd + 1) := (by omega)
        have hz679 : (nd + 1) + 2 * at0 ≤ nd + 2 * (at0 + 1) + 100000 * 0 := (by omega)
        have hz680 : (nd + 1) + 2 * at0 ≤ nd + 2 * (at0 + 1) + 40 * (21 - ne) := (by omega)
        have hz681 : wr ≤ wr := (by omega)
        have hz682 : wr + at0 ≤ wr + (at0 + 1) := (by omega)
        have hz683 : lk ≤ lk := (by omega)
        have hz684 : lk ≤ 60 + 100 * 0 := (by omega)
        have hz685 : at0 + 1 ≤ (at0 + 1) + 0 := (by omega)
        have hz686 : nd ≤ (nd + 1) := (by omega)
        have hz687 : Kp B X668 wr T := hkp670
        have hz688 : If (0 = 0) (Low B X668 nd wr ∧ Frs K T wr X668 nd (nd + 1) 20000 [(nd, (210 + lk - (10 * ne + lk)))] ∧ kcl 1 (X668 9 nd) = true) := (fun _ => ⟨hlo671, Frs.up hf674 (by omega), (by rw [hn673.1]; decide)⟩)
        have hP : va_P G.1 pCl (mW G h0 a (upd (upd (upd (upd (upd (upd (upd F 15 (nI 0)) 16 (F 16)) 27 (nI (nd + 1))) 31 (nI wr)) 64 (nI (at0 + 1))) 65 (nI ne)) 66 (nI lk)) (updA X668 2 K)) _ := mW_to (F := F) (l1 := [(15, 0), (27, (nI (nd + 1))), (31, (nI wr)), (64, (nI (at0 + 1))), (65, (nI ne)), (66, (nI lk))]) (l2 := [(15, (nI 0)), (16, (F 16)), (27, (nI (nd + 1))), (31, (nI wr)), (64, (nI (at0 + 1))), (65, (nI ne)), (66, (nI lk))]) (V := [(nI 0), (nI (nd + 1)), (nI wr), (nI (at0 + 1)), (nI ne), (nI lk), (nI 0), (F 16), (nI (nd + 1)), (nI wr), (nI (at0 + 1)), (nI ne), (nI lk)]) rfl rfl rfl hP
        have hD : va_D A (mW G h0 a (upd (upd (upd (upd (upd (upd (upd F 15 (nI 0)) 16 (F 16)) 27 (nI (nd + 1))) 31 (nI wr)) 64 (nI (at0 + 1))) 65 (nI ne)) 66 (nI lk)) (updA X668 2 K)) := mW_D hD
        exact W.iret (v := (nI nd)) hx hb hr (fun t9 ht9 hW9 => ⟨⟨_, ((at0 + 1), 0, (F 16), (nd + 1), lk, wr, nd, X668), rfl, ⟨rfl, hz675, hz676, hz677, hz678, hz679, hz680, hz681, hz682, hz683, hz684, hz685, hz686, hz687, hz688⟩, by rw [ht9]; exact hP, hD⟩, hS.F ht9⟩) hS.2.2 dX12_operand_191
      refine lv_lookup (tgt := 372) (off := 276) hx hb dX12_operand_96 (by decide) ((lv_osw h18 (by decide)).trans ((lv_osw h122 (by decide)).trans ((lv_osw h147 (by decide)).trans ((lv_osw h172 (by decide)).trans ((lv_osw h197 (by decide)).trans ((lv_osw h434 (by decide)).trans ((lv_osw h639 (by decide)).trans ((lv_osw h664 (by decide)).trans rfl)))))))) (by decide) ?_
      refine lv_aload_n hx hb dX12_operand_372 rfl (lv_at hl 2 rfl) ?_
      refine lv_iload_n hx hb dX12_operand_373 rfl (lv_at hl 1 rfl) ?_
      have hP : va_P G.1 pCl (mW G h0 a (upd (upd (upd (upd (upd (upd (upd (upd (upd (upd (upd (upd F 15 0) 27 (nI nd)) 31 (nI wr)) 64 (nI (at0 + 1))) 65 (nI ne)) 66 (nI lk)) 15 0) 27 (nI nd)) 31 (nI wr)) 64 (nI (at0 + 1))) 65 (nI ne)) 66 (nI lk)) (updA B 2 K)) _ := mW_to (F := F) (l1 := [(15, 0), (27, (nI nd)), (31, (nI wr)), (64, (nI at0)), (65, (nI ne)), (66, (nI lk)), (64, (nI (at0 + 1)))]) (l2 := [(15, 0), (27, (nI nd)), (31, (nI wr)), (64, (nI (at0 + 1))), (65, (nI ne)), (66, (nI lk)), (15, 0), (27, (nI nd)), (31, (nI wr)), (64, (nI (at0 + 1))), (65, (nI ne)), (66, (nI lk))]) (V := [0, (nI nd), (nI wr), (nI (at0 + 1)), (nI ne), (nI lk), (nI (at0 + 1)), 0, (nI nd), (nI wr), (nI (at0 + 1)), (nI ne), (nI lk), 0, (nI nd), (nI wr), (nI (at0 + 1)), (nI ne), (nI lk)]) rfl rfl rfl hP
      have hD : va_D A (mW G h0 a (upd (upd (upd (upd (upd (upd (upd (upd (upd (upd (upd (upd F 15 0) 27 (nI nd)) 31 (nI wr)) 64 (nI (at0 + 1))) 65 (nI ne)) 66 (nI lk)) 15 0) 27 (nI nd)) 31 (nI wr)) 64 (nI (at0 + 1))) 65 (nI ne)) 66 (nI lk)) (updA B 2 K)) := mW_D hD
      refine pc_V0 (G := G) (As := [.int (nI at0)]) (rest := []) hx hb hml hown hq hE hX pX0_al hP hD hS hA hl.1 (hw h0 a (upd (upd (upd (upd (upd (upd F 15 0) 27 (nI nd)) 31 (nI wr)) 64 (nI (at0 + 1))) 65 (nI ne)) 66 (nI lk)) B (at0 + 1) T ne nd wr lk K at0 (by omega) (by omega) hK (by omega) (by omega) (by omega) (by omega) (hkp1).2 (by omega) (by omega)) (gV pw_1678 pw_1679 pw_1680 pw_1523 pw_1673) hV_X12_newHere 0 9 rfl rfl rfl rfl (Nat.le_of_ble_eq_true rfl) dX12_operand_374 ⟨Nat.le_of_ble_eq_true rfl, Nat.le_of_ble_eq_true rfl⟩ ⟨(by show (20 * n + 8) + 1 ≤ (20 * n + 10); omega), (by show 8 + (5 + 11) + (1000 * n + 40 * 8) ≤ (1000 * n + 40 * 10); omega)⟩ (fun v691 u689 H locs hw690 hP hD hS => ?_)
      obtain ⟨at692, fa693, pl694, nd695, lk696, wr697, r698, X699⟩ := u689
      obtain ⟨hw690, h700, h701, h702, h703, h704, h705, h706, h707, h708, h709, h710, h711, h712, h713⟩ := hw690
      have h700 : (at0 + 1) ≤ at692 := h700
      have h701 : at692 ≤ T := h701
      have h702 : fa693 ≤ 100 := h702
      have h703 : nd ≤ nd695 := h703
      have h704 : nd695 + 2 * (at0 + 1) ≤ nd + 2 * at692 + 100000 * fa693 := h704
      have h705 : nd695 + 2 * (at0 + 1) ≤ nd + 2 * at692 + 40 * (21 - ne) := h705
      have h706 : wr ≤ wr697 := h706
      have h707 : wr697 + (at0 + 1) ≤ wr + at692 := h707
      have h708 : lk ≤ lk696 := h708
      have h709 : lk696 ≤ 60 + 100 * fa693 := h709
      have h710 : (at0 + 1) + 1 ≤ at692 + fa693 := h710
      have h711 : r698 ≤ nd695 := h711
      have h712 : Kp B X699 wr697 T := h712
      have h713 : If (fa693 = 0) (Low B X699 nd wr ∧ Frs K T wr697 X699 nd nd695 20000 [(r698, (210 + lk696 - (10 * ne + lk)))] ∧ kcl 1 (X699 9 r698) = true) := h713
      obtain rfl : v691 = some (.int (nI r698)) := hw690
      have hP : va_P G.1 pCl (mW G h0 a (upd (upd (upd (upd (upd (upd (upd F 15 (nI fa693)) 16 pl694) 27 (nI nd695)) 31 (nI wr697)) 64 (nI at692)) 65 (nI ne)) 66 (nI lk696)) (updA X699 2 K)) _ := mW_to (F := F) (l1 := [(15, 0), (27, (nI nd)), (31, (nI wr)), (64, (nI (at0 + 1))), (65, (nI ne)), (66, (nI lk)), (15, (nI fa693)), (16, pl694), (27, (nI nd695)), (31, (nI wr697)), (64, (nI at692)), (65, (nI ne)), (66, (nI lk696))]) (l2 := [(15, (nI fa693)), (16, pl694), (27, (nI nd695)), (31, (nI wr697)), (64, (nI at692)), (65, (nI ne)), (66, (nI lk696))]) (V := [(nI fa693), (nI nd695), (nI wr697), (nI at692), (nI ne), (nI lk696), (nI fa693), pl694, (nI nd695), (nI wr697), (nI at692), (nI ne), (nI lk696), (nI fa693), pl694, (nI nd695), (nI wr697), (nI at692), (nI ne), (nI lk696)]) rfl rfl rfl hP
      have hD : va_D A (mW G h0 a (upd (upd (upd (upd (upd (upd (upd F 15 (nI fa693)) 16 pl694) 27 (nI nd695)) 31 (nI wr697)) 64 (nI at692)) 65 (nI ne)) 66 (nI lk696)) (updA X699 2 K)) := mW_D hD
      refine W.widen (k := 0) (n := 0) (Nat.le_of_ble_eq_true rfl) (Nat.le_of_ble_eq_true rfl) ?_
      refine W.eq (g2 := F0 m 377 ls [.int (nI r698)]) rfl ?_
      have hkp714 : Kp B X699 wr697 T := (Kp.trans hkp1 h712)
      rcases Nat.eq_zero_or_pos fa693 with e715 | e715
      · subst e715
        have hP : va_P G.1 pCl (mW G h0 a (upd (upd (upd (upd (upd (upd (upd F 15 0) 16 pl694) 27 (nI nd695)) 31 (nI wr697)) 64 (nI at692)) 65 (nI ne)) 66 (nI lk696)) (updA X699 2 K)) _ := hP
        have hD : va_D A (mW G h0 a (upd (upd (upd (upd (upd (upd (upd F 15 0) 16 pl694) 27 (nI nd695)) 31 (nI wr697)) 64 (nI at692)) 65 (nI ne)) 66 (nI lk696)) (updA X699 2 K)) := mW_D hD
        obtain ⟨hlw716, hf717, hc718⟩ := h713 rfl
        have hlo719 : Low B X699 nd wr := (Low.trans hlo2 hlw716 (by omega) (by omega))
        have hm720 := Frs.mem hf717
        have hz721 : at0 ≤ at692 := (by omega)
        have hz722 : at692 ≤ T := (by omega)
        have hz723 : 0 ≤ 100 := (by omega)
        have hz724 : nd ≤ nd695 := (by omega)
        have hz725 : nd695 + 2 * at0 ≤ nd + 2 * at692 + 100000 * 0 := (by omega)
        have hz726 : nd695 + 2 * at0 ≤ nd + 2 * at692 + 40 * (21 - ne) := (by omega)
        have hz727 : wr ≤ wr697 := (by omega)
        have hz728 : wr697 + at0 ≤ wr + at692 := (by omega)
        have hz729 : lk ≤ lk696 := (by omega)
        have hz730 : lk696 ≤ 60 + 100 * 0 := (by omega)
        have hz731 : at0 + 1 ≤ at692 + 0 := (by omega)
        have hz732 : r698 ≤ nd695 := (by omega)
        have hz733 : Kp B X699 wr697 T := hkp714
        have hz734 : If (0 = 0) (Low B X699 nd wr ∧ Frs K T wr697 X699 nd nd695 20000 [(r698, (210 + lk696 - (10 * ne + lk)))] ∧ kcl 1 (X699 9 r698) = true) := (fun _ => ⟨hlo719, Frs.up hf717 (by omega), hc718⟩)
        have hP : va_P G.1 pCl (mW G h0 a (upd (upd (upd (upd (upd (upd (upd F 15 (nI 0)) 16 pl694) 27 (nI nd695)) 31 (nI wr697)) 64 (nI at692)) 65 (nI ne)) 66 (nI lk696)) (updA X699 2 K)) _ := mW_to (F := F) (l1 := [(15, 0), (16, pl694), (27, (nI nd695)), (31, (nI wr697)), (64, (nI at692)), (65, (nI ne)), (66, (nI lk696))]) (l2 := [(15, (nI 0)), (16, pl694), (27, (nI nd695)), (31, (nI wr697)), (64, (nI at692)), (65, (nI ne)), (66, (nI lk696))]) (V := [(nI 0), pl694, (nI nd695), (nI wr697), (nI at692), (nI ne), (nI lk696), (nI 0), pl694, (nI nd695), (nI wr697), (nI at692), (nI ne), (nI lk696)]) rfl rfl rfl hP
        have hD : va_D A (mW G h0 a (upd (upd (upd (upd (upd (upd (upd F 15 (nI 0)) 16 pl694) 27 (nI nd695)) 31 (nI wr697)) 64 (nI at692)) 65 (nI ne)) 66 (nI lk696)) (updA X699 2 K)) := mW_D hD
        exact W.iret (v := (nI r698)) hx hb hr (fun t9 ht9 hW9 => ⟨⟨_, (at692, 0, pl694, nd695, lk696, wr697, r698, X699), rfl, ⟨rfl, hz721, hz722, hz723, hz724, hz725, hz726, hz727, hz728, hz729, hz730, hz731, hz732, hz733, hz734⟩, by rw [ht9]; exact hP, hD⟩, hS.F ht9⟩) hS.2.2 dX12_operand_377
      · have e715 := e715
        have hz735 : at0 ≤ at692 := (by omega)
        have hz736 : at692 ≤ T := (by omega)
        have hz737 : fa693 ≤ 100 := (by omega)
        have hz738 : nd ≤ nd695 := (by omega)
        have hz739 : nd695 + 2 * at0 ≤ nd + 2 * at692 + 100000 * fa693 := (by omega)
        have hz740 : nd695 + 2 * at0 ≤ nd + 2 * at692 + 40 * (21 - ne) := (by omega)
        have hz741 : wr ≤ wr697 := (by omega)
        have hz742 : wr697 + at0 ≤ wr + at692 := (by omega)
        have hz743 : lk ≤ lk696 := (by omega)
        have hz744 : lk696 ≤ 60 + 100 * fa693 := (by omega)
        have hz745 : at0 + 1 ≤ at692 + fa693 := (by omega)
        have hz746 : r698 ≤ nd695 := (by omega)
        have hz747 : Kp B X699 wr697 T := hkp714
        have hz748 : If (fa693 = 0) (Low B X699 nd wr ∧ Frs K T wr697 X699 nd nd695 20000 [(r698, (210 + lk696 - (10 * ne + lk)))] ∧ kcl 1 (X699 9 r698) = true) := (fun e => absurd e (by omega))
        have hP : va_P G.1 pCl (mW G h0 a (upd (upd (upd (upd (upd (upd (upd F 15 (nI fa693)) 16 pl694) 27 (nI nd695)) 31 (nI wr697)) 64 (nI at692)) 65 (nI ne)) 66 (nI lk696)) (updA X699 2 K)) _ := hP
        have hD : va_D A (mW G h0 a (upd (upd (upd (upd (upd (upd (upd F 15 (nI fa693)) 16 pl694) 27 (nI nd695)) 31 (nI wr697)) 64 (nI at692)) 65 (nI ne)) 66 (nI lk696)) (updA X699 2 K)) := mW_D hD
        exact W.iret (v := (nI r698)) hx hb hr (fun t9 ht9 hW9 => ⟨⟨_, (at692, fa693, pl694, nd695, lk696, wr697, r698, X699), rfl, ⟨rfl, hz735, hz736, hz737, hz738, hz739, hz740, hz741, hz742, hz743, hz744, hz745, hz746, hz747, hz748⟩, by rw [ht9]; exact hP, hD⟩, hS.F ht9⟩) hS.2.2 dX12_operand_377
    · refine lv_aload_n hx hb dX12_operand_39 rfl (lv_at hl 2 rfl) ?_
      have hP : va_P G.1 pCl (mW G h0 a (upd (upd (upd (upd (upd (upd (upd (upd (upd F 15 0) 27 (nI nd)) 31 (nI wr)) 64 (nI at0)) 65 (nI ne)) 66 (nI lk)) 15 (nI 0)) 64 (nI at0)) 65 (nI ne)) (updA (updA B 2 K) 2 K)) _ := mW_to (F := F) (l1 := [(15, 0), (27, (nI nd)), (31, (nI wr)), (64, (nI at0)), (65, (nI ne)), (66, (nI lk))]) (l2 := [(15, 0), (27, (nI nd)), (31, (nI wr)), (64, (nI at0)), (65, (nI ne)), (66, (nI lk)), (15, (nI 0)), (64, (nI at0)), (65, (nI ne))]) (V := [(nI 0), (nI nd), (nI wr), (nI at0), (nI ne), (nI lk), (nI 0), (nI nd), (nI wr), (nI at0), (nI ne), (nI lk), (nI 0), (nI at0), (nI ne)]) rfl rfl (show (updA B 2 K) = (updA (updA B 2 K) 2 K) from updsA_eq2 (F := B) (l1 := [(2, K)]) (l2 := [(2, K), (2, K)]) (V := [K, K, K]) rfl rfl) hP
      have hD : va_D A (mW G h0 a (upd (upd (upd (upd (upd (upd (upd (upd (upd F 15 0) 27 (nI nd)) 31 (nI wr)) 64 (nI at0)) 65 (nI ne)) 66 (nI lk)) 15 (nI 0)) 64 (nI at0)) 65 (nI ne)) (updA (updA B 2 K) 2 K)) := mW_D hD
      refine pc_V0 (G := G) (As := []) (rest := []) hx hb hml hown hq hE hX pX0_al hP hD hS hA hl.1 (R_deeper l G h0 a (upd (upd (upd (upd (upd (upd F 15 0) 27 (nI nd)) 31 (nI wr)) 64 (nI at0)) 65 (nI ne)) 66 (nI lk)) (updA B 2 K) at0 T 0 K ne (by omega) (by omega) hK (by omega) (by omega)) (gV pw_1637 pw_1638 pw_1639 pw_1523 pw_1611) hV_X12_deeper 0 9 rfl rfl rfl rfl (Nat.le_of_ble_eq_true rfl) dX12_operand_40 ⟨Nat.le_of_ble_eq_true rfl, Nat.le_of_ble_eq_true rfl⟩ ⟨(by show 4 + 1 ≤ (20 * n + 10); omega), (by show 8 + (1 + 11) + 103 ≤ (1000 * n + 40 * 10); omega)⟩ (fun v751 u749 H locs hw750 hP hD hS => ?_)
      obtain ⟨fa752, pl753⟩ := u749
      obtain ⟨hw750, h754, h755, h756, h757⟩ := hw750
      have h754 : 0 ≤ fa752 := h754
      have h755 : fa752 ≤ 100 := h755
      have h756 : If (0 < 0) (fa752 = 0) := h756
      have h757 : If (ne ≤ 20) (ne + 1 ≤ 20 + fa752) := h757
      obtain rfl : v751 = none := hw750
      have hP : va_P G.1 pCl (mW G h0 a (upd (upd (upd (upd (upd (upd (upd F 15 (nI fa752)) 16 pl753) 27 (nI nd)) 31 (nI wr)) 64 (nI at0)) 65 (nI (ne + 1))) 66 (nI lk)) (updA B 2 K)) _ := mW_to (F := F) (l1 := [(15, 0), (27, (nI nd)), (31, (nI wr)), (64, (nI at0)), (65, (nI ne)), (66, (nI lk)), (15, (nI fa752)), (16, pl753), (64, (nI at0)), (65, (nI (ne + 1)))]) (l2 := [(15, (nI fa752)), (16, pl753), (27, (nI nd)), (31, (nI wr)), (64, (nI at0)), (65, (nI (ne + 1))), (66, (nI lk))]) (V := [(nI fa752), (nI nd), (nI wr), (nI at0), (nI (ne + 1)), (nI lk), (nI fa752), pl753, (nI at0), (nI (ne + 1)), (nI fa752), pl753, (nI nd), (nI wr), (nI at0), (nI (ne + 1)), (nI lk)]) rfl rfl (show (updA (updA B 2 K) 2 K) = (updA B 2 K) from updsA_eq2 (F := B) (l1 := [(2, K), (2, K)]) (l2 := [(2, K)]) (V := [K, K, K]) rfl rfl) hP
      have hD : va_D A (mW G h0 a (upd (upd (upd (upd (upd (upd (upd F 15 (nI fa752)) 16 pl753) 27 (nI nd)) 31 (nI wr)) 64 (nI at0)) 65 (nI (ne + 1))) 66 (nI lk)) (updA B 2 K)) := mW_D hD
      refine W.widen (k := 0) (n := 0) (Nat.le_of_ble_eq_true rfl) (Nat.le_of_ble_eq_true rfl) ?_
      refine W.eq (g2 := F0 m 43 ls []) rfl ?_
      rcases Nat.eq_zero_or_pos fa752 with e758 | e758
      · subst e758
        have hP : va_P G.1 pCl (mW G h0 a (upd (upd (upd (upd (upd (upd (upd F 15 0) 16 pl753) 27 (nI nd)) 31 (nI wr)) 64 (nI at0)) 65 (nI (ne + 1))) 66 (nI lk)) (updA B 2 K)) _ := hP
        have hD : va_D A (mW G h0 a (upd (upd (upd (upd (upd (upd (upd F 15 0) 16 pl753) 27 (nI nd)) 31 (nI wr)) 64 (nI at0)) 65 (nI (ne + 1))) 66 (nI lk)) (updA B 2 K)) := mW_D hD
        have n759 : ne + 1 ≤ 20 := (h757 (by omega))
        refine lv_aload_n hx hb dX12_operand_43 rfl (lv_at hl 2 rfl) ?_
        refine lv_dup hx hb dX12_operand_44 rfl ?_
        refine r_get (v := .int (nI at0)) hx hb hown hq hE hP 64 343 tFX12_64 (by decide) pw_1592 rfl dX12_operand_45 ?_
        refine lv_iconst (v := 1) hx hb dX12_operand_48 (by decide) ?_
        refine lv_iadd hx hb dX12_operand_49 ?_
        refine lv_topi (fun x760 e761 => ?_)
        obtain rfl : x760 = nI (at0 + 1) := e761.trans (nI_add (at0) (1))
        refine r_put (v := (nI (at0 + 1))) (ty := .int) hx hb hown hq hE hP hD hS 64 343 tFX12_64 (by decide) pw_1592 (by decide) rfl rfl (ms_64 a _ _) dX12_operand_50 (fun H locs hP hD hS => ?_)
        refine lv_aload_n hx hb dX12_operand_53 rfl (lv_at hl 2 rfl) ?_
        refine lv_bipush (v := 16) hx hb dX12_operand_54 (by decide) ?_
        refine lv_iload_n hx hb dX12_operand_56 rfl (lv_at hl 1 rfl) ?_
        refine lv_iload_n hx hb dX12_operand_57 rfl (lv_at hl 1 rfl) ?_
        refine lv_aload_n hx hb dX12_operand_58 rfl (lv_at hl 2 rfl) ?_
        have hP : va_P G.1 pCl (mW G h0 a (upd (upd (upd (upd (upd (upd (upd (upd (upd (upd (upd (upd (upd F 15 0) 16 pl753) 27 (nI nd)) 31 (nI wr)) 64 (nI (at0 + 1))) 65 (nI (ne + 1))) 66 (nI lk)) 15 0) 27 (nI nd)) 31 (nI wr)) 64 (nI (at0 + 1))) 65 (nI (ne + 1))) 66 (nI lk)) (updA B 2 K)) _ := mW_to (F := F) (l1 := [(15, 0), (16, pl753), (27, (nI nd)), (31, (nI wr)), (64, (nI at0)), (65, (nI (ne + 1))), (66, (nI lk)), (64, (nI (at0 + 1)))]) (l2 := [(15, 0), (16, pl753), (27, (nI nd)), (31, (nI wr)), (64, (nI (at0 + 1))), (65, (nI (ne + 1))), (66, (nI lk)), (15, 0), (27, (nI nd)), (31, (nI wr)), (64, (nI (at0 + 1))), (65, (nI (ne + 1))), (66, (nI lk))]) (V := [0, pl753, (nI nd), (nI wr), (nI (at0 + 1)), (nI (ne + 1)), (nI lk), (nI (at0 + 1)), 0, pl753, (nI nd), (nI wr), (nI (at0 + 1)), (nI (ne + 1)), (nI lk), 0, (nI nd), (nI wr), (nI (at0 + 1)), (nI (ne + 1)), (nI lk)]) rfl rfl rfl hP
        have hD : va_D A (mW G h0 a (upd (upd (upd (upd (upd (upd (upd (upd (upd (upd (upd (upd (upd F 15 0) 16 pl753) 27 (nI nd)) 31 (nI wr)) 64 (nI (at0 + 1))) 65 (nI (ne + 1))) 66 (nI lk)) 15 0) 27 (nI nd)) 31 (nI wr)) 64 (nI (at0 + 1))) 65 (nI (ne + 1))) 66 (nI lk)) (updA B 2 K)) := mW_D hD
        refine pc_V0 (G := G) (As := []) (rest := [.int (nI at0), .int (nI at0), .int 16, .ref h0]) hx hb hml hown hq hE hX pX0_al hP hD hS hA hl.1 (ihc h0 a (upd (upd (upd (upd (upd (upd (upd F 15 0) 16 pl753) 27 (nI nd)) 31 (nI wr)) 64 (nI (at0 + 1))) 65 (nI (ne + 1))) 66 (nI lk)) B (at0 + 1) T (ne + 1) nd wr lk K (by omega) (by omega) hK (by omega) (by omega) (by omega) (by omega) (hkp1).2 (by omega)) (gV pw_1640 pw_1641 pw_1642 pw_1523 pw_1656) hV_X12_choice 0 9 rfl rfl rfl rfl (Nat.le_of_ble_eq_true rfl) dX12_operand_59 ⟨Nat.le_of_ble_eq_true rfl, Nat.le_of_ble_eq_true rfl⟩ ⟨(by show (20 * (n - 1) + 27) + 1 ≤ (20 * n + 10); omega), (by show 8 + (4 + 11) + (1000 * (n - 1) + 40 * 27) ≤ (1000 * n + 40 * 10); omega)⟩ (fun v764 u762 H locs hw763 hP hD hS => ?_)
        obtain ⟨at765, fa766, pl767, nd768, lk769, wr770, r771, X772⟩ := u762
        obtain ⟨hw763, h773, h774, h775, h776, h777, h778, h779, h780, h781, h782, h783, h784, h785, h786⟩ := hw763
        have h773 : (at0 + 1) ≤ at765 := h773
        have h774 : at765 ≤ T := h774
        have h775 : fa766 ≤ 100 := h775
        have h776 : nd ≤ nd768 := h776
        have h777 : nd768 + 2 * (at0 + 1) ≤ nd + 2 * at765 + 100000 * fa766 := h777
        have h778 : nd768 + 2 * (at0 + 1) ≤ nd + 2 * at765 + 40 * (21 - (ne + 1)) := h778
        have h779 : wr ≤ wr770 := h779
        have h780 : wr770 + (at0 + 1) ≤ wr + at765 := h780
        have h781 : lk ≤ lk769 := h781
        have h782 : lk769 ≤ 60 + 100 * fa766 := h782
        have h783 : (at0 + 1) + 1 ≤ at765 + fa766 := h783
        have h784 : r771 ≤ nd768 := h784
        have h785 : Kp B X772 wr770 T := h785
        have h786 : If (fa766 = 0) (Low B X772 nd wr ∧ Frs K T wr770 X772 nd nd768 20000 [(r771, (211 + lk769 - (10 * (ne + 1) + lk)))] ∧ kcl 1 (X772 9 r771) = true) := h786
        obtain rfl : v764 = some (.int (nI r771)) := hw763
        have hP : va_P G.1 pCl (mW G h0 a (upd (upd (upd (upd (upd (upd (upd F 15 (nI fa766)) 16 pl767) 27 (nI nd768)) 31 (nI wr770)) 64 (nI at765)) 65 (nI (ne + 1))) 66 (nI lk769)) (updA X772 2 K)) _ := mW_to (F := F) (l1 := [(15, 0), (16, pl753), (27, (nI nd)), (31, (nI wr)), (64, (nI (at0 + 1))), (65, (nI (ne + 1))), (66, (nI lk)), (15, (nI fa766)), (16, pl767), (27, (nI nd768)), (31, (nI wr770)), (64, (nI at765)), (65, (nI (ne + 1))), (66, (nI lk769))]) (l2 := [(15, (nI fa766)), (16, pl767), (27, (nI nd768)), (31, (nI wr770)), (64, (nI at765)), (65, (nI (ne + 1))), (66, (nI lk769))]) (V := [(nI fa766), pl767, (nI nd768), (nI wr770), (nI at765), (nI (ne + 1)), (nI lk769), (nI fa766), pl767, (nI nd768), (nI wr770), (nI at765), (nI (ne + 1)), (nI lk769), (nI fa766), pl767, (nI nd768), (nI wr770), (nI at765), (nI (ne + 1)), (nI lk769)]) rfl rfl rfl hP
        have hD : va_D A (mW G h0 a (upd (upd (upd (upd (upd (upd (upd F 15 (nI fa766)) 16 pl767) 27 (nI nd768)) 31 (nI wr770)) 64 (nI at765)) 65 (nI (ne + 1))) 66 (nI lk769)) (updA X772 2 K)) := mW_D hD
        refine W.widen (k := 0) (n := 0) (Nat.le_of_ble_eq_true rfl) (Nat.le_of_ble_eq_true rfl) ?_
        refine W.eq (g2 := F0 m 62 ls [.int (nI r771), .int (nI at0), .int (nI at0), .int 16, .ref h0]) rfl ?_
        have hkp787 : Kp B X772 wr770 T := (Kp.trans hkp1 h785)
        rcases Nat.eq_zero_or_pos fa766 with e788 | e788
        · subst e788
          have hP : va_P G.1 pCl (mW G h0 a (upd (upd (upd (upd (upd (upd (upd F 15 0) 16 pl767) 27 (nI nd768)) 31 (nI wr770)) 64 (nI at765)) 65 (nI (ne + 1))) 66 (nI lk769)) (updA X772 2 K)) _ := hP
          have hD : va_D A (mW G h0 a (upd (upd (upd (upd (upd (upd (upd F 15 0) 16 pl767) 27 (nI nd768)) 31 (nI wr770)) 64 (nI at765)) 65 (nI (ne + 1))) 66 (nI lk769)) (updA X772 2 K)) := mW_D hD
          obtain ⟨hlw789, hf790, hc791⟩ := h786 rfl
          have hlo792 : Low B X772 nd wr := (Low.trans hlo2 hlw789 (by omega) (by omega))
          have hm793 := Frs.mem hf790
          refine lv_iconst (v := (-1)) hx hb dX12_operand_62 (by decide) ?_
          have hP : va_P G.1 pCl (mW G h0 a (upd (upd (upd (upd (upd (upd (upd (upd F 15 0) 16 pl767) 27 (nI nd768)) 31 (nI wr770)) 64 (nI at765)) 65 (nI (ne + 1))) 66 (nI lk769)) 27 (nI nd768)) (updA X772 2 K)) _ := mW_to (F := F) (l1 := [(15, 0), (16, pl767), (27, (nI nd768)), (31, (nI wr770)), (64, (nI at765)), (65, (nI (ne + 1))), (66, (nI lk769))]) (l2 := [(15, 0), (16, pl767), (27, (nI nd768)), (31, (nI wr770)), (64, (nI at765)), (65, (nI (ne + 1))), (66, (nI lk769)), (27, (nI nd768))]) (V := [0, pl767, (nI nd768), (nI wr770), (nI at765), (nI (ne + 1)), (nI lk769), 0, pl767, (nI nd768), (nI wr770), (nI at765), (nI (ne + 1)), (nI lk769), (nI nd768)]) rfl rfl rfl hP
          have hD : va_D A (mW G h0 a (upd (upd (upd (upd (upd (upd (upd (upd F 15 0) 16 pl767) 27 (nI nd768)) 31 (nI wr770)) 64 (nI at765)) 65 (nI (ne + 1))) 66 (nI lk769)) 27 (nI nd768)) (updA X772 2 K)) := mW_D hD
          refine pc_V0 (G := G) (As := [.int 16, .int (nI at0), .int (nI at0), .int (nI r771), .int (-1)]) (rest := []) hx hb hml hown hq hE hX pX0_al hP hD hS hA hl.1 (R_nodeB l G h0 a (upd (upd (upd (upd (upd (upd (upd F 15 0) 16 pl767) 27 (nI nd768)) 31 (nI wr770)) 64 (nI at765)) 65 (nI (ne + 1))) 66 (nI lk769)) X772 16 (nI at0) (nI at0) (nI r771) (-1) nd768 K (by omega)) (gV pw_1650 pw_1651 pw_1652 pw_1523 pw_1589) hV_X12_node 0 9 rfl rfl rfl rfl (Nat.le_of_ble_eq_true rfl) dX12_operand_63 ⟨Nat.le_of_ble_eq_true rfl, Nat.le_of_ble_eq_true rfl⟩ ⟨(by show 2 + 1 ≤ (20 * n + 10); omega), (by show 8 + (7 + 11) + 60 ≤ (1000 * n + 40 * 10); omega)⟩ (fun v796 u794 H locs hw795 hP hD hS => ?_)
          obtain ⟨X797, rfl⟩ : ∃ z, z = u794 := ⟨_, rfl⟩
          obtain ⟨hw795, h798⟩ := hw795
          have h798 : NewN X772 X797 nd768 16 (nI at0) (nI at0) (nI r771) (-1) := h798
          obtain rfl : v796 = some (.int (nI nd768)) := hw795
          have hP : va_P G.1 pCl (mW G h0 a (upd (upd (upd (upd (upd (upd (upd F 15 0) 16 pl767) 27 (nI (nd768 + 1))) 31 (nI wr770)) 64 (nI at765)) 65 (nI (ne + 1))) 66 (nI lk769)) (updA X797 2 K)) _ := mW_to (F := F) (l1 := [(15, 0), (16, pl767), (27, (nI nd768)), (31, (nI wr770)), (64, (nI at765)), (65, (nI (ne + 1))), (66, (nI lk769)), (27, (nI (nd768 + 1)))]) (l2 := [(15, 0), (16, pl767), (27, (nI (nd768 + 1))), (31, (nI wr770)), (64, (nI at765)), (65, (nI (ne + 1))), (66, (nI lk769))]) (V := [0, pl767, (nI (nd768 + 1)), (nI wr770), (nI at765), (nI (ne + 1)), (nI lk769), (nI (nd768 + 1)), 0, pl767, (nI (nd768 + 1)), (nI wr770), (nI at765), (nI (ne + 1)), (nI lk769)]) rfl rfl rfl hP
          have hD : va_D A (mW G h0 a (upd (upd (upd (upd (upd (upd (upd F 15 0) 16 pl767) 27 (nI (nd768 + 1))) 31 (nI wr770)) 64 (nI at765)) 65 (nI (ne + 1))) 66 (nI lk769)) (updA X797 2 K)) := mW_D hD
          refine W.widen (k := 0) (n := 0) (Nat.le_of_ble_eq_true rfl) (Nat.le_of_ble_eq_true rfl) ?_
          refine W.eq (g2 := F0 m 66 ls [.int (nI nd768)]) rfl ?_
          have hkp799 : Kp B X797 wr770 T := (Kp.new hkp787 h798)
          have hlo800 : Low B X797 nd wr := (Low.new hlo792 h798 (by omega))
          have hc801 : kcl 1 (X797 9 r771) = true := by rw [h798.2.1 9 r771 (by omega)]; exact hc791
          have hf802 : Frs K T wr770 X797 nd (nd768 + 1) nd768 [(nd768, (210 + lk769 - (10 * ne + lk)))] := (Frs.new1 (k := 16) hf790 (by omega) (by omega) (by omega) h798 rfl rfl (by decide) (by decide) (by omega) (by omega) (by decide) (by simp) ⟨by decide, by decide, by decide, by decide⟩ hc791 (newOK.m1 (by decide)) (newOK.m1 (by decide)) (newOK.m1 (by decide)) (by omega))
          have hn803 : Nd X797 nd768 16 (nI r771) (-1) (-1) (-1) := (NewN.toNd h798)
          have hf804 : Frs K T wr770 X797 nd (nd768 + 1) 20000 [(nd768, (210 + lk769 - (10 * ne + lk)))] := (Frs.fin (k := 16) hf802 hn803 rfl (by decide) (fun _ => nI_m1 (by omega)) (fun h => absurd h (by decide)) (fun h => absurd h (by decide)) (fun h => absurd h (by decide)))
          refine lv_istore_n (lv' := [(3, .int (nI nd768)), (2, .int (K at0)), (1, .int (nI at0)), (0, .ref h0)]) hx hb dX12_operand_66 rfl hl (by decide) rfl (fun ls hl => ?_)
          refine lv_aload_n hx hb dX12_operand_67 rfl (lv_at hl 3 rfl) ?_
          refine lv_bipush (v := 41) hx hb dX12_operand_68 (by decide) ?_
          have hP : va_P G.1 pCl (mW G h0 a (upd (upd (upd (upd (upd (upd (upd (upd (upd F 15 0) 16 pl767) 27 (nI (nd768 + 1))) 31 (nI wr770)) 64 (nI at765)) 65 (nI (ne + 1))) 66 (nI lk769)) 15 (nI 0)) 64 (nI at765)) (updA (updA X797 2 K) 2 K)) _ := mW_to (F := F) (l1 := [(15, 0), (16, pl767), (27, (nI (nd768 + 1))), (31, (nI wr770)), (64, (nI at765)), (65, (nI (ne + 1))), (66, (nI lk769))]) (l2 := [(15, 0), (16, pl767), (27, (nI (nd768 + 1))), (31, (nI wr770)), (64, (nI at765)), (65, (nI (ne + 1))), (66, (nI lk769)), (15, (nI 0)), (64, (nI at765))]) (V := [(nI 0), pl767, (nI (nd768 + 1)), (nI wr770), (nI at765), (nI (ne + 1)), (nI lk769), (nI 0), pl767, (nI (nd768 + 1)), (nI wr770), (nI at765), (nI (ne + 1)), (nI lk769), (nI 0), (nI at765)]) rfl rfl (show (updA X797 2 K) = (updA (updA X797 2 K) 2 K) from updsA_eq2 (F := X797) (l1 := [(2, K)]) (l2 := [(2, K), (2, K)]) (V := [K, K, K]) rfl rfl) hP
          have hD : va_D A (mW G h0 a (upd (upd (upd (upd (upd (upd (upd (upd (upd F 15 0) 16 pl767) 27 (nI (nd768 + 1))) 31 (nI wr770)) 64 (nI at765)) 65 (nI (ne + 1))) 66 (nI lk769)) 15 (nI 0)) 64 (nI at765)) (updA (updA X797 2 K) 2 K)) := mW_D hD
          refine pc_V0 (G := G) (As := [.int 41]) (rest := []) hx hb hml hown hq hE hX pX0_al hP hD hS hA hl.1 (R_take l G h0 a (upd (upd (upd (upd (upd (upd (upd F 15 0) 16 pl767) 27 (nI (nd768 + 1))) 31 (nI wr770)) 64 (nI at765)) 65 (nI (ne + 1))) 66 (nI lk769)) (updA X797 2 K) at765 T 0 K 41 (by omega) (by omega) hK (by omega) (by decide) (by decide)) (gV pw_1614 pw_1615 pw_1616 pw_1523 pw_1601) hV_X12_take 0 9 rfl rfl rfl rfl (Nat.le_of_ble_eq_true rfl) dX12_operand_70 ⟨Nat.le_of_ble_eq_true rfl, Nat.le_of_ble_eq_true rfl⟩ ⟨(by show 4 + 1 ≤ (20 * n + 10); omega), (by show 8 + (2 + 11) + 103 ≤ (1000 * n + 40 * 10); omega)⟩ (fun v807 u805 H locs hw806 hP hD hS => ?_)
          obtain ⟨at808, fa809, pl810⟩ := u805
          obtain ⟨hw806, h811, h812, h813, h814, h815, h816, h817, h818⟩ := hw806
          have h811 : at765 ≤ at808 := h811
          have h812 : at808 ≤ T := h812
          have h813 : 0 ≤ fa809 := h813
          have h814 : fa809 ≤ 100 := h814
          have h815 : If (0 < 0) (at808 = at765 ∧ fa809 = 0) := h815
          have h816 : at808 ≤ at765 + 1 := h816
          have h817 : at765 + 1 ≤ at808 + fa809 := h817
          have h818 : If (fa809 = 0) (K at765 = 41) := h818
          obtain rfl : v807 = none := hw806
          have hP : va_P G.1 pCl (mW G h0 a (upd (upd (upd (upd (upd (upd (upd F 15 (nI fa809)) 16 pl810) 27 (nI (nd768 + 1))) 31 (nI wr770)) 64 (nI at808)) 65 (nI (ne + 1))) 66 (nI lk769)) (updA X797 2 K)) _ := mW_to (F := F) (l1 := [(15, 0), (16, pl767), (27, (nI (nd768 + 1))), (31, (nI wr770)), (64, (nI at765)), (65, (nI (ne + 1))), (66, (nI lk769)), (15, (nI fa809)), (16, pl810), (64, (nI at808))]) (l2 := [(15, (nI fa809)), (16, pl810), (27, (nI (nd768 + 1))), (31, (nI wr770)), (64, (nI at808)), (65, (nI (ne + 1))), (66, (nI lk769))]) (V := [(nI fa809), pl810, (nI (nd768 + 1)), (nI wr770), (nI at808), (nI (ne + 1)), (nI lk769), (nI fa809), pl810, (nI at808), (nI fa809), pl810, (nI (nd768 + 1)), (nI wr770), (nI at808), (nI (ne + 1)), (nI lk769)]) rfl rfl (show (updA (updA X797 2 K) 2 K) = (updA X797 2 K) from updsA_eq2 (F := X797) (l1 := [(2, K), (2, K)]) (l2 := [(2, K)]) (V := [K, K, K]) rfl rfl) hP
          have hD : va_D A (mW G h0 a (upd (upd (upd (upd (upd (upd (upd F 15 (nI fa809)) 16 pl810) 27 (nI (nd768 + 1))) 31 (nI wr770)) 64 (nI at808)) 65 (nI (ne + 1))) 66 (nI lk769)) (updA X797 2 K)) := mW_D hD
          refine W.widen (k := 0) (n := 0) (Nat.le_of_ble_eq_true rfl) (Nat.le_of_ble_eq_true rfl) ?_
          refine W.eq (g2 := F0 m 73 ls []) rfl ?_
          rcases Nat.eq_zero_or_pos fa809 with e819 | e819
          · subst e819
            have hP : va_P G.1 pCl (mW G h0 a (upd (upd (upd (upd (upd (upd (upd F 15 0) 16 pl810) 27 (nI (nd768 + 1))) 31 (nI wr770)) 64 (nI at808)) 65 (nI (ne + 1))) 66 (nI lk769)) (updA X797 2 K)) _ := hP
            have hD : va_D A (mW G h0 a (upd (upd (upd (upd (upd (upd (upd F 15 0) 16 pl810) 27 (nI (nd768 + 1))) 31 (nI wr770)) 64 (nI at808)) 65 (nI (ne + 1))) 66 (nI lk769)) (updA X797 2 K)) := mW_D hD
            refine lv_aload_n hx hb dX12_operand_73 rfl (lv_at hl 3 rfl) ?_
            refine lv_dup hx hb dX12_operand_74 rfl ?_
            refine r_get (v := .int (nI (ne + 1))) hx hb hown hq hE hP 65 366 tFX12_65 (by decide) pw_1612 rfl dX12_operand_75 ?_
            refine lv_iconst (v := 1) hx hb dX12_operand_78 (by decide) ?_
            refine lv_isub hx hb dX12_operand_79 ?_
            refine lv_topi (fun x820 e821 => ?_)
            obtain rfl : x820 = nI ((ne + 1) - 1) := e821.trans (nI_subN (a := 1) (b := (ne + 1)) (by omega))
            refine r_put (v := (nI ((ne + 1) - 1))) (ty := .int) hx hb hown hq hE hP hD hS 65 366 tFX12_65 (by decide) pw_1612 (by decide) rfl rfl (ms_65 a _ _) dX12_operand_80 (fun H locs hP hD hS => ?_)
            refine lv_iload_n hx hb dX12_operand_83 rfl (lv_at hl 0 rfl) ?_
            have hz822 : at0 ≤ at808 := (by omega)
            have hz823 : at808 ≤ T := (by omega)
            have hz824 : 0 ≤ 100 := (by omega)
            have hz825 : nd ≤ (nd768 + 1) := (by omega)
            have hz826 : (nd768 + 1) + 2 * at0 ≤ nd + 2 * at808 + 100000 * 0 := (by omega)
            have hz827 : (nd768 + 1) + 2 * at0 ≤ nd + 2 * at808 + 40 * (21 - ne) := (by omega)
            have hz828 : wr ≤ wr770 := (by omega)
            have hz829 : wr770 + at0 ≤ wr + at808 := (by omega)
            have hz830 : lk ≤ lk769 := (by omega)
            have hz831 : lk769 ≤ 60 + 100 * 0 := (by omega)
            have hz832 : at0 + 1 ≤ at808 + 0 := (by omega)
            have hz833 : nd768 ≤ (nd768 + 1) := (by omega)
            have hz834 : Kp B X797 wr770 T := hkp799
            have hz835 : If (0 = 0) (Low B X797 nd wr ∧ Frs K T wr770 X797 nd (nd768 + 1) 20000 [(nd768, (210 + lk769 - (10 * ne + lk)))] ∧ kcl 1 (X797 9 nd768) = true) := (fun _ => ⟨hlo800, Frs.up hf804 (by omega), (by rw [hn803.1]; decide)⟩)
            have hP : va_P G.1 pCl (mW G h0 a (upd (upd (upd (upd (upd (upd (upd F 15 (nI 0)) 16 pl810) 27 (nI (nd768 + 1))) 31 (nI wr770)) 64 (nI at808)) 65 (nI ne)) 66 (nI lk769)) (updA X797 2 K)) _ := mW_to (F := F) (l1 := [(15, 0), (16, pl810), (27, (nI (nd768 + 1))), (31, (nI wr770)), (64, (nI at808)), (65, (nI (ne + 1))), (66, (nI lk769)), (65, (nI ((ne + 1) - 1)))]) (l2 := [(15, (nI 0)), (16, pl810), (27, (nI (nd768 + 1))), (31, (nI wr770)), (64, (nI at808)), (65, (nI ne)), (66, (nI lk769))]) (V := [(nI 0), pl810, (nI (nd768 + 1)), (nI wr770), (nI at808), (nI ne), (nI lk769), (nI ne), (nI 0), pl810, (nI (nd768 + 1)), (nI wr770), (nI at808), (nI ne), (nI lk769)]) rfl rfl rfl hP
            have hD : va_D A (mW G h0 a (upd (upd (upd (upd (upd (upd (upd F 15 (nI 0)) 16 pl810) 27 (nI (nd768 + 1))) 31 (nI wr770)) 64 (nI at808)) 65 (nI ne)) 66 (nI lk769)) (updA X797 2 K)) := mW_D hD
            exact W.iret (v := (nI nd768)) hx hb hr (fun t9 ht9 hW9 => ⟨⟨_, (at808, 0, pl810, (nd768 + 1), lk769, wr770, nd768, X797), rfl, ⟨rfl, hz822, hz823, hz824, hz825, hz826, hz827, hz828, hz829, hz830, hz831, hz832, hz833, hz834, hz835⟩, by rw [ht9]; exact hP, hD⟩, hS.F ht9⟩) hS.2.2 dX12_operand_84
          · have e819 := e819
            refine lv_aload_n hx hb dX12_operand_73 rfl (lv_at hl 3 rfl) ?_
            refine lv_dup hx hb dX12_operand_74 rfl ?_
            refine r_get (v := .int (nI (ne + 1))) hx hb hown hq hE hP 65 366 tFX12_65 (by decide) pw_1612 rfl dX12_operand_75 ?_
            refine lv_iconst (v := 1) hx hb dX12_operand_78 (by decide) ?_
            refine lv_isub hx hb dX12_operand_79 ?_
            refine lv_topi (fun x836 e837 => ?_)
            obtain rfl : x836 = nI ((ne + 1) - 1) := e837.trans (nI_subN (a := 1) (b := (ne + 1)) (by omega))
            refine r_put (v := (nI ((ne + 1) - 1))) (ty := .int) hx hb hown hq hE hP hD hS 65 366 tFX12_65 (by decide) pw_1612 (by decide) rfl rfl (ms_65 a _ _) dX12_operand_80 (fun H locs hP hD hS => ?_)
            refine lv_iload_n hx hb dX12_operand_83 rfl (lv_at hl 0 rfl) ?_
            have hz838 : at0 ≤ at808 := (by omega)
            have hz839 : at808 ≤ T := (by omega)
            have hz840 : fa809 ≤ 100 := (by omega)
            have hz841 : nd ≤ (nd768 + 1) := (by omega)
            have hz842 : (nd768 + 1) + 2 * at0 ≤ nd + 2 * at808 + 100000 * fa809 := (by omega)
            have hz843 : (nd768 + 1) + 2 * at0 ≤ nd + 2 * at808 + 40 * (21 - ne) := (by omega)
            have hz844 : wr ≤ wr770 := (by omega)
            have hz845 : wr770 + at0 ≤ wr + at808 := (by omega)
            have hz846 : lk ≤ lk769 := (by omega)
            have hz847 : lk769 ≤ 60 + 100 * fa809 := (by omega)
            have hz848 : at0 + 1 ≤ at808 + fa809 := (by omega)
            have hz849 : nd768 ≤ (nd768 + 1) := (by omega)
            have hz850 : Kp B X797 wr770 T := hkp799
            have hz851 : If (fa809 = 0) (Low B X797 nd wr ∧ Frs K T wr770 X797 nd (nd768 + 1) 20000 [(nd768, (210 + lk769 - (10 * ne + lk)))] ∧ kcl 1 (X797 9 nd768) = true) := (fun e => absurd e (by omega))
            have hP : va_P G.1 pCl (mW G h0 a (upd (upd (upd (upd (upd (upd (upd F 15 (nI fa809)) 16 pl810) 27 (nI (nd768 + 1))) 31 (nI wr770)) 64 (nI at808)) 65 (nI ne)) 66 (nI lk769)) (updA X797 2 K)) _ := mW_to (F := F) (l1 := [(15, (nI fa809)), (16, pl810), (27, (nI (nd768 + 1))), (31, (nI wr770)), (64, (nI at808)), (65, (nI (ne + 1))), (66, (nI lk769)), (65, (nI ((ne + 1) - 1)))]) (l2 := [(15, (nI fa809)), (16, pl810), (27, (nI (nd768 + 1))), (31, (nI wr770)), (64, (nI at808)), (65, (nI ne)), (66, (nI lk769))]) (V := [(nI fa809), pl810, (nI (nd768 + 1)), (nI wr770), (nI at808), (nI ne), (nI lk769), (nI ne), (nI fa809), pl810, (nI (nd768 + 1)), (nI wr770), (nI at808), (nI ne), (nI lk769)]) rfl rfl rfl hP
            have hD : va_D A (mW G h0 a (upd (upd (upd (upd (upd (upd (upd F 15 (nI fa809)) 16 pl810) 27 (nI (nd768 + 1))) 31 (nI wr770)) 64 (nI at808)) 65 (nI ne)) 66 (nI lk769)) (updA X797 2 K)) := mW_D hD
            exact W.iret (v := (nI nd768)) hx hb hr (fun t9 ht9 hW9 => ⟨⟨_, (at808, fa809, pl810, (nd768 + 1), lk769, wr770, nd768, X797), rfl, ⟨rfl, hz838, hz839, hz840, hz841, hz842, hz843, hz844, hz845, hz846, hz847, hz848, hz849, hz850, hz851⟩, by rw [ht9]; exact hP, hD⟩, hS.F ht9⟩) hS.2.2 dX12_operand_84
        · have e788 := e788
          refine lv_iconst (v := (-1)) hx hb dX12_operand_62 (by decide) ?_
          have hP : va_P G.1 pCl (mW G h0 a (upd (upd (upd (upd (upd (upd (upd (upd F 15 (nI fa766)) 16 pl767) 27 (nI nd768)) 31 (nI wr770)) 64 (nI at765)) 65 (nI (ne + 1))) 66 (nI lk769)) 27 (nI nd768)) (updA X772 2 K)) _ := mW_to (F := F) (l1 := [(15, (nI fa766)), (16, pl767), (27, (nI nd768)), (31, (nI wr770)), (64, (nI at765)), (65, (nI (ne + 1))), (66, (nI lk769))]) (l2 := [(15, (nI fa766)), (16, pl767), (27, (nI nd768)), (31, (nI wr770)), (64, (nI at765)), (65, (nI (ne + 1))), (66, (nI lk769)), (27, (nI nd768))]) (V := [(nI fa766), pl767, (nI nd768), (nI wr770), (nI at765), (nI (ne + 1)), (nI lk769), (nI fa766), pl767, (nI nd768), (nI wr770), (nI at765), (nI (ne + 1)), (nI lk769), (nI nd768)]) rfl rfl rfl hP
          have hD : va_D A (mW G h0 a (upd (upd (upd (upd (upd (upd (upd (upd F 15 (nI fa766)) 16 pl767) 27 (nI nd768)) 31 (nI wr770)) 64 (nI at765)) 65 (nI (ne + 1))) 66 (nI lk769)) 27 (nI nd768)) (updA X772 2 K)) := mW_D hD
          refine pc_V0 (G := G) (As := [.int 16, .int (nI at0), .int (nI at0), .int (nI r771), .int (-1)]) (rest := []) hx hb hml hown hq hE hX pX0_al hP hD hS hA hl.1 (R_nodeB l G h0 a (upd (upd (upd (upd (upd (upd (upd F 15 (nI fa766)) 16 pl767) 27 (nI nd768)) 31 (nI wr770)) 64 (nI at765)) 65 (nI (ne + 1))) 66 (nI lk769)) X772 16 (nI at0) (nI at0) (nI r771) (-1) nd768 K (by omega)) (gV pw_1650 pw_1651 pw_1652 pw_1523 pw_1589) hV_X12_node 0 9 rfl rfl rfl rfl (Nat.le_of_ble_eq_true rfl) dX12_operand_63 ⟨Nat.le_of_ble_eq_true rfl, Nat.le_of_ble_eq_true rfl⟩ ⟨(by show 2 + 1 ≤ (20 * n + 10); omega), (by show 8 + (7 + 11) + 60 ≤ (1000 * n + 40 * 10); omega)⟩ (fun v854 u852 H locs hw853 hP hD hS => ?_)
          obtain ⟨X855, rfl⟩ : ∃ z, z = u852 := ⟨_, rfl⟩
          obtain ⟨hw853, h856⟩ := hw853
          have h856 : NewN X772 X855 nd768 16 (nI at0) (nI at0) (nI r771) (-1) := h856
          obtain rfl : v854 = some (.int (nI nd768)) := hw853
          have hP : va_P G.1 pCl (mW G h0 a (upd (upd (upd (upd (upd (upd (upd F 15 (nI fa766)) 16 pl767) 27 (nI (nd768 + 1))) 31 (nI wr770)) 64 (nI at765)) 65 (nI (ne + 1))) 66 (nI lk769)) (updA X855 2 K)) _ := mW_to (F := F) (l1 := [(15, (nI fa766)), (16, pl767), (27, (nI nd768)), (31, (nI wr770)), (64, (nI at765)), (65, (nI (ne + 1))), (66, (nI lk769)), (27, (nI (nd768 + 1)))]) (l2 := [(15, (nI fa766)), (16, pl767), (27, (nI (nd768 + 1))), (31, (nI wr770)), (64, (nI at765)), (65, (nI (ne + 1))), (66, (nI lk769))]) (V := [(nI fa766), pl767, (nI (nd768 + 1)), (nI wr770), (nI at765), (nI (ne + 1)), (nI lk769), (nI (nd768 + 1)), (nI fa766), pl767, (nI (nd768 + 1)), (nI wr770), (nI at765), (nI (ne + 1)), (nI lk769)]) rfl rfl rfl hP
          have hD : va_D A (mW G h0 a (upd (upd (upd (upd (upd (upd (upd F 15 (nI fa766)) 16 pl767) 27 (nI (nd768 + 1))) 31 (nI wr770)) 64 (nI at765)) 65 (nI (ne + 1))) 66 (nI lk769)) (updA X855 2 K)) := mW_D hD
          refine W.widen (k := 0) (n := 0) (Nat.le_of_ble_eq_true rfl) (Nat.le_of_ble_eq_true rfl) ?_
          refine W.eq (g2 := F0 m 66 ls [.int (nI nd768)]) rfl ?_
          have hkp857 : Kp B X855 wr770 T := (Kp.new hkp787 h856)
          refine lv_istore_n (lv' := [(3, .int (nI nd768)), (2, .int (K at0)), (1, .int (nI at0)), (0, .ref h0)]) hx hb dX12_operand_66 rfl hl (by decide) rfl (fun ls hl => ?_)
          refine lv_aload_n hx hb dX12_operand_67 rfl (lv_at hl 3 rfl) ?_
          refine lv_bipush (v := 41) hx hb dX12_operand_68 (by decide) ?_
          have hP : va_P G.1 pCl (mW G h0 a (upd (upd (upd (upd (upd (upd (upd (upd (upd F 15 (nI fa766)) 16 pl767) 27 (nI (nd768 + 1))) 31 (nI wr770)) 64 (nI at765)) 65 (nI (ne + 1))) 66 (nI lk769)) 15 (nI fa766)) 64 (nI at765)) (updA (updA X855 2 K) 2 K)) _ := mW_to (F := F) (l1 := [(15, (nI fa766)), (16, pl767), (27, (nI (nd768 + 1))), (31, (nI wr770)), (64, (nI at765)), (65, (nI (ne + 1))), (66, (nI lk769))]) (l2 := [(15, (nI fa766)), (16, pl767), (27, (nI (nd768 + 1))), (31, (nI wr770)), (64, (nI at765)), (65, (nI (ne + 1))), (66, (nI lk769)), (15, (nI fa766)), (64, (nI at765))]) (V := [(nI fa766), pl767, (nI (nd768 + 1)), (nI wr770), (nI at765), (nI (ne + 1)), (nI lk769), (nI fa766), pl767, (nI (nd768 + 1)), (nI wr770), (nI at765), (nI (ne + 1)), (nI lk769), (nI fa766), (nI at765)]) rfl rfl (show (updA X855 2 K) = (updA (updA X855 2 K) 2 K) from updsA_eq2 (F := X855) (l1 := [(2, K)]) (l2 := [(2, K), (2, K)]) (V := [K, K, K]) rfl rfl) hP
          have hD : va_D A (mW G h0 a (upd (upd (upd (upd (upd (upd (upd (upd (upd F 15 (nI fa766)) 16 pl767) 27 (nI (nd768 + 1))) 31 (nI wr770)) 64 (nI at765)) 65 (nI (ne + 1))) 66 (nI lk769)) 15 (nI fa766)) 64 (nI at765)) (updA (updA X855 2 K) 2 K)) := mW_D hD
          refine pc_V0 (G := G) (As := [.int 41]) (rest := []) hx hb hml hown hq hE hX pX0_al hP hD hS hA hl.1 (R_take l G h0 a (upd (upd (upd (upd (upd (upd (upd F 15 (nI fa766)) 16 pl767) 27 (nI (nd768 + 1))) 31 (nI wr770)) 64 (nI at765)) 65 (nI (ne + 1))) 66 (nI lk769)) (updA X855 2 K) at765 T fa766 K 41 (by omega) (by omega) hK (by omega) (by decide) (by decide)) (gV pw_1614 pw_1615 pw_1616 pw_1523 pw_1601) hV_X12_take 0 9 rfl rfl rfl rfl (Nat.le_of_ble_eq_true rfl) dX12_operand_70 ⟨Nat.le_of_ble_eq_true rfl, Nat.le_of_ble_eq_true rfl⟩ ⟨(by show 4 + 1 ≤ (20 * n + 10); omega), (by show 8 + (2 + 11) + 103 ≤ (1000 * n + 40 * 10); omega)⟩ (fun v860 u858 H locs hw859 hP hD hS => ?_)
          obtain ⟨at861, fa862, pl863⟩ := u858
          obtain ⟨hw859, h864, h865, h866, h867, h868, h869, h870, h871⟩ := hw859
          have h864 : at765 ≤ at861 := h864
          have h865 : at861 ≤ T := h865
          have h866 : fa766 ≤ fa862 := h866
          have h867 : fa862 ≤ 100 := h867
          have h868 : If (0 < fa766) (at861 = at765 ∧ fa862 = fa766) := h868
          have h869 : at861 ≤ at765 + 1 := h869
          have h870 : at765 + 1 ≤ at861 + fa862 := h870
          have h871 : If (fa862 = 0) (K at765 = 41) := h871
          obtain rfl : v860 = none := hw859
          have hP : va_P G.1 pCl (mW G h0 a (upd (upd (upd (upd (upd (upd (upd F 15 (nI fa862)) 16 pl863) 27 (nI (nd768 + 1))) 31 (nI wr770)) 64 (nI at861)) 65 (nI (ne + 1))) 66 (nI lk769)) (updA X855 2 K)) _ := mW_to (F := F) (l1 := [(15, (nI fa766)), (16, pl767), (27, (nI (nd768 + 1))), (31, (nI wr770)), (64, (nI at765)), (65, (nI (ne + 1))), (66, (nI lk769)), (15, (nI fa862)), (16, pl863), (64, (nI at861))]) (l2 := [(15, (nI fa862)), (16, pl863), (27, (nI (nd768 + 1))), (31, (nI wr770)), (64, (nI at861)), (65, (nI (ne + 1))), (66, (nI lk769))]) (V := [(nI fa862), pl863, (nI (nd768 + 1)), (nI wr770), (nI at861), (nI (ne + 1)), (nI lk769), (nI fa862), pl863, (nI at861), (nI fa862), pl863, (nI (nd768 + 1)), (nI wr770), (nI at861), (nI (ne + 1)), (nI lk769)]) rfl rfl (show (updA (updA X855 2 K) 2 K) = (updA X855 2 K) from updsA_eq2 (F := X855) (l1 := [(2, K), (2, K)]) (l2 := [(2, K)]) (V := [K, K, K]) rfl rfl) hP
          have hD : va_D A (mW G h0 a (upd (upd (upd (upd (upd (upd (upd F 15 (nI fa862)) 16 pl863) 27 (nI (nd768 + 1))) 31 (nI wr770)) 64 (nI at861)) 65 (nI (ne + 1))) 66 (nI lk769)) (updA X855 2 K)) := mW_D hD
          refine W.widen (k := 0) (n := 0) (Nat.le_of_ble_eq_true rfl) (Nat.le_of_ble_eq_true rfl) ?_
          refine W.eq (g2 := F0 m 73 ls []) rfl ?_
          obtain ⟨n873, n872⟩ := h868 e788
          replace n873 := n873.symm
          subst n873
          replace n872 := n872.symm
          subst n872
          refine lv_aload_n hx hb dX12_operand_73 rfl (lv_at hl 3 rfl) ?_
          refine lv_dup hx hb dX12_operand_74 rfl ?_
          refine r_get (v := .int (nI (ne + 1))) hx hb hown hq hE hP 65 366 tFX12_65 (by decide) pw_1612 rfl dX12_operand_75 ?_
          refine lv_iconst (v := 1) hx hb dX12_operand_78 (by decide) ?_
          refine lv_isub hx hb dX12_operand_79 ?_
          refine lv_topi (fun x874 e875 => ?_)
          obtain rfl : x874 = nI ((ne + 1) - 1) := e875.trans (nI_subN (a := 1) (b := (ne + 1)) (by omega))
          refine r_put (v := (nI ((ne + 1) - 1))) (ty := .int) hx hb hown hq hE hP hD hS 65 366 tFX12_65 (by decide) pw_1612 (by decide) rfl rfl (ms_65 a _ _) dX12_operand_80 (fun H locs hP hD hS => ?_)
          refine lv_iload_n hx hb dX12_operand_83 rfl (lv_at hl 0 rfl) ?_
          have hz876 : at0 ≤ at765 := (by omega)
          have hz877 : at765 ≤ T := (by omega)
          have hz878 : fa766 ≤ 100 := (by omega)
          have hz879 : nd ≤ (nd768 + 1) := (by omega)
          have hz880 : (nd768 + 1) + 2 * at0 ≤ nd + 2 * at765 + 100000 * fa766 := (by omega)
          have hz881 : (nd768 + 1) + 2 * at0 ≤ nd + 2 * at765 + 40 * (21 - ne) := (by omega)
          have hz882 : wr ≤ wr770 := (by omega)
          have hz883 : wr770 + at0 ≤ wr + at765 := (by omega)
          have hz884 : lk ≤ lk769 := (by omega)
          have hz885 : lk769 ≤ 60 + 100 * fa766 := (by omega)
          have hz886 : at0 + 1 ≤ at765 + fa766 := (by omega)
          have hz887 : nd768 ≤ (nd768 + 1) := (by omega)
          have hz888 : Kp B X855 wr770 T := hkp857
          have hz889 : If (fa766 = 0) (Low B X855 nd wr ∧ Frs K T wr770 X855 nd (nd768 + 1) 20000 [(nd768, (210 + lk769 - (10 * ne + lk)))] ∧ kcl 1 (X855 9 nd768) = true) := (fun e => absurd e (by omega))
          have hP : va_P G.1 pCl (mW G h0 a (upd (upd (upd (upd (upd (upd (upd F 15 (nI fa766)) 16 pl863) 27 (nI (nd768 + 1))) 31 (nI wr770)) 64 (nI at765)) 65 (nI ne)) 66 (nI lk769)) (updA X855 2 K)) _ := hP
          have hD : va_D A (mW G h0 a (upd (upd (upd (upd (upd (upd (upd F 15 (nI fa766)) 16 pl863) 27 (nI (nd768 + 1))) 31 (nI wr770)) 64 (nI at765)) 65 (nI ne)) 66 (nI lk769)) (updA X855 2 K)) := mW_D hD
          exact W.iret (v := (nI nd768)) hx hb hr (fun t9 ht9 hW9 => ⟨⟨_, (at765, fa766, pl863, (nd768 + 1), lk769, wr770, nd768, X855), rfl, ⟨rfl, hz876, hz877, hz878, hz879, hz880, hz881, hz882, hz883, hz884, hz885, hz886, hz887, hz888, hz889⟩, by rw [ht9]; exact hP, hD⟩, hS.F ht9⟩) hS.2.2 dX12_operand_84
      · have e758 := e758
        refine lv_aload_n hx hb dX12_operand_43 rfl (lv_at hl 2 rfl) ?_
        refine lv_dup hx hb dX12_operand_44 rfl ?_
        refine r_get (v := .int (nI at0)) hx hb hown hq hE hP 64 343 tFX12_64 (by decide) pw_1592 rfl dX12_operand_45 ?_
        refine lv_iconst (v := 1) hx hb dX12_operand_48 (by decide) ?_
        refine lv_iadd hx hb dX12_operand_49 ?_
        refine lv_topi (fun x890 e891 => ?_)
        obtain rfl : x890 = nI (at0 + 1) := e891.trans (nI_add (at0) (1))
        refine r_put (v := (nI (at0 + 1))) (ty := .int) hx hb hown hq hE hP hD hS 64 343 tFX12_64 (by decide) pw_1592 (by decide) rfl rfl (ms_64 a _ _) dX12_operand_50 (fun H locs hP hD hS => ?_)
        refine lv_aload_n hx hb dX12_operand_53 rfl (lv_at hl 2 rfl) ?_
        refine lv_bipush (v := 16) hx hb dX12_operand_54 (by decide) ?_
        refine lv_iload_n hx hb dX12_operand_56 rfl (lv_at hl 1 rfl) ?_
        refine lv_iload_n hx hb dX12_operand_57 rfl (lv_at hl 1 rfl) ?_
        refine lv_aload_n hx hb dX12_operand_58 rfl (lv_at hl 2 rfl) ?_
        have hP : va_P G.1 pCl (mW G h0 a (upd (upd (upd (upd (upd (upd (upd (upd (upd F 15 (nI fa752)) 16 pl753) 27 (nI nd)) 31 (nI wr)) 64 (nI (at0 + 1))) 65 (nI (ne + 1))) 66 (nI lk)) 15 (nI fa752)) 64 (nI (at0 + 1))) (updA (updA B 2 K) 2 K)) _ := mW_to (F := F) (l1 := [(15, (nI fa752)), (16, pl753), (27, (nI nd)), (31, (nI wr)), (64, (nI at0)), (65, (nI (ne + 1))), (66, (nI lk)), (64, (nI (at0 + 1)))]) (l2 := [(15, (nI fa752)), (16, pl753), (27, (nI nd)), (31, (nI wr)), (64, (nI (at0 + 1))), (65, (nI (ne + 1))), (66, (nI lk)), (15, (nI fa752)), (64, (nI (at0 + 1)))]) (V := [(nI fa752), pl753, (nI nd), (nI wr), (nI (at0 + 1)), (nI (ne + 1)), (nI lk), (nI (at0 + 1)), (nI fa752), pl753, (nI nd), (nI wr), (nI (at0 + 1)), (nI (ne + 1)), (nI lk), (nI fa752), (nI (at0 + 1))]) rfl rfl (show (updA B 2 K) = (updA (updA B 2 K) 2 K) from updsA_eq2 (F := B) (l1 := [(2, K)]) (l2 := [(2, K), (2, K)]) (V := [K, K, K]) rfl rfl) hP
        have hD : va_D A (mW G h0 a (upd (upd (upd (upd (upd (upd (upd (upd (upd F 15 (nI fa752)) 16 pl753) 27 (nI nd)) 31 (nI wr)) 64 (nI (at0 + 1))) 65 (nI (ne + 1))) 66 (nI lk)) 15 (nI fa752)) 64 (nI (at0 + 1))) (updA (updA B 2 K) 2 K)) := mW_D hD
        refine pc_V0 (G := G) (As := []) (rest := [.int (nI at0), .int (nI at0), .int 16, .ref h0]) hx hb hml hown hq hE hX pX0_al hP hD hS hA hl.1 (RF_choice l G h0 a (upd (upd (upd (upd (upd (upd (upd F 15 (nI fa752)) 16 pl753) 27 (nI nd)) 31 (nI wr)) 64 (nI (at0 + 1))) 65 (nI (ne + 1))) 66 (nI lk)) (updA B 2 K) (at0 + 1) T fa752 K (by omega) (by omega) hK (by omega) e758) (gV pw_1640 pw_1641 pw_1642 pw_1523 pw_1656) hV_X12_choice 0 9 rfl rfl rfl rfl (Nat.le_of_ble_eq_true rfl) dX12_operand_59 ⟨Nat.le_of_ble_eq_true rfl, Nat.le_of_ble_eq_true rfl⟩ ⟨(by show 16 + 1 ≤ (20 * n + 10); omega), (by show 8 + (4 + 11) + 405 ≤ (1000 * n + 40 * 10); omega)⟩ (fun v894 u892 H locs hw893 hP hD hS => ?_)
        obtain rfl : v894 = some (.int 0) := hw893
        have hP : va_P G.1 pCl (mW G h0 a (upd (upd (upd (upd (upd (upd (upd F 15 (nI fa752)) 16 pl753) 27 (nI nd)) 31 (nI wr)) 64 (nI (at0 + 1))) 65 (nI (ne + 1))) 66 (nI lk)) (updA B 2 K)) _ := mW_to (F := F) (l1 := [(15, (nI fa752)), (16, pl753), (27, (nI nd)), (31, (nI wr)), (64, (nI (at0 + 1))), (65, (nI (ne + 1))), (66, (nI lk)), (15, (nI fa752)), (64, (nI (at0 + 1)))]) (l2 := [(15, (nI fa752)), (16, pl753), (27, (nI nd)), (31, (nI wr)), (64, (nI (at0 + 1))), (65, (nI (ne + 1))), (66, (nI lk))]) (V := [(nI fa752), pl753, (nI nd), (nI wr), (nI (at0 + 1)), (nI (ne + 1)), (nI lk), (nI fa752), (nI (at0 + 1)), (nI fa752), pl753, (nI nd), (nI wr), (nI (at0 + 1)), (nI (ne + 1)), (nI lk)]) rfl rfl (show (updA (updA B 2 K) 2 K) = (updA B 2 K) from updsA_eq2 (F := B) (l1 := [(2, K), (2, K)]) (l2 := [(2, K)]) (V := [K, K, K]) rfl rfl) hP
        have hD : va_D A (mW G h0 a (upd (upd (upd (upd (upd (upd (upd F 15 (nI fa752)) 16 pl753) 27 (nI nd)) 31 (nI wr)) 64 (nI (at0 + 1))) 65 (nI (ne + 1))) 66 (nI lk)) (updA B 2 K)) := mW_D hD
        refine W.widen (k := 0) (n := 0) (Nat.le_of_ble_eq_true rfl) (Nat.le_of_ble_eq_true rfl) ?_
        refine W.eq (g2 := F0 m 62 ls [.int 0, .int (nI at0), .int (nI at0), .int 16, .ref h0]) rfl ?_
        refine lv_iconst (v := (-1)) hx hb dX12_operand_62 (by decide) ?_
        have hP : va_P G.1 pCl (mW G h0 a (upd (upd (upd (upd (upd (upd (upd (upd F 15 (nI fa752)) 16 pl753) 27 (nI nd)) 31 (nI wr)) 64 (nI (at0 + 1))) 65 (nI (ne + 1))) 66 (nI lk)) 27 (nI nd)) (updA B 2 K)) _ := mW_to (F := F) (l1 := [(15, (nI fa752)), (16, pl753), (27, (nI nd)), (31, (nI wr)), (64, (nI (at0 + 1))), (65, (nI (ne + 1))), (66, (nI lk))]) (l2 := [(15, (nI fa752)), (16, pl753), (27, (nI nd)), (31, (nI wr)), (64, (nI (at0 + 1))), (65, (nI (ne + 1))), (66, (nI lk)), (27, (nI nd))]) (V := [(nI fa752), pl753, (nI nd), (nI wr), (nI (at0 + 1)), (nI (ne + 1)), (nI lk), (nI fa752), pl753, (nI nd), (nI wr), (nI (at0 + 1)), (nI (ne + 1)), (nI lk), (nI nd)]) rfl rfl rfl hP
        have hD : va_D A (mW G h0 a (upd (upd (upd (upd (upd (upd (upd (upd F 15 (nI fa752)) 16 pl753) 27 (nI nd)) 31 (nI wr)) 64 (nI (at0 + 1))) 65 (nI (ne + 1))) 66 (nI lk)) 27 (nI nd)) (updA B 2 K)) := mW_D hD
        refine pc_V0 (G := G) (As := [.int 16, .int (nI at0), .int (nI at0), .int 0, .int (-1)]) (rest := []) hx hb hml hown hq hE hX pX0_al hP hD hS hA hl.1 (R_nodeB l G h0 a (upd (upd (upd (upd (upd (upd (upd F 15 (nI fa752)) 16 pl753) 27 (nI nd)) 31 (nI wr)) 64 (nI (at0 + 1))) 65 (nI (ne + 1))) 66 (nI lk)) B 16 (nI at0) (nI at0) 0 (-1) nd K (by omega)) (gV pw_1650 pw_1651 pw_1652 pw_1523 pw_1589) hV_X12_node 0 9 rfl rfl rfl rfl (Nat.le_of_ble_eq_true rfl) dX12_operand_63 ⟨Nat.le_of_ble_eq_true rfl, Nat.le_of_ble_eq_true rfl⟩ ⟨(by show 2 + 1 ≤ (20 * n + 10); omega), (by show 8 + (7 + 11) + 60 ≤ (1000 * n + 40 * 10); omega)⟩ (fun v897 u895 H locs hw896 hP hD hS => ?_)
        obtain ⟨X898, rfl⟩ : ∃ z, z = u895 := ⟨_, rfl⟩
        obtain ⟨hw896, h899⟩ := hw896
        have h899 : NewN B X898 nd 16 (nI at0) (nI at0) 0 (-1) := h899
        obtain rfl : v897 = some (.int (nI nd)) := hw896
        have hP : va_P G.1 pCl (mW G h0 a (upd (upd (upd (upd (upd (upd (upd F 15 (nI fa752)) 16 pl753) 27 (nI (nd + 1))) 31 (nI wr)) 64 (nI (at0 + 1))) 65 (nI (ne + 1))) 66 (nI lk)) (updA X898 2 K)) _ := mW_to (F := F) (l1 := [(15, (nI fa752)), (16, pl753), (27, (nI nd)), (31, (nI wr)), (64, (nI (at0 + 1))), (65, (nI (ne + 1))), (66, (nI lk)), (27, (nI (nd + 1)))]) (l2 := [(15, (nI fa752)), (16, pl753), (27, (nI (nd + 1))), (31, (nI wr)), (64, (nI (at0 + 1))), (65, (nI (ne + 1))), (66, (nI lk))]) (V := [(nI fa752), pl753, (nI (nd + 1)), (nI wr), (nI (at0 + 1)), (nI (ne + 1)), (nI lk), (nI (nd + 1)), (nI fa752), pl753, (nI (nd + 1)), (nI wr), (nI (at0 + 1)), (nI (ne + 1)), (nI lk)]) rfl rfl rfl hP
        have hD : va_D A (mW G h0 a (upd (upd (upd (upd (upd (upd (upd F 15 (nI fa752)) 16 pl753) 27 (nI (nd + 1))) 31 (nI wr)) 64 (nI (at0 + 1))) 65 (nI (ne + 1))) 66 (nI lk)) (updA X898 2 K)) := mW_D hD
        refine W.widen (k := 0) (n := 0) (Nat.le_of_ble_eq_true rfl) (Nat.le_of_ble_eq_true rfl) ?_
        refine W.eq (g2 := F0 m 66 ls [.int (nI nd)]) rfl ?_
        have hkp900 : Kp B X898 wr T := (Kp.new hkp1 h899)
        refine lv_istore_n (lv' := [(3, .int (nI nd)), (2, .int (K at0)), (1, .int (nI at0)), (0, .ref h0)]) hx hb dX12_operand_66 rfl hl (by decide) rfl (fun ls hl => ?_)
        refine lv_aload_n hx hb dX12_operand_67 rfl (lv_at hl 3 rfl) ?_
        refine lv_bipush (v := 41) hx hb dX12_operand_68 (by decide) ?_
        have hP : va_P G.1 pCl (mW G h0 a (upd (upd (upd (upd (upd (upd (upd (upd (upd F 15 (nI fa752)) 16 pl753) 27 (nI (nd + 1))) 31 (nI wr)) 64 (nI (at0 + 1))) 65 (nI (ne + 1))) 66 (nI lk)) 15 (nI fa752)) 64 (nI (at0 + 1))) (updA (updA X898 2 K) 2 K)) _ := mW_to (F := F) (l1 := [(15, (nI fa752)), (16, pl753), (27, (nI (nd + 1))), (31, (nI wr)), (64, (nI (at0 + 1))), (65, (nI (ne + 1))), (66, (nI lk))]) (l2 := [(15, (nI fa752)), (16, pl753), (27, (nI (nd + 1))), (31, (nI wr)), (64, (nI (at0 + 1))), (65, (nI (ne + 1))), (66, (nI lk)), (15, (nI fa752)), (64, (nI (at0 + 1)))]) (V := [(nI fa752), pl753, (nI (nd + 1)), (nI wr), (nI (at0 + 1)), (nI (ne + 1)), (nI lk), (nI fa752), pl753, (nI (nd + 1)), (nI wr), (nI (at0 + 1)), (nI (ne + 1)), (nI lk), (nI fa752), (nI (at0 + 1))]) rfl rfl (show (updA X898 2 K) = (updA (updA X898 2 K) 2 K) from updsA_eq2 (F := X898) (l1 := [(2, K)]) (l2 := [(2, K), (2, K)]) (V := [K, K, K]) rfl rfl) hP
        have hD : va_D A (mW G h0 a (upd (upd (upd (upd (upd (upd (upd (upd (upd F 15 (nI fa752)) 16 pl753) 27 (nI (nd + 1))) 31 (nI wr)) 64 (nI (at0 + 1))) 65 (nI (ne + 1))) 66 (nI lk)) 15 (nI fa752)) 64 (nI (at0 + 1))) (updA (updA X898 2 K) 2 K)) := mW_D hD
        refine pc_V0 (G := G) (As := [.int 41]) (rest := []) hx hb hml hown hq hE hX pX0_al hP hD hS hA hl.1 (R_take l G h0 a (upd (upd (upd (upd (upd (upd (upd F 15 (nI fa752)) 16 pl753) 27 (nI (nd + 1))) 31 (nI wr)) 64 (nI (at0 + 1))) 65 (nI (ne + 1))) 66 (nI lk)) (updA X898 2 K) (at0 + 1) T fa752 K 41 (by omega) (by omega) hK (by omega) (by decide) (by decide)) (gV pw_1614 pw_1615 pw_1616 pw_1523 pw_1601) hV_X12_take 0 9 rfl rfl rfl rfl (Nat.le_of_ble_eq_true rfl) dX12_operand_70 ⟨Nat.le_of_ble_eq_true rfl, Nat.le_of_ble_eq_true rfl⟩ ⟨(by show 4 + 1 ≤ (20 * n + 10); omega), (by show 8 + (2 + 11) + 103 ≤ (1000 * n + 40 * 10); omega)⟩ (fun v903 u901 H locs hw902 hP hD hS => ?_)
        obtain ⟨at904, fa905, pl906⟩ := u901
        obtain ⟨hw902, h907, h908, h909, h910, h911, h912, h913, h914⟩ := hw902
        have h907 : (at0 + 1) ≤ at904 := h907
        have h908 : at904 ≤ T := h908
        have h909 : fa752 ≤ fa905 := h909
        have h910 : fa905 ≤ 100 := h910
        have h911 : If (0 < fa752) (at904 = (at0 + 1) ∧ fa905 = fa752) := h911
        have h912 : at904 ≤ (at0 + 1) + 1 := h912
        have h913 : (at0 + 1) + 1 ≤ at904 + fa905 := h913
        have h914 : If (fa905 = 0) (K (at0 + 1) = 41) := h914
        obtain rfl : v903 = none := hw902
        have hP : va_P G.1 pCl (mW G h0 a (upd (upd (upd (upd (upd (upd (upd F 15 (nI fa905)) 16 pl906) 27 (nI (nd + 1))) 31 (nI wr)) 64 (nI at904)) 65 (nI (ne + 1))) 66 (nI lk)) (updA X898 2 K)) _ := mW_to (F := F) (l1 := [(15, (nI fa752)), (16, pl753), (27, (nI (nd + 1))), (31, (nI wr)), (64, (nI (at0 + 1))), (65, (nI (ne + 1))), (66, (nI lk)), (15, (nI fa905)), (16, pl906), (64, (nI at904))]) (l2 := [(15, (nI fa905)), (16, pl906), (27, (nI (nd + 1))), (31, (nI wr)), (64, (nI at904)), (65, (nI (ne + 1))), (66, (nI lk))]) (V := [(nI fa905), pl906, (nI (nd + 1)), (nI wr), (nI at904), (nI (ne + 1)), (nI lk), (nI fa905), pl906, (nI at904), (nI fa905), pl906, (nI (nd + 1)), (nI wr), (nI at904), (nI (ne + 1)), (nI lk)]) rfl rfl (show (updA (updA X898 2 K) 2 K) = (updA X898 2 K) from updsA_eq2 (F := X898) (l1 := [(2, K), (2, K)]) (l2 := [(2, K)]) (V := [K, K, K]) rfl rfl) hP
        have hD : va_D A (mW G h0 a (upd (upd (upd (upd (upd (upd (upd F 15 (nI fa905)) 16 pl906) 27 (nI (nd + 1))) 31 (nI wr)) 64 (nI at904)) 65 (nI (ne + 1))) 66 (nI lk)) (updA X898 2 K)) := mW_D hD
        refine W.widen (k := 0) (n := 0) (Nat.le_of_ble_eq_true rfl) (Nat.le_of_ble_eq_true rfl) ?_
        refine W.eq (g2 := F0 m 73 ls []) rfl ?_
        obtain ⟨n916, n915⟩ := h911 e758
        replace n916 := n916.symm
        subst n916
        replace n915 := n915.symm
        subst n915
        refine lv_aload_n hx hb dX12_operand_73 rfl (lv_at hl 3 rfl) ?_
        refine lv_dup hx hb dX12_operand_74 rfl ?_
        refine r_get (v := .int (nI (ne + 1))) hx hb hown hq hE hP 65 366 tFX12_65 (by decide) pw_1612 rfl dX12_operand_75 ?_
        refine lv_iconst (v := 1) hx hb dX12_operand_78 (by decide) ?_
        refine lv_isub hx hb dX12_operand_79 ?_
        refine lv_topi (fun x917 e918 => ?_)
        obtain rfl : x917 = nI ((ne + 1) - 1) := e918.trans (nI_subN (a := 1) (b := (ne + 1)) (by omega))
        refine r_put (v := (nI ((ne + 1) - 1))) (ty := .int) hx hb hown hq hE hP hD hS 65 366 tFX12_65 (by decide) pw_1612 (by decide) rfl rfl (ms_65 a _ _) dX12_operand_80 (fun H locs hP hD hS => ?_)
        refine lv_iload_n hx hb dX12_operand_83 rfl (lv_at hl 0 rfl) ?_
        have hz919 : at0 ≤ (at0 + 1) := (by omega)
        have hz920 : (at0 + 1) ≤ T := (by omega)
        have hz921 : fa752 ≤ 100 := (by omega)
        have hz922 : nd ≤ (nd + 1) := (by omega)
        have hz923 : (nd + 1) + 2 * at0 ≤ nd + 2 * (at0 + 1) + 100000 * fa752 := (by omega)
        have hz924 : (nd + 1) + 2 * at0 ≤ nd + 2 * (at0 + 1) + 40 * (21 - ne) := (by omega)
        have hz925 : wr ≤ wr := (by omega)
        have hz926 : wr + at0 ≤ wr + (at0 + 1) := (by omega)
        have hz927 : lk ≤ lk := (by omega)
        have hz928 : lk ≤ 60 + 100 * fa752 := (by omega)
        have hz929 : at0 + 1 ≤ (at0 + 1) + fa752 := (by omega)
        have hz930 : nd ≤ (nd + 1) := (by omega)
        have hz931 : Kp B X898 wr T := hkp900
        have hz932 : If (fa752 = 0) (Low B X898 nd wr ∧ Frs K T wr X898 nd (nd + 1) 20000 [(nd, (210 + lk - (10 * ne + lk)))] ∧ kcl 1 (X898 9 nd) = true) := (fun e => absurd e (by omega))
        have hP : va_P G.1 pCl (mW G h0 a (upd (upd (upd (upd (upd (upd (upd F 15 (nI fa752)) 16 pl906) 27 (nI (nd + 1))) 31 (nI wr)) 64 (nI (at0 + 1))) 65 (nI ne)) 66 (nI lk)) (updA X898 2 K)) _ := hP
        have hD : va_D A (mW G h0 a (upd (upd (upd (upd (upd (upd (upd F 15 (nI fa752)) 16 pl906) 27 (nI (nd + 1))) 31 (nI wr)) 64 (nI (at0 + 1))) 65 (nI ne)) 66 (nI lk)) (updA X898 2 K)) := mW_D hD
        exact W.iret (v := (nI nd)) hx hb hr (fun t9 ht9 hW9 => ⟨⟨_, ((at0 + 1), fa752, pl906, (nd + 1), lk, wr, nd, X898), rfl, ⟨rfl, hz919, hz920, hz921, hz922, hz923, hz924, hz925, hz926, hz927, hz928, hz929, hz930, hz931, hz932⟩, by rw [ht9]; exact hP, hD⟩, hS.F ht9⟩) hS.2.2 dX12_operand_84
  · have n933 : r7 = 0 := (nI_eq (a := r7) (b := 0) (by omega) (by omega)).mp c10
    refine lv_aload_n hx hb dX12_operand_16 rfl (lv_at hl 0 rfl) ?_
    refine lv_iconst (v := 1) hx hb dX12_operand_17 (by decide) ?_
    have hP : va_P G.1 pCl (mW G h0 a (upd (upd (upd (upd (upd (upd (upd (upd F 15 0) 27 (nI nd)) 31 (nI wr)) 64 (nI at0)) 65 (nI ne)) 66 (nI lk)) 15 (nI 0)) 64 (nI at0)) (updA (updA B 2 K) 2 K)) _ := mW_to (F := F) (l1 := [(15, 0), (27, (nI nd)), (31, (nI wr)), (64, (nI at0)), (65, (nI ne)), (66, (nI lk))]) (l2 := [(15, 0), (27, (nI nd)), (31, (nI wr)), (64, (nI at0)), (65, (nI ne)), (66, (nI lk)), (15, (nI 0)), (64, (nI at0))]) (V := [(nI 0), (nI nd), (nI wr), (nI at0), (nI ne), (nI lk), (nI 0), (nI nd), (nI wr), (nI at0), (nI ne), (nI lk), (nI 0), (nI at0)]) rfl rfl (show (updA B 2 K) = (updA (updA B 2 K) 2 K) from updsA_eq2 (F := B) (l1 := [(2, K)]) (l2 := [(2, K), (2, K)]) (V := [K, K, K]) rfl rfl) hP
    have hD : va_D A (mW G h0 a (upd (upd (upd (upd (upd (upd (upd (upd F 15 0) 27 (nI nd)) 31 (nI wr)) 64 (nI at0)) 65 (nI ne)) 66 (nI lk)) 15 (nI 0)) 64 (nI at0)) (updA (updA B 2 K) 2 K)) := mW_D hD
    refine pc_V0 (G := G) (As := [.int (nI 1)]) (rest := []) hx hb hml hown hq hE hX pX0_al hP hD hS hA hl.1 (R_bad l G h0 a (upd (upd (upd (upd (upd (upd F 15 0) 27 (nI nd)) 31 (nI wr)) 64 (nI at0)) 65 (nI ne)) 66 (nI lk)) (updA B 2 K) at0 T 0 K 1 (by omega) (by omega) hK (by omega) (by omega) (by omega)) (gV pw_1602 pw_1603 pw_1604 pw_1523 pw_1596) hV_X12_bad 0 9 rfl rfl rfl rfl (Nat.le_of_ble_eq_true rfl) dX12_operand_18 ⟨Nat.le_of_ble_eq_true rfl, Nat.le_of_ble_eq_true rfl⟩ ⟨(by show 3 + 1 ≤ (20 * n + 10); omega), (by show 8 + (2 + 11) + 82 ≤ (1000 * n + 40 * 10); omega)⟩ (fun v936 u934 H locs hw935 hP hD hS => ?_)
    obtain ⟨fa937, pl938⟩ := u934
    obtain ⟨hw935, h939, h940, h941, h942⟩ := hw935
    have h939 : 0 ≤ fa937 := h939
    have h940 : fa937 ≤ 0 + 1 := h940
    have h941 : 0 < fa937 := h941
    have h942 : If (0 < 0) (fa937 = 0) := h942
    obtain rfl : v936 = none := hw935
    have hP : va_P G.1 pCl (mW G h0 a (upd (upd (upd (upd (upd (upd (upd F 15 (nI fa937)) 16 pl938) 27 (nI nd)) 31 (nI wr)) 64 (nI at0)) 65 (nI ne)) 66 (nI lk)) (updA B 2 K)) _ := mW_to (F := F) (l1 := [(15, 0), (27, (nI nd)), (31, (nI wr)), (64, (nI at0)), (65, (nI ne)), (66, (nI lk)), (15, (nI fa937)), (16, pl938), (64, (nI at0))]) (l2 := [(15, (nI fa937)), (16, pl938), (27, (nI nd)), (31, (nI wr)), (64, (nI at0)), (65, (nI ne)), (66, (nI lk))]) (V := [(nI fa937), (nI nd), (nI wr), (nI at0), (nI ne), (nI lk), (nI fa937), pl938, (nI at0), (nI fa937), pl938, (nI nd), (nI wr), (nI at0), (nI ne), (nI lk)]) rfl rfl (show (updA (updA B 2 K) 2 K) = (updA B 2 K) from updsA_eq2 (F := B) (l1 := [(2, K), (2, K)]) (l2 := [(2, K)]) (V := [K, K, K]) rfl rfl) hP
    have hD : va_D A (mW G h0 a (upd (upd (upd (upd (upd (upd (upd F 15 (nI fa937)) 16 pl938) 27 (nI nd)) 31 (nI wr)) 64 (nI at0)) 65 (nI ne)) 66 (nI lk)) (updA B 2 K)) := mW_D hD
    refine W.widen (k := 0) (n := 0) (Nat.le_of_ble_eq_true rfl) (Nat.le_of_ble_eq_true rfl) ?_
    refine W.eq (g2 := F0 m 21 ls []) rfl ?_
    refine lv_iconst (v := 0) hx hb dX12_operand_21 (by decide) ?_
    have hz943 : at0 ≤ at0 := (by omega)
    have hz944 : at0 ≤ T := (by omega)
    have hz945 : fa937 ≤ 100 := (by omega)
    have hz946 : nd ≤ nd := (by omega)
    have hz947 : nd + 2 * at0 ≤ nd + 2 * at0 + 100000 * fa937 := (by omega)
    have hz948 : nd + 2 * at0 ≤ nd + 2 * at0 + 40 * (21 - ne) := (by omega)
    have hz949 : wr ≤ wr := (by omega)
    have hz950 : wr + at0 ≤ wr + at0 := (by omega)
    have hz951 : lk ≤ lk := (by omega)
    have hz952 : lk ≤ 60 + 100 * fa937 := (by omega)
    have hz953 : at0 + 1 ≤ at0 + fa937 := (by omega)
    have hz954 : 0 ≤ nd := (by omega)
    have hz955 : Kp B B wr T := hkp1
    have hz956 : If (fa937 = 0) (Low B B nd wr ∧ Frs K T wr B nd nd 20000 [(0, (210 + lk - (10 * ne + lk)))] ∧ kcl 1 (B 9 0) = true) := (fun e => absurd e (by omega))
    have hP : va_P G.1 pCl (mW G h0 a (upd (upd (upd (upd (upd (upd (upd F 15 (nI fa937)) 16 pl938) 27 (nI nd)) 31 (nI wr)) 64 (nI at0)) 65 (nI ne)) 66 (nI lk)) (updA B 2 K)) _ := hP
    have hD : va_D A (mW G h0 a (upd (upd (upd (upd (upd (upd (upd F 15 (nI fa937)) 16 pl938) 27 (nI nd)) 31 (nI wr)) 64 (nI at0)) 65 (nI ne)) 66 (nI lk)) (updA B 2 K)) := mW_D hD
    exact W.iret (v := 0) hx hb hr (fun t9 ht9 hW9 => ⟨⟨_, (at0, fa937, pl938, nd, lk, wr, 0, B), rfl, ⟨rfl, hz943, hz944, hz945, hz946, hz947, hz948, hz949, hz950, hz951, hz952, hz953, hz954, hz955, hz956⟩, by rw [ht9]; exact hP, hD⟩, hS.F ht9⟩) hS.2.2 dX12_operand_22

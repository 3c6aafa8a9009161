theorem dX8_statementBy_270 : decode cX8_statementBy 270 = .ok (.aload_n 0, 1) := by decide +kernel
theorem dX8_statementBy_271 : decode cX8_statementBy 271 = .ok (.iconst 1, 1) := by decide +kernel
theorem dX8_statementBy_272 : decode cX8_statementBy 272 = .ok (.invokevirtual 218, 3) := by decide +kernel
theorem dX8_statementBy_275 : decode cX8_statementBy 275 = .ok (.astore_n 2, 1) := by decide +kernel
theorem dX8_statementBy_276 : decode cX8_statementBy 276 = .ok (.aload_n 0, 1) := by decide +kernel
theorem dX8_statementBy_277 : decode cX8_statementBy 277 = .ok (.bipush 38, 2) := by decide +kernel
theorem dX8_statementBy_279 : decode cX8_statementBy 279 = .ok (.invokevirtual 53, 3) := by decide +kernel
theorem dX8_statementBy_282 : decode cX8_statementBy 282 = .ok (.pop, 1) := by decide +kernel
theorem dX8_statementBy_283 : decode cX8_statementBy 283 = .ok (.aload_n 2, 1) := by decide +kernel
theorem dX8_statementBy_284 : decode cX8_statementBy 284 = .ok (.areturn, 1) := by decide +kernel
theorem dX8_statementBy_0 : decode cX8_statementBy 0 = .ok (.iload_n 1, 1) := by decide +kernel
theorem dX8_statementBy_1 : decode cX8_statementBy 1 = .ok (.tableswitch 269 2 38 #[231, 269, 269, 239, 269, 269, 269, 269, 178, 168, 269, 269, 269, 269, 269, 269, 269, 188, 269, 193, 269, 269, 223, 269, 183, 269, 173, 269, 269, 269, 163, 269, 269, 269, 269, 269, 247], 163) := by decide +kernel
theorem dX8_statementBy_232 : decode cX8_statementBy 232 = .ok (.aload_n 0, 1) := by decide +kernel
theorem dX8_statementBy_233 : decode cX8_statementBy 233 = .ok (.bipush 29, 2) := by decide +kernel
theorem dX8_statementBy_235 : decode cX8_statementBy 235 = .ok (.iconst 0, 1) := by decide +kernel
theorem dX8_statementBy_236 : decode cX8_statementBy 236 = .ok (.invokevirtual 214, 3) := by decide +kernel
theorem dX8_statementBy_239 : decode cX8_statementBy 239 = .ok (.areturn, 1) := by decide +kernel
theorem dX8_statementBy_240 : decode cX8_statementBy 240 = .ok (.aload_n 0, 1) := by decide +kernel
theorem dX8_statementBy_241 : decode cX8_statementBy 241 = .ok (.bipush 30, 2) := by decide +kernel
theorem dX8_statementBy_243 : decode cX8_statementBy 243 = .ok (.iconst 0, 1) := by decide +kernel
theorem dX8_statementBy_244 : decode cX8_statementBy 244 = .ok (.invokevirtual 214, 3) := by decide +kernel
theorem dX8_statementBy_247 : decode cX8_statementBy 247 = .ok (.areturn, 1) := by decide +kernel
theorem dX8_statementBy_179 : decode cX8_statementBy 179 = .ok (.aload_n 0, 1) := by decide +kernel
theorem dX8_statementBy_180 : decode cX8_statementBy 180 = .ok (.invokevirtual 205, 3) := by decide +kernel
theorem dX8_statementBy_183 : decode cX8_statementBy 183 = .ok (.areturn, 1) := by decide +kernel
theorem dX8_statementBy_169 : decode cX8_statementBy 169 = .ok (.aload_n 0, 1) := by decide +kernel
theorem dX8_statementBy_170 : decode cX8_statementBy 170 = .ok (.invokevirtual 199, 3) := by decide +kernel
theorem dX8_statementBy_173 : decode cX8_statementBy 173 = .ok (.areturn, 1) := by decide +kernel
theorem dX8_statementBy_189 : decode cX8_statementBy 189 = .ok (.aload_n 0, 1) := by decide +kernel
theorem dX8_statementBy_190 : decode cX8_statementBy 190 = .ok (.invokevirtual 211, 3) := by decide +kernel
theorem dX8_statementBy_193 : decode cX8_statementBy 193 = .ok (.areturn, 1) := by decide +kernel
theorem dX8_statementBy_194 : decode cX8_statementBy 194 = .ok (.aload_n 0, 1) := by decide +kernel
theorem dX8_statementBy_195 : decode cX8_statementBy 195 = .ok (.bipush 28, 2) := by decide +kernel
theorem dX8_statementBy_197 : decode cX8_statementBy 197 = .ok (.aload_n 0, 1) := by decide +kernel
theorem dX8_statementBy_198 : decode cX8_statementBy 198 = .ok (.getfield 7, 3) := by decide +kernel
theorem dX8_statementBy_201 : decode cX8_statementBy 201 = .ok (.aload_n 0, 1) := by decide +kernel
theorem dX8_statementBy_202 : decode cX8_statementBy 202 = .ok (.getfield 17, 3) := by decide +kernel
theorem dX8_statementBy_205 : decode cX8_statementBy 205 = .ok (.iconst 1, 1) := by decide +kernel
theorem dX8_statementBy_206 : decode cX8_statementBy 206 = .ok (.iadd, 1) := by decide +kernel
theorem dX8_statementBy_207 : decode cX8_statementBy 207 = .ok (.invokevirtual 57, 3) := by decide +kernel
theorem dX8_statementBy_210 : decode cX8_statementBy 210 = .ok (.bipush 38, 2) := by decide +kernel
theorem dX8_statementBy_212 : decode cX8_statementBy 212 = .ok (.if_icmp .eq 7, 3) := by decide +kernel
theorem dX8_statementBy_219 : decode cX8_statementBy 219 = .ok (.iconst 0, 1) := by decide +kernel
theorem dX8_statementBy_220 : decode cX8_statementBy 220 = .ok (.invokevirtual 214, 3) := by decide +kernel
theorem dX8_statementBy_223 : decode cX8_statementBy 223 = .ok (.areturn, 1) := by decide +kernel
theorem dX8_statementBy_215 : decode cX8_statementBy 215 = .ok (.iconst 1, 1) := by decide +kernel
theorem dX8_statementBy_216 : decode cX8_statementBy 216 = .ok (.goto 4, 3) := by decide +kernel
theorem dX8_statementBy_224 : decode cX8_statementBy 224 = .ok (.aload_n 0, 1) := by decide +kernel
theorem dX8_statementBy_225 : decode cX8_statementBy 225 = .ok (.bipush 31, 2) := by decide +kernel
theorem dX8_statementBy_227 : decode cX8_statementBy 227 = .ok (.iconst 1, 1) := by decide +kernel
theorem dX8_statementBy_228 : decode cX8_statementBy 228 = .ok (.invokevirtual 214, 3) := by decide +kernel
theorem dX8_statementBy_231 : decode cX8_statementBy 231 = .ok (.areturn, 1) := by decide +kernel
theorem dX8_statementBy_184 : decode cX8_statementBy 184 = .ok (.aload_n 0, 1) := by decide +kernel
theorem dX8_statementBy_185 : decode cX8_statementBy 185 = .ok (.invokevirtual 208, 3) := by decide +kernel
theorem dX8_statementBy_188 : decode cX8_statementBy 188 = .ok (.areturn, 1) := by decide +kernel
theorem dX8_statementBy_174 : decode cX8_statementBy 174 = .ok (.aload_n 0, 1) := by decide +kernel
theorem dX8_statementBy_175 : decode cX8_statementBy 175 = .ok (.invokevirtual 202, 3) := by decide +kernel
theorem dX8_statementBy_178 : decode cX8_statementBy 178 = .ok (.areturn, 1) := by decide +kernel
theorem dX8_statementBy_164 : decode cX8_statementBy 164 = .ok (.aload_n 0, 1) := by decide +kernel
theorem dX8_statementBy_165 : decode cX8_statementBy 165 = .ok (.invokevirtual 120, 3) := by decide +kernel
theorem dX8_statementBy_168 : decode cX8_statementBy 168 = .ok (.areturn, 1) := by decide +kernel
theorem dX8_statementBy_248 : decode cX8_statementBy 248 = .ok (.new 143, 3) := by decide +kernel
theorem dX8_statementBy_251 : decode cX8_statementBy 251 = .ok (.dup, 1) := by decide +kernel
theorem dX8_statementBy_252 : decode cX8_statementBy 252 = .ok (.bipush 34, 2) := by decide +kernel
theorem dX8_statementBy_254 : decode cX8_statementBy 254 = .ok (.aload_n 0, 1) := by decide +kernel
theorem dX8_statementBy_255 : decode cX8_statementBy 255 = .ok (.bipush 38, 2) := by decide +kernel
theorem dX8_statementBy_257 : decode cX8_statementBy 257 = .ok (.invokevirtual 53, 3) := by decide +kernel
theorem dX8_statementBy_260 : decode cX8_statementBy 260 = .ok (.aload_n 0, 1) := by decide +kernel
theorem dX8_statementBy_261 : decode cX8_statementBy 261 = .ok (.getfield 17, 3) := by decide +kernel
theorem dX8_statementBy_264 : decode cX8_statementBy 264 = .ok (.iconst 1, 1) := by decide +kernel
theorem dX8_statementBy_265 : decode cX8_statementBy 265 = .ok (.isub, 1) := by decide +kernel
theorem dX8_statementBy_266 : decode cX8_statementBy 266 = .ok (.invokespecial 145, 3) := by decide +kernel
theorem dX8_statementBy_269 : decode cX8_statementBy 269 = .ok (.areturn, 1) := by decide +kernel
theorem hV_X8_wordStatement : yX8_wordStatement.cls = RX8 ∧ yX8_wordStatement.cls ≠ "java/lang/invoke/MethodHandle" ∧ yX8_wordStatement.cls ≠ "java/lang/invoke/VarHandle" ∧ (parseMethodDescriptor yX8_wordStatement.desc).map (fun d => d.parameters.length) = some 2 := by decide +kernel
theorem hV_X8_forStatement : yX8_forStatement.cls = RX8 ∧ yX8_forStatement.cls ≠ "java/lang/invoke/MethodHandle" ∧ yX8_forStatement.cls ≠ "java/lang/invoke/VarHandle" ∧ (parseMethodDescriptor yX8_forStatement.desc).map (fun d => d.parameters.length) = some 0 := by decide +kernel
theorem hV_X8_ifStatement : yX8_ifStatement.cls = RX8 ∧ yX8_ifStatement.cls ≠ "java/lang/invoke/MethodHandle" ∧ yX8_ifStatement.cls ≠ "java/lang/invoke/VarHandle" ∧ (parseMethodDescriptor yX8_ifStatement.desc).map (fun d => d.parameters.length) = some 0 := by decide +kernel
theorem hV_X8_printStatement : yX8_printStatement.cls = RX8 ∧ yX8_printStatement.cls ≠ "java/lang/invoke/MethodHandle" ∧ yX8_printStatement.cls ≠ "java/lang/invoke/VarHandle" ∧ (parseMethodDescriptor yX8_printStatement.desc).map (fun d => d.parameters.length) = some 0 := by decide +kernel
theorem hV_X8_tryStatement : yX8_tryStatement.cls = RX8 ∧ yX8_tryStatement.cls ≠ "java/lang/invoke/MethodHandle" ∧ yX8_tryStatement.cls ≠ "java/lang/invoke/VarHandle" ∧ (parseMethodDescriptor yX8_tryStatement.desc).map (fun d => d.parameters.length) = some 0 := by decide +kernel
theorem hV_X8_whileStatement : yX8_whileStatement.cls = RX8 ∧ yX8_whileStatement.cls ≠ "java/lang/invoke/MethodHandle" ∧ yX8_whileStatement.cls ≠ "java/lang/invoke/VarHandle" ∧ (parseMethodDescriptor yX8_whileStatement.desc).map (fun d => d.parameters.length) = some 0 := by decide +kernel
set_option maxHeartbeats 40000000 in
set_option maxRecDepth 100000 in
theorem P_statementBy (l : Launch) (G : pT) (h0 : Nat) (a : Nat → Nat) (F : Nat → Int32) (R : Nat → Value) (Z : Int64) (B : Nat → Nat → Int32) (J : Nat → Nat → Int64) (K : PK) (w : va_W) (x : Int32) (n : Nat) (at9 : Nat) (sz : Nat) (dp : Nat) (sg : Nat) (O : Nat) (g : Nat → Nat → Nat) (hsz : sz ≤ 5000) (hat : at9 ≤ sz) (hdp : dp + n = 20) (hsg : sg ≤ 60) (hwn : WN K g) (how : ∀ o : Nat, O = o + 1 → K.1 o = 1 ∧ g 0 o = 0 ∧ ¬ K.2.1 0 o = 32) (ist : PSt l G n) (hkx : x = 67 ∨ ∃ t : Nat, nI at9 = nI t ∧ t < sz) (hO : OKP G h0 a (upd (upd (upd (upd F 2 (nI sz)) 9 (nI at9)) 10 (nI dp)) 11 (nI sg)) R Z B J K w) (hl0 : l.stackTraces = false) : PBn l G pX0 yX8_statementBy cX8_statementBy 3 (some (.object "JinjaTongue$Node")) ({ frames := (50 * n + 62), cells := (2 * (sz - at9) + 20), slots := (11 * (2 * (sz - at9) + 20)), locals := (1500 * n + 1700) }) [.ref (a 3), .int x] w (fun (v : Option Value) (u : va_W × (Nat × PK × (Nat → Nat → Nat) × Nat × Nat × (Nat → Int32))) => v = some (.ref u.2.1) ∧ (NwR K u.2.2.1 g u.2.2.2.1 u.2.1 O at9 ((173 + 3 * (20 - dp)))) ∧ (at9 + 1 ≤ u.2.2.2.2.1 ∧ u.2.2.2.2.1 ≤ sz) ∧ (sg ≤ u.2.2.2.2.2.1 ∧ u.2.2.2.2.2.1 ≤ 60) ∧ (OKP G h0 a (upd (upd (upd (upd F 2 (nI sz)) 9 (nI u.2.2.2.2.1)) 10 (nI dp)) 11 (nI u.2.2.2.2.2.1)) R Z (updA B 10 u.2.2.2.2.2.2) J u.2.2.1 u.1)) (fun u => u.1) (fun (u : va_W × (Nat × PK × (Nat → Nat → Nat) × Nat × Nat × (Nat → Int32))) => (2 * (u.2.2.2.2.1 - at9) - 1)) (fun (u : va_W × (Nat × PK × (Nat → Nat → Nat) × Nat × Nat × (Nat → Int32))) => (11 * (2 * (u.2.2.2.2.1 - at9) - 1))) (fun (u : va_W × (Nat → Int32) × (Nat → Value) × (Nat → Nat → Int32)) => ThQ G h0 a (upd (upd (upd (upd F 2 (nI sz)) 9 (nI at9)) 10 (nI dp)) 11 (nI sg)) Z B J u) (fun u => u.1) := by
  intro sz
  refine vx_ofW (cc := cX8_statementBy) (maxL := 3) (ret := (some (.object "JinjaTongue$Node"))) (by decide) rfl ?_
  intro p e s m args below meth c s₁ B9 hml hnt hv
  obtain ⟨rfl, hsz, hP, hD0, hE, hX⟩ := hv
  have hx := B9.exec
  have hb := B9.bytes
  have hr := B9.returns
  have hts := atoms_spec (ws := Cond.code yX8_statementBy cX8_statementBy 3 (some (.object "JinjaTongue$Node")) :: pw) B9.pre
  have hq : ∀ w ∈ pw, w.before _ s = true := fun w h => hts w (List.mem_cons_of_mem _ h)
  have hown : s.vm.findClass RX8 = some m.cls := findClass_of_methodNamed B9.named
  have hlocks := B9.notSynchronized
  subst hsz
  have hD := hD0.self (sz := s.heap.size)
  have hA : ∀ q : Nat, s.heap.size ≤ q → va_A w s.heap.size q := fun q h => Or.inr h
  generalize va_A w s.heap.size = A at hD hE hA ⊢
  have hS : va_S A s.heap s.heap [] := va_S.rf
  have hl := lv_entry ([.ref (a 3), .int x]) (n := 3) (Nat.le_of_ble_eq_true rfl)
  rw [lg_entry_eq]
  generalize (lg_sl ([.ref (a 3), .int x]) ++ List.replicate (3 - (lg_sl ([.ref (a 3), .int x])).length) Slot.unset).toArray = ls at hl ⊢
  have hl : lv_has ls 3 [(0, .ref (a 3)), (1, .int x)] := hl
  have hns0 : NwS K K g g := NwS.nil hwn
  have cut_d : ∀ (H : Heap) (locs : List Loc) (ls : Array Slot) (w : va_W), va_P G.1 pCl w H → va_D A w → va_S A s.heap H locs → OKP G h0 a (upd (upd (upd (upd F 2 (nI sz)) 9 (nI at9)) 10 (nI dp)) 11 (nI sg)) R Z B J K w → lv_has ls 3 [(0, .ref (a 3))] → W p l e (headSpec (Cond.code yX8_statementBy cX8_statementBy 3 (some (.object "JinjaTongue$Node")) :: pw) ({ frames := (50 * n + 62), cells := (2 * (sz - at9) + 20), slots := (11 * (2 * (sz - at9) + 20)), locals := (1500 * n + 1700) } : Room)).room s m ([.ref (a 3), .int x] : List Value).toArray below meth c H locs 0 0 (vx_MQ below (pQn G A (fun (v : Option Value) (u : va_W × (Nat × PK × (Nat → Nat → Nat) × Nat × Nat × (Nat → Int32))) => v = some (.ref u.2.1) ∧ (NwR K u.2.2.1 g u.2.2.2.1 u.2.1 O at9 ((173 + 3 * (20 - dp)))) ∧ (at9 + 1 ≤ u.2.2.2.2.1 ∧ u.2.2.2.2.1 ≤ sz) ∧ (sg ≤ u.2.2.2.2.2.1 ∧ u.2.2.2.2.2.1 ≤ 60) ∧ (OKP G h0 a (upd (upd (upd (upd F 2 (nI sz)) 9 (nI u.2.2.2.2.1)) 10 (nI dp)) 11 (nI u.2.2.2.2.2.1)) R Z (updA B 10 u.2.2.2.2.2.2) J u.2.2.1 u.1)) (fun u => u.1) (fun (u : va_W × (Nat × PK × (Nat → Nat → Nat) × Nat × Nat × (Nat → Int32))) => (2 * (u.2.2.2.2.1 - at9) - 1)) (fun (u : va_W × (Nat × PK × (Nat → Nat → Nat) × Nat × Nat × (Nat → Int32))) => (11 * (2 * (u.2.2.2.2.1 - at9) - 1)))) (pXX G A (fun (u : va_W × (Nat → Int32) × (Nat → Value) × (Nat → Nat → Int32)) => ThQ G h0 a (upd (upd (upd (upd F 2 (nI sz)) 9 (nI at9)) 10 (nI dp)) 11 (nI sg)) Z B J u) (fun u => u.1)) ([.ref (a 3), .int x] : List Value).toArray s ({ frames := (50 * n + 62), cells := (2 * (sz - at9) + 20), slots := (11 * (2 * (sz - at9) + 20)), locals := (1500 * n + 1700) } : Room).cells ({ frames := (50 * n + 62), cells := (2 * (sz - at9) + 20), slots := (11 * (2 * (sz - at9) + 20)), locals := (1500 * n + 1700) } : Room).slots A) (F0 m 270 ls []) := by
    intro H locs ls w hP hD hS hO hl
    refine lv_aload_n hx hb dX8_statementBy_270 rfl (lv_at hl 0 rfl) ?_
    refine lv_iconst (v := 1) hx hb dX8_statementBy_271 (by decide) ?_
    have hO : OKP G h0 a (upd (upd (upd (upd (upd (upd (upd (upd F 2 (nI sz)) 9 (nI at9)) 10 (nI dp)) 11 (nI sg)) 2 (nI sz)) 9 (nI at9)) 10 (nI dp)) 11 (nI sg)) R Z B J K w := hO.to rfl
    obtain ⟨_, qr4, hqr5⟩ := hO.2.1 23 _ (sg_23 G h0 a _ _ _ _ _)
    refine pn_V0 (G := G) (As := [.int (nI 1)]) (rest := []) hx hb hml hown hq hE hX pX0_al hP hD hS hA hl.1 (P_simple l G h0 a (upd (upd (upd (upd F 2 (nI sz)) 9 (nI at9)) 10 (nI dp)) 11 (nI sg)) R Z B J K w 1 n at9 sz dp sg O g (by omega) (by omega) hdp (by omega) hwn how (by omega) hO hl0) (gV pw_1018 pw_1019 pw_1020 pw_796 pw_994) hV_X8_simple qr4 5 hqr5 rfl rfl rfl (Nat.le_of_ble_eq_true rfl) dX8_statementBy_272 ⟨(by show 0 + (2 * (sz - at9) + 20) ≤ (2 * (sz - at9) + 20); omega), (by show 0 + (11 * (2 * (sz - at9) + 20)) ≤ (11 * (2 * (sz - at9) + 20)); omega)⟩ ⟨(by show (40 * n + 44) + 1 ≤ (50 * n + 62); omega), (by show 8 + (5 + 11) + (1300 * n + 1400) ≤ (1500 * n + 1700); omega)⟩ (fun v3 u1 H locs hw2 hP hD hS => ?_) (fun ux ce9 q9 H9 locs9 hux hP9 hD9 hS9 hce hcv hcl => pb_out ux (ThQ.up (Thx.same (Thx.same (Thx.same (Thx.same Thx.rfl rfl) rfl) rfl) rfl) hux) hnt hlocks hce hcv hcl hP9 hD9 hS9 (by show 0 + (2 * (sz - at9) + 20) ≤ (2 * (sz - at9) + 20); omega) (by show 0 + (11 * (2 * (sz - at9) + 20)) ≤ (11 * (2 * (sz - at9) + 20)); omega))
    obtain ⟨w, r6, K7, g8, at10, sg11, f12⟩ := u1
    obtain ⟨hw2, h13, h14, h15, hO⟩ := hw2
    have h13 : NwR K K7 g g8 r6 O at9 (168) := h13
    have h14 : at9 + 1 ≤ at10 ∧ at10 ≤ sz := h14
    have h15 : sg ≤ sg11 ∧ sg11 ≤ 60 := h15
    obtain rfl : v3 = some (.ref r6) := hw2
    have hO : OKP G h0 a (upd (upd (upd (upd F 2 (nI sz)) 9 (nI at10)) 10 (nI dp)) 11 (nI sg11)) R Z (updA B 10 f12) J K7 w := hO.to rfl
    refine W.widen (k := (2 * (at10 - at9) - 0)) (n := (11 * (2 * (at10 - at9) - 0))) (by show 0 + (2 * (at10 - at9) - 0) ≤ (2 * (at10 - at9) - 0); omega) (by show 0 + (11 * (2 * (at10 - at9) - 0)) ≤ (11 * (2 * (at10 - at9) - 0)); omega) ?_
    refine W.eq (g2 := F0 m 275 ls [.ref r6]) rfl ?_
    refine lv_astore_n (lv' := [(2, .ref r6), (0, .ref (a 3))]) hx hb dX8_statementBy_275 rfl hl (by decide) rfl (fun ls hl => ?_)
    refine lv_aload_n hx hb dX8_statementBy_276 rfl (lv_at hl 1 rfl) ?_
    refine lv_bipush (v := 38) hx hb dX8_statementBy_277 (by decide) ?_
    have hO : OKW G h0 a (upd (upd (upd (upd (upd (upd (upd (upd F 2 (nI sz)) 9 (nI at9)) 10 (nI dp)) 11 (nI sg)) 9 (nI at10)) 11 (nI sg11)) 2 (nI sz)) 9 (nI at10)) R Z (updA B 10 f12) J K7.1 (fun q99 x99 => x99 = rep G a K7 q99) w := hO.to rfl
    obtain ⟨_, qr19, hqr20⟩ := hO.2.1 23 _ (sg_23 G h0 a _ _ _ _ _)
    refine pn_V0 (G := G) (As := [.int 38]) (rest := []) hx hb hml hown hq hE hX pX0_al hP hD hS hA hl.1 (P_take l G h0 a (upd (upd (upd (upd (upd (upd F 2 (nI sz)) 9 (nI at9)) 10 (nI dp)) 11 (nI sg)) 9 (nI at10)) 11 (nI sg11)) R Z (updA B 10 f12) J K7.1 (fun q99 x99 => x99 = rep G a K7 q99) w 38 at10 sz (by omega) (by omega) (by decide) hO hl0) (gV pw_793 pw_794 pw_795 pw_796 pw_781) hV_X8_take qr19 5 hqr20 rfl rfl rfl (Nat.le_of_ble_eq_true rfl) dX8_statementBy_279 ⟨(by show (2 * (at10 - at9) - 0) + 1 ≤ (2 * (sz - at9) + 20); omega), (by show (11 * (2 * (at10 - at9) - 0)) + 6 ≤ (11 * (2 * (sz - at9) + 20)); omega)⟩ ⟨(by show 7 + 1 ≤ (50 * n + 62); omega), (by show 8 + (2 + 11) + 122 ≤ (1500 * n + 1700); omega)⟩ (fun v18 u16 H locs hw17 hP hD hS => ?_) (fun ux ce9 q9 H9 locs9 hux hP9 hD9 hS9 hce hcv hcl => pb_out ux (ThQ.up (Thx.same (Thx.same (Thx.b (Thx.f (Thx.f Thx.rfl (by omega)) (by omega)) (by omega) (by decide)) rfl) rfl) hux) hnt hlocks hce hcv hcl hP9 hD9 hS9 (by show (2 * (at10 - at9) - 0) + 1 ≤ (2 * (sz - at9) + 20); omega) (by show (11 * (2 * (at10 - at9) - 0)) + 6 ≤ (11 * (2 * (sz - at9) + 20)); omega))
    obtain ⟨w, _⟩ := u16
    obtain ⟨hw17, h21, hO⟩ := hw17
    have h21 : at10 + 1 ≤ sz := h21
    obtain rfl : v18 = some (.int (nI at10)) := hw17
    have hO : OKP G h0 a (upd (upd (upd (upd F 2 (nI sz)) 9 (nI (at10 + 1))) 10 (nI dp)) 11 (nI sg11)) R Z (updA B 10 f12) J K7 w := hO.to rfl
    refine W.widen (k := (2 * (at10 - at9) - 0)) (n := (11 * (2 * (at10 - at9) - 0))) (by show (2 * (at10 - at9) - 0) + 0 ≤ (2 * (at10 - at9) - 0); omega) (by show (11 * (2 * (at10 - at9) - 0)) + 0 ≤ (11 * (2 * (at10 - at9) - 0)); omega) ?_
    refine W.eq (g2 := F0 m 282 ls [.int (nI at10)]) rfl ?_
    refine lv_pop hx hb dX8_statementBy_282 rfl ?_
    refine lv_aload_n hx hb dX8_statementBy_283 rfl (lv_at hl 0 rfl) ?_
    refine W_size (fun hz1 hz2 => ?_)
    refine vx_ret ?_
    have hz22 : NwR K K7 g g8 r6 O at9 ((173 + 3 * (20 - dp))) := (NwR.up h13 (by omega))
    have hz23 : at9 + 1 ≤ (at10 + 1) ∧ (at10 + 1) ≤ sz := (by omega)
    have hz24 : sg ≤ sg11 ∧ sg11 ≤ 60 := (by omega)
    have hO : OKP G h0 a (upd (upd (upd (upd F 2 (nI sz)) 9 (nI (at10 + 1))) 10 (nI dp)) 11 (nI sg11)) R Z (updA B 10 f12) J K7 w := hO.to rfl
    refine W.widen (k := (2 * (sz - at9) + 20)) (n := (11 * (2 * (sz - at9) + 20))) (by omega) (by omega) ?_
    have hzz1 : H.size ≤ s.heap.size + ((2 * ((at10 + 1) - at9) - 1)) := (by have z : (2 * (at10 - at9) - 0) ≤ (2 * ((at10 + 1) - at9) - 1) := (by omega); omega)
    have hzz2 : hSl H ≤ hSl s.heap + ((11 * (2 * ((at10 + 1) - at9) - 1))) := (by have z : (11 * (2 * (at10 - at9) - 0)) ≤ (11 * (2 * ((at10 + 1) - at9) - 1)) := (by omega); omega)
    exact W.aret (v := .ref r6) hx hb hr (Or.inl ⟨_, rfl⟩) (Or.inr ⟨_, rfl⟩) (fun t99 ht99 hW99 => ⟨⟨_, (w, (r6, K7, g8, (at10 + 1), sg11, f12)), rfl, ⟨rfl, hz22, hz23, hz24, hO⟩, by rw [ht99]; exact hP, hD, by rw [ht99]; exact hzz1, by rw [ht99]; exact hzz2⟩, hS.F ht99⟩) hS.2.2 dX8_statementBy_284
  refine lv_iload_n hx hb dX8_statementBy_0 rfl (lv_at hl 1 rfl) ?_
  by_cases h25 : x = 2
  · subst h25
    refine lv_tableIn (tgt := 232) (off := 231) hx hb dX8_statementBy_1 (by decide) (by decide) (by decide) (by decide) ?_
    have htk : at9 < sz := tok_in hkx rfl (by decide : ¬ (2 : Int32) = 67) (by omega) hsz
    refine lv_aload_n hx hb dX8_statementBy_232 rfl (lv_at hl 0 rfl) ?_
    refine lv_bipush (v := 29) hx hb dX8_statementBy_233 (by decide) ?_
    refine lv_iconst (v := 0) hx hb dX8_statementBy_235 (by decide) ?_
    have hO : OKP G h0 a (upd (upd (upd (upd (upd (upd F 2 (nI sz)) 9 (nI at9)) 10 (nI dp)) 11 (nI sg)) 2 (nI sz)) 9 (nI at9)) R Z B J K w := hO.to rfl
    obtain ⟨_, qr29, hqr30⟩ := hO.2.1 23 _ (sg_23 G h0 a _ _ _ _ _)
    refine pn_V0 (G := G) (As := [.int 29, .int 0]) (rest := []) hx hb hml hown hq hE hX pX0_al hP hD hS hA hl.1 (P_word0 l G h0 a (upd (upd (upd (upd F 2 (nI sz)) 9 (nI at9)) 10 (nI dp)) 11 (nI sg)) R Z B J K w 29 at9 sz O g (by omega) (by omega) hwn (fun o9 h9 => ⟨(how o9 h9).1, fun z => (by rw [(how o9 h9).2.1] at z; omega), (how o9 h9).2.2⟩) (by omega) (fun C => ⟨fun z => absurd z (by decide), fun z => absurd z (by decide), fun z => absurd z (by decide), fun z => absurd z (by decide), fun z => absurd z (by decide)⟩) hO hl0) (gV pw_1048 pw_1049 pw_1050 pw_796 pw_1002) hV_X8_wordStatement qr29 5 hqr30 rfl rfl rfl (Nat.le_of_ble_eq_true rfl) dX8_statementBy_236 ⟨(by show 0 + 2 ≤ (2 * (sz - at9) + 20); omega), (by show 0 + 17 ≤ (11 * (2 * (sz - at9) + 20)); omega)⟩ ⟨(by show 8 + 1 ≤ (50 * n + 62); omega), (by show 8 + (4 + 11) + 143 ≤ (1500 * n + 1700); omega)⟩ (fun v28 u26 H locs hw27 hP hD hS => ?_) (fun ux ce9 q9 H9 locs9 hux hP9 hD9 hS9 hce hcv hcl => pb_out ux (ThQ.up (Thx.same (Thx.same Thx.rfl rfl) rfl) hux) hnt hlocks hce hcv hcl hP9 hD9 hS9 (by show 0 + 2 ≤ (2 * (sz - at9) + 20); omega) (by show 0 + 17 ≤ (11 * (2 * (sz - at9) + 20)); omega))
    obtain ⟨w, r31, K32, g33⟩ := u26
    obtain ⟨hw27, h34, h35, h36, hO⟩ := hw27
    have h34 : NwR K K32 g g33 r31 O at9 1 := h34
    have h35 : K32.2.1 0 r31 = 29 := h35
    have h36 : at9 + 2 ≤ sz := h36
    obtain rfl : v28 = some (.ref r31) := hw27
    have hO : OKP G h0 a (upd (upd (upd (upd F 2 (nI sz)) 9 (nI (at9 + 2))) 10 (nI dp)) 11 (nI sg)) R Z B J K32 w := hO.to rfl
    refine W.widen (k := 1) (n := 11) (by show 0 + 1 ≤ 1; omega) (by show 0 + 11 ≤ 11; omega) ?_
    refine W.eq (g2 := F0 m 239 ls [.ref r31]) rfl ?_
    refine W_size (fun hz1 hz2 => ?_)
    refine vx_ret ?_
    have hz37 : NwR K K32 g g33 r31 O at9 ((173 + 3 * (20 - dp))) := (NwR.up h34 (by omega))
    have hz38 : at9 + 1 ≤ (at9 + 2) ∧ (at9 + 2) ≤ sz := (by omega)
    have hz39 : sg ≤ sg ∧ sg ≤ 60 := (by omega)
    have hO : OKP G h0 a (upd (upd (upd (upd F 2 (nI sz)) 9 (nI (at9 + 2))) 10 (nI dp)) 11 (nI sg)) R Z (updA B 10 (B 10)) J K32 w := hO.to rfl
    refine W.widen (k := (2 * (sz - at9) + 20)) (n := (11 * (2 * (sz - at9) + 20))) (by omega) (by omega) ?_
    have hzz1 : H.size ≤ s.heap.size + ((2 * ((at9 + 2) - at9) - 1)) := (by have z : 1 ≤ (2 * ((at9 + 2) - at9) - 1) := (by omega); omega)
    have hzz2 : hSl H ≤ hSl s.heap + ((11 * (2 * ((at9 + 2) - at9) - 1))) := (by have z : 11 ≤ (11 * (2 * ((at9 + 2) - at9) - 1)) := (by omega); omega)
    exact W.aret (v := .ref r31) hx hb hr (Or.inl ⟨_, rfl⟩) (Or.inr ⟨_, rfl⟩) (fun t99 ht99 hW99 => ⟨⟨_, (w, (r31, K32, g33, (at9 + 2), sg, (B 10))), rfl, ⟨rfl, hz37, hz38, hz39, hO⟩, by rw [ht99]; exact hP, hD, by rw [ht99]; exact hzz1, by rw [ht99]; exact hzz2⟩, hS.F ht99⟩) hS.2.2 dX8_statementBy_239
  by_cases h40 : x = 3
  · subst h40
    refine lv_tableIn (tgt := 270) (off := 269) hx hb dX8_statementBy_1 (by decide) (by decide) (by decide) (by decide) ?_
    have hO : OKP G h0 a (upd (upd (upd (upd F 2 (nI sz)) 9 (nI at9)) 10 (nI dp)) 11 (nI sg)) R Z B J K w := hO.to rfl
    exact cut_d _ _ _ _ hP hD hS hO (lv_sub hl [0] rfl)
  by_cases h41 : x = 4
  · subst h41
    refine lv_tableIn (tgt := 270) (off := 269) hx hb dX8_statementBy_1 (by decide) (by decide) (by decide) (by decide) ?_
    have hO : OKP G h0 a (upd (upd (upd (upd F 2 (nI sz)) 9 (nI at9)) 10 (nI dp)) 11 (nI sg)) R Z B J K w := hO.to rfl
    exact cut_d _ _ _ _ hP hD hS hO (lv_sub hl [0] rfl)
  by_cases h42 : x = 5
  · subst h42
    refine lv_tableIn (tgt := 240) (off := 239) hx hb dX8_statementBy_1 (by decide) (by decide) (by decide) (by decide) ?_
    have htk : at9 < sz := tok_in hkx rfl (by decide : ¬ (5 : Int32) = 67) (by omega) hsz
    refine lv_aload_n hx hb dX8_statementBy_240 rfl (lv_at hl 0 rfl) ?_
    refine lv_bipush (v := 30) hx hb dX8_statementBy_241 (by decide) ?_
    refine lv_iconst (v := 0) hx hb dX8_statementBy_243 (by decide) ?_
    have hO : OKP G h0 a (upd (upd (upd (upd (upd (upd F 2 (nI sz)) 9 (nI at9)) 10 (nI dp)) 11 (nI sg)) 2 (nI sz)) 9 (nI at9)) R Z B J K w := hO.to rfl
    obtain ⟨_, qr46, hqr47⟩ := hO.2.1 23 _ (sg_23 G h0 a _ _ _ _ _)
    refine pn_V0 (G := G) (As := [.int 30, .int 0]) (rest := []) hx hb hml hown hq hE hX pX0_al hP hD hS hA hl.1 (P_word0 l G h0 a (upd (upd (upd (upd F 2 (nI sz)) 9 (nI at9)) 10 (nI dp)) 11 (nI sg)) R Z B J K w 30 at9 sz O g (by omega) (by omega) hwn (fun o9 h9 => ⟨(how o9 h9).1, fun z => (by rw [(how o9 h9).2.1] at z; omega), (how o9 h9).2.2⟩) (by omega) (fun C => ⟨fun z => absurd z (by decide), fun z => absurd z (by decide), fun z => absurd z (by decide), fun z => absurd z (by decide), fun z => absurd z (by decide)⟩) hO hl0) (gV pw_1048 pw_1049 pw_1050 pw_796 pw_1002) hV_X8_wordStatement qr46 5 hqr47 rfl rfl rfl (Nat.le_of_ble_eq_true rfl) dX8_statementBy_244 ⟨(by show 0 + 2 ≤ (2 * (sz - at9) + 20); omega), (by show 0 + 17 ≤ (11 * (2 * (sz - at9) + 20)); omega)⟩ ⟨(by show 8 + 1 ≤ (50 * n + 62); omega), (by show 8 + (4 + 11) + 143 ≤ (1500 * n + 1700); omega)⟩ (fun v45 u43 H locs hw44 hP hD hS => ?_) (fun ux ce9 q9 H9 locs9 hux hP9 hD9 hS9 hce hcv hcl => pb_out ux (ThQ.up (Thx.same (Thx.same Thx.rfl rfl) rfl) hux) hnt hlocks hce hcv hcl hP9 hD9 hS9 (by show 0 + 2 ≤ (2 * (sz - at9) + 20); omega) (by show 0 + 17 ≤ (11 * (2 * (sz - at9) + 20)); omega))
    obtain ⟨w, r48, K49, g50⟩ := u43
    obtain ⟨hw44, h51, h52, h53, hO⟩ := hw44
    have h51 : NwR K K49 g g50 r48 O at9 1 := h51
    have h52 : K49.2.1 0 r48 = 30 := h52
    have h53 : at9 + 2 ≤ sz := h53
    obtain rfl : v45 = some (.ref r48) := hw44
    have hO : OKP G h0 a (upd (upd (upd (upd F 2 (nI sz)) 9 (nI (at9 + 2))) 10 (nI dp)) 11 (nI sg)) R Z B J K49 w := hO.to rfl
    refine W.widen (k := 1) (n := 11) (by show 0 + 1 ≤ 1; omega) (by show 0 + 11 ≤ 11; omega) ?_
    refine W.eq (g2 := F0 m 247 ls [.ref r48]) rfl ?_
    refine W_size (fun hz1 hz2 => ?_)
    refine vx_ret ?_
    have hz54 : NwR K K49 g g50 r48 O at9 ((173 + 3 * (20 - dp))) := (NwR.up h51 (by omega))
    have hz55 : at9 + 1 ≤ (at9 + 2) ∧ (at9 + 2) ≤ sz := (by omega)
    have hz56 : sg ≤ sg ∧ sg ≤ 60 := (by omega)
    have hO : OKP G h0 a (upd (upd (upd (upd F 2 (nI sz)) 9 (nI (at9 + 2))) 10 (nI dp)) 11 (nI sg)) R Z (updA B 10 (B 10)) J K49 w := hO.to rfl
    refine W.widen (k := (2 * (sz - at9) + 20)) (n := (11 * (2 * (sz - at9) + 20))) (by omega) (by omega) ?_
    have hzz1 : H.size ≤ s.heap.size + ((2 * ((at9 + 2) - at9) - 1)) := (by have z : 1 ≤ (2 * ((at9 + 2) - at9) - 1) := (by omega); omega)
    have hzz2 : hSl H ≤ hSl s.heap + ((11 * (2 * ((at9 + 2) - at9) - 1))) := (by have z : 11 ≤ (11 * (2 * ((at9 + 2) - at9) - 1)) := (by omega); omega)
    exact W.aret (v := .ref r48) hx hb hr (Or.inl ⟨_, rfl⟩) (Or.inr ⟨_, rfl⟩) (fun t99 ht99 hW99 => ⟨⟨_, (w, (r48, K49, g50, (at9 + 2), sg, (B 10))), rfl, ⟨rfl, hz54, hz55, hz56, hO⟩, by rw [ht99]; exact hP, hD, by rw [ht99]; exact hzz1, by rw [ht99]; exact hzz2⟩, hS.F ht99⟩) hS.2.2 dX8_statementBy_247
  by_cases h57 : x = 6
  · subst h57
    refine lv_tableIn (tgt := 270) (off := 269) hx hb dX8_statementBy_1 (by decide) (by decide) (by decide) (by decide) ?_
    have hO : OKP G h0 a (upd (upd (upd (upd F 2 (nI sz)) 9 (nI at9)) 10 (nI dp)) 11 (nI sg)) R Z B J K w := hO.to rfl
    exact cut_d _ _ _ _ hP hD hS hO (lv_sub hl [0] rfl)
  by_cases h58 : x = 7
  · subst h58
    refine lv_tableIn (tgt := 270) (off := 269) hx hb dX8_statementBy_1 (by decide) (by decide) (by decide) (by decide) ?_
    have hO : OKP G h0 a (upd (upd (upd (upd F 2 (nI sz)) 9 (nI at9)) 10 (nI dp)) 11 (nI sg)) R Z B J K w := hO.to rfl
    exact cut_d _ _ _ _ hP hD hS hO (lv_sub hl [0] rfl)
  by_cases h59 : x = 8
  · subst h59
    refine lv_tableIn (tgt := 270) (off := 269) hx hb dX8_statementBy_1 (by decide) (by decide) (by decide) (by decide) ?_
    have hO : OKP G h0 a (upd (upd (upd (upd F 2 (nI sz)) 9 (nI at9)) 10 (nI dp)) 11 (nI sg)) R Z B J K w := hO.to rfl
    exact cut_d _ _ _ _ hP hD hS hO (lv_sub hl [0] rfl)
  by_cases h60 : x = 9
  · subst h60
    refine lv_tableIn (tgt := 270) (off := 269) hx hb dX8_statementBy_1 (by decide) (by decide) (by decide) (by decide) ?_
    have hO : OKP G h0 a (upd (upd (upd (upd F 2 (nI sz)) 9 (nI at9)) 10 (nI dp)) 11 (nI sg)) R Z B J K w := hO.to rfl
    exact cut_d _ _ _ _ hP hD hS hO (lv_sub hl [0] rfl)
  by_cases h61 : x = 10
  · subst h61
    refine lv_tableIn (tgt := 179) (off := 178) hx hb dX8_statementBy_1 (by decide) (by decide) (by decide) (by decide) ?_
    have htk : at9 < sz := tok_in hkx rfl (by decide : ¬ (10 : Int32) = 67) (by omega) hsz
    refine lv_aload_n hx hb dX8_statementBy_179 rfl (lv_at hl 0 rfl) ?_
    have hO : OKP G h0 a (upd (upd (upd (upd (upd (upd (upd (upd F 2 (nI sz)) 9 (nI at9)) 10 (nI dp)) 11 (nI sg)) 2 (nI sz)) 9 (nI at9)) 10 (nI dp)) 11 (nI sg)) R Z B J K w := hO.to rfl
    obtain ⟨_, qr65, hqr66⟩ := hO.2.1 23 _ (sg_23 G h0 a _ _ _ _ _)
    refine pn_V0 (G := G) (As := []) (rest := []) hx hb hml hown hq hE hX pX0_al hP hD hS hA hl.1 (P_for l G h0 a (upd (upd (upd (upd F 2 (nI sz)) 9 (nI at9)) 10 (nI dp)) 11 (nI sg)) R Z B J K w n at9 sz dp sg O g (by omega) (by omega) hdp (by omega) hwn how (by omega) ist hO hl0) (gV pw_1039 pw_1040 pw_1041 pw_796 pw_1010) hV_X8_forStatement qr65 5 hqr66 rfl rfl rfl (Nat.le_of_ble_eq_true rfl) dX8_statementBy_180 ⟨(by show 0 + (2 * (sz - at9) + 20) ≤ (2 * (sz - at9) + 20); omega), (by show 0 + (11 * (2 * (sz - at9) + 20)) ≤ (11 * (2 * (sz - at9) + 20)); omega)⟩ ⟨(by show (50 * n + 58) + 1 ≤ (50 * n + 62); omega), (by show 8 + (2 + 11) + (1500 * n + 1650) ≤ (1500 * n + 1700); omega)⟩ (fun v64 u62 H locs hw63 hP hD hS => ?_) (fun ux ce9 q9 H9 locs9 hux hP9 hD9 hS9 hce hcv hcl => pb_out ux (ThQ.up (Thx.same (Thx.same (Thx.same (Thx.same Thx.rfl rfl) rfl) rfl) rfl) hux) hnt hlocks hce hcv hcl hP9 hD9 hS9 (by show 0 + (2 * (sz - at9) + 20) ≤ (2 * (sz - at9) + 20); omega) (by show 0 + (11 * (2 * (sz - at9) + 20)) ≤ (11 * (2 * (sz - at9) + 20)); omega))
    obtain ⟨w, r67, K68, g69, at70, sg71, f72⟩ := u62
    obtain ⟨hw63, h73, h74, h75, hO⟩ := hw63
    have h73 : NwR K K68 g g69 r67 O at9 ((173 + 3 * (20 - dp))) := h73
    have h74 : at9 + 6 ≤ at70 ∧ at70 ≤ sz := h74
    have h75 : sg ≤ sg71 ∧ sg71 ≤ 60 := h75
    obtain rfl : v64 = some (.ref r67) := hw63
    have hO : OKP G h0 a (upd (upd (upd (upd F 2 (nI sz)) 9 (nI at70)) 10 (nI dp)) 11 (nI sg71)) R Z (updA B 10 f72) J K68 w := hO.to rfl
    refine W.widen (k := (2 * (at70 - at9) - 6)) (n := (11 * (2 * (at70 - at9) - 6))) (by show 0 + (2 * (at70 - at9) - 6) ≤ (2 * (at70 - at9) - 6); omega) (by show 0 + (11 * (2 * (at70 - at9) - 6)) ≤ (11 * (2 * (at70 - at9) - 6)); omega) ?_
    refine W.eq (g2 := F0 m 183 ls [.ref r67]) rfl ?_
    refine W_size (fun hz1 hz2 => ?_)
    refine vx_ret ?_
    have hz76 : NwR K K68 g g69 r67 O at9 ((173 + 3 * (20 - dp))) := (NwR.up h73 (by omega))
    have hz77 : at9 + 1 ≤ at70 ∧ at70 ≤ sz := (by omega)
    have hz78 : sg ≤ sg71 ∧ sg71 ≤ 60 := (by omega)
    have hO : OKP G h0 a (upd (upd (upd (upd F 2 (nI sz)) 9 (nI at70)) 10 (nI dp)) 11 (nI sg71)) R Z (updA B 10 f72) J K68 w := hO.to rfl
    refine W.widen (k := (2 * (sz - at9) + 20)) (n := (11 * (2 * (sz - at9) + 20))) (by omega) (by omega) ?_
    have hzz1 : H.size ≤ s.heap.size + ((2 * (at70 - at9) - 1)) := (by have z : (2 * (at70 - at9) - 6) ≤ (2 * (at70 - at9) - 1) := (by omega); omega)
    have hzz2 : hSl H ≤ hSl s.heap + ((11 * (2 * (at70 - at9) - 1))) := (by have z : (11 * (2 * (at70 - at9) - 6)) ≤ (11 * (2 * (at70 - at9) - 1)) := (by omega); omega)
    exact W.aret (v := .ref r67) hx hb hr (Or.inl ⟨_, rfl⟩) (Or.inr ⟨_, rfl⟩) (fun t99 ht99 hW99 => ⟨⟨_, (w, (r67, K68, g69, at70, sg71, f72)), rfl, ⟨rfl, hz76, hz77, hz78, hO⟩, by rw [ht99]; exact hP, hD, by rw [ht99]; exact hzz1, by rw [ht99]; exact hzz2⟩, hS.F ht99⟩) hS.2.2 dX8_statementBy_183
  by_cases h79 : x = 11
  · subst h79
    refine lv_tableIn (tgt := 169) (off := 168) hx hb dX8_statementBy_1 (by decide) (by decide) (by decide) (by decide) ?_
    have htk : at9 < sz := tok_in hkx rfl (by decide : ¬ (11 : Int32) = 67) (by omega) hsz
    refine lv_aload_n hx hb dX8_statementBy_169 rfl (lv_at hl 0 rfl) ?_
    have hO : OKP G h0 a (upd (upd (upd (upd (upd (upd (upd (upd F 2 (nI sz)) 9 (nI at9)) 10 (nI dp)) 11 (nI sg)) 2 (nI sz)) 9 (nI at9)) 10 (nI dp)) 11 (nI sg)) R Z B J K w := hO.to rfl
    obtain ⟨_, qr83, hqr84⟩ := hO.2.1 23 _ (sg_23 G h0 a _ _ _ _ _)
    refine pn_V0 (G := G) (As := []) (rest := []) hx hb hml hown hq hE hX pX0_al hP hD hS hA hl.1 (P_if l G h0 a (upd (upd (upd (upd F 2 (nI sz)) 9 (nI at9)) 10 (nI dp)) 11 (nI sg)) R Z B J K w n at9 sz dp sg O g (by omega) (by omega) hdp (by omega) hwn how (by omega) ist hO hl0) (gV pw_1033 pw_1034 pw_1035 pw_796 pw_1021) hV_X8_ifStatement qr83 5 hqr84 rfl rfl rfl (Nat.le_of_ble_eq_true rfl) dX8_statementBy_170 ⟨(by show 0 + (2 * (sz - at9) + 20) ≤ (2 * (sz - at9) + 20); omega), (by show 0 + (11 * (2 * (sz - at9) + 20)) ≤ (11 * (2 * (sz - at9) + 20)); omega)⟩ ⟨(by show (50 * n + 58) + 1 ≤ (50 * n + 62); omega), (by show 8 + (2 + 11) + (1500 * n + 1650) ≤ (1500 * n + 1700); omega)⟩ (fun v82 u80 H locs hw81 hP hD hS => ?_) (fun ux ce9 q9 H9 locs9 hux hP9 hD9 hS9 hce hcv hcl => pb_out ux (ThQ.up (Thx.same (Thx.same (Thx.same (Thx.same Thx.rfl rfl) rfl) rfl) rfl) hux) hnt hlocks hce hcv hcl hP9 hD9 hS9 (by show 0 + (2 * (sz - at9) + 20) ≤ (2 * (sz - at9) + 20); omega) (by show 0 + (11 * (2 * (sz - at9) + 20)) ≤ (11 * (2 * (sz - at9) + 20)); omega))
    obtain ⟨w, r85, K86, g87, at88, sg89, f90⟩ := u80
    obtain ⟨hw81, h91, h92, h93, hO⟩ := hw81
    have h91 : NwR K K86 g g87 r85 O at9 ((173 + 3 * (20 - dp))) := h91
    have h92 : at9 + 5 ≤ at88 ∧ at88 ≤ sz := h92
    have h93 : sg ≤ sg89 ∧ sg89 ≤ 60 := h93
    obtain rfl : v82 = some (.ref r85) := hw81
    have hO : OKP G h0 a (upd (upd (upd (upd F 2 (nI sz)) 9 (nI at88)) 10 (nI dp)) 11 (nI sg89)) R Z (updA B 10 f90) J K86 w := hO.to rfl
    refine W.widen (k := (2 * (at88 - at9) - 5)) (n := (11 * (2 * (at88 - at9) - 5))) (by show 0 + (2 * (at88 - at9) - 5) ≤ (2 * (at88 - at9) - 5); omega) (by show 0 + (11 * (2 * (at88 - at9) - 5)) ≤ (11 * (2 * (at88 - at9) - 5)); omega) ?_
    refine W.eq (g2 := F0 m 173 ls [.ref r85]) rfl ?_
    refine W_size (fun hz1 hz2 => ?_)
    refine vx_ret ?_
    have hz94 : NwR K K86 g g87 r85 O at9 ((173 + 3 * (20 - dp))) := (NwR.up h91 (by omega))
    have hz95 : at9 + 1 ≤ at88 ∧ at88 ≤ sz := (by omega)
    have hz96 : sg ≤ sg89 ∧ sg89 ≤ 60 := (by omega)
    have hO : OKP G h0 a (upd (upd (upd (upd F 2 (nI sz)) 9 (nI at88)) 10 (nI dp)) 11 (nI sg89)) R Z (updA B 10 f90) J K86 w := hO.to rfl
    refine W.widen (k := (2 * (sz - at9) + 20)) (n := (11 * (2 * (sz - at9) + 20))) (by omega) (by omega) ?_
    have hzz1 : H.size ≤ s.heap.size + ((2 * (at88 - at9) - 1)) := (by have z : (2 * (at88 - at9) - 5) ≤ (2 * (at88 - at9) - 1) := (by omega); omega)
    have hzz2 : hSl H ≤ hSl s.heap + ((11 * (2 * (at88 - at9) - 1))) := (by have z : (11 * (2 * (at88 - at9) - 5)) ≤ (11 * (2 * (at88 - at9) - 1)) := (by omega); omega)
    exact W.aret (v := .ref r85) hx hb hr (Or.inl ⟨_, rfl⟩) (Or.inr ⟨_, rfl⟩) (fun t99 ht99 hW99 => ⟨⟨_, (w, (r85, K86, g87, at88, sg89, f90)), rfl, ⟨rfl, hz94, hz95, hz96, hO⟩, by rw [ht99]; exact hP, hD, by rw [ht99]; exact hzz1, by rw [ht99]; exact hzz2⟩, hS.F ht99⟩) hS.2.2 dX8_statementBy_173
  by_cases h97 : x = 12
  · subst h97
    refine lv_tableIn (tgt := 270) (off := 269) hx hb dX8_statementBy_1 (by decide) (by decide) (by decide) (by decide) ?_
    have hO : OKP G h0 a (upd (upd (upd (upd F 2 (nI sz)) 9 (nI at9)) 10 (nI dp)) 11 (nI sg)) R Z B J K w := hO.to rfl
    exact cut_d _ _ _ _ hP hD hS hO (lv_sub hl [0] rfl)
  by_cases h98 : x = 13
  · subst h98
    refine lv_tableIn (tgt := 270) (off := 269) hx hb dX8_statementBy_1 (by decide) (by decide) (by decide) (by decide) ?_
    have hO : OKP G h0 a (upd (upd (upd (upd F 2 (nI sz)) 9 (nI at9)) 10 (nI dp)) 11 (nI sg)) R Z B J K w := hO.to rfl
    exact cut_d _ _ _ _ hP hD hS hO (lv_sub hl [0] rfl)
  by_cases h99 : x = 14
  · subst h99
    refine lv_tableIn (tgt := 270) (off := 269) hx hb dX8_statementBy_1 (by decide) (by decide) (by decide) (by decide) ?_
    have hO : OKP G h0 a (upd (upd (upd (upd F 2 (nI sz)) 9 (nI at9)) 10 (nI dp)) 11 (nI sg)) R Z B J K w := hO.to rfl
    exact cut_d _ _ _ _ hP hD hS hO (lv_sub hl [0] rfl)
  by_cases h100 : x = 15
  · subst h100
    refine lv_tableIn (tgt := 270) (off := 269) hx hb dX8_statementBy_1 (by decide) (by decide) (by decide) (by decide) ?_
    have hO : OKP G h0 a (upd (upd (upd (upd F 2 (nI sz)) 9 (nI at9)) 10 (nI dp)) 11 (nI sg)) R Z B J K w := hO.to rfl
    exact cut_d _ _ _ _ hP hD hS hO (lv_sub hl [0] rfl)
  by_cases h101 : x = 16
  · subst h101
    refine lv_tableIn (tgt := 270) (off := 269) hx hb dX8_statementBy_1 (by decide) (by decide) (by decide) (by decide) ?_
    have hO : OKP G h0 a (upd (upd (upd (upd F 2 (nI sz)) 9 (nI at9)) 10 (nI dp)) 11 (nI sg)) R Z B J K w := hO.to rfl
    exact cut_d _ _ _ _ hP hD hS hO (lv_sub hl [0] rfl)
  by_cases h102 : x = 17
  · subst h102
    refine lv_tableIn (tgt := 270) (off := 269) hx hb dX8_statementBy_1 (by decide) (by decide) (by decide) (by decide) ?_
    have hO : OKP G h0 a (upd (upd (upd (upd F 2 (nI sz)) 9 (nI at9)) 10 (nI dp)) 11 (nI sg)) R Z B J K w := hO.to rfl
    exact cut_d _ _ _ _ hP hD hS hO (lv_sub hl [0] rfl)
  by_cases h103 : x = 18
  · subst h103
    refine lv_tableIn (tgt := 270) (off := 269) hx hb dX8_statementBy_1 (by decide) (by decide) (by decide) (by decide) ?_
    have hO : OKP G h0 a (upd (upd (upd (upd F 2 (nI sz)) 9 (nI at9)) 10 (nI dp)) 11 (nI sg)) R Z B J K w := hO.to rfl
    exact cut_d _ _ _ _ hP hD hS hO (lv_sub hl [0] rfl)
  by_cases h104 : x = 19
  · subst h104
    refine lv_tableIn (tgt := 189) (off := 188) hx hb dX8_statementBy_1 (by decide) (by decide) (by decide) (by decide) ?_
    have htk : at9 < sz := tok_in hkx rfl (by decide : ¬ (19 : Int32) = 67) (by omega) hsz
    refine lv_aload_n hx hb dX8_statementBy_189 rfl (lv_at hl 0 rfl) ?_
    have hO : OKP G h0 a (upd (upd (upd (upd (upd (upd (upd (upd F 2 (nI sz)) 9 (nI at9)) 10 (nI dp)) 11 (nI sg)) 2 (nI sz)) 9 (nI at9)) 10 (nI dp)) 11 (nI sg)) R Z B J K w := hO.to rfl
    obtain ⟨_, qr108, hqr109⟩ := hO.2.1 23 _ (sg_23 G h0 a _ _ _ _ _)
    refine pn_V0 (G := G) (As := []) (rest := []) hx hb hml hown hq hE hX pX0_al hP hD hS hA hl.1 (P_print l G h0 a (upd (upd (upd (upd F 2 (nI sz)) 9 (nI at9)) 10 (nI dp)) 11 (nI sg)) R Z B J K w n at9 sz dp sg O g (by omega) (by omega) hdp (by omega) hwn how (by omega) hO hl0) (gV pw_1045 pw_1046 pw_1047 pw_796 pw_1001) hV_X8_printStatement qr108 5 hqr109 rfl rfl rfl (Nat.le_of_ble_eq_true rfl) dX8_statementBy_190 ⟨(by show 0 + (2 * (sz - at9) + 20) ≤ (2 * (sz - at9) + 20); omega), (by show 0 + (11 * (2 * (sz - at9) + 20)) ≤ (11 * (2 * (sz - at9) + 20)); omega)⟩ ⟨(by show (40 * n + 44) + 1 ≤ (50 * n + 62); omega), (by show 8 + (2 + 11) + (1300 * n + 1400) ≤ (1500 * n + 1700); omega)⟩ (fun v107 u105 H locs hw106 hP hD hS => ?_) (fun ux ce9 q9 H9 locs9 hux hP9 hD9 hS9 hce hcv hcl => pb_out ux (ThQ.up (Thx.same (Thx.same (Thx.same (Thx.same Thx.rfl rfl) rfl) rfl) rfl) hux) hnt hlocks hce hcv hcl hP9 hD9 hS9 (by show 0 + (2 * (sz - at9) + 20) ≤ (2 * (sz - at9) + 20); omega) (by show 0 + (11 * (2 * (sz - at9) + 20)) ≤ (11 * (2 * (sz - at9) + 20)); omega))
    obtain ⟨w, r110, K111, g112, at113, sg114, f115⟩ := u105
    obtain ⟨hw106, h116, h117, h118, hO⟩ := hw106
    have h116 : NwR K K111 g g112 r110 O at9 ((173 + 3 * (20 - dp))) := h116
    have h117 : at9 + 5 ≤ at113 ∧ at113 ≤ sz := h117
    have h118 : sg ≤ sg114 ∧ sg114 ≤ 60 := h118
    obtain rfl : v107 = some (.ref r110) := hw106
    have hO : OKP G h0 a (upd (upd (upd (upd F 2 (nI sz)) 9 (nI at113)) 10 (nI dp)) 11 (nI sg114)) R Z (updA B 10 f115) J K111 w := hO.to rfl
    refine W.widen (k := (2 * (at113 - at9) - 5)) (n := (11 * (2 * (at113 - at9) - 5))) (by show 0 + (2 * (at113 - at9) - 5) ≤ (2 * (at113 - at9) - 5); omega) (by show 0 + (11 * (2 * (at113 - at9) - 5)) ≤ (11 * (2 * (at113 - at9) - 5)); omega) ?_
    refine W.eq (g2 := F0 m 193 ls [.ref r110]) rfl ?_
    refine W_size (fun hz1 hz2 => ?_)
    refine vx_ret ?_
    have hz119 : NwR K K111 g g112 r110 O at9 ((173 + 3 * (20 - dp))) := (NwR.up h116 (by omega))
    have hz120 : at9 + 1 ≤ at113 ∧ at113 ≤ sz := (by omega)
    have hz121 : sg ≤ sg114 ∧ sg114 ≤ 60 := (by omega)
    have hO : OKP G h0 a (upd (upd (upd (upd F 2 (nI sz)) 9 (nI at113)) 10 (nI dp)) 11 (nI sg114)) R Z (updA B 10 f115) J K111 w := hO.to rfl
    refine W.widen (k := (2 * (sz - at9) + 20)) (n := (11 * (2 * (sz - at9) + 20))) (by omega) (by omega) ?_
    have hzz1 : H.size ≤ s.heap.size + ((2 * (at113 - at9) - 1)) := (by have z : (2 * (at113 - at9) - 5) ≤ (2 * (at113 - at9) - 1) := (by omega); omega)
    have hzz2 : hSl H ≤ hSl s.heap + ((11 * (2 * (at113 - at9) - 1))) := (by have z : (11 * (2 * (at113 - at9) - 5)) ≤ (11 * (2 * (at113 - at9) - 1)) := (by omega); omega)
    exact W.aret (v := .ref r110) hx hb hr (Or.inl ⟨_, rfl⟩) (Or.inr ⟨_, rfl⟩) (fun t99 ht99 hW99 => ⟨⟨_, (w, (r110, K111, g112, at113, sg114, f115)), rfl, ⟨rfl, hz119, hz120, hz121, hO⟩, by rw [ht99]; exact hP, hD, by rw [ht99]; exact hzz1, by rw [ht99]; exact hzz2⟩, hS.F ht99⟩) hS.2.2 dX8_statementBy_193
  by_cases h122 : x = 20
  · subst h122
    refine lv_tableIn (tgt := 270) (off := 269) hx hb dX8_statementBy_1 (by decide) (by decide) (by decide) (by decide) ?_
    have hO : OKP G h0 a (upd (upd (upd (upd F 2 (nI sz)) 9 (nI at9)) 10 (nI dp)) 11 (nI sg)) R Z B J K w := hO.to rfl
    exact cut_d _ _ _ _ hP hD hS hO (lv_sub hl [0] rfl)
  by_cases h123 : x = 21
  · subst h123
    refine lv_tableIn (tgt := 194) (off := 193) hx hb dX8_statementBy_1 (by decide) (by decide) (by decide) (by decide) ?_
    have htk : at9 < sz := tok_in hkx rfl (by decide : ¬ (21 : Int32) = 67) (by omega) hsz
    refine lv_aload_n hx hb dX8_statementBy_194 rfl (lv_at hl 0 rfl) ?_
    refine lv_bipush (v := 28) hx hb dX8_statementBy_195 (by decide) ?_
    refine lv_aload_n hx hb dX8_statementBy_197 rfl (lv_at hl 0 rfl) ?_
    refine c_get (v := .ref (a 1)) (C := RX8) (Tc := TX8) (N := 5) (ci := 5) hx hb hq pin_wsX80 hown hE hP hO 23 (sg_23 G h0 a _ _ _ _ _) rfl 0 (by decide) (hq _ pw_774) (fun _ h9 => h9) rfl dX8_statementBy_198 ?_
    refine lv_aload_n hx hb dX8_statementBy_201 rfl (lv_at hl 0 rfl) ?_
    refine c_get (v := .int (nI at9)) (C := RX8) (Tc := TX8) (N := 5) (ci := 5) hx hb hq pin_wsX80 hown hE hP hO 23 (sg_23 G h0 a _ _ _ _ _) rfl 2 (by decide) (hq _ pw_776) (fun _ h9 => h9) rfl dX8_statementBy_202 ?_
    refine lv_iconst (v := 1) hx hb dX8_statementBy_205 (by decide) ?_
    refine lv_iadd hx hb dX8_statementBy_206 ?_
    refine lv_topi (fun x124 e125 => ?_)
    obtain rfl : x124 = nI (at9 + 1) := e125.trans (nI_add (at9) (1))
    have hO : OKW G h0 a (upd (upd (upd (upd (upd F 2 (nI sz)) 9 (nI at9)) 10 (nI dp)) 11 (nI sg)) 2 (nI sz)) R Z B J K.1 (fun q99 x99 => x99 = rep G a K q99) w := hO.to rfl
    obtain ⟨_, qr129, hqr130⟩ := hO.2.1 2 _ (sg_2 G h0 a _ _ _ _ _)
    refine pc_V0 (G := G) (As := [.int (nI (at9 + 1))]) (rest := [.int 28, .ref (a 3)]) hx hb hml hown hq hE hX pX0_al hP hD hS hA hl.1 (K_kindAt l G h0 a (upd (upd (upd (upd F 2 (nI sz)) 9 (nI at9)) 10 (nI dp)) 11 (nI sg)) R Z B J K.1 (fun q99 x99 => x99 = rep G a K q99) w (nI (at9 + 1)) sz (by omega) hO) (gV pw_777 pw_193 pw_194 pw_59 pw_126) hV_X10_kindAt qr129 7 hqr130 rfl rfl rfl (Nat.le_of_ble_eq_true rfl) dX8_statementBy_207 ⟨(by show 0 + 0 ≤ (2 * (sz - at9) + 20); omega), (by show 0 + 0 ≤ (11 * (2 * (sz - at9) + 20)); omega)⟩ ⟨(by show 2 + 1 ≤ (50 * n + 62); omega), (by show 8 + (2 + 11) + 60 ≤ (1500 * n + 1700); omega)⟩ (fun v128 u126 H locs hw127 hP hD hS => ?_)
    obtain ⟨w, r131⟩ := u126
    obtain ⟨hw127, h132, hO⟩ := hw127
    have h132 : r131 = 67 ∨ ∃ t : Nat, (nI (at9 + 1)) = nI t ∧ t < sz := h132
    obtain rfl : v128 = some (.int r131) := hw127
    have hO : OKP G h0 a (upd (upd (upd (upd F 2 (nI sz)) 9 (nI at9)) 10 (nI dp)) 11 (nI sg)) R Z B J K w := hO.to rfl
    refine W.widen (k := 0) (n := 0) (Nat.le_of_ble_eq_true rfl) (Nat.le_of_ble_eq_true rfl) ?_
    refine W.eq (g2 := F0 m 210 ls [.int r131, .int 28, .ref (a 3)]) rfl ?_
    refine lv_bipush (v := 38) hx hb dX8_statementBy_210 (by decide) ?_
    refine lv_icmp_eq (tgt := 219) hx hb dX8_statementBy_212 (by decide) (fun c133 => ?_) (fun c133 => ?_)
    · refine lv_iconst (v := 0) hx hb dX8_statementBy_219 (by decide) ?_
      have hO : OKP G h0 a (upd (upd (upd (upd (upd (upd F 2 (nI sz)) 9 (nI at9)) 10 (nI dp)) 11 (nI sg)) 2 (nI sz)) 9 (nI at9)) R Z B J K w := hO.to rfl
      obtain ⟨_, qr137, hqr138⟩ := hO.2.1 23 _ (sg_23 G h0 a _ _ _ _ _)
      refine pn_V0 (G := G) (As := [.int 28, .int 0]) (rest := []) hx hb hml hown hq hE hX pX0_al hP hD hS hA hl.1 (P_word0 l G h0 a (upd (upd (upd (upd F 2 (nI sz)) 9 (nI at9)) 10 (nI dp)) 11 (nI sg)) R Z B J K w 28 at9 sz O g (by omega) (by omega) hwn (fun o9 h9 => ⟨(how o9 h9).1, fun z => (by rw [(how o9 h9).2.1] at z; omega), (how o9 h9).2.2⟩) (by omega) (fun C => ⟨fun z => absurd z (by decide), fun z => absurd z (by decide), fun z => absurd z (by decide), fun z => absurd z (by decide), fun z => absurd z (by decide)⟩) hO hl0) (gV pw_1048 pw_1049 pw_1050 pw_796 pw_1002) hV_X8_wordStatement qr137 5 hqr138 rfl rfl rfl (Nat.le_of_ble_eq_true rfl) dX8_statementBy_220 ⟨(by show 0 + 2 ≤ (2 * (sz - at9) + 20); omega), (by show 0 + 17 ≤ (11 * (2 * (sz - at9) + 20)); omega)⟩ ⟨(by show 8 + 1 ≤ (50 * n + 62); omega), (by show 8 + (4 + 11) + 143 ≤ (1500 * n + 1700); omega)⟩ (fun v136 u134 H locs hw135 hP hD hS => ?_) (fun ux ce9 q9 H9 locs9 hux hP9 hD9 hS9 hce hcv hcl => pb_out ux (ThQ.up (Thx.same (Thx.same Thx.rfl rfl) rfl) hux) hnt hlocks hce hcv hcl hP9 hD9 hS9 (by show 0 + 2 ≤ (2 * (sz - at9) + 20); omega) (by show 0 + 17 ≤ (11 * (2 * (sz - at9) + 20)); omega))
      obtain ⟨w, r139, K140, g141⟩ := u134
      obtain ⟨hw135, h142, h143, h144, hO⟩ := hw135
      have h142 : NwR K K140 g g141 r139 O at9 1 := h142
      have h143 : K140.2.1 0 r139 = 28 := h143
      have h144 : at9 + 2 ≤ sz := h144
      obtain rfl : v136 = some (.ref r139) := hw135
      have hO : OKP G h0 a (upd (upd (upd (upd F 2 (nI sz)) 9 (nI (at9 + 2))) 10 (nI dp)) 11 (nI sg)) R Z B J K140 w := hO.to rfl
      refine W.widen (k := 1) (n := 11) (by show 0 + 1 ≤ 1; omega) (by show 0 + 11 ≤ 11; omega) ?_
      refine W.eq (g2 := F0 m 223 ls [.ref r139]) rfl ?_
      refine W_size (fun hz1 hz2 => ?_)
      refine vx_ret ?_
      have hz145 : NwR K K140 g g141 r139 O at9 ((173 + 3 * (20 - dp))) := (NwR.up h142 (by omega))
      have hz146 : at9 + 1 ≤ (at9 + 2) ∧ (at9 + 2) ≤ sz := (by omega)
      have hz147 : sg ≤ sg ∧ sg ≤ 60 := (by omega)
      have hO : OKP G h0 a (upd (upd (upd (upd F 2 (nI sz)) 9 (nI (at9 + 2))) 10 (nI dp)) 11 (nI sg)) R Z (updA B 10 (B 10)) J K140 w := hO.to rfl
      refine W.widen (k := (2 * (sz - at9) + 20)) (n := (11 * (2 * (sz - at9) + 20))) (by omega) (by omega) ?_
      have hzz1 : H.size ≤ s.heap.size + ((2 * ((at9 + 2) - at9) - 1)) := (by have z : 1 ≤ (2 * ((at9 + 2) - at9) - 1) := (by omega); omega)
      have hzz2 : hSl H ≤ hSl s.heap + ((11 * (2 * ((at9 + 2) - at9) - 1))) := (by have z : 11 ≤ (11 * (2 * ((at9 + 2) - at9) - 1)) := (by omega); omega)
      exact W.aret (v := .ref r139) hx hb hr (Or.inl ⟨_, rfl⟩) (Or.inr ⟨_, rfl⟩) (fun t99 ht99 hW99 => ⟨⟨_, (w, (r139, K140, g141, (at9 + 2), sg, (B 10))), rfl, ⟨rfl, hz145, hz146, hz147, hO⟩, by rw [ht99]; exact hP, hD, by rw [ht99]; exact hzz1, by rw [ht99]; exact hzz2⟩, hS.F ht99⟩) hS.2.2 dX8_statementBy_223
    · refine lv_iconst (v := 1) hx hb dX8_statementBy_215 (by decide) ?_
      refine lv_goto (tgt := 220) hx hb dX8_statementBy_216 (by decide) ?_
      have hO : OKP G h0 a (upd (upd (upd (upd (upd (upd (upd (upd F 2 (nI sz)) 9 (nI at9)) 10 (nI dp)) 11 (nI sg)) 2 (nI sz)) 9 (nI at9)) 10 (nI dp)) 11 (nI sg)) R Z B J K w := hO.to rfl
      obtain ⟨_, qr151, hqr152⟩ := hO.2.1 23 _ (sg_23 G h0 a _ _ _ _ _)
      refine pn_V0 (G := G) (As := [.int 28, .int 1]) (rest := []) hx hb hml hown hq hE hX pX0_al hP hD hS hA hl.1 (P_word1 l G h0 a (upd (upd (upd (upd F 2 (nI sz)) 9 (nI at9)) 10 (nI dp)) 11 (nI sg)) R Z B J K w 28 n at9 sz dp sg O g (by omega) (by omega) hdp (by omega) hwn how (by omega) (by decide) hO hl0) (gV pw_1048 pw_1049 pw_1050 pw_796 pw_1002) hV_X8_wordStatement qr151 5 hqr152 rfl rfl rfl (Nat.le_of_ble_eq_true rfl) dX8_statementBy_220 ⟨(by show 0 + (2 * (sz - at9) + 20) ≤ (2 * (sz - at9) + 20); omega), (by show 0 + (11 * (2 * (sz - at9) + 20)) ≤ (11 * (2 * (sz - at9) + 20)); omega)⟩ ⟨(by show (40 * n + 44) + 1 ≤ (50 * n + 62); omega), (by show 8 + (4 + 11) + (1300 * n + 1400) ≤ (1500 * n + 1700); omega)⟩ (fun v150 u148 H locs hw149 hP hD hS => ?_) (fun ux ce9 q9 H9 locs9 hux hP9 hD9 hS9 hce hcv hcl => pb_out ux (ThQ.up (Thx.same (Thx.same (Thx.same (Thx.same Thx.rfl rfl) rfl) rfl) rfl) hux) hnt hlocks hce hcv hcl hP9 hD9 hS9 (by show 0 + (2 * (sz - at9) + 20) ≤ (2 * (sz - at9) + 20); omega) (by show 0 + (11 * (2 * (sz - at9) + 20)) ≤ (11 * (2 * (sz - at9) + 20)); omega))
      obtain ⟨w, r153, K154, g155, at156, sg157, f158⟩ := u148
      obtain ⟨hw149, h159, h160, h161, hO⟩ := hw149
      have h159 : NwR K K154 g g155 r153 O at9 ((173 + 3 * (20 - dp))) := h159
      have h160 : at9 + 3 ≤ at156 ∧ at156 ≤ sz := h160
      have h161 : sg ≤ sg157 ∧ sg157 ≤ 60 := h161
      obtain rfl : v150 = some (.ref r153) := hw149
      have hO : OKP G h0 a (upd (upd (upd (upd F 2 (nI sz)) 9 (nI at156)) 10 (nI dp)) 11 (nI sg157)) R Z (updA B 10 f158) J K154 w := hO.to rfl
      refine W.widen (k := (2 * (at156 - at9) - 4)) (n := (11 * (2 * (at156 - at9) - 4))) (by show 0 + (2 * (at156 - at9) - 4) ≤ (2 * (at156 - at9) - 4); omega) (by show 0 + (11 * (2 * (at156 - at9) - 4)) ≤ (11 * (2 * (at156 - at9) - 4)); omega) ?_
      refine W.eq (g2 := F0 m 223 ls [.ref r153]) rfl ?_
      refine W_size (fun hz1 hz2 => ?_)
      refine vx_ret ?_
      have hz162 : NwR K K154 g g155 r153 O at9 ((173 + 3 * (20 - dp))) := (NwR.up h159 (by omega))
      have hz163 : at9 + 1 ≤ at156 ∧ at156 ≤ sz := (by omega)
      have hz164 : sg ≤ sg157 ∧ sg157 ≤ 60 := (by omega)
      have hO : OKP G h0 a (upd (upd (upd (upd F 2 (nI sz)) 9 (nI at156)) 10 (nI dp)) 11 (nI sg157)) R Z (updA B 10 f158) J K154 w := hO.to rfl
      refine W.widen (k := (2 * (sz - at9) + 20)) (n := (11 * (2 * (sz - at9) + 20))) (by omega) (by omega) ?_
      have hzz1 : H.size ≤ s.heap.size + ((2 * (at156 - at9) - 1)) := (by have z : (2 * (at156 - at9) - 4) ≤ (2 * (at156 - at9) - 1) := (by omega); omega)
      have hzz2 : hSl H ≤ hSl s.heap + ((11 * (2 * (at156 - at9) - 1))) := (by have z : (11 * (2 * (at156 - at9) - 4)) ≤ (11 * (2 * (at156 - at9) - 1)) := (by omega); omega)
      exact W.aret (v := .ref r153) hx hb hr (Or.inl ⟨_, rfl⟩) (Or.inr ⟨_, rfl⟩) (fun t99 ht99 hW99 => ⟨⟨_, (w, (r153, K154, g155, at156, sg157, f158)), rfl, ⟨rfl, hz162, hz163, hz164, hO⟩, by rw [ht99]; exact hP, hD, by rw [ht99]; exact hzz1, by rw [ht99]; exact hzz2⟩, hS.F ht99⟩) hS.2.2 dX8_statementBy_223
  by_cases h165 : x = 22
  · subst h165
    refine lv_tableIn (tgt := 270) (off := 269) hx hb dX8_statementBy_1 (by decide) (by decide) (by decide) (by decide) ?_
    have hO : OKP G h0 a (upd (upd (upd (upd F 2 (nI sz)) 9 (nI at9)) 10 (nI dp)) 11 (nI sg)) R Z B J K w := hO.to rfl
    exact cut_d _ _ _ _ hP hD hS hO (lv_sub hl [0] rfl)
  by_cases h166 : x = 23
  · subst h166
    refine lv_tableIn (tgt := 270) (off := 269) hx hb dX8_statementBy_1 (by decide) (by decide) (by decide) (by decide) ?_
    have hO : OKP G h0 a (upd (upd (upd (upd F 2 (nI sz)) 9 (nI at9)) 10 (nI dp)) 11 (nI sg)) R Z B J K w := hO.to rfl
    exact cut_d _ _ _ _ hP hD hS hO (lv_sub hl [0] rfl)
  by_cases h167 : x = 24
  · subst h167
    refine lv_tableIn (tgt := 224) (off := 223) hx hb dX8_statementBy_1 (by decide) (by decide) (by decide) (by decide) ?_
    have htk : at9 < sz := tok_in hkx rfl (by decide : ¬ (24 : Int32) = 67) (by omega) hsz
    refine lv_aload_n hx hb dX8_statementBy_224 rfl (lv_at hl 0 rfl) ?_
    refine lv_bipush (v := 31) hx hb dX8_statementBy_225 (by decide) ?_
    refine lv_iconst (v := 1) hx hb dX8_statementBy_227 (by decide) ?_
    have hO : OKP G h0 a (upd (upd (upd (upd (upd (upd (upd (upd F 2 (nI sz)) 9 (nI at9)) 10 (nI dp)) 11 (nI sg)) 2 (nI sz)) 9 (nI at9)) 10 (nI dp)) 11 (nI sg)) R Z B J K w := hO.to rfl
    obtain ⟨_, qr171, hqr172⟩ := hO.2.1 23 _ (sg_23 G h0 a _ _ _ _ _)
    refine pn_V0 (G := G) (As := [.int 31, .int 1]) (rest := []) hx hb hml hown hq hE hX pX0_al hP hD hS hA hl.1 (P_word1 l G h0 a (upd (upd (upd (upd F 2 (nI sz)) 9 (nI at9)) 10 (nI dp)) 11 (nI sg)) R Z B J K w 31 n at9 sz dp sg O g (by omega) (by omega) hdp (by omega) hwn how (by omega) (by decide) hO hl0) (gV pw_1048 pw_1049 pw_1050 pw_796 pw_1002) hV_X8_wordStatement qr171 5 hqr172 rfl rfl rfl (Nat.le_of_ble_eq_true rfl) dX8_statementBy_228 ⟨(by show 0 + (2 * (sz - at9) + 20) ≤ (2 * (sz - at9) + 20); omega), (by show 0 + (11 * (2 * (sz - at9) + 20)) ≤ (11 * (2 * (sz - at9) + 20)); omega)⟩ ⟨(by show (40 * n + 44) + 1 ≤ (50 * n + 62); omega), (by show 8 + (4 + 11) + (1300 * n + 1400) ≤ (1500 * n + 1700); omega)⟩ (fun v170 u168 H locs hw169 hP hD hS => ?_) (fun ux ce9 q9 H9 locs9 hux hP9 hD9 hS9 hce hcv hcl => pb_out ux (ThQ.up (Thx.same (Thx.same (Thx.same (Thx.same Thx.rfl rfl) rfl) rfl) rfl) hux) hnt hlocks hce hcv hcl hP9 hD9 hS9 (by show 0 + (2 * (sz - at9) + 20) ≤ (2 * (sz - at9) + 20); omega) (by show 0 + (11 * (2 * (sz - at9) + 20)) ≤ (11 * (2 * (sz - at9) + 20)); omega))
    obtain ⟨w, r173, K174, g175, at176, sg177, f178⟩ := u168
    obtain ⟨hw169, h179, h180, h181, hO⟩ := hw169
    have h179 : NwR K K174 g g175 r173 O at9 ((173 + 3 * (20 - dp))) := h179
    have h180 : at9 + 3 ≤ at176 ∧ at176 ≤ sz := h180
    have h181 : sg ≤ sg177 ∧ sg177 ≤ 60 := h181
    obtain rfl : v170 = some (.ref r173) := hw169
    have hO : OKP G h0 a (upd (upd (upd (upd F 2 (nI sz)) 9 (nI at176)) 10 (nI dp)) 11 (nI sg177)) R Z (updA B 10 f178) J K174 w := hO.to rfl
    refine W.widen (k := (2 * (at176 - at9) - 4)) (n := (11 * (2 * (at176 - at9) - 4))) (by show 0 + (2 * (at176 - at9) - 4) ≤ (2 * (at176 - at9) - 4); omega) (by show 0 + (11 * (2 * (at176 - at9) - 4)) ≤ (11 * (2 * (at176 - at9) - 4)); omega) ?_
    refine W.eq (g2 := F0 m 231 ls [.ref r173]) rfl ?_
    refine W_size (fun hz1 hz2 => ?_)
    refine vx_ret ?_
    have hz182 : NwR K K174 g g175 r173 O at9 ((173 + 3 * (20 - dp))) := (NwR.up h179 (by omega))
    have hz183 : at9 + 1 ≤ at176 ∧ at176 ≤ sz := (by omega)
    have hz184 : sg ≤ sg177 ∧ sg177 ≤ 60 := (by omega)
    have hO : OKP G h0 a (upd (upd (upd (upd F 2 (nI sz)) 9 (nI at176)) 10 (nI dp)) 11 (nI sg177)) R Z (updA B 10 f178) J K174 w := hO.to rfl
    refine W.widen (k := (2 * (sz - at9) + 20)) (n := (11 * (2 * (sz - at9) + 20))) (by omega) (by omega) ?_
    have hzz1 : H.size ≤ s.heap.size + ((2 * (at176 - at9) - 1)) := (by have z : (2 * (at176 - at9) - 4) ≤ (2 * (at176 - at9) - 1) := (by omega); omega)
    have hzz2 : hSl H ≤ hSl s.heap + ((11 * (2 * (at176 - at9) - 1))) := (by have z : (11 * (2 * (at176 - at9) - 4)) ≤ (11 * (2 * (at176 - at9) - 1)) := (by omega); omega)
    exact W.aret (v := .ref r173) hx hb hr (Or.inl ⟨_, rfl⟩) (Or.inr ⟨_, rfl⟩) (fun t99 ht99 hW99 => ⟨⟨_, (w, (r173, K174, g175, at176, sg177, f178)), rfl, ⟨rfl, hz182, hz183, hz184, hO⟩, by rw [ht99]; exact hP, hD, by rw [ht99]; exact hzz1, by rw [ht99]; exact hzz2⟩, hS.F ht99⟩) hS.2.2 dX8_statementBy_231
  by_cases h185 : x = 25
  · subst h185
    refine lv_tableIn (tgt := 270) (off := 269) hx hb dX8_statementBy_1 (by decide) (by decide) (by decide) (by decide) ?_
    have hO : OKP G h0 a (upd (upd (upd (upd F 2 (nI sz)) 9 (nI at9)) 10 (nI dp)) 11 (nI sg)) R Z B J K w := hO.to rfl
    exact cut_d _ _ _ _ hP hD hS hO (lv_sub hl [0] rfl)
  by_cases h186 : x = 26
  · subst h186
    refine lv_tableIn (tgt := 184) (off := 183) hx hb dX8_statementBy_1 (by decide) (by decide) (by decide) (by decide) ?_
    have htk : at9 < sz := tok_in hkx rfl (by decide : ¬ (26 : Int32) = 67) (by omega) hsz
    refine lv_aload_n hx hb dX8_statementBy_184 rfl (lv_at hl 0 rfl) ?_
    have hO : OKP G h0 a (upd (upd (upd (upd (upd (upd (upd (upd F 2 (nI sz)) 9 (nI at9)) 10 (nI dp)) 11 (nI sg)) 2 (nI sz)) 9 (nI at9)) 10 (nI dp)) 11 (nI sg)) R Z B J K w := hO.to rfl
    obtain ⟨_, qr190, hqr191⟩ := hO.2.1 23 _ (sg_23 G h0 a _ _ _ _ _)
    refine pn_V0 (G := G) (As := []) (rest := []) hx hb hml hown hq hE hX pX0_al hP hD hS hA hl.1 (P_try l G h0 a (upd (upd (upd (upd F 2 (nI sz)) 9 (nI at9)) 10 (nI dp)) 11 (nI sg)) R Z B J K w n at9 sz dp sg O g (by omega) (by omega) hdp (by omega) hwn how (by omega) ist hO hl0) (gV pw_1042 pw_1043 pw_1044 pw_796 pw_1051) hV_X8_tryStatement qr190 5 hqr191 rfl rfl rfl (Nat.le_of_ble_eq_true rfl) dX8_statementBy_185 ⟨(by show 0 + (2 * (sz - at9) + 20) ≤ (2 * (sz - at9) + 20); omega), (by show 0 + (11 * (2 * (sz - at9) + 20)) ≤ (11 * (2 * (sz - at9) + 20)); omega)⟩ ⟨(by show (50 * n + 58) + 1 ≤ (50 * n + 62); omega), (by show 8 + (5 + 11) + (1500 * n + 1650) ≤ (1500 * n + 1700); omega)⟩ (fun v189 u187 H locs hw188 hP hD hS => ?_) (fun ux ce9 q9 H9 locs9 hux hP9 hD9 hS9 hce hcv hcl => pb_out ux (ThQ.up (Thx.same (Thx.same (Thx.same (Thx.same Thx.rfl rfl) rfl) rfl) rfl) hux) hnt hlocks hce hcv hcl hP9 hD9 hS9 (by show 0 + (2 * (sz - at9) + 20) ≤ (2 * (sz - at9) + 20); omega) (by show 0 + (11 * (2 * (sz - at9) + 20)) ≤ (11 * (2 * (sz - at9) + 20)); omega))
    obtain ⟨w, r192, K193, g194, at195, sg196, f197⟩ := u187
    obtain ⟨hw188, h198, h199, h200, hO⟩ := hw188
    have h198 : NwR K K193 g g194 r192 O at9 ((173 + 3 * (20 - dp))) := h198
    have h199 : at9 + 3 ≤ at195 ∧ at195 ≤ sz := h199
    have h200 : sg ≤ sg196 ∧ sg196 ≤ 60 := h200
    obtain rfl : v189 = some (.ref r192) := hw188
    have hO : OKP G h0 a (upd (upd (upd (upd F 2 (nI sz)) 9 (nI at195)) 10 (nI dp)) 11 (nI sg196)) R Z (updA B 10 f197) J K193 w := hO.to rfl
    refine W.widen (k := (2 * (at195 - at9) - 4)) (n := (11 * (2 * (at195 - at9) - 4))) (by show 0 + (2 * (at195 - at9) - 4) ≤ (2 * (at195 - at9) - 4); omega) (by show 0 + (11 * (2 * (at195 - at9) - 4)) ≤ (11 * (2 * (at195 - at9) - 4)); omega) ?_
    refine W.eq (g2 := F0 m 188 ls [.ref r192]) rfl ?_
    refine W_size (fun hz1 hz2 => ?_)
    refine vx_ret ?_
    have hz201 : NwR K K193 g g194 r192 O at9 ((173 + 3 * (20 - dp))) := (NwR.up h198 (by omega))
    have hz202 : at9 + 1 ≤ at195 ∧ at195 ≤ sz := (by omega)
    have hz203 : sg ≤ sg196 ∧ sg196 ≤ 60 := (by omega)
    have hO : OKP G h0 a (upd (upd (upd (upd F 2 (nI sz)) 9 (nI at195)) 10 (nI dp)) 11 (nI sg196)) R Z (updA B 10 f197) J K193 w := hO.to rfl
    refine W.widen (k := (2 * (sz - at9) + 20)) (n := (11 * (2 * (sz - at9) + 20))) (by omega) (by omega) ?_
    have hzz1 : H.size ≤ s.heap.size + ((2 * (at195 - at9) - 1)) := (by have z : (2 * (at195 - at9) - 4) ≤ (2 * (at195 - at9) - 1) := (by omega); omega)
    have hzz2 : hSl H ≤ hSl s.heap + ((11 * (2 * (at195 - at9) - 1))) := (by have z : (11 * (2 * (at195 - at9) - 4)) ≤ (11 * (2 * (at195 - at9) - 1)) := (by omega); omega)
    exact W.aret (v := .ref r192) hx hb hr (Or.inl ⟨_, rfl⟩) (Or.inr ⟨_, rfl⟩) (fun t99 ht99 hW99 => ⟨⟨_, (w, (r192, K193, g194, at195, sg196, f197)), rfl, ⟨rfl, hz201, hz202, hz203, hO⟩, by rw [ht99]; exact hP, hD, by rw [ht99]; exact hzz1, by rw [ht99]; exact hzz2⟩, hS.F ht99⟩) hS.2.2 dX8_statementBy_188
  by_cases h204 : x = 27
  · subst h204
    refine lv_tableIn (tgt := 270) (off := 269) hx hb dX8_statementBy_1 (by decide) (by decide) (by decide) (by decide) ?_
    have hO : OKP G h0 a (upd (upd (upd (upd F 2 (nI sz)) 9 (nI at9)) 10 (nI dp)) 11 (nI sg)) R Z B J K w := hO.to rfl
    exact cut_d _ _ _ _ hP hD hS hO (lv_sub hl [0] rfl)
  by_cases h205 : x = 28
  · subst h205
    refine lv_tableIn (tgt := 174) (off := 173) hx hb dX8_statementBy_1 (by decide) (by decide) (by decide) (by decide) ?_
    have htk : at9 < sz := tok_in hkx rfl (by decide : ¬ (28 : Int32) = 67) (by omega) hsz
    refine lv_aload_n hx hb dX8_statementBy_174 rfl (lv_at hl 0 rfl) ?_
    have hO : OKP G h0 a (upd (upd (upd (upd (upd (upd (upd (upd F 2 (nI sz)) 9 (nI at9)) 10 (nI dp)) 11 (nI sg)) 2 (nI sz)) 9 (nI at9)) 10 (nI dp)) 11 (nI sg)) R Z B J K w := hO.to rfl
    obtain ⟨_, qr209, hqr210⟩ := hO.2.1 23 _ (sg_23 G h0 a _ _ _ _ _)
    refine pn_V0 (G := G) (As := []) (rest := []) hx hb hml hown hq hE hX pX0_al hP hD hS hA hl.1 (P_while l G h0 a (upd (upd (upd (upd F 2 (nI sz)) 9 (nI at9)) 10 (nI dp)) 11 (nI sg)) R Z B J K w n at9 sz dp sg O g (by omega) (by omega) hdp (by omega) hwn how (by omega) ist hO hl0) (gV pw_1036 pw_1037 pw_1038 pw_796 pw_1055) hV_X8_whileStatement qr209 5 hqr210 rfl rfl rfl (Nat.le_of_ble_eq_true rfl) dX8_statementBy_175 ⟨(by show 0 + (2 * (sz - at9) + 20) ≤ (2 * (sz - at9) + 20); omega), (by show 0 + (11 * (2 * (sz - at9) + 20)) ≤ (11 * (2 * (sz - at9) + 20)); omega)⟩ ⟨(by show (50 * n + 58) + 1 ≤ (50 * n + 62); omega), (by show 8 + (2 + 11) + (1500 * n + 1650) ≤ (1500 * n + 1700); omega)⟩ (fun v208 u206 H locs hw207 hP hD hS => ?_) (fun ux ce9 q9 H9 locs9 hux hP9 hD9 hS9 hce hcv hcl => pb_out ux (ThQ.up (Thx.same (Thx.same (Thx.same (Thx.same Thx.rfl rfl) rfl) rfl) rfl) hux) hnt hlocks hce hcv hcl hP9 hD9 hS9 (by show 0 + (2 * (sz - at9) + 20) ≤ (2 * (sz - at9) + 20); omega) (by show 0 + (11 * (2 * (sz - at9) + 20)) ≤ (11 * (2 * (sz - at9) + 20)); omega))
    obtain ⟨w, r211, K212, g213, at214, sg215, f216⟩ := u206
    obtain ⟨hw207, h217, h218, h219, hO⟩ := hw207
    have h217 : NwR K K212 g g213 r211 O at9 ((173 + 3 * (20 - dp))) := h217
    have h218 : at9 + 5 ≤ at214 ∧ at214 ≤ sz := h218
    have h219 : sg ≤ sg215 ∧ sg215 ≤ 60 := h219
    obtain rfl : v208 = some (.ref r211) := hw207
    have hO : OKP G h0 a (upd (upd (upd (upd F 2 (nI sz)) 9 (nI at214)) 10 (nI dp)) 11 (nI sg215)) R Z (updA B 10 f216) J K212 w := hO.to rfl
    refine W.widen (k := (2 * (at214 - at9) - 5)) (n := (11 * (2 * (at214 - at9) - 5))) (by show 0 + (2 * (at214 - at9) - 5) ≤ (2 * (at214 - at9) - 5); omega) (by show 0 + (11 * (2 * (at214 - at9) - 5)) ≤ (11 * (2 * (at214 - at9) - 5)); omega) ?_
    refine W.eq (g2 := F0 m 178 ls [.ref r211]) rfl ?_
    refine W_size (fun hz1 hz2 => ?_)
    refine vx_ret ?_
    have hz220 : NwR K K212 g g213 r211 O at9 ((173 + 3 * (20 - dp))) := (NwR.up h217 (by omega))
    have hz221 : at9 + 1 ≤ at214 ∧ at214 ≤ sz := (by omega)
    have hz222 : sg ≤ sg215 ∧ sg215 ≤ 60 := (by omega)
    have hO : OKP G h0 a (upd (upd (upd (upd F 2 (nI sz)) 9 (nI at214)) 10 (nI dp)) 11 (nI sg215)) R Z (updA B 10 f216) J K212 w := hO.to rfl
    refine W.widen (k := (2 * (sz - at9) + 20)) (n := (11 * (2 * (sz - at9) + 20))) (by omega) (by omega) ?_
    have hzz1 : H.size ≤ s.heap.size + ((2 * (at214 - at9) - 1)) := (by have z : (2 * (at214 - at9) - 5) ≤ (2 * (at214 - at9) - 1) := (by omega); omega)
    have hzz2 : hSl H ≤ hSl s.heap + ((11 * (2 * (at214 - at9) - 1))) := (by have z : (11 * (2 * (at214 - at9) - 5)) ≤ (11 * (2 * (at214 - at9) - 1)) := (by omega); omega)
    exact W.aret (v := .ref r211) hx hb hr (Or.inl ⟨_, rfl⟩) (Or.inr ⟨_, rfl⟩) (fun t99 ht99 hW99 => ⟨⟨_, (w, (r211, K212, g213, at214, sg215, f216)), rfl, ⟨rfl, hz220, hz221, hz222, hO⟩, by rw [ht99]; exact hP, hD, by rw [ht99]; exact hzz1, by rw [ht99]; exact hzz2⟩, hS.F ht99⟩) hS.2.2 dX8_statementBy_178
  by_cases h223 : x = 29
  · subst h223
    refine lv_tableIn (tgt := 270) (off := 269) hx hb dX8_statementBy_1 (by decide) (by decide) (by decide) (by decide) ?_
    have hO : OKP G h0 a (upd (upd (upd (upd F 2 (nI sz)) 9 (nI at9)) 10 (nI dp)) 11 (nI sg)) R Z B J K w := hO.to rfl
    exact cut_d _ _ _ _ hP hD hS hO (lv_sub hl [0] rfl)
  by_cases h224 : x = 30
  · subst h224
    refine lv_tableIn (tgt := 270) (off := 269) hx hb dX8_statementBy_1 (by decide) (by decide) (by decide) (by decide) ?_
    have hO : OKP G h0 a (upd (upd (upd (upd F 2 (nI sz)) 9 (nI at9)) 10 (nI dp)) 11 (nI sg)) R Z B J K w := hO.to rfl
    exact cut_d _ _ _ _ hP hD hS hO (lv_sub hl [0] rfl)
  by_cases h225 : x = 31
  · subst h225
    refine lv_tableIn (tgt := 270) (off := 269) hx hb dX8_statementBy_1 (by decide) (by decide) (by decide) (by decide) ?_
    have hO : OKP G h0 a (upd (upd (upd (upd F 2 (nI sz)) 9 (nI at9)) 10 (nI dp)) 11 (nI sg)) R Z B J K w := hO.to rfl
    exact cut_d _ _ _ _ hP hD hS hO (lv_sub hl [0] rfl)
  by_cases h226 : x = 32
  · subst h226
    refine lv_tableIn (tgt := 164) (off := 163) hx hb dX8_statementBy_1 (by decide) (by decide) (by decide) (by decide) ?_
    have htk : at9 < sz := tok_in hkx rfl (by decide : ¬ (32 : Int32) = 67) (by omega) hsz
    refine lv_aload_n hx hb dX8_statementBy_164 rfl (lv_at hl 0 rfl) ?_
    have hO : OKP G h0 a (upd (upd (upd (upd (upd (upd (upd (upd F 2 (nI sz)) 9 (nI at9)) 10 (nI dp)) 11 (nI sg)) 2 (nI sz)) 9 (nI at9)) 10 (nI dp)) 11 (nI sg)) R Z B J K w := hO.to rfl
    obtain ⟨_, qr230, hqr231⟩ := hO.2.1 23 _ (sg_23 G h0 a _ _ _ _ _)
    refine pn_V0 (G := G) (As := []) (rest := []) hx hb hml hown hq hE hX pX0_al hP hD hS hA hl.1 (P_block l G h0 a (upd (upd (upd (upd F 2 (nI sz)) 9 (nI at9)) 10 (nI dp)) 11 (nI sg)) R Z B J K w n at9 sz dp sg O g (by omega) (by omega) hdp (by omega) hwn how ist hO hl0) (gV pw_1007 pw_1008 pw_1009 pw_796 pw_1056) hV_X8_block qr230 5 hqr231 rfl rfl rfl (Nat.le_of_ble_eq_true rfl) dX8_statementBy_165 ⟨(by show 0 + (2 * (sz - at9) + 20) ≤ (2 * (sz - at9) + 20); omega), (by show 0 + (11 * (2 * (sz - at9) + 20)) ≤ (11 * (2 * (sz - at9) + 20)); omega)⟩ ⟨(by show (50 * n + 54) + 1 ≤ (50 * n + 62); omega), (by show 8 + (5 + 11) + (1500 * n + 1560) ≤ (1500 * n + 1700); omega)⟩ (fun v229 u227 H locs hw228 hP hD hS => ?_) (fun ux ce9 q9 H9 locs9 hux hP9 hD9 hS9 hce hcv hcl => pb_out ux (ThQ.up (Thx.same (Thx.same (Thx.same (Thx.same Thx.rfl rfl) rfl) rfl) rfl) hux) hnt hlocks hce hcv hcl hP9 hD9 hS9 (by show 0 + (2 * (sz - at9) + 20) ≤ (2 * (sz - at9) + 20); omega) (by show 0 + (11 * (2 * (sz - at9) + 20)) ≤ (11 * (2 * (sz - at9) + 20)); omega))
    obtain ⟨w, r232, K233, g234, at235, sg236, f237⟩ := u227
    obtain ⟨hw228, h238, h239, h240, h241, hO⟩ := hw228
    have h238 : NwR K K233 g g234 r232 O at9 ((171 + 3 * (20 - dp))) := h238
    have h239 : at9 + 2 ≤ at235 ∧ at235 ≤ sz := h239
    have h240 : sg ≤ sg236 ∧ sg236 ≤ 60 := h240
    have h241 : K233.2.1 0 r232 = 21 := h241
    obtain rfl : v229 = some (.ref r232) := hw228
    have hO : OKP G h0 a (upd (upd (upd (upd F 2 (nI sz)) 9 (nI at235)) 10 (nI dp)) 11 (nI sg236)) R Z (updA B 10 f237) J K233 w := hO.to rfl
    refine W.widen (k := (2 * (at235 - at9) - 3)) (n := (11 * (2 * (at235 - at9) - 3))) (by show 0 + (2 * (at235 - at9) - 3) ≤ (2 * (at235 - at9) - 3); omega) (by show 0 + (11 * (2 * (at235 - at9) - 3)) ≤ (11 * (2 * (at235 - at9) - 3)); omega) ?_
    refine W.eq (g2 := F0 m 168 ls [.ref r232]) rfl ?_
    refine W_size (fun hz1 hz2 => ?_)
    refine vx_ret ?_
    have hz242 : NwR K K233 g g234 r232 O at9 ((173 + 3 * (20 - dp))) := (NwR.up h238 (by omega))
    have hz243 : at9 + 1 ≤ at235 ∧ at235 ≤ sz := (by omega)
    have hz244 : sg ≤ sg236 ∧ sg236 ≤ 60 := (by omega)
    have hO : OKP G h0 a (upd (upd (upd (upd F 2 (nI sz)) 9 (nI at235)) 10 (nI dp)) 11 (nI sg236)) R Z (updA B 10 f237) J K233 w := hO.to rfl
    refine W.widen (k := (2 * (sz - at9) + 20)) (n := (11 * (2 * (sz - at9) + 20))) (by omega) (by omega) ?_
    have hzz1 : H.size ≤ s.heap.size + ((2 * (at235 - at9) - 1)) := (by have z : (2 * (at235 - at9) - 3) ≤ (2 * (at235 - at9) - 1) := (by omega); omega)
    have hzz2 : hSl H ≤ hSl s.heap + ((11 * (2 * (at235 - at9) - 1))) := (by have z : (11 * (2 * (at235 - at9) - 3)) ≤ (11 * (2 * (at235 - at9) - 1)) := (by omega); omega)
    exact W.aret (v := .ref r232) hx hb hr (Or.inl ⟨_, rfl⟩) (Or.inr ⟨_, rfl⟩) (fun t99 ht99 hW99 => ⟨⟨_, (w, (r232, K233, g234, at235, sg236, f237)), rfl, ⟨rfl, hz242, hz243, hz244, hO⟩, by rw [ht99]; exact hP, hD, by rw [ht99]; exact hzz1, by rw [ht99]; exact hzz2⟩, hS.F ht99⟩) hS.2.2 dX8_statementBy_168
  by_cases h245 : x = 33
  · subst h245
    refine lv_tableIn (tgt := 270) (off := 269) hx hb dX8_statementBy_1 (by decide) (by decide) (by decide) (by decide) ?_
    have hO : OKP G h0 a (upd (upd (upd (upd F 2 (nI sz)) 9 (nI at9)) 10 (nI dp)) 11 (nI sg)) R Z B J K w := hO.to rfl
    exact cut_d _ _ _ _ hP hD hS hO (lv_sub hl [0] rfl)
  by_cases h246 : x = 34
  · subst h246
    refine lv_tableIn (tgt := 270) (off := 269) hx hb dX8_statementBy_1 (by decide) (by decide) (by decide) (by decide) ?_
    have hO : OKP G h0 a (upd (upd (upd (upd F 2 (nI sz)) 9 (nI at9)) 10 (nI dp)) 11 (nI sg)) R Z B J K w := hO.to rfl
    exact cut_d _ _ _ _ hP hD hS hO (lv_sub hl [0] rfl)
  by_cases h247 : x = 35
  · subst h247
    refine lv_tableIn (tgt := 270) (off := 269) hx hb dX8_statementBy_1 (by decide) (by decide) (by decide) (by decide) ?_
    have hO : OKP G h0 a (upd (upd (upd (upd F 2 (nI sz)) 9 (nI at9)) 10 (nI dp)) 11 (nI sg)) R Z B J K w := hO.to rfl
    exact cut_d _ _ _ _ hP hD hS hO (lv_sub hl [0] rfl)
  by_cases h248 : x = 36
  · subst h248
    refine lv_tableIn (tgt := 270) (off := 269) hx hb dX8_statementBy_1 (by decide) (by decide) (by decide) (by decide) ?_
    have hO : OKP G h0 a (upd (upd (upd (upd F 2 (nI sz)) 9 (nI at9)) 10 (nI dp)) 11 (nI sg)) R Z B J K w := hO.to rfl
    exact cut_d _ _ _ _ hP hD hS hO (lv_sub hl [0] rfl)
  by_cases h249 : x = 37
  · subst h249
    refine lv_tableIn (tgt := 270) (off := 269) hx hb dX8_statementBy_1 (by decide) (by decide) (by decide) (by decide) ?_
    have hO : OKP G h0 a (upd (upd (upd (upd F 2 (nI sz)) 9 (nI at9)) 10 (nI dp)) 11 (nI sg)) R Z B J K w := hO.to rfl
    exact cut_d _ _ _ _ hP hD hS hO (lv_sub hl [0] rfl)
  by_cases h250 : x = 38
  · subst h250
    refine lv_tableIn (tgt := 248) (off := 247) hx hb dX8_statementBy_1 (by decide) (by decide) (by decide) (by decide) ?_
    have htk : at9 < sz := tok_in hkx rfl (by decide : ¬ (38 : Int32) = 67) (by omega) hsz
    refine p_new (s9 := 1) (C := RX7) (T := TX7) (N := 11) (ci := 13) (fs := [.int 0, .int 0, .int 0, .int 0, .int 0, .int 0, .null, .null, .null, .null, .null]) hx hb hq pin_wsX70 tyX7 tyX7_ok hown (hq _ pw_870) (hq _ pw_871) (hq _ pw_872) hE hP hD hS hA hO rfl nw_X7 (by decide) (fun q => by rw [rep_1 (show (kN K q 1 0).1 q = 1 from if_pos rfl)]; unfold fsNode kN; simp only [if_true]; rfl) (by show 0 + 1 ≤ (2 * (sz - at9) + 20); omega) (by show 0 + 11 ≤ (11 * (2 * (sz - at9) + 20)); omega) dX8_statementBy_248 (fun q251 H w hq252 hP hD hS hO => ?_)
    have hf253 : (kN K q251 1 0).1 q251 = 1 := if_pos rfl
    refine W.widen (k := 1) (n := 11) (by show 0 + 1 ≤ 1; omega) (by show 0 + 11 ≤ 11; omega) ?_
    refine lv_dup hx hb dX8_statementBy_251 rfl ?_
    refine lv_bipush (v := 34) hx hb dX8_statementBy_252 (by decide) ?_
    refine lv_aload_n hx hb dX8_statementBy_254 rfl (lv_at hl 0 rfl) ?_
    refine lv_bipush (v := 38) hx hb dX8_statementBy_255 (by decide) ?_
    have hO : OKW G h0 a (upd (upd (upd (upd (upd (upd F 2 (nI sz)) 9 (nI at9)) 10 (nI dp)) 11 (nI sg)) 2 (nI sz)) 9 (nI at9)) R Z B J ((kN K q251 1 0).1) (fun q99 x99 => x99 = rep G a (kN K q251 1 0) q99) w := hO.to rfl
    obtain ⟨_, qr257, hqr258⟩ := hO.2.1 23 _ (sg_23 G h0 a _ _ _ _ _)
    refine pn_V0 (G := G) (As := [.int 38]) (rest := [.int 34, .ref q251, .ref q251]) hx hb hml hown hq hE hX pX0_al hP hD hS hA hl.1 (P_take l G h0 a (upd (upd (upd (upd F 2 (nI sz)) 9 (nI at9)) 10 (nI dp)) 11 (nI sg)) R Z B J ((kN K q251 1 0).1) (fun q99 x99 => x99 = rep G a (kN K q251 1 0) q99) w 38 at9 sz (by omega) (by omega) (by decide) hO hl0) (gV pw_793 pw_794 pw_795 pw_796 pw_781) hV_X8_take qr257 5 hqr258 rfl rfl rfl (Nat.le_of_ble_eq_true rfl) dX8_statementBy_257 ⟨(by show 1 + 1 ≤ (2 * (sz - at9) + 20); omega), (by show 11 + 6 ≤ (11 * (2 * (sz - at9) + 20)); omega)⟩ ⟨(by show 7 + 1 ≤ (50 * n + 62); omega), (by show 8 + (2 + 11) + 122 ≤ (1500 * n + 1700); omega)⟩ (fun v256 u254 H locs hw255 hP hD hS => ?_) (fun ux ce9 q9 H9 locs9 hux hP9 hD9 hS9 hce hcv hcl => pb_out ux (ThQ.up (Thx.same (Thx.same Thx.rfl rfl) rfl) hux) hnt hlocks hce hcv hcl hP9 hD9 hS9 (by show 1 + 1 ≤ (2 * (sz - at9) + 20); omega) (by show 11 + 6 ≤ (11 * (2 * (sz - at9) + 20)); omega))
    obtain ⟨w, _⟩ := u254
    obtain ⟨hw255, h259, hO⟩ := hw255
    have h259 : at9 + 1 ≤ sz := h259
    obtain rfl : v256 = some (.int (nI at9)) := hw255
    have hO : OKP G h0 a (upd (upd (upd (upd F 2 (nI sz)) 9 (nI (at9 + 1))) 10 (nI dp)) 11 (nI sg)) R Z B J (kN K q251 1 0) w := hO.to rfl
    refine W.widen (k := 1) (n := 11) (by show 1 + 0 ≤ 1; omega) (by show 11 + 0 ≤ 11; omega) ?_
    refine W.eq (g2 := F0 m 260 ls [.int (nI at9), .int 34, .ref q251, .ref q251]) rfl ?_
    refine lv_aload_n hx hb dX8_statementBy_260 rfl (lv_at hl 0 rfl) ?_
    refine c_get (v := .int (nI (at9 + 1))) (C := RX8) (Tc := TX8) (N := 5) (ci := 5) hx hb hq pin_wsX80 hown hE hP hO 23 (sg_23 G h0 a _ _ _ _ _) rfl 2 (by decide) (hq _ pw_776) (fun _ h9 => h9) rfl dX8_statementBy_261 ?_
    refine lv_iconst (v := 1) hx hb dX8_statementBy_264 (by decide) ?_
    refine lv_isub hx hb dX8_statementBy_265 ?_
    refine lv_topi (fun x260 e261 => ?_)
    obtain rfl : x260 = nI ((at9 + 1) - 1) := e261.trans (nI_subN (a := 1) (b := (at9 + 1)) (by omega))
    have hO : OKP G h0 a (upd (upd (upd (upd F 2 (nI sz)) 9 (nI (at9 + 1))) 10 (nI dp)) 11 (nI sg)) R Z B J (kN K q251 1 0) w := hO.to rfl
    obtain ⟨qr265, hqr266⟩ := p_recv hO (by rw [hf253]; decide) (rep_1 hf253)
    refine pc_I0 (G := G) (As := [.int 34, .int (nI at9), .int (nI ((at9 + 1) - 1))]) (rest := [.ref q251]) hx hb hml hown hq hE hX pX0_al hP hD hS hA hl.1 (N_init l G h0 a (upd (upd (upd (upd F 2 (nI sz)) 9 (nI (at9 + 1))) 10 (nI dp)) 11 (nI sg)) R Z B J (kN K q251 1 0) w q251 34 (nI at9) (nI ((at9 + 1) - 1)) (by omega) hO) pw_874 pw_875 pw_872 pw_765 rfl hS_X7_init rfl (Nat.le_of_ble_eq_true rfl) dX8_statementBy_266 ⟨(by show 1 + 0 ≤ (2 * (sz - at9) + 20); omega), (by show 11 + 0 ≤ (11 * (2 * (sz - at9) + 20)); omega)⟩ ⟨(by show 2 + 1 ≤ (50 * n + 62); omega), (by show 8 + (4 + 11) + 60 ≤ (1500 * n + 1700); omega)⟩ (fun v264 u262 H locs hw263 hP hD hS => ?_)
    obtain ⟨w, _⟩ := u262
    obtain ⟨hw263, hO⟩ := hw263
    obtain rfl : v264 = none := hw263
    have hf267 : (kI (kI (kI (kN K q251 1 0) 0 q251 34) 1 q251 (nI at9)) 2 q251 (nI ((at9 + 1) - 1))).1 q251 = 1 := hf253
    have hO : OKP G h0 a (upd (upd (upd (upd F 2 (nI sz)) 9 (nI (at9 + 1))) 10 (nI dp)) 11 (nI sg)) R Z B J (kI (kI (kI (kN K q251 1 0) 0 q251 34) 1 q251 (nI at9)) 2 q251 (nI ((at9 + 1) - 1))) w := hO.to rfl
    refine W.widen (k := 1) (n := 11) (by show 1 + 0 ≤ 1; omega) (by show 11 + 0 ≤ 11; omega) ?_
    refine W.eq (g2 := F0 m 269 ls [.ref q251]) rfl ?_
    change OKP G h0 a (upd (upd (upd (upd F 2 (nI sz)) 9 (nI (at9 + 1))) 10 (nI dp)) 11 (nI sg)) R Z B J (mkN K q251 34 (nI at9) (nI ((at9 + 1) - 1))) w at hO
    obtain ⟨K268, hK269⟩ : ∃ z : PK, z = (mkN K q251 34 (nI at9) (nI ((at9 + 1) - 1))) := ⟨_, rfl⟩
    rw [← hK269] at hO
    have hf270 : K268.1 q251 = 1 := by rw [hK269]; exact mkN_T
    have hf271 : K268.2.1 0 q251 = 34 := by rw [hK269]; exact mkN_0
    have hf272 : K268.2.1 2 q251 = (nI ((at9 + 1) - 1)) := by rw [hK269]; exact mkN_2
    have hf273 : K268.2.2.1 0 q251 = none := by rw [hK269]; exact mkN_C
    have hf274 : K268.2.2.1 1 q251 = none := by rw [hK269]; exact mkN_C
    have hf275 : K268.2.2.1 2 q251 = none := by rw [hK269]; exact mkN_C
    have hf276 : K268.2.2.1 3 q251 = none := by rw [hK269]; exact mkN_C
    have hf277 : K268.2.2.1 4 q251 = none := by rw [hK269]; exact mkN_C
    have hns278 : NwS K K268 g (gset g q251 0 0 0) := by rw [hK269]; exact NwS.node hns0 hq252
    have hq279 : K.1 q251 = 0 := old_T hns0.2.1 hq252
    have hg280 : (gset g q251 0 0 0) 0 q251 = 0 := gset_0
    have hno281 : NoO K268 (gset g q251 0 0 0) q251 := by rw [hK269]; exact NoO.new hns0.1 hq252
    refine W_size (fun hz1 hz2 => ?_)
    refine vx_ret ?_
    have hkid : ∀ f9 y9 : Nat, f9 ≤ 3 → K268.2.2.1 f9 q251 = some y9 → K268.1 y9 = 1 ∧ 1 ≤ (gset g q251 0 0 0) 0 y9 ∧ (gset g q251 0 0 0) 0 y9 < (173 + 3 * (20 - dp)) := by
      intro f9 y9 hf9 hy9
      rcases (show f9 = 0 ∨ f9 = 1 ∨ f9 = 2 ∨ f9 = 3 by omega) with rfl | rfl | rfl | rfl
      · rw [hf273] at hy9; cases hy9
      · rw [hf274] at hy9; cases hy9
      · rw [hf275] at hy9; cases hy9
      · rw [hf276] at hy9; cases hy9
    have hdn := NwS.done1 (q := q251) (L := (173 + 3 * (20 - dp))) (O := O) (k := at9) hns278 hq279 hf270 hg280 (by omega) (by omega) (by rw [hf271]; exact ⟨(fun z => absurd z (by decide)), (fun z => absurd z (by decide)), (fun z => absurd z (by decide)), (fun z => absurd z (by decide)), (fun z => absurd z (by decide))⟩) (fun f9 z => by rw [hf271] at z; rcases z with ⟨z, _⟩ | ⟨z | z | z, _⟩ <;> exact absurd z (by decide)) hkid hf277 hno281 (fun f9 x9 _ _ => Kch.no (by rw [hf271]; decide)) how
    have hz282 : NwR K K268 g (gset (gset g q251 0 0 0) q251 (173 + 3 * (20 - dp)) O at9) q251 O at9 ((173 + 3 * (20 - dp))) := hdn
    have hz283 : at9 + 1 ≤ (at9 + 1) ∧ (at9 + 1) ≤ sz := (by omega)
    have hz284 : sg ≤ sg ∧ sg ≤ 60 := (by omega)
    have hO : OKP G h0 a (upd (upd (upd (upd F 2 (nI sz)) 9 (nI (at9 + 1))) 10 (nI dp)) 11 (nI sg)) R Z (updA B 10 (B 10)) J K268 w := hO.to rfl
    refine W.widen (k := (2 * (sz - at9) + 20)) (n := (11 * (2 * (sz - at9) + 20))) (by omega) (by omega) ?_
    have hzz1 : H.size ≤ s.heap.size + ((2 * ((at9 + 1) - at9) - 1)) := (by have z : 1 ≤ (2 * ((at9 + 1) - at9) - 1) := (by omega); omega)
    have hzz2 : hSl H ≤ hSl s.heap + ((11 * (2 * ((at9 + 1) - at9) - 1))) := (by have z : 11 ≤ (11 * (2 * ((at9 + 1) - at9) - 1)) := (by omega); omega)
    exact W.aret (v := .ref q251) hx hb hr (Or.inl ⟨_, rfl⟩) (Or.inr ⟨_, rfl⟩) (fun t99 ht99 hW99 => ⟨⟨_, (w, (q251, K268, (gset (gset g q251 0 0 0) q251 (173 + 3 * (20 - dp)) O at9), (at9 + 1), sg, (B 10))), rfl, ⟨rfl, hz282, hz283, hz284, hO⟩, by rw [ht99]; exact hP, hD, by rw [ht99]; exact hzz1, by rw [ht99]; exact hzz2⟩, hS.F ht99⟩) hS.2.2 dX8_statementBy_269
  refine lv_tableOut (tgt := 270) hx hb dX8_statementBy_1 (sw_out38 h25 h40 h41 h42 h57 h58 h59 h60 h61 h79 h97 h98 h99 h100 h101 h102 h103 h104 h122 h123 h165 h166 h167 h185 h186 h204 h205 h223 h224 h225 h226 h245 h246 h247 h248 h249 h250) (by decide) ?_
  have hO : OKP G h0 a (upd (upd (upd (upd F 2 (nI sz)) 9 (nI at9)) 10 (nI dp)) 11 (nI sg)) R Z B J K w := hO.to rfl
  exact cut_d _ _ _ _ hP hD hS hO (lv_sub hl [0] rfl)
theorem dX8_statement_0 : decode cX8_statement 0 = .ok (.iload_n 1, 1) := by decide +kernel
theorem dX8_statement_1 : decode cX8_statement 1 = .ok (.ifCond .eq 14, 3) := by decide +kernel
theorem dX8_statement_15 : decode cX8_statement 15 = .ok (.iconst 0, 1) := by decide +kernel
theorem dX8_statement_16 : decode cX8_statement 16 = .ok (.istore_n 2, 1) := by decide +kernel
theorem dX8_statement_17 : decode cX8_statement 17 = .ok (.iload_n 2, 1) := by decide +kernel
theorem dX8_statement_18 : decode cX8_statement 18 = .ok (.ifCond .ne 14, 3) := by decide +kernel
theorem dX8_statement_21 : decode cX8_statement 21 = .ok (.aload_n 0, 1) := by decide +kernel
theorem dX8_statement_22 : decode cX8_statement 22 = .ok (.invokevirtual 177, 3) := by decide +kernel
theorem dX8_statement_25 : decode cX8_statement 25 = .ok (.ifCond .ne 7, 3) := by decide +kernel
theorem dX8_statement_32 : decode cX8_statement 32 = .ok (.aload_n 0, 1) := by decide +kernel
theorem dX8_statement_33 : decode cX8_statement 33 = .ok (.invokevirtual 180, 3) := by decide +kernel
theorem dX8_statement_36 : decode cX8_statement 36 = .ok (.aload_n 0, 1) := by decide +kernel
theorem dX8_statement_37 : decode cX8_statement 37 = .ok (.getfield 24, 3) := by decide +kernel
theorem dX8_statement_40 : decode cX8_statement 40 = .ok (.istore_n 3, 1) := by decide +kernel
theorem dX8_statement_41 : decode cX8_statement 41 = .ok (.aload_n 0, 1) := by decide +kernel
theorem dX8_statement_42 : decode cX8_statement 42 = .ok (.iconst 0, 1) := by decide +kernel
theorem dX8_statement_43 : decode cX8_statement 43 = .ok (.putfield 24, 3) := by decide +kernel
theorem dX8_statement_46 : decode cX8_statement 46 = .ok (.iload_n 2, 1) := by decide +kernel
theorem dX8_statement_47 : decode cX8_statement 47 = .ok (.ifCond .eq 11, 3) := by decide +kernel
theorem dX8_statement_58 : decode cX8_statement 58 = .ok (.aload_n 0, 1) := by decide +kernel
theorem dX8_statement_59 : decode cX8_statement 59 = .ok (.aload_n 0, 1) := by decide +kernel
theorem dX8_statement_60 : decode cX8_statement 60 = .ok (.getfield 7, 3) := by decide +kernel
theorem dX8_statement_63 : decode cX8_statement 63 = .ok (.aload_n 0, 1) := by decide +kernel
theorem dX8_statement_64 : decode cX8_statement 64 = .ok (.getfield 17, 3) := by decide +kernel
theorem dX8_statement_67 : decode cX8_statement 67 = .ok (.invokevirtual 57, 3) := by decide +kernel
theorem dX8_statement_70 : decode cX8_statement 70 = .ok (.invokevirtual 186, 3) := by decide +kernel
theorem dX8_statement_73 : decode cX8_statement 73 = .ok (.astore 4, 2) := by decide +kernel
theorem dX8_statement_75 : decode cX8_statement 75 = .ok (.aload_n 0, 1) := by decide +kernel
theorem dX8_statement_76 : decode cX8_statement 76 = .ok (.iload_n 3, 1) := by decide +kernel
theorem dX8_statement_77 : decode cX8_statement 77 = .ok (.putfield 24, 3) := by decide +kernel
theorem dX8_statement_80 : decode cX8_statement 80 = .ok (.aload_n 0, 1) := by decide +kernel
theorem dX8_statement_81 : decode cX8_statement 81 = .ok (.invokevirtual 190, 3) := by decide +kernel
theorem dX8_statement_84 : decode cX8_statement 84 = .ok (.aload 4, 2) := by decide +kernel
theorem dX8_statement_86 : decode cX8_statement 86 = .ok (.areturn, 1) := by decide +kernel
theorem dX8_statement_28 : decode cX8_statement 28 = .ok (.aload_n 0, 1) := by decide +kernel
theorem dX8_statement_29 : decode cX8_statement 29 = .ok (.invokevirtual 67, 3) := by decide +kernel
theorem dX8_statement_4 : decode cX8_statement 4 = .ok (.aload_n 0, 1) := by decide +kernel
theorem dX8_statement_5 : decode cX8_statement 5 = .ok (.invokevirtual 174, 3) := by decide +kernel
theorem dX8_statement_8 : decode cX8_statement 8 = .ok (.ifCond .eq 7, 3) := by decide +kernel
theorem dX8_statement_11 : decode cX8_statement 11 = .ok (.iconst 1, 1) := by decide +kernel
theorem dX8_statement_12 : decode cX8_statement 12 = .ok (.goto 4, 3) := by decide +kernel
theorem dX8_statement_50 : decode cX8_statement 50 = .ok (.aload_n 0, 1) := by decide +kernel
theorem dX8_statement_51 : decode cX8_statement 51 = .ok (.iconst 1, 1) := by decide +kernel
theorem dX8_statement_52 : decode cX8_statement 52 = .ok (.invokevirtual 183, 3) := by decide +kernel
theorem dX8_statement_55 : decode cX8_statement 55 = .ok (.goto 18, 3) := by decide +kernel
theorem hV_X8_beginsStatement : yX8_beginsStatement.cls = RX8 ∧ yX8_beginsStatement.cls ≠ "java/lang/invoke/MethodHandle" ∧ yX8_beginsStatement.cls ≠ "java/lang/invoke/VarHandle" ∧ (parseMethodDescriptor yX8_beginsStatement.desc).map (fun d => d.parameters.length) = some 0 := by decide +kernel
theorem hV_X8_statementBy : yX8_statementBy.cls = RX8 ∧ yX8_statementBy.cls ≠ "java/lang/invoke/MethodHandle" ∧ yX8_statementBy.cls ≠ "java/lang/invoke/VarHandle" ∧ (parseMethodDescriptor yX8_statementBy.desc).map (fun d => d.parameters.length) = some 1 := by decide +kernel
set_option maxHeartbeats 40000000 in
set_option maxRecDepth 100000 in
theorem P_statement (l : Launch) (G : pT) (h0 : Nat) (a : Nat → Nat) (F : Nat → Int32) (R : Nat → Value) (Z : Int64) (B : Nat → Nat → Int32) (J : Nat → Nat → Int64) (K : PK) (w : va_W) (x : Nat) (n : Nat) (at9 : Nat) (sz : Nat) (dp : Nat) (sg : Nat) (O : Nat) (g : Nat → Nat → Nat) (hsz : sz ≤ 5000) (hat : at9 ≤ sz) (hdp : dp + n = 20) (hsg : sg ≤ 60) (hwn : WN K g) (how : ∀ o : Nat, O = o + 1 → K.1 o = 1 ∧ g 0 o = 0 ∧ ¬ K.2.1 0 o = 32) (hx1x : x ≤ 1) (ist : 1 ≤ n → PSt l G (n - 1)) (hO : OKP G h0 a (upd (upd (upd (upd F 2 (nI sz)) 9 (nI at9)) 10 (nI dp)) 11 (nI sg)) R Z B J K w) (hl0 : l.stackTraces = false) : PBn l G pX0 yX8_statement cX8_statement 5 (some (.object "JinjaTongue$Node")) ({ frames := (50 * n + 50), cells := (2 * (sz - at9) + 20), slots := (11 * (2 * (sz - at9) + 20)), locals := (1500 * n + 1500) }) [.ref (a 3), .int (nI x)] w (fun (v : Option Value) (u : va_W × (Nat × PK × (Nat → Nat → Nat) × Nat × Nat × (Nat → Int32))) => v = some (.ref u.2.1) ∧ (NwR K u.2.2.1 g u.2.2.2.1 u.2.1 O at9 ((170 + 3 * (20 - dp)))) ∧ (at9 + 1 ≤ u.2.2.2.2.1 ∧ u.2.2.2.2.1 ≤ sz) ∧ (sg ≤ u.2.2.2.2.2.1 ∧ u.2.2.2.2.2.1 ≤ 60) ∧ (OKP G h0 a (upd (upd (upd (upd F 2 (nI sz)) 9 (nI u.2.2.2.2.1)) 10 (nI dp)) 11 (nI u.2.2.2.2.2.1)) R Z (updA B 10 u.2.2.2.2.2.2) J u.2.2.1 u.1)) (fun u => u.1) (fun (u : va_W × (Nat × PK × (Nat → Nat → Nat) × Nat × Nat × (Nat → Int32))) => (2 * (u.2.2.2.2.1 - at9) - 1)) (fun (u : va_W × (Nat × PK × (Nat → Nat → Nat) × Nat × Nat × (Nat → Int32))) => (11 * (2 * (u.2.2.2.2.1 - at9) - 1))) (fun (u : va_W × (Nat → Int32) × (Nat → Value) × (Nat → Nat → Int32)) => ThQ G h0 a (upd (upd (upd (upd F 2 (nI sz)) 9 (nI at9)) 10 (nI dp)) 11 (nI sg)) Z B J u) (fun u => u.1) := by
  intro sz
  refine vx_ofW (cc := cX8_statement) (maxL := 5) (ret := (some (.object "JinjaTongue$Node"))) (by decide) rfl ?_
  intro p e s m args below meth c s₁ B9 hml hnt hv
  obtain ⟨rfl, hsz, hP, hD0, hE, hX⟩ := hv
  have hx := B9.exec
  have hb := B9.bytes
  have hr := B9.returns
  have hts := atoms_spec (ws := Cond.code yX8_statement cX8_statement 5 (some (.object "JinjaTongue$Node")) :: pw) B9.pre
  have hq : ∀ w ∈ pw, w.before _ s = true := fun w h => hts w (List.mem_cons_of_mem _ h)
  have hown : s.vm.findClass RX8 = some m.cls := findClass_of_methodNamed B9.named
  have hlocks := B9.notSynchronized
  subst hsz
  have hD := hD0.self (sz := s.heap.size)
  have hA : ∀ q : Nat, s.heap.size ≤ q → va_A w s.heap.size q := fun q h => Or.inr h
  generalize va_A w s.heap.size = A at hD hE hA ⊢
  have hS : va_S A s.heap s.heap [] := va_S.rf
  have hl := lv_entry ([.ref (a 3), .int (nI x)]) (n := 5) (Nat.le_of_ble_eq_true rfl)
  rw [lg_entry_eq]
  generalize (lg_sl ([.ref (a 3), .int (nI x)]) ++ List.replicate (5 - (lg_sl ([.ref (a 3), .int (nI x)])).length) Slot.unset).toArray = ls at hl ⊢
  have hl : lv_has ls 5 [(0, .ref (a 3)), (1, .int (nI x))] := hl
  refine lv_iload_n hx hb dX8_statement_0 rfl (lv_at hl 1 rfl) ?_
  refine lv_if_eq (tgt := 15) hx hb dX8_statement_1 (by decide) (fun c1 => ?_) (fun c1 => ?_)
  · have n2 : x = 0 := (nI_eq (a := x) (b := 0) (by omega) (by omega)).mp c1
    refine lv_iconst (v := 0) hx hb dX8_statement_15 (by decide) ?_
    refine lv_istore_n (lv' := [(2, .int 0), (0, .ref (a 3)), (1, .int (nI x))]) hx hb dX8_statement_16 rfl hl (by decide) rfl (fun ls hl => ?_)
    refine lv_iload_n hx hb dX8_statement_17 rfl (lv_at hl 0 rfl) ?_
    refine lv_if_ne (tgt := 32) hx hb dX8_statement_18 (by decide) (fun c3 => absurd c3 (by decide)) (fun c3 => ?_)
    refine lv_aload_n hx hb dX8_statement_21 rfl (lv_at hl 1 rfl) ?_
    have hO : OKW G h0 a (upd (upd (upd (upd (upd (upd F 2 (nI sz)) 9 (nI at9)) 10 (nI dp)) 11 (nI sg)) 2 (nI sz)) 9 (nI at9)) R Z B J K.1 (fun q99 x99 => x99 = rep G a K q99) w := hO.to rfl
    obtain ⟨_, qr7, hqr8⟩ := hO.2.1 23 _ (sg_23 G h0 a _ _ _ _ _)
    refine pc_V0 (G := G) (As := []) (rest := []) hx hb hml hown hq hE hX pX0_al hP hD hS hA hl.1 (P_beginsStatement l G h0 a (upd (upd (upd (upd F 2 (nI sz)) 9 (nI at9)) 10 (nI dp)) 11 (nI sg)) R Z B J K.1 (fun q99 x99 => x99 = rep G a K q99) w at9 sz (by omega) (by omega) hO) (gV pw_1026 pw_1027 pw_1028 pw_796 pw_997) hV_X8_beginsStatement qr7 5 hqr8 rfl rfl rfl (Nat.le_of_ble_eq_true rfl) dX8_statement_22 ⟨(by show 0 + 0 ≤ (2 * (sz - at9) + 20); omega), (by show 0 + 0 ≤ (11 * (2 * (sz - at9) + 20)); omega)⟩ ⟨(by show 4 + 1 ≤ (50 * n + 50); omega), (by show 8 + (1 + 11) + 101 ≤ (1500 * n + 1500); omega)⟩ (fun v6 u4 H locs hw5 hP hD hS => ?_)
    obtain ⟨w, r9⟩ := u4
    obtain ⟨hw5, h10, hO⟩ := hw5
    have h10 : r9 ≤ 1 := h10
    obtain rfl : v6 = some (.int (nI r9)) := hw5
    have hO : OKP G h0 a (upd (upd (upd (upd F 2 (nI sz)) 9 (nI at9)) 10 (nI dp)) 11 (nI sg)) R Z B J K w := hO.to rfl
    refine W.widen (k := 0) (n := 0) (Nat.le_of_ble_eq_true rfl) (Nat.le_of_ble_eq_true rfl) ?_
    refine W.eq (g2 := F0 m 25 ls [.int (nI r9)]) rfl ?_
    refine lv_if_ne (tgt := 32) hx hb dX8_statement_25 (by decide) (fun c11 => ?_) (fun c11 => ?_)
    · have n12 : ¬ (r9 = 0) := fun h9 => c11 ((nI_eq (a := r9) (b := 0) (by omega) (by omega)).mpr h9)
      refine lv_aload_n hx hb dX8_statement_32 rfl (lv_at hl 1 rfl) ?_
      have hO : OKW G h0 a (upd (upd (upd (upd (upd (upd (upd F 2 (nI sz)) 9 (nI at9)) 10 (nI dp)) 11 (nI sg)) 2 (nI sz)) 9 (nI at9)) 10 (nI dp)) R Z B J K.1 (fun q99 x99 => x99 = rep G a K q99) w := hO.to rfl
      obtain ⟨_, qr16, hqr17⟩ := hO.2.1 23 _ (sg_23 G h0 a _ _ _ _ _)
      refine pn_V0 (G := G) (As := []) (rest := []) hx hb hml hown hq hE hX pX0_al hP hD hS hA hl.1 (P_enter l G h0 a (upd (upd (upd (upd F 2 (nI sz)) 9 (nI at9)) 10 (nI dp)) 11 (nI sg)) R Z B J K.1 (fun q99 x99 => x99 = rep G a K q99) w dp at9 sz (by omega) (by omega) (by omega) hO hl0) (gV pw_947 pw_948 pw_949 pw_796 pw_905) hV_X8_enter qr16 5 hqr17 rfl rfl rfl (Nat.le_of_ble_eq_true rfl) dX8_statement_33 ⟨(by show 0 + 1 ≤ (2 * (sz - at9) + 20); omega), (by show 0 + 6 ≤ (11 * (2 * (sz - at9) + 20)); omega)⟩ ⟨(by show 7 + 1 ≤ (50 * n + 50); omega), (by show 8 + (1 + 11) + 122 ≤ (1500 * n + 1500); omega)⟩ (fun v15 u13 H locs hw14 hP hD hS => ?_) (fun ux ce9 q9 H9 locs9 hux hP9 hD9 hS9 hce hcv hcl => pb_out ux (ThQ.up (Thx.same (Thx.same (Thx.same Thx.rfl rfl) rfl) rfl) hux) hnt hlocks hce hcv hcl hP9 hD9 hS9 (by show 0 + 1 ≤ (2 * (sz - at9) + 20); omega) (by show 0 + 6 ≤ (11 * (2 * (sz - at9) + 20)); omega))
      obtain ⟨w, _⟩ := u13
      obtain ⟨hw14, h18, hO⟩ := hw14
      have h18 : dp + 1 ≤ 20 := h18
      obtain rfl : v15 = none := hw14
      have hO : OKP G h0 a (upd (upd (upd (upd F 2 (nI sz)) 9 (nI at9)) 10 (nI (dp + 1))) 11 (nI sg)) R Z B J K w := hO.to rfl
      refine W.widen (k := 0) (n := 0) (by show 0 + 0 ≤ 0; omega) (by show 0 + 0 ≤ 0; omega) ?_
      refine W.eq (g2 := F0 m 36 ls []) rfl ?_
      refine lv_aload_n hx hb dX8_statement_36 rfl (lv_at hl 1 rfl) ?_
      refine c_get (v := .int (nI sg)) (C := RX8) (Tc := TX8) (N := 5) (ci := 5) hx hb hq pin_wsX80 hown hE hP hO 23 (sg_23 G h0 a _ _ _ _ _) rfl 4 (by decide) (hq _ pw_904) (fun _ h9 => h9) rfl dX8_statement_37 ?_
      refine lv_istore_n (lv' := [(3, .int (nI sg)), (2, .int 0), (0, .ref (a 3)), (1, .int (nI x))]) hx hb dX8_statement_40 rfl hl (by decide) rfl (fun ls hl => ?_)
      refine lv_aload_n hx hb dX8_statement_41 rfl (lv_at hl 2 rfl) ?_
      refine lv_iconst (v := 0) hx hb dX8_statement_42 (by decide) ?_
      refine c_put (v := .int 0) (ty := .int) (C := RX8) (Tc := TX8) (N := 5) (ci := 5) hx hb hq pin_wsX80 tyX8 tyX8_ok nmX8 hown hE hP hD hS hO 23 (sg_23 G h0 a _ _ _ _ _) rfl 4 (by decide) (hq _ pw_904) (fun _ h9 => h9) rfl (by decide +kernel) rfl rfl (Nat.le_of_ble_eq_true rfl) (sf_11 G h0 a _ _ _ _ _ 0) dX8_statement_43 (fun H locs w hP hD hS hO => ?_)
      refine lv_iload_n hx hb dX8_statement_46 rfl (lv_at hl 1 rfl) ?_
      refine lv_if_eq (tgt := 58) hx hb dX8_statement_47 (by decide) (fun c19 => ?_) (fun c19 => absurd c19 (by decide))
      refine lv_aload_n hx hb dX8_statement_58 rfl (lv_at hl 2 rfl) ?_
      refine lv_aload_n hx hb dX8_statement_59 rfl (lv_at hl 2 rfl) ?_
      refine c_get (v := .ref (a 1)) (C := RX8) (Tc := TX8) (N := 5) (ci := 5) hx hb hq pin_wsX80 hown hE hP hO 23 (sg_23 G h0 a _ _ _ _ _) rfl 0 (by decide) (hq _ pw_774) (fun _ h9 => h9) rfl dX8_statement_60 ?_
      refine lv_aload_n hx hb dX8_statement_63 rfl (lv_at hl 2 rfl) ?_
      refine c_get (v := .int (nI at9)) (C := RX8) (Tc := TX8) (N := 5) (ci := 5) hx hb hq pin_wsX80 hown hE hP hO 23 (sg_23 G h0 a _ _ _ _ _) rfl 2 (by decide) (hq _ pw_776) (fun _ h9 => h9) rfl dX8_statement_64 ?_
      have hO : OKW G h0 a (upd (upd (upd (upd (upd F 2 (nI sz)) 9 (nI at9)) 10 (nI (dp + 1))) 11 0) 2 (nI sz)) R Z B J K.1 (fun q99 x99 => x99 = rep G a K q99) w := hO.to rfl
      obtain ⟨_, qr23, hqr24⟩ := hO.2.1 2 _ (sg_2 G h0 a _ _ _ _ _)
      refine pc_V0 (G := G) (As := [.int (nI at9)]) (rest := [.ref (a 3)]) hx hb hml hown hq hE hX pX0_al hP hD hS hA hl.1 (K_kindAt l G h0 a (upd (upd (upd (upd F 2 (nI sz)) 9 (nI at9)) 10 (nI (dp + 1))) 11 0) R Z B J K.1 (fun q99 x99 => x99 = rep G a K q99) w (nI at9) sz (by omega) hO) (gV pw_777 pw_193 pw_194 pw_59 pw_126) hV_X10_kindAt qr23 7 hqr24 rfl rfl rfl (Nat.le_of_ble_eq_true rfl) dX8_statement_67 ⟨(by show 0 + 0 ≤ (2 * (sz - at9) + 20); omega), (by show 0 + 0 ≤ (11 * (2 * (sz - at9) + 20)); omega)⟩ ⟨(by show 2 + 1 ≤ (50 * n + 50); omega), (by show 8 + (2 + 11) + 60 ≤ (1500 * n + 1500); omega)⟩ (fun v22 u20 H locs hw21 hP hD hS => ?_)
      obtain ⟨w, r25⟩ := u20
      obtain ⟨hw21, h26, hO⟩ := hw21
      have h26 : r25 = 67 ∨ ∃ t : Nat, (nI at9) = nI t ∧ t < sz := h26
      obtain rfl : v22 = some (.int r25) := hw21
      have hO : OKP G h0 a (upd (upd (upd (upd F 2 (nI sz)) 9 (nI at9)) 10 (nI (dp + 1))) 11 0) R Z B J K w := hO.to rfl
      refine W.widen (k := 0) (n := 0) (Nat.le_of_ble_eq_true rfl) (Nat.le_of_ble_eq_true rfl) ?_
      refine W.eq (g2 := F0 m 70 ls [.int r25, .ref (a 3)]) rfl ?_
      have hO : OKP G h0 a (upd (upd (upd (upd (upd (upd (upd (upd (upd (upd F 2 (nI sz)) 9 (nI at9)) 10 (nI dp)) 11 (nI sg)) 10 (nI (dp + 1))) 11 0) 2 (nI sz)) 9 (nI at9)) 10 (nI (dp + 1))) 11 (nI 0)) R Z B J K w := hO.to rfl
      obtain ⟨_, qr30, hqr31⟩ := hO.2.1 23 _ (sg_23 G h0 a _ _ _ _ _)
      refine pn_V0 (G := G) (As := [.int r25]) (rest := []) hx hb hml hown hq hE hX pX0_al hP hD hS hA hl.1 (P_statementBy l G h0 a (upd (upd (upd (upd (upd (upd F 2 (nI sz)) 9 (nI at9)) 10 (nI dp)) 11 (nI sg)) 10 (nI (dp + 1))) 11 0) R Z B J K w r25 (n - 1) at9 sz (dp + 1) 0 O g (by omega) (by omega) (by omega) (by omega) hwn how (ist (by omega)) h26 hO hl0) (gV pw_1029 pw_1030 pw_1031 pw_796 pw_1032) hV_X8_statementBy qr30 5 hqr31 rfl rfl rfl (Nat.le_of_ble_eq_true rfl) dX8_statement_70 ⟨(by show 0 + (2 * (sz - at9) + 20) ≤ (2 * (sz - at9) + 20); omega), (by show 0 + (11 * (2 * (sz - at9) + 20)) ≤ (11 * (2 * (sz - at9) + 20)); omega)⟩ ⟨(by show (50 * (n - 1) + 62) + 1 ≤ (50 * n + 50); omega), (by show 8 + (3 + 11) + (1500 * (n - 1) + 1700) ≤ (1500 * n + 1500); omega)⟩ (fun v29 u27 H locs hw28 hP hD hS => ?_) (fun ux ce9 q9 H9 locs9 hux hP9 hD9 hS9 hce hcv hcl => pb_out ux (ThQ.up (Thx.same (Thx.same (Thx.same (Thx.same (Thx.f (Thx.f Thx.rfl (by omega)) (by omega)) rfl) rfl) rfl) rfl) hux) hnt hlocks hce hcv hcl hP9 hD9 hS9 (by show 0 + (2 * (sz - at9) + 20) ≤ (2 * (sz - at9) + 20); omega) (by show 0 + (11 * (2 * (sz - at9) + 20)) ≤ (11 * (2 * (sz - at9) + 20)); omega))
      obtain ⟨w, r32, K33, g34, at35, sg36, f37⟩ := u27
      obtain ⟨hw28, h38, h39, h40, hO⟩ := hw28
      have h38 : NwR K K33 g g34 r32 O at9 ((173 + 3 * (20 - (dp + 1)))) := h38
      have h39 : at9 + 1 ≤ at35 ∧ at35 ≤ sz := h39
      have h40 : 0 ≤ sg36 ∧ sg36 ≤ 60 := h40
      obtain rfl : v29 = some (.ref r32) := hw28
      have hO : OKP G h0 a (upd (upd (upd (upd F 2 (nI sz)) 9 (nI at35)) 10 (nI (dp + 1))) 11 (nI sg36)) R Z (updA B 10 f37) J K33 w := hO.to rfl
      refine W.widen (k := (2 * (at35 - at9) - 1)) (n := (11 * (2 * (at35 - at9) - 1))) (by show 0 + (2 * (at35 - at9) - 1) ≤ (2 * (at35 - at9) - 1); omega) (by show 0 + (11 * (2 * (at35 - at9) - 1)) ≤ (11 * (2 * (at35 - at9) - 1)); omega) ?_
      refine W.eq (g2 := F0 m 73 ls [.ref r32]) rfl ?_
      refine lv_astore (lv' := [(4, .ref r32), (3, .int (nI sg)), (2, .int 0), (0, .ref (a 3)), (1, .int (nI x))]) hx hb dX8_statement_73 hl (by decide) rfl (fun ls hl => ?_)
      refine lv_aload_n hx hb dX8_statement_75 rfl (lv_at hl 3 rfl) ?_
      refine lv_iload_n hx hb dX8_statement_76 rfl (lv_at hl 1 rfl) ?_
      refine c_put (v := .int (nI sg)) (ty := .int) (C := RX8) (Tc := TX8) (N := 5) (ci := 5) hx hb hq pin_wsX80 tyX8 tyX8_ok nmX8 hown hE hP hD hS hO 23 (sg_23 G h0 a _ _ _ _ _) rfl 4 (by decide) (hq _ pw_904) (fun _ h9 => h9) rfl (by decide +kernel) rfl rfl (Nat.le_of_ble_eq_true rfl) (sf_11 G h0 a _ _ _ _ _ (nI sg)) dX8_statement_77 (fun H locs w hP hD hS hO => ?_)
      refine lv_aload_n hx hb dX8_statement_80 rfl (lv_at hl 3 rfl) ?_
      have hO : OKW G h0 a (upd (upd (upd (upd (upd F 2 (nI sz)) 9 (nI at35)) 10 (nI (dp + 1))) 11 (nI sg)) 10 (nI (dp + 1))) R Z (updA B 10 f37) J K33.1 (fun q99 x99 => x99 = rep G a K33 q99) w := hO.to rfl
      obtain ⟨_, qr44, hqr45⟩ := hO.2.1 23 _ (sg_23 G h0 a _ _ _ _ _)
      refine pc_V0 (G := G) (As := []) (rest := []) hx hb hml hown hq hE hX pX0_al hP hD hS hA hl.1 (P_leave l G h0 a (upd (upd (upd (upd F 2 (nI sz)) 9 (nI at35)) 10 (nI (dp + 1))) 11 (nI sg)) R Z (updA B 10 f37) J K33.1 (fun q99 x99 => x99 = rep G a K33 q99) w (dp + 1) (by omega) hO) (gV pw_950 pw_951 pw_952 pw_796 pw_906) hV_X8_leave qr44 5 hqr45 rfl rfl rfl (Nat.le_of_ble_eq_true rfl) dX8_statement_81 ⟨(by show (2 * (at35 - at9) - 1) + 0 ≤ (2 * (sz - at9) + 20); omega), (by show (11 * (2 * (at35 - at9) - 1)) + 0 ≤ (11 * (2 * (sz - at9) + 20)); omega)⟩ ⟨(by show 2 + 1 ≤ (50 * n + 50); omega), (by show 8 + (1 + 11) + 60 ≤ (1500 * n + 1500); omega)⟩ (fun v43 u41 H locs hw42 hP hD hS => ?_)
      obtain ⟨w, _⟩ := u41
      obtain ⟨hw42, hO⟩ := hw42
      obtain rfl : v43 = none := hw42
      have hO : OKP G h0 a (upd (upd (upd (upd F 2 (nI sz)) 9 (nI at35)) 10 (nI ((dp + 1) - 1))) 11 (nI sg)) R Z (updA B 10 f37) J K33 w := hO.to rfl
      refine W.widen (k := (2 * (at35 - at9) - 1)) (n := (11 * (2 * (at35 - at9) - 1))) (by show (2 * (at35 - at9) - 1) + 0 ≤ (2 * (at35 - at9) - 1); omega) (by show (11 * (2 * (at35 - at9) - 1)) + 0 ≤ (11 * (2 * (at35 - at9) - 1)); omega) ?_
      refine W.eq (g2 := F0 m 84 ls []) rfl ?_
      refine lv_aload hx hb dX8_statement_84 (lv_at hl 0 rfl) ?_
      refine W_size (fun hz1 hz2 => ?_)
      refine vx_ret ?_
      have hz46 : NwR K K33 g g34 r32 O at9 ((170 + 3 * (20 - dp))) := (NwR.up h38 (by omega))
      have hz47 : at9 + 1 ≤ at35 ∧ at35 ≤ sz := (by omega)
      have hz48 : sg ≤ sg ∧ sg ≤ 60 := (by omega)
      have hO : OKP G h0 a (upd (upd (upd (upd F 2 (nI sz)) 9 (nI at35)) 10 (nI dp)) 11 (nI sg)) R Z (updA B 10 f37) J K33 w := hO.to rfl
      refine W.widen (k := (2 * (sz - at9) + 20)) (n := (11 * (2 * (sz - at9) + 20))) (by omega) (by omega) ?_
      have hzz1 : H.size ≤ s.heap.size + ((2 * (at35 - at9) - 1)) := (by have z : (2 * (at35 - at9) - 1) ≤ (2 * (at35 - at9) - 1) := (by omega); omega)
      have hzz2 : hSl H ≤ hSl s.heap + ((11 * (2 * (at35 - at9) - 1))) := (by have z : (11 * (2 * (at35 - at9) - 1)) ≤ (11 * (2 * (at35 - at9) - 1)) := (by omega); omega)
      exact W.aret (v := .ref r32) hx hb hr (Or.inl ⟨_, rfl⟩) (Or.inr ⟨_, rfl⟩) (fun t99 ht99 hW99 => ⟨⟨_, (w, (r32, K33, g34, at35, sg, f37)), rfl, ⟨rfl, hz46, hz47, hz48, hO⟩, by rw [ht99]; exact hP, hD, by rw [ht99]; exact hzz1, by rw [ht99]; exact hzz2⟩, hS.F ht99⟩) hS.2.2 dX8_statement_86
    · have n49 : r9 = 0 := (nI_eq (a := r9) (b := 0) (by omega) (by omega)).mp c11
      refine lv_aload_n hx hb dX8_statement_28 rfl (lv_at hl 1 rfl) ?_
      have hO : OKW G h0 a (upd (upd (upd (upd (upd (upd F 2 (nI sz)) 9 (nI at9)) 10 (nI dp)) 11 (nI sg)) 2 (nI sz)) 9 (nI at9)) R Z B J K.1 (fun q99 x99 => x99 = rep G a K q99) w := hO.to rfl
      obtain ⟨_, qr53, hqr54⟩ := hO.2.1 23 _ (sg_23 G h0 a _ _ _ _ _)
      refine pn_V0 (G := G) (As := []) (rest := []) hx hb hml hown hq hE hX pX0_al hP hD hS hA hl.1 (P_refuse l G h0 a (upd (upd (upd (upd F 2 (nI sz)) 9 (nI at9)) 10 (nI dp)) 11 (nI sg)) R Z B J K.1 (fun q99 x99 => x99 = rep G a K q99) w at9 sz (by omega) (by omega) hO hl0) (gV pw_806 pw_807 pw_808 pw_796 pw_778) hV_X8_refuse qr53 5 hqr54 rfl rfl rfl (Nat.le_of_ble_eq_true rfl) dX8_statement_29 ⟨(by show 0 + 1 ≤ (2 * (sz - at9) + 20); omega), (by show 0 + 6 ≤ (11 * (2 * (sz - at9) + 20)); omega)⟩ ⟨(by show 7 + 1 ≤ (50 * n + 50); omega), (by show 8 + (1 + 11) + 122 ≤ (1500 * n + 1500); omega)⟩ (fun v52 u50 H locs hw51 hP hD hS => hw51.elim) (fun ux ce9 q9 H9 locs9 hux hP9 hD9 hS9 hce hcv hcl => pb_out ux (ThQ.up (Thx.same (Thx.same Thx.rfl rfl) rfl) hux) hnt hlocks hce hcv hcl hP9 hD9 hS9 (by show 0 + 1 ≤ (2 * (sz - at9) + 20); omega) (by show 0 + 6 ≤ (11 * (2 * (sz - at9) + 20)); omega))
  · have n55 : ¬ (x = 0) := fun h9 => c1 ((nI_eq (a := x) (b := 0) (by omega) (by omega)).mpr h9)
    refine lv_aload_n hx hb dX8_statement_4 rfl (lv_at hl 0 rfl) ?_
    have hO : OKW G h0 a (upd (upd (upd (upd (upd (upd F 2 (nI sz)) 9 (nI at9)) 10 (nI dp)) 11 (nI sg)) 2 (nI sz)) 9 (nI at9)) R Z B J K.1 (fun q99 x99 => x99 = rep G a K q99) w := hO.to rfl
    obtain ⟨_, qr59, hqr60⟩ := hO.2.1 23 _ (sg_23 G h0 a _ _ _ _ _)
    refine pc_V0 (G := G) (As := []) (rest := []) hx hb hml hown hq hE hX pX0_al hP hD hS hA hl.1 (P_beginsLocal l G h0 a (upd (upd (upd (upd F 2 (nI sz)) 9 (nI at9)) 10 (nI dp)) 11 (nI sg)) R Z B J K.1 (fun q99 x99 => x99 = rep G a K q99) w at9 sz (by omega) (by omega) hO) (gV pw_1012 pw_1013 pw_1014 pw_796 pw_899) hV_X8_beginsLocal qr59 5 hqr60 rfl rfl rfl (Nat.le_of_ble_eq_true rfl) dX8_statement_5 ⟨(by show 0 + 0 ≤ (2 * (sz - at9) + 20); omega), (by show 0 + 0 ≤ (11 * (2 * (sz - at9) + 20)); omega)⟩ ⟨(by show 4 + 1 ≤ (50 * n + 50); omega), (by show 8 + (2 + 11) + 102 ≤ (1500 * n + 1500); omega)⟩ (fun v58 u56 H locs hw57 hP hD hS => ?_)
    obtain ⟨w, r61⟩ := u56
    obtain ⟨hw57, h62, hO⟩ := hw57
    have h62 : r61 ≤ 1 := h62
    obtain rfl : v58 = some (.int (nI r61)) := hw57
    have hO : OKP G h0 a (upd (upd (upd (upd F 2 (nI sz)) 9 (nI at9)) 10 (nI dp)) 11 (nI sg)) R Z B J K w := hO.to rfl
    refine W.widen (k := 0) (n := 0) (Nat.le_of_ble_eq_true rfl) (Nat.le_of_ble_eq_true rfl) ?_
    refine W.eq (g2 := F0 m 8 ls [.int (nI r61)]) rfl ?_
    refine lv_if_eq (tgt := 15) hx hb dX8_statement_8 (by decide) (fun c63 => ?_) (fun c63 => ?_)
    · have n64 : r61 = 0 := (nI_eq (a := r61) (b := 0) (by omega) (by omega)).mp c63
      refine lv_iconst (v := 0) hx hb dX8_statement_15 (by decide) ?_
      refine lv_istore_n (lv' := [(2, .int 0), (0, .ref (a 3)), (1, .int (nI x))]) hx hb dX8_statement_16 rfl hl (by decide) rfl (fun ls hl => ?_)
      refine lv_iload_n hx hb dX8_statement_17 rfl (lv_at hl 0 rfl) ?_
      refine lv_if_ne (tgt := 32) hx hb dX8_statement_18 (by decide) (fun c65 => absurd c65 (by decide)) (fun c65 => ?_)
      refine lv_aload_n hx hb dX8_statement_21 rfl (lv_at hl 1 rfl) ?_
      have hO : OKW G h0 a (upd (upd (upd (upd (upd (upd F 2 (nI sz)) 9 (nI at9)) 10 (nI dp)) 11 (nI sg)) 2 (nI sz)) 9 (nI at9)) R Z B J K.1 (fun q99 x99 => x99 = rep G a K q99) w := hO.to rfl
      obtain ⟨_, qr69, hqr70⟩ := hO.2.1 23 _ (sg_23 G h0 a _ _ _ _ _)
      refine pc_V0 (G := G) (As := []) (rest := []) hx hb hml hown hq hE hX pX0_al hP hD hS hA hl.1 (P_beginsStatement l G h0 a (upd (upd (upd (upd F 2 (nI sz)) 9 (nI at9)) 10 (nI dp)) 11 (nI sg)) R Z B J K.1 (fun q99 x99 => x99 = rep G a K q99) w at9 sz (by omega) (by omega) hO) (gV pw_1026 pw_1027 pw_1028 pw_796 pw_997) hV_X8_beginsStatement qr69 5 hqr70 rfl rfl rfl (Nat.le_of_ble_eq_true rfl) dX8_statement_22 ⟨(by show 0 + 0 ≤ (2 * (sz - at9) + 20); omega), (by show 0 + 0 ≤ (11 * (2 * (sz - at9) + 20)); omega)⟩ ⟨(by show 4 + 1 ≤ (50 * n + 50); omega), (by show 8 + (1 + 11) + 101 ≤ (1500 * n + 1500); omega)⟩ (fun v68 u66 H locs hw67 hP hD hS => ?_)
      obtain ⟨w, r71⟩ := u66
      obtain ⟨hw67, h72, hO⟩ := hw67
      have h72 : r71 ≤ 1 := h72
      obtain rfl : v68 = some (.int (nI r71)) := hw67
      have hO : OKP G h0 a (upd (upd (upd (upd F 2 (nI sz)) 9 (nI at9)) 10 (nI dp)) 11 (nI sg)) R Z B J K w := hO.to rfl
      refine W.widen (k := 0) (n := 0) (Nat.le_of_ble_eq_true rfl) (Nat.le_of_ble_eq_true rfl) ?_
      refine W.eq (g2 := F0 m 25 ls [.int (nI r71)]) rfl ?_
      refine lv_if_ne (tgt := 32) hx hb dX8_statement_25 (by decide) (fun c73 => ?_) (fun c73 => ?_)
      · have n74 : ¬ (r71 = 0) := fun h9 => c73 ((nI_eq (a := r71) (b := 0) (by omega) (by omega)).mpr h9)
        refine lv_aload_n hx hb dX8_statement_32 rfl (lv_at hl 1 rfl) ?_
        have hO : OKW G h0 a (upd (upd (upd (upd (upd (upd (upd F 2 (nI sz)) 9 (nI at9)) 10 (nI dp)) 11 (nI sg)) 2 (nI sz)) 9 (nI at9)) 10 (nI dp)) R Z B J K.1 (fun q99 x99 => x99 = rep G a K q99) w := hO.to rfl
        obtain ⟨_, qr78, hqr79⟩ := hO.2.1 23 _ (sg_23 G h0 a _ _ _ _ _)
        refine pn_V0 (G := G) (As := []) (rest := []) hx hb hml hown hq hE hX pX0_al hP hD hS hA hl.1 (P_enter l G h0 a (upd (upd (upd (upd F 2 (nI sz)) 9 (nI at9)) 10 (nI dp)) 11 (nI sg)) R Z B J K.1 (fun q99 x99 => x99 = rep G a K q99) w dp at9 sz (by omega) (by omega) (by omega) hO hl0) (gV pw_947 pw_948 pw_949 pw_796 pw_905) hV_X8_enter qr78 5 hqr79 rfl rfl rfl (Nat.le_of_ble_eq_true rfl) dX8_statement_33 ⟨(by show 0 + 1 ≤ (2 * (sz - at9) + 20); omega), (by show 0 + 6 ≤ (11 * (2 * (sz - at9) + 20)); omega)⟩ ⟨(by show 7 + 1 ≤ (50 * n + 50); omega), (by show 8 + (1 + 11) + 122 ≤ (1500 * n + 1500); omega)⟩ (fun v77 u75 H locs hw76 hP hD hS => ?_) (fun ux ce9 q9 H9 locs9 hux hP9 hD9 hS9 hce hcv hcl => pb_out ux (ThQ.up (Thx.same (Thx.same (Thx.same Thx.rfl rfl) rfl) rfl) hux) hnt hlocks hce hcv hcl hP9 hD9 hS9 (by show 0 + 1 ≤ (2 * (sz - at9) + 20); omega) (by show 0 + 6 ≤ (11 * (2 * (sz - at9) + 20)); omega))
        obtain ⟨w, _⟩ := u75
        obtain ⟨hw76, h80, hO⟩ := hw76
        have h80 : dp + 1 ≤ 20 := h80
        obtain rfl : v77 = none := hw76
        have hO : OKP G h0 a (upd (upd (upd (upd F 2 (nI sz)) 9 (nI at9)) 10 (nI (dp + 1))) 11 (nI sg)) R Z B J K w := hO.to rfl
        refine W.widen (k := 0) (n := 0) (by show 0 + 0 ≤ 0; omega) (by show 0 + 0 ≤ 0; omega) ?_
        refine W.eq (g2 := F0 m 36 ls []) rfl ?_
        refine lv_aload_n hx hb dX8_statement_36 rfl (lv_at hl 1 rfl) ?_
        refine c_get (v := .int (nI sg)) (C := RX8) (Tc := TX8) (N := 5) (ci := 5) hx hb hq pin_wsX80 hown hE hP hO 23 (sg_23 G h0 a _ _ _ _ _) rfl 4 (by decide) (hq _ pw_904) (fun _ h9 => h9) rfl dX8_statement_37 ?_
        refine lv_istore_n (lv' := [(3, .int (nI sg)), (2, .int 0), (0, .ref (a 3)), (1, .int (nI x))]) hx hb dX8_statement_40 rfl hl (by decide) rfl (fun ls hl => ?_)
        refine lv_aload_n hx hb dX8_statement_41 rfl (lv_at hl 2 rfl) ?_
        refine lv_iconst (v := 0) hx hb dX8_statement_42 (by decide) ?_
        refine c_put (v := .int 0) (ty := .int) (C := RX8) (Tc := TX8) (N := 5) (ci := 5) hx hb hq pin_wsX80 tyX8 tyX8_ok nmX8 hown hE hP hD hS hO 23 (sg_23 G h0 a _ _ _ _ _) rfl 4 (by decide) (hq _ pw_904) (fun _ h9 => h9) rfl (by decide +kernel) rfl rfl (Nat.le_of_ble_eq_true rfl) (sf_11 G h0 a _ _ _ _ _ 0) dX8_statement_43 (fun H locs w hP hD hS hO => ?_)
        refine lv_iload_n hx hb dX8_statement_46 rfl (lv_at hl 1 rfl) ?_
        refine lv_if_eq (tgt := 58) hx hb dX8_statement_47 (by decide) (fun c81 => ?_) (fun c81 => absurd c81 (by decide))
        refine lv_aload_n hx hb dX8_statement_58 rfl (lv_at hl 2 rfl) ?_
        refine lv_aload_n hx hb dX8_statement_59 rfl (lv_at hl 2 rfl) ?_
        refine c_get (v := .ref (a 1)) (C := RX8) (Tc := TX8) (N := 5) (ci := 5) hx hb hq pin_wsX80 hown hE hP hO 23 (sg_23 G h0 a _ _ _ _ _) rfl 0 (by decide) (hq _ pw_774) (fun _ h9 => h9) rfl dX8_statement_60 ?_
        refine lv_aload_n hx hb dX8_statement_63 rfl (lv_at hl 2 rfl) ?_
        refine c_get (v := .int (nI at9)) (C := RX8) (Tc := TX8) (N := 5) (ci := 5) hx hb hq pin_wsX80 hown hE hP hO 23 (sg_23 G h0 a _ _ _ _ _) rfl 2 (by decide) (hq _ pw_776) (fun _ h9 => h9) rfl dX8_statement_64 ?_
        have hO : OKW G h0 a (upd (upd (upd (upd (upd F 2 (nI sz)) 9 (nI at9)) 10 (nI (dp + 1))) 11 0) 2 (nI sz)) R Z B J K.1 (fun q99 x99 => x99 = rep G a K q99) w := hO.to rfl
        obtain ⟨_, qr85, hqr86⟩ := hO.2.1 2 _ (sg_2 G h0 a _ _ _ _ _)
        refine pc_V0 (G := G) (As := [.int (nI at9)]) (rest := [.ref (a 3)]) hx hb hml hown hq hE hX pX0_al hP hD hS hA hl.1 (K_kindAt l G h0 a (upd (upd (upd (upd F 2 (nI sz)) 9 (nI at9)) 10 (nI (dp + 1))) 11 0) R Z B J K.1 (fun q99 x99 => x99 = rep G a K q99) w (nI at9) sz (by omega) hO) (gV pw_777 pw_193 pw_194 pw_59 pw_126) hV_X10_kindAt qr85 7 hqr86 rfl rfl rfl (Nat.le_of_ble_eq_true rfl) dX8_statement_67 ⟨(by show 0 + 0 ≤ (2 * (sz - at9) + 20); omega), (by show 0 + 0 ≤ (11 * (2 * (sz - at9) + 20)); omega)⟩ ⟨(by show 2 + 1 ≤ (50 * n + 50); omega), (by show 8 + (2 + 11) + 60 ≤ (1500 * n + 1500); omega)⟩ (fun v84 u82 H locs hw83 hP hD hS => ?_)
        obtain ⟨w, r87⟩ := u82
        obtain ⟨hw83, h88, hO⟩ := hw83
        have h88 : r87 = 67 ∨ ∃ t : Nat, (nI at9) = nI t ∧ t < sz := h88
        obtain rfl : v84 = some (.int r87) := hw83
        have hO : OKP G h0 a (upd (upd (upd (upd F 2 (nI sz)) 9 (nI at9)) 10 (nI (dp + 1))) 11 0) R Z B J K w := hO.to rfl
        refine W.widen (k := 0) (n := 0) (Nat.le_of_ble_eq_true rfl) (Nat.le_of_ble_eq_true rfl) ?_
        refine W.eq (g2 := F0 m 70 ls [.int r87, .ref (a 3)]) rfl ?_
        have hO : OKP G h0 a (upd (upd (upd (upd (upd (upd (upd (upd (upd (upd F 2 (nI sz)) 9 (nI at9)) 10 (nI dp)) 11 (nI sg)) 10 (nI (dp + 1))) 11 0) 2 (nI sz)) 9 (nI at9)) 10 (nI (dp + 1))) 11 (nI 0)) R Z B J K w := hO.to rfl
        obtain ⟨_, qr92, hqr93⟩ := hO.2.1 23 _ (sg_23 G h0 a _ _ _ _ _)
        refine pn_V0 (G := G) (As := [.int r87]) (rest := []) hx hb hml hown hq hE hX pX0_al hP hD hS hA hl.1 (P_statementBy l G h0 a (upd (upd (upd (upd (upd (upd F 2 (nI sz)) 9 (nI at9)) 10 (nI dp)) 11 (nI sg)) 10 (nI (dp + 1))) 11 0) R Z B J K w r87 (n - 1) at9 sz (dp + 1) 0 O g (by omega) (by omega) (by omega) (by omega) hwn how (ist (by omega)) h88 hO hl0) (gV pw_1029 pw_1030 pw_1031 pw_796 pw_1032) hV_X8_statementBy qr92 5 hqr93 rfl rfl rfl (Nat.le_of_ble_eq_true rfl) dX8_statement_70 ⟨(by show 0 + (2 * (sz - at9) + 20) ≤ (2 * (sz - at9) + 20); omega), (by show 0 + (11 * (2 * (sz - at9) + 20)) ≤ (11 * (2 * (sz - at9) + 20)); omega)⟩ ⟨(by show (50 * (n - 1) + 62) + 1 ≤ (50 * n + 50); omega), (by show 8 + (3 + 11) + (1500 * (n - 1) + 1700) ≤ (1500 * n + 1500); omega)⟩ (fun v91 u89 H locs hw90 hP hD hS => ?_) (fun ux ce9 q9 H9 locs9 hux hP9 hD9 hS9 hce hcv hcl => pb_out ux (ThQ.up (Thx.same (Thx.same (Thx.same (Thx.same (Thx.f (Thx.f Thx.rfl (by omega)) (by omega)) rfl) rfl) rfl) rfl) hux) hnt hlocks hce hcv hcl hP9 hD9 hS9 (by show 0 + (2 * (sz - at9) + 20) ≤ (2 * (sz - at9) + 20); omega) (by show 0 + (11 * (2 * (sz - at9) + 20)) ≤ (11 * (2 * (sz - at9) + 20)); omega))
        obtain ⟨w, r94, K95, g96, at97, sg98, f99⟩ := u89
        obtain ⟨hw90, h100, h101, h102, hO⟩ := hw90
        have h100 : NwR K K95 g g96 r94 O at9 ((173 + 3 * (20 - (dp + 1)))) := h100
        have h101 : at9 + 1 ≤ at97 ∧ at97 ≤ sz := h101
        have h102 : 0 ≤ sg98 ∧ sg98 ≤ 60 := h102
        obtain rfl : v91 = some (.ref r94) := hw90
        have hO : OKP G h0 a (upd (upd (upd (upd F 2 (nI sz)) 9 (nI at97)) 10 (nI (dp + 1))) 11 (nI sg98)) R Z (updA B 10 f99) J K95 w := hO.to rfl
        refine W.widen (k := (2 * (at97 - at9) - 1)) (n := (11 * (2 * (at97 - at9) - 1))) (by show 0 + (2 * (at97 - at9) - 1) ≤ (2 * (at97 - at9) - 1); omega) (by show 0 + (11 * (2 * (at97 - at9) - 1)) ≤ (11 * (2 * (at97 - at9) - 1)); omega) ?_
        refine W.eq (g2 := F0 m 73 ls [.ref r94]) rfl ?_
        refine lv_astore (lv' := [(4, .ref r94), (3, .int (nI sg)), (2, .int 0), (0, .ref (a 3)), (1, .int (nI x))]) hx hb dX8_statement_73 hl (by decide) rfl (fun ls hl => ?_)
        refine lv_aload_n hx hb dX8_statement_75 rfl (lv_at hl 3 rfl) ?_
        refine lv_iload_n hx hb dX8_statement_76 rfl (lv_at hl 1 rfl) ?_
        refine c_put (v := .int (nI sg)) (ty := .int) (C := RX8) (Tc := TX8) (N := 5) (ci := 5) hx hb hq pin_wsX80 tyX8 tyX8_ok nmX8 hown hE hP hD hS hO 23 (sg_23 G h0 a _ _ _ _ _) rfl 4 (by decide) (hq _ pw_904) (fun _ h9 => h9) rfl (by decide +kernel) rfl rfl (Nat.le_of_ble_eq_true rfl) (sf_11 G h0 a _ _ _ _ _ (nI sg)) dX8_statement_77 (fun H locs w hP hD hS hO => ?_)
        refine lv_aload_n hx hb dX8_statement_80 rfl (lv_at hl 3 rfl) ?_
        have hO : OKW G h0 a (upd (upd (upd (upd (upd F 2 (nI sz)) 9 (nI at97)) 10 (nI (dp + 1))) 11 (nI sg)) 10 (nI (dp + 1))) R Z (updA B 10 f99) J K95.1 (fun q99 x99 => x99 = rep G a K95 q99) w := hO.to rfl
        obtain ⟨_, qr106, hqr107⟩ := hO.2.1 23 _ (sg_23 G h0 a _ _ _ _ _)
        refine pc_V0 (G := G) (As := []) (rest := []) hx hb hml hown hq hE hX pX0_al hP hD hS hA hl.1 (P_leave l G h0 a (upd (upd (upd (upd F 2 (nI sz)) 9 (nI at97)) 10 (nI (dp + 1))) 11 (nI sg)) R Z (updA B 10 f99) J K95.1 (fun q99 x99 => x99 = rep G a K95 q99) w (dp + 1) (by omega) hO) (gV pw_950 pw_951 pw_952 pw_796 pw_906) hV_X8_leave qr106 5 hqr107 rfl rfl rfl (Nat.le_of_ble_eq_true rfl) dX8_statement_81 ⟨(by show (2 * (at97 - at9) - 1) + 0 ≤ (2 * (sz - at9) + 20); omega), (by show (11 * (2 * (at97 - at9) - 1)) + 0 ≤ (11 * (2 * (sz - at9) + 20)); omega)⟩ ⟨(by show 2 + 1 ≤ (50 * n + 50); omega), (by show 8 + (1 + 11) + 60 ≤ (1500 * n + 1500); omega)⟩ (fun v105 u103 H locs hw104 hP hD hS => ?_)
        obtain ⟨w, _⟩ := u103
        obtain ⟨hw104, hO⟩ := hw104
        obtain rfl : v105 = none := hw104
        have hO : OKP G h0 a (upd (upd (upd (upd F 2 (nI sz)) 9 (nI at97)) 10 (nI ((dp + 1) - 1))) 11 (nI sg)) R Z (updA B 10 f99) J K95 w := hO.to rfl
        refine W.widen (k := (2 * (at97 - at9) - 1)) (n := (11 * (2 * (at97 - at9) - 1))) (by show (2 * (at97 - at9) - 1) + 0 ≤ (2 * (at97 - at9) - 1); omega) (by show (11 * (2 * (at97 - at9) - 1)) + 0 ≤ (11 * (2 * (at97 - at9) - 1)); omega) ?_
        refine W.eq (g2 := F0 m 84 ls []) rfl ?_
        refine lv_aload hx hb dX8_statement_84 (lv_at hl 0 rfl) ?_
        refine W_size (fun hz1 hz2 => ?_)
        refine vx_ret ?_
        have hz108 : NwR K K95 g g96 r94 O at9 ((170 + 3 * (20 - dp))) := (NwR.up h100 (by omega))
        have hz109 : at9 + 1 ≤ at97 ∧ at97 ≤ sz := (by omega)
        have hz110 : sg ≤ sg ∧ sg ≤ 60 := (by omega)
        have hO : OKP G h0 a (upd (upd (upd (upd F 2 (nI sz)) 9 (nI at97)) 10 (nI dp)) 11 (nI sg)) R Z (updA B 10 f99) J K95 w := hO.to rfl
        refine W.widen (k := (2 * (sz - at9) + 20)) (n := (11 * (2 * (sz - at9) + 20))) (by omega) (by omega) ?_
        have hzz1 : H.size ≤ s.heap.size + ((2 * (at97 - at9) - 1)) := (by have z : (2 * (at97 - at9) - 1) ≤ (2 * (at97 - at9) - 1) := (by omega); omega)
        have hzz2 : hSl H ≤ hSl s.heap + ((11 * (2 * (at97 - at9) - 1))) := (by have z : (11 * (2 * (at97 - at9) - 1)) ≤ (11 * (2 * (at97 - at9) - 1)) := (by omega); omega)
        exact W.aret (v := .ref r94) hx hb hr (Or.inl ⟨_, rfl⟩) (Or.inr ⟨_, rfl⟩) (fun t99 ht99 hW99 => ⟨⟨_, (w, (r94, K95, g96, at97, sg, f99)), rfl, ⟨rfl, hz108, hz109, hz110, hO⟩, by rw [ht99]; exact hP, hD, by rw [ht99]; exact hzz1, by rw [ht99]; exact hzz2⟩, hS.F ht99⟩) hS.2.2 dX8_statement_86
      · have n111 : r71 = 0 := (nI_eq (a := r71) (b := 0) (by omega) (by omega)).mp c73
        refine lv_aload_n hx hb dX8_statement_28 rfl (lv_at hl 1 rfl) ?_
        have hO : OKW G h0 a (upd (upd (upd (upd (upd (upd F 2 (nI sz)) 9 (nI at9)) 10 (nI dp)) 11 (nI sg)) 2 (nI sz)) 9 (nI at9)) R Z B J K.1 (fun q99 x99 => x99 = rep G a K q99) w := hO.to rfl
        obtain ⟨_, qr115, hqr116⟩ := hO.2.1 23 _ (sg_23 G h0 a _ _ _ _ _)
        refine pn_V0 (G := G) (As := []) (rest := []) hx hb hml hown hq hE hX pX0_al hP hD hS hA hl.1 (P_refuse l G h0 a (upd (upd (upd (upd F 2 (nI sz)) 9 (nI at9)) 10 (nI dp)) 11 (nI sg)) R Z B J K.1 (fun q99 x99 => x99 = rep G a K q99) w at9 sz (by omega) (by omega) hO hl0) (gV pw_806 pw_807 pw_808 pw_796 pw_778) hV_X8_refuse qr115 5 hqr116 rfl rfl rfl (Nat.le_of_ble_eq_true rfl) dX8_statement_29 ⟨(by show 0 + 1 ≤ (2 * (sz - at9) + 20); omega), (by show 0 + 6 ≤ (11 * (2 * (sz - at9) + 20)); omega)⟩ ⟨(by show 7 + 1 ≤ (50 * n + 50); omega), (by show 8 + (1 + 11) + 122 ≤ (1500 * n + 1500); omega)⟩ (fun v114 u112 H locs hw113 hP hD hS => hw113.elim) (fun ux ce9 q9 H9 locs9 hux hP9 hD9 hS9 hce hcv hcl => pb_out ux (ThQ.up (Thx.same (Thx.same Thx.rfl rfl) rfl) hux) hnt hlocks hce hcv hcl hP9 hD9 hS9 (by show 0 + 1 ≤ (2 * (sz - at9) + 20); omega) (by show 0 + 6 ≤ (11 * (2 * (sz - at9) + 20)); omega))
    · have n117 : ¬ (r61 = 0) := fun h9 => c63 ((nI_eq (a := r61) (b := 0) (by omega) (by omega)).mpr h9)
      refine lv_iconst (v := 1) hx hb dX8_statement_11 (by decide) ?_
      refine lv_goto (tgt := 16) hx hb dX8_statement_12 (by decide) ?_
      refine lv_istore_n (lv' := [(2, .int 1), (0, .ref (a 3)), (1, .int (nI x))]) hx hb dX8_statement_16 rfl hl (by decide) rfl (fun ls hl => ?_)
      refine lv_iload_n hx hb dX8_statement_17 rfl (lv_at hl 0 rfl) ?_
      refine lv_if_ne (tgt := 32) hx hb dX8_statement_18 (by decide) (fun c118 => ?_) (fun c118 => absurd c118 (by decide))
      refine lv_aload_n hx hb dX8_statement_32 rfl (lv_at hl 1 rfl) ?_
      have hO : OKW G h0 a (upd (upd (upd (upd (upd (upd (upd F 2 (nI sz)) 9 (nI at9)) 10 (nI dp)) 11 (nI sg)) 2 (nI sz)) 9 (nI at9)) 10 (nI dp)) R Z B J K.1 (fun q99 x99 => x99 = rep G a K q99) w := hO.to rfl
      obtain ⟨_, qr122, hqr123⟩ := hO.2.1 23 _ (sg_23 G h0 a _ _ _ _ _)
      refine pn_V0 (G := G) (As := []) (rest := []) hx hb hml hown hq hE hX pX0_al hP hD hS hA hl.1 (P_enter l G h0 a (upd (upd (upd (upd F 2 (nI sz)) 9 (nI at9)) 10 (nI dp)) 11 (nI sg)) R Z B J K.1 (fun q99 x99 => x99 = rep G a K q99) w dp at9 sz (by omega) (by omega) (by omega) hO hl0) (gV pw_947 pw_948 pw_949 pw_796 pw_905) hV_X8_enter qr122 5 hqr123 rfl rfl rfl (Nat.le_of_ble_eq_true rfl) dX8_statement_33 ⟨(by show 0 + 1 ≤ (2 * (sz - at9) + 20); omega), (by show 0 + 6 ≤ (11 * (2 * (sz - at9) + 20)); omega)⟩ ⟨(by show 7 + 1 ≤ (50 * n + 50); omega), (by show 8 + (1 + 11) + 122 ≤ (1500 * n + 1500); omega)⟩ (fun v121 u119 H locs hw120 hP hD hS => ?_) (fun ux ce9 q9 H9 locs9 hux hP9 hD9 hS9 hce hcv hcl => pb_out ux (ThQ.up (Thx.same (Thx.same (Thx.same Thx.rfl rfl) rfl) rfl) hux) hnt hlocks hce hcv hcl hP9 hD9 hS9 (by show 0 + 1 ≤ (2 * (sz - at9) + 20); omega) (by show 0 + 6 ≤ (11 * (2 * (sz - at9) + 20)); omega))
      obtain ⟨w, _⟩ := u119
      obtain ⟨hw120, h124, hO⟩ := hw120
      have h124 : dp + 1 ≤ 20 := h124
      obtain rfl : v121 = none := hw120
      have hO : OKP G h0 a (upd (upd (upd (upd F 2 (nI sz)) 9 (nI at9)) 10 (nI (dp + 1))) 11 (nI sg)) R Z B J K w := hO.to rfl
      refine W.widen (k := 0) (n := 0) (by show 0 + 0 ≤ 0; omega) (by show 0 + 0 ≤ 0; omega) ?_
      refine W.eq (g2 := F0 m 36 ls []) rfl ?_
      refine lv_aload_n hx hb dX8_statement_36 rfl (lv_at hl 1 rfl) ?_
      refine c_get (v := .int (nI sg)) (C := RX8) (Tc := TX8) (N := 5) (ci := 5) hx hb hq pin_wsX80 hown hE hP hO 23 (sg_23 G h0 a _ _ _ _ _) rfl 4 (by decide) (hq _ pw_904) (fun _ h9 => h9) rfl dX8_statement_37 ?_
      refine lv_istore_n (lv' := [(3, .int (nI sg)), (2, .int 1), (0, .ref (a 3)), (1, .int (nI x))]) hx hb dX8_statement_40 rfl hl (by decide) rfl (fun ls hl => ?_)
      refine lv_aload_n hx hb dX8_statement_41 rfl (lv_at hl 2 rfl) ?_
      refine lv_iconst (v := 0) hx hb dX8_statement_42 (by decide) ?_
      refine c_put (v := .int 0) (ty := .int) (C := RX8) (Tc := TX8) (N := 5) (ci := 5) hx hb hq pin_wsX80 tyX8 tyX8_ok nmX8 hown hE hP hD hS hO 23 (sg_23 G h0 a _ _ _ _ _) rfl 4 (by decide) (hq _ pw_904) (fun _ h9 => h9) rfl (by decide +kernel) rfl rfl (Nat.le_of_ble_eq_true rfl) (sf_11 G h0 a _ _ _ _ _ 0) dX8_statement_43 (fun H locs w hP hD hS hO => ?_)
      refine lv_iload_n hx hb dX8_statement_46 rfl (lv_at hl 1 rfl) ?_
      refine lv_if_eq (tgt := 58) hx hb dX8_statement_47 (by decide) (fun c125 => absurd c125 (by decide)) (fun c125 => ?_)
      refine lv_aload_n hx hb dX8_statement_50 rfl (lv_at hl 2 rfl) ?_
      refine lv_iconst (v := 1) hx hb dX8_statement_51 (by decide) ?_
      have hO : OKP G h0 a (upd (upd (upd (upd (upd (upd (upd (upd (upd (upd F 2 (nI sz)) 9 (nI at9)) 10 (nI dp)) 11 (nI sg)) 10 (nI (dp + 1))) 11 0) 2 (nI sz)) 9 (nI at9)) 10 (nI (dp + 1))) 11 (nI 0)) R Z B J K w := hO.to rfl
      obtain ⟨_, qr129, hqr130⟩ := hO.2.1 23 _ (sg_23 G h0 a _ _ _ _ _)
      refine pn_V0 (G := G) (As := [.int (nI 1)]) (rest := []) hx hb hml hown hq hE hX pX0_al hP hD hS hA hl.1 (P_lokal l G h0 a (upd (upd (upd (upd (upd (upd F 2 (nI sz)) 9 (nI at9)) 10 (nI dp)) 11 (nI sg)) 10 (nI (dp + 1))) 11 0) R Z B J K w 1 (n - 1) at9 sz (dp + 1) 0 O g (by omega) (by omega) (by omega) (by omega) hwn how (by omega) hO hl0) (gV pw_1015 pw_1016 pw_1017 pw_796 pw_987) hV_X8_local qr129 5 hqr130 rfl rfl rfl (Nat.le_of_ble_eq_true rfl) dX8_statement_52 ⟨(by show 0 + (2 * (sz - at9) + 20) ≤ (2 * (sz - at9) + 20); omega), (by show 0 + (11 * (2 * (sz - at9) + 20)) ≤ (11 * (2 * (sz - at9) + 20)); omega)⟩ ⟨(by show (40 * (n - 1) + 44) + 1 ≤ (50 * n + 50); omega), (by show 8 + (4 + 11) + (1300 * (n - 1) + 1400) ≤ (1500 * n + 1500); omega)⟩ (fun v128 u126 H locs hw127 hP hD hS => ?_) (fun ux ce9 q9 H9 locs9 hux hP9 hD9 hS9 hce hcv hcl => pb_out ux (ThQ.up (Thx.same (Thx.same (Thx.same (Thx.same (Thx.f (Thx.f Thx.rfl (by omega)) (by omega)) rfl) rfl) rfl) rfl) hux) hnt hlocks hce hcv hcl hP9 hD9 hS9 (by show 0 + (2 * (sz - at9) + 20) ≤ (2 * (sz - at9) + 20); omega) (by show 0 + (11 * (2 * (sz - at9) + 20)) ≤ (11 * (2 * (sz - at9) + 20)); omega))
      obtain ⟨w, r131, K132, g133, at134, sg135, f136⟩ := u126
      obtain ⟨hw127, h137, h138, h139, hO⟩ := hw127
      have h137 : NwR K K132 g g133 r131 O at9 (168) := h137
      have h138 : at9 + 2 ≤ at134 ∧ at134 ≤ sz := h138
      have h139 : 0 ≤ sg135 ∧ sg135 ≤ 60 := h139
      obtain rfl : v128 = some (.ref r131) := hw127
      have hO : OKP G h0 a (upd (upd (upd (upd F 2 (nI sz)) 9 (nI at134)) 10 (nI (dp + 1))) 11 (nI sg135)) R Z (updA B 10 f136) J K132 w := hO.to rfl
      refine W.widen (k := (2 * (at134 - at9) - 3)) (n := (11 * (2 * (at134 - at9) - 3))) (by show 0 + (2 * (at134 - at9) - 3) ≤ (2 * (at134 - at9) - 3); omega) (by show 0 + (11 * (2 * (at134 - at9) - 3)) ≤ (11 * (2 * (at134 - at9) - 3)); omega) ?_
      refine W.eq (g2 := F0 m 55 ls [.ref r131]) rfl ?_
      refine lv_goto (tgt := 73) hx hb dX8_statement_55 (by decide) ?_
      refine lv_astore (lv' := [(4, .ref r131), (3, .int (nI sg)), (2, .int 1), (0, .ref (a 3)), (1, .int (nI x))]) hx hb dX8_statement_73 hl (by decide) rfl (fun ls hl => ?_)
      refine lv_aload_n hx hb dX8_statement_75 rfl (lv_at hl 3 rfl) ?_
      refine lv_iload_n hx hb dX8_statement_76 rfl (lv_at hl 1 rfl) ?_
      refine c_put (v := .int (nI sg)) (ty := .int) (C := RX8) (Tc := TX8) (N := 5) (ci := 5) hx hb hq pin_wsX80 tyX8 tyX8_ok nmX8 hown hE hP hD hS hO 23 (sg_23 G h0 a _ _ _ _ _) rfl 4 (by decide) (hq _ pw_904) (fun _ h9 => h9) rfl (by decide +kernel) rfl rfl (Nat.le_of_ble_eq_true rfl) (sf_11 G h0 a _ _ _ _ _ (nI sg)) dX8_statement_77 (fun H locs w hP hD hS hO => ?_)
      refine lv_aload_n hx hb dX8_statement_80 rfl (lv_at hl 3 rfl) ?_
      have hO : OKW G h0 a (upd (upd (upd (upd (upd F 2 (nI sz)) 9 (nI at134)) 10 (nI (dp + 1))) 11 (nI sg)) 10 (nI (dp + 1))) R Z (updA B 10 f136) J K132.1 (fun q99 x99 => x99 = rep G a K132 q99) w := hO.to rfl
      obtain ⟨_, qr143, hqr144⟩ := hO.2.1 23 _ (sg_23 G h0 a _ _ _ _ _)
      refine pc_V0 (G := G) (As := []) (rest := []) hx hb hml hown hq hE hX pX0_al hP hD hS hA hl.1 (P_leave l G h0 a (upd (upd (upd (upd F 2 (nI sz)) 9 (nI at134)) 10 (nI (dp + 1))) 11 (nI sg)) R Z (updA B 10 f136) J K132.1 (fun q99 x99 => x99 = rep G a K132 q99) w (dp + 1) (by omega) hO) (gV pw_950 pw_951 pw_952 pw_796 pw_906) hV_X8_leave qr143 5 hqr144 rfl rfl rfl (Nat.le_of_ble_eq_true rfl) dX8_statement_81 ⟨(by show (2 * (at134 - at9) - 3) + 0 ≤ (2 * (sz - at9) + 20); omega), (by show (11 * (2 * (at134 - at9) - 3)) + 0 ≤ (11 * (2 * (sz - at9) + 20)); omega)⟩ ⟨(by show 2 + 1 ≤ (50 * n + 50); omega), (by show 8 + (1 + 11) + 60 ≤ (1500 * n + 1500); omega)⟩ (fun v142 u140 H locs hw141 hP hD hS => ?_)
      obtain ⟨w, _⟩ := u140
      obtain ⟨hw141, hO⟩ := hw141
      obtain rfl : v142 = none := hw141
      have hO : OKP G h0 a (upd (upd (upd (upd F 2 (nI sz)) 9 (nI at134)) 10 (nI ((dp + 1) - 1))) 11 (nI sg)) R Z (updA B 10 f136) J K132 w := hO.to rfl
      refine W.widen (k := (2 * (at134 - at9) - 3)) (n := (11 * (2 * (at134 - at9) - 3))) (by show (2 * (at134 - at9) - 3) + 0 ≤ (2 * (at134 - at9) - 3); omega) (by show (11 * (2 * (at134 - at9) - 3)) + 0 ≤ (11 * (2 * (at134 - at9) - 3)); omega) ?_
      refine W.eq (g2 := F0 m 84 ls []) rfl ?_
      refine lv_aload hx hb dX8_statement_84 (lv_at hl 0 rfl) ?_
      refine W_size (fun hz1 hz2 => ?_)
      refine vx_ret ?_
      have hz145 : NwR K K132 g g133 r131 O at9 ((170 + 3 * (20 - dp))) := (NwR.up h137 (by omega))
      have hz146 : at9 + 1 ≤ at134 ∧ at134 ≤ sz := (by omega)
      have hz147 : sg ≤ sg ∧ sg ≤ 60 := (by omega)
      have hO : OKP G h0 a (upd (upd (upd (upd F 2 (nI sz)) 9 (nI at134)) 10 (nI dp)) 11 (nI sg)) R Z (updA B 10 f136) J K132 w := hO.to rfl
      refine W.widen (k := (2 * (sz - at9) + 20)) (n := (11 * (2 * (sz - at9) + 20))) (by omega) (by omega) ?_
      have hzz1 : H.size ≤ s.heap.size + ((2 * (at134 - at9) - 1)) := (by have z : (2 * (at134 - at9) - 3) ≤ (2 * (at134 - at9) - 1) := (by omega); omega)
      have hzz2 : hSl H ≤ hSl s.heap + ((11 * (2 * (at134 - at9) - 1))) := (by have z : (11 * (2 * (at134 - at9) - 3)) ≤ (11 * (2 * (at134 - at9) - 1)) := (by omega); omega)
      exact W.aret (v := .ref r131) hx hb hr (Or.inl ⟨_, rfl⟩) (Or.inr ⟨_, rfl⟩) (fun t99 ht99 hW99 => ⟨⟨_, (w, (r131, K132, g133, at134, sg, f136)), rfl, ⟨rfl, hz145, hz146, hz147, hO⟩, by rw [ht99]; exact hP, hD, by rw [ht99]; exact hzz1, by rw [ht99]; exact hzz2⟩, hS.F ht99⟩) hS.2.2 dX8_statement_86
theorem PSt_all (l : Launch) (G : pT) : ∀ n : Nat, PSt l G n := by
  intro n
  induction n with
  | zero =>
    intro h0 a F R Z B J K w x at9 sz dp sg O g hsz hat hdp hsg hwn how hx1x hO hl0
    exact P_statement l G h0 a F R Z B J K w x 0 at9 sz dp sg O g hsz hat hdp hsg hwn how hx1x (fun z => absurd z (by omega)) hO hl0
  | succ n ih =>
    intro h0 a F R Z B J K w x at9 sz dp sg O g hsz hat hdp hsg hwn how hx1x hO hl0
    exact P_statement l G h0 a F R Z B J K w x (n + 1) at9 sz dp sg O g hsz hat hdp hsg hwn how hx1x (fun _ => ih) hO hl0

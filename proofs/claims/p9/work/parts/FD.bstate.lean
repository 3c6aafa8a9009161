theorem dX8_statementBy_270 : decode cX8_statementBy 270 = .ok (.aload_n 0, 1) := by decide +kernel
theorem dX8_statementBy_271 : decode cX8_statementBy 271 = .ok (.iconst 1, 1) := by decide +kernel
theorem dX8_statementBy_272 : decode cX8_statementBy 272 = .ok (.invokevirtual 218, 3) := by decide +kernel
theorem dX8_statementBy_275 : decode cX8_statementBy 275 = .ok (.astore_n 2, 1) := by decide +kernel
theorem dX8_statementBy_276 : decode cX8_statementBy 276 = .ok (.aload_n 0, 1) := by decide +kernel
theorem dX8_statementBy_277 : decode cX8_statementBy 277 = .ok (.bipush 38, 2) := by decide +kernel
theorem dX8_statementBy_279 : decode cX8_statementBy 279 = .ok (.invokevirtual 53, 3) := by decide +kernel
theorem dX8_statementBy_282 : decode cX8_statementBy 282 = .ok (.pop, 1) := by decide +kernel
theorem dX8_statementBy_283 : decode cX8_statementBy 283 = .ok (.aload_n 2, 1) := by decide +kernel
theorem dX8_statementBy_284 : decode cX8_statementBy 284 = .ok (.areturn, 1) := by decide +kernel
theorem dX8_statementBy_0 : decode cX8_statementBy 0 = .ok (.iload_n 1, 1) := by decide +kernel
theorem dX8_statementBy_1 : decode cX8_statementBy 1 = .ok (.tableswitch 269 2 38 #[231, 269, 269, 239, 269, 269, 269, 269, 178, 168, 269, 269, 269, 269, 269, 269, 269, 188, 269, 193, 269, 269, 223, 269, 183, 269, 173, 269, 269, 269, 163, 269, 269, 269, 269, 269, 247], 163) := by decide +kernel
theorem dX8_statementBy_232 : decode cX8_statementBy 232 = .ok (.aload_n 0, 1) := by decide +kernel
theorem dX8_statementBy_233 : decode cX8_statementBy 233 = .ok (.bipush 29, 2) := by decide +kernel
theorem dX8_statementBy_235 : decode cX8_statementBy 235 = .ok (.iconst 0, 1) := by decide +kernel
theorem dX8_statementBy_236 : decode cX8_statementBy 236 = .ok (.invokevirtual 214, 3) := by decide +kernel
theorem dX8_statementBy_239 : decode cX8_statementBy 239 = .ok (.areturn, 1) := by decide +kernel
theorem dX8_statementBy_240 : decode cX8_statementBy 240 = .ok (.aload_n 0, 1) := by decide +kernel
theorem dX8_statementBy_241 : decode cX8_statementBy 241 = .ok (.bipush 30, 2) := by decide +kernel
theorem dX8_statementBy_243 : decode cX8_statementBy 243 = .ok (.iconst 0, 1) := by decide +kernel
theorem dX8_statementBy_244 : decode cX8_statementBy 244 = .ok (.invokevirtual 214, 3) := by decide +kernel
theorem dX8_statementBy_247 : decode cX8_statementBy 247 = .ok (.areturn, 1) := by decide +kernel
theorem dX8_statementBy_179 : decode cX8_statementBy 179 = .ok (.aload_n 0, 1) := by decide +kernel
theorem dX8_statementBy_180 : decode cX8_statementBy 180 = .ok (.invokevirtual 205, 3) := by decide +kernel
theorem dX8_statementBy_183 : decode cX8_statementBy 183 = .ok (.areturn, 1) := by decide +kernel
theorem dX8_statementBy_169 : decode cX8_statementBy 169 = .ok (.aload_n 0, 1) := by decide +kernel
theorem dX8_statementBy_170 : decode cX8_statementBy 170 = .ok (.invokevirtual 199, 3) := by decide +kernel
theorem dX8_statementBy_173 : decode cX8_statementBy 173 = .ok (.areturn, 1) := by decide +kernel
theorem dX8_statementBy_189 : decode cX8_statementBy 189 = .ok (.aload_n 0, 1) := by decide +kernel
theorem dX8_statementBy_190 : decode cX8_statementBy 190 = .ok (.invokevirtual 211, 3) := by decide +kernel
theorem dX8_statementBy_193 : decode cX8_statementBy 193 = .ok (.areturn, 1) := by decide +kernel
theorem dX8_statementBy_194 : decode cX8_statementBy 194 = .ok (.aload_n 0, 1) := by decide +kernel
theorem dX8_statementBy_195 : decode cX8_statementBy 195 = .ok (.bipush 28, 2) := by decide +kernel
theorem dX8_statementBy_197 : decode cX8_statementBy 197 = .ok (.aload_n 0, 1) := by decide +kernel
theorem dX8_statementBy_198 : decode cX8_statementBy 198 = .ok (.getfield 7, 3) := by decide +kernel
theorem dX8_statementBy_201 : decode cX8_statementBy 201 = .ok (.aload_n 0, 1) := by decide +kernel
theorem dX8_statementBy_202 : decode cX8_statementBy 202 = .ok (.getfield 17, 3) := by decide +kernel
theorem dX8_statementBy_205 : decode cX8_statementBy 205 = .ok (.iconst 1, 1) := by decide +kernel
theorem dX8_statementBy_206 : decode cX8_statementBy 206 = .ok (.iadd, 1) := by decide +kernel
theorem dX8_statementBy_207 : decode cX8_statementBy 207 = .ok (.invokevirtual 57, 3) := by decide +kernel
theorem dX8_statementBy_210 : decode cX8_statementBy 210 = .ok (.bipush 38, 2) := by decide +kernel
theorem dX8_statementBy_212 : decode cX8_statementBy 212 = .ok (.if_icmp .eq 7, 3) := by decide +kernel
theorem dX8_statementBy_219 : decode cX8_statementBy 219 = .ok (.iconst 0, 1) := by decide +kernel
theorem dX8_statementBy_220 : decode cX8_statementBy 220 = .ok (.invokevirtual 214, 3) := by decide +kernel
theorem dX8_statementBy_223 : decode cX8_statementBy 223 = .ok (.areturn, 1) := by decide +kernel
theorem dX8_statementBy_215 : decode cX8_statementBy 215 = .ok (.iconst 1, 1) := by decide +kernel
theorem dX8_statementBy_216 : decode cX8_statementBy 216 = .ok (.goto 4, 3) := by decide +kernel
theorem dX8_statementBy_224 : decode cX8_statementBy 224 = .ok (.aload_n 0, 1) := by decide +kernel
theorem dX8_statementBy_225 : decode cX8_statementBy 225 = .ok (.bipush 31, 2) := by decide +kernel
theorem dX8_statementBy_227 : decode cX8_statementBy 227 = .ok (.iconst 1, 1) := by decide +kernel
theorem dX8_statementBy_228 : decode cX8_statementBy 228 = .ok (.invokevirtual 214, 3) := by decide +kernel
theorem dX8_statementBy_231 : decode cX8_statementBy 231 = .ok (.areturn, 1) := by decide +kernel
theorem dX8_statementBy_184 : decode cX8_statementBy 184 = .ok (.aload_n 0, 1) := by decide +kernel
theorem dX8_statementBy_185 : decode cX8_statementBy 185 = .ok (.invokevirtual 208, 3) := by decide +kernel
theorem dX8_statementBy_188 : decode cX8_statementBy 188 = .ok (.areturn, 1) := by decide +kernel
theorem dX8_statementBy_174 : decode cX8_statementBy 174 = .ok (.aload_n 0, 1) := by decide +kernel
theorem dX8_statementBy_175 : decode cX8_statementBy 175 = .ok (.invokevirtual 202, 3) := by decide +kernel
theorem dX8_statementBy_178 : decode cX8_statementBy 178 = .ok (.areturn, 1) := by decide +kernel
theorem dX8_statementBy_164 : decode cX8_statementBy 164 = .ok (.aload_n 0, 1) := by decide +kernel
theorem dX8_statementBy_165 : decode cX8_statementBy 165 = .ok (.invokevirtual 120, 3) := by decide +kernel
theorem dX8_statementBy_168 : decode cX8_statementBy 168 = .ok (.areturn, 1) := by decide +kernel
theorem dX8_statementBy_248 : decode cX8_statementBy 248 = .ok (.new 143, 3) := by decide +kernel
theorem dX8_statementBy_251 : decode cX8_statementBy 251 = .ok (.dup, 1) := by decide +kernel
theorem dX8_statementBy_252 : decode cX8_statementBy 252 = .ok (.bipush 34, 2) := by decide +kernel
theorem dX8_statementBy_254 : decode cX8_statementBy 254 = .ok (.aload_n 0, 1) := by decide +kernel
theorem dX8_statementBy_255 : decode cX8_statementBy 255 = .ok (.bipush 38, 2) := by decide +kernel
theorem dX8_statementBy_257 : decode cX8_statementBy 257 = .ok (.invokevirtual 53, 3) := by decide +kernel
theorem dX8_statementBy_260 : decode cX8_statementBy 260 = .ok (.aload_n 0, 1) := by decide +kernel
theorem dX8_statementBy_261 : decode cX8_statementBy 261 = .ok (.getfield 17, 3) := by decide +kernel
theorem dX8_statementBy_264 : decode cX8_statementBy 264 = .ok (.iconst 1, 1) := by decide +kernel
theorem dX8_statementBy_265 : decode cX8_statementBy 265 = .ok (.isub, 1) := by decide +kernel
theorem dX8_statementBy_266 : decode cX8_statementBy 266 = .ok (.invokespecial 145, 3) := by decide +kernel
theorem dX8_statementBy_269 : decode cX8_statementBy 269 = .ok (.areturn, 1) := by decide +kernel
theorem hV_X8_wordStatement : yX8_wordStatement.cls = RX8 ∧ yX8_wordStatement.cls ≠ "java/lang/invoke/MethodHandle" ∧ yX8_wordStatement.cls ≠ "java/lang/invoke/VarHandle" ∧ (parseMethodDescriptor yX8_wordStatement.desc).map (fun d => d.parameters.length) = some 2 := by decide +kernel
theorem hV_X8_forStatement : yX8_forStatement.cls = RX8 ∧ yX8_forStatement.cls ≠ "java/lang/invoke/MethodHandle" ∧ yX8_forStatement.cls ≠ "java/lang/invoke/VarHandle" ∧ (parseMethodDescriptor yX8_forStatement.desc).map (fun d => d.parameters.length) = some 0 := by decide +kernel
theorem hV_X8_ifStatement : yX8_ifStatement.cls = RX8 ∧ yX8_ifStatement.cls ≠ "java/lang/invoke/MethodHandle" ∧ yX8_ifStatement.cls ≠ "java/lang/invoke/VarHandle" ∧ (parseMethodDescriptor yX8_ifStatement.desc).map (fun d => d.parameters.length) = some 0 := by decide +kernel
theorem hV_X8_printStatement : yX8_printStatement.cls = RX8 ∧ yX8_printStatement.cls ≠ "java/lang/invoke/MethodHandle" ∧ yX8_printStatement.cls ≠ "java/lang/invoke/VarHandle" ∧ (parseMethodDescriptor yX8_printStatement.desc).map (fun d => d.parameters.length) = some 0 := by decide +kernel
theorem hV_X8_tryStatement : yX8_tryStatement.cls = RX8 ∧ yX8_tryStatement.cls ≠ "java/lang/invoke/MethodHandle" ∧ yX8_tryStatement.cls ≠ "java/lang/invoke/VarHandle" ∧ (parseMethodDescriptor yX8_tryStatement.desc).map (fun d => d.parameters.length) = some 0 := by decide +kernel
theorem hV_X8_whileStatement : yX8_whileStatement.cls = RX8 ∧ yX8_whileStatement.cls ≠ "java/lang/invoke/MethodHandle" ∧ yX8_whileStatement.cls ≠ "java/lang/invoke/VarHandle" ∧ (parseMethodDescriptor yX8_whileStatement.desc).map (fun d => d.parameters.length) = some 0 := by decide +kernel
set_option maxHeartbeats 40000000 in
set_option maxRecDepth 100000 in
theorem P_statementBy (l : Launch) (G : pT) (h0 : Nat) (a : Nat → Nat) (F : Nat → Int32) (R : Nat → Value) (Z : Int64) (B : Nat → Nat → Int32) (J : Nat → Nat → Int64) (K : PK) (w : va_W) (x : Int32) (n : Nat) (at9 : Nat) (sz : Nat) (dp : Nat) (sg : Nat) (O : Nat) (g : Nat → Nat → Nat) (hsz : sz ≤ 5000) (hat : at9 ≤ sz) (hdp : dp + n = 20) (hsg : sg ≤ 60) (hwn : WN K g) (how : ∀ o : Nat, O = o + 1 → K.1 o = 1 ∧ g 0 o = 0 ∧ ¬ K.2.1 0 o = 32) (ist : PSt l G n) (hkx : x = 67 ∨ ∃ t : Nat, nI at9 = nI t ∧ t < sz) (hO : OKP G h0 a (upd (upd (upd (upd F 2 (nI sz)) 9 (nI at9)) 10 (nI dp)) 11 (nI sg)) R Z B J K w) (hl0 : l.stackTraces = false) : PBn l G pX0 yX8_statementBy cX8_statementBy 3 (some (.object "JinjaTongue$Node")) ({ frames := (50 * n + 62), cells := (2 * (sz - at9) + 20), slots := (11 * (2 * (sz - at9) + 20)), locals := (1500 * n + 1700) }) [.ref (a 3), .int x] w (fun (v : Option Value) (u : va_W × (Nat × PK × (Nat → Nat → Nat) × Nat × Nat × (Nat → Int32) × Nat)) => v = some (.ref u.2.1) ∧ (NwR K u.2.2.1 g u.2.2.2.1 u.2.1 O u.2.2.2.2.2.2.2 ((173 + 3 * (20 - dp)))) ∧ (at9 + 1 ≤ u.2.2.2.2.1 ∧ u.2.2.2.2.1 ≤ sz) ∧ (sg ≤ u.2.2.2.2.2.1 ∧ u.2.2.2.2.2.1 ≤ 60) ∧ (rS u.2.2.2.2.2.2.2 = at9 ∧ rE u.2.2.2.2.2.2.2 ≤ u.2.2.2.2.1 ∧ rS u.2.2.2.2.2.2.2 ≤ rE u.2.2.2.2.2.2.2) ∧ (OKP G h0 a (upd (upd (upd (upd F 2 (nI sz)) 9 (nI u.2.2.2.2.1)) 10 (nI dp)) 11 (nI u.2.2.2.2.2.1)) R Z (updA B 10 u.2.2.2.2.2.2.1) J u.2.2.1 u.1)) (fun u => u.1) (fun (u : va_W × (Nat × PK × (Nat → Nat → Nat) × Nat × Nat × (Nat → Int32) × Nat)) => (2 * (u.2.2.2.2.1 - at9) - 1)) (fun (u : va_W × (Nat × PK × (Nat → Nat → Nat) × Nat × Nat × (Nat → Int32) × Nat)) => (11 * (2 * (u.2.2.2.2.1 - at9) - 1))) (fun (u : va_W × (Nat → Int32) × (Nat → Value) × (Nat → Nat → Int32)) => ThQ G h0 a (upd (upd (upd (upd F 2 (nI sz)) 9 (nI at9)) 10 (nI dp)) 11 (nI sg)) R Z B J u) (fun u => u.1) := by
  intro sz
  refine vx_ofW (cc := cX8_statementBy) (maxL := 3) (ret := (some (.object "JinjaTongue$Node"))) (by decide) rfl ?_
  intro p e s m args below meth c s₁ B9 hml hnt hv
  obtain ⟨rfl, hsz, hP, hD0, hE, hX⟩ := hv
  have hx := B9.exec
  have hb := B9.bytes
  have hr := B9.returns
  have hts := atoms_spec (ws := Cond.code yX8_statementBy cX8_statementBy 3 (some (.object "JinjaTongue$Node")) :: pw) B9.pre
  have hq : ∀ w ∈ pw, w.before _ s = true := fun w h => hts w (List.mem_cons_of_mem _ h)
  have hown : s.vm.findClass RX8 = some m.cls := findClass_of_methodNamed B9.named
  have hlocks := B9.notSynchronized
  subst hsz
  have hD := hD0.self (sz := s.heap.size)
  have hA : ∀ q : Nat, s.heap.size ≤ q → va_A w s.heap.size q := fun q h => Or.inr h
  generalize va_A w s.heap.size = A at hD hE hA ⊢
  have hS : va_S A s.heap s.heap [] := va_S.rf
  have hl := lv_entry ([.ref (a 3), .int x]) (n := 3) (Nat.le_of_ble_eq_true rfl)
  rw [lg_entry_eq]
  generalize (lg_sl ([.ref (a 3), .int x]) ++ List.replicate (3 - (lg_sl ([.ref (a 3), .int x])).length) Slot.unset).toArray = ls at hl ⊢
  have hl : lv_has ls 3 [(0, .ref (a 3)), (1, .int x)] := hl
  have hns0 : NwS K K g g := NwS.nil hwn
  have cut_d : ∀ (H : Heap) (locs : List Loc) (ls : Array Slot) (w : va_W), va_P G.1 pCl w H → va_D A w → va_S A s.heap H locs → OKP G h0 a (upd (upd (upd (upd F 2 (nI sz)) 9 (nI at9)) 10 (nI dp)) 11 (nI sg)) R Z B J K w → lv_has ls 3 [(0, .ref (a 3))] → W p l e (headSpec (Cond.code yX8_statementBy cX8_statementBy 3 (some (.object "JinjaTongue$Node")) :: pw) ({ frames := (50 * n + 62), cells := (2 * (sz - at9) + 20), slots := (11 * (2 * (sz - at9) + 20)), locals := (1500 * n + 1700) } : Room)).room s m ([.ref (a 3), .int x] : List Value).toArray below meth c H locs 0 0 (vx_MQ below (pQn G A (fun (v : Option Value) (u : va_W × (Nat × PK × (Nat → Nat → Nat) × Nat × Nat × (Nat → Int32) × Nat)) => v = some (.ref u.2.1) ∧ (NwR K u.2.2.1 g u.2.2.2.1 u.2.1 O u.2.2.2.2.2.2.2 ((173 + 3 * (20 - dp)))) ∧ (at9 + 1 ≤ u.2.2.2.2.1 ∧ u.2.2.2.2.1 ≤ sz) ∧ (sg ≤ u.2.2.2.2.2.1 ∧ u.2.2.2.2.2.1 ≤ 60) ∧ (rS u.2.2.2.2.2.2.2 = at9 ∧ rE u.2.2.2.2.2.2.2 ≤ u.2.2.2.2.1 ∧ rS u.2.2.2.2.2.2.2 ≤ rE u.2.2.2.2.2.2.2) ∧ (OKP G h0 a (upd (upd (upd (upd F 2 (nI sz)) 9 (nI u.2.2.2.2.1)) 10 (nI dp)) 11 (nI u.2.2.2.2.2.1)) R Z (updA B 10 u.2.2.2.2.2.2.1) J u.2.2.1 u.1)) (fun u => u.1) (fun (u : va_W × (Nat × PK × (Nat → Nat → Nat) × Nat × Nat × (Nat → Int32) × Nat)) => (2 * (u.2.2.2.2.1 - at9) - 1)) (fun (u : va_W × (Nat × PK × (Nat → Nat → Nat) × Nat × Nat × (Nat → Int32) × Nat)) => (11 * (2 * (u.2.2.2.2.1 - at9) - 1)))) (pXX G A (fun (u : va_W × (Nat → Int32) × (Nat → Value) × (Nat → Nat → Int32)) => ThQ G h0 a (upd (upd (upd (upd F 2 (nI sz)) 9 (nI at9)) 10 (nI dp)) 11 (nI sg)) R Z B J u) (fun u => u.1)) ([.ref (a 3), .int x] : List Value).toArray s ({ frames := (50 * n + 62), cells := (2 * (sz - at9) + 20), slots := (11 * (2 * (sz - at9) + 20)), locals := (1500 * n + 1700) } : Room).cells ({ frames := (50 * n + 62), cells := (2 * (sz - at9) + 20), slots := (11 * (2 * (sz - at9) + 20)), locals := (1500 * n + 1700) } : Room).slots A) (F0 m 270 ls []) := by
    intro H locs ls w hP hD hS hO hl
    refine lv_aload_n hx hb dX8_statementBy_270 rfl (lv_at hl 0 rfl) ?_
    refine lv_iconst (v := 1) hx hb dX8_statementBy_271 (by decide) ?_
    have hO : OKP G h0 a (upd (upd (upd (upd (upd (upd (upd (upd F 2 (nI sz)) 9 (nI at9)) 10 (nI dp)) 11 (nI sg)) 2 (nI sz)) 9 (nI at9)) 10 (nI dp)) 11 (nI sg)) R Z B J K w := hO.to rfl
    obtain ⟨_, qr4, hqr5⟩ := hO.2.1 23 _ (sg_23 G h0 a _ _ _ _ _)
    refine pn_V0 (G := G) (As := [.int (nI 1)]) (rest := []) hx hb hml hown hq hE hX pX0_al hP hD hS hA hl.1 (P_simple l G h0 a (upd (upd (upd (upd F 2 (nI sz)) 9 (nI at9)) 10 (nI dp)) 11 (nI sg)) R Z B J K w 1 n at9 sz dp sg O g (by omega) (by omega) hdp (by omega) hwn how (by omega) hO hl0) (gV pw_1018 pw_1019 pw_1020 pw_796 pw_994) hV_X8_simple qr4 5 hqr5 rfl rfl rfl (Nat.le_of_ble_eq_true rfl) dX8_statementBy_272 ⟨(by show 0 + (2 * (sz - at9) + 20) ≤ (2 * (sz - at9) + 20); omega), (by show 0 + (11 * (2 * (sz - at9) + 20)) ≤ (11 * (2 * (sz - at9) + 20)); omega)⟩ ⟨(by show (40 * n + 44) + 1 ≤ (50 * n + 62); omega), (by show 8 + (5 + 11) + (1300 * n + 1400) ≤ (1500 * n + 1700); omega)⟩ (fun v3 u1 H locs hw2 hP hD hS => ?_) (fun ux ce9 q9 H9 locs9 hux hP9 hD9 hS9 hce hcv hcl => pb_out ux (ThQ.up (Thx.same (Thx.same (Thx.same (Thx.same Thx.rfl rfl) rfl) rfl) rfl) RhX.rfl hux) hnt hlocks hce hcv hcl hP9 hD9 hS9 (by show 0 + (2 * (sz - at9) + 20) ≤ (2 * (sz - at9) + 20); omega) (by show 0 + (11 * (2 * (sz - at9) + 20)) ≤ (11 * (2 * (sz - at9) + 20)); omega))
    obtain ⟨w, r6, K7, g8, at10, sg11, f12, k13⟩ := u1
    obtain ⟨hw2, h14, h15, h16, h17, hO⟩ := hw2
    have h14 : NwR K K7 g g8 r6 O k13 (168) := h14
    have h15 : at9 + 1 ≤ at10 ∧ at10 ≤ sz := h15
    have h16 : sg ≤ sg11 ∧ sg11 ≤ 60 := h16
    have h17 : rS k13 = at9 ∧ rE k13 ≤ at10 ∧ rS k13 ≤ rE k13 := h17
    obtain rfl : v3 = some (.ref r6) := hw2
    have hO : OKP G h0 a (upd (upd (upd (upd F 2 (nI sz)) 9 (nI at10)) 10 (nI dp)) 11 (nI sg11)) R Z (updA B 10 f12) J K7 w := hO.to rfl
    refine W.widen (k := (2 * (at10 - at9) - 0)) (n := (11 * (2 * (at10 - at9) - 0))) (by show 0 + (2 * (at10 - at9) - 0) ≤ (2 * (at10 - at9) - 0); omega) (by show 0 + (11 * (2 * (at10 - at9) - 0)) ≤ (11 * (2 * (at10 - at9) - 0)); omega) ?_
    refine W.eq (g2 := F0 m 275 ls [.ref r6]) rfl ?_
    refine lv_astore_n (lv' := [(2, .ref r6), (0, .ref (a 3))]) hx hb dX8_statementBy_275 rfl hl (by decide) rfl (fun ls hl => ?_)
    refine lv_aload_n hx hb dX8_statementBy_276 rfl (lv_at hl 1 rfl) ?_
    refine lv_bipush (v := 38) hx hb dX8_statementBy_277 (by decide) ?_
    have hO : OKW G h0 a (upd (upd (upd (upd (upd (upd (upd (upd F 2 (nI sz)) 9 (nI at9)) 10 (nI dp)) 11 (nI sg)) 9 (nI at10)) 11 (nI sg11)) 2 (nI sz)) 9 (nI at10)) R Z (updA B 10 f12) J K7.1 (fun q99 x99 => x99 = rep G a K7 q99) w := hO.to rfl
    obtain ⟨_, qr21, hqr22⟩ := hO.2.1 23 _ (sg_23 G h0 a _ _ _ _ _)
    refine pn_V0 (G := G) (As := [.int 38]) (rest := []) hx hb hml hown hq hE hX pX0_al hP hD hS hA hl.1 (P_take l G h0 a (upd (upd (upd (upd (upd (upd F 2 (nI sz)) 9 (nI at9)) 10 (nI dp)) 11 (nI sg)) 9 (nI at10)) 11 (nI sg11)) R Z (updA B 10 f12) J K7.1 (fun q99 x99 => x99 = rep G a K7 q99) w 38 at10 sz (by omega) (by omega) (by decide) hO hl0) (gV pw_793 pw_794 pw_795 pw_796 pw_781) hV_X8_take qr21 5 hqr22 rfl rfl rfl (Nat.le_of_ble_eq_true rfl) dX8_statementBy_279 ⟨(by show (2 * (at10 - at9) - 0) + 1 ≤ (2 * (sz - at9) + 20); omega), (by show (11 * (2 * (at10 - at9) - 0)) + 6 ≤ (11 * (2 * (sz - at9) + 20)); omega)⟩ ⟨(by show 7 + 1 ≤ (50 * n + 62); omega), (by show 8 + (2 + 11) + 122 ≤ (1500 * n + 1700); omega)⟩ (fun v20 u18 H locs hw19 hP hD hS => ?_) (fun ux ce9 q9 H9 locs9 hux hP9 hD9 hS9 hce hcv hcl => pb_out ux (ThQ.up (Thx.same (Thx.same (Thx.b (Thx.f (Thx.f Thx.rfl (by omega)) (by omega)) (by omega) (by decide)) rfl) rfl) RhX.rfl hux) hnt hlocks hce hcv hcl hP9 hD9 hS9 (by show (2 * (at10 - at9) - 0) + 1 ≤ (2 * (sz - at9) + 20); omega) (by show (11 * (2 * (at10 - at9) - 0)) + 6 ≤ (11 * (2 * (sz - at9) + 20)); omega))
    obtain ⟨w, _⟩ := u18
    obtain ⟨hw19, h23, hO⟩ := hw19
    have h23 : at10 + 1 ≤ sz := h23
    obtain rfl : v20 = some (.int (nI at10)) := hw19
    have hO : OKP G h0 a (upd (upd (upd (upd F 2 (nI sz)) 9 (nI (at10 + 1))) 10 (nI dp)) 11 (nI sg11)) R Z (updA B 10 f12) J K7 w := hO.to rfl
    refine W.widen (k := (2 * (at10 - at9) - 0)) (n := (11 * (2 * (at10 - at9) - 0))) (by show (2 * (at10 - at9) - 0) + 0 ≤ (2 * (at10 - at9) - 0); omega) (by show (11 * (2 * (at10 - at9) - 0)) + 0 ≤ (11 * (2 * (at10 - at9) - 0)); omega) ?_
    refine W.eq (g2 := F0 m 282 ls [.int (nI at10)]) rfl ?_
    refine lv_pop hx hb dX8_statementBy_282 rfl ?_
    refine lv_aload_n hx hb dX8_statementBy_283 rfl (lv_at hl 0 rfl) ?_
    refine W_size (fun hz1 hz2 => ?_)
    refine vx_ret ?_
    have hz24 : NwR K K7 g g8 r6 O k13 ((173 + 3 * (20 - dp))) := (NwR.up h14 (by omega))
    have hz25 : at9 + 1 ≤ (at10 + 1) ∧ (at10 + 1) ≤ sz := (by omega)
    have hz26 : sg ≤ sg11 ∧ sg11 ≤ 60 := (by omega)
    have hz27 : rS k13 = at9 ∧ rE k13 ≤ (at10 + 1) ∧ rS k13 ≤ rE k13 := (by omega)
    have hO : OKP G h0 a (upd (upd (upd (upd F 2 (nI sz)) 9 (nI (at10 + 1))) 10 (nI dp)) 11 (nI sg11)) R Z (updA B 10 f12) J K7 w := hO.to rfl
    refine W.widen (k := (2 * (sz - at9) + 20)) (n := (11 * (2 * (sz - at9) + 20))) (by omega) (by omega) ?_
    have hzz1 : H.size ≤ s.heap.size + ((2 * ((at10 + 1) - at9) - 1)) := (by have z : (2 * (at10 - at9) - 0) ≤ (2 * ((at10 + 1) - at9) - 1) := (by omega); omega)
    have hzz2 : hSl H ≤ hSl s.heap + ((11 * (2 * ((at10 + 1) - at9) - 1))) := (by have z : (11 * (2 * (at10 - at9) - 0)) ≤ (11 * (2 * ((at10 + 1) - at9) - 1)) := (by omega); omega)
    exact W.aret (v := .ref r6) hx hb hr (Or.inl ⟨_, rfl⟩) (Or.inr ⟨_, rfl⟩) (fun t99 ht99 hW99 => ⟨⟨_, (w, (r6, K7, g8, (at10 + 1), sg11, f12, k13)), rfl, ⟨rfl, hz24, hz25, hz26, hz27, hO⟩, by rw [ht99]; exact hP, hD, by rw [ht99]; exact hzz1, by rw [ht99]; exact hzz2⟩, hS.F ht99⟩) hS.2.2 dX8_statementBy_284
  refine lv_iload_n hx hb dX8_statementBy_0 rfl (lv_at hl 1 rfl) ?_
  by_cases h28 : x = 2
  · subst h28
    refine lv_tableIn (tgt := 232) (off := 231) hx hb dX8_statementBy_1 (by decide) (by decide) (by decide) (by decide) ?_
    have htk : at9 < sz := tok_in hkx rfl (by decide : ¬ (2 : Int32) = 67) (by omega) hsz
    refine lv_aload_n hx hb dX8_statementBy_232 rfl (lv_at hl 0 rfl) ?_
    refine lv_bipush (v := 29) hx hb dX8_statementBy_233 (by decide) ?_
    refine lv_iconst (v := 0) hx hb dX8_statementBy_235 (by decide) ?_
    have hO : OKP G h0 a (upd (upd (upd (upd (upd (upd F 2 (nI sz)) 9 (nI at9)) 10 (nI dp)) 11 (nI sg)) 2 (nI sz)) 9 (nI at9)) R Z B J K w := hO.to rfl
    obtain ⟨_, qr32, hqr33⟩ := hO.2.1 23 _ (sg_23 G h0 a _ _ _ _ _)
    refine pn_V0 (G := G) (As := [.int 29, .int 0]) (rest := []) hx hb hml hown hq hE hX pX0_al hP hD hS hA hl.1 (P_word0 l G h0 a (upd (upd (upd (upd F 2 (nI sz)) 9 (nI at9)) 10 (nI dp)) 11 (nI sg)) R Z B J K w 29 at9 sz O g (by omega) (by omega) hwn (fun o9 h9 => ⟨(how o9 h9).1, fun z => (by rw [(how o9 h9).2.1] at z; omega), (how o9 h9).2.2⟩) (by omega) (fun C => ⟨fun z => absurd z (by decide), fun z => absurd z (by decide), fun z => absurd z (by decide), fun z => absurd z (by decide), fun z => absurd z (by decide)⟩) hO hl0) (gV pw_1048 pw_1049 pw_1050 pw_796 pw_1002) hV_X8_wordStatement qr32 5 hqr33 rfl rfl rfl (Nat.le_of_ble_eq_true rfl) dX8_statementBy_236 ⟨(by show 0 + 2 ≤ (2 * (sz - at9) + 20); omega), (by show 0 + 17 ≤ (11 * (2 * (sz - at9) + 20)); omega)⟩ ⟨(by show 8 + 1 ≤ (50 * n + 62); omega), (by show 8 + (4 + 11) + 143 ≤ (1500 * n + 1700); omega)⟩ (fun v31 u29 H locs hw30 hP hD hS => ?_) (fun ux ce9 q9 H9 locs9 hux hP9 hD9 hS9 hce hcv hcl => pb_out ux (ThQ.up (Thx.same (Thx.same Thx.rfl rfl) rfl) RhX.rfl hux) hnt hlocks hce hcv hcl hP9 hD9 hS9 (by show 0 + 2 ≤ (2 * (sz - at9) + 20); omega) (by show 0 + 17 ≤ (11 * (2 * (sz - at9) + 20)); omega))
    obtain ⟨w, r34, K35, g36⟩ := u29
    obtain ⟨hw30, h37, h38, h39, hO⟩ := hw30
    have h37 : NwR K K35 g g36 r34 O (rk at9 (at9 + 2) (at9 + 2) (at9 + 2)) 1 := h37
    have h38 : K35.2.1 0 r34 = 29 := h38
    have h39 : at9 + 2 ≤ sz := h39
    obtain rfl : v31 = some (.ref r34) := hw30
    have hO : OKP G h0 a (upd (upd (upd (upd F 2 (nI sz)) 9 (nI (at9 + 2))) 10 (nI dp)) 11 (nI sg)) R Z B J K35 w := hO.to rfl
    refine W.widen (k := 1) (n := 11) (by show 0 + 1 ≤ 1; omega) (by show 0 + 11 ≤ 11; omega) ?_
    refine W.eq (g2 := F0 m 239 ls [.ref r34]) rfl ?_
    refine W_size (fun hz1 hz2 => ?_)
    refine vx_ret ?_
    have hz40 : NwR K K35 g g36 r34 O (rk at9 (at9 + 2) (at9 + 2) (at9 + 2)) ((173 + 3 * (20 - dp))) := (NwR.up h37 (by omega))
    have hz41 : at9 + 1 ≤ (at9 + 2) ∧ (at9 + 2) ≤ sz := (by omega)
    have hz42 : sg ≤ sg ∧ sg ≤ 60 := (by omega)
    have hz43 : rS (rk at9 (at9 + 2) (at9 + 2) (at9 + 2)) = at9 ∧ rE (rk at9 (at9 + 2) (at9 + 2) (at9 + 2)) ≤ (at9 + 2) ∧ rS (rk at9 (at9 + 2) (at9 + 2) (at9 + 2)) ≤ rE (rk at9 (at9 + 2) (at9 + 2) (at9 + 2)) := ⟨rS_rk (by omega), Nat.le_of_eq (rE_rk (by omega)), (by rw [rS_rk (by omega), rE_rk (by omega)]; omega)⟩
    have hO : OKP G h0 a (upd (upd (upd (upd F 2 (nI sz)) 9 (nI (at9 + 2))) 10 (nI dp)) 11 (nI sg)) R Z (updA B 10 (B 10)) J K35 w := hO.to rfl
    refine W.widen (k := (2 * (sz - at9) + 20)) (n := (11 * (2 * (sz - at9) + 20))) (by omega) (by omega) ?_
    have hzz1 : H.size ≤ s.heap.size + ((2 * ((at9 + 2) - at9) - 1)) := (by have z : 1 ≤ (2 * ((at9 + 2) - at9) - 1) := (by omega); omega)
    have hzz2 : hSl H ≤ hSl s.heap + ((11 * (2 * ((at9 + 2) - at9) - 1))) := (by have z : 11 ≤ (11 * (2 * ((at9 + 2) - at9) - 1)) := (by omega); omega)
    exact W.aret (v := .ref r34) hx hb hr (Or.inl ⟨_, rfl⟩) (Or.inr ⟨_, rfl⟩) (fun t99 ht99 hW99 => ⟨⟨_, (w, (r34, K35, g36, (at9 + 2), sg, (B 10), (rk at9 (at9 + 2) (at9 + 2) (at9 + 2)))), rfl, ⟨rfl, hz40, hz41, hz42, hz43, hO⟩, by rw [ht99]; exact hP, hD, by rw [ht99]; exact hzz1, by rw [ht99]; exact hzz2⟩, hS.F ht99⟩) hS.2.2 dX8_statementBy_239
  by_cases h44 : x = 3
  · subst h44
    refine lv_tableIn (tgt := 270) (off := 269) hx hb dX8_statementBy_1 (by decide) (by decide) (by decide) (by decide) ?_
    have hO : OKP G h0 a (upd (upd (upd (upd F 2 (nI sz)) 9 (nI at9)) 10 (nI dp)) 11 (nI sg)) R Z B J K w := hO.to rfl
    exact cut_d _ _ _ _ hP hD hS hO (lv_sub hl [0] rfl)
  by_cases h45 : x = 4
  · subst h45
    refine lv_tableIn (tgt := 270) (off := 269) hx hb dX8_statementBy_1 (by decide) (by decide) (by decide) (by decide) ?_
    have hO : OKP G h0 a (upd (upd (upd (upd F 2 (nI sz)) 9 (nI at9)) 10 (nI dp)) 11 (nI sg)) R Z B J K w := hO.to rfl
    exact cut_d _ _ _ _ hP hD hS hO (lv_sub hl [0] rfl)
  by_cases h46 : x = 5
  · subst h46
    refine lv_tableIn (tgt := 240) (off := 239) hx hb dX8_statementBy_1 (by decide) (by decide) (by decide) (by decide) ?_
    have htk : at9 < sz := tok_in hkx rfl (by decide : ¬ (5 : Int32) = 67) (by omega) hsz
    refine lv_aload_n hx hb dX8_statementBy_240 rfl (lv_at hl 0 rfl) ?_
    refine lv_bipush (v := 30) hx hb dX8_statementBy_241 (by decide) ?_
    refine lv_iconst (v := 0) hx hb dX8_statementBy_243 (by decide) ?_
    have hO : OKP G h0 a (upd (upd (upd (upd (upd (upd F 2 (nI sz)) 9 (nI at9)) 10 (nI dp)) 11 (nI sg)) 2 (nI sz)) 9 (nI at9)) R Z B J K w := hO.to rfl
    obtain ⟨_, qr50, hqr51⟩ := hO.2.1 23 _ (sg_23 G h0 a _ _ _ _ _)
    refine pn_V0 (G := G) (As := [.int 30, .int 0]) (rest := []) hx hb hml hown hq hE hX pX0_al hP hD hS hA hl.1 (P_word0 l G h0 a (upd (upd (upd (upd F 2 (nI sz)) 9 (nI at9)) 10 (nI dp)) 11 (nI sg)) R Z B J K w 30 at9 sz O g (by omega) (by omega) hwn (fun o9 h9 => ⟨(how o9 h9).1, fun z => (by rw [(how o9 h9).2.1] at z; omega), (how o9 h9).2.2⟩) (by omega) (fun C => ⟨fun z => absurd z (by decide), fun z => absurd z (by decide), fun z => absurd z (by decide), fun z => absurd z (by decide), fun z => absurd z (by decide)⟩) hO hl0) (gV pw_1048 pw_1049 pw_1050 pw_796 pw_1002) hV_X8_wordStatement qr50 5 hqr51 rfl rfl rfl (Nat.le_of_ble_eq_true rfl) dX8_statementBy_244 ⟨(by show 0 + 2 ≤ (2 * (sz - at9) + 20); omega), (by show 0 + 17 ≤ (11 * (2 * (sz - at9) + 20)); omega)⟩ ⟨(by show 8 + 1 ≤ (50 * n + 62); omega), (by show 8 + (4 + 11) + 143 ≤ (1500 * n + 1700); omega)⟩ (fun v49 u47 H locs hw48 hP hD hS => ?_) (fun ux ce9 q9 H9 locs9 hux hP9 hD9 hS9 hce hcv hcl => pb_out ux (ThQ.up (Thx.same (Thx.same Thx.rfl rfl) rfl) RhX.rfl hux) hnt hlocks hce hcv hcl hP9 hD9 hS9 (by show 0 + 2 ≤ (2 * (sz - at9) + 20); omega) (by show 0 + 17 ≤ (11 * (2 * (sz - at9) + 20)); omega))
    obtain ⟨w, r52, K53, g54⟩ := u47
    obtain ⟨hw48, h55, h56, h57, hO⟩ := hw48
    have h55 : NwR K K53 g g54 r52 O (rk at9 (at9 + 2) (at9 + 2) (at9 + 2)) 1 := h55
    have h56 : K53.2.1 0 r52 = 30 := h56
    have h57 : at9 + 2 ≤ sz := h57
    obtain rfl : v49 = some (.ref r52) := hw48
    have hO : OKP G h0 a (upd (upd (upd (upd F 2 (nI sz)) 9 (nI (at9 + 2))) 10 (nI dp)) 11 (nI sg)) R Z B J K53 w := hO.to rfl
    refine W.widen (k := 1) (n := 11) (by show 0 + 1 ≤ 1; omega) (by show 0 + 11 ≤ 11; omega) ?_
    refine W.eq (g2 := F0 m 247 ls [.ref r52]) rfl ?_
    refine W_size (fun hz1 hz2 => ?_)
    refine vx_ret ?_
    have hz58 : NwR K K53 g g54 r52 O (rk at9 (at9 + 2) (at9 + 2) (at9 + 2)) ((173 + 3 * (20 - dp))) := (NwR.up h55 (by omega))
    have hz59 : at9 + 1 ≤ (at9 + 2) ∧ (at9 + 2) ≤ sz := (by omega)
    have hz60 : sg ≤ sg ∧ sg ≤ 60 := (by omega)
    have hz61 : rS (rk at9 (at9 + 2) (at9 + 2) (at9 + 2)) = at9 ∧ rE (rk at9 (at9 + 2) (at9 + 2) (at9 + 2)) ≤ (at9 + 2) ∧ rS (rk at9 (at9 + 2) (at9 + 2) (at9 + 2)) ≤ rE (rk at9 (at9 + 2) (at9 + 2) (at9 + 2)) := ⟨rS_rk (by omega), Nat.le_of_eq (rE_rk (by omega)), (by rw [rS_rk (by omega), rE_rk (by omega)]; omega)⟩
    have hO : OKP G h0 a (upd (upd (upd (upd F 2 (nI sz)) 9 (nI (at9 + 2))) 10 (nI dp)) 11 (nI sg)) R Z (updA B 10 (B 10)) J K53 w := hO.to rfl
    refine W.widen (k := (2 * (sz - at9) + 20)) (n := (11 * (2 * (sz - at9) + 20))) (by omega) (by omega) ?_
    have hzz1 : H.size ≤ s.heap.size + ((2 * ((at9 + 2) - at9) - 1)) := (by have z : 1 ≤ (2 * ((at9 + 2) - at9) - 1) := (by omega); omega)
    have hzz2 : hSl H ≤ hSl s.heap + ((11 * (2 * ((at9 + 2) - at9) - 1))) := (by have z : 11 ≤ (11 * (2 * ((at9 + 2) - at9) - 1)) := (by omega); omega)
    exact W.aret (v := .ref r52) hx hb hr (Or.inl ⟨_, rfl⟩) (Or.inr ⟨_, rfl⟩) (fun t99 ht99 hW99 => ⟨⟨_, (w, (r52, K53, g54, (at9 + 2), sg, (B 10), (rk at9 (at9 + 2) (at9 + 2) (at9 + 2)))), rfl, ⟨rfl, hz58, hz59, hz60, hz61, hO⟩, by rw [ht99]; exact hP, hD, by rw [ht99]; exact hzz1, by rw [ht99]; exact hzz2⟩, hS.F ht99⟩) hS.2.2 dX8_statementBy_247
  by_cases h62 : x = 6
  · subst h62
    refine lv_tableIn (tgt := 270) (off := 269) hx hb dX8_statementBy_1 (by decide) (by decide) (by decide) (by decide) ?_
    have hO : OKP G h0 a (upd (upd (upd (upd F 2 (nI sz)) 9 (nI at9)) 10 (nI dp)) 11 (nI sg)) R Z B J K w := hO.to rfl
    exact cut_d _ _ _ _ hP hD hS hO (lv_sub hl [0] rfl)
  by_cases h63 : x = 7
  · subst h63
    refine lv_tableIn (tgt := 270) (off := 269) hx hb dX8_statementBy_1 (by decide) (by decide) (by decide) (by decide) ?_
    have hO : OKP G h0 a (upd (upd (upd (upd F 2 (nI sz)) 9 (nI at9)) 10 (nI dp)) 11 (nI sg)) R Z B J K w := hO.to rfl
    exact cut_d _ _ _ _ hP hD hS hO (lv_sub hl [0] rfl)
  by_cases h64 : x = 8
  · subst h64
    refine lv_tableIn (tgt := 270) (off := 269) hx hb dX8_statementBy_1 (by decide) (by decide) (by decide) (by decide) ?_
    have hO : OKP G h0 a (upd (upd (upd (upd F 2 (nI sz)) 9 (nI at9)) 10 (nI dp)) 11 (nI sg)) R Z B J K w := hO.to rfl
    exact cut_d _ _ _ _ hP hD hS hO (lv_sub hl [0] rfl)
  by_cases h65 : x = 9
  · subst h65
    refine lv_tableIn (tgt := 270) (off := 269) hx hb dX8_statementBy_1 (by decide) (by decide) (by decide) (by decide) ?_
    have hO : OKP G h0 a (upd (upd (upd (upd F 2 (nI sz)) 9 (nI at9)) 10 (nI dp)) 11 (nI sg)) R Z B J K w := hO.to rfl
    exact cut_d _ _ _ _ hP hD hS hO (lv_sub hl [0] rfl)
  by_cases h66 : x = 10
  · subst h66
    refine lv_tableIn (tgt := 179) (off := 178) hx hb dX8_statementBy_1 (by decide) (by decide) (by decide) (by decide) ?_
    have htk : at9 < sz := tok_in hkx rfl (by decide : ¬ (10 : Int32) = 67) (by omega) hsz
    refine lv_aload_n hx hb dX8_statementBy_179 rfl (lv_at hl 0 rfl) ?_
    have hO : OKP G h0 a (upd (upd (upd (upd (upd (upd (upd (upd F 2 (nI sz)) 9 (nI at9)) 10 (nI dp)) 11 (nI sg)) 2 (nI sz)) 9 (nI at9)) 10 (nI dp)) 11 (nI sg)) R Z B J K w := hO.to rfl
    obtain ⟨_, qr70, hqr71⟩ := hO.2.1 23 _ (sg_23 G h0 a _ _ _ _ _)
    refine pn_V0 (G := G) (As := []) (rest := []) hx hb hml hown hq hE hX pX0_al hP hD hS hA hl.1 (P_for l G h0 a (upd (upd (upd (upd F 2 (nI sz)) 9 (nI at9)) 10 (nI dp)) 11 (nI sg)) R Z B J K w n at9 sz dp sg O g (by omega) (by omega) hdp (by omega) hwn how (by omega) ist hO hl0) (gV pw_1039 pw_1040 pw_1041 pw_796 pw_1010) hV_X8_forStatement qr70 5 hqr71 rfl rfl rfl (Nat.le_of_ble_eq_true rfl) dX8_statementBy_180 ⟨(by show 0 + (2 * (sz - at9) + 20) ≤ (2 * (sz - at9) + 20); omega), (by show 0 + (11 * (2 * (sz - at9) + 20)) ≤ (11 * (2 * (sz - at9) + 20)); omega)⟩ ⟨(by show (50 * n + 58) + 1 ≤ (50 * n + 62); omega), (by show 8 + (2 + 11) + (1500 * n + 1650) ≤ (1500 * n + 1700); omega)⟩ (fun v69 u67 H locs hw68 hP hD hS => ?_) (fun ux ce9 q9 H9 locs9 hux hP9 hD9 hS9 hce hcv hcl => pb_out ux (ThQ.up (Thx.same (Thx.same (Thx.same (Thx.same Thx.rfl rfl) rfl) rfl) rfl) RhX.rfl hux) hnt hlocks hce hcv hcl hP9 hD9 hS9 (by show 0 + (2 * (sz - at9) + 20) ≤ (2 * (sz - at9) + 20); omega) (by show 0 + (11 * (2 * (sz - at9) + 20)) ≤ (11 * (2 * (sz - at9) + 20)); omega))
    obtain ⟨w, r72, K73, g74, at75, sg76, f77, k78⟩ := u67
    obtain ⟨hw68, h79, h80, h81, h82, hO⟩ := hw68
    have h79 : NwR K K73 g g74 r72 O k78 ((173 + 3 * (20 - dp))) := h79
    have h80 : at9 + 6 ≤ at75 ∧ at75 ≤ sz := h80
    have h81 : sg ≤ sg76 ∧ sg76 ≤ 60 := h81
    have h82 : rS k78 = at9 ∧ rE k78 ≤ at75 ∧ rS k78 ≤ rE k78 := h82
    obtain rfl : v69 = some (.ref r72) := hw68
    have hO : OKP G h0 a (upd (upd (upd (upd F 2 (nI sz)) 9 (nI at75)) 10 (nI dp)) 11 (nI sg76)) R Z (updA B 10 f77) J K73 w := hO.to rfl
    refine W.widen (k := (2 * (at75 - at9) - 6)) (n := (11 * (2 * (at75 - at9) - 6))) (by show 0 + (2 * (at75 - at9) - 6) ≤ (2 * (at75 - at9) - 6); omega) (by show 0 + (11 * (2 * (at75 - at9) - 6)) ≤ (11 * (2 * (at75 - at9) - 6)); omega) ?_
    refine W.eq (g2 := F0 m 183 ls [.ref r72]) rfl ?_
    refine W_size (fun hz1 hz2 => ?_)
    refine vx_ret ?_
    have hz83 : NwR K K73 g g74 r72 O k78 ((173 + 3 * (20 - dp))) := (NwR.up h79 (by omega))
    have hz84 : at9 + 1 ≤ at75 ∧ at75 ≤ sz := (by omega)
    have hz85 : sg ≤ sg76 ∧ sg76 ≤ 60 := (by omega)
    have hz86 : rS k78 = at9 ∧ rE k78 ≤ at75 ∧ rS k78 ≤ rE k78 := (by omega)
    have hO : OKP G h0 a (upd (upd (upd (upd F 2 (nI sz)) 9 (nI at75)) 10 (nI dp)) 11 (nI sg76)) R Z (updA B 10 f77) J K73 w := hO.to rfl
    refine W.widen (k := (2 * (sz - at9) + 20)) (n := (11 * (2 * (sz - at9) + 20))) (by omega) (by omega) ?_
    have hzz1 : H.size ≤ s.heap.size + ((2 * (at75 - at9) - 1)) := (by have z : (2 * (at75 - at9) - 6) ≤ (2 * (at75 - at9) - 1) := (by omega); omega)
    have hzz2 : hSl H ≤ hSl s.heap + ((11 * (2 * (at75 - at9) - 1))) := (by have z : (11 * (2 * (at75 - at9) - 6)) ≤ (11 * (2 * (at75 - at9) - 1)) := (by omega); omega)
    exact W.aret (v := .ref r72) hx hb hr (Or.inl ⟨_, rfl⟩) (Or.inr ⟨_, rfl⟩) (fun t99 ht99 hW99 => ⟨⟨_, (w, (r72, K73, g74, at75, sg76, f77, k78)), rfl, ⟨rfl, hz83, hz84, hz85, hz86, hO⟩, by rw [ht99]; exact hP, hD, by rw [ht99]; exact hzz1, by rw [ht99]; exact hzz2⟩, hS.F ht99⟩) hS.2.2 dX8_statementBy_183
  by_cases h87 : x = 11
  · subst h87
    refine lv_tableIn (tgt := 169) (off := 168) hx hb dX8_statementBy_1 (by decide) (by decide) (by decide) (by decide) ?_
    have htk : at9 < sz := tok_in hkx rfl (by decide : ¬ (11 : Int32) = 67) (by omega) hsz
    refine lv_aload_n hx hb dX8_statementBy_169 rfl (lv_at hl 0 rfl) ?_
    have hO : OKP G h0 a (upd (upd (upd (upd (upd (upd (upd (upd F 2 (nI sz)) 9 (nI at9)) 10 (nI dp)) 11 (nI sg)) 2 (nI sz)) 9 (nI at9)) 10 (nI dp)) 11 (nI sg)) R Z B J K w := hO.to rfl
    obtain ⟨_, qr91, hqr92⟩ := hO.2.1 23 _ (sg_23 G h0 a _ _ _ _ _)
    refine pn_V0 (G := G) (As := []) (rest := []) hx hb hml hown hq hE hX pX0_al hP hD hS hA hl.1 (P_if l G h0 a (upd (upd (upd (upd F 2 (nI sz)) 9 (nI at9)) 10 (nI dp)) 11 (nI sg)) R Z B J K w n at9 sz dp sg O g (by omega) (by omega) hdp (by omega) hwn how (by omega) ist hO hl0) (gV pw_1033 pw_1034 pw_1035 pw_796 pw_1021) hV_X8_ifStatement qr91 5 hqr92 rfl rfl rfl (Nat.le_of_ble_eq_true rfl) dX8_statementBy_170 ⟨(by show 0 + (2 * (sz - at9) + 20) ≤ (2 * (sz - at9) + 20); omega), (by show 0 + (11 * (2 * (sz - at9) + 20)) ≤ (11 * (2 * (sz - at9) + 20)); omega)⟩ ⟨(by show (50 * n + 58) + 1 ≤ (50 * n + 62); omega), (by show 8 + (2 + 11) + (1500 * n + 1650) ≤ (1500 * n + 1700); omega)⟩ (fun v90 u88 H locs hw89 hP hD hS => ?_) (fun ux ce9 q9 H9 locs9 hux hP9 hD9 hS9 hce hcv hcl => pb_out ux (ThQ.up (Thx.same (Thx.same (Thx.same (Thx.same Thx.rfl rfl) rfl) rfl) rfl) RhX.rfl hux) hnt hlocks hce hcv hcl hP9 hD9 hS9 (by show 0 + (2 * (sz - at9) + 20) ≤ (2 * (sz - at9) + 20); omega) (by show 0 + (11 * (2 * (sz - at9) + 20)) ≤ (11 * (2 * (sz - at9) + 20)); omega))
    obtain ⟨w, r93, K94, g95, at96, sg97, f98, k99⟩ := u88
    obtain ⟨hw89, h100, h101, h102, h103, hO⟩ := hw89
    have h100 : NwR K K94 g g95 r93 O k99 ((173 + 3 * (20 - dp))) := h100
    have h101 : at9 + 5 ≤ at96 ∧ at96 ≤ sz := h101
    have h102 : sg ≤ sg97 ∧ sg97 ≤ 60 := h102
    have h103 : rS k99 = at9 ∧ rE k99 ≤ at96 ∧ rS k99 ≤ rE k99 := h103
    obtain rfl : v90 = some (.ref r93) := hw89
    have hO : OKP G h0 a (upd (upd (upd (upd F 2 (nI sz)) 9 (nI at96)) 10 (nI dp)) 11 (nI sg97)) R Z (updA B 10 f98) J K94 w := hO.to rfl
    refine W.widen (k := (2 * (at96 - at9) - 5)) (n := (11 * (2 * (at96 - at9) - 5))) (by show 0 + (2 * (at96 - at9) - 5) ≤ (2 * (at96 - at9) - 5); omega) (by show 0 + (11 * (2 * (at96 - at9) - 5)) ≤ (11 * (2 * (at96 - at9) - 5)); omega) ?_
    refine W.eq (g2 := F0 m 173 ls [.ref r93]) rfl ?_
    refine W_size (fun hz1 hz2 => ?_)
    refine vx_ret ?_
    have hz104 : NwR K K94 g g95 r93 O k99 ((173 + 3 * (20 - dp))) := (NwR.up h100 (by omega))
    have hz105 : at9 + 1 ≤ at96 ∧ at96 ≤ sz := (by omega)
    have hz106 : sg ≤ sg97 ∧ sg97 ≤ 60 := (by omega)
    have hz107 : rS k99 = at9 ∧ rE k99 ≤ at96 ∧ rS k99 ≤ rE k99 := (by omega)
    have hO : OKP G h0 a (upd (upd (upd (upd F 2 (nI sz)) 9 (nI at96)) 10 (nI dp)) 11 (nI sg97)) R Z (updA B 10 f98) J K94 w := hO.to rfl
    refine W.widen (k := (2 * (sz - at9) + 20)) (n := (11 * (2 * (sz - at9) + 20))) (by omega) (by omega) ?_
    have hzz1 : H.size ≤ s.heap.size + ((2 * (at96 - at9) - 1)) := (by have z : (2 * (at96 - at9) - 5) ≤ (2 * (at96 - at9) - 1) := (by omega); omega)
    have hzz2 : hSl H ≤ hSl s.heap + ((11 * (2 * (at96 - at9) - 1))) := (by have z : (11 * (2 * (at96 - at9) - 5)) ≤ (11 * (2 * (at96 - at9) - 1)) := (by omega); omega)
    exact W.aret (v := .ref r93) hx hb hr (Or.inl ⟨_, rfl⟩) (Or.inr ⟨_, rfl⟩) (fun t99 ht99 hW99 => ⟨⟨_, (w, (r93, K94, g95, at96, sg97, f98, k99)), rfl, ⟨rfl, hz104, hz105, hz106, hz107, hO⟩, by rw [ht99]; exact hP, hD, by rw [ht99]; exact hzz1, by rw [ht99]; exact hzz2⟩, hS.F ht99⟩) hS.2.2 dX8_statementBy_173
  by_cases h108 : x = 12
  · subst h108
    refine lv_tableIn (tgt := 270) (off := 269) hx hb dX8_statementBy_1 (by decide) (by decide) (by decide) (by decide) ?_
    have hO : OKP G h0 a (upd (upd (upd (upd F 2 (nI sz)) 9 (nI at9)) 10 (nI dp)) 11 (nI sg)) R Z B J K w := hO.to rfl
    exact cut_d _ _ _ _ hP hD hS hO (lv_sub hl [0] rfl)
  by_cases h109 : x = 13
  · subst h109
    refine lv_tableIn (tgt := 270) (off := 269) hx hb dX8_statementBy_1 (by decide) (by decide) (by decide) (by decide) ?_
    have hO : OKP G h0 a (upd (upd (upd (upd F 2 (nI sz)) 9 (nI at9)) 10 (nI dp)) 11 (nI sg)) R Z B J K w := hO.to rfl
    exact cut_d _ _ _ _ hP hD hS hO (lv_sub hl [0] rfl)
  by_cases h110 : x = 14
  · subst h110
    refine lv_tableIn (tgt := 270) (off := 269) hx hb dX8_statementBy_1 (by decide) (by decide) (by decide) (by decide) ?_
    have hO : OKP G h0 a (upd (upd (upd (upd F 2 (nI sz)) 9 (nI at9)) 10 (nI dp)) 11 (nI sg)) R Z B J K w := hO.to rfl
    exact cut_d _ _ _ _ hP hD hS hO (lv_sub hl [0] rfl)
  by_cases h111 : x = 15
  · subst h111
    refine lv_tableIn (tgt := 270) (off := 269) hx hb dX8_statementBy_1 (by decide) (by decide) (by decide) (by decide) ?_
    have hO : OKP G h0 a (upd (upd (upd (upd F 2 (nI sz)) 9 (nI at9)) 10 (nI dp)) 11 (nI sg)) R Z B J K w := hO.to rfl
    exact cut_d _ _ _ _ hP hD hS hO (lv_sub hl [0] rfl)
  by_cases h112 : x = 16
  · subst h112
    refine lv_tableIn (tgt := 270) (off := 269) hx hb dX8_statementBy_1 (by decide) (by decide) (by decide) (by decide) ?_
    have hO : OKP G h0 a (upd (upd (upd (upd F 2 (nI sz)) 9 (nI at9)) 10 (nI dp)) 11 (nI sg)) R Z B J K w := hO.to rfl
    exact cut_d _ _ _ _ hP hD hS hO (lv_sub hl [0] rfl)
  by_cases h113 : x = 17
  · subst h113
    refine lv_tableIn (tgt := 270) (off := 269) hx hb dX8_statementBy_1 (by decide) (by decide) (by decide) (by decide) ?_
    have hO : OKP G h0 a (upd (upd (upd (upd F 2 (nI sz)) 9 (nI at9)) 10 (nI dp)) 11 (nI sg)) R Z B J K w := hO.to rfl
    exact cut_d _ _ _ _ hP hD hS hO (lv_sub hl [0] rfl)
  by_cases h114 : x = 18
  · subst h114
    refine lv_tableIn (tgt := 270) (off := 269) hx hb dX8_statementBy_1 (by decide) (by decide) (by decide) (by decide) ?_
    have hO : OKP G h0 a (upd (upd (upd (upd F 2 (nI sz)) 9 (nI at9)) 10 (nI dp)) 11 (nI sg)) R Z B J K w := hO.to rfl
    exact cut_d _ _ _ _ hP hD hS hO (lv_sub hl [0] rfl)
  by_cases h115 : x = 19
  · subst h115
    refine lv_tableIn (tgt := 189) (off := 188) hx hb dX8_statementBy_1 (by decide) (by decide) (by decide) (by decide) ?_
    have htk : at9 < sz := tok_in hkx rfl (by decide : ¬ (19 : Int32) = 67) (by omega) hsz
    refine lv_aload_n hx hb dX8_statementBy_189 rfl (lv_at hl 0 rfl) ?_
    have hO : OKP G h0 a (upd (upd (upd (upd (upd (upd (upd (upd F 2 (nI sz)) 9 (nI at9)) 10 (nI dp)) 11 (nI sg)) 2 (nI sz)) 9 (nI at9)) 10 (nI dp)) 11 (nI sg)) R Z B J K w := hO.to rfl
    obtain ⟨_, qr119, hqr120⟩ := hO.2.1 23 _ (sg_23 G h0 a _ _ _ _ _)
    refine pn_V0 (G := G) (As := []) (rest := []) hx hb hml hown hq hE hX pX0_al hP hD hS hA hl.1 (P_print l G h0 a (upd (upd (upd (upd F 2 (nI sz)) 9 (nI at9)) 10 (nI dp)) 11 (nI sg)) R Z B J K w n at9 sz dp sg O g (by omega) (by omega) hdp (by omega) hwn how (by omega) hO hl0) (gV pw_1045 pw_1046 pw_1047 pw_796 pw_1001) hV_X8_printStatement qr119 5 hqr120 rfl rfl rfl (Nat.le_of_ble_eq_true rfl) dX8_statementBy_190 ⟨(by show 0 + (2 * (sz - at9) + 20) ≤ (2 * (sz - at9) + 20); omega), (by show 0 + (11 * (2 * (sz - at9) + 20)) ≤ (11 * (2 * (sz - at9) + 20)); omega)⟩ ⟨(by show (40 * n + 44) + 1 ≤ (50 * n + 62); omega), (by show 8 + (2 + 11) + (1300 * n + 1400) ≤ (1500 * n + 1700); omega)⟩ (fun v118 u116 H locs hw117 hP hD hS => ?_) (fun ux ce9 q9 H9 locs9 hux hP9 hD9 hS9 hce hcv hcl => pb_out ux (ThQ.up (Thx.same (Thx.same (Thx.same (Thx.same Thx.rfl rfl) rfl) rfl) rfl) RhX.rfl hux) hnt hlocks hce hcv hcl hP9 hD9 hS9 (by show 0 + (2 * (sz - at9) + 20) ≤ (2 * (sz - at9) + 20); omega) (by show 0 + (11 * (2 * (sz - at9) + 20)) ≤ (11 * (2 * (sz - at9) + 20)); omega))
    obtain ⟨w, r121, K122, g123, at124, sg125, f126, k127⟩ := u116
    obtain ⟨hw117, h128, h129, h130, h131, hO⟩ := hw117
    have h128 : NwR K K122 g g123 r121 O k127 ((173 + 3 * (20 - dp))) := h128
    have h129 : at9 + 5 ≤ at124 ∧ at124 ≤ sz := h129
    have h130 : sg ≤ sg125 ∧ sg125 ≤ 60 := h130
    have h131 : rS k127 = at9 ∧ rE k127 ≤ at124 ∧ rS k127 ≤ rE k127 := h131
    obtain rfl : v118 = some (.ref r121) := hw117
    have hO : OKP G h0 a (upd (upd (upd (upd F 2 (nI sz)) 9 (nI at124)) 10 (nI dp)) 11 (nI sg125)) R Z (updA B 10 f126) J K122 w := hO.to rfl
    refine W.widen (k := (2 * (at124 - at9) - 5)) (n := (11 * (2 * (at124 - at9) - 5))) (by show 0 + (2 * (at124 - at9) - 5) ≤ (2 * (at124 - at9) - 5); omega) (by show 0 + (11 * (2 * (at124 - at9) - 5)) ≤ (11 * (2 * (at124 - at9) - 5)); omega) ?_
    refine W.eq (g2 := F0 m 193 ls [.ref r121]) rfl ?_
    refine W_size (fun hz1 hz2 => ?_)
    refine vx_ret ?_
    have hz132 : NwR K K122 g g123 r121 O k127 ((173 + 3 * (20 - dp))) := (NwR.up h128 (by omega))
    have hz133 : at9 + 1 ≤ at124 ∧ at124 ≤ sz := (by omega)
    have hz134 : sg ≤ sg125 ∧ sg125 ≤ 60 := (by omega)
    have hz135 : rS k127 = at9 ∧ rE k127 ≤ at124 ∧ rS k127 ≤ rE k127 := (by omega)
    have hO : OKP G h0 a (upd (upd (upd (upd F 2 (nI sz)) 9 (nI at124)) 10 (nI dp)) 11 (nI sg125)) R Z (updA B 10 f126) J K122 w := hO.to rfl
    refine W.widen (k := (2 * (sz - at9) + 20)) (n := (11 * (2 * (sz - at9) + 20))) (by omega) (by omega) ?_
    have hzz1 : H.size ≤ s.heap.size + ((2 * (at124 - at9) - 1)) := (by have z : (2 * (at124 - at9) - 5) ≤ (2 * (at124 - at9) - 1) := (by omega); omega)
    have hzz2 : hSl H ≤ hSl s.heap + ((11 * (2 * (at124 - at9) - 1))) := (by have z : (11 * (2 * (at124 - at9) - 5)) ≤ (11 * (2 * (at124 - at9) - 1)) := (by omega); omega)
    exact W.aret (v := .ref r121) hx hb hr (Or.inl ⟨_, rfl⟩) (Or.inr ⟨_, rfl⟩) (fun t99 ht99 hW99 => ⟨⟨_, (w, (r121, K122, g123, at124, sg125, f126, k127)), rfl, ⟨rfl, hz132, hz133, hz134, hz135, hO⟩, by rw [ht99]; exact hP, hD, by rw [ht99]; exact hzz1, by rw [ht99]; exact hzz2⟩, hS.F ht99⟩) hS.2.2 dX8_statementBy_193
  by_cases h136 : x = 20
  · subst h136
    refine lv_tableIn (tgt := 270) (off := 269) hx hb dX8_statementBy_1 (by decide) (by decide) (by decide) (by decide) ?_
    have hO : OKP G h0 a (upd (upd (upd (upd F 2 (nI sz)) 9 (nI at9)) 10 (nI dp)) 11 (nI sg)) R Z B J K w := hO.to rfl
    exact cut_d _ _ _ _ hP hD hS hO (lv_sub hl [0] rfl)
  by_cases h137 : x = 21
  · subst h137
    refine lv_tableIn (tgt := 194) (off := 193) hx hb dX8_statementBy_1 (by decide) (by decide) (by decide) (by decide) ?_
    have htk : at9 < sz := tok_in hkx rfl (by decide : ¬ (21 : Int32) = 67) (by omega) hsz
    refine lv_aload_n hx hb dX8_statementBy_194 rfl (lv_at hl 0 rfl) ?_
    refine lv_bipush (v := 28) hx hb dX8_statementBy_195 (by decide) ?_
    refine lv_aload_n hx hb dX8_statementBy_197 rfl (lv_at hl 0 rfl) ?_
    refine c_get (v := .ref (a 1)) (C := RX8) (Tc := TX8) (N := 5) (ci := 5) hx hb hq pin_wsX80 hown hE hP hO 23 (sg_23 G h0 a _ _ _ _ _) rfl 0 (by decide) (hq _ pw_774) (fun _ h9 => h9) rfl dX8_statementBy_198 ?_
    refine lv_aload_n hx hb dX8_statementBy_201 rfl (lv_at hl 0 rfl) ?_
    refine c_get (v := .int (nI at9)) (C := RX8) (Tc := TX8) (N := 5) (ci := 5) hx hb hq pin_wsX80 hown hE hP hO 23 (sg_23 G h0 a _ _ _ _ _) rfl 2 (by decide) (hq _ pw_776) (fun _ h9 => h9) rfl dX8_statementBy_202 ?_
    refine lv_iconst (v := 1) hx hb dX8_statementBy_205 (by decide) ?_
    refine lv_iadd hx hb dX8_statementBy_206 ?_
    refine lv_topi (fun x138 e139 => ?_)
    obtain rfl : x138 = nI (at9 + 1) := e139.trans (nI_add (at9) (1))
    have hO : OKW G h0 a (upd (upd (upd (upd (upd F 2 (nI sz)) 9 (nI at9)) 10 (nI dp)) 11 (nI sg)) 2 (nI sz)) R Z B J K.1 (fun q99 x99 => x99 = rep G a K q99) w := hO.to rfl
    obtain ⟨_, qr143, hqr144⟩ := hO.2.1 2 _ (sg_2 G h0 a _ _ _ _ _)
    refine pc_V0 (G := G) (As := [.int (nI (at9 + 1))]) (rest := [.int 28, .ref (a 3)]) hx hb hml hown hq hE hX pX0_al hP hD hS hA hl.1 (K_kindAt l G h0 a (upd (upd (upd (upd F 2 (nI sz)) 9 (nI at9)) 10 (nI dp)) 11 (nI sg)) R Z B J K.1 (fun q99 x99 => x99 = rep G a K q99) w (nI (at9 + 1)) sz (by omega) hO) (gV pw_777 pw_193 pw_194 pw_59 pw_126) hV_X10_kindAt qr143 7 hqr144 rfl rfl rfl (Nat.le_of_ble_eq_true rfl) dX8_statementBy_207 ⟨(by show 0 + 0 ≤ (2 * (sz - at9) + 20); omega), (by show 0 + 0 ≤ (11 * (2 * (sz - at9) + 20)); omega)⟩ ⟨(by show 2 + 1 ≤ (50 * n + 62); omega), (by show 8 + (2 + 11) + 60 ≤ (1500 * n + 1700); omega)⟩ (fun v142 u140 H locs hw141 hP hD hS => ?_)
    obtain ⟨w, r145⟩ := u140
    obtain ⟨hw141, h146, hO⟩ := hw141
    have h146 : r145 = 67 ∨ ∃ t : Nat, (nI (at9 + 1)) = nI t ∧ t < sz := h146
    obtain rfl : v142 = some (.int r145) := hw141
    have hO : OKP G h0 a (upd (upd (upd (upd F 2 (nI sz)) 9 (nI at9)) 10 (nI dp)) 11 (nI sg)) R Z B J K w := hO.to rfl
    refine W.widen (k := 0) (n := 0) (Nat.le_of_ble_eq_true rfl) (Nat.le_of_ble_eq_true rfl) ?_
    refine W.eq (g2 := F0 m 210 ls [.int r145, .int 28, .ref (a 3)]) rfl ?_
    refine lv_bipush (v := 38) hx hb dX8_statementBy_210 (by decide) ?_
    refine lv_icmp_eq (tgt := 219) hx hb dX8_statementBy_212 (by decide) (fun c147 => ?_) (fun c147 => ?_)
    · refine lv_iconst (v := 0) hx hb dX8_statementBy_219 (by decide) ?_
      have hO : OKP G h0 a (upd (upd (upd (upd (upd (upd F 2 (nI sz)) 9 (nI at9)) 10 (nI dp)) 11 (nI sg)) 2 (nI sz)) 9 (nI at9)) R Z B J K w := hO.to rfl
      obtain ⟨_, qr151, hqr152⟩ := hO.2.1 23 _ (sg_23 G h0 a _ _ _ _ _)
      refine pn_V0 (G := G) (As := [.int 28, .int 0]) (rest := []) hx hb hml hown hq hE hX pX0_al hP hD hS hA hl.1 (P_word0 l G h0 a (upd (upd (upd (upd F 2 (nI sz)) 9 (nI at9)) 10 (nI dp)) 11 (nI sg)) R Z B J K w 28 at9 sz O g (by omega) (by omega) hwn (fun o9 h9 => ⟨(how o9 h9).1, fun z => (by rw [(how o9 h9).2.1] at z; omega), (how o9 h9).2.2⟩) (by omega) (fun C => ⟨fun z => absurd z (by decide), fun z => absurd z (by decide), fun z => absurd z (by decide), fun z => absurd z (by decide), fun z => absurd z (by decide)⟩) hO hl0) (gV pw_1048 pw_1049 pw_1050 pw_796 pw_1002) hV_X8_wordStatement qr151 5 hqr152 rfl rfl rfl (Nat.le_of_ble_eq_true rfl) dX8_statementBy_220 ⟨(by show 0 + 2 ≤ (2 * (sz - at9) + 20); omega), (by show 0 + 17 ≤ (11 * (2 * (sz - at9) + 20)); omega)⟩ ⟨(by show 8 + 1 ≤ (50 * n + 62); omega), (by show 8 + (4 + 11) + 143 ≤ (1500 * n + 1700); omega)⟩ (fun v150 u148 H locs hw149 hP hD hS => ?_) (fun ux ce9 q9 H9 locs9 hux hP9 hD9 hS9 hce hcv hcl => pb_out ux (ThQ.up (Thx.same (Thx.same Thx.rfl rfl) rfl) RhX.rfl hux) hnt hlocks hce hcv hcl hP9 hD9 hS9 (by show 0 + 2 ≤ (2 * (sz - at9) + 20); omega) (by show 0 + 17 ≤ (11 * (2 * (sz - at9) + 20)); omega))
      obtain ⟨w, r153, K154, g155⟩ := u148
      obtain ⟨hw149, h156, h157, h158, hO⟩ := hw149
      have h156 : NwR K K154 g g155 r153 O (rk at9 (at9 + 2) (at9 + 2) (at9 + 2)) 1 := h156
      have h157 : K154.2.1 0 r153 = 28 := h157
      have h158 : at9 + 2 ≤ sz := h158
      obtain rfl : v150 = some (.ref r153) := hw149
      have hO : OKP G h0 a (upd (upd (upd (upd F 2 (nI sz)) 9 (nI (at9 + 2))) 10 (nI dp)) 11 (nI sg)) R Z B J K154 w := hO.to rfl
      refine W.widen (k := 1) (n := 11) (by show 0 + 1 ≤ 1; omega) (by show 0 + 11 ≤ 11; omega) ?_
      refine W.eq (g2 := F0 m 223 ls [.ref r153]) rfl ?_
      refine W_size (fun hz1 hz2 => ?_)
      refine vx_ret ?_
      have hz159 : NwR K K154 g g155 r153 O (rk at9 (at9 + 2) (at9 + 2) (at9 + 2)) ((173 + 3 * (20 - dp))) := (NwR.up h156 (by omega))
      have hz160 : at9 + 1 ≤ (at9 + 2) ∧ (at9 + 2) ≤ sz := (by omega)
      have hz161 : sg ≤ sg ∧ sg ≤ 60 := (by omega)
      have hz162 : rS (rk at9 (at9 + 2) (at9 + 2) (at9 + 2)) = at9 ∧ rE (rk at9 (at9 + 2) (at9 + 2) (at9 + 2)) ≤ (at9 + 2) ∧ rS (rk at9 (at9 + 2) (at9 + 2) (at9 + 2)) ≤ rE (rk at9 (at9 + 2) (at9 + 2) (at9 + 2)) := ⟨rS_rk (by omega), Nat.le_of_eq (rE_rk (by omega)), (by rw [rS_rk (by omega), rE_rk (by omega)]; omega)⟩
      have hO : OKP G h0 a (upd (upd (upd (upd F 2 (nI sz)) 9 (nI (at9 + 2))) 10 (nI dp)) 11 (nI sg)) R Z (updA B 10 (B 10)) J K154 w := hO.to rfl
      refine W.widen (k := (2 * (sz - at9) + 20)) (n := (11 * (2 * (sz - at9) + 20))) (by omega) (by omega) ?_
      have hzz1 : H.size ≤ s.heap.size + ((2 * ((at9 + 2) - at9) - 1)) := (by have z : 1 ≤ (2 * ((at9 + 2) - at9) - 1) := (by omega); omega)
      have hzz2 : hSl H ≤ hSl s.heap + ((11 * (2 * ((at9 + 2) - at9) - 1))) := (by have z : 11 ≤ (11 * (2 * ((at9 + 2) - at9) - 1)) := (by omega); omega)
      exact W.aret (v := .ref r153) hx hb hr (Or.inl ⟨_, rfl⟩) (Or.inr ⟨_, rfl⟩) (fun t99 ht99 hW99 => ⟨⟨_, (w, (r153, K154, g155, (at9 + 2), sg, (B 10), (rk at9 (at9 + 2) (at9 + 2) (at9 + 2)))), rfl, ⟨rfl, hz159, hz160, hz161, hz162, hO⟩, by rw [ht99]; exact hP, hD, by rw [ht99]; exact hzz1, by rw [ht99]; exact hzz2⟩, hS.F ht99⟩) hS.2.2 dX8_statementBy_223
    · refine lv_iconst (v := 1) hx hb dX8_statementBy_215 (by decide) ?_
      refine lv_goto (tgt := 220) hx hb dX8_statementBy_216 (by decide) ?_
      have hO : OKP G h0 a (upd (upd (upd (upd (upd (upd (upd (upd F 2 (nI sz)) 9 (nI at9)) 10 (nI dp)) 11 (nI sg)) 2 (nI sz)) 9 (nI at9)) 10 (nI dp)) 11 (nI sg)) R Z B J K w := hO.to rfl
      obtain ⟨_, qr166, hqr167⟩ := hO.2.1 23 _ (sg_23 G h0 a _ _ _ _ _)
      refine pn_V0 (G := G) (As := [.int 28, .int 1]) (rest := []) hx hb hml hown hq hE hX pX0_al hP hD hS hA hl.1 (P_word1 l G h0 a (upd (upd (upd (upd F 2 (nI sz)) 9 (nI at9)) 10 (nI dp)) 11 (nI sg)) R Z B J K w 28 n at9 sz dp sg O g (by omega) (by omega) hdp (by omega) hwn how (by omega) (by decide) hO hl0) (gV pw_1048 pw_1049 pw_1050 pw_796 pw_1002) hV_X8_wordStatement qr166 5 hqr167 rfl rfl rfl (Nat.le_of_ble_eq_true rfl) dX8_statementBy_220 ⟨(by show 0 + (2 * (sz - at9) + 20) ≤ (2 * (sz - at9) + 20); omega), (by show 0 + (11 * (2 * (sz - at9) + 20)) ≤ (11 * (2 * (sz - at9) + 20)); omega)⟩ ⟨(by show (40 * n + 44) + 1 ≤ (50 * n + 62); omega), (by show 8 + (4 + 11) + (1300 * n + 1400) ≤ (1500 * n + 1700); omega)⟩ (fun v165 u163 H locs hw164 hP hD hS => ?_) (fun ux ce9 q9 H9 locs9 hux hP9 hD9 hS9 hce hcv hcl => pb_out ux (ThQ.up (Thx.same (Thx.same (Thx.same (Thx.same Thx.rfl rfl) rfl) rfl) rfl) RhX.rfl hux) hnt hlocks hce hcv hcl hP9 hD9 hS9 (by show 0 + (2 * (sz - at9) + 20) ≤ (2 * (sz - at9) + 20); omega) (by show 0 + (11 * (2 * (sz - at9) + 20)) ≤ (11 * (2 * (sz - at9) + 20)); omega))
      obtain ⟨w, r168, K169, g170, at171, sg172, f173, k174⟩ := u163
      obtain ⟨hw164, h175, h176, h177, h178, hO⟩ := hw164
      have h175 : NwR K K169 g g170 r168 O k174 ((173 + 3 * (20 - dp))) := h175
      have h176 : at9 + 3 ≤ at171 ∧ at171 ≤ sz := h176
      have h177 : sg ≤ sg172 ∧ sg172 ≤ 60 := h177
      have h178 : rS k174 = at9 ∧ rE k174 ≤ at171 ∧ rS k174 ≤ rE k174 := h178
      obtain rfl : v165 = some (.ref r168) := hw164
      have hO : OKP G h0 a (upd (upd (upd (upd F 2 (nI sz)) 9 (nI at171)) 10 (nI dp)) 11 (nI sg172)) R Z (updA B 10 f173) J K169 w := hO.to rfl
      refine W.widen (k := (2 * (at171 - at9) - 4)) (n := (11 * (2 * (at171 - at9) - 4))) (by show 0 + (2 * (at171 - at9) - 4) ≤ (2 * (at171 - at9) - 4); omega) (by show 0 + (11 * (2 * (at171 - at9) - 4)) ≤ (11 * (2 * (at171 - at9) - 4)); omega) ?_
      refine W.eq (g2 := F0 m 223 ls [.ref r168]) rfl ?_
      refine W_size (fun hz1 hz2 => ?_)
      refine vx_ret ?_
      have hz179 : NwR K K169 g g170 r168 O k174 ((173 + 3 * (20 - dp))) := (NwR.up h175 (by omega))
      have hz180 : at9 + 1 ≤ at171 ∧ at171 ≤ sz := (by omega)
      have hz181 : sg ≤ sg172 ∧ sg172 ≤ 60 := (by omega)
      have hz182 : rS k174 = at9 ∧ rE k174 ≤ at171 ∧ rS k174 ≤ rE k174 := (by omega)
      have hO : OKP G h0 a (upd (upd (upd (upd F 2 (nI sz)) 9 (nI at171)) 10 (nI dp)) 11 (nI sg172)) R Z (updA B 10 f173) J K169 w := hO.to rfl
      refine W.widen (k := (2 * (sz - at9) + 20)) (n := (11 * (2 * (sz - at9) + 20))) (by omega) (by omega) ?_
      have hzz1 : H.size ≤ s.heap.size + ((2 * (at171 - at9) - 1)) := (by have z : (2 * (at171 - at9) - 4) ≤ (2 * (at171 - at9) - 1) := (by omega); omega)
      have hzz2 : hSl H ≤ hSl s.heap + ((11 * (2 * (at171 - at9) - 1))) := (by have z : (11 * (2 * (at171 - at9) - 4)) ≤ (11 * (2 * (at171 - at9) - 1)) := (by omega); omega)
      exact W.aret (v := .ref r168) hx hb hr (Or.inl ⟨_, rfl⟩) (Or.inr ⟨_, rfl⟩) (fun t99 ht99 hW99 => ⟨⟨_, (w, (r168, K169, g170, at171, sg172, f173, k174)), rfl, ⟨rfl, hz179, hz180, hz181, hz182, hO⟩, by rw [ht99]; exact hP, hD, by rw [ht99]; exact hzz1, by rw [ht99]; exact hzz2⟩, hS.F ht99⟩) hS.2.2 dX8_statementBy_223
  by_cases h183 : x = 22
  · subst h183
    refine lv_tableIn (tgt := 270) (off := 269) hx hb dX8_statementBy_1 (by decide) (by decide) (by decide) (by decide) ?_
    have hO : OKP G h0 a (upd (upd (upd (upd F 2 (nI sz)) 9 (nI at9)) 10 (nI dp)) 11 (nI sg)) R Z B J K w := hO.to rfl
    exact cut_d _ _ _ _ hP hD hS hO (lv_sub hl [0] rfl)
  by_cases h184 : x = 23
  · subst h184
    refine lv_tableIn (tgt := 270) (off := 269) hx hb dX8_statementBy_1 (by decide) (by decide) (by decide) (by decide) ?_
    have hO : OKP G h0 a (upd (upd (upd (upd F 2 (nI sz)) 9 (nI at9)) 10 (nI dp)) 11 (nI sg)) R Z B J K w := hO.to rfl
    exact cut_d _ _ _ _ hP hD hS hO (lv_sub hl [0] rfl)
  by_cases h185 : x = 24
  · subst h185
    refine lv_tableIn (tgt := 224) (off := 223) hx hb dX8_statementBy_1 (by decide) (by decide) (by decide) (by decide) ?_
    have htk : at9 < sz := tok_in hkx rfl (by decide : ¬ (24 : Int32) = 67) (by omega) hsz
    refine lv_aload_n hx hb dX8_statementBy_224 rfl (lv_at hl 0 rfl) ?_
    refine lv_bipush (v := 31) hx hb dX8_statementBy_225 (by decide) ?_
    refine lv_iconst (v := 1) hx hb dX8_statementBy_227 (by decide) ?_
    have hO : OKP G h0 a (upd (upd (upd (upd (upd (upd (upd (upd F 2 (nI sz)) 9 (nI at9)) 10 (nI dp)) 11 (nI sg)) 2 (nI sz)) 9 (nI at9)) 10 (nI dp)) 11 (nI sg)) R Z B J K w := hO.to rfl
    obtain ⟨_, qr189, hqr190⟩ := hO.2.1 23 _ (sg_23 G h0 a _ _ _ _ _)
    refine pn_V0 (G := G) (As := [.int 31, .int 1]) (rest := []) hx hb hml hown hq hE hX pX0_al hP hD hS hA hl.1 (P_word1 l G h0 a (upd (upd (upd (upd F 2 (nI sz)) 9 (nI at9)) 10 (nI dp)) 11 (nI sg)) R Z B J K w 31 n at9 sz dp sg O g (by omega) (by omega) hdp (by omega) hwn how (by omega) (by decide) hO hl0) (gV pw_1048 pw_1049 pw_1050 pw_796 pw_1002) hV_X8_wordStatement qr189 5 hqr190 rfl rfl rfl (Nat.le_of_ble_eq_true rfl) dX8_statementBy_228 ⟨(by show 0 + (2 * (sz - at9) + 20) ≤ (2 * (sz - at9) + 20); omega), (by show 0 + (11 * (2 * (sz - at9) + 20)) ≤ (11 * (2 * (sz - at9) + 20)); omega)⟩ ⟨(by show (40 * n + 44) + 1 ≤ (50 * n + 62); omega), (by show 8 + (4 + 11) + (1300 * n + 1400) ≤ (1500 * n + 1700); omega)⟩ (fun v188 u186 H locs hw187 hP hD hS => ?_) (fun ux ce9 q9 H9 locs9 hux hP9 hD9 hS9 hce hcv hcl => pb_out ux (ThQ.up (Thx.same (Thx.same (Thx.same (Thx.same Thx.rfl rfl) rfl) rfl) rfl) RhX.rfl hux) hnt hlocks hce hcv hcl hP9 hD9 hS9 (by show 0 + (2 * (sz - at9) + 20) ≤ (2 * (sz - at9) + 20); omega) (by show 0 + (11 * (2 * (sz - at9) + 20)) ≤ (11 * (2 * (sz - at9) + 20)); omega))
    obtain ⟨w, r191, K192, g193, at194, sg195, f196, k197⟩ := u186
    obtain ⟨hw187, h198, h199, h200, h201, hO⟩ := hw187
    have h198 : NwR K K192 g g193 r191 O k197 ((173 + 3 * (20 - dp))) := h198
    have h199 : at9 + 3 ≤ at194 ∧ at194 ≤ sz := h199
    have h200 : sg ≤ sg195 ∧ sg195 ≤ 60 := h200
    have h201 : rS k197 = at9 ∧ rE k197 ≤ at194 ∧ rS k197 ≤ rE k197 := h201
    obtain rfl : v188 = some (.ref r191) := hw187
    have hO : OKP G h0 a (upd (upd (upd (upd F 2 (nI sz)) 9 (nI at194)) 10 (nI dp)) 11 (nI sg195)) R Z (updA B 10 f196) J K192 w := hO.to rfl
    refine W.widen (k := (2 * (at194 - at9) - 4)) (n := (11 * (2 * (at194 - at9) - 4))) (by show 0 + (2 * (at194 - at9) - 4) ≤ (2 * (at194 - at9) - 4); omega) (by show 0 + (11 * (2 * (at194 - at9) - 4)) ≤ (11 * (2 * (at194 - at9) - 4)); omega) ?_
    refine W.eq (g2 := F0 m 231 ls [.ref r191]) rfl ?_
    refine W_size (fun hz1 hz2 => ?_)
    refine vx_ret ?_
    have hz202 : NwR K K192 g g193 r191 O k197 ((173 + 3 * (20 - dp))) := (NwR.up h198 (by omega))
    have hz203 : at9 + 1 ≤ at194 ∧ at194 ≤ sz := (by omega)
    have hz204 : sg ≤ sg195 ∧ sg195 ≤ 60 := (by omega)
    have hz205 : rS k197 = at9 ∧ rE k197 ≤ at194 ∧ rS k197 ≤ rE k197 := (by omega)
    have hO : OKP G h0 a (upd (upd (upd (upd F 2 (nI sz)) 9 (nI at194)) 10 (nI dp)) 11 (nI sg195)) R Z (updA B 10 f196) J K192 w := hO.to rfl
    refine W.widen (k := (2 * (sz - at9) + 20)) (n := (11 * (2 * (sz - at9) + 20))) (by omega) (by omega) ?_
    have hzz1 : H.size ≤ s.heap.size + ((2 * (at194 - at9) - 1)) := (by have z : (2 * (at194 - at9) - 4) ≤ (2 * (at194 - at9) - 1) := (by omega); omega)
    have hzz2 : hSl H ≤ hSl s.heap + ((11 * (2 * (at194 - at9) - 1))) := (by have z : (11 * (2 * (at194 - at9) - 4)) ≤ (11 * (2 * (at194 - at9) - 1)) := (by omega); omega)
    exact W.aret (v := .ref r191) hx hb hr (Or.inl ⟨_, rfl⟩) (Or.inr ⟨_, rfl⟩) (fun t99 ht99 hW99 => ⟨⟨_, (w, (r191, K192, g193, at194, sg195, f196, k197)), rfl, ⟨rfl, hz202, hz203, hz204, hz205, hO⟩, by rw [ht99]; exact hP, hD, by rw [ht99]; exact hzz1, by rw [ht99]; exact hzz2⟩, hS.F ht99⟩) hS.2.2 dX8_statementBy_231
  by_cases h206 : x = 25
  · subst h206
    refine lv_tableIn (tgt := 270) (off := 269) hx hb dX8_statementBy_1 (by decide) (by decide) (by decide) (by decide) ?_
    have hO : OKP G h0 a (upd (upd (upd (upd F 2 (nI sz)) 9 (nI at9)) 10 (nI dp)) 11 (nI sg)) R Z B J K w := hO.to rfl
    exact cut_d _ _ _ _ hP hD hS hO (lv_sub hl [0] rfl)
  by_cases h207 : x = 26
  · subst h207
    refine lv_tableIn (tgt := 184) (off := 183) hx hb dX8_statementBy_1 (by decide) (by decide) (by decide) (by decide) ?_
    have htk : at9 < sz := tok_in hkx rfl (by decide : ¬ (26 : Int32) = 67) (by omega) hsz
    refine lv_aload_n hx hb dX8_statementBy_184 rfl (lv_at hl 0 rfl) ?_
    have hO : OKP G h0 a (upd (upd (upd (upd (upd (upd (upd (upd F 2 (nI sz)) 9 (nI at9)) 10 (nI dp)) 11 (nI sg)) 2 (nI sz)) 9 (nI at9)) 10 (nI dp)) 11 (nI sg)) R Z B J K w := hO.to rfl
    obtain ⟨_, qr211, hqr212⟩ := hO.2.1 23 _ (sg_23 G h0 a _ _ _ _ _)
    refine pn_V0 (G := G) (As := []) (rest := []) hx hb hml hown hq hE hX pX0_al hP hD hS hA hl.1 (P_try l G h0 a (upd (upd (upd (upd F 2 (nI sz)) 9 (nI at9)) 10 (nI dp)) 11 (nI sg)) R Z B J K w n at9 sz dp sg O g (by omega) (by omega) hdp (by omega) hwn how (by omega) ist hO hl0) (gV pw_1042 pw_1043 pw_1044 pw_796 pw_1051) hV_X8_tryStatement qr211 5 hqr212 rfl rfl rfl (Nat.le_of_ble_eq_true rfl) dX8_statementBy_185 ⟨(by show 0 + (2 * (sz - at9) + 20) ≤ (2 * (sz - at9) + 20); omega), (by show 0 + (11 * (2 * (sz - at9) + 20)) ≤ (11 * (2 * (sz - at9) + 20)); omega)⟩ ⟨(by show (50 * n + 58) + 1 ≤ (50 * n + 62); omega), (by show 8 + (5 + 11) + (1500 * n + 1650) ≤ (1500 * n + 1700); omega)⟩ (fun v210 u208 H locs hw209 hP hD hS => ?_) (fun ux ce9 q9 H9 locs9 hux hP9 hD9 hS9 hce hcv hcl => pb_out ux (ThQ.up (Thx.same (Thx.same (Thx.same (Thx.same Thx.rfl rfl) rfl) rfl) rfl) RhX.rfl hux) hnt hlocks hce hcv hcl hP9 hD9 hS9 (by show 0 + (2 * (sz - at9) + 20) ≤ (2 * (sz - at9) + 20); omega) (by show 0 + (11 * (2 * (sz - at9) + 20)) ≤ (11 * (2 * (sz - at9) + 20)); omega))
    obtain ⟨w, r213, K214, g215, at216, sg217, f218, k219⟩ := u208
    obtain ⟨hw209, h220, h221, h222, h223, hO⟩ := hw209
    have h220 : NwR K K214 g g215 r213 O k219 ((173 + 3 * (20 - dp))) := h220
    have h221 : at9 + 3 ≤ at216 ∧ at216 ≤ sz := h221
    have h222 : sg ≤ sg217 ∧ sg217 ≤ 60 := h222
    have h223 : rS k219 = at9 ∧ rE k219 ≤ at216 ∧ rS k219 ≤ rE k219 := h223
    obtain rfl : v210 = some (.ref r213) := hw209
    have hO : OKP G h0 a (upd (upd (upd (upd F 2 (nI sz)) 9 (nI at216)) 10 (nI dp)) 11 (nI sg217)) R Z (updA B 10 f218) J K214 w := hO.to rfl
    refine W.widen (k := (2 * (at216 - at9) - 4)) (n := (11 * (2 * (at216 - at9) - 4))) (by show 0 + (2 * (at216 - at9) - 4) ≤ (2 * (at216 - at9) - 4); omega) (by show 0 + (11 * (2 * (at216 - at9) - 4)) ≤ (11 * (2 * (at216 - at9) - 4)); omega) ?_
    refine W.eq (g2 := F0 m 188 ls [.ref r213]) rfl ?_
    refine W_size (fun hz1 hz2 => ?_)
    refine vx_ret ?_
    have hz224 : NwR K K214 g g215 r213 O k219 ((173 + 3 * (20 - dp))) := (NwR.up h220 (by omega))
    have hz225 : at9 + 1 ≤ at216 ∧ at216 ≤ sz := (by omega)
    have hz226 : sg ≤ sg217 ∧ sg217 ≤ 60 := (by omega)
    have hz227 : rS k219 = at9 ∧ rE k219 ≤ at216 ∧ rS k219 ≤ rE k219 := (by omega)
    have hO : OKP G h0 a (upd (upd (upd (upd F 2 (nI sz)) 9 (nI at216)) 10 (nI dp)) 11 (nI sg217)) R Z (updA B 10 f218) J K214 w := hO.to rfl
    refine W.widen (k := (2 * (sz - at9) + 20)) (n := (11 * (2 * (sz - at9) + 20))) (by omega) (by omega) ?_
    have hzz1 : H.size ≤ s.heap.size + ((2 * (at216 - at9) - 1)) := (by have z : (2 * (at216 - at9) - 4) ≤ (2 * (at216 - at9) - 1) := (by omega); omega)
    have hzz2 : hSl H ≤ hSl s.heap + ((11 * (2 * (at216 - at9) - 1))) := (by have z : (11 * (2 * (at216 - at9) - 4)) ≤ (11 * (2 * (at216 - at9) - 1)) := (by omega); omega)
    exact W.aret (v := .ref r213) hx hb hr (Or.inl ⟨_, rfl⟩) (Or.inr ⟨_, rfl⟩) (fun t99 ht99 hW99 => ⟨⟨_, (w, (r213, K214, g215, at216, sg217, f218, k219)), rfl, ⟨rfl, hz224, hz225, hz226, hz227, hO⟩, by rw [ht99]; exact hP, hD, by rw [ht99]; exact hzz1, by rw [ht99]; exact hzz2⟩, hS.F ht99⟩) hS.2.2 dX8_statementBy_188
  by_cases h228 : x = 27
  · subst h228
    refine lv_tableIn (tgt := 270) (off := 269) hx hb dX8_statementBy_1 (by decide) (by decide) (by decide) (by decide) ?_
    have hO : OKP G h0 a (upd (upd (upd (upd F 2 (nI sz)) 9 (nI at9)) 10 (nI dp)) 11 (nI sg)) R Z B J K w := hO.to rfl
    exact cut_d _ _ _ _ hP hD hS hO (lv_sub hl [0] rfl)
  by_cases h229 : x = 28
  · subst h229
    refine lv_tableIn (tgt := 174) (off := 173) hx hb dX8_statementBy_1 (by decide) (by decide) (by decide) (by decide) ?_
    have htk : at9 < sz := tok_in hkx rfl (by decide : ¬ (28 : Int32) = 67) (by omega) hsz
    refine lv_aload_n hx hb dX8_statementBy_174 rfl (lv_at hl 0 rfl) ?_
    have hO : OKP G h0 a (upd (upd (upd (upd (upd (upd (upd (upd F 2 (nI sz)) 9 (nI at9)) 10 (nI dp)) 11 (nI sg)) 2 (nI sz)) 9 (nI at9)) 10 (nI dp)) 11 (nI sg)) R Z B J K w := hO.to rfl
    obtain ⟨_, qr233, hqr234⟩ := hO.2.1 23 _ (sg_23 G h0 a _ _ _ _ _)
    refine pn_V0 (G := G) (As := []) (rest := []) hx hb hml hown hq hE hX pX0_al hP hD hS hA hl.1 (P_while l G h0 a (upd (upd (upd (upd F 2 (nI sz)) 9 (nI at9)) 10 (nI dp)) 11 (nI sg)) R Z B J K w n at9 sz dp sg O g (by omega) (by omega) hdp (by omega) hwn how (by omega) ist hO hl0) (gV pw_1036 pw_1037 pw_1038 pw_796 pw_1055) hV_X8_whileStatement qr233 5 hqr234 rfl rfl rfl (Nat.le_of_ble_eq_true rfl) dX8_statementBy_175 ⟨(by show 0 + (2 * (sz - at9) + 20) ≤ (2 * (sz - at9) + 20); omega), (by show 0 + (11 * (2 * (sz - at9) + 20)) ≤ (11 * (2 * (sz - at9) + 20)); omega)⟩ ⟨(by show (50 * n + 58) + 1 ≤ (50 * n + 62); omega), (by show 8 + (2 + 11) + (1500 * n + 1650) ≤ (1500 * n + 1700); omega)⟩ (fun v232 u230 H locs hw231 hP hD hS => ?_) (fun ux ce9 q9 H9 locs9 hux hP9 hD9 hS9 hce hcv hcl => pb_out ux (ThQ.up (Thx.same (Thx.same (Thx.same (Thx.same Thx.rfl rfl) rfl) rfl) rfl) RhX.rfl hux) hnt hlocks hce hcv hcl hP9 hD9 hS9 (by show 0 + (2 * (sz - at9) + 20) ≤ (2 * (sz - at9) + 20); omega) (by show 0 + (11 * (2 * (sz - at9) + 20)) ≤ (11 * (2 * (sz - at9) + 20)); omega))
    obtain ⟨w, r235, K236, g237, at238, sg239, f240, k241⟩ := u230
    obtain ⟨hw231, h242, h243, h244, h245, hO⟩ := hw231
    have h242 : NwR K K236 g g237 r235 O k241 ((173 + 3 * (20 - dp))) := h242
    have h243 : at9 + 5 ≤ at238 ∧ at238 ≤ sz := h243
    have h244 : sg ≤ sg239 ∧ sg239 ≤ 60 := h244
    have h245 : rS k241 = at9 ∧ rE k241 ≤ at238 ∧ rS k241 ≤ rE k241 := h245
    obtain rfl : v232 = some (.ref r235) := hw231
    have hO : OKP G h0 a (upd (upd (upd (upd F 2 (nI sz)) 9 (nI at238)) 10 (nI dp)) 11 (nI sg239)) R Z (updA B 10 f240) J K236 w := hO.to rfl
    refine W.widen (k := (2 * (at238 - at9) - 5)) (n := (11 * (2 * (at238 - at9) - 5))) (by show 0 + (2 * (at238 - at9) - 5) ≤ (2 * (at238 - at9) - 5); omega) (by show 0 + (11 * (2 * (at238 - at9) - 5)) ≤ (11 * (2 * (at238 - at9) - 5)); omega) ?_
    refine W.eq (g2 := F0 m 178 ls [.ref r235]) rfl ?_
    refine W_size (fun hz1 hz2 => ?_)
    refine vx_ret ?_
    have hz246 : NwR K K236 g g237 r235 O k241 ((173 + 3 * (20 - dp))) := (NwR.up h242 (by omega))
    have hz247 : at9 + 1 ≤ at238 ∧ at238 ≤ sz := (by omega)
    have hz248 : sg ≤ sg239 ∧ sg239 ≤ 60 := (by omega)
    have hz249 : rS k241 = at9 ∧ rE k241 ≤ at238 ∧ rS k241 ≤ rE k241 := (by omega)
    have hO : OKP G h0 a (upd (upd (upd (upd F 2 (nI sz)) 9 (nI at238)) 10 (nI dp)) 11 (nI sg239)) R Z (updA B 10 f240) J K236 w := hO.to rfl
    refine W.widen (k := (2 * (sz - at9) + 20)) (n := (11 * (2 * (sz - at9) + 20))) (by omega) (by omega) ?_
    have hzz1 : H.size ≤ s.heap.size + ((2 * (at238 - at9) - 1)) := (by have z : (2 * (at238 - at9) - 5) ≤ (2 * (at238 - at9) - 1) := (by omega); omega)
    have hzz2 : hSl H ≤ hSl s.heap + ((11 * (2 * (at238 - at9) - 1))) := (by have z : (11 * (2 * (at238 - at9) - 5)) ≤ (11 * (2 * (at238 - at9) - 1)) := (by omega); omega)
    exact W.aret (v := .ref r235) hx hb hr (Or.inl ⟨_, rfl⟩) (Or.inr ⟨_, rfl⟩) (fun t99 ht99 hW99 => ⟨⟨_, (w, (r235, K236, g237, at238, sg239, f240, k241)), rfl, ⟨rfl, hz246, hz247, hz248, hz249, hO⟩, by rw [ht99]; exact hP, hD, by rw [ht99]; exact hzz1, by rw [ht99]; exact hzz2⟩, hS.F ht99⟩) hS.2.2 dX8_statementBy_178
  by_cases h250 : x = 29
  · subst h250
    refine lv_tableIn (tgt := 270) (off := 269) hx hb dX8_statementBy_1 (by decide) (by decide) (by decide) (by decide) ?_
    have hO : OKP G h0 a (upd (upd (upd (upd F 2 (nI sz)) 9 (nI at9)) 10 (nI dp)) 11 (nI sg)) R Z B J K w := hO.to rfl
    exact cut_d _ _ _ _ hP hD hS hO (lv_sub hl [0] rfl)
  by_cases h251 : x = 30
  · subst h251
    refine lv_tableIn (tgt := 270) (off := 269) hx hb dX8_statementBy_1 (by decide) (by decide) (by decide) (by decide) ?_
    have hO : OKP G h0 a (upd (upd (upd (upd F 2 (nI sz)) 9 (nI at9)) 10 (nI dp)) 11 (nI sg)) R Z B J K w := hO.to rfl
    exact cut_d _ _ _ _ hP hD hS hO (lv_sub hl [0] rfl)
  by_cases h252 : x = 31
  · subst h252
    refine lv_tableIn (tgt := 270) (off := 269) hx hb dX8_statementBy_1 (by decide) (by decide) (by decide) (by decide) ?_
    have hO : OKP G h0 a (upd (upd (upd (upd F 2 (nI sz)) 9 (nI at9)) 10 (nI dp)) 11 (nI sg)) R Z B J K w := hO.to rfl
    exact cut_d _ _ _ _ hP hD hS hO (lv_sub hl [0] rfl)
  by_cases h253 : x = 32
  · subst h253
    refine lv_tableIn (tgt := 164) (off := 163) hx hb dX8_statementBy_1 (by decide) (by decide) (by decide) (by decide) ?_
    have htk : at9 < sz := tok_in hkx rfl (by decide : ¬ (32 : Int32) = 67) (by omega) hsz
    refine lv_aload_n hx hb dX8_statementBy_164 rfl (lv_at hl 0 rfl) ?_
    have hO : OKP G h0 a (upd (upd (upd (upd (upd (upd (upd (upd F 2 (nI sz)) 9 (nI at9)) 10 (nI dp)) 11 (nI sg)) 2 (nI sz)) 9 (nI at9)) 10 (nI dp)) 11 (nI sg)) R Z B J K w := hO.to rfl
    obtain ⟨_, qr257, hqr258⟩ := hO.2.1 23 _ (sg_23 G h0 a _ _ _ _ _)
    refine pn_V0 (G := G) (As := []) (rest := []) hx hb hml hown hq hE hX pX0_al hP hD hS hA hl.1 (P_block l G h0 a (upd (upd (upd (upd F 2 (nI sz)) 9 (nI at9)) 10 (nI dp)) 11 (nI sg)) R Z B J K w n at9 sz dp sg O g (by omega) (by omega) hdp (by omega) hwn how ist hO hl0) (gV pw_1007 pw_1008 pw_1009 pw_796 pw_1056) hV_X8_block qr257 5 hqr258 rfl rfl rfl (Nat.le_of_ble_eq_true rfl) dX8_statementBy_165 ⟨(by show 0 + (2 * (sz - at9) + 20) ≤ (2 * (sz - at9) + 20); omega), (by show 0 + (11 * (2 * (sz - at9) + 20)) ≤ (11 * (2 * (sz - at9) + 20)); omega)⟩ ⟨(by show (50 * n + 54) + 1 ≤ (50 * n + 62); omega), (by show 8 + (5 + 11) + (1500 * n + 1560) ≤ (1500 * n + 1700); omega)⟩ (fun v256 u254 H locs hw255 hP hD hS => ?_) (fun ux ce9 q9 H9 locs9 hux hP9 hD9 hS9 hce hcv hcl => pb_out ux (ThQ.up (Thx.same (Thx.same (Thx.same (Thx.same Thx.rfl rfl) rfl) rfl) rfl) RhX.rfl hux) hnt hlocks hce hcv hcl hP9 hD9 hS9 (by show 0 + (2 * (sz - at9) + 20) ≤ (2 * (sz - at9) + 20); omega) (by show 0 + (11 * (2 * (sz - at9) + 20)) ≤ (11 * (2 * (sz - at9) + 20)); omega))
    obtain ⟨w, r259, K260, g261, at262, sg263, f264, k265⟩ := u254
    obtain ⟨hw255, h266, h267, h268, h269, h270, hO⟩ := hw255
    have h266 : NwR K K260 g g261 r259 O k265 ((171 + 3 * (20 - dp))) := h266
    have h267 : at9 + 2 ≤ at262 ∧ at262 ≤ sz := h267
    have h268 : sg ≤ sg263 ∧ sg263 ≤ 60 := h268
    have h269 : rS k265 = at9 ∧ rE k265 ≤ at262 ∧ rS k265 ≤ rE k265 := h269
    have h270 : K260.2.1 0 r259 = 21 := h270
    obtain rfl : v256 = some (.ref r259) := hw255
    have hO : OKP G h0 a (upd (upd (upd (upd F 2 (nI sz)) 9 (nI at262)) 10 (nI dp)) 11 (nI sg263)) R Z (updA B 10 f264) J K260 w := hO.to rfl
    refine W.widen (k := (2 * (at262 - at9) - 3)) (n := (11 * (2 * (at262 - at9) - 3))) (by show 0 + (2 * (at262 - at9) - 3) ≤ (2 * (at262 - at9) - 3); omega) (by show 0 + (11 * (2 * (at262 - at9) - 3)) ≤ (11 * (2 * (at262 - at9) - 3)); omega) ?_
    refine W.eq (g2 := F0 m 168 ls [.ref r259]) rfl ?_
    refine W_size (fun hz1 hz2 => ?_)
    refine vx_ret ?_
    have hz271 : NwR K K260 g g261 r259 O k265 ((173 + 3 * (20 - dp))) := (NwR.up h266 (by omega))
    have hz272 : at9 + 1 ≤ at262 ∧ at262 ≤ sz := (by omega)
    have hz273 : sg ≤ sg263 ∧ sg263 ≤ 60 := (by omega)
    have hz274 : rS k265 = at9 ∧ rE k265 ≤ at262 ∧ rS k265 ≤ rE k265 := (by omega)
    have hO : OKP G h0 a (upd (upd (upd (upd F 2 (nI sz)) 9 (nI at262)) 10 (nI dp)) 11 (nI sg263)) R Z (updA B 10 f264) J K260 w := hO.to rfl
    refine W.widen (k := (2 * (sz - at9) + 20)) (n := (11 * (2 * (sz - at9) + 20))) (by omega) (by omega) ?_
    have hzz1 : H.size ≤ s.heap.size + ((2 * (at262 - at9) - 1)) := (by have z : (2 * (at262 - at9) - 3) ≤ (2 * (at262 - at9) - 1) := (by omega); omega)
    have hzz2 : hSl H ≤ hSl s.heap + ((11 * (2 * (at262 - at9) - 1))) := (by have z : (11 * (2 * (at262 - at9) - 3)) ≤ (11 * (2 * (at262 - at9) - 1)) := (by omega); omega)
    exact W.aret (v := .ref r259) hx hb hr (Or.inl ⟨_, rfl⟩) (Or.inr ⟨_, rfl⟩) (fun t99 ht99 hW99 => ⟨⟨_, (w, (r259, K260, g261, at262, sg263, f264, k265)), rfl, ⟨rfl, hz271, hz272, hz273, hz274, hO⟩, by rw [ht99]; exact hP, hD, by rw [ht99]; exact hzz1, by rw [ht99]; exact hzz2⟩, hS.F ht99⟩) hS.2.2 dX8_statementBy_168
  by_cases h275 : x = 33
  · subst h275
    refine lv_tableIn (tgt := 270) (off := 269) hx hb dX8_statementBy_1 (by decide) (by decide) (by decide) (by decide) ?_
    have hO : OKP G h0 a (upd (upd (upd (upd F 2 (nI sz)) 9 (nI at9)) 10 (nI dp)) 11 (nI sg)) R Z B J K w := hO.to rfl
    exact cut_d _ _ _ _ hP hD hS hO (lv_sub hl [0] rfl)
  by_cases h276 : x = 34
  · subst h276
    refine lv_tableIn (tgt := 270) (off := 269) hx hb dX8_statementBy_1 (by decide) (by decide) (by decide) (by decide) ?_
    have hO : OKP G h0 a (upd (upd (upd (upd F 2 (nI sz)) 9 (nI at9)) 10 (nI dp)) 11 (nI sg)) R Z B J K w := hO.to rfl
    exact cut_d _ _ _ _ hP hD hS hO (lv_sub hl [0] rfl)
  by_cases h277 : x = 35
  · subst h277
    refine lv_tableIn (tgt := 270) (off := 269) hx hb dX8_statementBy_1 (by decide) (by decide) (by decide) (by decide) ?_
    have hO : OKP G h0 a (upd (upd (upd (upd F 2 (nI sz)) 9 (nI at9)) 10 (nI dp)) 11 (nI sg)) R Z B J K w := hO.to rfl
    exact cut_d _ _ _ _ hP hD hS hO (lv_sub hl [0] rfl)
  by_cases h278 : x = 36
  · subst h278
    refine lv_tableIn (tgt := 270) (off := 269) hx hb dX8_statementBy_1 (by decide) (by decide) (by decide) (by decide) ?_
    have hO : OKP G h0 a (upd (upd (upd (upd F 2 (nI sz)) 9 (nI at9)) 10 (nI dp)) 11 (nI sg)) R Z B J K w := hO.to rfl
    exact cut_d _ _ _ _ hP hD hS hO (lv_sub hl [0] rfl)
  by_cases h279 : x = 37
  · subst h279
    refine lv_tableIn (tgt := 270) (off := 269) hx hb dX8_statementBy_1 (by decide) (by decide) (by decide) (by decide) ?_
    have hO : OKP G h0 a (upd (upd (upd (upd F 2 (nI sz)) 9 (nI at9)) 10 (nI dp)) 11 (nI sg)) R Z B J K w := hO.to rfl
    exact cut_d _ _ _ _ hP hD hS hO (lv_sub hl [0] rfl)
  by_cases h280 : x = 38
  · subst h280
    refine lv_tableIn (tgt := 248) (off := 247) hx hb dX8_statementBy_1 (by decide) (by decide) (by decide) (by decide) ?_
    have htk : at9 < sz := tok_in hkx rfl (by decide : ¬ (38 : Int32) = 67) (by omega) hsz
    refine p_new (s9 := 1) (C := RX7) (T := TX7) (N := 11) (ci := 13) (fs := [.int 0, .int 0, .int 0, .int 0, .int 0, .int 0, .null, .null, .null, .null, .null]) hx hb hq pin_wsX70 tyX7 tyX7_ok hown (hq _ pw_870) (hq _ pw_871) (hq _ pw_872) hE hP hD hS hA hO rfl nw_X7 (by decide) (fun q => by rw [rep_1 (show (kN K q 1 0).1 q = 1 from if_pos rfl)]; unfold fsNode kN; simp only [if_true]; rfl) (by show 0 + 1 ≤ (2 * (sz - at9) + 20); omega) (by show 0 + 11 ≤ (11 * (2 * (sz - at9) + 20)); omega) dX8_statementBy_248 (fun q281 H w hq282 hP hD hS hO => ?_)
    have hf283 : (kN K q281 1 0).1 q281 = 1 := if_pos rfl
    refine W.widen (k := 1) (n := 11) (by show 0 + 1 ≤ 1; omega) (by show 0 + 11 ≤ 11; omega) ?_
    refine lv_dup hx hb dX8_statementBy_251 rfl ?_
    refine lv_bipush (v := 34) hx hb dX8_statementBy_252 (by decide) ?_
    refine lv_aload_n hx hb dX8_statementBy_254 rfl (lv_at hl 0 rfl) ?_
    refine lv_bipush (v := 38) hx hb dX8_statementBy_255 (by decide) ?_
    have hO : OKW G h0 a (upd (upd (upd (upd (upd (upd F 2 (nI sz)) 9 (nI at9)) 10 (nI dp)) 11 (nI sg)) 2 (nI sz)) 9 (nI at9)) R Z B J ((kN K q281 1 0).1) (fun q99 x99 => x99 = rep G a (kN K q281 1 0) q99) w := hO.to rfl
    obtain ⟨_, qr287, hqr288⟩ := hO.2.1 23 _ (sg_23 G h0 a _ _ _ _ _)
    refine pn_V0 (G := G) (As := [.int 38]) (rest := [.int 34, .ref q281, .ref q281]) hx hb hml hown hq hE hX pX0_al hP hD hS hA hl.1 (P_take l G h0 a (upd (upd (upd (upd F 2 (nI sz)) 9 (nI at9)) 10 (nI dp)) 11 (nI sg)) R Z B J ((kN K q281 1 0).1) (fun q99 x99 => x99 = rep G a (kN K q281 1 0) q99) w 38 at9 sz (by omega) (by omega) (by decide) hO hl0) (gV pw_793 pw_794 pw_795 pw_796 pw_781) hV_X8_take qr287 5 hqr288 rfl rfl rfl (Nat.le_of_ble_eq_true rfl) dX8_statementBy_257 ⟨(by show 1 + 1 ≤ (2 * (sz - at9) + 20); omega), (by show 11 + 6 ≤ (11 * (2 * (sz - at9) + 20)); omega)⟩ ⟨(by show 7 + 1 ≤ (50 * n + 62); omega), (by show 8 + (2 + 11) + 122 ≤ (1500 * n + 1700); omega)⟩ (fun v286 u284 H locs hw285 hP hD hS => ?_) (fun ux ce9 q9 H9 locs9 hux hP9 hD9 hS9 hce hcv hcl => pb_out ux (ThQ.up (Thx.same (Thx.same Thx.rfl rfl) rfl) RhX.rfl hux) hnt hlocks hce hcv hcl hP9 hD9 hS9 (by show 1 + 1 ≤ (2 * (sz - at9) + 20); omega) (by show 11 + 6 ≤ (11 * (2 * (sz - at9) + 20)); omega))
    obtain ⟨w, _⟩ := u284
    obtain ⟨hw285, h289, hO⟩ := hw285
    have h289 : at9 + 1 ≤ sz := h289
    obtain rfl : v286 = some (.int (nI at9)) := hw285
    have hO : OKP G h0 a (upd (upd (upd (upd F 2 (nI sz)) 9 (nI (at9 + 1))) 10 (nI dp)) 11 (nI sg)) R Z B J (kN K q281 1 0) w := hO.to rfl
    refine W.widen (k := 1) (n := 11) (by show 1 + 0 ≤ 1; omega) (by show 11 + 0 ≤ 11; omega) ?_
    refine W.eq (g2 := F0 m 260 ls [.int (nI at9), .int 34, .ref q281, .ref q281]) rfl ?_
    refine lv_aload_n hx hb dX8_statementBy_260 rfl (lv_at hl 0 rfl) ?_
    refine c_get (v := .int (nI (at9 + 1))) (C := RX8) (Tc := TX8) (N := 5) (ci := 5) hx hb hq pin_wsX80 hown hE hP hO 23 (sg_23 G h0 a _ _ _ _ _) rfl 2 (by decide) (hq _ pw_776) (fun _ h9 => h9) rfl dX8_statementBy_261 ?_
    refine lv_iconst (v := 1) hx hb dX8_statementBy_264 (by decide) ?_
    refine lv_isub hx hb dX8_statementBy_265 ?_
    refine lv_topi (fun x290 e291 => ?_)
    obtain rfl : x290 = nI ((at9 + 1) - 1) := e291.trans (nI_subN (a := 1) (b := (at9 + 1)) (by omega))
    have hO : OKP G h0 a (upd (upd (upd (upd F 2 (nI sz)) 9 (nI (at9 + 1))) 10 (nI dp)) 11 (nI sg)) R Z B J (kN K q281 1 0) w := hO.to rfl
    obtain ⟨qr295, hqr296⟩ := p_recv hO (by rw [hf283]; decide) (rep_1 hf283)
    refine pc_I0 (G := G) (As := [.int 34, .int (nI at9), .int (nI ((at9 + 1) - 1))]) (rest := [.ref q281]) hx hb hml hown hq hE hX pX0_al hP hD hS hA hl.1 (N_init l G h0 a (upd (upd (upd (upd F 2 (nI sz)) 9 (nI (at9 + 1))) 10 (nI dp)) 11 (nI sg)) R Z B J (kN K q281 1 0) w q281 34 (nI at9) (nI ((at9 + 1) - 1)) (by omega) hO) pw_874 pw_875 pw_872 pw_765 rfl hS_X7_init rfl (Nat.le_of_ble_eq_true rfl) dX8_statementBy_266 ⟨(by show 1 + 0 ≤ (2 * (sz - at9) + 20); omega), (by show 11 + 0 ≤ (11 * (2 * (sz - at9) + 20)); omega)⟩ ⟨(by show 2 + 1 ≤ (50 * n + 62); omega), (by show 8 + (4 + 11) + 60 ≤ (1500 * n + 1700); omega)⟩ (fun v294 u292 H locs hw293 hP hD hS => ?_)
    obtain ⟨w, _⟩ := u292
    obtain ⟨hw293, hO⟩ := hw293
    obtain rfl : v294 = none := hw293
    have hf297 : (kI (kI (kI (kN K q281 1 0) 0 q281 34) 1 q281 (nI at9)) 2 q281 (nI ((at9 + 1) - 1))).1 q281 = 1 := hf283
    have hO : OKP G h0 a (upd (upd (upd (upd F 2 (nI sz)) 9 (nI (at9 + 1))) 10 (nI dp)) 11 (nI sg)) R Z B J (kI (kI (kI (kN K q281 1 0) 0 q281 34) 1 q281 (nI at9)) 2 q281 (nI ((at9 + 1) - 1))) w := hO.to rfl
    refine W.widen (k := 1) (n := 11) (by show 1 + 0 ≤ 1; omega) (by show 11 + 0 ≤ 11; omega) ?_
    refine W.eq (g2 := F0 m 269 ls [.ref q281]) rfl ?_
    change OKP G h0 a (upd (upd (upd (upd F 2 (nI sz)) 9 (nI (at9 + 1))) 10 (nI dp)) 11 (nI sg)) R Z B J (mkN K q281 34 (nI at9) (nI ((at9 + 1) - 1))) w at hO
    obtain ⟨K298, hK299⟩ : ∃ z : PK, z = (mkN K q281 34 (nI at9) (nI ((at9 + 1) - 1))) := ⟨_, rfl⟩
    rw [← hK299] at hO
    have hf300 : K298.1 q281 = 1 := by rw [hK299]; exact mkN_T
    have hf301 : K298.2.1 0 q281 = 34 := by rw [hK299]; exact mkN_0
    have hf302 : K298.2.1 2 q281 = (nI ((at9 + 1) - 1)) := by rw [hK299]; exact mkN_2
    have hf303 : K298.2.2.1 0 q281 = none := by rw [hK299]; exact mkN_C
    have hf304 : K298.2.2.1 1 q281 = none := by rw [hK299]; exact mkN_C
    have hf305 : K298.2.2.1 2 q281 = none := by rw [hK299]; exact mkN_C
    have hf306 : K298.2.2.1 3 q281 = none := by rw [hK299]; exact mkN_C
    have hf307 : K298.2.2.1 4 q281 = none := by rw [hK299]; exact mkN_C
    have hns308 : NwS K K298 g (gset g q281 0 0 0) := by rw [hK299]; exact NwS.node hns0 hq282
    have hq309 : K.1 q281 = 0 := old_T hns0.2.1 hq282
    have hg310 : (gset g q281 0 0 0) 0 q281 = 0 := gset_0
    have hno311 : NoO K298 (gset g q281 0 0 0) q281 := by rw [hK299]; exact NoO.new hns0.1 hq282
    refine W_size (fun hz1 hz2 => ?_)
    refine vx_ret ?_
    obtain ⟨k9, hkI, hkS, hkE, hkM, hkN⟩ : ∃ z : Nat, Itv z ∧ rS z = at9 ∧ rE z = (at9 + 1) ∧ rM z = (at9 + 1) ∧ rN z = (at9 + 1) := ⟨rk at9 (at9 + 1) (at9 + 1) (at9 + 1), Itv.of (by omega), rS_rk (by omega), rE_rk (by omega), rM_rk (by omega), rN_rk (by omega)⟩
    have hkid : ∀ f9 y9 : Nat, f9 ≤ 3 → K298.2.2.1 f9 q281 = some y9 → K298.1 y9 = 1 ∧ 1 ≤ (gset g q281 0 0 0) 0 y9 ∧ (gset g q281 0 0 0) 0 y9 < (173 + 3 * (20 - dp)) := by
      intro f9 y9 hf9 hy9
      rcases (show f9 = 0 ∨ f9 = 1 ∨ f9 = 2 ∨ f9 = 3 by omega) with rfl | rfl | rfl | rfl
      · rw [hf303] at hy9; cases hy9
      · rw [hf304] at hy9; cases hy9
      · rw [hf305] at hy9; cases hy9
      · rw [hf306] at hy9; cases hy9
    have hdn := NwS.done1I (q := q281) (L := (173 + 3 * (20 - dp))) (O := O) (k := k9) hns308 hq309 hf300 hg310 (by omega) hkI (by rw [hf301]; exact ⟨(fun z => absurd z (by decide)), (fun z => absurd z (by decide)), (fun z => absurd z (by decide)), (fun z => absurd z (by decide)), (fun z => absurd z (by decide))⟩) (fun f9 z => by rw [hf301] at z; rcases z with ⟨z, _⟩ | ⟨z | z | z, _⟩ <;> exact absurd z (by decide)) hkid hf307 hno311 (fun f9 x9 _ _ => Kch.no (by rw [hf301]; decide)) how
    have hz312 : NwR K K298 g (gset (gset g q281 0 0 0) q281 (173 + 3 * (20 - dp)) O k9) q281 O k9 ((173 + 3 * (20 - dp))) := hdn
    have hz313 : at9 + 1 ≤ (at9 + 1) ∧ (at9 + 1) ≤ sz := (by omega)
    have hz314 : sg ≤ sg ∧ sg ≤ 60 := (by omega)
    have hz315 : rS k9 = at9 ∧ rE k9 ≤ (at9 + 1) ∧ rS k9 ≤ rE k9 := (by omega)
    have hO : OKP G h0 a (upd (upd (upd (upd F 2 (nI sz)) 9 (nI (at9 + 1))) 10 (nI dp)) 11 (nI sg)) R Z (updA B 10 (B 10)) J K298 w := hO.to rfl
    refine W.widen (k := (2 * (sz - at9) + 20)) (n := (11 * (2 * (sz - at9) + 20))) (by omega) (by omega) ?_
    have hzz1 : H.size ≤ s.heap.size + ((2 * ((at9 + 1) - at9) - 1)) := (by have z : 1 ≤ (2 * ((at9 + 1) - at9) - 1) := (by omega); omega)
    have hzz2 : hSl H ≤ hSl s.heap + ((11 * (2 * ((at9 + 1) - at9) - 1))) := (by have z : 11 ≤ (11 * (2 * ((at9 + 1) - at9) - 1)) := (by omega); omega)
    exact W.aret (v := .ref q281) hx hb hr (Or.inl ⟨_, rfl⟩) (Or.inr ⟨_, rfl⟩) (fun t99 ht99 hW99 => ⟨⟨_, (w, (q281, K298, (gset (gset g q281 0 0 0) q281 (173 + 3 * (20 - dp)) O k9), (at9 + 1), sg, (B 10), k9)), rfl, ⟨rfl, hz312, hz313, hz314, hz315, hO⟩, by rw [ht99]; exact hP, hD, by rw [ht99]; exact hzz1, by rw [ht99]; exact hzz2⟩, hS.F ht99⟩) hS.2.2 dX8_statementBy_269
  refine lv_tableOut (tgt := 270) hx hb dX8_statementBy_1 (sw_out38 h28 h44 h45 h46 h62 h63 h64 h65 h66 h87 h108 h109 h110 h111 h112 h113 h114 h115 h136 h137 h183 h184 h185 h206 h207 h228 h229 h250 h251 h252 h253 h275 h276 h277 h278 h279 h280) (by decide) ?_
  have hO : OKP G h0 a (upd (upd (upd (upd F 2 (nI sz)) 9 (nI at9)) 10 (nI dp)) 11 (nI sg)) R Z B J K w := hO.to rfl
  exact cut_d _ _ _ _ hP hD hS hO (lv_sub hl [0] rfl)
theorem dX8_statement_0 : decode cX8_statement 0 = .ok (.iload_n 1, 1) := by decide +kernel
theorem dX8_statement_1 : decode cX8_statement 1 = .ok (.ifCond .eq 14, 3) := by decide +kernel
theorem dX8_statement_15 : decode cX8_statement 15 = .ok (.iconst 0, 1) := by decide +kernel
theorem dX8_statement_16 : decode cX8_statement 16 = .ok (.istore_n 2, 1) := by decide +kernel
theorem dX8_statement_17 : decode cX8_statement 17 = .ok (.iload_n 2, 1) := by decide +kernel
theorem dX8_statement_18 : decode cX8_statement 18 = .ok (.ifCond .ne 14, 3) := by decide +kernel
theorem dX8_statement_21 : decode cX8_statement 21 = .ok (.aload_n 0, 1) := by decide +kernel
theorem dX8_statement_22 : decode cX8_statement 22 = .ok (.invokevirtual 177, 3) := by decide +kernel
theorem dX8_statement_25 : decode cX8_statement 25 = .ok (.ifCond .ne 7, 3) := by decide +kernel
theorem dX8_statement_32 : decode cX8_statement 32 = .ok (.aload_n 0, 1) := by decide +kernel
theorem dX8_statement_33 : decode cX8_statement 33 = .ok (.invokevirtual 180, 3) := by decide +kernel
theorem dX8_statement_36 : decode cX8_statement 36 = .ok (.aload_n 0, 1) := by decide +kernel
theorem dX8_statement_37 : decode cX8_statement 37 = .ok (.getfield 24, 3) := by decide +kernel
theorem dX8_statement_40 : decode cX8_statement 40 = .ok (.istore_n 3, 1) := by decide +kernel
theorem dX8_statement_41 : decode cX8_statement 41 = .ok (.aload_n 0, 1) := by decide +kernel
theorem dX8_statement_42 : decode cX8_statement 42 = .ok (.iconst 0, 1) := by decide +kernel
theorem dX8_statement_43 : decode cX8_statement 43 = .ok (.putfield 24, 3) := by decide +kernel
theorem dX8_statement_46 : decode cX8_statement 46 = .ok (.iload_n 2, 1) := by decide +kernel
theorem dX8_statement_47 : decode cX8_statement 47 = .ok (.ifCond .eq 11, 3) := by decide +kernel
theorem dX8_statement_58 : decode cX8_statement 58 = .ok (.aload_n 0, 1) := by decide +kernel
theorem dX8_statement_59 : decode cX8_statement 59 = .ok (.aload_n 0, 1) := by decide +kernel
theorem dX8_statement_60 : decode cX8_statement 60 = .ok (.getfield 7, 3) := by decide +kernel
theorem dX8_statement_63 : decode cX8_statement 63 = .ok (.aload_n 0, 1) := by decide +kernel
theorem dX8_statement_64 : decode cX8_statement 64 = .ok (.getfield 17, 3) := by decide +kernel
theorem dX8_statement_67 : decode cX8_statement 67 = .ok (.invokevirtual 57, 3) := by decide +kernel
theorem dX8_statement_70 : decode cX8_statement 70 = .ok (.invokevirtual 186, 3) := by decide +kernel
theorem dX8_statement_73 : decode cX8_statement 73 = .ok (.astore 4, 2) := by decide +kernel
theorem dX8_statement_75 : decode cX8_statement 75 = .ok (.aload_n 0, 1) := by decide +kernel
theorem dX8_statement_76 : decode cX8_statement 76 = .ok (.iload_n 3, 1) := by decide +kernel
theorem dX8_statement_77 : decode cX8_statement 77 = .ok (.putfield 24, 3) := by decide +kernel
theorem dX8_statement_80 : decode cX8_statement 80 = .ok (.aload_n 0, 1) := by decide +kernel
theorem dX8_statement_81 : decode cX8_statement 81 = .ok (.invokevirtual 190, 3) := by decide +kernel
theorem dX8_statement_84 : decode cX8_statement 84 = .ok (.aload 4, 2) := by decide +kernel
theorem dX8_statement_86 : decode cX8_statement 86 = .ok (.areturn, 1) := by decide +kernel
theorem dX8_statement_28 : decode cX8_statement 28 = .ok (.aload_n 0, 1) := by decide +kernel
theorem dX8_statement_29 : decode cX8_statement 29 = .ok (.invokevirtual 67, 3) := by decide +kernel
theorem dX8_statement_4 : decode cX8_statement 4 = .ok (.aload_n 0, 1) := by decide +kernel
theorem dX8_statement_5 : decode cX8_statement 5 = .ok (.invokevirtual 174, 3) := by decide +kernel
theorem dX8_statement_8 : decode cX8_statement 8 = .ok (.ifCond .eq 7, 3) := by decide +kernel
theorem dX8_statement_11 : decode cX8_statement 11 = .ok (.iconst 1, 1) := by decide +kernel
theorem dX8_statement_12 : decode cX8_statement 12 = .ok (.goto 4, 3) := by decide +kernel
theorem dX8_statement_50 : decode cX8_statement 50 = .ok (.aload_n 0, 1) := by decide +kernel
theorem dX8_statement_51 : decode cX8_statement 51 = .ok (.iconst 1, 1) := by decide +kernel
theorem dX8_statement_52 : decode cX8_statement 52 = .ok (.invokevirtual 183, 3) := by decide +kernel
theorem dX8_statement_55 : decode cX8_statement 55 = .ok (.goto 18, 3) := by decide +kernel
theorem hV_X8_beginsStatement : yX8_beginsStatement.cls = RX8 ∧ yX8_beginsStatement.cls ≠ "java/lang/invoke/MethodHandle" ∧ yX8_beginsStatement.cls ≠ "java/lang/invoke/VarHandle" ∧ (parseMethodDescriptor yX8_beginsStatement.desc).map (fun d => d.parameters.length) = some 0 := by decide +kernel
theorem hV_X8_statementBy : yX8_statementBy.cls = RX8 ∧ yX8_statementBy.cls ≠ "java/lang/invoke/MethodHandle" ∧ yX8_statementBy.cls ≠ "java/lang/invoke/VarHandle" ∧ (parseMethodDescriptor yX8_statementBy.desc).map (fun d => d.parameters.length) = some 1 := by decide +kernel
set_option maxHeartbeats 40000000 in
set_option maxRecDepth 100000 in
theorem P_statement (l : Launch) (G : pT) (h0 : Nat) (a : Nat → Nat) (F : Nat → Int32) (R : Nat → Value) (Z : Int64) (B : Nat → Nat → Int32) (J : Nat → Nat → Int64) (K : PK) (w : va_W) (x : Nat) (n : Nat) (at9 : Nat) (sz : Nat) (dp : Nat) (sg : Nat) (O : Nat) (g : Nat → Nat → Nat) (hsz : sz ≤ 5000) (hat : at9 ≤ sz) (hdp : dp + n = 20) (hsg : sg ≤ 60) (hwn : WN K g) (how : ∀ o : Nat, O = o + 1 → K.1 o = 1 ∧ g 0 o = 0 ∧ ¬ K.2.1 0 o = 32) (hx1x : x ≤ 1) (ist : 1 ≤ n → PSt l G (n - 1)) (hO : OKP G h0 a (upd (upd (upd (upd F 2 (nI sz)) 9 (nI at9)) 10 (nI dp)) 11 (nI sg)) R Z B J K w) (hl0 : l.stackTraces = false) : PBn l G pX0 yX8_statement cX8_statement 5 (some (.object "JinjaTongue$Node")) ({ frames := (50 * n + 50), cells := (2 * (sz - at9) + 20), slots := (11 * (2 * (sz - at9) + 20)), locals := (1500 * n + 1500) }) [.ref (a 3), .int (nI x)] w (fun (v : Option Value) (u : va_W × (Nat × PK × (Nat → Nat → Nat) × Nat × Nat × (Nat → Int32) × Nat)) => v = some (.ref u.2.1) ∧ (NwR K u.2.2.1 g u.2.2.2.1 u.2.1 O u.2.2.2.2.2.2.2 ((170 + 3 * (20 - dp)))) ∧ (at9 + 1 ≤ u.2.2.2.2.1 ∧ u.2.2.2.2.1 ≤ sz) ∧ (sg ≤ u.2.2.2.2.2.1 ∧ u.2.2.2.2.2.1 ≤ 60) ∧ (rS u.2.2.2.2.2.2.2 = at9 ∧ rE u.2.2.2.2.2.2.2 ≤ u.2.2.2.2.1 ∧ rS u.2.2.2.2.2.2.2 ≤ rE u.2.2.2.2.2.2.2) ∧ (OKP G h0 a (upd (upd (upd (upd F 2 (nI sz)) 9 (nI u.2.2.2.2.1)) 10 (nI dp)) 11 (nI u.2.2.2.2.2.1)) R Z (updA B 10 u.2.2.2.2.2.2.1) J u.2.2.1 u.1)) (fun u => u.1) (fun (u : va_W × (Nat × PK × (Nat → Nat → Nat) × Nat × Nat × (Nat → Int32) × Nat)) => (2 * (u.2.2.2.2.1 - at9) - 1)) (fun (u : va_W × (Nat × PK × (Nat → Nat → Nat) × Nat × Nat × (Nat → Int32) × Nat)) => (11 * (2 * (u.2.2.2.2.1 - at9) - 1))) (fun (u : va_W × (Nat → Int32) × (Nat → Value) × (Nat → Nat → Int32)) => ThQ G h0 a (upd (upd (upd (upd F 2 (nI sz)) 9 (nI at9)) 10 (nI dp)) 11 (nI sg)) R Z B J u) (fun u => u.1) := by
  intro sz
  refine vx_ofW (cc := cX8_statement) (maxL := 5) (ret := (some (.object "JinjaTongue$Node"))) (by decide) rfl ?_
  intro p e s m args below meth c s₁ B9 hml hnt hv
  obtain ⟨rfl, hsz, hP, hD0, hE, hX⟩ := hv
  have hx := B9.exec
  have hb := B9.bytes
  have hr := B9.returns
  have hts := atoms_spec (ws := Cond.code yX8_statement cX8_statement 5 (some (.object "JinjaTongue$Node")) :: pw) B9.pre
  have hq : ∀ w ∈ pw, w.before _ s = true := fun w h => hts w (List.mem_cons_of_mem _ h)
  have hown : s.vm.findClass RX8 = some m.cls := findClass_of_methodNamed B9.named
  have hlocks := B9.notSynchronized
  subst hsz
  have hD := hD0.self (sz := s.heap.size)
  have hA : ∀ q : Nat, s.heap.size ≤ q → va_A w s.heap.size q := fun q h => Or.inr h
  generalize va_A w s.heap.size = A at hD hE hA ⊢
  have hS : va_S A s.heap s.heap [] := va_S.rf
  have hl := lv_entry ([.ref (a 3), .int (nI x)]) (n := 5) (Nat.le_of_ble_eq_true rfl)
  rw [lg_entry_eq]
  generalize (lg_sl ([.ref (a 3), .int (nI x)]) ++ List.replicate (5 - (lg_sl ([.ref (a 3), .int (nI x)])).length) Slot.unset).toArray = ls at hl ⊢
  have hl : lv_has ls 5 [(0, .ref (a 3)), (1, .int (nI x))] := hl
  refine lv_iload_n hx hb dX8_statement_0 rfl (lv_at hl 1 rfl) ?_
  refine lv_if_eq (tgt := 15) hx hb dX8_statement_1 (by decide) (fun c1 => ?_) (fun c1 => ?_)
  · have n2 : x = 0 := (nI_eq (a := x) (b := 0) (by omega) (by omega)).mp c1
    refine lv_iconst (v := 0) hx hb dX8_statement_15 (by decide) ?_
    refine lv_istore_n (lv' := [(2, .int 0), (0, .ref (a 3)), (1, .int (nI x))]) hx hb dX8_statement_16 rfl hl (by decide) rfl (fun ls hl => ?_)
    refine lv_iload_n hx hb dX8_statement_17 rfl (lv_at hl 0 rfl) ?_
    refine lv_if_ne (tgt := 32) hx hb dX8_statement_18 (by decide) (fun c3 => absurd c3 (by decide)) (fun c3 => ?_)
    refine lv_aload_n hx hb dX8_statement_21 rfl (lv_at hl 1 rfl) ?_
    have hO : OKW G h0 a (upd (upd (upd (upd (upd (upd F 2 (nI sz)) 9 (nI at9)) 10 (nI dp)) 11 (nI sg)) 2 (nI sz)) 9 (nI at9)) R Z B J K.1 (fun q99 x99 => x99 = rep G a K q99) w := hO.to rfl
    obtain ⟨_, qr7, hqr8⟩ := hO.2.1 23 _ (sg_23 G h0 a _ _ _ _ _)
    refine pc_V0 (G := G) (As := []) (rest := []) hx hb hml hown hq hE hX pX0_al hP hD hS hA hl.1 (P_beginsStatement l G h0 a (upd (upd (upd (upd F 2 (nI sz)) 9 (nI at9)) 10 (nI dp)) 11 (nI sg)) R Z B J K.1 (fun q99 x99 => x99 = rep G a K q99) w at9 sz (by omega) (by omega) hO) (gV pw_1026 pw_1027 pw_1028 pw_796 pw_997) hV_X8_beginsStatement qr7 5 hqr8 rfl rfl rfl (Nat.le_of_ble_eq_true rfl) dX8_statement_22 ⟨(by show 0 + 0 ≤ (2 * (sz - at9) + 20); omega), (by show 0 + 0 ≤ (11 * (2 * (sz - at9) + 20)); omega)⟩ ⟨(by show 4 + 1 ≤ (50 * n + 50); omega), (by show 8 + (1 + 11) + 101 ≤ (1500 * n + 1500); omega)⟩ (fun v6 u4 H locs hw5 hP hD hS => ?_)
    obtain ⟨w, r9⟩ := u4
    obtain ⟨hw5, h10, hO⟩ := hw5
    have h10 : r9 ≤ 1 := h10
    obtain rfl : v6 = some (.int (nI r9)) := hw5
    have hO : OKP G h0 a (upd (upd (upd (upd F 2 (nI sz)) 9 (nI at9)) 10 (nI dp)) 11 (nI sg)) R Z B J K w := hO.to rfl
    refine W.widen (k := 0) (n := 0) (Nat.le_of_ble_eq_true rfl) (Nat.le_of_ble_eq_true rfl) ?_
    refine W.eq (g2 := F0 m 25 ls [.int (nI r9)]) rfl ?_
    refine lv_if_ne (tgt := 32) hx hb dX8_statement_25 (by decide) (fun c11 => ?_) (fun c11 => ?_)
    · have n12 : ¬ (r9 = 0) := fun h9 => c11 ((nI_eq (a := r9) (b := 0) (by omega) (by omega)).mpr h9)
      refine lv_aload_n hx hb dX8_statement_32 rfl (lv_at hl 1 rfl) ?_
      have hO : OKW G h0 a (upd (upd (upd (upd (upd (upd (upd F 2 (nI sz)) 9 (nI at9)) 10 (nI dp)) 11 (nI sg)) 2 (nI sz)) 9 (nI at9)) 10 (nI dp)) R Z B J K.1 (fun q99 x99 => x99 = rep G a K q99) w := hO.to rfl
      obtain ⟨_, qr16, hqr17⟩ := hO.2.1 23 _ (sg_23 G h0 a _ _ _ _ _)
      refine pn_V0 (G := G) (As := []) (rest := []) hx hb hml hown hq hE hX pX0_al hP hD hS hA hl.1 (P_enter l G h0 a (upd (upd (upd (upd F 2 (nI sz)) 9 (nI at9)) 10 (nI dp)) 11 (nI sg)) R Z B J K.1 (fun q99 x99 => x99 = rep G a K q99) w dp at9 sz (by omega) (by omega) (by omega) hO hl0) (gV pw_947 pw_948 pw_949 pw_796 pw_905) hV_X8_enter qr16 5 hqr17 rfl rfl rfl (Nat.le_of_ble_eq_true rfl) dX8_statement_33 ⟨(by show 0 + 1 ≤ (2 * (sz - at9) + 20); omega), (by show 0 + 6 ≤ (11 * (2 * (sz - at9) + 20)); omega)⟩ ⟨(by show 7 + 1 ≤ (50 * n + 50); omega), (by show 8 + (1 + 11) + 122 ≤ (1500 * n + 1500); omega)⟩ (fun v15 u13 H locs hw14 hP hD hS => ?_) (fun ux ce9 q9 H9 locs9 hux hP9 hD9 hS9 hce hcv hcl => pb_out ux (ThQ.up (Thx.same (Thx.same (Thx.same Thx.rfl rfl) rfl) rfl) RhX.rfl hux) hnt hlocks hce hcv hcl hP9 hD9 hS9 (by show 0 + 1 ≤ (2 * (sz - at9) + 20); omega) (by show 0 + 6 ≤ (11 * (2 * (sz - at9) + 20)); omega))
      obtain ⟨w, _⟩ := u13
      obtain ⟨hw14, h18, hO⟩ := hw14
      have h18 : dp + 1 ≤ 20 := h18
      obtain rfl : v15 = none := hw14
      have hO : OKP G h0 a (upd (upd (upd (upd F 2 (nI sz)) 9 (nI at9)) 10 (nI (dp + 1))) 11 (nI sg)) R Z B J K w := hO.to rfl
      refine W.widen (k := 0) (n := 0) (by show 0 + 0 ≤ 0; omega) (by show 0 + 0 ≤ 0; omega) ?_
      refine W.eq (g2 := F0 m 36 ls []) rfl ?_
      refine lv_aload_n hx hb dX8_statement_36 rfl (lv_at hl 1 rfl) ?_
      refine c_get (v := .int (nI sg)) (C := RX8) (Tc := TX8) (N := 5) (ci := 5) hx hb hq pin_wsX80 hown hE hP hO 23 (sg_23 G h0 a _ _ _ _ _) rfl 4 (by decide) (hq _ pw_904) (fun _ h9 => h9) rfl dX8_statement_37 ?_
      refine lv_istore_n (lv' := [(3, .int (nI sg)), (2, .int 0), (0, .ref (a 3)), (1, .int (nI x))]) hx hb dX8_statement_40 rfl hl (by decide) rfl (fun ls hl => ?_)
      refine lv_aload_n hx hb dX8_statement_41 rfl (lv_at hl 2 rfl) ?_
      refine lv_iconst (v := 0) hx hb dX8_statement_42 (by decide) ?_
      refine c_put (v := .int 0) (ty := .int) (C := RX8) (Tc := TX8) (N := 5) (ci := 5) hx hb hq pin_wsX80 tyX8 tyX8_ok nmX8 hown hE hP hD hS hO 23 (sg_23 G h0 a _ _ _ _ _) rfl 4 (by decide) (hq _ pw_904) (fun _ h9 => h9) rfl (by decide +kernel) rfl rfl (Nat.le_of_ble_eq_true rfl) (sf_11 G h0 a _ _ _ _ _ 0) dX8_statement_43 (fun H locs w hP hD hS hO => ?_)
      refine lv_iload_n hx hb dX8_statement_46 rfl (lv_at hl 1 rfl) ?_
      refine lv_if_eq (tgt := 58) hx hb dX8_statement_47 (by decide) (fun c19 => ?_) (fun c19 => absurd c19 (by decide))
      refine lv_aload_n hx hb dX8_statement_58 rfl (lv_at hl 2 rfl) ?_
      refine lv_aload_n hx hb dX8_statement_59 rfl (lv_at hl 2 rfl) ?_
      refine c_get (v := .ref (a 1)) (C := RX8) (Tc := TX8) (N := 5) (ci := 5) hx hb hq pin_wsX80 hown hE hP hO 23 (sg_23 G h0 a _ _ _ _ _) rfl 0 (by decide) (hq _ pw_774) (fun _ h9 => h9) rfl dX8_statement_60 ?_
      refine lv_aload_n hx hb dX8_statement_63 rfl (lv_at hl 2 rfl) ?_
      refine c_get (v := .int (nI at9)) (C := RX8) (Tc := TX8) (N := 5) (ci := 5) hx hb hq pin_wsX80 hown hE hP hO 23 (sg_23 G h0 a _ _ _ _ _) rfl 2 (by decide) (hq _ pw_776) (fun _ h9 => h9) rfl dX8_statement_64 ?_
      have hO : OKW G h0 a (upd (upd (upd (upd (upd F 2 (nI sz)) 9 (nI at9)) 10 (nI (dp + 1))) 11 0) 2 (nI sz)) R Z B J K.1 (fun q99 x99 => x99 = rep G a K q99) w := hO.to rfl
      obtain ⟨_, qr23, hqr24⟩ := hO.2.1 2 _ (sg_2 G h0 a _ _ _ _ _)
      refine pc_V0 (G := G) (As := [.int (nI at9)]) (rest := [.ref (a 3)]) hx hb hml hown hq hE hX pX0_al hP hD hS hA hl.1 (K_kindAt l G h0 a (upd (upd (upd (upd F 2 (nI sz)) 9 (nI at9)) 10 (nI (dp + 1))) 11 0) R Z B J K.1 (fun q99 x99 => x99 = rep G a K q99) w (nI at9) sz (by omega) hO) (gV pw_777 pw_193 pw_194 pw_59 pw_126) hV_X10_kindAt qr23 7 hqr24 rfl rfl rfl (Nat.le_of_ble_eq_true rfl) dX8_statement_67 ⟨(by show 0 + 0 ≤ (2 * (sz - at9) + 20); omega), (by show 0 + 0 ≤ (11 * (2 * (sz - at9) + 20)); omega)⟩ ⟨(by show 2 + 1 ≤ (50 * n + 50); omega), (by show 8 + (2 + 11) + 60 ≤ (1500 * n + 1500); omega)⟩ (fun v22 u20 H locs hw21 hP hD hS => ?_)
      obtain ⟨w, r25⟩ := u20
      obtain ⟨hw21, h26, hO⟩ := hw21
      have h26 : r25 = 67 ∨ ∃ t : Nat, (nI at9) = nI t ∧ t < sz := h26
      obtain rfl : v22 = some (.int r25) := hw21
      have hO : OKP G h0 a (upd (upd (upd (upd F 2 (nI sz)) 9 (nI at9)) 10 (nI (dp + 1))) 11 0) R Z B J K w := hO.to rfl
      refine W.widen (k := 0) (n := 0) (Nat.le_of_ble_eq_true rfl) (Nat.le_of_ble_eq_true rfl) ?_
      refine W.eq (g2 := F0 m 70 ls [.int r25, .ref (a 3)]) rfl ?_
      have hO : OKP G h0 a (upd (upd (upd (upd (upd (upd (upd (upd (upd (upd F 2 (nI sz)) 9 (nI at9)) 10 (nI dp)) 11 (nI sg)) 10 (nI (dp + 1))) 11 0) 2 (nI sz)) 9 (nI at9)) 10 (nI (dp + 1))) 11 (nI 0)) R Z B J K w := hO.to rfl
      obtain ⟨_, qr30, hqr31⟩ := hO.2.1 23 _ (sg_23 G h0 a _ _ _ _ _)
      refine pn_V0 (G := G) (As := [.int r25]) (rest := []) hx hb hml hown hq hE hX pX0_al hP hD hS hA hl.1 (P_statementBy l G h0 a (upd (upd (upd (upd (upd (upd F 2 (nI sz)) 9 (nI at9)) 10 (nI dp)) 11 (nI sg)) 10 (nI (dp + 1))) 11 0) R Z B J K w r25 (n - 1) at9 sz (dp + 1) 0 O g (by omega) (by omega) (by omega) (by omega) hwn how (ist (by omega)) h26 hO hl0) (gV pw_1029 pw_1030 pw_1031 pw_796 pw_1032) hV_X8_statementBy qr30 5 hqr31 rfl rfl rfl (Nat.le_of_ble_eq_true rfl) dX8_statement_70 ⟨(by show 0 + (2 * (sz - at9) + 20) ≤ (2 * (sz - at9) + 20); omega), (by show 0 + (11 * (2 * (sz - at9) + 20)) ≤ (11 * (2 * (sz - at9) + 20)); omega)⟩ ⟨(by show (50 * (n - 1) + 62) + 1 ≤ (50 * n + 50); omega), (by show 8 + (3 + 11) + (1500 * (n - 1) + 1700) ≤ (1500 * n + 1500); omega)⟩ (fun v29 u27 H locs hw28 hP hD hS => ?_) (fun ux ce9 q9 H9 locs9 hux hP9 hD9 hS9 hce hcv hcl => pb_out ux (ThQ.up (Thx.same (Thx.same (Thx.same (Thx.same (Thx.f (Thx.f Thx.rfl (by omega)) (by omega)) rfl) rfl) rfl) rfl) RhX.rfl hux) hnt hlocks hce hcv hcl hP9 hD9 hS9 (by show 0 + (2 * (sz - at9) + 20) ≤ (2 * (sz - at9) + 20); omega) (by show 0 + (11 * (2 * (sz - at9) + 20)) ≤ (11 * (2 * (sz - at9) + 20)); omega))
      obtain ⟨w, r32, K33, g34, at35, sg36, f37, k38⟩ := u27
      obtain ⟨hw28, h39, h40, h41, h42, hO⟩ := hw28
      have h39 : NwR K K33 g g34 r32 O k38 ((173 + 3 * (20 - (dp + 1)))) := h39
      have h40 : at9 + 1 ≤ at35 ∧ at35 ≤ sz := h40
      have h41 : 0 ≤ sg36 ∧ sg36 ≤ 60 := h41
      have h42 : rS k38 = at9 ∧ rE k38 ≤ at35 ∧ rS k38 ≤ rE k38 := h42
      obtain rfl : v29 = some (.ref r32) := hw28
      have hO : OKP G h0 a (upd (upd (upd (upd F 2 (nI sz)) 9 (nI at35)) 10 (nI (dp + 1))) 11 (nI sg36)) R Z (updA B 10 f37) J K33 w := hO.to rfl
      refine W.widen (k := (2 * (at35 - at9) - 1)) (n := (11 * (2 * (at35 - at9) - 1))) (by show 0 + (2 * (at35 - at9) - 1) ≤ (2 * (at35 - at9) - 1); omega) (by show 0 + (11 * (2 * (at35 - at9) - 1)) ≤ (11 * (2 * (at35 - at9) - 1)); omega) ?_
      refine W.eq (g2 := F0 m 73 ls [.ref r32]) rfl ?_
      refine lv_astore (lv' := [(4, .ref r32), (3, .int (nI sg)), (2, .int 0), (0, .ref (a 3)), (1, .int (nI x))]) hx hb dX8_statement_73 hl (by decide) rfl (fun ls hl => ?_)
      refine lv_aload_n hx hb dX8_statement_75 rfl (lv_at hl 3 rfl) ?_
      refine lv_iload_n hx hb dX8_statement_76 rfl (lv_at hl 1 rfl) ?_
      refine c_put (v := .int (nI sg)) (ty := .int) (C := RX8) (Tc := TX8) (N := 5) (ci := 5) hx hb hq pin_wsX80 tyX8 tyX8_ok nmX8 hown hE hP hD hS hO 23 (sg_23 G h0 a _ _ _ _ _) rfl 4 (by decide) (hq _ pw_904) (fun _ h9 => h9) rfl (by decide +kernel) rfl rfl (Nat.le_of_ble_eq_true rfl) (sf_11 G h0 a _ _ _ _ _ (nI sg)) dX8_statement_77 (fun H locs w hP hD hS hO => ?_)
      refine lv_aload_n hx hb dX8_statement_80 rfl (lv_at hl 3 rfl) ?_
      have hO : OKW G h0 a (upd (upd (upd (upd (upd F 2 (nI sz)) 9 (nI at35)) 10 (nI (dp + 1))) 11 (nI sg)) 10 (nI (dp + 1))) R Z (updA B 10 f37) J K33.1 (fun q99 x99 => x99 = rep G a K33 q99) w := hO.to rfl
      obtain ⟨_, qr46, hqr47⟩ := hO.2.1 23 _ (sg_23 G h0 a _ _ _ _ _)
      refine pc_V0 (G := G) (As := []) (rest := []) hx hb hml hown hq hE hX pX0_al hP hD hS hA hl.1 (P_leave l G h0 a (upd (upd (upd (upd F 2 (nI sz)) 9 (nI at35)) 10 (nI (dp + 1))) 11 (nI sg)) R Z (updA B 10 f37) J K33.1 (fun q99 x99 => x99 = rep G a K33 q99) w (dp + 1) (by omega) hO) (gV pw_950 pw_951 pw_952 pw_796 pw_906) hV_X8_leave qr46 5 hqr47 rfl rfl rfl (Nat.le_of_ble_eq_true rfl) dX8_statement_81 ⟨(by show (2 * (at35 - at9) - 1) + 0 ≤ (2 * (sz - at9) + 20); omega), (by show (11 * (2 * (at35 - at9) - 1)) + 0 ≤ (11 * (2 * (sz - at9) + 20)); omega)⟩ ⟨(by show 2 + 1 ≤ (50 * n + 50); omega), (by show 8 + (1 + 11) + 60 ≤ (1500 * n + 1500); omega)⟩ (fun v45 u43 H locs hw44 hP hD hS => ?_)
      obtain ⟨w, _⟩ := u43
      obtain ⟨hw44, hO⟩ := hw44
      obtain rfl : v45 = none := hw44
      have hO : OKP G h0 a (upd (upd (upd (upd F 2 (nI sz)) 9 (nI at35)) 10 (nI ((dp + 1) - 1))) 11 (nI sg)) R Z (updA B 10 f37) J K33 w := hO.to rfl
      refine W.widen (k := (2 * (at35 - at9) - 1)) (n := (11 * (2 * (at35 - at9) - 1))) (by show (2 * (at35 - at9) - 1) + 0 ≤ (2 * (at35 - at9) - 1); omega) (by show (11 * (2 * (at35 - at9) - 1)) + 0 ≤ (11 * (2 * (at35 - at9) - 1)); omega) ?_
      refine W.eq (g2 := F0 m 84 ls []) rfl ?_
      refine lv_aload hx hb dX8_statement_84 (lv_at hl 0 rfl) ?_
      refine W_size (fun hz1 hz2 => ?_)
      refine vx_ret ?_
      have hz48 : NwR K K33 g g34 r32 O k38 ((170 + 3 * (20 - dp))) := (NwR.up h39 (by omega))
      have hz49 : at9 + 1 ≤ at35 ∧ at35 ≤ sz := (by omega)
      have hz50 : sg ≤ sg ∧ sg ≤ 60 := (by omega)
      have hz51 : rS k38 = at9 ∧ rE k38 ≤ at35 ∧ rS k38 ≤ rE k38 := (by omega)
      have hO : OKP G h0 a (upd (upd (upd (upd F 2 (nI sz)) 9 (nI at35)) 10 (nI dp)) 11 (nI sg)) R Z (updA B 10 f37) J K33 w := hO.to rfl
      refine W.widen (k := (2 * (sz - at9) + 20)) (n := (11 * (2 * (sz - at9) + 20))) (by omega) (by omega) ?_
      have hzz1 : H.size ≤ s.heap.size + ((2 * (at35 - at9) - 1)) := (by have z : (2 * (at35 - at9) - 1) ≤ (2 * (at35 - at9) - 1) := (by omega); omega)
      have hzz2 : hSl H ≤ hSl s.heap + ((11 * (2 * (at35 - at9) - 1))) := (by have z : (11 * (2 * (at35 - at9) - 1)) ≤ (11 * (2 * (at35 - at9) - 1)) := (by omega); omega)
      exact W.aret (v := .ref r32) hx hb hr (Or.inl ⟨_, rfl⟩) (Or.inr ⟨_, rfl⟩) (fun t99 ht99 hW99 => ⟨⟨_, (w, (r32, K33, g34, at35, sg, f37, k38)), rfl, ⟨rfl, hz48, hz49, hz50, hz51, hO⟩, by rw [ht99]; exact hP, hD, by rw [ht99]; exact hzz1, by rw [ht99]; exact hzz2⟩, hS.F ht99⟩) hS.2.2 dX8_statement_86
    · have n52 : r9 = 0 := (nI_eq (a := r9) (b := 0) (by omega) (by omega)).mp c11
      refine lv_aload_n hx hb dX8_statement_28 rfl (lv_at hl 1 rfl) ?_
      have hO : OKW G h0 a (upd (upd (upd (upd (upd (upd F 2 (nI sz)) 9 (nI at9)) 10 (nI dp)) 11 (nI sg)) 2 (nI sz)) 9 (nI at9)) R Z B J K.1 (fun q99 x99 => x99 = rep G a K q99) w := hO.to rfl
      obtain ⟨_, qr56, hqr57⟩ := hO.2.1 23 _ (sg_23 G h0 a _ _ _ _ _)
      refine pn_V0 (G := G) (As := []) (rest := []) hx hb hml hown hq hE hX pX0_al hP hD hS hA hl.1 (P_refuse l G h0 a (upd (upd (upd (upd F 2 (nI sz)) 9 (nI at9)) 10 (nI dp)) 11 (nI sg)) R Z B J K.1 (fun q99 x99 => x99 = rep G a K q99) w at9 sz (by omega) (by omega) hO hl0) (gV pw_806 pw_807 pw_808 pw_796 pw_778) hV_X8_refuse qr56 5 hqr57 rfl rfl rfl (Nat.le_of_ble_eq_true rfl) dX8_statement_29 ⟨(by show 0 + 1 ≤ (2 * (sz - at9) + 20); omega), (by show 0 + 6 ≤ (11 * (2 * (sz - at9) + 20)); omega)⟩ ⟨(by show 7 + 1 ≤ (50 * n + 50); omega), (by show 8 + (1 + 11) + 122 ≤ (1500 * n + 1500); omega)⟩ (fun v55 u53 H locs hw54 hP hD hS => hw54.elim) (fun ux ce9 q9 H9 locs9 hux hP9 hD9 hS9 hce hcv hcl => pb_out ux (ThQ.up (Thx.same (Thx.same Thx.rfl rfl) rfl) RhX.rfl hux) hnt hlocks hce hcv hcl hP9 hD9 hS9 (by show 0 + 1 ≤ (2 * (sz - at9) + 20); omega) (by show 0 + 6 ≤ (11 * (2 * (sz - at9) + 20)); omega))
  · have n58 : ¬ (x = 0) := fun h9 => c1 ((nI_eq (a := x) (b := 0) (by omega) (by omega)).mpr h9)
    refine lv_aload_n hx hb dX8_statement_4 rfl (lv_at hl 0 rfl) ?_
    have hO : OKW G h0 a (upd (upd (upd (upd (upd (upd F 2 (nI sz)) 9 (nI at9)) 10 (nI dp)) 11 (nI sg)) 2 (nI sz)) 9 (nI at9)) R Z B J K.1 (fun q99 x99 => x99 = rep G a K q99) w := hO.to rfl
    obtain ⟨_, qr62, hqr63⟩ := hO.2.1 23 _ (sg_23 G h0 a _ _ _ _ _)
    refine pc_V0 (G := G) (As := []) (rest := []) hx hb hml hown hq hE hX pX0_al hP hD hS hA hl.1 (P_beginsLocal l G h0 a (upd (upd (upd (upd F 2 (nI sz)) 9 (nI at9)) 10 (nI dp)) 11 (nI sg)) R Z B J K.1 (fun q99 x99 => x99 = rep G a K q99) w at9 sz (by omega) (by omega) hO) (gV pw_1012 pw_1013 pw_1014 pw_796 pw_899) hV_X8_beginsLocal qr62 5 hqr63 rfl rfl rfl (Nat.le_of_ble_eq_true rfl) dX8_statement_5 ⟨(by show 0 + 0 ≤ (2 * (sz - at9) + 20); omega), (by show 0 + 0 ≤ (11 * (2 * (sz - at9) + 20)); omega)⟩ ⟨(by show 4 + 1 ≤ (50 * n + 50); omega), (by show 8 + (2 + 11) + 102 ≤ (1500 * n + 1500); omega)⟩ (fun v61 u59 H locs hw60 hP hD hS => ?_)
    obtain ⟨w, r64⟩ := u59
    obtain ⟨hw60, h65, hO⟩ := hw60
    have h65 : r64 ≤ 1 := h65
    obtain rfl : v61 = some (.int (nI r64)) := hw60
    have hO : OKP G h0 a (upd (upd (upd (upd F 2 (nI sz)) 9 (nI at9)) 10 (nI dp)) 11 (nI sg)) R Z B J K w := hO.to rfl
    refine W.widen (k := 0) (n := 0) (Nat.le_of_ble_eq_true rfl) (Nat.le_of_ble_eq_true rfl) ?_
    refine W.eq (g2 := F0 m 8 ls [.int (nI r64)]) rfl ?_
    refine lv_if_eq (tgt := 15) hx hb dX8_statement_8 (by decide) (fun c66 => ?_) (fun c66 => ?_)
    · have n67 : r64 = 0 := (nI_eq (a := r64) (b := 0) (by omega) (by omega)).mp c66
      refine lv_iconst (v := 0) hx hb dX8_statement_15 (by decide) ?_
      refine lv_istore_n (lv' := [(2, .int 0), (0, .ref (a 3)), (1, .int (nI x))]) hx hb dX8_statement_16 rfl hl (by decide) rfl (fun ls hl => ?_)
      refine lv_iload_n hx hb dX8_statement_17 rfl (lv_at hl 0 rfl) ?_
      refine lv_if_ne (tgt := 32) hx hb dX8_statement_18 (by decide) (fun c68 => absurd c68 (by decide)) (fun c68 => ?_)
      refine lv_aload_n hx hb dX8_statement_21 rfl (lv_at hl 1 rfl) ?_
      have hO : OKW G h0 a (upd (upd (upd (upd (upd (upd F 2 (nI sz)) 9 (nI at9)) 10 (nI dp)) 11 (nI sg)) 2 (nI sz)) 9 (nI at9)) R Z B J K.1 (fun q99 x99 => x99 = rep G a K q99) w := hO.to rfl
      obtain ⟨_, qr72, hqr73⟩ := hO.2.1 23 _ (sg_23 G h0 a _ _ _ _ _)
      refine pc_V0 (G := G) (As := []) (rest := []) hx hb hml hown hq hE hX pX0_al hP hD hS hA hl.1 (P_beginsStatement l G h0 a (upd (upd (upd (upd F 2 (nI sz)) 9 (nI at9)) 10 (nI dp)) 11 (nI sg)) R Z B J K.1 (fun q99 x99 => x99 = rep G a K q99) w at9 sz (by omega) (by omega) hO) (gV pw_1026 pw_1027 pw_1028 pw_796 pw_997) hV_X8_beginsStatement qr72 5 hqr73 rfl rfl rfl (Nat.le_of_ble_eq_true rfl) dX8_statement_22 ⟨(by show 0 + 0 ≤ (2 * (sz - at9) + 20); omega), (by show 0 + 0 ≤ (11 * (2 * (sz - at9) + 20)); omega)⟩ ⟨(by show 4 + 1 ≤ (50 * n + 50); omega), (by show 8 + (1 + 11) + 101 ≤ (1500 * n + 1500); omega)⟩ (fun v71 u69 H locs hw70 hP hD hS => ?_)
      obtain ⟨w, r74⟩ := u69
      obtain ⟨hw70, h75, hO⟩ := hw70
      have h75 : r74 ≤ 1 := h75
      obtain rfl : v71 = some (.int (nI r74)) := hw70
      have hO : OKP G h0 a (upd (upd (upd (upd F 2 (nI sz)) 9 (nI at9)) 10 (nI dp)) 11 (nI sg)) R Z B J K w := hO.to rfl
      refine W.widen (k := 0) (n := 0) (Nat.le_of_ble_eq_true rfl) (Nat.le_of_ble_eq_true rfl) ?_
      refine W.eq (g2 := F0 m 25 ls [.int (nI r74)]) rfl ?_
      refine lv_if_ne (tgt := 32) hx hb dX8_statement_25 (by decide) (fun c76 => ?_) (fun c76 => ?_)
      · have n77 : ¬ (r74 = 0) := fun h9 => c76 ((nI_eq (a := r74) (b := 0) (by omega) (by omega)).mpr h9)
        refine lv_aload_n hx hb dX8_statement_32 rfl (lv_at hl 1 rfl) ?_
        have hO : OKW G h0 a (upd (upd (upd (upd (upd (upd (upd F 2 (nI sz)) 9 (nI at9)) 10 (nI dp)) 11 (nI sg)) 2 (nI sz)) 9 (nI at9)) 10 (nI dp)) R Z B J K.1 (fun q99 x99 => x99 = rep G a K q99) w := hO.to rfl
        obtain ⟨_, qr81, hqr82⟩ := hO.2.1 23 _ (sg_23 G h0 a _ _ _ _ _)
        refine pn_V0 (G := G) (As := []) (rest := []) hx hb hml hown hq hE hX pX0_al hP hD hS hA hl.1 (P_enter l G h0 a (upd (upd (upd (upd F 2 (nI sz)) 9 (nI at9)) 10 (nI dp)) 11 (nI sg)) R Z B J K.1 (fun q99 x99 => x99 = rep G a K q99) w dp at9 sz (by omega) (by omega) (by omega) hO hl0) (gV pw_947 pw_948 pw_949 pw_796 pw_905) hV_X8_enter qr81 5 hqr82 rfl rfl rfl (Nat.le_of_ble_eq_true rfl) dX8_statement_33 ⟨(by show 0 + 1 ≤ (2 * (sz - at9) + 20); omega), (by show 0 + 6 ≤ (11 * (2 * (sz - at9) + 20)); omega)⟩ ⟨(by show 7 + 1 ≤ (50 * n + 50); omega), (by show 8 + (1 + 11) + 122 ≤ (1500 * n + 1500); omega)⟩ (fun v80 u78 H locs hw79 hP hD hS => ?_) (fun ux ce9 q9 H9 locs9 hux hP9 hD9 hS9 hce hcv hcl => pb_out ux (ThQ.up (Thx.same (Thx.same (Thx.same Thx.rfl rfl) rfl) rfl) RhX.rfl hux) hnt hlocks hce hcv hcl hP9 hD9 hS9 (by show 0 + 1 ≤ (2 * (sz - at9) + 20); omega) (by show 0 + 6 ≤ (11 * (2 * (sz - at9) + 20)); omega))
        obtain ⟨w, _⟩ := u78
        obtain ⟨hw79, h83, hO⟩ := hw79
        have h83 : dp + 1 ≤ 20 := h83
        obtain rfl : v80 = none := hw79
        have hO : OKP G h0 a (upd (upd (upd (upd F 2 (nI sz)) 9 (nI at9)) 10 (nI (dp + 1))) 11 (nI sg)) R Z B J K w := hO.to rfl
        refine W.widen (k := 0) (n := 0) (by show 0 + 0 ≤ 0; omega) (by show 0 + 0 ≤ 0; omega) ?_
        refine W.eq (g2 := F0 m 36 ls []) rfl ?_
        refine lv_aload_n hx hb dX8_statement_36 rfl (lv_at hl 1 rfl) ?_
        refine c_get (v := .int (nI sg)) (C := RX8) (Tc := TX8) (N := 5) (ci := 5) hx hb hq pin_wsX80 hown hE hP hO 23 (sg_23 G h0 a _ _ _ _ _) rfl 4 (by decide) (hq _ pw_904) (fun _ h9 => h9) rfl dX8_statement_37 ?_
        refine lv_istore_n (lv' := [(3, .int (nI sg)), (2, .int 0), (0, .ref (a 3)), (1, .int (nI x))]) hx hb dX8_statement_40 rfl hl (by decide) rfl (fun ls hl => ?_)
        refine lv_aload_n hx hb dX8_statement_41 rfl (lv_at hl 2 rfl) ?_
        refine lv_iconst (v := 0) hx hb dX8_statement_42 (by decide) ?_
        refine c_put (v := .int 0) (ty := .int) (C := RX8) (Tc := TX8) (N := 5) (ci := 5) hx hb hq pin_wsX80 tyX8 tyX8_ok nmX8 hown hE hP hD hS hO 23 (sg_23 G h0 a _ _ _ _ _) rfl 4 (by decide) (hq _ pw_904) (fun _ h9 => h9) rfl (by decide +kernel) rfl rfl (Nat.le_of_ble_eq_true rfl) (sf_11 G h0 a _ _ _ _ _ 0) dX8_statement_43 (fun H locs w hP hD hS hO => ?_)
        refine lv_iload_n hx hb dX8_statement_46 rfl (lv_at hl 1 rfl) ?_
        refine lv_if_eq (tgt := 58) hx hb dX8_statement_47 (by decide) (fun c84 => ?_) (fun c84 => absurd c84 (by decide))
        refine lv_aload_n hx hb dX8_statement_58 rfl (lv_at hl 2 rfl) ?_
        refine lv_aload_n hx hb dX8_statement_59 rfl (lv_at hl 2 rfl) ?_
        refine c_get (v := .ref (a 1)) (C := RX8) (Tc := TX8) (N := 5) (ci := 5) hx hb hq pin_wsX80 hown hE hP hO 23 (sg_23 G h0 a _ _ _ _ _) rfl 0 (by decide) (hq _ pw_774) (fun _ h9 => h9) rfl dX8_statement_60 ?_
        refine lv_aload_n hx hb dX8_statement_63 rfl (lv_at hl 2 rfl) ?_
        refine c_get (v := .int (nI at9)) (C := RX8) (Tc := TX8) (N := 5) (ci := 5) hx hb hq pin_wsX80 hown hE hP hO 23 (sg_23 G h0 a _ _ _ _ _) rfl 2 (by decide) (hq _ pw_776) (fun _ h9 => h9) rfl dX8_statement_64 ?_
        have hO : OKW G h0 a (upd (upd (upd (upd (upd F 2 (nI sz)) 9 (nI at9)) 10 (nI (dp + 1))) 11 0) 2 (nI sz)) R Z B J K.1 (fun q99 x99 => x99 = rep G a K q99) w := hO.to rfl
        obtain ⟨_, qr88, hqr89⟩ := hO.2.1 2 _ (sg_2 G h0 a _ _ _ _ _)
        refine pc_V0 (G := G) (As := [.int (nI at9)]) (rest := [.ref (a 3)]) hx hb hml hown hq hE hX pX0_al hP hD hS hA hl.1 (K_kindAt l G h0 a (upd (upd (upd (upd F 2 (nI sz)) 9 (nI at9)) 10 (nI (dp + 1))) 11 0) R Z B J K.1 (fun q99 x99 => x99 = rep G a K q99) w (nI at9) sz (by omega) hO) (gV pw_777 pw_193 pw_194 pw_59 pw_126) hV_X10_kindAt qr88 7 hqr89 rfl rfl rfl (Nat.le_of_ble_eq_true rfl) dX8_statement_67 ⟨(by show 0 + 0 ≤ (2 * (sz - at9) + 20); omega), (by show 0 + 0 ≤ (11 * (2 * (sz - at9) + 20)); omega)⟩ ⟨(by show 2 + 1 ≤ (50 * n + 50); omega), (by show 8 + (2 + 11) + 60 ≤ (1500 * n + 1500); omega)⟩ (fun v87 u85 H locs hw86 hP hD hS => ?_)
        obtain ⟨w, r90⟩ := u85
        obtain ⟨hw86, h91, hO⟩ := hw86
        have h91 : r90 = 67 ∨ ∃ t : Nat, (nI at9) = nI t ∧ t < sz := h91
        obtain rfl : v87 = some (.int r90) := hw86
        have hO : OKP G h0 a (upd (upd (upd (upd F 2 (nI sz)) 9 (nI at9)) 10 (nI (dp + 1))) 11 0) R Z B J K w := hO.to rfl
        refine W.widen (k := 0) (n := 0) (Nat.le_of_ble_eq_true rfl) (Nat.le_of_ble_eq_true rfl) ?_
        refine W.eq (g2 := F0 m 70 ls [.int r90, .ref (a 3)]) rfl ?_
        have hO : OKP G h0 a (upd (upd (upd (upd (upd (upd (upd (upd (upd (upd F 2 (nI sz)) 9 (nI at9)) 10 (nI dp)) 11 (nI sg)) 10 (nI (dp + 1))) 11 0) 2 (nI sz)) 9 (nI at9)) 10 (nI (dp + 1))) 11 (nI 0)) R Z B J K w := hO.to rfl
        obtain ⟨_, qr95, hqr96⟩ := hO.2.1 23 _ (sg_23 G h0 a _ _ _ _ _)
        refine pn_V0 (G := G) (As := [.int r90]) (rest := []) hx hb hml hown hq hE hX pX0_al hP hD hS hA hl.1 (P_statementBy l G h0 a (upd (upd (upd (upd (upd (upd F 2 (nI sz)) 9 (nI at9)) 10 (nI dp)) 11 (nI sg)) 10 (nI (dp + 1))) 11 0) R Z B J K w r90 (n - 1) at9 sz (dp + 1) 0 O g (by omega) (by omega) (by omega) (by omega) hwn how (ist (by omega)) h91 hO hl0) (gV pw_1029 pw_1030 pw_1031 pw_796 pw_1032) hV_X8_statementBy qr95 5 hqr96 rfl rfl rfl (Nat.le_of_ble_eq_true rfl) dX8_statement_70 ⟨(by show 0 + (2 * (sz - at9) + 20) ≤ (2 * (sz - at9) + 20); omega), (by show 0 + (11 * (2 * (sz - at9) + 20)) ≤ (11 * (2 * (sz - at9) + 20)); omega)⟩ ⟨(by show (50 * (n - 1) + 62) + 1 ≤ (50 * n + 50); omega), (by show 8 + (3 + 11) + (1500 * (n - 1) + 1700) ≤ (1500 * n + 1500); omega)⟩ (fun v94 u92 H locs hw93 hP hD hS => ?_) (fun ux ce9 q9 H9 locs9 hux hP9 hD9 hS9 hce hcv hcl => pb_out ux (ThQ.up (Thx.same (Thx.same (Thx.same (Thx.same (Thx.f (Thx.f Thx.rfl (by omega)) (by omega)) rfl) rfl) rfl) rfl) RhX.rfl hux) hnt hlocks hce hcv hcl hP9 hD9 hS9 (by show 0 + (2 * (sz - at9) + 20) ≤ (2 * (sz - at9) + 20); omega) (by show 0 + (11 * (2 * (sz - at9) + 20)) ≤ (11 * (2 * (sz - at9) + 20)); omega))
        obtain ⟨w, r97, K98, g99, at100, sg101, f102, k103⟩ := u92
        obtain ⟨hw93, h104, h105, h106, h107, hO⟩ := hw93
        have h104 : NwR K K98 g g99 r97 O k103 ((173 + 3 * (20 - (dp + 1)))) := h104
        have h105 : at9 + 1 ≤ at100 ∧ at100 ≤ sz := h105
        have h106 : 0 ≤ sg101 ∧ sg101 ≤ 60 := h106
        have h107 : rS k103 = at9 ∧ rE k103 ≤ at100 ∧ rS k103 ≤ rE k103 := h107
        obtain rfl : v94 = some (.ref r97) := hw93
        have hO : OKP G h0 a (upd (upd (upd (upd F 2 (nI sz)) 9 (nI at100)) 10 (nI (dp + 1))) 11 (nI sg101)) R Z (updA B 10 f102) J K98 w := hO.to rfl
        refine W.widen (k := (2 * (at100 - at9) - 1)) (n := (11 * (2 * (at100 - at9) - 1))) (by show 0 + (2 * (at100 - at9) - 1) ≤ (2 * (at100 - at9) - 1); omega) (by show 0 + (11 * (2 * (at100 - at9) - 1)) ≤ (11 * (2 * (at100 - at9) - 1)); omega) ?_
        refine W.eq (g2 := F0 m 73 ls [.ref r97]) rfl ?_
        refine lv_astore (lv' := [(4, .ref r97), (3, .int (nI sg)), (2, .int 0), (0, .ref (a 3)), (1, .int (nI x))]) hx hb dX8_statement_73 hl (by decide) rfl (fun ls hl => ?_)
        refine lv_aload_n hx hb dX8_statement_75 rfl (lv_at hl 3 rfl) ?_
        refine lv_iload_n hx hb dX8_statement_76 rfl (lv_at hl 1 rfl) ?_
        refine c_put (v := .int (nI sg)) (ty := .int) (C := RX8) (Tc := TX8) (N := 5) (ci := 5) hx hb hq pin_wsX80 tyX8 tyX8_ok nmX8 hown hE hP hD hS hO 23 (sg_23 G h0 a _ _ _ _ _) rfl 4 (by decide) (hq _ pw_904) (fun _ h9 => h9) rfl (by decide +kernel) rfl rfl (Nat.le_of_ble_eq_true rfl) (sf_11 G h0 a _ _ _ _ _ (nI sg)) dX8_statement_77 (fun H locs w hP hD hS hO => ?_)
        refine lv_aload_n hx hb dX8_statement_80 rfl (lv_at hl 3 rfl) ?_
        have hO : OKW G h0 a (upd (upd (upd (upd (upd F 2 (nI sz)) 9 (nI at100)) 10 (nI (dp + 1))) 11 (nI sg)) 10 (nI (dp + 1))) R Z (updA B 10 f102) J K98.1 (fun q99 x99 => x99 = rep G a K98 q99) w := hO.to rfl
        obtain ⟨_, qr111, hqr112⟩ := hO.2.1 23 _ (sg_23 G h0 a _ _ _ _ _)
        refine pc_V0 (G := G) (As := []) (rest := []) hx hb hml hown hq hE hX pX0_al hP hD hS hA hl.1 (P_leave l G h0 a (upd (upd (upd (upd F 2 (nI sz)) 9 (nI at100)) 10 (nI (dp + 1))) 11 (nI sg)) R Z (updA B 10 f102) J K98.1 (fun q99 x99 => x99 = rep G a K98 q99) w (dp + 1) (by omega) hO) (gV pw_950 pw_951 pw_952 pw_796 pw_906) hV_X8_leave qr111 5 hqr112 rfl rfl rfl (Nat.le_of_ble_eq_true rfl) dX8_statement_81 ⟨(by show (2 * (at100 - at9) - 1) + 0 ≤ (2 * (sz - at9) + 20); omega), (by show (11 * (2 * (at100 - at9) - 1)) + 0 ≤ (11 * (2 * (sz - at9) + 20)); omega)⟩ ⟨(by show 2 + 1 ≤ (50 * n + 50); omega), (by show 8 + (1 + 11) + 60 ≤ (1500 * n + 1500); omega)⟩ (fun v110 u108 H locs hw109 hP hD hS => ?_)
        obtain ⟨w, _⟩ := u108
        obtain ⟨hw109, hO⟩ := hw109
        obtain rfl : v110 = none := hw109
        have hO : OKP G h0 a (upd (upd (upd (upd F 2 (nI sz)) 9 (nI at100)) 10 (nI ((dp + 1) - 1))) 11 (nI sg)) R Z (updA B 10 f102) J K98 w := hO.to rfl
        refine W.widen (k := (2 * (at100 - at9) - 1)) (n := (11 * (2 * (at100 - at9) - 1))) (by show (2 * (at100 - at9) - 1) + 0 ≤ (2 * (at100 - at9) - 1); omega) (by show (11 * (2 * (at100 - at9) - 1)) + 0 ≤ (11 * (2 * (at100 - at9) - 1)); omega) ?_
        refine W.eq (g2 := F0 m 84 ls []) rfl ?_
        refine lv_aload hx hb dX8_statement_84 (lv_at hl 0 rfl) ?_
        refine W_size (fun hz1 hz2 => ?_)
        refine vx_ret ?_
        have hz113 : NwR K K98 g g99 r97 O k103 ((170 + 3 * (20 - dp))) := (NwR.up h104 (by omega))
        have hz114 : at9 + 1 ≤ at100 ∧ at100 ≤ sz := (by omega)
        have hz115 : sg ≤ sg ∧ sg ≤ 60 := (by omega)
        have hz116 : rS k103 = at9 ∧ rE k103 ≤ at100 ∧ rS k103 ≤ rE k103 := (by omega)
        have hO : OKP G h0 a (upd (upd (upd (upd F 2 (nI sz)) 9 (nI at100)) 10 (nI dp)) 11 (nI sg)) R Z (updA B 10 f102) J K98 w := hO.to rfl
        refine W.widen (k := (2 * (sz - at9) + 20)) (n := (11 * (2 * (sz - at9) + 20))) (by omega) (by omega) ?_
        have hzz1 : H.size ≤ s.heap.size + ((2 * (at100 - at9) - 1)) := (by have z : (2 * (at100 - at9) - 1) ≤ (2 * (at100 - at9) - 1) := (by omega); omega)
        have hzz2 : hSl H ≤ hSl s.heap + ((11 * (2 * (at100 - at9) - 1))) := (by have z : (11 * (2 * (at100 - at9) - 1)) ≤ (11 * (2 * (at100 - at9) - 1)) := (by omega); omega)
        exact W.aret (v := .ref r97) hx hb hr (Or.inl ⟨_, rfl⟩) (Or.inr ⟨_, rfl⟩) (fun t99 ht99 hW99 => ⟨⟨_, (w, (r97, K98, g99, at100, sg, f102, k103)), rfl, ⟨rfl, hz113, hz114, hz115, hz116, hO⟩, by rw [ht99]; exact hP, hD, by rw [ht99]; exact hzz1, by rw [ht99]; exact hzz2⟩, hS.F ht99⟩) hS.2.2 dX8_statement_86
      · have n117 : r74 = 0 := (nI_eq (a := r74) (b := 0) (by omega) (by omega)).mp c76
        refine lv_aload_n hx hb dX8_statement_28 rfl (lv_at hl 1 rfl) ?_
        have hO : OKW G h0 a (upd (upd (upd (upd (upd (upd F 2 (nI sz)) 9 (nI at9)) 10 (nI dp)) 11 (nI sg)) 2 (nI sz)) 9 (nI at9)) R Z B J K.1 (fun q99 x99 => x99 = rep G a K q99) w := hO.to rfl
        obtain ⟨_, qr121, hqr122⟩ := hO.2.1 23 _ (sg_23 G h0 a _ _ _ _ _)
        refine pn_V0 (G := G) (As := []) (rest := []) hx hb hml hown hq hE hX pX0_al hP hD hS hA hl.1 (P_refuse l G h0 a (upd (upd (upd (upd F 2 (nI sz)) 9 (nI at9)) 10 (nI dp)) 11 (nI sg)) R Z B J K.1 (fun q99 x99 => x99 = rep G a K q99) w at9 sz (by omega) (by omega) hO hl0) (gV pw_806 pw_807 pw_808 pw_796 pw_778) hV_X8_refuse qr121 5 hqr122 rfl rfl rfl (Nat.le_of_ble_eq_true rfl) dX8_statement_29 ⟨(by show 0 + 1 ≤ (2 * (sz - at9) + 20); omega), (by show 0 + 6 ≤ (11 * (2 * (sz - at9) + 20)); omega)⟩ ⟨(by show 7 + 1 ≤ (50 * n + 50); omega), (by show 8 + (1 + 11) + 122 ≤ (1500 * n + 1500); omega)⟩ (fun v120 u118 H locs hw119 hP hD hS => hw119.elim) (fun ux ce9 q9 H9 locs9 hux hP9 hD9 hS9 hce hcv hcl => pb_out ux (ThQ.up (Thx.same (Thx.same Thx.rfl rfl) rfl) RhX.rfl hux) hnt hlocks hce hcv hcl hP9 hD9 hS9 (by show 0 + 1 ≤ (2 * (sz - at9) + 20); omega) (by show 0 + 6 ≤ (11 * (2 * (sz - at9) + 20)); omega))
    · have n123 : ¬ (r64 = 0) := fun h9 => c66 ((nI_eq (a := r64) (b := 0) (by omega) (by omega)).mpr h9)
      refine lv_iconst (v := 1) hx hb dX8_statement_11 (by decide) ?_
      refine lv_goto (tgt := 16) hx hb dX8_statement_12 (by decide) ?_
      refine lv_istore_n (lv' := [(2, .int 1), (0, .ref (a 3)), (1, .int (nI x))]) hx hb dX8_statement_16 rfl hl (by decide) rfl (fun ls hl => ?_)
      refine lv_iload_n hx hb dX8_statement_17 rfl (lv_at hl 0 rfl) ?_
      refine lv_if_ne (tgt := 32) hx hb dX8_statement_18 (by decide) (fun c124 => ?_) (fun c124 => absurd c124 (by decide))
      refine lv_aload_n hx hb dX8_statement_32 rfl (lv_at hl 1 rfl) ?_
      have hO : OKW G h0 a (upd (upd (upd (upd (upd (upd (upd F 2 (nI sz)) 9 (nI at9)) 10 (nI dp)) 11 (nI sg)) 2 (nI sz)) 9 (nI at9)) 10 (nI dp)) R Z B J K.1 (fun q99 x99 => x99 = rep G a K q99) w := hO.to rfl
      obtain ⟨_, qr128, hqr129⟩ := hO.2.1 23 _ (sg_23 G h0 a _ _ _ _ _)
      refine pn_V0 (G := G) (As := []) (rest := []) hx hb hml hown hq hE hX pX0_al hP hD hS hA hl.1 (P_enter l G h0 a (upd (upd (upd (upd F 2 (nI sz)) 9 (nI at9)) 10 (nI dp)) 11 (nI sg)) R Z B J K.1 (fun q99 x99 => x99 = rep G a K q99) w dp at9 sz (by omega) (by omega) (by omega) hO hl0) (gV pw_947 pw_948 pw_949 pw_796 pw_905) hV_X8_enter qr128 5 hqr129 rfl rfl rfl (Nat.le_of_ble_eq_true rfl) dX8_statement_33 ⟨(by show 0 + 1 ≤ (2 * (sz - at9) + 20); omega), (by show 0 + 6 ≤ (11 * (2 * (sz - at9) + 20)); omega)⟩ ⟨(by show 7 + 1 ≤ (50 * n + 50); omega), (by show 8 + (1 + 11) + 122 ≤ (1500 * n + 1500); omega)⟩ (fun v127 u125 H locs hw126 hP hD hS => ?_) (fun ux ce9 q9 H9 locs9 hux hP9 hD9 hS9 hce hcv hcl => pb_out ux (ThQ.up (Thx.same (Thx.same (Thx.same Thx.rfl rfl) rfl) rfl) RhX.rfl hux) hnt hlocks hce hcv hcl hP9 hD9 hS9 (by show 0 + 1 ≤ (2 * (sz - at9) + 20); omega) (by show 0 + 6 ≤ (11 * (2 * (sz - at9) + 20)); omega))
      obtain ⟨w, _⟩ := u125
      obtain ⟨hw126, h130, hO⟩ := hw126
      have h130 : dp + 1 ≤ 20 := h130
      obtain rfl : v127 = none := hw126
      have hO : OKP G h0 a (upd (upd (upd (upd F 2 (nI sz)) 9 (nI at9)) 10 (nI (dp + 1))) 11 (nI sg)) R Z B J K w := hO.to rfl
      refine W.widen (k := 0) (n := 0) (by show 0 + 0 ≤ 0; omega) (by show 0 + 0 ≤ 0; omega) ?_
      refine W.eq (g2 := F0 m 36 ls []) rfl ?_
      refine lv_aload_n hx hb dX8_statement_36 rfl (lv_at hl 1 rfl) ?_
      refine c_get (v := .int (nI sg)) (C := RX8) (Tc := TX8) (N := 5) (ci := 5) hx hb hq pin_wsX80 hown hE hP hO 23 (sg_23 G h0 a _ _ _ _ _) rfl 4 (by decide) (hq _ pw_904) (fun _ h9 => h9) rfl dX8_statement_37 ?_
      refine lv_istore_n (lv' := [(3, .int (nI sg)), (2, .int 1), (0, .ref (a 3)), (1, .int (nI x))]) hx hb dX8_statement_40 rfl hl (by decide) rfl (fun ls hl => ?_)
      refine lv_aload_n hx hb dX8_statement_41 rfl (lv_at hl 2 rfl) ?_
      refine lv_iconst (v := 0) hx hb dX8_statement_42 (by decide) ?_
      refine c_put (v := .int 0) (ty := .int) (C := RX8) (Tc := TX8) (N := 5) (ci := 5) hx hb hq pin_wsX80 tyX8 tyX8_ok nmX8 hown hE hP hD hS hO 23 (sg_23 G h0 a _ _ _ _ _) rfl 4 (by decide) (hq _ pw_904) (fun _ h9 => h9) rfl (by decide +kernel) rfl rfl (Nat.le_of_ble_eq_true rfl) (sf_11 G h0 a _ _ _ _ _ 0) dX8_statement_43 (fun H locs w hP hD hS hO => ?_)
      refine lv_iload_n hx hb dX8_statement_46 rfl (lv_at hl 1 rfl) ?_
      refine lv_if_eq (tgt := 58) hx hb dX8_statement_47 (by decide) (fun c131 => absurd c131 (by decide)) (fun c131 => ?_)
      refine lv_aload_n hx hb dX8_statement_50 rfl (lv_at hl 2 rfl) ?_
      refine lv_iconst (v := 1) hx hb dX8_statement_51 (by decide) ?_
      have hO : OKP G h0 a (upd (upd (upd (upd (upd (upd (upd (upd (upd (upd F 2 (nI sz)) 9 (nI at9)) 10 (nI dp)) 11 (nI sg)) 10 (nI (dp + 1))) 11 0) 2 (nI sz)) 9 (nI at9)) 10 (nI (dp + 1))) 11 (nI 0)) R Z B J K w := hO.to rfl
      obtain ⟨_, qr135, hqr136⟩ := hO.2.1 23 _ (sg_23 G h0 a _ _ _ _ _)
      refine pn_V0 (G := G) (As := [.int (nI 1)]) (rest := []) hx hb hml hown hq hE hX pX0_al hP hD hS hA hl.1 (P_lokal l G h0 a (upd (upd (upd (upd (upd (upd F 2 (nI sz)) 9 (nI at9)) 10 (nI dp)) 11 (nI sg)) 10 (nI (dp + 1))) 11 0) R Z B J K w 1 (n - 1) at9 sz (dp + 1) 0 O g (by omega) (by omega) (by omega) (by omega) hwn how (by omega) hO hl0) (gV pw_1015 pw_1016 pw_1017 pw_796 pw_987) hV_X8_local qr135 5 hqr136 rfl rfl rfl (Nat.le_of_ble_eq_true rfl) dX8_statement_52 ⟨(by show 0 + (2 * (sz - at9) + 20) ≤ (2 * (sz - at9) + 20); omega), (by show 0 + (11 * (2 * (sz - at9) + 20)) ≤ (11 * (2 * (sz - at9) + 20)); omega)⟩ ⟨(by show (40 * (n - 1) + 44) + 1 ≤ (50 * n + 50); omega), (by show 8 + (4 + 11) + (1300 * (n - 1) + 1400) ≤ (1500 * n + 1500); omega)⟩ (fun v134 u132 H locs hw133 hP hD hS => ?_) (fun ux ce9 q9 H9 locs9 hux hP9 hD9 hS9 hce hcv hcl => pb_out ux (ThQ.up (Thx.same (Thx.same (Thx.same (Thx.same (Thx.f (Thx.f Thx.rfl (by omega)) (by omega)) rfl) rfl) rfl) rfl) RhX.rfl hux) hnt hlocks hce hcv hcl hP9 hD9 hS9 (by show 0 + (2 * (sz - at9) + 20) ≤ (2 * (sz - at9) + 20); omega) (by show 0 + (11 * (2 * (sz - at9) + 20)) ≤ (11 * (2 * (sz - at9) + 20)); omega))
      obtain ⟨w, r137, K138, g139, at140, sg141, f142, k143⟩ := u132
      obtain ⟨hw133, h144, h145, h146, h147, hO⟩ := hw133
      have h144 : NwR K K138 g g139 r137 O k143 (168) := h144
      have h145 : at9 + 2 ≤ at140 ∧ at140 ≤ sz := h145
      have h146 : 0 ≤ sg141 ∧ sg141 ≤ 60 := h146
      have h147 : rS k143 = at9 ∧ rE k143 ≤ at140 ∧ rS k143 ≤ rE k143 := h147
      obtain rfl : v134 = some (.ref r137) := hw133
      have hO : OKP G h0 a (upd (upd (upd (upd F 2 (nI sz)) 9 (nI at140)) 10 (nI (dp + 1))) 11 (nI sg141)) R Z (updA B 10 f142) J K138 w := hO.to rfl
      refine W.widen (k := (2 * (at140 - at9) - 3)) (n := (11 * (2 * (at140 - at9) - 3))) (by show 0 + (2 * (at140 - at9) - 3) ≤ (2 * (at140 - at9) - 3); omega) (by show 0 + (11 * (2 * (at140 - at9) - 3)) ≤ (11 * (2 * (at140 - at9) - 3)); omega) ?_
      refine W.eq (g2 := F0 m 55 ls [.ref r137]) rfl ?_
      refine lv_goto (tgt := 73) hx hb dX8_statement_55 (by decide) ?_
      refine lv_astore (lv' := [(4, .ref r137), (3, .int (nI sg)), (2, .int 1), (0, .ref (a 3)), (1, .int (nI x))]) hx hb dX8_statement_73 hl (by decide) rfl (fun ls hl => ?_)
      refine lv_aload_n hx hb dX8_statement_75 rfl (lv_at hl 3 rfl) ?_
      refine lv_iload_n hx hb dX8_statement_76 rfl (lv_at hl 1 rfl) ?_
      refine c_put (v := .int (nI sg)) (ty := .int) (C := RX8) (Tc := TX8) (N := 5) (ci := 5) hx hb hq pin_wsX80 tyX8 tyX8_ok nmX8 hown hE hP hD hS hO 23 (sg_23 G h0 a _ _ _ _ _) rfl 4 (by decide) (hq _ pw_904) (fun _ h9 => h9) rfl (by decide +kernel) rfl rfl (Nat.le_of_ble_eq_true rfl) (sf_11 G h0 a _ _ _ _ _ (nI sg)) dX8_statement_77 (fun H locs w hP hD hS hO => ?_)
      refine lv_aload_n hx hb dX8_statement_80 rfl (lv_at hl 3 rfl) ?_
      have hO : OKW G h0 a (upd (upd (upd (upd (upd F 2 (nI sz)) 9 (nI at140)) 10 (nI (dp + 1))) 11 (nI sg)) 10 (nI (dp + 1))) R Z (updA B 10 f142) J K138.1 (fun q99 x99 => x99 = rep G a K138 q99) w := hO.to rfl
      obtain ⟨_, qr151, hqr152⟩ := hO.2.1 23 _ (sg_23 G h0 a _ _ _ _ _)
      refine pc_V0 (G := G) (As := []) (rest := []) hx hb hml hown hq hE hX pX0_al hP hD hS hA hl.1 (P_leave l G h0 a (upd (upd (upd (upd F 2 (nI sz)) 9 (nI at140)) 10 (nI (dp + 1))) 11 (nI sg)) R Z (updA B 10 f142) J K138.1 (fun q99 x99 => x99 = rep G a K138 q99) w (dp + 1) (by omega) hO) (gV pw_950 pw_951 pw_952 pw_796 pw_906) hV_X8_leave qr151 5 hqr152 rfl rfl rfl (Nat.le_of_ble_eq_true rfl) dX8_statement_81 ⟨(by show (2 * (at140 - at9) - 3) + 0 ≤ (2 * (sz - at9) + 20); omega), (by show (11 * (2 * (at140 - at9) - 3)) + 0 ≤ (11 * (2 * (sz - at9) + 20)); omega)⟩ ⟨(by show 2 + 1 ≤ (50 * n + 50); omega), (by show 8 + (1 + 11) + 60 ≤ (1500 * n + 1500); omega)⟩ (fun v150 u148 H locs hw149 hP hD hS => ?_)
      obtain ⟨w, _⟩ := u148
      obtain ⟨hw149, hO⟩ := hw149
      obtain rfl : v150 = none := hw149
      have hO : OKP G h0 a (upd (upd (upd (upd F 2 (nI sz)) 9 (nI at140)) 10 (nI ((dp + 1) - 1))) 11 (nI sg)) R Z (updA B 10 f142) J K138 w := hO.to rfl
      refine W.widen (k := (2 * (at140 - at9) - 3)) (n := (11 * (2 * (at140 - at9) - 3))) (by show (2 * (at140 - at9) - 3) + 0 ≤ (2 * (at140 - at9) - 3); omega) (by show (11 * (2 * (at140 - at9) - 3)) + 0 ≤ (11 * (2 * (at140 - at9) - 3)); omega) ?_
      refine W.eq (g2 := F0 m 84 ls []) rfl ?_
      refine lv_aload hx hb dX8_statement_84 (lv_at hl 0 rfl) ?_
      refine W_size (fun hz1 hz2 => ?_)
      refine vx_ret ?_
      have hz153 : NwR K K138 g g139 r137 O k143 ((170 + 3 * (20 - dp))) := (NwR.up h144 (by omega))
      have hz154 : at9 + 1 ≤ at140 ∧ at140 ≤ sz := (by omega)
      have hz155 : sg ≤ sg ∧ sg ≤ 60 := (by omega)
      have hz156 : rS k143 = at9 ∧ rE k143 ≤ at140 ∧ rS k143 ≤ rE k143 := (by omega)
      have hO : OKP G h0 a (upd (upd (upd (upd F 2 (nI sz)) 9 (nI at140)) 10 (nI dp)) 11 (nI sg)) R Z (updA B 10 f142) J K138 w := hO.to rfl
      refine W.widen (k := (2 * (sz - at9) + 20)) (n := (11 * (2 * (sz - at9) + 20))) (by omega) (by omega) ?_
      have hzz1 : H.size ≤ s.heap.size + ((2 * (at140 - at9) - 1)) := (by have z : (2 * (at140 - at9) - 3) ≤ (2 * (at140 - at9) - 1) := (by omega); omega)
      have hzz2 : hSl H ≤ hSl s.heap + ((11 * (2 * (at140 - at9) - 1))) := (by have z : (11 * (2 * (at140 - at9) - 3)) ≤ (11 * (2 * (at140 - at9) - 1)) := (by omega); omega)
      exact W.aret (v := .ref r137) hx hb hr (Or.inl ⟨_, rfl⟩) (Or.inr ⟨_, rfl⟩) (fun t99 ht99 hW99 => ⟨⟨_, (w, (r137, K138, g139, at140, sg, f142, k143)), rfl, ⟨rfl, hz153, hz154, hz155, hz156, hO⟩, by rw [ht99]; exact hP, hD, by rw [ht99]; exact hzz1, by rw [ht99]; exact hzz2⟩, hS.F ht99⟩) hS.2.2 dX8_statement_86
theorem PSt_all (l : Launch) (G : pT) : ∀ n : Nat, PSt l G n := by
  intro n
  induction n with
  | zero =>
    intro h0 a F R Z B J K w x at9 sz dp sg O g hsz hat hdp hsg hwn how hx1x hO hl0
    exact P_statement l G h0 a F R Z B J K w x 0 at9 sz dp sg O g hsz hat hdp hsg hwn how hx1x (fun z => absurd z (by omega)) hO hl0
  | succ n ih =>
    intro h0 a F R Z B J K w x at9 sz dp sg O g hsz hat hdp hsg hwn how hx1x hO hl0
    exact P_statement l G h0 a F R Z B J K w x (n + 1) at9 sz dp sg O g hsz hat hdp hsg hwn how hx1x (fun _ => ih) hO hl0

theorem dX8_statementBy_270 : decode cX8_statementBy 270 = .ok (.aload_n 0, 1) := by decide +kernel
theorem dX8_statementBy_271 : decode cX8_statementBy 271 = .ok (.iconst 1, 1) := by decide +kernel
theorem dX8_statementBy_272 : decode cX8_statementBy 272 = .ok (.invokevirtual 218, 3) := by decide +kernel
theorem dX8_statementBy_275 : decode cX8_statementBy 275 = .ok (.astore_n 2, 1) := by decide +kernel
theorem dX8_statementBy_276 : decode cX8_statementBy 276 = .ok (.aload_n 0, 1) := by decide +kernel
theorem dX8_statementBy_277 : decode cX8_statementBy 277 = .ok (.bipush 38, 2) := by decide +kernel
theorem dX8_statementBy_279 : decode cX8_statementBy 279 = .ok (.invokevirtual 53, 3) := by decide +kernel
theorem dX8_statementBy_282 : decode cX8_statementBy 282 = .ok (.pop, 1) := by decide +kernel
theorem dX8_statementBy_283 : decode cX8_statementBy 283 = .ok (.aload_n 2, 1) := by decide +kernel
theorem dX8_statementBy_284 : decode cX8_statementBy 284 = .ok (.areturn, 1) := by decide +kernel
theorem dX8_statementBy_0 : decode cX8_statementBy 0 = .ok (.iload_n 1, 1) := by decide +kernel
theorem dX8_statementBy_1 : decode cX8_statementBy 1 = .ok (.tableswitch 269 2 38 #[231, 269, 269, 239, 269, 269, 269, 269, 178, 168, 269, 269, 269, 269, 269, 269, 269, 188, 269, 193, 269, 269, 223, 269, 183, 269, 173, 269, 269, 269, 163, 269, 269, 269, 269, 269, 247], 163) := by decide +kernel
theorem dX8_statementBy_232 : decode cX8_statementBy 232 = .ok (.aload_n 0, 1) := by decide +kernel
theorem dX8_statementBy_233 : decode cX8_statementBy 233 = .ok (.bipush 29, 2) := by decide +kernel
theorem dX8_statementBy_235 : decode cX8_statementBy 235 = .ok (.iconst 0, 1) := by decide +kernel
theorem dX8_statementBy_236 : decode cX8_statementBy 236 = .ok (.invokevirtual 214, 3) := by decide +kernel
theorem dX8_statementBy_239 : decode cX8_statementBy 239 = .ok (.areturn, 1) := by decide +kernel
theorem dX8_statementBy_240 : decode cX8_statementBy 240 = .ok (.aload_n 0, 1) := by decide +kernel
theorem dX8_statementBy_241 : decode cX8_statementBy 241 = .ok (.bipush 30, 2) := by decide +kernel
theorem dX8_statementBy_243 : decode cX8_statementBy 243 = .ok (.iconst 0, 1) := by decide +kernel
theorem dX8_statementBy_244 : decode cX8_statementBy 244 = .ok (.invokevirtual 214, 3) := by decide +kernel
theorem dX8_statementBy_247 : decode cX8_statementBy 247 = .ok (.areturn, 1) := by decide +kernel
theorem dX8_statementBy_179 : decode cX8_statementBy 179 = .ok (.aload_n 0, 1) := by decide +kernel
theorem dX8_statementBy_180 : decode cX8_statementBy 180 = .ok (.invokevirtual 205, 3) := by decide +kernel
theorem dX8_statementBy_183 : decode cX8_statementBy 183 = .ok (.areturn, 1) := by decide +kernel
theorem dX8_statementBy_169 : decode cX8_statementBy 169 = .ok (.aload_n 0, 1) := by decide +kernel
theorem dX8_statementBy_170 : decode cX8_statementBy 170 = .ok (.invokevirtual 199, 3) := by decide +kernel
theorem dX8_statementBy_173 : decode cX8_statementBy 173 = .ok (.areturn, 1) := by decide +kernel
theorem dX8_statementBy_189 : decode cX8_statementBy 189 = .ok (.aload_n 0, 1) := by decide +kernel
theorem dX8_statementBy_190 : decode cX8_statementBy 190 = .ok (.invokevirtual 211, 3) := by decide +kernel
theorem dX8_statementBy_193 : decode cX8_statementBy 193 = .ok (.areturn, 1) := by decide +kernel
theorem dX8_statementBy_194 : decode cX8_statementBy 194 = .ok (.aload_n 0, 1) := by decide +kernel
theorem dX8_statementBy_195 : decode cX8_statementBy 195 = .ok (.bipush 28, 2) := by decide +kernel
theorem dX8_statementBy_197 : decode cX8_statementBy 197 = .ok (.aload_n 0, 1) := by decide +kernel
theorem dX8_statementBy_198 : decode cX8_statementBy 198 = .ok (.getfield 7, 3) := by decide +kernel
theorem dX8_statementBy_201 : decode cX8_statementBy 201 = .ok (.aload_n 0, 1) := by decide +kernel
theorem dX8_statementBy_202 : decode cX8_statementBy 202 = .ok (.getfield 17, 3) := by decide +kernel
theorem dX8_statementBy_205 : decode cX8_statementBy 205 = .ok (.iconst 1, 1) := by decide +kernel
theorem dX8_statementBy_206 : decode cX8_statementBy 206 = .ok (.iadd, 1) := by decide +kernel
theorem dX8_statementBy_207 : decode cX8_statementBy 207 = .ok (.invokevirtual 57, 3) := by decide +kernel
theorem dX8_statementBy_210 : decode cX8_statementBy 210 = .ok (.bipush 38, 2) := by decide +kernel
theorem dX8_statementBy_212 : decode cX8_statementBy 212 = .ok (.if_icmp .eq 7, 3) := by decide +kernel
theorem dX8_statementBy_219 : decode cX8_statementBy 219 = .ok (.iconst 0, 1) := by decide +kernel
theorem dX8_statementBy_220 : decode cX8_statementBy 220 = .ok (.invokevirtual 214, 3) := by decide +kernel
theorem dX8_statementBy_223 : decode cX8_statementBy 223 = .ok (.areturn, 1) := by decide +kernel
theorem dX8_statementBy_215 : decode cX8_statementBy 215 = .ok (.iconst 1, 1) := by decide +kernel
theorem dX8_statementBy_216 : decode cX8_statementBy 216 = .ok (.goto 4, 3) := by decide +kernel
theorem dX8_statementBy_224 : decode cX8_statementBy 224 = .ok (.aload_n 0, 1) := by decide +kernel
theorem dX8_statementBy_225 : decode cX8_statementBy 225 = .ok (.bipush 31, 2) := by decide +kernel
theorem dX8_statementBy_227 : decode cX8_statementBy 227 = .ok (.iconst 1, 1) := by decide +kernel
theorem dX8_statementBy_228 : decode cX8_statementBy 228 = .ok (.invokevirtual 214, 3) := by decide +kernel
theorem dX8_statementBy_231 : decode cX8_statementBy 231 = .ok (.areturn, 1) := by decide +kernel
theorem dX8_statementBy_184 : decode cX8_statementBy 184 = .ok (.aload_n 0, 1) := by decide +kernel
theorem dX8_statementBy_185 : decode cX8_statementBy 185 = .ok (.invokevirtual 208, 3) := by decide +kernel
theorem dX8_statementBy_188 : decode cX8_statementBy 188 = .ok (.areturn, 1) := by decide +kernel
theorem dX8_statementBy_174 : decode cX8_statementBy 174 = .ok (.aload_n 0, 1) := by decide +kernel
theorem dX8_statementBy_175 : decode cX8_statementBy 175 = .ok (.invokevirtual 202, 3) := by decide +kernel
theorem dX8_statementBy_178 : decode cX8_statementBy 178 = .ok (.areturn, 1) := by decide +kernel
theorem dX8_statementBy_164 : decode cX8_statementBy 164 = .ok (.aload_n 0, 1) := by decide +kernel
theorem dX8_statementBy_165 : decode cX8_statementBy 165 = .ok (.invokevirtual 120, 3) := by decide +kernel
theorem dX8_statementBy_168 : decode cX8_statementBy 168 = .ok (.areturn, 1) := by decide +kernel
theorem dX8_statementBy_248 : decode cX8_statementBy 248 = .ok (.new 143, 3) := by decide +kernel
theorem dX8_statementBy_251 : decode cX8_statementBy 251 = .ok (.dup, 1) := by decide +kernel
theorem dX8_statementBy_252 : decode cX8_statementBy 252 = .ok (.bipush 34, 2) := by decide +kernel
theorem dX8_statementBy_254 : decode cX8_statementBy 254 = .ok (.aload_n 0, 1) := by decide +kernel
theorem dX8_statementBy_255 : decode cX8_statementBy 255 = .ok (.bipush 38, 2) := by decide +kernel
theorem dX8_statementBy_257 : decode cX8_statementBy 257 = .ok (.invokevirtual 53, 3) := by decide +kernel
theorem dX8_statementBy_260 : decode cX8_statementBy 260 = .ok (.aload_n 0, 1) := by decide +kernel
theorem dX8_statementBy_261 : decode cX8_statementBy 261 = .ok (.getfield 17, 3) := by decide +kernel
theorem dX8_statementBy_264 : decode cX8_statementBy 264 = .ok (.iconst 1, 1) := by decide +kernel
theorem dX8_statementBy_265 : decode cX8_statementBy 265 = .ok (.isub, 1) := by decide +kernel
theorem dX8_statementBy_266 : decode cX8_statementBy 266 = .ok (.invokespecial 145, 3) := by decide +kernel
theorem dX8_statementBy_269 : decode cX8_statementBy 269 = .ok (.areturn, 1) := by decide +kernel
theorem hV_X8_wordStatement : yX8_wordStatement.cls = RX8 ∧ yX8_wordStatement.cls ≠ "java/lang/invoke/MethodHandle" ∧ yX8_wordStatement.cls ≠ "java/lang/invoke/VarHandle" ∧ (parseMethodDescriptor yX8_wordStatement.desc).map (fun d => d.parameters.length) = some 2 := by decide +kernel
theorem hV_X8_forStatement : yX8_forStatement.cls = RX8 ∧ yX8_forStatement.cls ≠ "java/lang/invoke/MethodHandle" ∧ yX8_forStatement.cls ≠ "java/lang/invoke/VarHandle" ∧ (parseMethodDescriptor yX8_forStatement.desc).map (fun d => d.parameters.length) = some 0 := by decide +kernel
theorem hV_X8_ifStatement : yX8_ifStatement.cls = RX8 ∧ yX8_ifStatement.cls ≠ "java/lang/invoke/MethodHandle" ∧ yX8_ifStatement.cls ≠ "java/lang/invoke/VarHandle" ∧ (parseMethodDescriptor yX8_ifStatement.desc).map (fun d => d.parameters.length) = some 0 := by decide +kernel
theorem hV_X8_printStatement : yX8_printStatement.cls = RX8 ∧ yX8_printStatement.cls ≠ "java/lang/invoke/MethodHandle" ∧ yX8_printStatement.cls ≠ "java/lang/invoke/VarHandle" ∧ (parseMethodDescriptor yX8_printStatement.desc).map (fun d => d.parameters.length) = some 0 := by decide +kernel
theorem hV_X8_tryStatement : yX8_tryStatement.cls = RX8 ∧ yX8_tryStatement.cls ≠ "java/lang/invoke/MethodHandle" ∧ yX8_tryStatement.cls ≠ "java/lang/invoke/VarHandle" ∧ (parseMethodDescriptor yX8_tryStatement.desc).map (fun d => d.parameters.length) = some 0 := by decide +kernel
theorem hV_X8_whileStatement : yX8_whileStatement.cls = RX8 ∧ yX8_whileStatement.cls ≠ "java/lang/invoke/MethodHandle" ∧ yX8_whileStatement.cls ≠ "java/lang/invoke/VarHandle" ∧ (parseMethodDescriptor yX8_whileStatement.desc).map (fun d => d.parameters.length) = some 0 := by decide +kernel
set_option maxHeartbeats 40000000 in
set_option maxRecDepth 100000 in
theorem P_statementBy (l : Launch) (G : pT) (h0 : Nat) (a : Nat → Nat) (F : Nat → Int32) (R : Nat → Value) (Z : Int64) (B : Nat → Nat → Int32) (J : Nat → Nat → Int64) (K : PK) (w : va_W) (x : Int32) (n : Nat) (at9 : Nat) (sz : Nat) (dp : Nat) (sg : Nat) (O : Nat) (g : Nat → Nat → Nat) (hsz : sz ≤ 5000) (hat : at9 ≤ sz) (hdp : dp + n = 20) (hsg : sg ≤ 60) (hwn : WN K g) (how : ∀ o : Nat, O = o + 1 → K.1 o = 1 ∧ g 0 o = 0 ∧ ¬ K.2.1 0 o = 32) (ist : PSt l G n) (hkx : x = 67 ∨ ∃ t : Nat, nI at9 = nI t ∧ t < sz) (hO : OKP G h0 a (upd (upd (upd (upd F 2 (nI sz)) 9 (nI at9)) 10 (nI dp)) 11 (nI sg)) R Z B J K w) (hl0 : l.stackTraces = false) : PBn l G pX0 yX8_statementBy cX8_statementBy 3 (some (.object "JinjaTongue$Node")) ({ frames := (50 * n + 62), cells := (2 * (sz - at9) + 20), slots := (11 * (2 * (sz - at9) + 20)), locals := (1500 * n + 1700) }) [.ref (a 3), .int x] w (fun (v : Option Value) (u : va_W × (Nat × PK × (Nat → Nat → Nat) × Nat × Nat × (Nat → Int32) × Nat)) => v = some (.ref u.2.1) ∧ (NwR K u.2.2.1 g u.2.2.2.1 u.2.1 O u.2.2.2.2.2.2.2 ((173 + 3 * (20 - dp)))) ∧ (rS u.2.2.2.2.2.2.2 = at9 ∧ rE u.2.2.2.2.2.2.2 ≤ u.2.2.2.2.1 ∧ rS u.2.2.2.2.2.2.2 ≤ rE u.2.2.2.2.2.2.2 ∧ rD u.2.2.2.2.2.2.2 ≤ 2 * (20 - dp) + 2) ∧ (at9 + 1 ≤ u.2.2.2.2.1 ∧ u.2.2.2.2.1 ≤ sz) ∧ (sg ≤ u.2.2.2.2.2.1 ∧ u.2.2.2.2.2.1 ≤ 60) ∧ (¬ u.2.2.1.2.1 0 u.2.1 = 22) ∧ (NwT (B 7) sz (B 10) u.2.2.2.2.2.2.1 K u.2.2.1 at9 u.2.2.2.2.1) ∧ (OKP G h0 a (upd (upd (upd (upd F 2 (nI sz)) 9 (nI u.2.2.2.2.1)) 10 (nI dp)) 11 (nI u.2.2.2.2.2.1)) R Z (updA B 10 u.2.2.2.2.2.2.1) J u.2.2.1 u.1)) (fun u => u.1) (fun (u : va_W × (Nat × PK × (Nat → Nat → Nat) × Nat × Nat × (Nat → Int32) × Nat)) => (2 * (u.2.2.2.2.1 - at9) - 1)) (fun (u : va_W × (Nat × PK × (Nat → Nat → Nat) × Nat × Nat × (Nat → Int32) × Nat)) => (11 * (2 * (u.2.2.2.2.1 - at9) - 1))) (fun (u : va_W × (Nat → Int32) × (Nat → Value) × (Nat → Nat → Int32)) => ThQ G h0 a (upd (upd (upd (upd F 2 (nI sz)) 9 (nI at9)) 10 (nI dp)) 11 (nI sg)) R Z B J u) (fun u => u.1) := by
  intro sz
  refine vx_ofW (cc := cX8_statementBy) (maxL := 3) (ret := (some (.object "JinjaTongue$Node"))) (by decide) rfl ?_
  intro p e s m args below meth c s₁ B9 hml hnt hv
  obtain ⟨rfl, hsz, hP, hD0, hE, hX⟩ := hv
  have hx := B9.exec
  have hb := B9.bytes
  have hr := B9.returns
  have hts := atoms_spec (ws := Cond.code yX8_statementBy cX8_statementBy 3 (some (.object "JinjaTongue$Node")) :: pw) B9.pre
  have hq : ∀ w ∈ pw, w.before _ s = true := fun w h => hts w (List.mem_cons_of_mem _ h)
  have hown : s.vm.findClass RX8 = some m.cls := findClass_of_methodNamed B9.named
  have hlocks := B9.notSynchronized
  subst hsz
  have hD := hD0.self (sz := s.heap.size)
  have hA : ∀ q : Nat, s.heap.size ≤ q → va_A w s.heap.size q := fun q h => Or.inr h
  generalize va_A w s.heap.size = A at hD hE hA ⊢
  have hS : va_S A s.heap s.heap [] := va_S.rf
  have hl := lv_entry ([.ref (a 3), .int x]) (n := 3) (Nat.le_of_ble_eq_true rfl)
  rw [lg_entry_eq]
  generalize (lg_sl ([.ref (a 3), .int x]) ++ List.replicate (3 - (lg_sl ([.ref (a 3), .int x])).length) Slot.unset).toArray = ls at hl ⊢
  have hl : lv_has ls 3 [(0, .ref (a 3)), (1, .int x)] := hl
  have htk0 : NwT (B 7) sz (B 10) (B 10) K K at9 at9 := NwT.nil
  have hns0 : NwS K K g g := NwS.nil hwn
  have cut_d : ∀ (H : Heap) (locs : List Loc) (ls : Array Slot) (w : va_W), (NwT (B 7) sz (B 10) (B 10) K K at9 at9) → va_P G.1 pCl w H → va_D A w → va_S A s.heap H locs → OKP G h0 a (upd (upd (upd (upd F 2 (nI sz)) 9 (nI at9)) 10 (nI dp)) 11 (nI sg)) R Z B J K w → lv_has ls 3 [(0, .ref (a 3))] → W p l e (headSpec (Cond.code yX8_statementBy cX8_statementBy 3 (some (.object "JinjaTongue$Node")) :: pw) ({ frames := (50 * n + 62), cells := (2 * (sz - at9) + 20), slots := (11 * (2 * (sz - at9) + 20)), locals := (1500 * n + 1700) } : Room)).room s m ([.ref (a 3), .int x] : List Value).toArray below meth c H locs 0 0 (vx_MQ below (pQn G A (fun (v : Option Value) (u : va_W × (Nat × PK × (Nat → Nat → Nat) × Nat × Nat × (Nat → Int32) × Nat)) => v = some (.ref u.2.1) ∧ (NwR K u.2.2.1 g u.2.2.2.1 u.2.1 O u.2.2.2.2.2.2.2 ((173 + 3 * (20 - dp)))) ∧ (rS u.2.2.2.2.2.2.2 = at9 ∧ rE u.2.2.2.2.2.2.2 ≤ u.2.2.2.2.1 ∧ rS u.2.2.2.2.2.2.2 ≤ rE u.2.2.2.2.2.2.2 ∧ rD u.2.2.2.2.2.2.2 ≤ 2 * (20 - dp) + 2) ∧ (at9 + 1 ≤ u.2.2.2.2.1 ∧ u.2.2.2.2.1 ≤ sz) ∧ (sg ≤ u.2.2.2.2.2.1 ∧ u.2.2.2.2.2.1 ≤ 60) ∧ (¬ u.2.2.1.2.1 0 u.2.1 = 22) ∧ (NwT (B 7) sz (B 10) u.2.2.2.2.2.2.1 K u.2.2.1 at9 u.2.2.2.2.1) ∧ (OKP G h0 a (upd (upd (upd (upd F 2 (nI sz)) 9 (nI u.2.2.2.2.1)) 10 (nI dp)) 11 (nI u.2.2.2.2.2.1)) R Z (updA B 10 u.2.2.2.2.2.2.1) J u.2.2.1 u.1)) (fun u => u.1) (fun (u : va_W × (Nat × PK × (Nat → Nat → Nat) × Nat × Nat × (Nat → Int32) × Nat)) => (2 * (u.2.2.2.2.1 - at9) - 1)) (fun (u : va_W × (Nat × PK × (Nat → Nat → Nat) × Nat × Nat × (Nat → Int32) × Nat)) => (11 * (2 * (u.2.2.2.2.1 - at9) - 1)))) (pXX G A (fun (u : va_W × (Nat → Int32) × (Nat → Value) × (Nat → Nat → Int32)) => ThQ G h0 a (upd (upd (upd (upd F 2 (nI sz)) 9 (nI at9)) 10 (nI dp)) 11 (nI sg)) R Z B J u) (fun u => u.1)) ([.ref (a 3), .int x] : List Value).toArray s ({ frames := (50 * n + 62), cells := (2 * (sz - at9) + 20), slots := (11 * (2 * (sz - at9) + 20)), locals := (1500 * n + 1700) } : Room).cells ({ frames := (50 * n + 62), cells := (2 * (sz - at9) + 20), slots := (11 * (2 * (sz - at9) + 20)), locals := (1500 * n + 1700) } : Room).slots A) (F0 m 270 ls []) := by
    intro H locs ls w htkd hP hD hS hO hl
    refine lv_aload_n hx hb dX8_statementBy_270 rfl (lv_at hl 0 rfl) ?_
    refine lv_iconst (v := 1) hx hb dX8_statementBy_271 (by decide) ?_
    have hO : OKP G h0 a (upd (upd (upd (upd (upd (upd (upd (upd F 2 (nI sz)) 9 (nI at9)) 10 (nI dp)) 11 (nI sg)) 2 (nI sz)) 9 (nI at9)) 10 (nI dp)) 11 (nI sg)) R Z B J K w := hO.to rfl
    obtain ⟨_, qr4, hqr5⟩ := hO.2.1 23 _ (sg_23 G h0 a _ _ _ _ _)
    refine pn_V0 (G := G) (As := [.int (nI 1)]) (rest := []) hx hb hml hown hq hE hX pX0_al hP hD hS hA hl.1 (P_simple l G h0 a (upd (upd (upd (upd F 2 (nI sz)) 9 (nI at9)) 10 (nI dp)) 11 (nI sg)) R Z B J K w 1 n at9 sz dp sg O g (by omega) (by omega) hdp (by omega) hwn how (by omega) hO hl0) (gV pw_1018 pw_1019 pw_1020 pw_796 pw_994) hV_X8_simple qr4 5 hqr5 rfl rfl rfl (Nat.le_of_ble_eq_true rfl) dX8_statementBy_272 ⟨(by show 0 + (2 * (sz - at9) + 20) ≤ (2 * (sz - at9) + 20); omega), (by show 0 + (11 * (2 * (sz - at9) + 20)) ≤ (11 * (2 * (sz - at9) + 20)); omega)⟩ ⟨(by show (40 * n + 44) + 1 ≤ (50 * n + 62); omega), (by show 8 + (5 + 11) + (1300 * n + 1400) ≤ (1500 * n + 1700); omega)⟩ (fun v3 u1 H locs hw2 hP hD hS => ?_) (fun ux ce9 q9 H9 locs9 hux hP9 hD9 hS9 hce hcv hcl => pb_out ux (ThQ.up (Thx.same (Thx.same (Thx.same (Thx.same Thx.rfl rfl) rfl) rfl) rfl) RhX.rfl hux) hnt hlocks hce hcv hcl hP9 hD9 hS9 (by show 0 + (2 * (sz - at9) + 20) ≤ (2 * (sz - at9) + 20); omega) (by show 0 + (11 * (2 * (sz - at9) + 20)) ≤ (11 * (2 * (sz - at9) + 20)); omega))
    obtain ⟨w, r6, K7, g8, at10, sg11, f12, k13⟩ := u1
    obtain ⟨hw2, h14, h15, h16, h17, h18, h19, hO⟩ := hw2
    have h14 : NwR K K7 g g8 r6 O k13 (168) := h14
    have h15 : rS k13 = at9 ∧ rE k13 ≤ at10 ∧ rS k13 ≤ rE k13 ∧ rD k13 ≤ 2 * (20 - dp) + 2 := h15
    have h16 : at9 + 1 ≤ at10 ∧ at10 ≤ sz := h16
    have h17 : sg ≤ sg11 ∧ sg11 ≤ 60 := h17
    have h18 : (K7.2.1 0 r6 = 23 ∨ K7.2.1 0 r6 = 24) ∧ (1 = 0 → K7.2.1 0 r6 = 23) := h18
    have h19 : NwT ((B 7)) sz ((B 10)) f12 K K7 at9 at10 := h19
    obtain rfl : v3 = some (.ref r6) := hw2
    have hO : OKP G h0 a (upd (upd (upd (upd F 2 (nI sz)) 9 (nI at10)) 10 (nI dp)) 11 (nI sg11)) R Z (updA B 10 f12) J K7 w := hO.to rfl
    refine W.widen (k := (2 * (at10 - at9) - 0)) (n := (11 * (2 * (at10 - at9) - 0))) (by show 0 + (2 * (at10 - at9) - 0) ≤ (2 * (at10 - at9) - 0); omega) (by show 0 + (11 * (2 * (at10 - at9) - 0)) ≤ (11 * (2 * (at10 - at9) - 0)); omega) ?_
    refine W.eq (g2 := F0 m 275 ls [.ref r6]) rfl ?_
    have htk20 : NwT (B 7) sz (B 10) f12 K K7 at9 at10 := (NwT.call htkd h19 (by omega))
    refine lv_astore_n (lv' := [(2, .ref r6), (0, .ref (a 3))]) hx hb dX8_statementBy_275 rfl hl (by decide) rfl (fun ls hl => ?_)
    refine lv_aload_n hx hb dX8_statementBy_276 rfl (lv_at hl 1 rfl) ?_
    refine lv_bipush (v := 38) hx hb dX8_statementBy_277 (by decide) ?_
    have hO : OKW G h0 a (upd (upd (upd (upd (upd (upd (upd (upd F 2 (nI sz)) 9 (nI at9)) 10 (nI dp)) 11 (nI sg)) 9 (nI at10)) 11 (nI sg11)) 2 (nI sz)) 9 (nI at10)) R Z (updA B 10 f12) J K7.1 (fun q99 x99 => x99 = rep G a K7 q99) w := hO.to rfl
    obtain ⟨_, qr24, hqr25⟩ := hO.2.1 23 _ (sg_23 G h0 a _ _ _ _ _)
    refine pn_V0 (G := G) (As := [.int 38]) (rest := []) hx hb hml hown hq hE hX pX0_al hP hD hS hA hl.1 (P_take l G h0 a (upd (upd (upd (upd (upd (upd F 2 (nI sz)) 9 (nI at9)) 10 (nI dp)) 11 (nI sg)) 9 (nI at10)) 11 (nI sg11)) R Z (updA B 10 f12) J K7.1 (fun q99 x99 => x99 = rep G a K7 q99) w 38 at10 sz (by omega) (by omega) (by decide) hO hl0) (gV pw_793 pw_794 pw_795 pw_796 pw_781) hV_X8_take qr24 5 hqr25 rfl rfl rfl (Nat.le_of_ble_eq_true rfl) dX8_statementBy_279 ⟨(by show (2 * (at10 - at9) - 0) + 1 ≤ (2 * (sz - at9) + 20); omega), (by show (11 * (2 * (at10 - at9) - 0)) + 6 ≤ (11 * (2 * (sz - at9) + 20)); omega)⟩ ⟨(by show 7 + 1 ≤ (50 * n + 62); omega), (by show 8 + (2 + 11) + 122 ≤ (1500 * n + 1700); omega)⟩ (fun v23 u21 H locs hw22 hP hD hS => ?_) (fun ux ce9 q9 H9 locs9 hux hP9 hD9 hS9 hce hcv hcl => pb_out ux (ThQ.up (Thx.same (Thx.same (Thx.b (Thx.f (Thx.f Thx.rfl (by omega)) (by omega)) (by omega) (by decide)) rfl) rfl) RhX.rfl hux) hnt hlocks hce hcv hcl hP9 hD9 hS9 (by show (2 * (at10 - at9) - 0) + 1 ≤ (2 * (sz - at9) + 20); omega) (by show (11 * (2 * (at10 - at9) - 0)) + 6 ≤ (11 * (2 * (sz - at9) + 20)); omega))
    obtain ⟨w, _⟩ := u21
    obtain ⟨hw22, h26, h27, hO⟩ := hw22
    have h26 : at10 + 1 ≤ sz := h26
    have h27 : tkN ((B 7)) sz 67 (nI at10) = 38 := h27
    obtain rfl : v23 = some (.int (nI at10)) := hw22
    have hO : OKP G h0 a (upd (upd (upd (upd F 2 (nI sz)) 9 (nI (at10 + 1))) 10 (nI dp)) 11 (nI sg11)) R Z (updA B 10 f12) J K7 w := hO.to rfl
    refine W.widen (k := (2 * (at10 - at9) - 0)) (n := (11 * (2 * (at10 - at9) - 0))) (by show (2 * (at10 - at9) - 0) + 0 ≤ (2 * (at10 - at9) - 0); omega) (by show (11 * (2 * (at10 - at9) - 0)) + 0 ≤ (11 * (2 * (at10 - at9) - 0)); omega) ?_
    refine W.eq (g2 := F0 m 282 ls [.int (nI at10)]) rfl ?_
    refine lv_pop hx hb dX8_statementBy_282 rfl ?_
    refine lv_aload_n hx hb dX8_statementBy_283 rfl (lv_at hl 0 rfl) ?_
    refine W_size (fun hz1 hz2 => ?_)
    refine vx_ret ?_
    have hz28 : NwR K K7 g g8 r6 O k13 ((173 + 3 * (20 - dp))) := (NwR.up h14 (by omega))
    have hz29 : rS k13 = at9 ∧ rE k13 ≤ (at10 + 1) ∧ rS k13 ≤ rE k13 ∧ rD k13 ≤ 2 * (20 - dp) + 2 := (by omega)
    have hz30 : at9 + 1 ≤ (at10 + 1) ∧ (at10 + 1) ≤ sz := (by omega)
    have hz31 : sg ≤ sg11 ∧ sg11 ≤ 60 := (by omega)
    have hz32 : ¬ K7.2.1 0 r6 = 22 := (by rcases h18.1 with z9 | z9 <;> rw [z9] <;> decide)
    have hz33 : NwT (B 7) sz (B 10) f12 K K7 at9 (at10 + 1) := (NwT.le htk20 (by omega))
    have hO : OKP G h0 a (upd (upd (upd (upd F 2 (nI sz)) 9 (nI (at10 + 1))) 10 (nI dp)) 11 (nI sg11)) R Z (updA B 10 f12) J K7 w := hO.to rfl
    refine W.widen (k := (2 * (sz - at9) + 20)) (n := (11 * (2 * (sz - at9) + 20))) (by omega) (by omega) ?_
    have hzz1 : H.size ≤ s.heap.size + ((2 * ((at10 + 1) - at9) - 1)) := (by have z : (2 * (at10 - at9) - 0) ≤ (2 * ((at10 + 1) - at9) - 1) := (by omega); omega)
    have hzz2 : hSl H ≤ hSl s.heap + ((11 * (2 * ((at10 + 1) - at9) - 1))) := (by have z : (11 * (2 * (at10 - at9) - 0)) ≤ (11 * (2 * ((at10 + 1) - at9) - 1)) := (by omega); omega)
    exact W.aret (v := .ref r6) hx hb hr (Or.inl ⟨_, rfl⟩) (Or.inr ⟨_, rfl⟩) (fun t99 ht99 hW99 => ⟨⟨_, (w, (r6, K7, g8, (at10 + 1), sg11, f12, k13)), rfl, ⟨rfl, hz28, hz29, hz30, hz31, hz32, hz33, hO⟩, by rw [ht99]; exact hP, hD, by rw [ht99]; exact hzz1, by rw [ht99]; exact hzz2⟩, hS.F ht99⟩) hS.2.2 dX8_statementBy_284
  refine lv_iload_n hx hb dX8_statementBy_0 rfl (lv_at hl 1 rfl) ?_
  by_cases h34 : x = 2
  · subst h34
    refine lv_tableIn (tgt := 232) (off := 231) hx hb dX8_statementBy_1 (by decide) (by decide) (by decide) (by decide) ?_
    have htk : at9 < sz := tok_in hkx rfl (by decide : ¬ (2 : Int32) = 67) (by omega) hsz
    refine lv_aload_n hx hb dX8_statementBy_232 rfl (lv_at hl 0 rfl) ?_
    refine lv_bipush (v := 29) hx hb dX8_statementBy_233 (by decide) ?_
    refine lv_iconst (v := 0) hx hb dX8_statementBy_235 (by decide) ?_
    have hO : OKP G h0 a (upd (upd (upd (upd (upd (upd F 2 (nI sz)) 9 (nI at9)) 10 (nI dp)) 11 (nI sg)) 2 (nI sz)) 9 (nI at9)) R Z B J K w := hO.to rfl
    obtain ⟨_, qr38, hqr39⟩ := hO.2.1 23 _ (sg_23 G h0 a _ _ _ _ _)
    refine pn_V0 (G := G) (As := [.int 29, .int 0]) (rest := []) hx hb hml hown hq hE hX pX0_al hP hD hS hA hl.1 (P_word0 l G h0 a (upd (upd (upd (upd F 2 (nI sz)) 9 (nI at9)) 10 (nI dp)) 11 (nI sg)) R Z B J K w 29 at9 sz O g (by omega) (by omega) hwn (fun o9 h9 => ⟨(how o9 h9).1, fun z => (by rw [(how o9 h9).2.1] at z; omega), (how o9 h9).2.2⟩) (by omega) (fun C => ⟨fun z => absurd z (by decide), fun z => absurd z (by decide), fun z => absurd z (by decide), fun z => absurd z (by decide), fun z => absurd z (by decide)⟩) (fun kq hq => ⟨(fun z => absurd z (by decide)), fun _ => hq, (fun z => absurd z (by decide))⟩) (by decide) hO hl0) (gV pw_1048 pw_1049 pw_1050 pw_796 pw_1002) hV_X8_wordStatement qr38 5 hqr39 rfl rfl rfl (Nat.le_of_ble_eq_true rfl) dX8_statementBy_236 ⟨(by show 0 + 2 ≤ (2 * (sz - at9) + 20); omega), (by show 0 + 17 ≤ (11 * (2 * (sz - at9) + 20)); omega)⟩ ⟨(by show 8 + 1 ≤ (50 * n + 62); omega), (by show 8 + (4 + 11) + 143 ≤ (1500 * n + 1700); omega)⟩ (fun v37 u35 H locs hw36 hP hD hS => ?_) (fun ux ce9 q9 H9 locs9 hux hP9 hD9 hS9 hce hcv hcl => pb_out ux (ThQ.up (Thx.same (Thx.same Thx.rfl rfl) rfl) RhX.rfl hux) hnt hlocks hce hcv hcl hP9 hD9 hS9 (by show 0 + 2 ≤ (2 * (sz - at9) + 20); omega) (by show 0 + 17 ≤ (11 * (2 * (sz - at9) + 20)); omega))
    obtain ⟨w, r40, K41, g42, k43⟩ := u35
    obtain ⟨hw36, h44, h45, h46, h47, h48, hO⟩ := hw36
    have h44 : NwR K K41 g g42 r40 O k43 1 := h44
    have h45 : rS k43 = at9 ∧ rE k43 = at9 + 2 ∧ rD k43 = 0 := h45
    have h46 : K41.2.1 0 r40 = 29 := h46
    have h47 : at9 + 2 ≤ sz := h47
    have h48 : NwT ((B 7)) sz ((B 10)) ((B 10)) K K41 at9 (at9 + 2) := h48
    obtain rfl : v37 = some (.ref r40) := hw36
    have hO : OKP G h0 a (upd (upd (upd (upd F 2 (nI sz)) 9 (nI (at9 + 2))) 10 (nI dp)) 11 (nI sg)) R Z B J K41 w := hO.to rfl
    refine W.widen (k := 1) (n := 11) (by show 0 + 1 ≤ 1; omega) (by show 0 + 11 ≤ 11; omega) ?_
    refine W.eq (g2 := F0 m 239 ls [.ref r40]) rfl ?_
    have htk49 : NwT (B 7) sz (B 10) (B 10) K K41 at9 (at9 + 2) := (NwT.call htk0 h48 (by omega))
    refine W_size (fun hz1 hz2 => ?_)
    refine vx_ret ?_
    have hz50 : NwR K K41 g g42 r40 O k43 ((173 + 3 * (20 - dp))) := (NwR.up h44 (by omega))
    have hz51 : rS k43 = at9 ∧ rE k43 ≤ (at9 + 2) ∧ rS k43 ≤ rE k43 ∧ rD k43 ≤ 2 * (20 - dp) + 2 := (by omega)
    have hz52 : at9 + 1 ≤ (at9 + 2) ∧ (at9 + 2) ≤ sz := (by omega)
    have hz53 : sg ≤ sg ∧ sg ≤ 60 := (by omega)
    have hz54 : ¬ K41.2.1 0 r40 = 22 := (by rw [h46]; decide)
    have hz55 : NwT (B 7) sz (B 10) (B 10) K K41 at9 (at9 + 2) := (NwT.le htk49 (by omega))
    have hO : OKP G h0 a (upd (upd (upd (upd F 2 (nI sz)) 9 (nI (at9 + 2))) 10 (nI dp)) 11 (nI sg)) R Z (updA B 10 (B 10)) J K41 w := hO.to rfl
    refine W.widen (k := (2 * (sz - at9) + 20)) (n := (11 * (2 * (sz - at9) + 20))) (by omega) (by omega) ?_
    have hzz1 : H.size ≤ s.heap.size + ((2 * ((at9 + 2) - at9) - 1)) := (by have z : 1 ≤ (2 * ((at9 + 2) - at9) - 1) := (by omega); omega)
    have hzz2 : hSl H ≤ hSl s.heap + ((11 * (2 * ((at9 + 2) - at9) - 1))) := (by have z : 11 ≤ (11 * (2 * ((at9 + 2) - at9) - 1)) := (by omega); omega)
    exact W.aret (v := .ref r40) hx hb hr (Or.inl ⟨_, rfl⟩) (Or.inr ⟨_, rfl⟩) (fun t99 ht99 hW99 => ⟨⟨_, (w, (r40, K41, g42, (at9 + 2), sg, (B 10), k43)), rfl, ⟨rfl, hz50, hz51, hz52, hz53, hz54, hz55, hO⟩, by rw [ht99]; exact hP, hD, by rw [ht99]; exact hzz1, by rw [ht99]; exact hzz2⟩, hS.F ht99⟩) hS.2.2 dX8_statementBy_239
  by_cases h56 : x = 3
  · subst h56
    refine lv_tableIn (tgt := 270) (off := 269) hx hb dX8_statementBy_1 (by decide) (by decide) (by decide) (by decide) ?_
    have hO : OKP G h0 a (upd (upd (upd (upd F 2 (nI sz)) 9 (nI at9)) 10 (nI dp)) 11 (nI sg)) R Z B J K w := hO.to rfl
    exact cut_d _ _ _ _ (NwT.le htk0 (by omega)) hP hD hS hO (lv_sub hl [0] rfl)
  by_cases h57 : x = 4
  · subst h57
    refine lv_tableIn (tgt := 270) (off := 269) hx hb dX8_statementBy_1 (by decide) (by decide) (by decide) (by decide) ?_
    have hO : OKP G h0 a (upd (upd (upd (upd F 2 (nI sz)) 9 (nI at9)) 10 (nI dp)) 11 (nI sg)) R Z B J K w := hO.to rfl
    exact cut_d _ _ _ _ (NwT.le htk0 (by omega)) hP hD hS hO (lv_sub hl [0] rfl)
  by_cases h58 : x = 5
  · subst h58
    refine lv_tableIn (tgt := 240) (off := 239) hx hb dX8_statementBy_1 (by decide) (by decide) (by decide) (by decide) ?_
    have htk : at9 < sz := tok_in hkx rfl (by decide : ¬ (5 : Int32) = 67) (by omega) hsz
    refine lv_aload_n hx hb dX8_statementBy_240 rfl (lv_at hl 0 rfl) ?_
    refine lv_bipush (v := 30) hx hb dX8_statementBy_241 (by decide) ?_
    refine lv_iconst (v := 0) hx hb dX8_statementBy_243 (by decide) ?_
    have hO : OKP G h0 a (upd (upd (upd (upd (upd (upd F 2 (nI sz)) 9 (nI at9)) 10 (nI dp)) 11 (nI sg)) 2 (nI sz)) 9 (nI at9)) R Z B J K w := hO.to rfl
    obtain ⟨_, qr62, hqr63⟩ := hO.2.1 23 _ (sg_23 G h0 a _ _ _ _ _)
    refine pn_V0 (G := G) (As := [.int 30, .int 0]) (rest := []) hx hb hml hown hq hE hX pX0_al hP hD hS hA hl.1 (P_word0 l G h0 a (upd (upd (upd (upd F 2 (nI sz)) 9 (nI at9)) 10 (nI dp)) 11 (nI sg)) R Z B J K w 30 at9 sz O g (by omega) (by omega) hwn (fun o9 h9 => ⟨(how o9 h9).1, fun z => (by rw [(how o9 h9).2.1] at z; omega), (how o9 h9).2.2⟩) (by omega) (fun C => ⟨fun z => absurd z (by decide), fun z => absurd z (by decide), fun z => absurd z (by decide), fun z => absurd z (by decide), fun z => absurd z (by decide)⟩) (fun kq hq => ⟨(fun z => absurd z (by decide)), fun _ => hq, (fun z => absurd z (by decide))⟩) (by decide) hO hl0) (gV pw_1048 pw_1049 pw_1050 pw_796 pw_1002) hV_X8_wordStatement qr62 5 hqr63 rfl rfl rfl (Nat.le_of_ble_eq_true rfl) dX8_statementBy_244 ⟨(by show 0 + 2 ≤ (2 * (sz - at9) + 20); omega), (by show 0 + 17 ≤ (11 * (2 * (sz - at9) + 20)); omega)⟩ ⟨(by show 8 + 1 ≤ (50 * n + 62); omega), (by show 8 + (4 + 11) + 143 ≤ (1500 * n + 1700); omega)⟩ (fun v61 u59 H locs hw60 hP hD hS => ?_) (fun ux ce9 q9 H9 locs9 hux hP9 hD9 hS9 hce hcv hcl => pb_out ux (ThQ.up (Thx.same (Thx.same Thx.rfl rfl) rfl) RhX.rfl hux) hnt hlocks hce hcv hcl hP9 hD9 hS9 (by show 0 + 2 ≤ (2 * (sz - at9) + 20); omega) (by show 0 + 17 ≤ (11 * (2 * (sz - at9) + 20)); omega))
    obtain ⟨w, r64, K65, g66, k67⟩ := u59
    obtain ⟨hw60, h68, h69, h70, h71, h72, hO⟩ := hw60
    have h68 : NwR K K65 g g66 r64 O k67 1 := h68
    have h69 : rS k67 = at9 ∧ rE k67 = at9 + 2 ∧ rD k67 = 0 := h69
    have h70 : K65.2.1 0 r64 = 30 := h70
    have h71 : at9 + 2 ≤ sz := h71
    have h72 : NwT ((B 7)) sz ((B 10)) ((B 10)) K K65 at9 (at9 + 2) := h72
    obtain rfl : v61 = some (.ref r64) := hw60
    have hO : OKP G h0 a (upd (upd (upd (upd F 2 (nI sz)) 9 (nI (at9 + 2))) 10 (nI dp)) 11 (nI sg)) R Z B J K65 w := hO.to rfl
    refine W.widen (k := 1) (n := 11) (by show 0 + 1 ≤ 1; omega) (by show 0 + 11 ≤ 11; omega) ?_
    refine W.eq (g2 := F0 m 247 ls [.ref r64]) rfl ?_
    have htk73 : NwT (B 7) sz (B 10) (B 10) K K65 at9 (at9 + 2) := (NwT.call htk0 h72 (by omega))
    refine W_size (fun hz1 hz2 => ?_)
    refine vx_ret ?_
    have hz74 : NwR K K65 g g66 r64 O k67 ((173 + 3 * (20 - dp))) := (NwR.up h68 (by omega))
    have hz75 : rS k67 = at9 ∧ rE k67 ≤ (at9 + 2) ∧ rS k67 ≤ rE k67 ∧ rD k67 ≤ 2 * (20 - dp) + 2 := (by omega)
    have hz76 : at9 + 1 ≤ (at9 + 2) ∧ (at9 + 2) ≤ sz := (by omega)
    have hz77 : sg ≤ sg ∧ sg ≤ 60 := (by omega)
    have hz78 : ¬ K65.2.1 0 r64 = 22 := (by rw [h70]; decide)
    have hz79 : NwT (B 7) sz (B 10) (B 10) K K65 at9 (at9 + 2) := (NwT.le htk73 (by omega))
    have hO : OKP G h0 a (upd (upd (upd (upd F 2 (nI sz)) 9 (nI (at9 + 2))) 10 (nI dp)) 11 (nI sg)) R Z (updA B 10 (B 10)) J K65 w := hO.to rfl
    refine W.widen (k := (2 * (sz - at9) + 20)) (n := (11 * (2 * (sz - at9) + 20))) (by omega) (by omega) ?_
    have hzz1 : H.size ≤ s.heap.size + ((2 * ((at9 + 2) - at9) - 1)) := (by have z : 1 ≤ (2 * ((at9 + 2) - at9) - 1) := (by omega); omega)
    have hzz2 : hSl H ≤ hSl s.heap + ((11 * (2 * ((at9 + 2) - at9) - 1))) := (by have z : 11 ≤ (11 * (2 * ((at9 + 2) - at9) - 1)) := (by omega); omega)
    exact W.aret (v := .ref r64) hx hb hr (Or.inl ⟨_, rfl⟩) (Or.inr ⟨_, rfl⟩) (fun t99 ht99 hW99 => ⟨⟨_, (w, (r64, K65, g66, (at9 + 2), sg, (B 10), k67)), rfl, ⟨rfl, hz74, hz75, hz76, hz77, hz78, hz79, hO⟩, by rw [ht99]; exact hP, hD, by rw [ht99]; exact hzz1, by rw [ht99]; exact hzz2⟩, hS.F ht99⟩) hS.2.2 dX8_statementBy_247
  by_cases h80 : x = 6
  · subst h80
    refine lv_tableIn (tgt := 270) (off := 269) hx hb dX8_statementBy_1 (by decide) (by decide) (by decide) (by decide) ?_
    have hO : OKP G h0 a (upd (upd (upd (upd F 2 (nI sz)) 9 (nI at9)) 10 (nI dp)) 11 (nI sg)) R Z B J K w := hO.to rfl
    exact cut_d _ _ _ _ (NwT.le htk0 (by omega)) hP hD hS hO (lv_sub hl [0] rfl)
  by_cases h81 : x = 7
  · subst h81
    refine lv_tableIn (tgt := 270) (off := 269) hx hb dX8_statementBy_1 (by decide) (by decide) (by decide) (by decide) ?_
    have hO : OKP G h0 a (upd (upd (upd (upd F 2 (nI sz)) 9 (nI at9)) 10 (nI dp)) 11 (nI sg)) R Z B J K w := hO.to rfl
    exact cut_d _ _ _ _ (NwT.le htk0 (by omega)) hP hD hS hO (lv_sub hl [0] rfl)
  by_cases h82 : x = 8
  · subst h82
    refine lv_tableIn (tgt := 270) (off := 269) hx hb dX8_statementBy_1 (by decide) (by decide) (by decide) (by decide) ?_
    have hO : OKP G h0 a (upd (upd (upd (upd F 2 (nI sz)) 9 (nI at9)) 10 (nI dp)) 11 (nI sg)) R Z B J K w := hO.to rfl
    exact cut_d _ _ _ _ (NwT.le htk0 (by omega)) hP hD hS hO (lv_sub hl [0] rfl)
  by_cases h83 : x = 9
  · subst h83
    refine lv_tableIn (tgt := 270) (off := 269) hx hb dX8_statementBy_1 (by decide) (by decide) (by decide) (by decide) ?_
    have hO : OKP G h0 a (upd (upd (upd (upd F 2 (nI sz)) 9 (nI at9)) 10 (nI dp)) 11 (nI sg)) R Z B J K w := hO.to rfl
    exact cut_d _ _ _ _ (NwT.le htk0 (by omega)) hP hD hS hO (lv_sub hl [0] rfl)
  by_cases h84 : x = 10
  · subst h84
    refine lv_tableIn (tgt := 179) (off := 178) hx hb dX8_statementBy_1 (by decide) (by decide) (by decide) (by decide) ?_
    have htk : at9 < sz := tok_in hkx rfl (by decide : ¬ (10 : Int32) = 67) (by omega) hsz
    refine lv_aload_n hx hb dX8_statementBy_179 rfl (lv_at hl 0 rfl) ?_
    have hO : OKP G h0 a (upd (upd (upd (upd (upd (upd (upd (upd F 2 (nI sz)) 9 (nI at9)) 10 (nI dp)) 11 (nI sg)) 2 (nI sz)) 9 (nI at9)) 10 (nI dp)) 11 (nI sg)) R Z B J K w := hO.to rfl
    obtain ⟨_, qr88, hqr89⟩ := hO.2.1 23 _ (sg_23 G h0 a _ _ _ _ _)
    refine pn_V0 (G := G) (As := []) (rest := []) hx hb hml hown hq hE hX pX0_al hP hD hS hA hl.1 (P_for l G h0 a (upd (upd (upd (upd F 2 (nI sz)) 9 (nI at9)) 10 (nI dp)) 11 (nI sg)) R Z B J K w n at9 sz dp sg O g (by omega) (by omega) hdp (by omega) hwn how (by omega) ist hO hl0) (gV pw_1039 pw_1040 pw_1041 pw_796 pw_1010) hV_X8_forStatement qr88 5 hqr89 rfl rfl rfl (Nat.le_of_ble_eq_true rfl) dX8_statementBy_180 ⟨(by show 0 + (2 * (sz - at9) + 20) ≤ (2 * (sz - at9) + 20); omega), (by show 0 + (11 * (2 * (sz - at9) + 20)) ≤ (11 * (2 * (sz - at9) + 20)); omega)⟩ ⟨(by show (50 * n + 58) + 1 ≤ (50 * n + 62); omega), (by show 8 + (2 + 11) + (1500 * n + 1650) ≤ (1500 * n + 1700); omega)⟩ (fun v87 u85 H locs hw86 hP hD hS => ?_) (fun ux ce9 q9 H9 locs9 hux hP9 hD9 hS9 hce hcv hcl => pb_out ux (ThQ.up (Thx.same (Thx.same (Thx.same (Thx.same Thx.rfl rfl) rfl) rfl) rfl) RhX.rfl hux) hnt hlocks hce hcv hcl hP9 hD9 hS9 (by show 0 + (2 * (sz - at9) + 20) ≤ (2 * (sz - at9) + 20); omega) (by show 0 + (11 * (2 * (sz - at9) + 20)) ≤ (11 * (2 * (sz - at9) + 20)); omega))
    obtain ⟨w, r90, K91, g92, at93, sg94, f95, k96⟩ := u85
    obtain ⟨hw86, h97, h98, h99, h100, h101, h102, hO⟩ := hw86
    have h97 : NwR K K91 g g92 r90 O k96 ((173 + 3 * (20 - dp))) := h97
    have h98 : rS k96 = at9 ∧ rE k96 ≤ at93 ∧ rS k96 ≤ rE k96 ∧ rD k96 ≤ 2 * (20 - dp) + 2 := h98
    have h99 : at9 + 6 ≤ at93 ∧ at93 ≤ sz := h99
    have h100 : sg ≤ sg94 ∧ sg94 ≤ 60 := h100
    have h101 : ¬ K91.2.1 0 r90 = 22 := h101
    have h102 : NwT ((B 7)) sz ((B 10)) f95 K K91 at9 at93 := h102
    obtain rfl : v87 = some (.ref r90) := hw86
    have hO : OKP G h0 a (upd (upd (upd (upd F 2 (nI sz)) 9 (nI at93)) 10 (nI dp)) 11 (nI sg94)) R Z (updA B 10 f95) J K91 w := hO.to rfl
    refine W.widen (k := (2 * (at93 - at9) - 6)) (n := (11 * (2 * (at93 - at9) - 6))) (by show 0 + (2 * (at93 - at9) - 6) ≤ (2 * (at93 - at9) - 6); omega) (by show 0 + (11 * (2 * (at93 - at9) - 6)) ≤ (11 * (2 * (at93 - at9) - 6)); omega) ?_
    refine W.eq (g2 := F0 m 183 ls [.ref r90]) rfl ?_
    have htk103 : NwT (B 7) sz (B 10) f95 K K91 at9 at93 := (NwT.call htk0 h102 (by omega))
    refine W_size (fun hz1 hz2 => ?_)
    refine vx_ret ?_
    have hz104 : NwR K K91 g g92 r90 O k96 ((173 + 3 * (20 - dp))) := (NwR.up h97 (by omega))
    have hz105 : rS k96 = at9 ∧ rE k96 ≤ at93 ∧ rS k96 ≤ rE k96 ∧ rD k96 ≤ 2 * (20 - dp) + 2 := (by omega)
    have hz106 : at9 + 1 ≤ at93 ∧ at93 ≤ sz := (by omega)
    have hz107 : sg ≤ sg94 ∧ sg94 ≤ 60 := (by omega)
    have hz108 : ¬ K91.2.1 0 r90 = 22 := h101
    have hz109 : NwT (B 7) sz (B 10) f95 K K91 at9 at93 := (NwT.le htk103 (by omega))
    have hO : OKP G h0 a (upd (upd (upd (upd F 2 (nI sz)) 9 (nI at93)) 10 (nI dp)) 11 (nI sg94)) R Z (updA B 10 f95) J K91 w := hO.to rfl
    refine W.widen (k := (2 * (sz - at9) + 20)) (n := (11 * (2 * (sz - at9) + 20))) (by omega) (by omega) ?_
    have hzz1 : H.size ≤ s.heap.size + ((2 * (at93 - at9) - 1)) := (by have z : (2 * (at93 - at9) - 6) ≤ (2 * (at93 - at9) - 1) := (by omega); omega)
    have hzz2 : hSl H ≤ hSl s.heap + ((11 * (2 * (at93 - at9) - 1))) := (by have z : (11 * (2 * (at93 - at9) - 6)) ≤ (11 * (2 * (at93 - at9) - 1)) := (by omega); omega)
    exact W.aret (v := .ref r90) hx hb hr (Or.inl ⟨_, rfl⟩) (Or.inr ⟨_, rfl⟩) (fun t99 ht99 hW99 => ⟨⟨_, (w, (r90, K91, g92, at93, sg94, f95, k96)), rfl, ⟨rfl, hz104, hz105, hz106, hz107, hz108, hz109, hO⟩, by rw [ht99]; exact hP, hD, by rw [ht99]; exact hzz1, by rw [ht99]; exact hzz2⟩, hS.F ht99⟩) hS.2.2 dX8_statementBy_183
  by_cases h110 : x = 11
  · subst h110
    refine lv_tableIn (tgt := 169) (off := 168) hx hb dX8_statementBy_1 (by decide) (by decide) (by decide) (by decide) ?_
    have htk : at9 < sz := tok_in hkx rfl (by decide : ¬ (11 : Int32) = 67) (by omega) hsz
    refine lv_aload_n hx hb dX8_statementBy_169 rfl (lv_at hl 0 rfl) ?_
    have hO : OKP G h0 a (upd (upd (upd (upd (upd (upd (upd (upd F 2 (nI sz)) 9 (nI at9)) 10 (nI dp)) 11 (nI sg)) 2 (nI sz)) 9 (nI at9)) 10 (nI dp)) 11 (nI sg)) R Z B J K w := hO.to rfl
    obtain ⟨_, qr114, hqr115⟩ := hO.2.1 23 _ (sg_23 G h0 a _ _ _ _ _)
    refine pn_V0 (G := G) (As := []) (rest := []) hx hb hml hown hq hE hX pX0_al hP hD hS hA hl.1 (P_if l G h0 a (upd (upd (upd (upd F 2 (nI sz)) 9 (nI at9)) 10 (nI dp)) 11 (nI sg)) R Z B J K w n at9 sz dp sg O g (by omega) (by omega) hdp (by omega) hwn how (by omega) ist hO hl0) (gV pw_1033 pw_1034 pw_1035 pw_796 pw_1021) hV_X8_ifStatement qr114 5 hqr115 rfl rfl rfl (Nat.le_of_ble_eq_true rfl) dX8_statementBy_170 ⟨(by show 0 + (2 * (sz - at9) + 20) ≤ (2 * (sz - at9) + 20); omega), (by show 0 + (11 * (2 * (sz - at9) + 20)) ≤ (11 * (2 * (sz - at9) + 20)); omega)⟩ ⟨(by show (50 * n + 58) + 1 ≤ (50 * n + 62); omega), (by show 8 + (2 + 11) + (1500 * n + 1650) ≤ (1500 * n + 1700); omega)⟩ (fun v113 u111 H locs hw112 hP hD hS => ?_) (fun ux ce9 q9 H9 locs9 hux hP9 hD9 hS9 hce hcv hcl => pb_out ux (ThQ.up (Thx.same (Thx.same (Thx.same (Thx.same Thx.rfl rfl) rfl) rfl) rfl) RhX.rfl hux) hnt hlocks hce hcv hcl hP9 hD9 hS9 (by show 0 + (2 * (sz - at9) + 20) ≤ (2 * (sz - at9) + 20); omega) (by show 0 + (11 * (2 * (sz - at9) + 20)) ≤ (11 * (2 * (sz - at9) + 20)); omega))
    obtain ⟨w, r116, K117, g118, at119, sg120, f121, k122⟩ := u111
    obtain ⟨hw112, h123, h124, h125, h126, h127, h128, hO⟩ := hw112
    have h123 : NwR K K117 g g118 r116 O k122 ((173 + 3 * (20 - dp))) := h123
    have h124 : rS k122 = at9 ∧ rE k122 ≤ at119 ∧ rS k122 ≤ rE k122 ∧ rD k122 ≤ 2 * (20 - dp) + 2 := h124
    have h125 : at9 + 5 ≤ at119 ∧ at119 ≤ sz := h125
    have h126 : sg ≤ sg120 ∧ sg120 ≤ 60 := h126
    have h127 : ¬ K117.2.1 0 r116 = 22 := h127
    have h128 : NwT ((B 7)) sz ((B 10)) f121 K K117 at9 at119 := h128
    obtain rfl : v113 = some (.ref r116) := hw112
    have hO : OKP G h0 a (upd (upd (upd (upd F 2 (nI sz)) 9 (nI at119)) 10 (nI dp)) 11 (nI sg120)) R Z (updA B 10 f121) J K117 w := hO.to rfl
    refine W.widen (k := (2 * (at119 - at9) - 5)) (n := (11 * (2 * (at119 - at9) - 5))) (by show 0 + (2 * (at119 - at9) - 5) ≤ (2 * (at119 - at9) - 5); omega) (by show 0 + (11 * (2 * (at119 - at9) - 5)) ≤ (11 * (2 * (at119 - at9) - 5)); omega) ?_
    refine W.eq (g2 := F0 m 173 ls [.ref r116]) rfl ?_
    have htk129 : NwT (B 7) sz (B 10) f121 K K117 at9 at119 := (NwT.call htk0 h128 (by omega))
    refine W_size (fun hz1 hz2 => ?_)
    refine vx_ret ?_
    have hz130 : NwR K K117 g g118 r116 O k122 ((173 + 3 * (20 - dp))) := (NwR.up h123 (by omega))
    have hz131 : rS k122 = at9 ∧ rE k122 ≤ at119 ∧ rS k122 ≤ rE k122 ∧ rD k122 ≤ 2 * (20 - dp) + 2 := (by omega)
    have hz132 : at9 + 1 ≤ at119 ∧ at119 ≤ sz := (by omega)
    have hz133 : sg ≤ sg120 ∧ sg120 ≤ 60 := (by omega)
    have hz134 : ¬ K117.2.1 0 r116 = 22 := h127
    have hz135 : NwT (B 7) sz (B 10) f121 K K117 at9 at119 := (NwT.le htk129 (by omega))
    have hO : OKP G h0 a (upd (upd (upd (upd F 2 (nI sz)) 9 (nI at119)) 10 (nI dp)) 11 (nI sg120)) R Z (updA B 10 f121) J K117 w := hO.to rfl
    refine W.widen (k := (2 * (sz - at9) + 20)) (n := (11 * (2 * (sz - at9) + 20))) (by omega) (by omega) ?_
    have hzz1 : H.size ≤ s.heap.size + ((2 * (at119 - at9) - 1)) := (by have z : (2 * (at119 - at9) - 5) ≤ (2 * (at119 - at9) - 1) := (by omega); omega)
    have hzz2 : hSl H ≤ hSl s.heap + ((11 * (2 * (at119 - at9) - 1))) := (by have z : (11 * (2 * (at119 - at9) - 5)) ≤ (11 * (2 * (at119 - at9) - 1)) := (by omega); omega)
    exact W.aret (v := .ref r116) hx hb hr (Or.inl ⟨_, rfl⟩) (Or.inr ⟨_, rfl⟩) (fun t99 ht99 hW99 => ⟨⟨_, (w, (r116, K117, g118, at119, sg120, f121, k122)), rfl, ⟨rfl, hz130, hz131, hz132, hz133, hz134, hz135, hO⟩, by rw [ht99]; exact hP, hD, by rw [ht99]; exact hzz1, by rw [ht99]; exact hzz2⟩, hS.F ht99⟩) hS.2.2 dX8_statementBy_173
  by_cases h136 : x = 12
  · subst h136
    refine lv_tableIn (tgt := 270) (off := 269) hx hb dX8_statementBy_1 (by decide) (by decide) (by decide) (by decide) ?_
    have hO : OKP G h0 a (upd (upd (upd (upd F 2 (nI sz)) 9 (nI at9)) 10 (nI dp)) 11 (nI sg)) R Z B J K w := hO.to rfl
    exact cut_d _ _ _ _ (NwT.le htk0 (by omega)) hP hD hS hO (lv_sub hl [0] rfl)
  by_cases h137 : x = 13
  · subst h137
    refine lv_tableIn (tgt := 270) (off := 269) hx hb dX8_statementBy_1 (by decide) (by decide) (by decide) (by decide) ?_
    have hO : OKP G h0 a (upd (upd (upd (upd F 2 (nI sz)) 9 (nI at9)) 10 (nI dp)) 11 (nI sg)) R Z B J K w := hO.to rfl
    exact cut_d _ _ _ _ (NwT.le htk0 (by omega)) hP hD hS hO (lv_sub hl [0] rfl)
  by_cases h138 : x = 14
  · subst h138
    refine lv_tableIn (tgt := 270) (off := 269) hx hb dX8_statementBy_1 (by decide) (by decide) (by decide) (by decide) ?_
    have hO : OKP G h0 a (upd (upd (upd (upd F 2 (nI sz)) 9 (nI at9)) 10 (nI dp)) 11 (nI sg)) R Z B J K w := hO.to rfl
    exact cut_d _ _ _ _ (NwT.le htk0 (by omega)) hP hD hS hO (lv_sub hl [0] rfl)
  by_cases h139 : x = 15
  · subst h139
    refine lv_tableIn (tgt := 270) (off := 269) hx hb dX8_statementBy_1 (by decide) (by decide) (by decide) (by decide) ?_
    have hO : OKP G h0 a (upd (upd (upd (upd F 2 (nI sz)) 9 (nI at9)) 10 (nI dp)) 11 (nI sg)) R Z B J K w := hO.to rfl
    exact cut_d _ _ _ _ (NwT.le htk0 (by omega)) hP hD hS hO (lv_sub hl [0] rfl)
  by_cases h140 : x = 16
  · subst h140
    refine lv_tableIn (tgt := 270) (off := 269) hx hb dX8_statementBy_1 (by decide) (by decide) (by decide) (by decide) ?_
    have hO : OKP G h0 a (upd (upd (upd (upd F 2 (nI sz)) 9 (nI at9)) 10 (nI dp)) 11 (nI sg)) R Z B J K w := hO.to rfl
    exact cut_d _ _ _ _ (NwT.le htk0 (by omega)) hP hD hS hO (lv_sub hl [0] rfl)
  by_cases h141 : x = 17
  · subst h141
    refine lv_tableIn (tgt := 270) (off := 269) hx hb dX8_statementBy_1 (by decide) (by decide) (by decide) (by decide) ?_
    have hO : OKP G h0 a (upd (upd (upd (upd F 2 (nI sz)) 9 (nI at9)) 10 (nI dp)) 11 (nI sg)) R Z B J K w := hO.to rfl
    exact cut_d _ _ _ _ (NwT.le htk0 (by omega)) hP hD hS hO (lv_sub hl [0] rfl)
  by_cases h142 : x = 18
  · subst h142
    refine lv_tableIn (tgt := 270) (off := 269) hx hb dX8_statementBy_1 (by decide) (by decide) (by decide) (by decide) ?_
    have hO : OKP G h0 a (upd (upd (upd (upd F 2 (nI sz)) 9 (nI at9)) 10 (nI dp)) 11 (nI sg)) R Z B J K w := hO.to rfl
    exact cut_d _ _ _ _ (NwT.le htk0 (by omega)) hP hD hS hO (lv_sub hl [0] rfl)
  by_cases h143 : x = 19
  · subst h143
    refine lv_tableIn (tgt := 189) (off := 188) hx hb dX8_statementBy_1 (by decide) (by decide) (by decide) (by decide) ?_
    have htk : at9 < sz := tok_in hkx rfl (by decide : ¬ (19 : Int32) = 67) (by omega) hsz
    refine lv_aload_n hx hb dX8_statementBy_189 rfl (lv_at hl 0 rfl) ?_
    have hO : OKP G h0 a (upd (upd (upd (upd (upd (upd (upd (upd F 2 (nI sz)) 9 (nI at9)) 10 (nI dp)) 11 (nI sg)) 2 (nI sz)) 9 (nI at9)) 10 (nI dp)) 11 (nI sg)) R Z B J K w := hO.to rfl
    obtain ⟨_, qr147, hqr148⟩ := hO.2.1 23 _ (sg_23 G h0 a _ _ _ _ _)
    refine pn_V0 (G := G) (As := []) (rest := []) hx hb hml hown hq hE hX pX0_al hP hD hS hA hl.1 (P_print l G h0 a (upd (upd (upd (upd F 2 (nI sz)) 9 (nI at9)) 10 (nI dp)) 11 (nI sg)) R Z B J K w n at9 sz dp sg O g (by omega) (by omega) hdp (by omega) hwn how (by omega) hO hl0) (gV pw_1045 pw_1046 pw_1047 pw_796 pw_1001) hV_X8_printStatement qr147 5 hqr148 rfl rfl rfl (Nat.le_of_ble_eq_true rfl) dX8_statementBy_190 ⟨(by show 0 + (2 * (sz - at9) + 20) ≤ (2 * (sz - at9) + 20); omega), (by show 0 + (11 * (2 * (sz - at9) + 20)) ≤ (11 * (2 * (sz - at9) + 20)); omega)⟩ ⟨(by show (40 * n + 44) + 1 ≤ (50 * n + 62); omega), (by show 8 + (2 + 11) + (1300 * n + 1400) ≤ (1500 * n + 1700); omega)⟩ (fun v146 u144 H locs hw145 hP hD hS => ?_) (fun ux ce9 q9 H9 locs9 hux hP9 hD9 hS9 hce hcv hcl => pb_out ux (ThQ.up (Thx.same (Thx.same (Thx.same (Thx.same Thx.rfl rfl) rfl) rfl) rfl) RhX.rfl hux) hnt hlocks hce hcv hcl hP9 hD9 hS9 (by show 0 + (2 * (sz - at9) + 20) ≤ (2 * (sz - at9) + 20); omega) (by show 0 + (11 * (2 * (sz - at9) + 20)) ≤ (11 * (2 * (sz - at9) + 20)); omega))
    obtain ⟨w, r149, K150, g151, at152, sg153, f154, k155⟩ := u144
    obtain ⟨hw145, h156, h157, h158, h159, h160, h161, hO⟩ := hw145
    have h156 : NwR K K150 g g151 r149 O k155 ((173 + 3 * (20 - dp))) := h156
    have h157 : rS k155 = at9 ∧ rE k155 ≤ at152 ∧ rS k155 ≤ rE k155 ∧ rD k155 ≤ 2 * (20 - dp) + 2 := h157
    have h158 : at9 + 5 ≤ at152 ∧ at152 ≤ sz := h158
    have h159 : sg ≤ sg153 ∧ sg153 ≤ 60 := h159
    have h160 : ¬ K150.2.1 0 r149 = 22 := h160
    have h161 : NwT ((B 7)) sz ((B 10)) f154 K K150 at9 at152 := h161
    obtain rfl : v146 = some (.ref r149) := hw145
    have hO : OKP G h0 a (upd (upd (upd (upd F 2 (nI sz)) 9 (nI at152)) 10 (nI dp)) 11 (nI sg153)) R Z (updA B 10 f154) J K150 w := hO.to rfl
    refine W.widen (k := (2 * (at152 - at9) - 5)) (n := (11 * (2 * (at152 - at9) - 5))) (by show 0 + (2 * (at152 - at9) - 5) ≤ (2 * (at152 - at9) - 5); omega) (by show 0 + (11 * (2 * (at152 - at9) - 5)) ≤ (11 * (2 * (at152 - at9) - 5)); omega) ?_
    refine W.eq (g2 := F0 m 193 ls [.ref r149]) rfl ?_
    have htk162 : NwT (B 7) sz (B 10) f154 K K150 at9 at152 := (NwT.call htk0 h161 (by omega))
    refine W_size (fun hz1 hz2 => ?_)
    refine vx_ret ?_
    have hz163 : NwR K K150 g g151 r149 O k155 ((173 + 3 * (20 - dp))) := (NwR.up h156 (by omega))
    have hz164 : rS k155 = at9 ∧ rE k155 ≤ at152 ∧ rS k155 ≤ rE k155 ∧ rD k155 ≤ 2 * (20 - dp) + 2 := (by omega)
    have hz165 : at9 + 1 ≤ at152 ∧ at152 ≤ sz := (by omega)
    have hz166 : sg ≤ sg153 ∧ sg153 ≤ 60 := (by omega)
    have hz167 : ¬ K150.2.1 0 r149 = 22 := h160
    have hz168 : NwT (B 7) sz (B 10) f154 K K150 at9 at152 := (NwT.le htk162 (by omega))
    have hO : OKP G h0 a (upd (upd (upd (upd F 2 (nI sz)) 9 (nI at152)) 10 (nI dp)) 11 (nI sg153)) R Z (updA B 10 f154) J K150 w := hO.to rfl
    refine W.widen (k := (2 * (sz - at9) + 20)) (n := (11 * (2 * (sz - at9) + 20))) (by omega) (by omega) ?_
    have hzz1 : H.size ≤ s.heap.size + ((2 * (at152 - at9) - 1)) := (by have z : (2 * (at152 - at9) - 5) ≤ (2 * (at152 - at9) - 1) := (by omega); omega)
    have hzz2 : hSl H ≤ hSl s.heap + ((11 * (2 * (at152 - at9) - 1))) := (by have z : (11 * (2 * (at152 - at9) - 5)) ≤ (11 * (2 * (at152 - at9) - 1)) := (by omega); omega)
    exact W.aret (v := .ref r149) hx hb hr (Or.inl ⟨_, rfl⟩) (Or.inr ⟨_, rfl⟩) (fun t99 ht99 hW99 => ⟨⟨_, (w, (r149, K150, g151, at152, sg153, f154, k155)), rfl, ⟨rfl, hz163, hz164, hz165, hz166, hz167, hz168, hO⟩, by rw [ht99]; exact hP, hD, by rw [ht99]; exact hzz1, by rw [ht99]; exact hzz2⟩, hS.F ht99⟩) hS.2.2 dX8_statementBy_193
  by_cases h169 : x = 20
  · subst h169
    refine lv_tableIn (tgt := 270) (off := 269) hx hb dX8_statementBy_1 (by decide) (by decide) (by decide) (by decide) ?_
    have hO : OKP G h0 a (upd (upd (upd (upd F 2 (nI sz)) 9 (nI at9)) 10 (nI dp)) 11 (nI sg)) R Z B J K w := hO.to rfl
    exact cut_d _ _ _ _ (NwT.le htk0 (by omega)) hP hD hS hO (lv_sub hl [0] rfl)
  by_cases h170 : x = 21
  · subst h170
    refine lv_tableIn (tgt := 194) (off := 193) hx hb dX8_statementBy_1 (by decide) (by decide) (by decide) (by decide) ?_
    have htk : at9 < sz := tok_in hkx rfl (by decide : ¬ (21 : Int32) = 67) (by omega) hsz
    refine lv_aload_n hx hb dX8_statementBy_194 rfl (lv_at hl 0 rfl) ?_
    refine lv_bipush (v := 28) hx hb dX8_statementBy_195 (by decide) ?_
    refine lv_aload_n hx hb dX8_statementBy_197 rfl (lv_at hl 0 rfl) ?_
    refine c_get (v := .ref (a 1)) (C := RX8) (Tc := TX8) (N := 5) (ci := 5) hx hb hq pin_wsX80 hown hE hP hO 23 (sg_23 G h0 a _ _ _ _ _) rfl 0 (by decide) (hq _ pw_774) (fun _ h9 => h9) rfl dX8_statementBy_198 ?_
    refine lv_aload_n hx hb dX8_statementBy_201 rfl (lv_at hl 0 rfl) ?_
    refine c_get (v := .int (nI at9)) (C := RX8) (Tc := TX8) (N := 5) (ci := 5) hx hb hq pin_wsX80 hown hE hP hO 23 (sg_23 G h0 a _ _ _ _ _) rfl 2 (by decide) (hq _ pw_776) (fun _ h9 => h9) rfl dX8_statementBy_202 ?_
    refine lv_iconst (v := 1) hx hb dX8_statementBy_205 (by decide) ?_
    refine lv_iadd hx hb dX8_statementBy_206 ?_
    refine lv_topi (fun x171 e172 => ?_)
    obtain rfl : x171 = nI (at9 + 1) := e172.trans (nI_add (at9) (1))
    have hO : OKW G h0 a (upd (upd (upd (upd (upd F 2 (nI sz)) 9 (nI at9)) 10 (nI dp)) 11 (nI sg)) 2 (nI sz)) R Z B J K.1 (fun q99 x99 => x99 = rep G a K q99) w := hO.to rfl
    obtain ⟨_, qr176, hqr177⟩ := hO.2.1 2 _ (sg_2 G h0 a _ _ _ _ _)
    refine pc_V0 (G := G) (As := [.int (nI (at9 + 1))]) (rest := [.int 28, .ref (a 3)]) hx hb hml hown hq hE hX pX0_al hP hD hS hA hl.1 (K_kindX l G h0 a (upd (upd (upd (upd F 2 (nI sz)) 9 (nI at9)) 10 (nI dp)) 11 (nI sg)) R Z B J K.1 (fun q99 x99 => x99 = rep G a K q99) w (nI (at9 + 1)) sz (by omega) hO) (gV pw_777 pw_193 pw_194 pw_59 pw_126) hV_X10_kindAt qr176 7 hqr177 rfl rfl rfl (Nat.le_of_ble_eq_true rfl) dX8_statementBy_207 ⟨(by show 0 + 0 ≤ (2 * (sz - at9) + 20); omega), (by show 0 + 0 ≤ (11 * (2 * (sz - at9) + 20)); omega)⟩ ⟨(by show 2 + 1 ≤ (50 * n + 62); omega), (by show 8 + (2 + 11) + 60 ≤ (1500 * n + 1700); omega)⟩ (fun v175 u173 H locs hw174 hP hD hS => ?_)
    obtain ⟨w, r178⟩ := u173
    obtain ⟨hw174, h179, h180, hO⟩ := hw174
    have h179 : r178 = 67 ∨ ∃ t : Nat, (nI (at9 + 1)) = nI t ∧ t < sz := h179
    have h180 : r178 = tkN ((B 7)) sz 67 (nI (at9 + 1)) := h180
    obtain rfl : v175 = some (.int r178) := hw174
    have hO : OKP G h0 a (upd (upd (upd (upd F 2 (nI sz)) 9 (nI at9)) 10 (nI dp)) 11 (nI sg)) R Z B J K w := hO.to rfl
    refine W.widen (k := 0) (n := 0) (Nat.le_of_ble_eq_true rfl) (Nat.le_of_ble_eq_true rfl) ?_
    refine W.eq (g2 := F0 m 210 ls [.int r178, .int 28, .ref (a 3)]) rfl ?_
    refine lv_bipush (v := 38) hx hb dX8_statementBy_210 (by decide) ?_
    refine lv_icmp_eq (tgt := 219) hx hb dX8_statementBy_212 (by decide) (fun c181 => ?_) (fun c181 => ?_)
    · refine lv_iconst (v := 0) hx hb dX8_statementBy_219 (by decide) ?_
      have hO : OKP G h0 a (upd (upd (upd (upd (upd (upd F 2 (nI sz)) 9 (nI at9)) 10 (nI dp)) 11 (nI sg)) 2 (nI sz)) 9 (nI at9)) R Z B J K w := hO.to rfl
      obtain ⟨_, qr185, hqr186⟩ := hO.2.1 23 _ (sg_23 G h0 a _ _ _ _ _)
      refine pn_V0 (G := G) (As := [.int 28, .int 0]) (rest := []) hx hb hml hown hq hE hX pX0_al hP hD hS hA hl.1 (P_word0 l G h0 a (upd (upd (upd (upd F 2 (nI sz)) 9 (nI at9)) 10 (nI dp)) 11 (nI sg)) R Z B J K w 28 at9 sz O g (by omega) (by omega) hwn (fun o9 h9 => ⟨(how o9 h9).1, fun z => (by rw [(how o9 h9).2.1] at z; omega), (how o9 h9).2.2⟩) (by omega) (fun C => ⟨fun z => absurd z (by decide), fun z => absurd z (by decide), fun z => absurd z (by decide), fun z => absurd z (by decide), fun z => absurd z (by decide)⟩) (fun kq hq => ⟨(fun z => absurd z (by decide)), fun _ => hq, (fun z => absurd z (by decide))⟩) (by decide) hO hl0) (gV pw_1048 pw_1049 pw_1050 pw_796 pw_1002) hV_X8_wordStatement qr185 5 hqr186 rfl rfl rfl (Nat.le_of_ble_eq_true rfl) dX8_statementBy_220 ⟨(by show 0 + 2 ≤ (2 * (sz - at9) + 20); omega), (by show 0 + 17 ≤ (11 * (2 * (sz - at9) + 20)); omega)⟩ ⟨(by show 8 + 1 ≤ (50 * n + 62); omega), (by show 8 + (4 + 11) + 143 ≤ (1500 * n + 1700); omega)⟩ (fun v184 u182 H locs hw183 hP hD hS => ?_) (fun ux ce9 q9 H9 locs9 hux hP9 hD9 hS9 hce hcv hcl => pb_out ux (ThQ.up (Thx.same (Thx.same Thx.rfl rfl) rfl) RhX.rfl hux) hnt hlocks hce hcv hcl hP9 hD9 hS9 (by show 0 + 2 ≤ (2 * (sz - at9) + 20); omega) (by show 0 + 17 ≤ (11 * (2 * (sz - at9) + 20)); omega))
      obtain ⟨w, r187, K188, g189, k190⟩ := u182
      obtain ⟨hw183, h191, h192, h193, h194, h195, hO⟩ := hw183
      have h191 : NwR K K188 g g189 r187 O k190 1 := h191
      have h192 : rS k190 = at9 ∧ rE k190 = at9 + 2 ∧ rD k190 = 0 := h192
      have h193 : K188.2.1 0 r187 = 28 := h193
      have h194 : at9 + 2 ≤ sz := h194
      have h195 : NwT ((B 7)) sz ((B 10)) ((B 10)) K K188 at9 (at9 + 2) := h195
      obtain rfl : v184 = some (.ref r187) := hw183
      have hO : OKP G h0 a (upd (upd (upd (upd F 2 (nI sz)) 9 (nI (at9 + 2))) 10 (nI dp)) 11 (nI sg)) R Z B J K188 w := hO.to rfl
      refine W.widen (k := 1) (n := 11) (by show 0 + 1 ≤ 1; omega) (by show 0 + 11 ≤ 11; omega) ?_
      refine W.eq (g2 := F0 m 223 ls [.ref r187]) rfl ?_
      have htk196 : NwT (B 7) sz (B 10) (B 10) K K188 at9 (at9 + 2) := (NwT.call htk0 h195 (by omega))
      refine W_size (fun hz1 hz2 => ?_)
      refine vx_ret ?_
      have hz197 : NwR K K188 g g189 r187 O k190 ((173 + 3 * (20 - dp))) := (NwR.up h191 (by omega))
      have hz198 : rS k190 = at9 ∧ rE k190 ≤ (at9 + 2) ∧ rS k190 ≤ rE k190 ∧ rD k190 ≤ 2 * (20 - dp) + 2 := (by omega)
      have hz199 : at9 + 1 ≤ (at9 + 2) ∧ (at9 + 2) ≤ sz := (by omega)
      have hz200 : sg ≤ sg ∧ sg ≤ 60 := (by omega)
      have hz201 : ¬ K188.2.1 0 r187 = 22 := (by rw [h193]; decide)
      have hz202 : NwT (B 7) sz (B 10) (B 10) K K188 at9 (at9 + 2) := (NwT.le htk196 (by omega))
      have hO : OKP G h0 a (upd (upd (upd (upd F 2 (nI sz)) 9 (nI (at9 + 2))) 10 (nI dp)) 11 (nI sg)) R Z (updA B 10 (B 10)) J K188 w := hO.to rfl
      refine W.widen (k := (2 * (sz - at9) + 20)) (n := (11 * (2 * (sz - at9) + 20))) (by omega) (by omega) ?_
      have hzz1 : H.size ≤ s.heap.size + ((2 * ((at9 + 2) - at9) - 1)) := (by have z : 1 ≤ (2 * ((at9 + 2) - at9) - 1) := (by omega); omega)
      have hzz2 : hSl H ≤ hSl s.heap + ((11 * (2 * ((at9 + 2) - at9) - 1))) := (by have z : 11 ≤ (11 * (2 * ((at9 + 2) - at9) - 1)) := (by omega); omega)
      exact W.aret (v := .ref r187) hx hb hr (Or.inl ⟨_, rfl⟩) (Or.inr ⟨_, rfl⟩) (fun t99 ht99 hW99 => ⟨⟨_, (w, (r187, K188, g189, (at9 + 2), sg, (B 10), k190)), rfl, ⟨rfl, hz197, hz198, hz199, hz200, hz201, hz202, hO⟩, by rw [ht99]; exact hP, hD, by rw [ht99]; exact hzz1, by rw [ht99]; exact hzz2⟩, hS.F ht99⟩) hS.2.2 dX8_statementBy_223
    · refine lv_iconst (v := 1) hx hb dX8_statementBy_215 (by decide) ?_
      refine lv_goto (tgt := 220) hx hb dX8_statementBy_216 (by decide) ?_
      have hO : OKP G h0 a (upd (upd (upd (upd (upd (upd (upd (upd F 2 (nI sz)) 9 (nI at9)) 10 (nI dp)) 11 (nI sg)) 2 (nI sz)) 9 (nI at9)) 10 (nI dp)) 11 (nI sg)) R Z B J K w := hO.to rfl
      obtain ⟨_, qr206, hqr207⟩ := hO.2.1 23 _ (sg_23 G h0 a _ _ _ _ _)
      refine pn_V0 (G := G) (As := [.int 28, .int 1]) (rest := []) hx hb hml hown hq hE hX pX0_al hP hD hS hA hl.1 (P_word1 l G h0 a (upd (upd (upd (upd F 2 (nI sz)) 9 (nI at9)) 10 (nI dp)) 11 (nI sg)) R Z B J K w 28 n at9 sz dp sg O g (by omega) (by omega) hdp (by omega) hwn how (by omega) (by decide) hO hl0) (gV pw_1048 pw_1049 pw_1050 pw_796 pw_1002) hV_X8_wordStatement qr206 5 hqr207 rfl rfl rfl (Nat.le_of_ble_eq_true rfl) dX8_statementBy_220 ⟨(by show 0 + (2 * (sz - at9) + 20) ≤ (2 * (sz - at9) + 20); omega), (by show 0 + (11 * (2 * (sz - at9) + 20)) ≤ (11 * (2 * (sz - at9) + 20)); omega)⟩ ⟨(by show (40 * n + 44) + 1 ≤ (50 * n + 62); omega), (by show 8 + (4 + 11) + (1300 * n + 1400) ≤ (1500 * n + 1700); omega)⟩ (fun v205 u203 H locs hw204 hP hD hS => ?_) (fun ux ce9 q9 H9 locs9 hux hP9 hD9 hS9 hce hcv hcl => pb_out ux (ThQ.up (Thx.same (Thx.same (Thx.same (Thx.same Thx.rfl rfl) rfl) rfl) rfl) RhX.rfl hux) hnt hlocks hce hcv hcl hP9 hD9 hS9 (by show 0 + (2 * (sz - at9) + 20) ≤ (2 * (sz - at9) + 20); omega) (by show 0 + (11 * (2 * (sz - at9) + 20)) ≤ (11 * (2 * (sz - at9) + 20)); omega))
      obtain ⟨w, r208, K209, g210, at211, sg212, f213, k214⟩ := u203
      obtain ⟨hw204, h215, h216, h217, h218, h219, h220, hO⟩ := hw204
      have h215 : NwR K K209 g g210 r208 O k214 ((173 + 3 * (20 - dp))) := h215
      have h216 : rS k214 = at9 ∧ rE k214 ≤ at211 ∧ rS k214 ≤ rE k214 ∧ rD k214 ≤ 2 * (20 - dp) + 2 := h216
      have h217 : at9 + 3 ≤ at211 ∧ at211 ≤ sz := h217
      have h218 : sg ≤ sg212 ∧ sg212 ≤ 60 := h218
      have h219 : ¬ K209.2.1 0 r208 = 22 := h219
      have h220 : NwT ((B 7)) sz ((B 10)) f213 K K209 at9 at211 := h220
      obtain rfl : v205 = some (.ref r208) := hw204
      have hO : OKP G h0 a (upd (upd (upd (upd F 2 (nI sz)) 9 (nI at211)) 10 (nI dp)) 11 (nI sg212)) R Z (updA B 10 f213) J K209 w := hO.to rfl
      refine W.widen (k := (2 * (at211 - at9) - 4)) (n := (11 * (2 * (at211 - at9) - 4))) (by show 0 + (2 * (at211 - at9) - 4) ≤ (2 * (at211 - at9) - 4); omega) (by show 0 + (11 * (2 * (at211 - at9) - 4)) ≤ (11 * (2 * (at211 - at9) - 4)); omega) ?_
      refine W.eq (g2 := F0 m 223 ls [.ref r208]) rfl ?_
      have htk221 : NwT (B 7) sz (B 10) f213 K K209 at9 at211 := (NwT.call htk0 h220 (by omega))
      refine W_size (fun hz1 hz2 => ?_)
      refine vx_ret ?_
      have hz222 : NwR K K209 g g210 r208 O k214 ((173 + 3 * (20 - dp))) := (NwR.up h215 (by omega))
      have hz223 : rS k214 = at9 ∧ rE k214 ≤ at211 ∧ rS k214 ≤ rE k214 ∧ rD k214 ≤ 2 * (20 - dp) + 2 := (by omega)
      have hz224 : at9 + 1 ≤ at211 ∧ at211 ≤ sz := (by omega)
      have hz225 : sg ≤ sg212 ∧ sg212 ≤ 60 := (by omega)
      have hz226 : ¬ K209.2.1 0 r208 = 22 := h219
      have hz227 : NwT (B 7) sz (B 10) f213 K K209 at9 at211 := (NwT.le htk221 (by omega))
      have hO : OKP G h0 a (upd (upd (upd (upd F 2 (nI sz)) 9 (nI at211)) 10 (nI dp)) 11 (nI sg212)) R Z (updA B 10 f213) J K209 w := hO.to rfl
      refine W.widen (k := (2 * (sz - at9) + 20)) (n := (11 * (2 * (sz - at9) + 20))) (by omega) (by omega) ?_
      have hzz1 : H.size ≤ s.heap.size + ((2 * (at211 - at9) - 1)) := (by have z : (2 * (at211 - at9) - 4) ≤ (2 * (at211 - at9) - 1) := (by omega); omega)
      have hzz2 : hSl H ≤ hSl s.heap + ((11 * (2 * (at211 - at9) - 1))) := (by have z : (11 * (2 * (at211 - at9) - 4)) ≤ (11 * (2 * (at211 - at9) - 1)) := (by omega); omega)
      exact W.aret (v := .ref r208) hx hb hr (Or.inl ⟨_, rfl⟩) (Or.inr ⟨_, rfl⟩) (fun t99 ht99 hW99 => ⟨⟨_, (w, (r208, K209, g210, at211, sg212, f213, k214)), rfl, ⟨rfl, hz222, hz223, hz224, hz225, hz226, hz227, hO⟩, by rw [ht99]; exact hP, hD, by rw [ht99]; exact hzz1, by rw [ht99]; exact hzz2⟩, hS.F ht99⟩) hS.2.2 dX8_statementBy_223
  by_cases h228 : x = 22
  · subst h228
    refine lv_tableIn (tgt := 270) (off := 269) hx hb dX8_statementBy_1 (by decide) (by decide) (by decide) (by decide) ?_
    have hO : OKP G h0 a (upd (upd (upd (upd F 2 (nI sz)) 9 (nI at9)) 10 (nI dp)) 11 (nI sg)) R Z B J K w := hO.to rfl
    exact cut_d _ _ _ _ (NwT.le htk0 (by omega)) hP hD hS hO (lv_sub hl [0] rfl)
  by_cases h229 : x = 23
  · subst h229
    refine lv_tableIn (tgt := 270) (off := 269) hx hb dX8_statementBy_1 (by decide) (by decide) (by decide) (by decide) ?_
    have hO : OKP G h0 a (upd (upd (upd (upd F 2 (nI sz)) 9 (nI at9)) 10 (nI dp)) 11 (nI sg)) R Z B J K w := hO.to rfl
    exact cut_d _ _ _ _ (NwT.le htk0 (by omega)) hP hD hS hO (lv_sub hl [0] rfl)
  by_cases h230 : x = 24
  · subst h230
    refine lv_tableIn (tgt := 224) (off := 223) hx hb dX8_statementBy_1 (by decide) (by decide) (by decide) (by decide) ?_
    have htk : at9 < sz := tok_in hkx rfl (by decide : ¬ (24 : Int32) = 67) (by omega) hsz
    refine lv_aload_n hx hb dX8_statementBy_224 rfl (lv_at hl 0 rfl) ?_
    refine lv_bipush (v := 31) hx hb dX8_statementBy_225 (by decide) ?_
    refine lv_iconst (v := 1) hx hb dX8_statementBy_227 (by decide) ?_
    have hO : OKP G h0 a (upd (upd (upd (upd (upd (upd (upd (upd F 2 (nI sz)) 9 (nI at9)) 10 (nI dp)) 11 (nI sg)) 2 (nI sz)) 9 (nI at9)) 10 (nI dp)) 11 (nI sg)) R Z B J K w := hO.to rfl
    obtain ⟨_, qr234, hqr235⟩ := hO.2.1 23 _ (sg_23 G h0 a _ _ _ _ _)
    refine pn_V0 (G := G) (As := [.int 31, .int 1]) (rest := []) hx hb hml hown hq hE hX pX0_al hP hD hS hA hl.1 (P_word1 l G h0 a (upd (upd (upd (upd F 2 (nI sz)) 9 (nI at9)) 10 (nI dp)) 11 (nI sg)) R Z B J K w 31 n at9 sz dp sg O g (by omega) (by omega) hdp (by omega) hwn how (by omega) (by decide) hO hl0) (gV pw_1048 pw_1049 pw_1050 pw_796 pw_1002) hV_X8_wordStatement qr234 5 hqr235 rfl rfl rfl (Nat.le_of_ble_eq_true rfl) dX8_statementBy_228 ⟨(by show 0 + (2 * (sz - at9) + 20) ≤ (2 * (sz - at9) + 20); omega), (by show 0 + (11 * (2 * (sz - at9) + 20)) ≤ (11 * (2 * (sz - at9) + 20)); omega)⟩ ⟨(by show (40 * n + 44) + 1 ≤ (50 * n + 62); omega), (by show 8 + (4 + 11) + (1300 * n + 1400) ≤ (1500 * n + 1700); omega)⟩ (fun v233 u231 H locs hw232 hP hD hS => ?_) (fun ux ce9 q9 H9 locs9 hux hP9 hD9 hS9 hce hcv hcl => pb_out ux (ThQ.up (Thx.same (Thx.same (Thx.same (Thx.same Thx.rfl rfl) rfl) rfl) rfl) RhX.rfl hux) hnt hlocks hce hcv hcl hP9 hD9 hS9 (by show 0 + (2 * (sz - at9) + 20) ≤ (2 * (sz - at9) + 20); omega) (by show 0 + (11 * (2 * (sz - at9) + 20)) ≤ (11 * (2 * (sz - at9) + 20)); omega))
    obtain ⟨w, r236, K237, g238, at239, sg240, f241, k242⟩ := u231
    obtain ⟨hw232, h243, h244, h245, h246, h247, h248, hO⟩ := hw232
    have h243 : NwR K K237 g g238 r236 O k242 ((173 + 3 * (20 - dp))) := h243
    have h244 : rS k242 = at9 ∧ rE k242 ≤ at239 ∧ rS k242 ≤ rE k242 ∧ rD k242 ≤ 2 * (20 - dp) + 2 := h244
    have h245 : at9 + 3 ≤ at239 ∧ at239 ≤ sz := h245
    have h246 : sg ≤ sg240 ∧ sg240 ≤ 60 := h246
    have h247 : ¬ K237.2.1 0 r236 = 22 := h247
    have h248 : NwT ((B 7)) sz ((B 10)) f241 K K237 at9 at239 := h248
    obtain rfl : v233 = some (.ref r236) := hw232
    have hO : OKP G h0 a (upd (upd (upd (upd F 2 (nI sz)) 9 (nI at239)) 10 (nI dp)) 11 (nI sg240)) R Z (updA B 10 f241) J K237 w := hO.to rfl
    refine W.widen (k := (2 * (at239 - at9) - 4)) (n := (11 * (2 * (at239 - at9) - 4))) (by show 0 + (2 * (at239 - at9) - 4) ≤ (2 * (at239 - at9) - 4); omega) (by show 0 + (11 * (2 * (at239 - at9) - 4)) ≤ (11 * (2 * (at239 - at9) - 4)); omega) ?_
    refine W.eq (g2 := F0 m 231 ls [.ref r236]) rfl ?_
    have htk249 : NwT (B 7) sz (B 10) f241 K K237 at9 at239 := (NwT.call htk0 h248 (by omega))
    refine W_size (fun hz1 hz2 => ?_)
    refine vx_ret ?_
    have hz250 : NwR K K237 g g238 r236 O k242 ((173 + 3 * (20 - dp))) := (NwR.up h243 (by omega))
    have hz251 : rS k242 = at9 ∧ rE k242 ≤ at239 ∧ rS k242 ≤ rE k242 ∧ rD k242 ≤ 2 * (20 - dp) + 2 := (by omega)
    have hz252 : at9 + 1 ≤ at239 ∧ at239 ≤ sz := (by omega)
    have hz253 : sg ≤ sg240 ∧ sg240 ≤ 60 := (by omega)
    have hz254 : ¬ K237.2.1 0 r236 = 22 := h247
    have hz255 : NwT (B 7) sz (B 10) f241 K K237 at9 at239 := (NwT.le htk249 (by omega))
    have hO : OKP G h0 a (upd (upd (upd (upd F 2 (nI sz)) 9 (nI at239)) 10 (nI dp)) 11 (nI sg240)) R Z (updA B 10 f241) J K237 w := hO.to rfl
    refine W.widen (k := (2 * (sz - at9) + 20)) (n := (11 * (2 * (sz - at9) + 20))) (by omega) (by omega) ?_
    have hzz1 : H.size ≤ s.heap.size + ((2 * (at239 - at9) - 1)) := (by have z : (2 * (at239 - at9) - 4) ≤ (2 * (at239 - at9) - 1) := (by omega); omega)
    have hzz2 : hSl H ≤ hSl s.heap + ((11 * (2 * (at239 - at9) - 1))) := (by have z : (11 * (2 * (at239 - at9) - 4)) ≤ (11 * (2 * (at239 - at9) - 1)) := (by omega); omega)
    exact W.aret (v := .ref r236) hx hb hr (Or.inl ⟨_, rfl⟩) (Or.inr ⟨_, rfl⟩) (fun t99 ht99 hW99 => ⟨⟨_, (w, (r236, K237, g238, at239, sg240, f241, k242)), rfl, ⟨rfl, hz250, hz251, hz252, hz253, hz254, hz255, hO⟩, by rw [ht99]; exact hP, hD, by rw [ht99]; exact hzz1, by rw [ht99]; exact hzz2⟩, hS.F ht99⟩) hS.2.2 dX8_statementBy_231
  by_cases h256 : x = 25
  · subst h256
    refine lv_tableIn (tgt := 270) (off := 269) hx hb dX8_statementBy_1 (by decide) (by decide) (by decide) (by decide) ?_
    have hO : OKP G h0 a (upd (upd (upd (upd F 2 (nI sz)) 9 (nI at9)) 10 (nI dp)) 11 (nI sg)) R Z B J K w := hO.to rfl
    exact cut_d _ _ _ _ (NwT.le htk0 (by omega)) hP hD hS hO (lv_sub hl [0] rfl)
  by_cases h257 : x = 26
  · subst h257
    refine lv_tableIn (tgt := 184) (off := 183) hx hb dX8_statementBy_1 (by decide) (by decide) (by decide) (by decide) ?_
    have htk : at9 < sz := tok_in hkx rfl (by decide : ¬ (26 : Int32) = 67) (by omega) hsz
    refine lv_aload_n hx hb dX8_statementBy_184 rfl (lv_at hl 0 rfl) ?_
    have hO : OKP G h0 a (upd (upd (upd (upd (upd (upd (upd (upd F 2 (nI sz)) 9 (nI at9)) 10 (nI dp)) 11 (nI sg)) 2 (nI sz)) 9 (nI at9)) 10 (nI dp)) 11 (nI sg)) R Z B J K w := hO.to rfl
    obtain ⟨_, qr261, hqr262⟩ := hO.2.1 23 _ (sg_23 G h0 a _ _ _ _ _)
    refine pn_V0 (G := G) (As := []) (rest := []) hx hb hml hown hq hE hX pX0_al hP hD hS hA hl.1 (P_try l G h0 a (upd (upd (upd (upd F 2 (nI sz)) 9 (nI at9)) 10 (nI dp)) 11 (nI sg)) R Z B J K w n at9 sz dp sg O g (by omega) (by omega) hdp (by omega) hwn how (by omega) ist hO hl0) (gV pw_1042 pw_1043 pw_1044 pw_796 pw_1051) hV_X8_tryStatement qr261 5 hqr262 rfl rfl rfl (Nat.le_of_ble_eq_true rfl) dX8_statementBy_185 ⟨(by show 0 + (2 * (sz - at9) + 20) ≤ (2 * (sz - at9) + 20); omega), (by show 0 + (11 * (2 * (sz - at9) + 20)) ≤ (11 * (2 * (sz - at9) + 20)); omega)⟩ ⟨(by show (50 * n + 58) + 1 ≤ (50 * n + 62); omega), (by show 8 + (5 + 11) + (1500 * n + 1650) ≤ (1500 * n + 1700); omega)⟩ (fun v260 u258 H locs hw259 hP hD hS => ?_) (fun ux ce9 q9 H9 locs9 hux hP9 hD9 hS9 hce hcv hcl => pb_out ux (ThQ.up (Thx.same (Thx.same (Thx.same (Thx.same Thx.rfl rfl) rfl) rfl) rfl) RhX.rfl hux) hnt hlocks hce hcv hcl hP9 hD9 hS9 (by show 0 + (2 * (sz - at9) + 20) ≤ (2 * (sz - at9) + 20); omega) (by show 0 + (11 * (2 * (sz - at9) + 20)) ≤ (11 * (2 * (sz - at9) + 20)); omega))
    obtain ⟨w, r263, K264, g265, at266, sg267, f268, k269⟩ := u258
    obtain ⟨hw259, h270, h271, h272, h273, h274, h275, hO⟩ := hw259
    have h270 : NwR K K264 g g265 r263 O k269 ((173 + 3 * (20 - dp))) := h270
    have h271 : rS k269 = at9 ∧ rE k269 ≤ at266 ∧ rS k269 ≤ rE k269 ∧ rD k269 ≤ 2 * (20 - dp) + 2 := h271
    have h272 : at9 + 3 ≤ at266 ∧ at266 ≤ sz := h272
    have h273 : sg ≤ sg267 ∧ sg267 ≤ 60 := h273
    have h274 : ¬ K264.2.1 0 r263 = 22 := h274
    have h275 : NwT ((B 7)) sz ((B 10)) f268 K K264 at9 at266 := h275
    obtain rfl : v260 = some (.ref r263) := hw259
    have hO : OKP G h0 a (upd (upd (upd (upd F 2 (nI sz)) 9 (nI at266)) 10 (nI dp)) 11 (nI sg267)) R Z (updA B 10 f268) J K264 w := hO.to rfl
    refine W.widen (k := (2 * (at266 - at9) - 4)) (n := (11 * (2 * (at266 - at9) - 4))) (by show 0 + (2 * (at266 - at9) - 4) ≤ (2 * (at266 - at9) - 4); omega) (by show 0 + (11 * (2 * (at266 - at9) - 4)) ≤ (11 * (2 * (at266 - at9) - 4)); omega) ?_
    refine W.eq (g2 := F0 m 188 ls [.ref r263]) rfl ?_
    have htk276 : NwT (B 7) sz (B 10) f268 K K264 at9 at266 := (NwT.call htk0 h275 (by omega))
    refine W_size (fun hz1 hz2 => ?_)
    refine vx_ret ?_
    have hz277 : NwR K K264 g g265 r263 O k269 ((173 + 3 * (20 - dp))) := (NwR.up h270 (by omega))
    have hz278 : rS k269 = at9 ∧ rE k269 ≤ at266 ∧ rS k269 ≤ rE k269 ∧ rD k269 ≤ 2 * (20 - dp) + 2 := (by omega)
    have hz279 : at9 + 1 ≤ at266 ∧ at266 ≤ sz := (by omega)
    have hz280 : sg ≤ sg267 ∧ sg267 ≤ 60 := (by omega)
    have hz281 : ¬ K264.2.1 0 r263 = 22 := h274
    have hz282 : NwT (B 7) sz (B 10) f268 K K264 at9 at266 := (NwT.le htk276 (by omega))
    have hO : OKP G h0 a (upd (upd (upd (upd F 2 (nI sz)) 9 (nI at266)) 10 (nI dp)) 11 (nI sg267)) R Z (updA B 10 f268) J K264 w := hO.to rfl
    refine W.widen (k := (2 * (sz - at9) + 20)) (n := (11 * (2 * (sz - at9) + 20))) (by omega) (by omega) ?_
    have hzz1 : H.size ≤ s.heap.size + ((2 * (at266 - at9) - 1)) := (by have z : (2 * (at266 - at9) - 4) ≤ (2 * (at266 - at9) - 1) := (by omega); omega)
    have hzz2 : hSl H ≤ hSl s.heap + ((11 * (2 * (at266 - at9) - 1))) := (by have z : (11 * (2 * (at266 - at9) - 4)) ≤ (11 * (2 * (at266 - at9) - 1)) := (by omega); omega)
    exact W.aret (v := .ref r263) hx hb hr (Or.inl ⟨_, rfl⟩) (Or.inr ⟨_, rfl⟩) (fun t99 ht99 hW99 => ⟨⟨_, (w, (r263, K264, g265, at266, sg267, f268, k269)), rfl, ⟨rfl, hz277, hz278, hz279, hz280, hz281, hz282, hO⟩, by rw [ht99]; exact hP, hD, by rw [ht99]; exact hzz1, by rw [ht99]; exact hzz2⟩, hS.F ht99⟩) hS.2.2 dX8_statementBy_188
  by_cases h283 : x = 27
  · subst h283
    refine lv_tableIn (tgt := 270) (off := 269) hx hb dX8_statementBy_1 (by decide) (by decide) (by decide) (by decide) ?_
    have hO : OKP G h0 a (upd (upd (upd (upd F 2 (nI sz)) 9 (nI at9)) 10 (nI dp)) 11 (nI sg)) R Z B J K w := hO.to rfl
    exact cut_d _ _ _ _ (NwT.le htk0 (by omega)) hP hD hS hO (lv_sub hl [0] rfl)
  by_cases h284 : x = 28
  · subst h284
    refine lv_tableIn (tgt := 174) (off := 173) hx hb dX8_statementBy_1 (by decide) (by decide) (by decide) (by decide) ?_
    have htk : at9 < sz := tok_in hkx rfl (by decide : ¬ (28 : Int32) = 67) (by omega) hsz
    refine lv_aload_n hx hb dX8_statementBy_174 rfl (lv_at hl 0 rfl) ?_
    have hO : OKP G h0 a (upd (upd (upd (upd (upd (upd (upd (upd F 2 (nI sz)) 9 (nI at9)) 10 (nI dp)) 11 (nI sg)) 2 (nI sz)) 9 (nI at9)) 10 (nI dp)) 11 (nI sg)) R Z B J K w := hO.to rfl
    obtain ⟨_, qr288, hqr289⟩ := hO.2.1 23 _ (sg_23 G h0 a _ _ _ _ _)
    refine pn_V0 (G := G) (As := []) (rest := []) hx hb hml hown hq hE hX pX0_al hP hD hS hA hl.1 (P_while l G h0 a (upd (upd (upd (upd F 2 (nI sz)) 9 (nI at9)) 10 (nI dp)) 11 (nI sg)) R Z B J K w n at9 sz dp sg O g (by omega) (by omega) hdp (by omega) hwn how (by omega) ist hO hl0) (gV pw_1036 pw_1037 pw_1038 pw_796 pw_1055) hV_X8_whileStatement qr288 5 hqr289 rfl rfl rfl (Nat.le_of_ble_eq_true rfl) dX8_statementBy_175 ⟨(by show 0 + (2 * (sz - at9) + 20) ≤ (2 * (sz - at9) + 20); omega), (by show 0 + (11 * (2 * (sz - at9) + 20)) ≤ (11 * (2 * (sz - at9) + 20)); omega)⟩ ⟨(by show (50 * n + 58) + 1 ≤ (50 * n + 62); omega), (by show 8 + (2 + 11) + (1500 * n + 1650) ≤ (1500 * n + 1700); omega)⟩ (fun v287 u285 H locs hw286 hP hD hS => ?_) (fun ux ce9 q9 H9 locs9 hux hP9 hD9 hS9 hce hcv hcl => pb_out ux (ThQ.up (Thx.same (Thx.same (Thx.same (Thx.same Thx.rfl rfl) rfl) rfl) rfl) RhX.rfl hux) hnt hlocks hce hcv hcl hP9 hD9 hS9 (by show 0 + (2 * (sz - at9) + 20) ≤ (2 * (sz - at9) + 20); omega) (by show 0 + (11 * (2 * (sz - at9) + 20)) ≤ (11 * (2 * (sz - at9) + 20)); omega))
    obtain ⟨w, r290, K291, g292, at293, sg294, f295, k296⟩ := u285
    obtain ⟨hw286, h297, h298, h299, h300, h301, h302, hO⟩ := hw286
    have h297 : NwR K K291 g g292 r290 O k296 ((173 + 3 * (20 - dp))) := h297
    have h298 : rS k296 = at9 ∧ rE k296 ≤ at293 ∧ rS k296 ≤ rE k296 ∧ rD k296 ≤ 2 * (20 - dp) + 2 := h298
    have h299 : at9 + 5 ≤ at293 ∧ at293 ≤ sz := h299
    have h300 : sg ≤ sg294 ∧ sg294 ≤ 60 := h300
    have h301 : ¬ K291.2.1 0 r290 = 22 := h301
    have h302 : NwT ((B 7)) sz ((B 10)) f295 K K291 at9 at293 := h302
    obtain rfl : v287 = some (.ref r290) := hw286
    have hO : OKP G h0 a (upd (upd (upd (upd F 2 (nI sz)) 9 (nI at293)) 10 (nI dp)) 11 (nI sg294)) R Z (updA B 10 f295) J K291 w := hO.to rfl
    refine W.widen (k := (2 * (at293 - at9) - 5)) (n := (11 * (2 * (at293 - at9) - 5))) (by show 0 + (2 * (at293 - at9) - 5) ≤ (2 * (at293 - at9) - 5); omega) (by show 0 + (11 * (2 * (at293 - at9) - 5)) ≤ (11 * (2 * (at293 - at9) - 5)); omega) ?_
    refine W.eq (g2 := F0 m 178 ls [.ref r290]) rfl ?_
    have htk303 : NwT (B 7) sz (B 10) f295 K K291 at9 at293 := (NwT.call htk0 h302 (by omega))
    refine W_size (fun hz1 hz2 => ?_)
    refine vx_ret ?_
    have hz304 : NwR K K291 g g292 r290 O k296 ((173 + 3 * (20 - dp))) := (NwR.up h297 (by omega))
    have hz305 : rS k296 = at9 ∧ rE k296 ≤ at293 ∧ rS k296 ≤ rE k296 ∧ rD k296 ≤ 2 * (20 - dp) + 2 := (by omega)
    have hz306 : at9 + 1 ≤ at293 ∧ at293 ≤ sz := (by omega)
    have hz307 : sg ≤ sg294 ∧ sg294 ≤ 60 := (by omega)
    have hz308 : ¬ K291.2.1 0 r290 = 22 := h301
    have hz309 : NwT (B 7) sz (B 10) f295 K K291 at9 at293 := (NwT.le htk303 (by omega))
    have hO : OKP G h0 a (upd (upd (upd (upd F 2 (nI sz)) 9 (nI at293)) 10 (nI dp)) 11 (nI sg294)) R Z (updA B 10 f295) J K291 w := hO.to rfl
    refine W.widen (k := (2 * (sz - at9) + 20)) (n := (11 * (2 * (sz - at9) + 20))) (by omega) (by omega) ?_
    have hzz1 : H.size ≤ s.heap.size + ((2 * (at293 - at9) - 1)) := (by have z : (2 * (at293 - at9) - 5) ≤ (2 * (at293 - at9) - 1) := (by omega); omega)
    have hzz2 : hSl H ≤ hSl s.heap + ((11 * (2 * (at293 - at9) - 1))) := (by have z : (11 * (2 * (at293 - at9) - 5)) ≤ (11 * (2 * (at293 - at9) - 1)) := (by omega); omega)
    exact W.aret (v := .ref r290) hx hb hr (Or.inl ⟨_, rfl⟩) (Or.inr ⟨_, rfl⟩) (fun t99 ht99 hW99 => ⟨⟨_, (w, (r290, K291, g292, at293, sg294, f295, k296)), rfl, ⟨rfl, hz304, hz305, hz306, hz307, hz308, hz309, hO⟩, by rw [ht99]; exact hP, hD, by rw [ht99]; exact hzz1, by rw [ht99]; exact hzz2⟩, hS.F ht99⟩) hS.2.2 dX8_statementBy_178
  by_cases h310 : x = 29
  · subst h310
    refine lv_tableIn (tgt := 270) (off := 269) hx hb dX8_statementBy_1 (by decide) (by decide) (by decide) (by decide) ?_
    have hO : OKP G h0 a (upd (upd (upd (upd F 2 (nI sz)) 9 (nI at9)) 10 (nI dp)) 11 (nI sg)) R Z B J K w := hO.to rfl
    exact cut_d _ _ _ _ (NwT.le htk0 (by omega)) hP hD hS hO (lv_sub hl [0] rfl)
  by_cases h311 : x = 30
  · subst h311
    refine lv_tableIn (tgt := 270) (off := 269) hx hb dX8_statementBy_1 (by decide) (by decide) (by decide) (by decide) ?_
    have hO : OKP G h0 a (upd (upd (upd (upd F 2 (nI sz)) 9 (nI at9)) 10 (nI dp)) 11 (nI sg)) R Z B J K w := hO.to rfl
    exact cut_d _ _ _ _ (NwT.le htk0 (by omega)) hP hD hS hO (lv_sub hl [0] rfl)
  by_cases h312 : x = 31
  · subst h312
    refine lv_tableIn (tgt := 270) (off := 269) hx hb dX8_statementBy_1 (by decide) (by decide) (by decide) (by decide) ?_
    have hO : OKP G h0 a (upd (upd (upd (upd F 2 (nI sz)) 9 (nI at9)) 10 (nI dp)) 11 (nI sg)) R Z B J K w := hO.to rfl
    exact cut_d _ _ _ _ (NwT.le htk0 (by omega)) hP hD hS hO (lv_sub hl [0] rfl)
  by_cases h313 : x = 32
  · subst h313
    refine lv_tableIn (tgt := 164) (off := 163) hx hb dX8_statementBy_1 (by decide) (by decide) (by decide) (by decide) ?_
    have htk : at9 < sz := tok_in hkx rfl (by decide : ¬ (32 : Int32) = 67) (by omega) hsz
    refine lv_aload_n hx hb dX8_statementBy_164 rfl (lv_at hl 0 rfl) ?_
    have hO : OKP G h0 a (upd (upd (upd (upd (upd (upd (upd (upd F 2 (nI sz)) 9 (nI at9)) 10 (nI dp)) 11 (nI sg)) 2 (nI sz)) 9 (nI at9)) 10 (nI dp)) 11 (nI sg)) R Z B J K w := hO.to rfl
    obtain ⟨_, qr317, hqr318⟩ := hO.2.1 23 _ (sg_23 G h0 a _ _ _ _ _)
    refine pn_V0 (G := G) (As := []) (rest := []) hx hb hml hown hq hE hX pX0_al hP hD hS hA hl.1 (P_block l G h0 a (upd (upd (upd (upd F 2 (nI sz)) 9 (nI at9)) 10 (nI dp)) 11 (nI sg)) R Z B J K w n at9 sz dp sg O g (by omega) (by omega) hdp (by omega) hwn how ist hO hl0) (gV pw_1007 pw_1008 pw_1009 pw_796 pw_1056) hV_X8_block qr317 5 hqr318 rfl rfl rfl (Nat.le_of_ble_eq_true rfl) dX8_statementBy_165 ⟨(by show 0 + (2 * (sz - at9) + 20) ≤ (2 * (sz - at9) + 20); omega), (by show 0 + (11 * (2 * (sz - at9) + 20)) ≤ (11 * (2 * (sz - at9) + 20)); omega)⟩ ⟨(by show (50 * n + 54) + 1 ≤ (50 * n + 62); omega), (by show 8 + (5 + 11) + (1500 * n + 1560) ≤ (1500 * n + 1700); omega)⟩ (fun v316 u314 H locs hw315 hP hD hS => ?_) (fun ux ce9 q9 H9 locs9 hux hP9 hD9 hS9 hce hcv hcl => pb_out ux (ThQ.up (Thx.same (Thx.same (Thx.same (Thx.same Thx.rfl rfl) rfl) rfl) rfl) RhX.rfl hux) hnt hlocks hce hcv hcl hP9 hD9 hS9 (by show 0 + (2 * (sz - at9) + 20) ≤ (2 * (sz - at9) + 20); omega) (by show 0 + (11 * (2 * (sz - at9) + 20)) ≤ (11 * (2 * (sz - at9) + 20)); omega))
    obtain ⟨w, r319, K320, g321, at322, sg323, f324, k325⟩ := u314
    obtain ⟨hw315, h326, h327, h328, h329, h330, h331, h332, hO⟩ := hw315
    have h326 : NwR K K320 g g321 r319 O k325 ((171 + 3 * (20 - dp))) := h326
    have h327 : rS k325 = at9 ∧ rE k325 ≤ at322 ∧ rS k325 ≤ rE k325 ∧ rD k325 ≤ 2 * (20 - dp) := h327
    have h328 : at9 + 2 ≤ at322 ∧ at322 ≤ sz := h328
    have h329 : sg ≤ sg323 ∧ sg323 ≤ 60 := h329
    have h330 : K320.2.1 0 r319 = 21 := h330
    have h331 : rS k325 + 2 ≤ rE k325 := h331
    have h332 : NwT ((B 7)) sz ((B 10)) f324 K K320 at9 at322 := h332
    obtain rfl : v316 = some (.ref r319) := hw315
    have hO : OKP G h0 a (upd (upd (upd (upd F 2 (nI sz)) 9 (nI at322)) 10 (nI dp)) 11 (nI sg323)) R Z (updA B 10 f324) J K320 w := hO.to rfl
    refine W.widen (k := (2 * (at322 - at9) - 3)) (n := (11 * (2 * (at322 - at9) - 3))) (by show 0 + (2 * (at322 - at9) - 3) ≤ (2 * (at322 - at9) - 3); omega) (by show 0 + (11 * (2 * (at322 - at9) - 3)) ≤ (11 * (2 * (at322 - at9) - 3)); omega) ?_
    refine W.eq (g2 := F0 m 168 ls [.ref r319]) rfl ?_
    have htk333 : NwT (B 7) sz (B 10) f324 K K320 at9 at322 := (NwT.call htk0 h332 (by omega))
    refine W_size (fun hz1 hz2 => ?_)
    refine vx_ret ?_
    have hz334 : NwR K K320 g g321 r319 O k325 ((173 + 3 * (20 - dp))) := (NwR.up h326 (by omega))
    have hz335 : rS k325 = at9 ∧ rE k325 ≤ at322 ∧ rS k325 ≤ rE k325 ∧ rD k325 ≤ 2 * (20 - dp) + 2 := (by omega)
    have hz336 : at9 + 1 ≤ at322 ∧ at322 ≤ sz := (by omega)
    have hz337 : sg ≤ sg323 ∧ sg323 ≤ 60 := (by omega)
    have hz338 : ¬ K320.2.1 0 r319 = 22 := (by rw [h330]; decide)
    have hz339 : NwT (B 7) sz (B 10) f324 K K320 at9 at322 := (NwT.le htk333 (by omega))
    have hO : OKP G h0 a (upd (upd (upd (upd F 2 (nI sz)) 9 (nI at322)) 10 (nI dp)) 11 (nI sg323)) R Z (updA B 10 f324) J K320 w := hO.to rfl
    refine W.widen (k := (2 * (sz - at9) + 20)) (n := (11 * (2 * (sz - at9) + 20))) (by omega) (by omega) ?_
    have hzz1 : H.size ≤ s.heap.size + ((2 * (at322 - at9) - 1)) := (by have z : (2 * (at322 - at9) - 3) ≤ (2 * (at322 - at9) - 1) := (by omega); omega)
    have hzz2 : hSl H ≤ hSl s.heap + ((11 * (2 * (at322 - at9) - 1))) := (by have z : (11 * (2 * (at322 - at9) - 3)) ≤ (11 * (2 * (at322 - at9) - 1)) := (by omega); omega)
    exact W.aret (v := .ref r319) hx hb hr (Or.inl ⟨_, rfl⟩) (Or.inr ⟨_, rfl⟩) (fun t99 ht99 hW99 => ⟨⟨_, (w, (r319, K320, g321, at322, sg323, f324, k325)), rfl, ⟨rfl, hz334, hz335, hz336, hz337, hz338, hz339, hO⟩, by rw [ht99]; exact hP, hD, by rw [ht99]; exact hzz1, by rw [ht99]; exact hzz2⟩, hS.F ht99⟩) hS.2.2 dX8_statementBy_168
  by_cases h340 : x = 33
  · subst h340
    refine lv_tableIn (tgt := 270) (off := 269) hx hb dX8_statementBy_1 (by decide) (by decide) (by decide) (by decide) ?_
    have hO : OKP G h0 a (upd (upd (upd (upd F 2 (nI sz)) 9 (nI at9)) 10 (nI dp)) 11 (nI sg)) R Z B J K w := hO.to rfl
    exact cut_d _ _ _ _ (NwT.le htk0 (by omega)) hP hD hS hO (lv_sub hl [0] rfl)
  by_cases h341 : x = 34
  · subst h341
    refine lv_tableIn (tgt := 270) (off := 269) hx hb dX8_statementBy_1 (by decide) (by decide) (by decide) (by decide) ?_
    have hO : OKP G h0 a (upd (upd (upd (upd F 2 (nI sz)) 9 (nI at9)) 10 (nI dp)) 11 (nI sg)) R Z B J K w := hO.to rfl
    exact cut_d _ _ _ _ (NwT.le htk0 (by omega)) hP hD hS hO (lv_sub hl [0] rfl)
  by_cases h342 : x = 35
  · subst h342
    refine lv_tableIn (tgt := 270) (off := 269) hx hb dX8_statementBy_1 (by decide) (by decide) (by decide) (by decide) ?_
    have hO : OKP G h0 a (upd (upd (upd (upd F 2 (nI sz)) 9 (nI at9)) 10 (nI dp)) 11 (nI sg)) R Z B J K w := hO.to rfl
    exact cut_d _ _ _ _ (NwT.le htk0 (by omega)) hP hD hS hO (lv_sub hl [0] rfl)
  by_cases h343 : x = 36
  · subst h343
    refine lv_tableIn (tgt := 270) (off := 269) hx hb dX8_statementBy_1 (by decide) (by decide) (by decide) (by decide) ?_
    have hO : OKP G h0 a (upd (upd (upd (upd F 2 (nI sz)) 9 (nI at9)) 10 (nI dp)) 11 (nI sg)) R Z B J K w := hO.to rfl
    exact cut_d _ _ _ _ (NwT.le htk0 (by omega)) hP hD hS hO (lv_sub hl [0] rfl)
  by_cases h344 : x = 37
  · subst h344
    refine lv_tableIn (tgt := 270) (off := 269) hx hb dX8_statementBy_1 (by decide) (by decide) (by decide) (by decide) ?_
    have hO : OKP G h0 a (upd (upd (upd (upd F 2 (nI sz)) 9 (nI at9)) 10 (nI dp)) 11 (nI sg)) R Z B J K w := hO.to rfl
    exact cut_d _ _ _ _ (NwT.le htk0 (by omega)) hP hD hS hO (lv_sub hl [0] rfl)
  by_cases h345 : x = 38
  · subst h345
    refine lv_tableIn (tgt := 248) (off := 247) hx hb dX8_statementBy_1 (by decide) (by decide) (by decide) (by decide) ?_
    have htk : at9 < sz := tok_in hkx rfl (by decide : ¬ (38 : Int32) = 67) (by omega) hsz
    refine p_new (s9 := 1) (C := RX7) (T := TX7) (N := 11) (ci := 13) (fs := [.int 0, .int 0, .int 0, .int 0, .int 0, .int 0, .null, .null, .null, .null, .null]) hx hb hq pin_wsX70 tyX7 tyX7_ok hown (hq _ pw_870) (hq _ pw_871) (hq _ pw_872) hE hP hD hS hA hO rfl nw_X7 (by decide) (fun q => by rw [rep_1 (show (kN K q 1 0).1 q = 1 from if_pos rfl)]; unfold fsNode kN; simp only [if_true]; rfl) (by show 0 + 1 ≤ (2 * (sz - at9) + 20); omega) (by show 0 + 11 ≤ (11 * (2 * (sz - at9) + 20)); omega) dX8_statementBy_248 (fun q346 H w hq347 hP hD hS hO => ?_)
    have hf348 : (kN K q346 1 0).1 q346 = 1 := if_pos rfl
    refine W.widen (k := 1) (n := 11) (by show 0 + 1 ≤ 1; omega) (by show 0 + 11 ≤ 11; omega) ?_
    refine lv_dup hx hb dX8_statementBy_251 rfl ?_
    refine lv_bipush (v := 34) hx hb dX8_statementBy_252 (by decide) ?_
    refine lv_aload_n hx hb dX8_statementBy_254 rfl (lv_at hl 0 rfl) ?_
    refine lv_bipush (v := 38) hx hb dX8_statementBy_255 (by decide) ?_
    have hO : OKW G h0 a (upd (upd (upd (upd (upd (upd F 2 (nI sz)) 9 (nI at9)) 10 (nI dp)) 11 (nI sg)) 2 (nI sz)) 9 (nI at9)) R Z B J ((kN K q346 1 0).1) (fun q99 x99 => x99 = rep G a (kN K q346 1 0) q99) w := hO.to rfl
    obtain ⟨_, qr352, hqr353⟩ := hO.2.1 23 _ (sg_23 G h0 a _ _ _ _ _)
    refine pn_V0 (G := G) (As := [.int 38]) (rest := [.int 34, .ref q346, .ref q346]) hx hb hml hown hq hE hX pX0_al hP hD hS hA hl.1 (P_take l G h0 a (upd (upd (upd (upd F 2 (nI sz)) 9 (nI at9)) 10 (nI dp)) 11 (nI sg)) R Z B J ((kN K q346 1 0).1) (fun q99 x99 => x99 = rep G a (kN K q346 1 0) q99) w 38 at9 sz (by omega) (by omega) (by decide) hO hl0) (gV pw_793 pw_794 pw_795 pw_796 pw_781) hV_X8_take qr352 5 hqr353 rfl rfl rfl (Nat.le_of_ble_eq_true rfl) dX8_statementBy_257 ⟨(by show 1 + 1 ≤ (2 * (sz - at9) + 20); omega), (by show 11 + 6 ≤ (11 * (2 * (sz - at9) + 20)); omega)⟩ ⟨(by show 7 + 1 ≤ (50 * n + 62); omega), (by show 8 + (2 + 11) + 122 ≤ (1500 * n + 1700); omega)⟩ (fun v351 u349 H locs hw350 hP hD hS => ?_) (fun ux ce9 q9 H9 locs9 hux hP9 hD9 hS9 hce hcv hcl => pb_out ux (ThQ.up (Thx.same (Thx.same Thx.rfl rfl) rfl) RhX.rfl hux) hnt hlocks hce hcv hcl hP9 hD9 hS9 (by show 1 + 1 ≤ (2 * (sz - at9) + 20); omega) (by show 11 + 6 ≤ (11 * (2 * (sz - at9) + 20)); omega))
    obtain ⟨w, _⟩ := u349
    obtain ⟨hw350, h354, h355, hO⟩ := hw350
    have h354 : at9 + 1 ≤ sz := h354
    have h355 : tkN ((B 7)) sz 67 (nI at9) = 38 := h355
    obtain rfl : v351 = some (.int (nI at9)) := hw350
    have hO : OKP G h0 a (upd (upd (upd (upd F 2 (nI sz)) 9 (nI (at9 + 1))) 10 (nI dp)) 11 (nI sg)) R Z B J (kN K q346 1 0) w := hO.to rfl
    refine W.widen (k := 1) (n := 11) (by show 1 + 0 ≤ 1; omega) (by show 11 + 0 ≤ 11; omega) ?_
    refine W.eq (g2 := F0 m 260 ls [.int (nI at9), .int 34, .ref q346, .ref q346]) rfl ?_
    refine lv_aload_n hx hb dX8_statementBy_260 rfl (lv_at hl 0 rfl) ?_
    refine c_get (v := .int (nI (at9 + 1))) (C := RX8) (Tc := TX8) (N := 5) (ci := 5) hx hb hq pin_wsX80 hown hE hP hO 23 (sg_23 G h0 a _ _ _ _ _) rfl 2 (by decide) (hq _ pw_776) (fun _ h9 => h9) rfl dX8_statementBy_261 ?_
    refine lv_iconst (v := 1) hx hb dX8_statementBy_264 (by decide) ?_
    refine lv_isub hx hb dX8_statementBy_265 ?_
    refine lv_topi (fun x356 e357 => ?_)
    obtain rfl : x356 = nI ((at9 + 1) - 1) := e357.trans (nI_subN (a := 1) (b := (at9 + 1)) (by omega))
    have hO : OKP G h0 a (upd (upd (upd (upd F 2 (nI sz)) 9 (nI (at9 + 1))) 10 (nI dp)) 11 (nI sg)) R Z B J (kN K q346 1 0) w := hO.to rfl
    obtain ⟨qr361, hqr362⟩ := p_recv hO (by rw [hf348]; decide) (rep_1 hf348)
    refine pc_I0 (G := G) (As := [.int 34, .int (nI at9), .int (nI ((at9 + 1) - 1))]) (rest := [.ref q346]) hx hb hml hown hq hE hX pX0_al hP hD hS hA hl.1 (N_init l G h0 a (upd (upd (upd (upd F 2 (nI sz)) 9 (nI (at9 + 1))) 10 (nI dp)) 11 (nI sg)) R Z B J (kN K q346 1 0) w q346 34 (nI at9) (nI ((at9 + 1) - 1)) (by omega) hO) pw_874 pw_875 pw_872 pw_765 rfl hS_X7_init rfl (Nat.le_of_ble_eq_true rfl) dX8_statementBy_266 ⟨(by show 1 + 0 ≤ (2 * (sz - at9) + 20); omega), (by show 11 + 0 ≤ (11 * (2 * (sz - at9) + 20)); omega)⟩ ⟨(by show 2 + 1 ≤ (50 * n + 62); omega), (by show 8 + (4 + 11) + 60 ≤ (1500 * n + 1700); omega)⟩ (fun v360 u358 H locs hw359 hP hD hS => ?_)
    obtain ⟨w, _⟩ := u358
    obtain ⟨hw359, hO⟩ := hw359
    obtain rfl : v360 = none := hw359
    have hf363 : (kI (kI (kI (kN K q346 1 0) 0 q346 34) 1 q346 (nI at9)) 2 q346 (nI ((at9 + 1) - 1))).1 q346 = 1 := hf348
    have hO : OKP G h0 a (upd (upd (upd (upd F 2 (nI sz)) 9 (nI (at9 + 1))) 10 (nI dp)) 11 (nI sg)) R Z B J (kI (kI (kI (kN K q346 1 0) 0 q346 34) 1 q346 (nI at9)) 2 q346 (nI ((at9 + 1) - 1))) w := hO.to rfl
    refine W.widen (k := 1) (n := 11) (by show 1 + 0 ≤ 1; omega) (by show 11 + 0 ≤ 11; omega) ?_
    refine W.eq (g2 := F0 m 269 ls [.ref q346]) rfl ?_
    change OKP G h0 a (upd (upd (upd (upd F 2 (nI sz)) 9 (nI (at9 + 1))) 10 (nI dp)) 11 (nI sg)) R Z B J (mkN K q346 34 (nI at9) (nI ((at9 + 1) - 1))) w at hO
    obtain ⟨K364, hK365⟩ : ∃ z : PK, z = (mkN K q346 34 (nI at9) (nI ((at9 + 1) - 1))) := ⟨_, rfl⟩
    rw [← hK365] at hO
    have htk366 : NwT (B 7) sz (B 10) (B 10) K K364 at9 (at9 + 1) := by rw [hK365]; exact NwT.new (NwT.le htk0 (show _ ≤ (at9 + 1) by omega)) hq347 (TkP.no (by decide))
    have hf367 : K364.1 q346 = 1 := by rw [hK365]; exact mkN_T
    have hf368 : K364.2.1 0 q346 = 34 := by rw [hK365]; exact mkN_0
    have hf369 : K364.2.1 2 q346 = (nI ((at9 + 1) - 1)) := by rw [hK365]; exact mkN_2
    have hf370 : K364.2.2.1 0 q346 = none := by rw [hK365]; exact mkN_C
    have hf371 : K364.2.2.1 1 q346 = none := by rw [hK365]; exact mkN_C
    have hf372 : K364.2.2.1 2 q346 = none := by rw [hK365]; exact mkN_C
    have hf373 : K364.2.2.1 3 q346 = none := by rw [hK365]; exact mkN_C
    have hf374 : K364.2.2.1 4 q346 = none := by rw [hK365]; exact mkN_C
    have hns375 : NwS K K364 g (gset g q346 0 0 0) := by rw [hK365]; exact NwS.node hns0 hq347
    have hq376 : K.1 q346 = 0 := old_T hns0.2.1 hq347
    have hg377 : (gset g q346 0 0 0) 0 q346 = 0 := gset_0
    have hno378 : NoO K364 (gset g q346 0 0 0) q346 := by rw [hK365]; exact NoO.new hns0.1 hq347
    refine W_size (fun hz1 hz2 => ?_)
    refine vx_ret ?_
    obtain ⟨k9, k9I, hkS, hkE, hkM, hkN, hkX, hkD⟩ := rk_ex (s := at9) (e := (at9 + 1)) (m := at9) (n := at9) (x := at9) (d := (2 * (20 - dp) + 2)) (by omega)
    have hkid : ∀ f9 y9 : Nat, f9 ≤ 3 → K364.2.2.1 f9 q346 = some y9 → K364.1 y9 = 1 ∧ 1 ≤ (gset g q346 0 0 0) 0 y9 ∧ (gset g q346 0 0 0) 0 y9 < (173 + 3 * (20 - dp)) := by
      intro f9 y9 hf9 hy9
      rcases (show f9 = 0 ∨ f9 = 1 ∨ f9 = 2 ∨ f9 = 3 by omega) with rfl | rfl | rfl | rfl
      · rw [hf370] at hy9; cases hy9
      · rw [hf371] at hy9; cases hy9
      · rw [hf372] at hy9; cases hy9
      · rw [hf373] at hy9; cases hy9
    have hkc379 : ∀ f9 y9 : Nat, f9 ≤ 3 → K364.2.2.1 f9 q346 = some y9 → Kch (K364.2.1 0 q346) f9 (K364.2.1 0 y9) k9 ((gset g q346 0 0 0) 2 y9) := by
      intro f9 y9 hf9 hy9
      rcases (show f9 = 0 ∨ f9 = 1 ∨ f9 = 2 ∨ f9 = 3 by omega) with rfl | rfl | rfl | rfl
      · rw [hf370] at hy9; cases hy9
      · rw [hf371] at hy9; cases hy9
      · rw [hf372] at hy9; cases hy9
      · rw [hf373] at hy9; cases hy9
    have hdn := NwS.done1I (q := q346) (L := (173 + 3 * (20 - dp))) (O := O) (k := k9) hns375 hq376 hf367 hg377 (by omega) ⟨k9I, (by rw [hf368] <;> exact ⟨(fun z => absurd z (by decide)), (fun z => absurd z (by decide)), (fun z => absurd z (by decide))⟩)⟩ (by rw [hf368]; exact ⟨(fun z => absurd z (by decide)), (fun z => absurd z (by decide)), (fun z => absurd z (by decide)), (fun z => absurd z (by decide)), (fun z => absurd z (by decide))⟩) (fun f9 z => by rw [hf368] at z; rcases z with ⟨z, _⟩ | ⟨z | z | z, _⟩ <;> exact absurd z (by decide)) hkid hf374 hno378 hkc379 how
    have hz380 : NwR K K364 g (gset (gset g q346 0 0 0) q346 (173 + 3 * (20 - dp)) O k9) q346 O k9 ((173 + 3 * (20 - dp))) := hdn
    have hz381 : rS k9 = at9 ∧ rE k9 ≤ (at9 + 1) ∧ rS k9 ≤ rE k9 ∧ rD k9 ≤ 2 * (20 - dp) + 2 := (by omega)
    have hz382 : at9 + 1 ≤ (at9 + 1) ∧ (at9 + 1) ≤ sz := (by omega)
    have hz383 : sg ≤ sg ∧ sg ≤ 60 := (by omega)
    have hz384 : ¬ K364.2.1 0 q346 = 22 := (by rw [hf368]; decide)
    have hz385 : NwT (B 7) sz (B 10) (B 10) K K364 at9 (at9 + 1) := (NwT.le htk366 (by omega))
    have hO : OKP G h0 a (upd (upd (upd (upd F 2 (nI sz)) 9 (nI (at9 + 1))) 10 (nI dp)) 11 (nI sg)) R Z (updA B 10 (B 10)) J K364 w := hO.to rfl
    refine W.widen (k := (2 * (sz - at9) + 20)) (n := (11 * (2 * (sz - at9) + 20))) (by omega) (by omega) ?_
    have hzz1 : H.size ≤ s.heap.size + ((2 * ((at9 + 1) - at9) - 1)) := (by have z : 1 ≤ (2 * ((at9 + 1) - at9) - 1) := (by omega); omega)
    have hzz2 : hSl H ≤ hSl s.heap + ((11 * (2 * ((at9 + 1) - at9) - 1))) := (by have z : 11 ≤ (11 * (2 * ((at9 + 1) - at9) - 1)) := (by omega); omega)
    exact W.aret (v := .ref q346) hx hb hr (Or.inl ⟨_, rfl⟩) (Or.inr ⟨_, rfl⟩) (fun t99 ht99 hW99 => ⟨⟨_, (w, (q346, K364, (gset (gset g q346 0 0 0) q346 (173 + 3 * (20 - dp)) O k9), (at9 + 1), sg, (B 10), k9)), rfl, ⟨rfl, hz380, hz381, hz382, hz383, hz384, hz385, hO⟩, by rw [ht99]; exact hP, hD, by rw [ht99]; exact hzz1, by rw [ht99]; exact hzz2⟩, hS.F ht99⟩) hS.2.2 dX8_statementBy_269
  refine lv_tableOut (tgt := 270) hx hb dX8_statementBy_1 (sw_out38 h34 h56 h57 h58 h80 h81 h82 h83 h84 h110 h136 h137 h138 h139 h140 h141 h142 h143 h169 h170 h228 h229 h230 h256 h257 h283 h284 h310 h311 h312 h313 h340 h341 h342 h343 h344 h345) (by decide) ?_
  have hO : OKP G h0 a (upd (upd (upd (upd F 2 (nI sz)) 9 (nI at9)) 10 (nI dp)) 11 (nI sg)) R Z B J K w := hO.to rfl
  exact cut_d _ _ _ _ (NwT.le htk0 (by omega)) hP hD hS hO (lv_sub hl [0] rfl)
theorem dX8_statement_0 : decode cX8_statement 0 = .ok (.iload_n 1, 1) := by decide +kernel
theorem dX8_statement_1 : decode cX8_statement 1 = .ok (.ifCond .eq 14, 3) := by decide +kernel
theorem dX8_statement_15 : decode cX8_statement 15 = .ok (.iconst 0, 1) := by decide +kernel
theorem dX8_statement_16 : decode cX8_statement 16 = .ok (.istore_n 2, 1) := by decide +kernel
theorem dX8_statement_17 : decode cX8_statement 17 = .ok (.iload_n 2, 1) := by decide +kernel
theorem dX8_statement_18 : decode cX8_statement 18 = .ok (.ifCond .ne 14, 3) := by decide +kernel
theorem dX8_statement_21 : decode cX8_statement 21 = .ok (.aload_n 0, 1) := by decide +kernel
theorem dX8_statement_22 : decode cX8_statement 22 = .ok (.invokevirtual 177, 3) := by decide +kernel
theorem dX8_statement_25 : decode cX8_statement 25 = .ok (.ifCond .ne 7, 3) := by decide +kernel
theorem dX8_statement_32 : decode cX8_statement 32 = .ok (.aload_n 0, 1) := by decide +kernel
theorem dX8_statement_33 : decode cX8_statement 33 = .ok (.invokevirtual 180, 3) := by decide +kernel
theorem dX8_statement_36 : decode cX8_statement 36 = .ok (.aload_n 0, 1) := by decide +kernel
theorem dX8_statement_37 : decode cX8_statement 37 = .ok (.getfield 24, 3) := by decide +kernel
theorem dX8_statement_40 : decode cX8_statement 40 = .ok (.istore_n 3, 1) := by decide +kernel
theorem dX8_statement_41 : decode cX8_statement 41 = .ok (.aload_n 0, 1) := by decide +kernel
theorem dX8_statement_42 : decode cX8_statement 42 = .ok (.iconst 0, 1) := by decide +kernel
theorem dX8_statement_43 : decode cX8_statement 43 = .ok (.putfield 24, 3) := by decide +kernel
theorem dX8_statement_46 : decode cX8_statement 46 = .ok (.iload_n 2, 1) := by decide +kernel
theorem dX8_statement_47 : decode cX8_statement 47 = .ok (.ifCond .eq 11, 3) := by decide +kernel
theorem dX8_statement_58 : decode cX8_statement 58 = .ok (.aload_n 0, 1) := by decide +kernel
theorem dX8_statement_59 : decode cX8_statement 59 = .ok (.aload_n 0, 1) := by decide +kernel
theorem dX8_statement_60 : decode cX8_statement 60 = .ok (.getfield 7, 3) := by decide +kernel
theorem dX8_statement_63 : decode cX8_statement 63 = .ok (.aload_n 0, 1) := by decide +kernel
theorem dX8_statement_64 : decode cX8_statement 64 = .ok (.getfield 17, 3) := by decide +kernel
theorem dX8_statement_67 : decode cX8_statement 67 = .ok (.invokevirtual 57, 3) := by decide +kernel
theorem dX8_statement_70 : decode cX8_statement 70 = .ok (.invokevirtual 186, 3) := by decide +kernel
theorem dX8_statement_73 : decode cX8_statement 73 = .ok (.astore 4, 2) := by decide +kernel
theorem dX8_statement_75 : decode cX8_statement 75 = .ok (.aload_n 0, 1) := by decide +kernel
theorem dX8_statement_76 : decode cX8_statement 76 = .ok (.iload_n 3, 1) := by decide +kernel
theorem dX8_statement_77 : decode cX8_statement 77 = .ok (.putfield 24, 3) := by decide +kernel
theorem dX8_statement_80 : decode cX8_statement 80 = .ok (.aload_n 0, 1) := by decide +kernel
theorem dX8_statement_81 : decode cX8_statement 81 = .ok (.invokevirtual 190, 3) := by decide +kernel
theorem dX8_statement_84 : decode cX8_statement 84 = .ok (.aload 4, 2) := by decide +kernel
theorem dX8_statement_86 : decode cX8_statement 86 = .ok (.areturn, 1) := by decide +kernel
theorem dX8_statement_28 : decode cX8_statement 28 = .ok (.aload_n 0, 1) := by decide +kernel
theorem dX8_statement_29 : decode cX8_statement 29 = .ok (.invokevirtual 67, 3) := by decide +kernel
theorem dX8_statement_4 : decode cX8_statement 4 = .ok (.aload_n 0, 1) := by decide +kernel
theorem dX8_statement_5 : decode cX8_statement 5 = .ok (.invokevirtual 174, 3) := by decide +kernel
theorem dX8_statement_8 : decode cX8_statement 8 = .ok (.ifCond .eq 7, 3) := by decide +kernel
theorem dX8_statement_11 : decode cX8_statement 11 = .ok (.iconst 1, 1) := by decide +kernel
theorem dX8_statement_12 : decode cX8_statement 12 = .ok (.goto 4, 3) := by decide +kernel
theorem dX8_statement_50 : decode cX8_statement 50 = .ok (.aload_n 0, 1) := by decide +kernel
theorem dX8_statement_51 : decode cX8_statement 51 = .ok (.iconst 1, 1) := by decide +kernel
theorem dX8_statement_52 : decode cX8_statement 52 = .ok (.invokevirtual 183, 3) := by decide +kernel
theorem dX8_statement_55 : decode cX8_statement 55 = .ok (.goto 18, 3) := by decide +kernel
theorem hV_X8_beginsStatement : yX8_beginsStatement.cls = RX8 ∧ yX8_beginsStatement.cls ≠ "java/lang/invoke/MethodHandle" ∧ yX8_beginsStatement.cls ≠ "java/lang/invoke/VarHandle" ∧ (parseMethodDescriptor yX8_beginsStatement.desc).map (fun d => d.parameters.length) = some 0 := by decide +kernel
theorem hV_X8_statementBy : yX8_statementBy.cls = RX8 ∧ yX8_statementBy.cls ≠ "java/lang/invoke/MethodHandle" ∧ yX8_statementBy.cls ≠ "java/lang/invoke/VarHandle" ∧ (parseMethodDescriptor yX8_statementBy.desc).map (fun d => d.parameters.length) = some 1 := by decide +kernel
set_option maxHeartbeats 40000000 in
set_option maxRecDepth 100000 in
theorem P_statement (l : Launch) (G : pT) (h0 : Nat) (a : Nat → Nat) (F : Nat → Int32) (R : Nat → Value) (Z : Int64) (B : Nat → Nat → Int32) (J : Nat → Nat → Int64) (K : PK) (w : va_W) (x : Nat) (n : Nat) (at9 : Nat) (sz : Nat) (dp : Nat) (sg : Nat) (O : Nat) (g : Nat → Nat → Nat) (hsz : sz ≤ 5000) (hat : at9 ≤ sz) (hdp : dp + n = 20) (hsg : sg ≤ 60) (hwn : WN K g) (how : ∀ o : Nat, O = o + 1 → K.1 o = 1 ∧ g 0 o = 0 ∧ ¬ K.2.1 0 o = 32) (hx1x : x ≤ 1) (ist : 1 ≤ n → PSt l G (n - 1)) (hO : OKP G h0 a (upd (upd (upd (upd F 2 (nI sz)) 9 (nI at9)) 10 (nI dp)) 11 (nI sg)) R Z B J K w) (hl0 : l.stackTraces = false) : PBn l G pX0 yX8_statement cX8_statement 5 (some (.object "JinjaTongue$Node")) ({ frames := (50 * n + 50), cells := (2 * (sz - at9) + 20), slots := (11 * (2 * (sz - at9) + 20)), locals := (1500 * n + 1500) }) [.ref (a 3), .int (nI x)] w (fun (v : Option Value) (u : va_W × (Nat × PK × (Nat → Nat → Nat) × Nat × Nat × (Nat → Int32) × Nat)) => v = some (.ref u.2.1) ∧ (NwR K u.2.2.1 g u.2.2.2.1 u.2.1 O u.2.2.2.2.2.2.2 ((170 + 3 * (20 - dp)))) ∧ (rS u.2.2.2.2.2.2.2 = at9 ∧ rE u.2.2.2.2.2.2.2 ≤ u.2.2.2.2.1 ∧ rS u.2.2.2.2.2.2.2 ≤ rE u.2.2.2.2.2.2.2 ∧ rD u.2.2.2.2.2.2.2 ≤ 2 * (20 - dp)) ∧ (at9 + 1 ≤ u.2.2.2.2.1 ∧ u.2.2.2.2.1 ≤ sz) ∧ (sg ≤ u.2.2.2.2.2.1 ∧ u.2.2.2.2.2.1 ≤ 60) ∧ (x = 0 → ¬ u.2.2.1.2.1 0 u.2.1 = 22) ∧ (NwT (B 7) sz (B 10) u.2.2.2.2.2.2.1 K u.2.2.1 at9 u.2.2.2.2.1) ∧ (OKP G h0 a (upd (upd (upd (upd F 2 (nI sz)) 9 (nI u.2.2.2.2.1)) 10 (nI dp)) 11 (nI u.2.2.2.2.2.1)) R Z (updA B 10 u.2.2.2.2.2.2.1) J u.2.2.1 u.1)) (fun u => u.1) (fun (u : va_W × (Nat × PK × (Nat → Nat → Nat) × Nat × Nat × (Nat → Int32) × Nat)) => (2 * (u.2.2.2.2.1 - at9) - 1)) (fun (u : va_W × (Nat × PK × (Nat → Nat → Nat) × Nat × Nat × (Nat → Int32) × Nat)) => (11 * (2 * (u.2.2.2.2.1 - at9) - 1))) (fun (u : va_W × (Nat → Int32) × (Nat → Value) × (Nat → Nat → Int32)) => ThQ G h0 a (upd (upd (upd (upd F 2 (nI sz)) 9 (nI at9)) 10 (nI dp)) 11 (nI sg)) R Z B J u) (fun u => u.1) := by
  intro sz
  refine vx_ofW (cc := cX8_statement) (maxL := 5) (ret := (some (.object "JinjaTongue$Node"))) (by decide) rfl ?_
  intro p e s m args below meth c s₁ B9 hml hnt hv
  obtain ⟨rfl, hsz, hP, hD0, hE, hX⟩ := hv
  have hx := B9.exec
  have hb := B9.bytes
  have hr := B9.returns
  have hts := atoms_spec (ws := Cond.code yX8_statement cX8_statement 5 (some (.object "JinjaTongue$Node")) :: pw) B9.pre
  have hq : ∀ w ∈ pw, w.before _ s = true := fun w h => hts w (List.mem_cons_of_mem _ h)
  have hown : s.vm.findClass RX8 = some m.cls := findClass_of_methodNamed B9.named
  have hlocks := B9.notSynchronized
  subst hsz
  have hD := hD0.self (sz := s.heap.size)
  have hA : ∀ q : Nat, s.heap.size ≤ q → va_A w s.heap.size q := fun q h => Or.inr h
  generalize va_A w s.heap.size = A at hD hE hA ⊢
  have hS : va_S A s.heap s.heap [] := va_S.rf
  have hl := lv_entry ([.ref (a 3), .int (nI x)]) (n := 5) (Nat.le_of_ble_eq_true rfl)
  rw [lg_entry_eq]
  generalize (lg_sl ([.ref (a 3), .int (nI x)]) ++ List.replicate (5 - (lg_sl ([.ref (a 3), .int (nI x)])).length) Slot.unset).toArray = ls at hl ⊢
  have hl : lv_has ls 5 [(0, .ref (a 3)), (1, .int (nI x))] := hl
  have htk0 : NwT (B 7) sz (B 10) (B 10) K K at9 at9 := NwT.nil
  refine lv_iload_n hx hb dX8_statement_0 rfl (lv_at hl 1 rfl) ?_
  refine lv_if_eq (tgt := 15) hx hb dX8_statement_1 (by decide) (fun c1 => ?_) (fun c1 => ?_)
  · have n2 : x = 0 := (nI_eq (a := x) (b := 0) (by omega) (by omega)).mp c1
    refine lv_iconst (v := 0) hx hb dX8_statement_15 (by decide) ?_
    refine lv_istore_n (lv' := [(2, .int 0), (0, .ref (a 3)), (1, .int (nI x))]) hx hb dX8_statement_16 rfl hl (by decide) rfl (fun ls hl => ?_)
    refine lv_iload_n hx hb dX8_statement_17 rfl (lv_at hl 0 rfl) ?_
    refine lv_if_ne (tgt := 32) hx hb dX8_statement_18 (by decide) (fun c3 => absurd c3 (by decide)) (fun c3 => ?_)
    refine lv_aload_n hx hb dX8_statement_21 rfl (lv_at hl 1 rfl) ?_
    have hO : OKW G h0 a (upd (upd (upd (upd (upd (upd F 2 (nI sz)) 9 (nI at9)) 10 (nI dp)) 11 (nI sg)) 2 (nI sz)) 9 (nI at9)) R Z B J K.1 (fun q99 x99 => x99 = rep G a K q99) w := hO.to rfl
    obtain ⟨_, qr7, hqr8⟩ := hO.2.1 23 _ (sg_23 G h0 a _ _ _ _ _)
    refine pc_V0 (G := G) (As := []) (rest := []) hx hb hml hown hq hE hX pX0_al hP hD hS hA hl.1 (P_beginsStatement l G h0 a (upd (upd (upd (upd F 2 (nI sz)) 9 (nI at9)) 10 (nI dp)) 11 (nI sg)) R Z B J K.1 (fun q99 x99 => x99 = rep G a K q99) w at9 sz (by omega) (by omega) hO) (gV pw_1026 pw_1027 pw_1028 pw_796 pw_997) hV_X8_beginsStatement qr7 5 hqr8 rfl rfl rfl (Nat.le_of_ble_eq_true rfl) dX8_statement_22 ⟨(by show 0 + 0 ≤ (2 * (sz - at9) + 20); omega), (by show 0 + 0 ≤ (11 * (2 * (sz - at9) + 20)); omega)⟩ ⟨(by show 4 + 1 ≤ (50 * n + 50); omega), (by show 8 + (1 + 11) + 101 ≤ (1500 * n + 1500); omega)⟩ (fun v6 u4 H locs hw5 hP hD hS => ?_)
    obtain ⟨w, r9⟩ := u4
    obtain ⟨hw5, h10, hO⟩ := hw5
    have h10 : r9 ≤ 1 := h10
    obtain rfl : v6 = some (.int (nI r9)) := hw5
    have hO : OKP G h0 a (upd (upd (upd (upd F 2 (nI sz)) 9 (nI at9)) 10 (nI dp)) 11 (nI sg)) R Z B J K w := hO.to rfl
    refine W.widen (k := 0) (n := 0) (Nat.le_of_ble_eq_true rfl) (Nat.le_of_ble_eq_true rfl) ?_
    refine W.eq (g2 := F0 m 25 ls [.int (nI r9)]) rfl ?_
    refine lv_if_ne (tgt := 32) hx hb dX8_statement_25 (by decide) (fun c11 => ?_) (fun c11 => ?_)
    · have n12 : ¬ (r9 = 0) := fun h9 => c11 ((nI_eq (a := r9) (b := 0) (by omega) (by omega)).mpr h9)
      refine lv_aload_n hx hb dX8_statement_32 rfl (lv_at hl 1 rfl) ?_
      have hO : OKW G h0 a (upd (upd (upd (upd (upd (upd (upd F 2 (nI sz)) 9 (nI at9)) 10 (nI dp)) 11 (nI sg)) 2 (nI sz)) 9 (nI at9)) 10 (nI dp)) R Z B J K.1 (fun q99 x99 => x99 = rep G a K q99) w := hO.to rfl
      obtain ⟨_, qr16, hqr17⟩ := hO.2.1 23 _ (sg_23 G h0 a _ _ _ _ _)
      refine pn_V0 (G := G) (As := []) (rest := []) hx hb hml hown hq hE hX pX0_al hP hD hS hA hl.1 (P_enter l G h0 a (upd (upd (upd (upd F 2 (nI sz)) 9 (nI at9)) 10 (nI dp)) 11 (nI sg)) R Z B J K.1 (fun q99 x99 => x99 = rep G a K q99) w dp at9 sz (by omega) (by omega) (by omega) hO hl0) (gV pw_947 pw_948 pw_949 pw_796 pw_905) hV_X8_enter qr16 5 hqr17 rfl rfl rfl (Nat.le_of_ble_eq_true rfl) dX8_statement_33 ⟨(by show 0 + 1 ≤ (2 * (sz - at9) + 20); omega), (by show 0 + 6 ≤ (11 * (2 * (sz - at9) + 20)); omega)⟩ ⟨(by show 7 + 1 ≤ (50 * n + 50); omega), (by show 8 + (1 + 11) + 122 ≤ (1500 * n + 1500); omega)⟩ (fun v15 u13 H locs hw14 hP hD hS => ?_) (fun ux ce9 q9 H9 locs9 hux hP9 hD9 hS9 hce hcv hcl => pb_out ux (ThQ.up (Thx.same (Thx.same (Thx.same Thx.rfl rfl) rfl) rfl) RhX.rfl hux) hnt hlocks hce hcv hcl hP9 hD9 hS9 (by show 0 + 1 ≤ (2 * (sz - at9) + 20); omega) (by show 0 + 6 ≤ (11 * (2 * (sz - at9) + 20)); omega))
      obtain ⟨w, _⟩ := u13
      obtain ⟨hw14, h18, hO⟩ := hw14
      have h18 : dp + 1 ≤ 20 := h18
      obtain rfl : v15 = none := hw14
      have hO : OKP G h0 a (upd (upd (upd (upd F 2 (nI sz)) 9 (nI at9)) 10 (nI (dp + 1))) 11 (nI sg)) R Z B J K w := hO.to rfl
      refine W.widen (k := 0) (n := 0) (by show 0 + 0 ≤ 0; omega) (by show 0 + 0 ≤ 0; omega) ?_
      refine W.eq (g2 := F0 m 36 ls []) rfl ?_
      refine lv_aload_n hx hb dX8_statement_36 rfl (lv_at hl 1 rfl) ?_
      refine c_get (v := .int (nI sg)) (C := RX8) (Tc := TX8) (N := 5) (ci := 5) hx hb hq pin_wsX80 hown hE hP hO 23 (sg_23 G h0 a _ _ _ _ _) rfl 4 (by decide) (hq _ pw_904) (fun _ h9 => h9) rfl dX8_statement_37 ?_
      refine lv_istore_n (lv' := [(3, .int (nI sg)), (2, .int 0), (0, .ref (a 3)), (1, .int (nI x))]) hx hb dX8_statement_40 rfl hl (by decide) rfl (fun ls hl => ?_)
      refine lv_aload_n hx hb dX8_statement_41 rfl (lv_at hl 2 rfl) ?_
      refine lv_iconst (v := 0) hx hb dX8_statement_42 (by decide) ?_
      refine c_put (v := .int 0) (ty := .int) (C := RX8) (Tc := TX8) (N := 5) (ci := 5) hx hb hq pin_wsX80 tyX8 tyX8_ok nmX8 hown hE hP hD hS hO 23 (sg_23 G h0 a _ _ _ _ _) rfl 4 (by decide) (hq _ pw_904) (fun _ h9 => h9) rfl (by decide +kernel) rfl rfl (Nat.le_of_ble_eq_true rfl) (sf_11 G h0 a _ _ _ _ _ 0) dX8_statement_43 (fun H locs w hP hD hS hO => ?_)
      refine lv_iload_n hx hb dX8_statement_46 rfl (lv_at hl 1 rfl) ?_
      refine lv_if_eq (tgt := 58) hx hb dX8_statement_47 (by decide) (fun c19 => ?_) (fun c19 => absurd c19 (by decide))
      refine lv_aload_n hx hb dX8_statement_58 rfl (lv_at hl 2 rfl) ?_
      refine lv_aload_n hx hb dX8_statement_59 rfl (lv_at hl 2 rfl) ?_
      refine c_get (v := .ref (a 1)) (C := RX8) (Tc := TX8) (N := 5) (ci := 5) hx hb hq pin_wsX80 hown hE hP hO 23 (sg_23 G h0 a _ _ _ _ _) rfl 0 (by decide) (hq _ pw_774) (fun _ h9 => h9) rfl dX8_statement_60 ?_
      refine lv_aload_n hx hb dX8_statement_63 rfl (lv_at hl 2 rfl) ?_
      refine c_get (v := .int (nI at9)) (C := RX8) (Tc := TX8) (N := 5) (ci := 5) hx hb hq pin_wsX80 hown hE hP hO 23 (sg_23 G h0 a _ _ _ _ _) rfl 2 (by decide) (hq _ pw_776) (fun _ h9 => h9) rfl dX8_statement_64 ?_
      have hO : OKW G h0 a (upd (upd (upd (upd (upd F 2 (nI sz)) 9 (nI at9)) 10 (nI (dp + 1))) 11 0) 2 (nI sz)) R Z B J K.1 (fun q99 x99 => x99 = rep G a K q99) w := hO.to rfl
      obtain ⟨_, qr23, hqr24⟩ := hO.2.1 2 _ (sg_2 G h0 a _ _ _ _ _)
      refine pc_V0 (G := G) (As := [.int (nI at9)]) (rest := [.ref (a 3)]) hx hb hml hown hq hE hX pX0_al hP hD hS hA hl.1 (K_kindX l G h0 a (upd (upd (upd (upd F 2 (nI sz)) 9 (nI at9)) 10 (nI (dp + 1))) 11 0) R Z B J K.1 (fun q99 x99 => x99 = rep G a K q99) w (nI at9) sz (by omega) hO) (gV pw_777 pw_193 pw_194 pw_59 pw_126) hV_X10_kindAt qr23 7 hqr24 rfl rfl rfl (Nat.le_of_ble_eq_true rfl) dX8_statement_67 ⟨(by show 0 + 0 ≤ (2 * (sz - at9) + 20); omega), (by show 0 + 0 ≤ (11 * (2 * (sz - at9) + 20)); omega)⟩ ⟨(by show 2 + 1 ≤ (50 * n + 50); omega), (by show 8 + (2 + 11) + 60 ≤ (1500 * n + 1500); omega)⟩ (fun v22 u20 H locs hw21 hP hD hS => ?_)
      obtain ⟨w, r25⟩ := u20
      obtain ⟨hw21, h26, h27, hO⟩ := hw21
      have h26 : r25 = 67 ∨ ∃ t : Nat, (nI at9) = nI t ∧ t < sz := h26
      have h27 : r25 = tkN ((B 7)) sz 67 (nI at9) := h27
      obtain rfl : v22 = some (.int r25) := hw21
      have hO : OKP G h0 a (upd (upd (upd (upd F 2 (nI sz)) 9 (nI at9)) 10 (nI (dp + 1))) 11 0) R Z B J K w := hO.to rfl
      refine W.widen (k := 0) (n := 0) (Nat.le_of_ble_eq_true rfl) (Nat.le_of_ble_eq_true rfl) ?_
      refine W.eq (g2 := F0 m 70 ls [.int r25, .ref (a 3)]) rfl ?_
      have hO : OKP G h0 a (upd (upd (upd (upd (upd (upd (upd (upd (upd (upd F 2 (nI sz)) 9 (nI at9)) 10 (nI dp)) 11 (nI sg)) 10 (nI (dp + 1))) 11 0) 2 (nI sz)) 9 (nI at9)) 10 (nI (dp + 1))) 11 (nI 0)) R Z B J K w := hO.to rfl
      obtain ⟨_, qr31, hqr32⟩ := hO.2.1 23 _ (sg_23 G h0 a _ _ _ _ _)
      refine pn_V0 (G := G) (As := [.int r25]) (rest := []) hx hb hml hown hq hE hX pX0_al hP hD hS hA hl.1 (P_statementBy l G h0 a (upd (upd (upd (upd (upd (upd F 2 (nI sz)) 9 (nI at9)) 10 (nI dp)) 11 (nI sg)) 10 (nI (dp + 1))) 11 0) R Z B J K w r25 (n - 1) at9 sz (dp + 1) 0 O g (by omega) (by omega) (by omega) (by omega) hwn how (ist (by omega)) h26 hO hl0) (gV pw_1029 pw_1030 pw_1031 pw_796 pw_1032) hV_X8_statementBy qr31 5 hqr32 rfl rfl rfl (Nat.le_of_ble_eq_true rfl) dX8_statement_70 ⟨(by show 0 + (2 * (sz - at9) + 20) ≤ (2 * (sz - at9) + 20); omega), (by show 0 + (11 * (2 * (sz - at9) + 20)) ≤ (11 * (2 * (sz - at9) + 20)); omega)⟩ ⟨(by show (50 * (n - 1) + 62) + 1 ≤ (50 * n + 50); omega), (by show 8 + (3 + 11) + (1500 * (n - 1) + 1700) ≤ (1500 * n + 1500); omega)⟩ (fun v30 u28 H locs hw29 hP hD hS => ?_) (fun ux ce9 q9 H9 locs9 hux hP9 hD9 hS9 hce hcv hcl => pb_out ux (ThQ.up (Thx.same (Thx.same (Thx.same (Thx.same (Thx.f (Thx.f Thx.rfl (by omega)) (by omega)) rfl) rfl) rfl) rfl) RhX.rfl hux) hnt hlocks hce hcv hcl hP9 hD9 hS9 (by show 0 + (2 * (sz - at9) + 20) ≤ (2 * (sz - at9) + 20); omega) (by show 0 + (11 * (2 * (sz - at9) + 20)) ≤ (11 * (2 * (sz - at9) + 20)); omega))
      obtain ⟨w, r33, K34, g35, at36, sg37, f38, k39⟩ := u28
      obtain ⟨hw29, h40, h41, h42, h43, h44, h45, hO⟩ := hw29
      have h40 : NwR K K34 g g35 r33 O k39 ((173 + 3 * (20 - (dp + 1)))) := h40
      have h41 : rS k39 = at9 ∧ rE k39 ≤ at36 ∧ rS k39 ≤ rE k39 ∧ rD k39 ≤ 2 * (20 - (dp + 1)) + 2 := h41
      have h42 : at9 + 1 ≤ at36 ∧ at36 ≤ sz := h42
      have h43 : 0 ≤ sg37 ∧ sg37 ≤ 60 := h43
      have h44 : ¬ K34.2.1 0 r33 = 22 := h44
      have h45 : NwT ((B 7)) sz ((B 10)) f38 K K34 at9 at36 := h45
      obtain rfl : v30 = some (.ref r33) := hw29
      have hO : OKP G h0 a (upd (upd (upd (upd F 2 (nI sz)) 9 (nI at36)) 10 (nI (dp + 1))) 11 (nI sg37)) R Z (updA B 10 f38) J K34 w := hO.to rfl
      refine W.widen (k := (2 * (at36 - at9) - 1)) (n := (11 * (2 * (at36 - at9) - 1))) (by show 0 + (2 * (at36 - at9) - 1) ≤ (2 * (at36 - at9) - 1); omega) (by show 0 + (11 * (2 * (at36 - at9) - 1)) ≤ (11 * (2 * (at36 - at9) - 1)); omega) ?_
      refine W.eq (g2 := F0 m 73 ls [.ref r33]) rfl ?_
      have htk46 : NwT (B 7) sz (B 10) f38 K K34 at9 at36 := (NwT.call htk0 h45 (by omega))
      refine lv_astore (lv' := [(4, .ref r33), (3, .int (nI sg)), (2, .int 0), (0, .ref (a 3)), (1, .int (nI x))]) hx hb dX8_statement_73 hl (by decide) rfl (fun ls hl => ?_)
      refine lv_aload_n hx hb dX8_statement_75 rfl (lv_at hl 3 rfl) ?_
      refine lv_iload_n hx hb dX8_statement_76 rfl (lv_at hl 1 rfl) ?_
      refine c_put (v := .int (nI sg)) (ty := .int) (C := RX8) (Tc := TX8) (N := 5) (ci := 5) hx hb hq pin_wsX80 tyX8 tyX8_ok nmX8 hown hE hP hD hS hO 23 (sg_23 G h0 a _ _ _ _ _) rfl 4 (by decide) (hq _ pw_904) (fun _ h9 => h9) rfl (by decide +kernel) rfl rfl (Nat.le_of_ble_eq_true rfl) (sf_11 G h0 a _ _ _ _ _ (nI sg)) dX8_statement_77 (fun H locs w hP hD hS hO => ?_)
      refine lv_aload_n hx hb dX8_statement_80 rfl (lv_at hl 3 rfl) ?_
      have hO : OKW G h0 a (upd (upd (upd (upd (upd F 2 (nI sz)) 9 (nI at36)) 10 (nI (dp + 1))) 11 (nI sg)) 10 (nI (dp + 1))) R Z (updA B 10 f38) J K34.1 (fun q99 x99 => x99 = rep G a K34 q99) w := hO.to rfl
      obtain ⟨_, qr50, hqr51⟩ := hO.2.1 23 _ (sg_23 G h0 a _ _ _ _ _)
      refine pc_V0 (G := G) (As := []) (rest := []) hx hb hml hown hq hE hX pX0_al hP hD hS hA hl.1 (P_leave l G h0 a (upd (upd (upd (upd F 2 (nI sz)) 9 (nI at36)) 10 (nI (dp + 1))) 11 (nI sg)) R Z (updA B 10 f38) J K34.1 (fun q99 x99 => x99 = rep G a K34 q99) w (dp + 1) (by omega) hO) (gV pw_950 pw_951 pw_952 pw_796 pw_906) hV_X8_leave qr50 5 hqr51 rfl rfl rfl (Nat.le_of_ble_eq_true rfl) dX8_statement_81 ⟨(by show (2 * (at36 - at9) - 1) + 0 ≤ (2 * (sz - at9) + 20); omega), (by show (11 * (2 * (at36 - at9) - 1)) + 0 ≤ (11 * (2 * (sz - at9) + 20)); omega)⟩ ⟨(by show 2 + 1 ≤ (50 * n + 50); omega), (by show 8 + (1 + 11) + 60 ≤ (1500 * n + 1500); omega)⟩ (fun v49 u47 H locs hw48 hP hD hS => ?_)
      obtain ⟨w, _⟩ := u47
      obtain ⟨hw48, hO⟩ := hw48
      obtain rfl : v49 = none := hw48
      have hO : OKP G h0 a (upd (upd (upd (upd F 2 (nI sz)) 9 (nI at36)) 10 (nI ((dp + 1) - 1))) 11 (nI sg)) R Z (updA B 10 f38) J K34 w := hO.to rfl
      refine W.widen (k := (2 * (at36 - at9) - 1)) (n := (11 * (2 * (at36 - at9) - 1))) (by show (2 * (at36 - at9) - 1) + 0 ≤ (2 * (at36 - at9) - 1); omega) (by show (11 * (2 * (at36 - at9) - 1)) + 0 ≤ (11 * (2 * (at36 - at9) - 1)); omega) ?_
      refine W.eq (g2 := F0 m 84 ls []) rfl ?_
      refine lv_aload hx hb dX8_statement_84 (lv_at hl 0 rfl) ?_
      refine W_size (fun hz1 hz2 => ?_)
      refine vx_ret ?_
      have hz52 : NwR K K34 g g35 r33 O k39 ((170 + 3 * (20 - dp))) := (NwR.up h40 (by omega))
      have hz53 : rS k39 = at9 ∧ rE k39 ≤ at36 ∧ rS k39 ≤ rE k39 ∧ rD k39 ≤ 2 * (20 - dp) := (by omega)
      have hz54 : at9 + 1 ≤ at36 ∧ at36 ≤ sz := (by omega)
      have hz55 : sg ≤ sg ∧ sg ≤ 60 := (by omega)
      have hz56 : x = 0 → ¬ K34.2.1 0 r33 = 22 := (fun _ => h44)
      have hz57 : NwT (B 7) sz (B 10) f38 K K34 at9 at36 := (NwT.le htk46 (by omega))
      have hO : OKP G h0 a (upd (upd (upd (upd F 2 (nI sz)) 9 (nI at36)) 10 (nI dp)) 11 (nI sg)) R Z (updA B 10 f38) J K34 w := hO.to rfl
      refine W.widen (k := (2 * (sz - at9) + 20)) (n := (11 * (2 * (sz - at9) + 20))) (by omega) (by omega) ?_
      have hzz1 : H.size ≤ s.heap.size + ((2 * (at36 - at9) - 1)) := (by have z : (2 * (at36 - at9) - 1) ≤ (2 * (at36 - at9) - 1) := (by omega); omega)
      have hzz2 : hSl H ≤ hSl s.heap + ((11 * (2 * (at36 - at9) - 1))) := (by have z : (11 * (2 * (at36 - at9) - 1)) ≤ (11 * (2 * (at36 - at9) - 1)) := (by omega); omega)
      exact W.aret (v := .ref r33) hx hb hr (Or.inl ⟨_, rfl⟩) (Or.inr ⟨_, rfl⟩) (fun t99 ht99 hW99 => ⟨⟨_, (w, (r33, K34, g35, at36, sg, f38, k39)), rfl, ⟨rfl, hz52, hz53, hz54, hz55, hz56, hz57, hO⟩, by rw [ht99]; exact hP, hD, by rw [ht99]; exact hzz1, by rw [ht99]; exact hzz2⟩, hS.F ht99⟩) hS.2.2 dX8_statement_86
    · have n58 : r9 = 0 := (nI_eq (a := r9) (b := 0) (by omega) (by omega)).mp c11
      refine lv_aload_n hx hb dX8_statement_28 rfl (lv_at hl 1 rfl) ?_
      have hO : OKW G h0 a (upd (upd (upd (upd (upd (upd F 2 (nI sz)) 9 (nI at9)) 10 (nI dp)) 11 (nI sg)) 2 (nI sz)) 9 (nI at9)) R Z B J K.1 (fun q99 x99 => x99 = rep G a K q99) w := hO.to rfl
      obtain ⟨_, qr62, hqr63⟩ := hO.2.1 23 _ (sg_23 G h0 a _ _ _ _ _)
      refine pn_V0 (G := G) (As := []) (rest := []) hx hb hml hown hq hE hX pX0_al hP hD hS hA hl.1 (P_refuse l G h0 a (upd (upd (upd (upd F 2 (nI sz)) 9 (nI at9)) 10 (nI dp)) 11 (nI sg)) R Z B J K.1 (fun q99 x99 => x99 = rep G a K q99) w at9 sz (by omega) (by omega) hO hl0) (gV pw_806 pw_807 pw_808 pw_796 pw_778) hV_X8_refuse qr62 5 hqr63 rfl rfl rfl (Nat.le_of_ble_eq_true rfl) dX8_statement_29 ⟨(by show 0 + 1 ≤ (2 * (sz - at9) + 20); omega), (by show 0 + 6 ≤ (11 * (2 * (sz - at9) + 20)); omega)⟩ ⟨(by show 7 + 1 ≤ (50 * n + 50); omega), (by show 8 + (1 + 11) + 122 ≤ (1500 * n + 1500); omega)⟩ (fun v61 u59 H locs hw60 hP hD hS => hw60.elim) (fun ux ce9 q9 H9 locs9 hux hP9 hD9 hS9 hce hcv hcl => pb_out ux (ThQ.up (Thx.same (Thx.same Thx.rfl rfl) rfl) RhX.rfl hux) hnt hlocks hce hcv hcl hP9 hD9 hS9 (by show 0 + 1 ≤ (2 * (sz - at9) + 20); omega) (by show 0 + 6 ≤ (11 * (2 * (sz - at9) + 20)); omega))
  · have n64 : ¬ (x = 0) := fun h9 => c1 ((nI_eq (a := x) (b := 0) (by omega) (by omega)).mpr h9)
    refine lv_aload_n hx hb dX8_statement_4 rfl (lv_at hl 0 rfl) ?_
    have hO : OKW G h0 a (upd (upd (upd (upd (upd (upd F 2 (nI sz)) 9 (nI at9)) 10 (nI dp)) 11 (nI sg)) 2 (nI sz)) 9 (nI at9)) R Z B J K.1 (fun q99 x99 => x99 = rep G a K q99) w := hO.to rfl
    obtain ⟨_, qr68, hqr69⟩ := hO.2.1 23 _ (sg_23 G h0 a _ _ _ _ _)
    refine pc_V0 (G := G) (As := []) (rest := []) hx hb hml hown hq hE hX pX0_al hP hD hS hA hl.1 (P_beginsLocal l G h0 a (upd (upd (upd (upd F 2 (nI sz)) 9 (nI at9)) 10 (nI dp)) 11 (nI sg)) R Z B J K.1 (fun q99 x99 => x99 = rep G a K q99) w at9 sz (by omega) (by omega) hO) (gV pw_1012 pw_1013 pw_1014 pw_796 pw_899) hV_X8_beginsLocal qr68 5 hqr69 rfl rfl rfl (Nat.le_of_ble_eq_true rfl) dX8_statement_5 ⟨(by show 0 + 0 ≤ (2 * (sz - at9) + 20); omega), (by show 0 + 0 ≤ (11 * (2 * (sz - at9) + 20)); omega)⟩ ⟨(by show 4 + 1 ≤ (50 * n + 50); omega), (by show 8 + (2 + 11) + 102 ≤ (1500 * n + 1500); omega)⟩ (fun v67 u65 H locs hw66 hP hD hS => ?_)
    obtain ⟨w, r70⟩ := u65
    obtain ⟨hw66, h71, hO⟩ := hw66
    have h71 : r70 ≤ 1 := h71
    obtain rfl : v67 = some (.int (nI r70)) := hw66
    have hO : OKP G h0 a (upd (upd (upd (upd F 2 (nI sz)) 9 (nI at9)) 10 (nI dp)) 11 (nI sg)) R Z B J K w := hO.to rfl
    refine W.widen (k := 0) (n := 0) (Nat.le_of_ble_eq_true rfl) (Nat.le_of_ble_eq_true rfl) ?_
    refine W.eq (g2 := F0 m 8 ls [.int (nI r70)]) rfl ?_
    refine lv_if_eq (tgt := 15) hx hb dX8_statement_8 (by decide) (fun c72 => ?_) (fun c72 => ?_)
    · have n73 : r70 = 0 := (nI_eq (a := r70) (b := 0) (by omega) (by omega)).mp c72
      refine lv_iconst (v := 0) hx hb dX8_statement_15 (by decide) ?_
      refine lv_istore_n (lv' := [(2, .int 0), (0, .ref (a 3)), (1, .int (nI x))]) hx hb dX8_statement_16 rfl hl (by decide) rfl (fun ls hl => ?_)
      refine lv_iload_n hx hb dX8_statement_17 rfl (lv_at hl 0 rfl) ?_
      refine lv_if_ne (tgt := 32) hx hb dX8_statement_18 (by decide) (fun c74 => absurd c74 (by decide)) (fun c74 => ?_)
      refine lv_aload_n hx hb dX8_statement_21 rfl (lv_at hl 1 rfl) ?_
      have hO : OKW G h0 a (upd (upd (upd (upd (upd (upd F 2 (nI sz)) 9 (nI at9)) 10 (nI dp)) 11 (nI sg)) 2 (nI sz)) 9 (nI at9)) R Z B J K.1 (fun q99 x99 => x99 = rep G a K q99) w := hO.to rfl
      obtain ⟨_, qr78, hqr79⟩ := hO.2.1 23 _ (sg_23 G h0 a _ _ _ _ _)
      refine pc_V0 (G := G) (As := []) (rest := []) hx hb hml hown hq hE hX pX0_al hP hD hS hA hl.1 (P_beginsStatement l G h0 a (upd (upd (upd (upd F 2 (nI sz)) 9 (nI at9)) 10 (nI dp)) 11 (nI sg)) R Z B J K.1 (fun q99 x99 => x99 = rep G a K q99) w at9 sz (by omega) (by omega) hO) (gV pw_1026 pw_1027 pw_1028 pw_796 pw_997) hV_X8_beginsStatement qr78 5 hqr79 rfl rfl rfl (Nat.le_of_ble_eq_true rfl) dX8_statement_22 ⟨(by show 0 + 0 ≤ (2 * (sz - at9) + 20); omega), (by show 0 + 0 ≤ (11 * (2 * (sz - at9) + 20)); omega)⟩ ⟨(by show 4 + 1 ≤ (50 * n + 50); omega), (by show 8 + (1 + 11) + 101 ≤ (1500 * n + 1500); omega)⟩ (fun v77 u75 H locs hw76 hP hD hS => ?_)
      obtain ⟨w, r80⟩ := u75
      obtain ⟨hw76, h81, hO⟩ := hw76
      have h81 : r80 ≤ 1 := h81
      obtain rfl : v77 = some (.int (nI r80)) := hw76
      have hO : OKP G h0 a (upd (upd (upd (upd F 2 (nI sz)) 9 (nI at9)) 10 (nI dp)) 11 (nI sg)) R Z B J K w := hO.to rfl
      refine W.widen (k := 0) (n := 0) (Nat.le_of_ble_eq_true rfl) (Nat.le_of_ble_eq_true rfl) ?_
      refine W.eq (g2 := F0 m 25 ls [.int (nI r80)]) rfl ?_
      refine lv_if_ne (tgt := 32) hx hb dX8_statement_25 (by decide) (fun c82 => ?_) (fun c82 => ?_)
      · have n83 : ¬ (r80 = 0) := fun h9 => c82 ((nI_eq (a := r80) (b := 0) (by omega) (by omega)).mpr h9)
        refine lv_aload_n hx hb dX8_statement_32 rfl (lv_at hl 1 rfl) ?_
        have hO : OKW G h0 a (upd (upd (upd (upd (upd (upd (upd F 2 (nI sz)) 9 (nI at9)) 10 (nI dp)) 11 (nI sg)) 2 (nI sz)) 9 (nI at9)) 10 (nI dp)) R Z B J K.1 (fun q99 x99 => x99 = rep G a K q99) w := hO.to rfl
        obtain ⟨_, qr87, hqr88⟩ := hO.2.1 23 _ (sg_23 G h0 a _ _ _ _ _)
        refine pn_V0 (G := G) (As := []) (rest := []) hx hb hml hown hq hE hX pX0_al hP hD hS hA hl.1 (P_enter l G h0 a (upd (upd (upd (upd F 2 (nI sz)) 9 (nI at9)) 10 (nI dp)) 11 (nI sg)) R Z B J K.1 (fun q99 x99 => x99 = rep G a K q99) w dp at9 sz (by omega) (by omega) (by omega) hO hl0) (gV pw_947 pw_948 pw_949 pw_796 pw_905) hV_X8_enter qr87 5 hqr88 rfl rfl rfl (Nat.le_of_ble_eq_true rfl) dX8_statement_33 ⟨(by show 0 + 1 ≤ (2 * (sz - at9) + 20); omega), (by show 0 + 6 ≤ (11 * (2 * (sz - at9) + 20)); omega)⟩ ⟨(by show 7 + 1 ≤ (50 * n + 50); omega), (by show 8 + (1 + 11) + 122 ≤ (1500 * n + 1500); omega)⟩ (fun v86 u84 H locs hw85 hP hD hS => ?_) (fun ux ce9 q9 H9 locs9 hux hP9 hD9 hS9 hce hcv hcl => pb_out ux (ThQ.up (Thx.same (Thx.same (Thx.same Thx.rfl rfl) rfl) rfl) RhX.rfl hux) hnt hlocks hce hcv hcl hP9 hD9 hS9 (by show 0 + 1 ≤ (2 * (sz - at9) + 20); omega) (by show 0 + 6 ≤ (11 * (2 * (sz - at9) + 20)); omega))
        obtain ⟨w, _⟩ := u84
        obtain ⟨hw85, h89, hO⟩ := hw85
        have h89 : dp + 1 ≤ 20 := h89
        obtain rfl : v86 = none := hw85
        have hO : OKP G h0 a (upd (upd (upd (upd F 2 (nI sz)) 9 (nI at9)) 10 (nI (dp + 1))) 11 (nI sg)) R Z B J K w := hO.to rfl
        refine W.widen (k := 0) (n := 0) (by show 0 + 0 ≤ 0; omega) (by show 0 + 0 ≤ 0; omega) ?_
        refine W.eq (g2 := F0 m 36 ls []) rfl ?_
        refine lv_aload_n hx hb dX8_statement_36 rfl (lv_at hl 1 rfl) ?_
        refine c_get (v := .int (nI sg)) (C := RX8) (Tc := TX8) (N := 5) (ci := 5) hx hb hq pin_wsX80 hown hE hP hO 23 (sg_23 G h0 a _ _ _ _ _) rfl 4 (by decide) (hq _ pw_904) (fun _ h9 => h9) rfl dX8_statement_37 ?_
        refine lv_istore_n (lv' := [(3, .int (nI sg)), (2, .int 0), (0, .ref (a 3)), (1, .int (nI x))]) hx hb dX8_statement_40 rfl hl (by decide) rfl (fun ls hl => ?_)
        refine lv_aload_n hx hb dX8_statement_41 rfl (lv_at hl 2 rfl) ?_
        refine lv_iconst (v := 0) hx hb dX8_statement_42 (by decide) ?_
        refine c_put (v := .int 0) (ty := .int) (C := RX8) (Tc := TX8) (N := 5) (ci := 5) hx hb hq pin_wsX80 tyX8 tyX8_ok nmX8 hown hE hP hD hS hO 23 (sg_23 G h0 a _ _ _ _ _) rfl 4 (by decide) (hq _ pw_904) (fun _ h9 => h9) rfl (by decide +kernel) rfl rfl (Nat.le_of_ble_eq_true rfl) (sf_11 G h0 a _ _ _ _ _ 0) dX8_statement_43 (fun H locs w hP hD hS hO => ?_)
        refine lv_iload_n hx hb dX8_statement_46 rfl (lv_at hl 1 rfl) ?_
        refine lv_if_eq (tgt := 58) hx hb dX8_statement_47 (by decide) (fun c90 => ?_) (fun c90 => absurd c90 (by decide))
        refine lv_aload_n hx hb dX8_statement_58 rfl (lv_at hl 2 rfl) ?_
        refine lv_aload_n hx hb dX8_statement_59 rfl (lv_at hl 2 rfl) ?_
        refine c_get (v := .ref (a 1)) (C := RX8) (Tc := TX8) (N := 5) (ci := 5) hx hb hq pin_wsX80 hown hE hP hO 23 (sg_23 G h0 a _ _ _ _ _) rfl 0 (by decide) (hq _ pw_774) (fun _ h9 => h9) rfl dX8_statement_60 ?_
        refine lv_aload_n hx hb dX8_statement_63 rfl (lv_at hl 2 rfl) ?_
        refine c_get (v := .int (nI at9)) (C := RX8) (Tc := TX8) (N := 5) (ci := 5) hx hb hq pin_wsX80 hown hE hP hO 23 (sg_23 G h0 a _ _ _ _ _) rfl 2 (by decide) (hq _ pw_776) (fun _ h9 => h9) rfl dX8_statement_64 ?_
        have hO : OKW G h0 a (upd (upd (upd (upd (upd F 2 (nI sz)) 9 (nI at9)) 10 (nI (dp + 1))) 11 0) 2 (nI sz)) R Z B J K.1 (fun q99 x99 => x99 = rep G a K q99) w := hO.to rfl
        obtain ⟨_, qr94, hqr95⟩ := hO.2.1 2 _ (sg_2 G h0 a _ _ _ _ _)
        refine pc_V0 (G := G) (As := [.int (nI at9)]) (rest := [.ref (a 3)]) hx hb hml hown hq hE hX pX0_al hP hD hS hA hl.1 (K_kindX l G h0 a (upd (upd (upd (upd F 2 (nI sz)) 9 (nI at9)) 10 (nI (dp + 1))) 11 0) R Z B J K.1 (fun q99 x99 => x99 = rep G a K q99) w (nI at9) sz (by omega) hO) (gV pw_777 pw_193 pw_194 pw_59 pw_126) hV_X10_kindAt qr94 7 hqr95 rfl rfl rfl (Nat.le_of_ble_eq_true rfl) dX8_statement_67 ⟨(by show 0 + 0 ≤ (2 * (sz - at9) + 20); omega), (by show 0 + 0 ≤ (11 * (2 * (sz - at9) + 20)); omega)⟩ ⟨(by show 2 + 1 ≤ (50 * n + 50); omega), (by show 8 + (2 + 11) + 60 ≤ (1500 * n + 1500); omega)⟩ (fun v93 u91 H locs hw92 hP hD hS => ?_)
        obtain ⟨w, r96⟩ := u91
        obtain ⟨hw92, h97, h98, hO⟩ := hw92
        have h97 : r96 = 67 ∨ ∃ t : Nat, (nI at9) = nI t ∧ t < sz := h97
        have h98 : r96 = tkN ((B 7)) sz 67 (nI at9) := h98
        obtain rfl : v93 = some (.int r96) := hw92
        have hO : OKP G h0 a (upd (upd (upd (upd F 2 (nI sz)) 9 (nI at9)) 10 (nI (dp + 1))) 11 0) R Z B J K w := hO.to rfl
        refine W.widen (k := 0) (n := 0) (Nat.le_of_ble_eq_true rfl) (Nat.le_of_ble_eq_true rfl) ?_
        refine W.eq (g2 := F0 m 70 ls [.int r96, .ref (a 3)]) rfl ?_
        have hO : OKP G h0 a (upd (upd (upd (upd (upd (upd (upd (upd (upd (upd F 2 (nI sz)) 9 (nI at9)) 10 (nI dp)) 11 (nI sg)) 10 (nI (dp + 1))) 11 0) 2 (nI sz)) 9 (nI at9)) 10 (nI (dp + 1))) 11 (nI 0)) R Z B J K w := hO.to rfl
        obtain ⟨_, qr102, hqr103⟩ := hO.2.1 23 _ (sg_23 G h0 a _ _ _ _ _)
        refine pn_V0 (G := G) (As := [.int r96]) (rest := []) hx hb hml hown hq hE hX pX0_al hP hD hS hA hl.1 (P_statementBy l G h0 a (upd (upd (upd (upd (upd (upd F 2 (nI sz)) 9 (nI at9)) 10 (nI dp)) 11 (nI sg)) 10 (nI (dp + 1))) 11 0) R Z B J K w r96 (n - 1) at9 sz (dp + 1) 0 O g (by omega) (by omega) (by omega) (by omega) hwn how (ist (by omega)) h97 hO hl0) (gV pw_1029 pw_1030 pw_1031 pw_796 pw_1032) hV_X8_statementBy qr102 5 hqr103 rfl rfl rfl (Nat.le_of_ble_eq_true rfl) dX8_statement_70 ⟨(by show 0 + (2 * (sz - at9) + 20) ≤ (2 * (sz - at9) + 20); omega), (by show 0 + (11 * (2 * (sz - at9) + 20)) ≤ (11 * (2 * (sz - at9) + 20)); omega)⟩ ⟨(by show (50 * (n - 1) + 62) + 1 ≤ (50 * n + 50); omega), (by show 8 + (3 + 11) + (1500 * (n - 1) + 1700) ≤ (1500 * n + 1500); omega)⟩ (fun v101 u99 H locs hw100 hP hD hS => ?_) (fun ux ce9 q9 H9 locs9 hux hP9 hD9 hS9 hce hcv hcl => pb_out ux (ThQ.up (Thx.same (Thx.same (Thx.same (Thx.same (Thx.f (Thx.f Thx.rfl (by omega)) (by omega)) rfl) rfl) rfl) rfl) RhX.rfl hux) hnt hlocks hce hcv hcl hP9 hD9 hS9 (by show 0 + (2 * (sz - at9) + 20) ≤ (2 * (sz - at9) + 20); omega) (by show 0 + (11 * (2 * (sz - at9) + 20)) ≤ (11 * (2 * (sz - at9) + 20)); omega))
        obtain ⟨w, r104, K105, g106, at107, sg108, f109, k110⟩ := u99
        obtain ⟨hw100, h111, h112, h113, h114, h115, h116, hO⟩ := hw100
        have h111 : NwR K K105 g g106 r104 O k110 ((173 + 3 * (20 - (dp + 1)))) := h111
        have h112 : rS k110 = at9 ∧ rE k110 ≤ at107 ∧ rS k110 ≤ rE k110 ∧ rD k110 ≤ 2 * (20 - (dp + 1)) + 2 := h112
        have h113 : at9 + 1 ≤ at107 ∧ at107 ≤ sz := h113
        have h114 : 0 ≤ sg108 ∧ sg108 ≤ 60 := h114
        have h115 : ¬ K105.2.1 0 r104 = 22 := h115
        have h116 : NwT ((B 7)) sz ((B 10)) f109 K K105 at9 at107 := h116
        obtain rfl : v101 = some (.ref r104) := hw100
        have hO : OKP G h0 a (upd (upd (upd (upd F 2 (nI sz)) 9 (nI at107)) 10 (nI (dp + 1))) 11 (nI sg108)) R Z (updA B 10 f109) J K105 w := hO.to rfl
        refine W.widen (k := (2 * (at107 - at9) - 1)) (n := (11 * (2 * (at107 - at9) - 1))) (by show 0 + (2 * (at107 - at9) - 1) ≤ (2 * (at107 - at9) - 1); omega) (by show 0 + (11 * (2 * (at107 - at9) - 1)) ≤ (11 * (2 * (at107 - at9) - 1)); omega) ?_
        refine W.eq (g2 := F0 m 73 ls [.ref r104]) rfl ?_
        have htk117 : NwT (B 7) sz (B 10) f109 K K105 at9 at107 := (NwT.call htk0 h116 (by omega))
        refine lv_astore (lv' := [(4, .ref r104), (3, .int (nI sg)), (2, .int 0), (0, .ref (a 3)), (1, .int (nI x))]) hx hb dX8_statement_73 hl (by decide) rfl (fun ls hl => ?_)
        refine lv_aload_n hx hb dX8_statement_75 rfl (lv_at hl 3 rfl) ?_
        refine lv_iload_n hx hb dX8_statement_76 rfl (lv_at hl 1 rfl) ?_
        refine c_put (v := .int (nI sg)) (ty := .int) (C := RX8) (Tc := TX8) (N := 5) (ci := 5) hx hb hq pin_wsX80 tyX8 tyX8_ok nmX8 hown hE hP hD hS hO 23 (sg_23 G h0 a _ _ _ _ _) rfl 4 (by decide) (hq _ pw_904) (fun _ h9 => h9) rfl (by decide +kernel) rfl rfl (Nat.le_of_ble_eq_true rfl) (sf_11 G h0 a _ _ _ _ _ (nI sg)) dX8_statement_77 (fun H locs w hP hD hS hO => ?_)
        refine lv_aload_n hx hb dX8_statement_80 rfl (lv_at hl 3 rfl) ?_
        have hO : OKW G h0 a (upd (upd (upd (upd (upd F 2 (nI sz)) 9 (nI at107)) 10 (nI (dp + 1))) 11 (nI sg)) 10 (nI (dp + 1))) R Z (updA B 10 f109) J K105.1 (fun q99 x99 => x99 = rep G a K105 q99) w := hO.to rfl
        obtain ⟨_, qr121, hqr122⟩ := hO.2.1 23 _ (sg_23 G h0 a _ _ _ _ _)
        refine pc_V0 (G := G) (As := []) (rest := []) hx hb hml hown hq hE hX pX0_al hP hD hS hA hl.1 (P_leave l G h0 a (upd (upd (upd (upd F 2 (nI sz)) 9 (nI at107)) 10 (nI (dp + 1))) 11 (nI sg)) R Z (updA B 10 f109) J K105.1 (fun q99 x99 => x99 = rep G a K105 q99) w (dp + 1) (by omega) hO) (gV pw_950 pw_951 pw_952 pw_796 pw_906) hV_X8_leave qr121 5 hqr122 rfl rfl rfl (Nat.le_of_ble_eq_true rfl) dX8_statement_81 ⟨(by show (2 * (at107 - at9) - 1) + 0 ≤ (2 * (sz - at9) + 20); omega), (by show (11 * (2 * (at107 - at9) - 1)) + 0 ≤ (11 * (2 * (sz - at9) + 20)); omega)⟩ ⟨(by show 2 + 1 ≤ (50 * n + 50); omega), (by show 8 + (1 + 11) + 60 ≤ (1500 * n + 1500); omega)⟩ (fun v120 u118 H locs hw119 hP hD hS => ?_)
        obtain ⟨w, _⟩ := u118
        obtain ⟨hw119, hO⟩ := hw119
        obtain rfl : v120 = none := hw119
        have hO : OKP G h0 a (upd (upd (upd (upd F 2 (nI sz)) 9 (nI at107)) 10 (nI ((dp + 1) - 1))) 11 (nI sg)) R Z (updA B 10 f109) J K105 w := hO.to rfl
        refine W.widen (k := (2 * (at107 - at9) - 1)) (n := (11 * (2 * (at107 - at9) - 1))) (by show (2 * (at107 - at9) - 1) + 0 ≤ (2 * (at107 - at9) - 1); omega) (by show (11 * (2 * (at107 - at9) - 1)) + 0 ≤ (11 * (2 * (at107 - at9) - 1)); omega) ?_
        refine W.eq (g2 := F0 m 84 ls []) rfl ?_
        refine lv_aload hx hb dX8_statement_84 (lv_at hl 0 rfl) ?_
        refine W_size (fun hz1 hz2 => ?_)
        refine vx_ret ?_
        have hz123 : NwR K K105 g g106 r104 O k110 ((170 + 3 * (20 - dp))) := (NwR.up h111 (by omega))
        have hz124 : rS k110 = at9 ∧ rE k110 ≤ at107 ∧ rS k110 ≤ rE k110 ∧ rD k110 ≤ 2 * (20 - dp) := (by omega)
        have hz125 : at9 + 1 ≤ at107 ∧ at107 ≤ sz := (by omega)
        have hz126 : sg ≤ sg ∧ sg ≤ 60 := (by omega)
        have hz127 : x = 0 → ¬ K105.2.1 0 r104 = 22 := (fun _ => h115)
        have hz128 : NwT (B 7) sz (B 10) f109 K K105 at9 at107 := (NwT.le htk117 (by omega))
        have hO : OKP G h0 a (upd (upd (upd (upd F 2 (nI sz)) 9 (nI at107)) 10 (nI dp)) 11 (nI sg)) R Z (updA B 10 f109) J K105 w := hO.to rfl
        refine W.widen (k := (2 * (sz - at9) + 20)) (n := (11 * (2 * (sz - at9) + 20))) (by omega) (by omega) ?_
        have hzz1 : H.size ≤ s.heap.size + ((2 * (at107 - at9) - 1)) := (by have z : (2 * (at107 - at9) - 1) ≤ (2 * (at107 - at9) - 1) := (by omega); omega)
        have hzz2 : hSl H ≤ hSl s.heap + ((11 * (2 * (at107 - at9) - 1))) := (by have z : (11 * (2 * (at107 - at9) - 1)) ≤ (11 * (2 * (at107 - at9) - 1)) := (by omega); omega)
        exact W.aret (v := .ref r104) hx hb hr (Or.inl ⟨_, rfl⟩) (Or.inr ⟨_, rfl⟩) (fun t99 ht99 hW99 => ⟨⟨_, (w, (r104, K105, g106, at107, sg, f109, k110)), rfl, ⟨rfl, hz123, hz124, hz125, hz126, hz127, hz128, hO⟩, by rw [ht99]; exact hP, hD, by rw [ht99]; exact hzz1, by rw [ht99]; exact hzz2⟩, hS.F ht99⟩) hS.2.2 dX8_statement_86
      · have n129 : r80 = 0 := (nI_eq (a := r80) (b := 0) (by omega) (by omega)).mp c82
        refine lv_aload_n hx hb dX8_statement_28 rfl (lv_at hl 1 rfl) ?_
        have hO : OKW G h0 a (upd (upd (upd (upd (upd (upd F 2 (nI sz)) 9 (nI at9)) 10 (nI dp)) 11 (nI sg)) 2 (nI sz)) 9 (nI at9)) R Z B J K.1 (fun q99 x99 => x99 = rep G a K q99) w := hO.to rfl
        obtain ⟨_, qr133, hqr134⟩ := hO.2.1 23 _ (sg_23 G h0 a _ _ _ _ _)
        refine pn_V0 (G := G) (As := []) (rest := []) hx hb hml hown hq hE hX pX0_al hP hD hS hA hl.1 (P_refuse l G h0 a (upd (upd (upd (upd F 2 (nI sz)) 9 (nI at9)) 10 (nI dp)) 11 (nI sg)) R Z B J K.1 (fun q99 x99 => x99 = rep G a K q99) w at9 sz (by omega) (by omega) hO hl0) (gV pw_806 pw_807 pw_808 pw_796 pw_778) hV_X8_refuse qr133 5 hqr134 rfl rfl rfl (Nat.le_of_ble_eq_true rfl) dX8_statement_29 ⟨(by show 0 + 1 ≤ (2 * (sz - at9) + 20); omega), (by show 0 + 6 ≤ (11 * (2 * (sz - at9) + 20)); omega)⟩ ⟨(by show 7 + 1 ≤ (50 * n + 50); omega), (by show 8 + (1 + 11) + 122 ≤ (1500 * n + 1500); omega)⟩ (fun v132 u130 H locs hw131 hP hD hS => hw131.elim) (fun ux ce9 q9 H9 locs9 hux hP9 hD9 hS9 hce hcv hcl => pb_out ux (ThQ.up (Thx.same (Thx.same Thx.rfl rfl) rfl) RhX.rfl hux) hnt hlocks hce hcv hcl hP9 hD9 hS9 (by show 0 + 1 ≤ (2 * (sz - at9) + 20); omega) (by show 0 + 6 ≤ (11 * (2 * (sz - at9) + 20)); omega))
    · have n135 : ¬ (r70 = 0) := fun h9 => c72 ((nI_eq (a := r70) (b := 0) (by omega) (by omega)).mpr h9)
      refine lv_iconst (v := 1) hx hb dX8_statement_11 (by decide) ?_
      refine lv_goto (tgt := 16) hx hb dX8_statement_12 (by decide) ?_
      refine lv_istore_n (lv' := [(2, .int 1), (0, .ref (a 3)), (1, .int (nI x))]) hx hb dX8_statement_16 rfl hl (by decide) rfl (fun ls hl => ?_)
      refine lv_iload_n hx hb dX8_statement_17 rfl (lv_at hl 0 rfl) ?_
      refine lv_if_ne (tgt := 32) hx hb dX8_statement_18 (by decide) (fun c136 => ?_) (fun c136 => absurd c136 (by decide))
      refine lv_aload_n hx hb dX8_statement_32 rfl (lv_at hl 1 rfl) ?_
      have hO : OKW G h0 a (upd (upd (upd (upd (upd (upd (upd F 2 (nI sz)) 9 (nI at9)) 10 (nI dp)) 11 (nI sg)) 2 (nI sz)) 9 (nI at9)) 10 (nI dp)) R Z B J K.1 (fun q99 x99 => x99 = rep G a K q99) w := hO.to rfl
      obtain ⟨_, qr140, hqr141⟩ := hO.2.1 23 _ (sg_23 G h0 a _ _ _ _ _)
      refine pn_V0 (G := G) (As := []) (rest := []) hx hb hml hown hq hE hX pX0_al hP hD hS hA hl.1 (P_enter l G h0 a (upd (upd (upd (upd F 2 (nI sz)) 9 (nI at9)) 10 (nI dp)) 11 (nI sg)) R Z B J K.1 (fun q99 x99 => x99 = rep G a K q99) w dp at9 sz (by omega) (by omega) (by omega) hO hl0) (gV pw_947 pw_948 pw_949 pw_796 pw_905) hV_X8_enter qr140 5 hqr141 rfl rfl rfl (Nat.le_of_ble_eq_true rfl) dX8_statement_33 ⟨(by show 0 + 1 ≤ (2 * (sz - at9) + 20); omega), (by show 0 + 6 ≤ (11 * (2 * (sz - at9) + 20)); omega)⟩ ⟨(by show 7 + 1 ≤ (50 * n + 50); omega), (by show 8 + (1 + 11) + 122 ≤ (1500 * n + 1500); omega)⟩ (fun v139 u137 H locs hw138 hP hD hS => ?_) (fun ux ce9 q9 H9 locs9 hux hP9 hD9 hS9 hce hcv hcl => pb_out ux (ThQ.up (Thx.same (Thx.same (Thx.same Thx.rfl rfl) rfl) rfl) RhX.rfl hux) hnt hlocks hce hcv hcl hP9 hD9 hS9 (by show 0 + 1 ≤ (2 * (sz - at9) + 20); omega) (by show 0 + 6 ≤ (11 * (2 * (sz - at9) + 20)); omega))
      obtain ⟨w, _⟩ := u137
      obtain ⟨hw138, h142, hO⟩ := hw138
      have h142 : dp + 1 ≤ 20 := h142
      obtain rfl : v139 = none := hw138
      have hO : OKP G h0 a (upd (upd (upd (upd F 2 (nI sz)) 9 (nI at9)) 10 (nI (dp + 1))) 11 (nI sg)) R Z B J K w := hO.to rfl
      refine W.widen (k := 0) (n := 0) (by show 0 + 0 ≤ 0; omega) (by show 0 + 0 ≤ 0; omega) ?_
      refine W.eq (g2 := F0 m 36 ls []) rfl ?_
      refine lv_aload_n hx hb dX8_statement_36 rfl (lv_at hl 1 rfl) ?_
      refine c_get (v := .int (nI sg)) (C := RX8) (Tc := TX8) (N := 5) (ci := 5) hx hb hq pin_wsX80 hown hE hP hO 23 (sg_23 G h0 a _ _ _ _ _) rfl 4 (by decide) (hq _ pw_904) (fun _ h9 => h9) rfl dX8_statement_37 ?_
      refine lv_istore_n (lv' := [(3, .int (nI sg)), (2, .int 1), (0, .ref (a 3)), (1, .int (nI x))]) hx hb dX8_statement_40 rfl hl (by decide) rfl (fun ls hl => ?_)
      refine lv_aload_n hx hb dX8_statement_41 rfl (lv_at hl 2 rfl) ?_
      refine lv_iconst (v := 0) hx hb dX8_statement_42 (by decide) ?_
      refine c_put (v := .int 0) (ty := .int) (C := RX8) (Tc := TX8) (N := 5) (ci := 5) hx hb hq pin_wsX80 tyX8 tyX8_ok nmX8 hown hE hP hD hS hO 23 (sg_23 G h0 a _ _ _ _ _) rfl 4 (by decide) (hq _ pw_904) (fun _ h9 => h9) rfl (by decide +kernel) rfl rfl (Nat.le_of_ble_eq_true rfl) (sf_11 G h0 a _ _ _ _ _ 0) dX8_statement_43 (fun H locs w hP hD hS hO => ?_)
      refine lv_iload_n hx hb dX8_statement_46 rfl (lv_at hl 1 rfl) ?_
      refine lv_if_eq (tgt := 58) hx hb dX8_statement_47 (by decide) (fun c143 => absurd c143 (by decide)) (fun c143 => ?_)
      refine lv_aload_n hx hb dX8_statement_50 rfl (lv_at hl 2 rfl) ?_
      refine lv_iconst (v := 1) hx hb dX8_statement_51 (by decide) ?_
      have hO : OKP G h0 a (upd (upd (upd (upd (upd (upd (upd (upd (upd (upd F 2 (nI sz)) 9 (nI at9)) 10 (nI dp)) 11 (nI sg)) 10 (nI (dp + 1))) 11 0) 2 (nI sz)) 9 (nI at9)) 10 (nI (dp + 1))) 11 (nI 0)) R Z B J K w := hO.to rfl
      obtain ⟨_, qr147, hqr148⟩ := hO.2.1 23 _ (sg_23 G h0 a _ _ _ _ _)
      refine pn_V0 (G := G) (As := [.int (nI 1)]) (rest := []) hx hb hml hown hq hE hX pX0_al hP hD hS hA hl.1 (P_lokal l G h0 a (upd (upd (upd (upd (upd (upd F 2 (nI sz)) 9 (nI at9)) 10 (nI dp)) 11 (nI sg)) 10 (nI (dp + 1))) 11 0) R Z B J K w 1 (n - 1) at9 sz (dp + 1) 0 O g (by omega) (by omega) (by omega) (by omega) hwn how (by omega) hO hl0) (gV pw_1015 pw_1016 pw_1017 pw_796 pw_987) hV_X8_local qr147 5 hqr148 rfl rfl rfl (Nat.le_of_ble_eq_true rfl) dX8_statement_52 ⟨(by show 0 + (2 * (sz - at9) + 20) ≤ (2 * (sz - at9) + 20); omega), (by show 0 + (11 * (2 * (sz - at9) + 20)) ≤ (11 * (2 * (sz - at9) + 20)); omega)⟩ ⟨(by show (40 * (n - 1) + 44) + 1 ≤ (50 * n + 50); omega), (by show 8 + (4 + 11) + (1300 * (n - 1) + 1400) ≤ (1500 * n + 1500); omega)⟩ (fun v146 u144 H locs hw145 hP hD hS => ?_) (fun ux ce9 q9 H9 locs9 hux hP9 hD9 hS9 hce hcv hcl => pb_out ux (ThQ.up (Thx.same (Thx.same (Thx.same (Thx.same (Thx.f (Thx.f Thx.rfl (by omega)) (by omega)) rfl) rfl) rfl) rfl) RhX.rfl hux) hnt hlocks hce hcv hcl hP9 hD9 hS9 (by show 0 + (2 * (sz - at9) + 20) ≤ (2 * (sz - at9) + 20); omega) (by show 0 + (11 * (2 * (sz - at9) + 20)) ≤ (11 * (2 * (sz - at9) + 20)); omega))
      obtain ⟨w, r149, K150, g151, at152, sg153, f154, k155⟩ := u144
      obtain ⟨hw145, h156, h157, h158, h159, h160, h161, hO⟩ := hw145
      have h156 : NwR K K150 g g151 r149 O k155 (168) := h156
      have h157 : rS k155 = at9 ∧ rE k155 ≤ at152 ∧ rS k155 ≤ rE k155 ∧ rD k155 ≤ 2 * (20 - (dp + 1)) + 2 := h157
      have h158 : at9 + 2 ≤ at152 ∧ at152 ≤ sz := h158
      have h159 : 0 ≤ sg153 ∧ sg153 ≤ 60 := h159
      have h160 : K150.2.1 0 r149 = 22 := h160
      have h161 : NwT ((B 7)) sz ((B 10)) f154 K K150 at9 at152 := h161
      obtain rfl : v146 = some (.ref r149) := hw145
      have hO : OKP G h0 a (upd (upd (upd (upd F 2 (nI sz)) 9 (nI at152)) 10 (nI (dp + 1))) 11 (nI sg153)) R Z (updA B 10 f154) J K150 w := hO.to rfl
      refine W.widen (k := (2 * (at152 - at9) - 3)) (n := (11 * (2 * (at152 - at9) - 3))) (by show 0 + (2 * (at152 - at9) - 3) ≤ (2 * (at152 - at9) - 3); omega) (by show 0 + (11 * (2 * (at152 - at9) - 3)) ≤ (11 * (2 * (at152 - at9) - 3)); omega) ?_
      refine W.eq (g2 := F0 m 55 ls [.ref r149]) rfl ?_
      have htk162 : NwT (B 7) sz (B 10) f154 K K150 at9 at152 := (NwT.call htk0 h161 (by omega))
      refine lv_goto (tgt := 73) hx hb dX8_statement_55 (by decide) ?_
      refine lv_astore (lv' := [(4, .ref r149), (3, .int (nI sg)), (2, .int 1), (0, .ref (a 3)), (1, .int (nI x))]) hx hb dX8_statement_73 hl (by decide) rfl (fun ls hl => ?_)
      refine lv_aload_n hx hb dX8_statement_75 rfl (lv_at hl 3 rfl) ?_
      refine lv_iload_n hx hb dX8_statement_76 rfl (lv_at hl 1 rfl) ?_
      refine c_put (v := .int (nI sg)) (ty := .int) (C := RX8) (Tc := TX8) (N := 5) (ci := 5) hx hb hq pin_wsX80 tyX8 tyX8_ok nmX8 hown hE hP hD hS hO 23 (sg_23 G h0 a _ _ _ _ _) rfl 4 (by decide) (hq _ pw_904) (fun _ h9 => h9) rfl (by decide +kernel) rfl rfl (Nat.le_of_ble_eq_true rfl) (sf_11 G h0 a _ _ _ _ _ (nI sg)) dX8_statement_77 (fun H locs w hP hD hS hO => ?_)
      refine lv_aload_n hx hb dX8_statement_80 rfl (lv_at hl 3 rfl) ?_
      have hO : OKW G h0 a (upd (upd (upd (upd (upd F 2 (nI sz)) 9 (nI at152)) 10 (nI (dp + 1))) 11 (nI sg)) 10 (nI (dp + 1))) R Z (updA B 10 f154) J K150.1 (fun q99 x99 => x99 = rep G a K150 q99) w := hO.to rfl
      obtain ⟨_, qr166, hqr167⟩ := hO.2.1 23 _ (sg_23 G h0 a _ _ _ _ _)
      refine pc_V0 (G := G) (As := []) (rest := []) hx hb hml hown hq hE hX pX0_al hP hD hS hA hl.1 (P_leave l G h0 a (upd (upd (upd (upd F 2 (nI sz)) 9 (nI at152)) 10 (nI (dp + 1))) 11 (nI sg)) R Z (updA B 10 f154) J K150.1 (fun q99 x99 => x99 = rep G a K150 q99) w (dp + 1) (by omega) hO) (gV pw_950 pw_951 pw_952 pw_796 pw_906) hV_X8_leave qr166 5 hqr167 rfl rfl rfl (Nat.le_of_ble_eq_true rfl) dX8_statement_81 ⟨(by show (2 * (at152 - at9) - 3) + 0 ≤ (2 * (sz - at9) + 20); omega), (by show (11 * (2 * (at152 - at9) - 3)) + 0 ≤ (11 * (2 * (sz - at9) + 20)); omega)⟩ ⟨(by show 2 + 1 ≤ (50 * n + 50); omega), (by show 8 + (1 + 11) + 60 ≤ (1500 * n + 1500); omega)⟩ (fun v165 u163 H locs hw164 hP hD hS => ?_)
      obtain ⟨w, _⟩ := u163
      obtain ⟨hw164, hO⟩ := hw164
      obtain rfl : v165 = none := hw164
      have hO : OKP G h0 a (upd (upd (upd (upd F 2 (nI sz)) 9 (nI at152)) 10 (nI ((dp + 1) - 1))) 11 (nI sg)) R Z (updA B 10 f154) J K150 w := hO.to rfl
      refine W.widen (k := (2 * (at152 - at9) - 3)) (n := (11 * (2 * (at152 - at9) - 3))) (by show (2 * (at152 - at9) - 3) + 0 ≤ (2 * (at152 - at9) - 3); omega) (by show (11 * (2 * (at152 - at9) - 3)) + 0 ≤ (11 * (2 * (at152 - at9) - 3)); omega) ?_
      refine W.eq (g2 := F0 m 84 ls []) rfl ?_
      refine lv_aload hx hb dX8_statement_84 (lv_at hl 0 rfl) ?_
      refine W_size (fun hz1 hz2 => ?_)
      refine vx_ret ?_
      have hz168 : NwR K K150 g g151 r149 O k155 ((170 + 3 * (20 - dp))) := (NwR.up h156 (by omega))
      have hz169 : rS k155 = at9 ∧ rE k155 ≤ at152 ∧ rS k155 ≤ rE k155 ∧ rD k155 ≤ 2 * (20 - dp) := (by omega)
      have hz170 : at9 + 1 ≤ at152 ∧ at152 ≤ sz := (by omega)
      have hz171 : sg ≤ sg ∧ sg ≤ 60 := (by omega)
      have hz172 : x = 0 → ¬ K150.2.1 0 r149 = 22 := (fun z9 => absurd z9 (by omega))
      have hz173 : NwT (B 7) sz (B 10) f154 K K150 at9 at152 := (NwT.le htk162 (by omega))
      have hO : OKP G h0 a (upd (upd (upd (upd F 2 (nI sz)) 9 (nI at152)) 10 (nI dp)) 11 (nI sg)) R Z (updA B 10 f154) J K150 w := hO.to rfl
      refine W.widen (k := (2 * (sz - at9) + 20)) (n := (11 * (2 * (sz - at9) + 20))) (by omega) (by omega) ?_
      have hzz1 : H.size ≤ s.heap.size + ((2 * (at152 - at9) - 1)) := (by have z : (2 * (at152 - at9) - 3) ≤ (2 * (at152 - at9) - 1) := (by omega); omega)
      have hzz2 : hSl H ≤ hSl s.heap + ((11 * (2 * (at152 - at9) - 1))) := (by have z : (11 * (2 * (at152 - at9) - 3)) ≤ (11 * (2 * (at152 - at9) - 1)) := (by omega); omega)
      exact W.aret (v := .ref r149) hx hb hr (Or.inl ⟨_, rfl⟩) (Or.inr ⟨_, rfl⟩) (fun t99 ht99 hW99 => ⟨⟨_, (w, (r149, K150, g151, at152, sg, f154, k155)), rfl, ⟨rfl, hz168, hz169, hz170, hz171, hz172, hz173, hO⟩, by rw [ht99]; exact hP, hD, by rw [ht99]; exact hzz1, by rw [ht99]; exact hzz2⟩, hS.F ht99⟩) hS.2.2 dX8_statement_86
theorem PSt_all (l : Launch) (G : pT) : ∀ n : Nat, PSt l G n := by
  intro n
  induction n with
  | zero =>
    intro h0 a F R Z B J K w x at9 sz dp sg O g hsz hat hdp hsg hwn how hx1x hO hl0
    exact P_statement l G h0 a F R Z B J K w x 0 at9 sz dp sg O g hsz hat hdp hsg hwn how hx1x (fun z => absurd z (by omega)) hO hl0
  | succ n ih =>
    intro h0 a F R Z B J K w x at9 sz dp sg O g hsz hat hdp hsg hwn how hx1x hO hl0
    exact P_statement l G h0 a F R Z B J K w x (n + 1) at9 sz dp sg O g hsz hat hdp hsg hwn how hx1x (fun _ => ih) hO hl0

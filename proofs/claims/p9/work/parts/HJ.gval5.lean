theorem dX0_value_0 : decode cX0_value 0 = .ok (.aload_n 1, 1) := by decide +kernel
theorem dX0_value_1 : decode cX0_value 1 = .ok (.getfield 178, 3) := by decide +kernel
theorem dX0_value_4 : decode cX0_value 4 = .ok (.tableswitch 288 1 20 #[105, 105, 288, 288, 279, 288, 96, 288, 270, 252, 261, 200, 243, 223, 162, 123, 171, 129, 191, 156], 96) := by decide +kernel
theorem dX0_value_109 : decode cX0_value 109 = .ok (.aload_n 0, 1) := by decide +kernel
theorem dX0_value_110 : decode cX0_value 110 = .ok (.aload_n 1, 1) := by decide +kernel
theorem dX0_value_111 : decode cX0_value 111 = .ok (.getfield 178, 3) := by decide +kernel
theorem dX0_value_114 : decode cX0_value 114 = .ok (.iconst 1, 1) := by decide +kernel
theorem dX0_value_115 : decode cX0_value 115 = .ok (.if_icmp .ne 7, 3) := by decide +kernel
theorem dX0_value_118 : decode cX0_value 118 = .ok (.iconst 1, 1) := by decide +kernel
theorem dX0_value_119 : decode cX0_value 119 = .ok (.goto 4, 3) := by decide +kernel
theorem dX0_value_123 : decode cX0_value 123 = .ok (.invokevirtual 299, 3) := by decide +kernel
theorem dX0_value_126 : decode cX0_value 126 = .ok (.ireturn, 1) := by decide +kernel
theorem dX0_value_122 : decode cX0_value 122 = .ok (.iconst 0, 1) := by decide +kernel
theorem dX0_value_292 : decode cX0_value 292 = .ok (.aload_n 0, 1) := by decide +kernel
theorem dX0_value_293 : decode cX0_value 293 = .ok (.aload_n 1, 1) := by decide +kernel
theorem dX0_value_294 : decode cX0_value 294 = .ok (.invokevirtual 341, 3) := by decide +kernel
theorem dX0_value_297 : decode cX0_value 297 = .ok (.istore_n 2, 1) := by decide +kernel
theorem dX0_value_298 : decode cX0_value 298 = .ok (.aload_n 0, 1) := by decide +kernel
theorem dX0_value_299 : decode cX0_value 299 = .ok (.aload_n 0, 1) := by decide +kernel
theorem dX0_value_300 : decode cX0_value 300 = .ok (.getfield 94, 3) := by decide +kernel
theorem dX0_value_303 : decode cX0_value 303 = .ok (.putfield 240, 3) := by decide +kernel
theorem dX0_value_306 : decode cX0_value 306 = .ok (.aload_n 0, 1) := by decide +kernel
theorem dX0_value_307 : decode cX0_value 307 = .ok (.aload_n 0, 1) := by decide +kernel
theorem dX0_value_308 : decode cX0_value 308 = .ok (.getfield 94, 3) := by decide +kernel
theorem dX0_value_311 : decode cX0_value 311 = .ok (.putfield 237, 3) := by decide +kernel
theorem dX0_value_314 : decode cX0_value 314 = .ok (.iload_n 2, 1) := by decide +kernel
theorem dX0_value_315 : decode cX0_value 315 = .ok (.ireturn, 1) := by decide +kernel
theorem dX0_value_283 : decode cX0_value 283 = .ok (.aload_n 0, 1) := by decide +kernel
theorem dX0_value_284 : decode cX0_value 284 = .ok (.aload_n 1, 1) := by decide +kernel
theorem dX0_value_285 : decode cX0_value 285 = .ok (.invokevirtual 338, 3) := by decide +kernel
theorem dX0_value_288 : decode cX0_value 288 = .ok (.istore_n 2, 1) := by decide +kernel
theorem dX0_value_289 : decode cX0_value 289 = .ok (.goto 9, 3) := by decide +kernel
theorem dX0_value_100 : decode cX0_value 100 = .ok (.aload_n 0, 1) := by decide +kernel
theorem dX0_value_101 : decode cX0_value 101 = .ok (.aload_n 1, 1) := by decide +kernel
theorem dX0_value_102 : decode cX0_value 102 = .ok (.getfield 165, 3) := by decide +kernel
theorem dX0_value_105 : decode cX0_value 105 = .ok (.invokevirtual 209, 3) := by decide +kernel
theorem dX0_value_108 : decode cX0_value 108 = .ok (.ireturn, 1) := by decide +kernel
theorem dX0_value_274 : decode cX0_value 274 = .ok (.aload_n 0, 1) := by decide +kernel
theorem dX0_value_275 : decode cX0_value 275 = .ok (.aload_n 1, 1) := by decide +kernel
theorem dX0_value_276 : decode cX0_value 276 = .ok (.invokevirtual 335, 3) := by decide +kernel
theorem dX0_value_279 : decode cX0_value 279 = .ok (.istore_n 2, 1) := by decide +kernel
theorem dX0_value_280 : decode cX0_value 280 = .ok (.goto 18, 3) := by decide +kernel
theorem dX0_value_256 : decode cX0_value 256 = .ok (.aload_n 0, 1) := by decide +kernel
theorem dX0_value_257 : decode cX0_value 257 = .ok (.aload_n 1, 1) := by decide +kernel
theorem dX0_value_258 : decode cX0_value 258 = .ok (.invokevirtual 329, 3) := by decide +kernel
theorem dX0_value_261 : decode cX0_value 261 = .ok (.istore_n 2, 1) := by decide +kernel
theorem dX0_value_262 : decode cX0_value 262 = .ok (.goto 36, 3) := by decide +kernel
theorem dX0_value_265 : decode cX0_value 265 = .ok (.aload_n 0, 1) := by decide +kernel
theorem dX0_value_266 : decode cX0_value 266 = .ok (.aload_n 1, 1) := by decide +kernel
theorem dX0_value_267 : decode cX0_value 267 = .ok (.invokevirtual 332, 3) := by decide +kernel
theorem dX0_value_270 : decode cX0_value 270 = .ok (.istore_n 2, 1) := by decide +kernel
theorem dX0_value_271 : decode cX0_value 271 = .ok (.goto 27, 3) := by decide +kernel
theorem dX0_value_204 : decode cX0_value 204 = .ok (.aload_n 0, 1) := by decide +kernel
theorem dX0_value_205 : decode cX0_value 205 = .ok (.aload_n 1, 1) := by decide +kernel
theorem dX0_value_206 : decode cX0_value 206 = .ok (.invokevirtual 223, 3) := by decide +kernel
theorem dX0_value_209 : decode cX0_value 209 = .ok (.istore_n 2, 1) := by decide +kernel
theorem dX0_value_210 : decode cX0_value 210 = .ok (.aload_n 0, 1) := by decide +kernel
theorem dX0_value_211 : decode cX0_value 211 = .ok (.getfield 15, 3) := by decide +kernel
theorem dX0_value_214 : decode cX0_value 214 = .ok (.bipush 17, 2) := by decide +kernel
theorem dX0_value_216 : decode cX0_value 216 = .ok (.aload_n 1, 1) := by decide +kernel
theorem dX0_value_217 : decode cX0_value 217 = .ok (.getfield 226, 3) := by decide +kernel
theorem dX0_value_220 : decode cX0_value 220 = .ok (.iconst 0, 1) := by decide +kernel
theorem dX0_value_221 : decode cX0_value 221 = .ok (.invokevirtual 140, 3) := by decide +kernel
theorem dX0_value_224 : decode cX0_value 224 = .ok (.goto 74, 3) := by decide +kernel
theorem dX0_value_247 : decode cX0_value 247 = .ok (.aload_n 0, 1) := by decide +kernel
theorem dX0_value_248 : decode cX0_value 248 = .ok (.aload_n 1, 1) := by decide +kernel
theorem dX0_value_249 : decode cX0_value 249 = .ok (.invokevirtual 326, 3) := by decide +kernel
theorem dX0_value_252 : decode cX0_value 252 = .ok (.istore_n 2, 1) := by decide +kernel
theorem dX0_value_253 : decode cX0_value 253 = .ok (.goto 45, 3) := by decide +kernel
theorem dX0_value_227 : decode cX0_value 227 = .ok (.aload_n 0, 1) := by decide +kernel
theorem dX0_value_228 : decode cX0_value 228 = .ok (.aload_n 1, 1) := by decide +kernel
theorem dX0_value_229 : decode cX0_value 229 = .ok (.invokevirtual 217, 3) := by decide +kernel
theorem dX0_value_232 : decode cX0_value 232 = .ok (.istore_n 2, 1) := by decide +kernel
theorem dX0_value_233 : decode cX0_value 233 = .ok (.aload_n 0, 1) := by decide +kernel
theorem dX0_value_234 : decode cX0_value 234 = .ok (.getfield 15, 3) := by decide +kernel
theorem dX0_value_237 : decode cX0_value 237 = .ok (.bipush 19, 2) := by decide +kernel
theorem dX0_value_239 : decode cX0_value 239 = .ok (.iconst 0, 1) := by decide +kernel
theorem dX0_value_240 : decode cX0_value 240 = .ok (.iconst 0, 1) := by decide +kernel
theorem dX0_value_241 : decode cX0_value 241 = .ok (.invokevirtual 140, 3) := by decide +kernel
theorem dX0_value_244 : decode cX0_value 244 = .ok (.goto 54, 3) := by decide +kernel
theorem dX0_value_166 : decode cX0_value 166 = .ok (.aload_n 0, 1) := by decide +kernel
theorem dX0_value_167 : decode cX0_value 167 = .ok (.aload_n 1, 1) := by decide +kernel
theorem dX0_value_168 : decode cX0_value 168 = .ok (.invokevirtual 316, 3) := by decide +kernel
theorem dX0_value_171 : decode cX0_value 171 = .ok (.istore_n 2, 1) := by decide +kernel
theorem dX0_value_172 : decode cX0_value 172 = .ok (.goto 126, 3) := by decide +kernel
theorem dX0_value_127 : decode cX0_value 127 = .ok (.aload_n 0, 1) := by decide +kernel
theorem dX0_value_128 : decode cX0_value 128 = .ok (.aload_n 1, 1) := by decide +kernel
theorem dX0_value_129 : decode cX0_value 129 = .ok (.invokevirtual 303, 3) := by decide +kernel
theorem dX0_value_132 : decode cX0_value 132 = .ok (.ireturn, 1) := by decide +kernel
theorem dX0_value_175 : decode cX0_value 175 = .ok (.aload_n 0, 1) := by decide +kernel
theorem dX0_value_176 : decode cX0_value 176 = .ok (.aload_n 1, 1) := by decide +kernel
theorem dX0_value_177 : decode cX0_value 177 = .ok (.aload_n 0, 1) := by decide +kernel
theorem dX0_value_178 : decode cX0_value 178 = .ok (.getfield 9, 3) := by decide +kernel
theorem dX0_value_181 : decode cX0_value 181 = .ok (.aload_n 1, 1) := by decide +kernel
theorem dX0_value_182 : decode cX0_value 182 = .ok (.getfield 114, 3) := by decide +kernel
theorem dX0_value_185 : decode cX0_value 185 = .ok (.invokevirtual 306, 3) := by decide +kernel
theorem dX0_value_188 : decode cX0_value 188 = .ok (.invokevirtual 319, 3) := by decide +kernel
theorem dX0_value_191 : decode cX0_value 191 = .ok (.istore_n 2, 1) := by decide +kernel
theorem dX0_value_192 : decode cX0_value 192 = .ok (.goto 106, 3) := by decide +kernel
theorem dX0_value_133 : decode cX0_value 133 = .ok (.aload_n 0, 1) := by decide +kernel
theorem dX0_value_134 : decode cX0_value 134 = .ok (.aload_n 1, 1) := by decide +kernel
theorem dX0_value_135 : decode cX0_value 135 = .ok (.aload_n 0, 1) := by decide +kernel
theorem dX0_value_136 : decode cX0_value 136 = .ok (.getfield 9, 3) := by decide +kernel
theorem dX0_value_139 : decode cX0_value 139 = .ok (.aload_n 1, 1) := by decide +kernel
theorem dX0_value_140 : decode cX0_value 140 = .ok (.getfield 114, 3) := by decide +kernel
theorem dX0_value_143 : decode cX0_value 143 = .ok (.invokevirtual 306, 3) := by decide +kernel
theorem dX0_value_146 : decode cX0_value 146 = .ok (.bipush 60, 2) := by decide +kernel
theorem dX0_value_148 : decode cX0_value 148 = .ok (.if_icmp .ne 7, 3) := by decide +kernel
theorem dX0_value_155 : decode cX0_value 155 = .ok (.iconst 0, 1) := by decide +kernel
theorem dX0_value_156 : decode cX0_value 156 = .ok (.invokevirtual 309, 3) := by decide +kernel
theorem dX0_value_159 : decode cX0_value 159 = .ok (.ireturn, 1) := by decide +kernel
theorem dX0_value_151 : decode cX0_value 151 = .ok (.iconst 1, 1) := by decide +kernel
theorem dX0_value_152 : decode cX0_value 152 = .ok (.goto 4, 3) := by decide +kernel
theorem dX0_value_195 : decode cX0_value 195 = .ok (.aload_n 0, 1) := by decide +kernel
theorem dX0_value_196 : decode cX0_value 196 = .ok (.aload_n 1, 1) := by decide +kernel
theorem dX0_value_197 : decode cX0_value 197 = .ok (.invokevirtual 323, 3) := by decide +kernel
theorem dX0_value_200 : decode cX0_value 200 = .ok (.istore_n 2, 1) := by decide +kernel
theorem dX0_value_201 : decode cX0_value 201 = .ok (.goto 97, 3) := by decide +kernel
theorem dX0_value_160 : decode cX0_value 160 = .ok (.aload_n 0, 1) := by decide +kernel
theorem dX0_value_161 : decode cX0_value 161 = .ok (.aload_n 1, 1) := by decide +kernel
theorem dX0_value_162 : decode cX0_value 162 = .ok (.invokevirtual 313, 3) := by decide +kernel
theorem dX0_value_165 : decode cX0_value 165 = .ok (.ireturn, 1) := by decide +kernel
theorem hV_X0_truth : yX0_truth.cls = RX0 ∧ yX0_truth.cls ≠ "java/lang/invoke/MethodHandle" ∧ yX0_truth.cls ≠ "java/lang/invoke/VarHandle" ∧ (parseMethodDescriptor yX0_truth.desc).map (fun d => d.parameters.length) = some 1 := by decide +kernel
theorem hV_X0_single : yX0_single.cls = RX0 ∧ yX0_single.cls ≠ "java/lang/invoke/MethodHandle" ∧ yX0_single.cls ≠ "java/lang/invoke/VarHandle" ∧ (parseMethodDescriptor yX0_single.desc).map (fun d => d.parameters.length) = some 1 := by decide +kernel
theorem hV_X0_variableValue : yX0_variableValue.cls = RX0 ∧ yX0_variableValue.cls ≠ "java/lang/invoke/MethodHandle" ∧ yX0_variableValue.cls ≠ "java/lang/invoke/VarHandle" ∧ (parseMethodDescriptor yX0_variableValue.desc).map (fun d => d.parameters.length) = some 1 := by decide +kernel
theorem hV_X0_newArray : yX0_newArray.cls = RX0 ∧ yX0_newArray.cls ≠ "java/lang/invoke/MethodHandle" ∧ yX0_newArray.cls ≠ "java/lang/invoke/VarHandle" ∧ (parseMethodDescriptor yX0_newArray.desc).map (fun d => d.parameters.length) = some 1 := by decide +kernel
theorem hV_X0_call : yX0_call.cls = RX0 ∧ yX0_call.cls ≠ "java/lang/invoke/MethodHandle" ∧ yX0_call.cls ≠ "java/lang/invoke/VarHandle" ∧ (parseMethodDescriptor yX0_call.desc).map (fun d => d.parameters.length) = some 1 := by decide +kernel
theorem hV_X0_superCall : yX0_superCall.cls = RX0 ∧ yX0_superCall.cls ≠ "java/lang/invoke/MethodHandle" ∧ yX0_superCall.cls ≠ "java/lang/invoke/VarHandle" ∧ (parseMethodDescriptor yX0_superCall.desc).map (fun d => d.parameters.length) = some 1 := by decide +kernel
theorem hV_X0_fieldBehind : yX0_fieldBehind.cls = RX0 ∧ yX0_fieldBehind.cls ≠ "java/lang/invoke/MethodHandle" ∧ yX0_fieldBehind.cls ≠ "java/lang/invoke/VarHandle" ∧ (parseMethodDescriptor yX0_fieldBehind.desc).map (fun d => d.parameters.length) = some 1 := by decide +kernel
theorem hV_X0_length : yX0_length.cls = RX0 ∧ yX0_length.cls ≠ "java/lang/invoke/MethodHandle" ∧ yX0_length.cls ≠ "java/lang/invoke/VarHandle" ∧ (parseMethodDescriptor yX0_length.desc).map (fun d => d.parameters.length) = some 1 := by decide +kernel
theorem hV_X0_element : yX0_element.cls = RX0 ∧ yX0_element.cls ≠ "java/lang/invoke/MethodHandle" ∧ yX0_element.cls ≠ "java/lang/invoke/VarHandle" ∧ (parseMethodDescriptor yX0_element.desc).map (fun d => d.parameters.length) = some 1 := by decide +kernel
theorem hV_X0_prefix : yX0_prefix.cls = RX0 ∧ yX0_prefix.cls ≠ "java/lang/invoke/MethodHandle" ∧ yX0_prefix.cls ≠ "java/lang/invoke/VarHandle" ∧ (parseMethodDescriptor yX0_prefix.desc).map (fun d => d.parameters.length) = some 1 := by decide +kernel
theorem hV_X0_negation : yX0_negation.cls = RX0 ∧ yX0_negation.cls ≠ "java/lang/invoke/MethodHandle" ∧ yX0_negation.cls ≠ "java/lang/invoke/VarHandle" ∧ (parseMethodDescriptor yX0_negation.desc).map (fun d => d.parameters.length) = some 1 := by decide +kernel
theorem hV_X0_sign : yX0_sign.cls = RX0 ∧ yX0_sign.cls ≠ "java/lang/invoke/MethodHandle" ∧ yX0_sign.cls ≠ "java/lang/invoke/VarHandle" ∧ (parseMethodDescriptor yX0_sign.desc).map (fun d => d.parameters.length) = some 2 := by decide +kernel
theorem hV_X0_shortened : yX0_shortened.cls = RX0 ∧ yX0_shortened.cls ≠ "java/lang/invoke/MethodHandle" ∧ yX0_shortened.cls ≠ "java/lang/invoke/VarHandle" ∧ (parseMethodDescriptor yX0_shortened.desc).map (fun d => d.parameters.length) = some 2 := by decide +kernel
theorem hV_X0_check : yX0_check.cls = RX0 ∧ yX0_check.cls ≠ "java/lang/invoke/MethodHandle" ∧ yX0_check.cls ≠ "java/lang/invoke/VarHandle" ∧ (parseMethodDescriptor yX0_check.desc).map (fun d => d.parameters.length) = some 1 := by decide +kernel
theorem hV_X0_choice : yX0_choice.cls = RX0 ∧ yX0_choice.cls ≠ "java/lang/invoke/MethodHandle" ∧ yX0_choice.cls ≠ "java/lang/invoke/VarHandle" ∧ (parseMethodDescriptor yX0_choice.desc).map (fun d => d.parameters.length) = some 1 := by decide +kernel
set_option maxHeartbeats 40000000 in
set_option maxRecDepth 100000 in
theorem B_value0 (l : Launch) (G : pT) (h0 : Nat) (a : Nat → Nat) (F : Nat → Int32) (R : Nat → Value) (Z : Int64) (B : Nat → Nat → Int32) (J : Nat → Nat → Int64) (K : PK) (w : va_W) (pq : Nat) (dr : Nat) (ml : Nat) (nd : Nat) (nm : Nat) (cp : Nat) (it : Nat → Nat) (s9 : Nat) (q : Nat) (mq : Nat) (cs : Nat) (vr : Nat) (sz : Nat) (n : Nat) (g : Nat → Nat → Nat) (rk : Nat → Nat) (hsz : sz ≤ 5000) (hwp : WPr G K g) (hps : PgT G K g (a 1) pq dr ml nd nm cp it s9) (hrk : RkO K rk) (hcs : cs ≤ 10000) (hvr : vr ≤ 30) (hng : Nng (B 18)) (hmq : K.1 mq = 3) (hqT : K.1 q = 1) (hqL : 1 ≤ g 0 q ∧ g 0 q ≤ n) (ihv : IhV l G n) (hO : OKP G h0 a (upd (upd (upd F 2 (nI sz)) 5 (nI cs)) 12 (nI vr)) (updR (updR R 2 (.ref pq)) 3 (.ref mq)) Z B J K w) (hl0 : l.stackTraces = false) : PBn l G pX0 yX0_value cX0_value 3 (some .int) ({ frames := (5 * n + 34), cells := 1, slots := 6, locals := (200 * n + 600) }) [.ref (a 4), .ref q] w (fun (v : Option Value) (u : va_W × (PK × (Nat → Nat → Int32) × Nat × Int32 × Int32 × Int32 × Int32)) => v = some (.int u.2.2.2.2.2.2.2) ∧ (BdE K u.2.1) ∧ (Bth B u.2.2.1) ∧ (u.2.2.2.1 ≤ 10000) ∧ (OKP G h0 a (upd (upd (upd (upd (upd (upd F 2 (nI sz)) 5 (nI u.2.2.2.1)) 12 (nI vr)) 13 u.2.2.2.2.1) 14 u.2.2.2.2.2.1) 15 u.2.2.2.2.2.2.1) (updR (updR R 2 (.ref pq)) 3 (.ref mq)) Z u.2.2.1 J u.2.1 u.1)) (fun u => u.1) (fun (u : va_W × (PK × (Nat → Nat → Int32) × Nat × Int32 × Int32 × Int32 × Int32)) => 0) (fun (u : va_W × (PK × (Nat → Nat → Int32) × Nat × Int32 × Int32 × Int32 × Int32)) => 0) (fun (u : va_W × (Nat → Int32) × (Nat → Value) × (Nat → Nat → Int32)) => ThQ G h0 a (upd (upd (upd F 2 (nI sz)) 5 (nI cs)) 12 (nI vr)) (updR (updR R 2 (.ref pq)) 3 (.ref mq)) Z B J u) (fun u => u.1) := by
  intro sz
  refine vx_ofW (cc := cX0_value) (maxL := 3) (ret := (some .int)) (by decide) rfl ?_
  intro p e s m args below meth c s₁ B9 hml hnt hv
  obtain ⟨rfl, hsz, hP, hD0, hE, hX⟩ := hv
  have hx := B9.exec
  have hb := B9.bytes
  have hr := B9.returns
  have hts := atoms_spec (ws := Cond.code yX0_value cX0_value 3 (some .int) :: pw) B9.pre
  have hq : ∀ w ∈ pw, w.before _ s = true := fun w h => hts w (List.mem_cons_of_mem _ h)
  have hown : s.vm.findClass RX0 = some m.cls := findClass_of_methodNamed B9.named
  have hlocks := B9.notSynchronized
  subst hsz
  have hD := hD0.self (sz := s.heap.size)
  have hA : ∀ q : Nat, s.heap.size ≤ q → va_A w s.heap.size q := fun q h => Or.inr h
  generalize va_A w s.heap.size = A at hD hE hA ⊢
  have hS : va_S A s.heap s.heap [] := va_S.rf
  have hl := lv_entry ([.ref (a 4), .ref q]) (n := 3) (Nat.le_of_ble_eq_true rfl)
  rw [lg_entry_eq]
  generalize (lg_sl ([.ref (a 4), .ref q]) ++ List.replicate (3 - (lg_sl ([.ref (a 4), .ref q])).length) Slot.unset).toArray = ls at hl ⊢
  have hl : lv_has ls 3 [(0, .ref (a 4)), (1, .ref q)] := hl
  have hpg := hps.1
  have hp1 := hpg.1
  have hp2 := hpg.2.1
  have hp3 := hpg.2.2.1
  have hp4 := hpg.2.2.2.1
  have hp5 := hpg.2.2.2.2.1
  have hp6 := hpg.2.2.2.2.2.1
  have hp8 := hpg.2.2.2.2.2.2.2.1
  have hp9 := hpg.2.2.2.2.2.2.2.2
  obtain ⟨kd, hkd⟩ : ∃ z : Int32, K.2.1 0 q = z := ⟨_, rfl⟩
  refine lv_aload_n hx hb dX0_value_0 rfl (lv_at hl 1 rfl) ?_
  refine p_get (v := .int kd) (C := RX7) (Tc := TX7) (N := 11) (ci := 13) hx hb hq pin_wsX70 hown hE hP hO (by rw [hqT]; decide) (rep_1 hqT) rfl 0 (by decide) (hq _ pw_166) (fun _ h9 => h9) (congrArg (fun z => some (Value.int z)) hkd) dX0_value_1 ?_
  by_cases h1 : kd = 1
  · subst h1
    refine lv_tableIn (tgt := 109) (off := 105) hx hb dX0_value_4 (by decide) (by decide) (by decide) (by decide) ?_
    refine lv_aload_n hx hb dX0_value_109 rfl (lv_at hl 0 rfl) ?_
    refine lv_aload_n hx hb dX0_value_110 rfl (lv_at hl 1 rfl) ?_
    refine p_get (v := .int 1) (C := RX7) (Tc := TX7) (N := 11) (ci := 13) hx hb hq pin_wsX70 hown hE hP hO (by rw [hqT]; decide) (rep_1 hqT) rfl 0 (by decide) (hq _ pw_166) (fun _ h9 => h9) (congrArg (fun z => some (Value.int z)) hkd) dX0_value_111 ?_
    refine lv_iconst (v := 1) hx hb dX0_value_114 (by decide) ?_
    refine lv_icmp_ne (tgt := 122) hx hb dX0_value_115 (by decide) (fun c2 => absurd c2 (by decide)) (fun c2 => ?_)
    refine lv_iconst (v := 1) hx hb dX0_value_118 (by decide) ?_
    refine lv_goto (tgt := 123) hx hb dX0_value_119 (by decide) ?_
    have hO : OKP G h0 a (upd (upd (upd (upd (upd (upd F 2 (nI sz)) 5 (nI cs)) 12 (nI vr)) 2 (nI sz)) 5 (nI cs)) 12 (nI vr)) (updR (updR (updR (updR R 2 (.ref pq)) 3 (.ref mq)) 2 (.ref pq)) 3 (.ref mq)) Z B J K w := hO.to rfl
    obtain ⟨_, qr6, hqr7⟩ := hO.2.1 24 _ (sg_24 G h0 a _ _ _ _ _)
    refine pn_V0 (G := G) (As := [.int (nI 1)]) (rest := []) hx hb hml hown hq hE hX pX0_al hP hD hS hA hl.1 (B_truth l G h0 a (upd (upd (upd F 2 (nI sz)) 5 (nI cs)) 12 (nI vr)) (updR (updR R 2 (.ref pq)) 3 (.ref mq)) Z B J K w pq dr ml nd nm cp it s9 q mq cs vr sz n 1 g rk (by omega) (BdE.wp BdE.rfl hwp) (BdE.pt BdE.rfl hwp hps) (BdE.rko BdE.rfl hrk) (by omega) (by omega) hng hmq hqT hqL (by omega) hO hl0) (gV pw_225 pw_226 pw_227 pw_63 pw_155) hV_X0_truth qr6 0 hqr7 rfl rfl rfl (Nat.le_of_ble_eq_true rfl) dX0_value_123 ⟨(by show 0 + 1 ≤ 1; omega), (by show 0 + 6 ≤ 6; omega)⟩ ⟨(by show (5 * n + 33) + 1 ≤ (5 * n + 34); omega), (by show 8 + (2 + 11) + (200 * n + 560) ≤ (200 * n + 600); omega)⟩ (fun v5 u3 H locs hw4 hP hD hS => ?_) (fun ux ce9 q9 H9 locs9 hux hP9 hD9 hS9 hce hcv hcl => pb_out ux (ThQ.up (Thx.same (Thx.same (Thx.same Thx.rfl rfl) rfl) rfl) (show RhX (updR (updR R 2 (.ref pq)) 3 (.ref mq)) (updR (updR (updR (updR R 2 (.ref pq)) 3 (.ref mq)) 2 (.ref pq)) 3 (.ref mq)) from fun k9 hk9 => by unfold updR; simp only [show ¬ k9 = 1 by omega, show ¬ k9 = 2 by omega, show ¬ k9 = 3 by omega, show ¬ k9 = 4 by omega, if_false]) hux) hnt hlocks hce hcv hcl hP9 hD9 hS9 (by show 0 + 1 ≤ 1; omega) (by show 0 + 6 ≤ 6; omega))
    obtain ⟨w, K8, B9, cs10, as11, wt12, wf13, r14⟩ := u3
    obtain ⟨hw4, h15, h16, h17, hO⟩ := hw4
    have h15 : BdE K K8 := h15
    have h16 : Bth B B9 := h16
    have h17 : cs10 ≤ 10000 := h17
    obtain rfl : v5 = some (.int r14) := hw4
    have hf18 : K8.1 pq = 7 := (BdE.T h15 hp1 (by decide))
    have hf19 : K8.2.2.1 18 pq = some (a 1) := (BdE.C h15 (by rw [hp1]; decide) 18).trans hp2
    have hf20 : K8.2.2.1 14 pq = some dr := (BdE.C h15 (by rw [hp1]; decide) 14).trans hp3
    have hf21 : K8.1 dr = 8 := (BdE.T h15 hp4 (by decide))
    have hf22 : K8.2.2.1 15 pq = some ml := (BdE.C h15 (by rw [hp1]; decide) 15).trans hp5
    have hf23 : K8.1 ml = 5 := (BdE.T h15 hp6 (by decide))
    have hf24 : K8.2.1 24 pq = (nI nd) := (BdE.I h15 (by rw [hp1]; decide) (by decide) (by decide)).trans hp8
    have hf25 : K8.1 q = 1 := (BdE.T h15 hqT (by decide))
    have hf26 : K8.1 mq = 3 := (BdE.T h15 hmq (by decide))
    have hf27 : K8.2.1 0 q = 1 := (BdE.I h15 (by rw [hqT]; decide) (by decide) (by decide)).trans hkd
    have hO : OKP G h0 a (upd (upd (upd (upd (upd (upd F 2 (nI sz)) 5 (nI cs10)) 12 (nI vr)) 13 as11) 14 wt12) 15 wf13) (updR (updR R 2 (.ref pq)) 3 (.ref mq)) Z B9 J K8 w := hO.to rfl
    refine W.widen (k := 0) (n := 0) (by show 0 + 0 ≤ 0; omega) (by show 0 + 0 ≤ 0; omega) ?_
    refine W.eq (g2 := F0 m 126 ls [.int r14]) rfl ?_
    have hbe28 := BdE.trans BdE.rfl h15
    have hbb29 : Bth B B9 := Bth.trans (show Thx (upd (upd (upd F 2 (nI sz)) 5 (nI cs)) 12 (nI vr)) (upd (upd (upd F 2 (nI sz)) 5 (nI cs)) 12 (nI vr)) B B from Thx.rfl).2 h16
    have hng30 : Nng (B9 18) := h16.2 hng
    refine W_size (fun hz1 hz2 => ?_)
    refine vx_ret ?_
    have hz31 : BdE K K8 := hbe28
    have hz32 : Bth B B9 := (show Thx (upd (upd (upd F 2 (nI sz)) 5 (nI cs)) 12 (nI vr)) (upd (upd (upd (upd (upd (upd (upd F 2 (nI sz)) 5 (nI cs)) 12 (nI vr)) 5 (nI cs10)) 13 as11) 14 wt12) 15 wf13) B B9 from (Thx.f (Thx.f (Thx.f (Thx.f (Bth.thx hbb29) (by omega)) (by omega)) (by omega)) (by omega))).2
    have hz33 : cs10 ≤ 10000 := (by omega)
    have hO : OKP G h0 a (upd (upd (upd (upd (upd (upd F 2 (nI sz)) 5 (nI cs10)) 12 (nI vr)) 13 as11) 14 wt12) 15 wf13) (updR (updR R 2 (.ref pq)) 3 (.ref mq)) Z B9 J K8 w := hO.to rfl
    refine W.widen (k := 1) (n := 6) (by omega) (by omega) ?_
    have hzz1 : H.size ≤ s.heap.size + (0) := (by have z : 0 ≤ 0 := (by omega); omega)
    have hzz2 : hSl H ≤ hSl s.heap + (0) := (by have z : 0 ≤ 0 := (by omega); omega)
    exact W.iret (v := r14) hx hb hr (fun t99 ht99 hW99 => ⟨⟨_, (w, (K8, B9, cs10, as11, wt12, wf13, r14)), rfl, ⟨rfl, hz31, hz32, hz33, hO⟩, by rw [ht99]; exact hP, hD, by rw [ht99]; exact hzz1, by rw [ht99]; exact hzz2⟩, hS.F ht99⟩) hS.2.2 dX0_value_126
  by_cases h34 : kd = 2
  · subst h34
    refine lv_tableIn (tgt := 109) (off := 105) hx hb dX0_value_4 (by decide) (by decide) (by decide) (by decide) ?_
    refine lv_aload_n hx hb dX0_value_109 rfl (lv_at hl 0 rfl) ?_
    refine lv_aload_n hx hb dX0_value_110 rfl (lv_at hl 1 rfl) ?_
    refine p_get (v := .int 2) (C := RX7) (Tc := TX7) (N := 11) (ci := 13) hx hb hq pin_wsX70 hown hE hP hO (by rw [hqT]; decide) (rep_1 hqT) rfl 0 (by decide) (hq _ pw_166) (fun _ h9 => h9) (congrArg (fun z => some (Value.int z)) hkd) dX0_value_111 ?_
    refine lv_iconst (v := 1) hx hb dX0_value_114 (by decide) ?_
    refine lv_icmp_ne (tgt := 122) hx hb dX0_value_115 (by decide) (fun c35 => ?_) (fun c35 => absurd c35 (by decide))
    refine lv_iconst (v := 0) hx hb dX0_value_122 (by decide) ?_
    have hO : OKP G h0 a (upd (upd (upd (upd (upd (upd F 2 (nI sz)) 5 (nI cs)) 12 (nI vr)) 2 (nI sz)) 5 (nI cs)) 12 (nI vr)) (updR (updR (updR (updR R 2 (.ref pq)) 3 (.ref mq)) 2 (.ref pq)) 3 (.ref mq)) Z B J K w := hO.to rfl
    obtain ⟨_, qr39, hqr40⟩ := hO.2.1 24 _ (sg_24 G h0 a _ _ _ _ _)
    refine pn_V0 (G := G) (As := [.int (nI 0)]) (rest := []) hx hb hml hown hq hE hX pX0_al hP hD hS hA hl.1 (B_truth l G h0 a (upd (upd (upd F 2 (nI sz)) 5 (nI cs)) 12 (nI vr)) (updR (updR R 2 (.ref pq)) 3 (.ref mq)) Z B J K w pq dr ml nd nm cp it s9 q mq cs vr sz n 0 g rk (by omega) (BdE.wp BdE.rfl hwp) (BdE.pt BdE.rfl hwp hps) (BdE.rko BdE.rfl hrk) (by omega) (by omega) hng hmq hqT hqL (by omega) hO hl0) (gV pw_225 pw_226 pw_227 pw_63 pw_155) hV_X0_truth qr39 0 hqr40 rfl rfl rfl (Nat.le_of_ble_eq_true rfl) dX0_value_123 ⟨(by show 0 + 1 ≤ 1; omega), (by show 0 + 6 ≤ 6; omega)⟩ ⟨(by show (5 * n + 33) + 1 ≤ (5 * n + 34); omega), (by show 8 + (2 + 11) + (200 * n + 560) ≤ (200 * n + 600); omega)⟩ (fun v38 u36 H locs hw37 hP hD hS => ?_) (fun ux ce9 q9 H9 locs9 hux hP9 hD9 hS9 hce hcv hcl => pb_out ux (ThQ.up (Thx.same (Thx.same (Thx.same Thx.rfl rfl) rfl) rfl) (show RhX (updR (updR R 2 (.ref pq)) 3 (.ref mq)) (updR (updR (updR (updR R 2 (.ref pq)) 3 (.ref mq)) 2 (.ref pq)) 3 (.ref mq)) from fun k9 hk9 => by unfold updR; simp only [show ¬ k9 = 1 by omega, show ¬ k9 = 2 by omega, show ¬ k9 = 3 by omega, show ¬ k9 = 4 by omega, if_false]) hux) hnt hlocks hce hcv hcl hP9 hD9 hS9 (by show 0 + 1 ≤ 1; omega) (by show 0 + 6 ≤ 6; omega))
    obtain ⟨w, K41, B42, cs43, as44, wt45, wf46, r47⟩ := u36
    obtain ⟨hw37, h48, h49, h50, hO⟩ := hw37
    have h48 : BdE K K41 := h48
    have h49 : Bth B B42 := h49
    have h50 : cs43 ≤ 10000 := h50
    obtain rfl : v38 = some (.int r47) := hw37
    have hf51 : K41.1 pq = 7 := (BdE.T h48 hp1 (by decide))
    have hf52 : K41.2.2.1 18 pq = some (a 1) := (BdE.C h48 (by rw [hp1]; decide) 18).trans hp2
    have hf53 : K41.2.2.1 14 pq = some dr := (BdE.C h48 (by rw [hp1]; decide) 14).trans hp3
    have hf54 : K41.1 dr = 8 := (BdE.T h48 hp4 (by decide))
    have hf55 : K41.2.2.1 15 pq = some ml := (BdE.C h48 (by rw [hp1]; decide) 15).trans hp5
    have hf56 : K41.1 ml = 5 := (BdE.T h48 hp6 (by decide))
    have hf57 : K41.2.1 24 pq = (nI nd) := (BdE.I h48 (by rw [hp1]; decide) (by decide) (by decide)).trans hp8
    have hf58 : K41.1 q = 1 := (BdE.T h48 hqT (by decide))
    have hf59 : K41.1 mq = 3 := (BdE.T h48 hmq (by decide))
    have hf60 : K41.2.1 0 q = 2 := (BdE.I h48 (by rw [hqT]; decide) (by decide) (by decide)).trans hkd
    have hO : OKP G h0 a (upd (upd (upd (upd (upd (upd F 2 (nI sz)) 5 (nI cs43)) 12 (nI vr)) 13 as44) 14 wt45) 15 wf46) (updR (updR R 2 (.ref pq)) 3 (.ref mq)) Z B42 J K41 w := hO.to rfl
    refine W.widen (k := 0) (n := 0) (by show 0 + 0 ≤ 0; omega) (by show 0 + 0 ≤ 0; omega) ?_
    refine W.eq (g2 := F0 m 126 ls [.int r47]) rfl ?_
    have hbe61 := BdE.trans BdE.rfl h48
    have hbb62 : Bth B B42 := Bth.trans (show Thx (upd (upd (upd F 2 (nI sz)) 5 (nI cs)) 12 (nI vr)) (upd (upd (upd F 2 (nI sz)) 5 (nI cs)) 12 (nI vr)) B B from Thx.rfl).2 h49
    have hng63 : Nng (B42 18) := h49.2 hng
    refine W_size (fun hz1 hz2 => ?_)
    refine vx_ret ?_
    have hz64 : BdE K K41 := hbe61
    have hz65 : Bth B B42 := (show Thx (upd (upd (upd F 2 (nI sz)) 5 (nI cs)) 12 (nI vr)) (upd (upd (upd (upd (upd (upd (upd F 2 (nI sz)) 5 (nI cs)) 12 (nI vr)) 5 (nI cs43)) 13 as44) 14 wt45) 15 wf46) B B42 from (Thx.f (Thx.f (Thx.f (Thx.f (Bth.thx hbb62) (by omega)) (by omega)) (by omega)) (by omega))).2
    have hz66 : cs43 ≤ 10000 := (by omega)
    have hO : OKP G h0 a (upd (upd (upd (upd (upd (upd F 2 (nI sz)) 5 (nI cs43)) 12 (nI vr)) 13 as44) 14 wt45) 15 wf46) (updR (updR R 2 (.ref pq)) 3 (.ref mq)) Z B42 J K41 w := hO.to rfl
    refine W.widen (k := 1) (n := 6) (by omega) (by omega) ?_
    have hzz1 : H.size ≤ s.heap.size + (0) := (by have z : 0 ≤ 0 := (by omega); omega)
    have hzz2 : hSl H ≤ hSl s.heap + (0) := (by have z : 0 ≤ 0 := (by omega); omega)
    exact W.iret (v := r47) hx hb hr (fun t99 ht99 hW99 => ⟨⟨_, (w, (K41, B42, cs43, as44, wt45, wf46, r47)), rfl, ⟨rfl, hz64, hz65, hz66, hO⟩, by rw [ht99]; exact hP, hD, by rw [ht99]; exact hzz1, by rw [ht99]; exact hzz2⟩, hS.F ht99⟩) hS.2.2 dX0_value_126
  by_cases h67 : kd = 3
  · subst h67
    refine lv_tableIn (tgt := 292) (off := 288) hx hb dX0_value_4 (by decide) (by decide) (by decide) (by decide) ?_
    refine lv_aload_n hx hb dX0_value_292 rfl (lv_at hl 0 rfl) ?_
    refine lv_aload_n hx hb dX0_value_293 rfl (lv_at hl 1 rfl) ?_
    have hO : OKP G h0 a (upd (upd (upd (upd (upd (upd F 2 (nI sz)) 5 (nI cs)) 12 (nI vr)) 2 (nI sz)) 5 (nI cs)) 12 (nI vr)) (updR (updR (updR (updR R 2 (.ref pq)) 3 (.ref mq)) 2 (.ref pq)) 3 (.ref mq)) Z B J K w := hO.to rfl
    obtain ⟨_, qr71, hqr72⟩ := hO.2.1 24 _ (sg_24 G h0 a _ _ _ _ _)
    refine pn_V0 (G := G) (As := [.ref q]) (rest := []) hx hb hml hown hq hE hX pX0_al hP hD hS hA hl.1 (B_single l G h0 a (upd (upd (upd F 2 (nI sz)) 5 (nI cs)) 12 (nI vr)) (updR (updR R 2 (.ref pq)) 3 (.ref mq)) Z B J K w pq dr ml nd nm cp it s9 q mq cs vr sz n g rk (by omega) (BdE.wp BdE.rfl hwp) (BdE.pt BdE.rfl hwp hps) (BdE.rko BdE.rfl hrk) (by omega) (by omega) hng hmq hqT hqL hO hl0) (gV pw_267 pw_268 pw_269 pw_63 pw_168) hV_X0_single qr71 0 hqr72 rfl rfl rfl (Nat.le_of_ble_eq_true rfl) dX0_value_294 ⟨(by show 0 + 1 ≤ 1; omega), (by show 0 + 6 ≤ 6; omega)⟩ ⟨(by show (5 * n + 33) + 1 ≤ (5 * n + 34); omega), (by show 8 + (2 + 11) + (200 * n + 560) ≤ (200 * n + 600); omega)⟩ (fun v70 u68 H locs hw69 hP hD hS => ?_) (fun ux ce9 q9 H9 locs9 hux hP9 hD9 hS9 hce hcv hcl => pb_out ux (ThQ.up (Thx.same (Thx.same (Thx.same Thx.rfl rfl) rfl) rfl) (show RhX (updR (updR R 2 (.ref pq)) 3 (.ref mq)) (updR (updR (updR (updR R 2 (.ref pq)) 3 (.ref mq)) 2 (.ref pq)) 3 (.ref mq)) from fun k9 hk9 => by unfold updR; simp only [show ¬ k9 = 1 by omega, show ¬ k9 = 2 by omega, show ¬ k9 = 3 by omega, show ¬ k9 = 4 by omega, if_false]) hux) hnt hlocks hce hcv hcl hP9 hD9 hS9 (by show 0 + 1 ≤ 1; omega) (by show 0 + 6 ≤ 6; omega))
    obtain ⟨w, K73, B74, cs75, as76, wt77, wf78, r79⟩ := u68
    obtain ⟨hw69, h80, h81, h82, hO⟩ := hw69
    have h80 : BdE K K73 := h80
    have h81 : Bth B B74 := h81
    have h82 : cs75 ≤ 10000 := h82
    obtain rfl : v70 = some (.int r79) := hw69
    have hf83 : K73.1 pq = 7 := (BdE.T h80 hp1 (by decide))
    have hf84 : K73.2.2.1 18 pq = some (a 1) := (BdE.C h80 (by rw [hp1]; decide) 18).trans hp2
    have hf85 : K73.2.2.1 14 pq = some dr := (BdE.C h80 (by rw [hp1]; decide) 14).trans hp3
    have hf86 : K73.1 dr = 8 := (BdE.T h80 hp4 (by decide))
    have hf87 : K73.2.2.1 15 pq = some ml := (BdE.C h80 (by rw [hp1]; decide) 15).trans hp5
    have hf88 : K73.1 ml = 5 := (BdE.T h80 hp6 (by decide))
    have hf89 : K73.2.1 24 pq = (nI nd) := (BdE.I h80 (by rw [hp1]; decide) (by decide) (by decide)).trans hp8
    have hf90 : K73.1 q = 1 := (BdE.T h80 hqT (by decide))
    have hf91 : K73.1 mq = 3 := (BdE.T h80 hmq (by decide))
    have hf92 : K73.2.1 0 q = 3 := (BdE.I h80 (by rw [hqT]; decide) (by decide) (by decide)).trans hkd
    have hO : OKP G h0 a (upd (upd (upd (upd (upd (upd F 2 (nI sz)) 5 (nI cs75)) 12 (nI vr)) 13 as76) 14 wt77) 15 wf78) (updR (updR R 2 (.ref pq)) 3 (.ref mq)) Z B74 J K73 w := hO.to rfl
    refine W.widen (k := 0) (n := 0) (by show 0 + 0 ≤ 0; omega) (by show 0 + 0 ≤ 0; omega) ?_
    refine W.eq (g2 := F0 m 297 ls [.int r79]) rfl ?_
    have hbe93 := BdE.trans BdE.rfl h80
    have hbb94 : Bth B B74 := Bth.trans (show Thx (upd (upd (upd F 2 (nI sz)) 5 (nI cs)) 12 (nI vr)) (upd (upd (upd F 2 (nI sz)) 5 (nI cs)) 12 (nI vr)) B B from Thx.rfl).2 h81
    have hng95 : Nng (B74 18) := h81.2 hng
    refine lv_istore_n (lv' := [(2, .int r79), (0, .ref (a 4)), (1, .ref q)]) hx hb dX0_value_297 rfl hl (by decide) rfl (fun ls hl => ?_)
    refine lv_aload_n hx hb dX0_value_298 rfl (lv_at hl 1 rfl) ?_
    refine lv_aload_n hx hb dX0_value_299 rfl (lv_at hl 1 rfl) ?_
    refine c_get (v := .int as76) (C := RX0) (Tc := TX0) (N := 13) (ci := 0) hx hb hq pin_wsX00 hown hE hP hO 24 (sg_24 G h0 a _ _ _ _ _) rfl 8 (by decide) (hq _ pw_55) (fun _ h9 => h9) rfl dX0_value_300 ?_
    refine c_put (v := .int as76) (ty := .int) (C := RX0) (Tc := TX0) (N := 13) (ci := 0) hx hb hq pin_wsX00 tyX0 tyX0_ok nmX0 hown hE hP hD hS hO 24 (sg_24 G h0 a _ _ _ _ _) rfl 9 (by decide) (hq _ pw_156) (fun _ h9 => h9) rfl (by decide +kernel) rfl rfl (Nat.le_of_ble_eq_true rfl) (sf_14 G h0 a _ _ _ _ _ as76) dX0_value_303 (fun H locs w hP hD hS hO => ?_)
    refine lv_aload_n hx hb dX0_value_306 rfl (lv_at hl 1 rfl) ?_
    refine lv_aload_n hx hb dX0_value_307 rfl (lv_at hl 1 rfl) ?_
    refine c_get (v := .int as76) (C := RX0) (Tc := TX0) (N := 13) (ci := 0) hx hb hq pin_wsX00 hown hE hP hO 24 (sg_24 G h0 a _ _ _ _ _) rfl 8 (by decide) (hq _ pw_55) (fun _ h9 => h9) rfl dX0_value_308 ?_
    refine c_put (v := .int as76) (ty := .int) (C := RX0) (Tc := TX0) (N := 13) (ci := 0) hx hb hq pin_wsX00 tyX0 tyX0_ok nmX0 hown hE hP hD hS hO 24 (sg_24 G h0 a _ _ _ _ _) rfl 10 (by decide) (hq _ pw_157) (fun _ h9 => h9) rfl (by decide +kernel) rfl rfl (Nat.le_of_ble_eq_true rfl) (sf_15 G h0 a _ _ _ _ _ as76) dX0_value_311 (fun H locs w hP hD hS hO => ?_)
    refine lv_iload_n hx hb dX0_value_314 rfl (lv_at hl 0 rfl) ?_
    refine W_size (fun hz1 hz2 => ?_)
    refine vx_ret ?_
    have hz96 : BdE K K73 := hbe93
    have hz97 : Bth B B74 := (show Thx (upd (upd (upd F 2 (nI sz)) 5 (nI cs)) 12 (nI vr)) (upd (upd (upd (upd (upd (upd (upd F 2 (nI sz)) 5 (nI cs)) 12 (nI vr)) 5 (nI cs75)) 13 as76) 14 as76) 15 as76) B B74 from (Thx.f (Thx.f (Thx.f (Thx.f (Bth.thx hbb94) (by omega)) (by omega)) (by omega)) (by omega))).2
    have hz98 : cs75 ≤ 10000 := (by omega)
    have hO : OKP G h0 a (upd (upd (upd (upd (upd (upd F 2 (nI sz)) 5 (nI cs75)) 12 (nI vr)) 13 as76) 14 as76) 15 as76) (updR (updR R 2 (.ref pq)) 3 (.ref mq)) Z B74 J K73 w := hO.to rfl
    refine W.widen (k := 1) (n := 6) (by omega) (by omega) ?_
    have hzz1 : H.size ≤ s.heap.size + (0) := (by have z : 0 ≤ 0 := (by omega); omega)
    have hzz2 : hSl H ≤ hSl s.heap + (0) := (by have z : 0 ≤ 0 := (by omega); omega)
    exact W.iret (v := r79) hx hb hr (fun t99 ht99 hW99 => ⟨⟨_, (w, (K73, B74, cs75, as76, as76, as76, r79)), rfl, ⟨rfl, hz96, hz97, hz98, hO⟩, by rw [ht99]; exact hP, hD, by rw [ht99]; exact hzz1, by rw [ht99]; exact hzz2⟩, hS.F ht99⟩) hS.2.2 dX0_value_315
  by_cases h99 : kd = 4
  · subst h99
    refine lv_tableIn (tgt := 292) (off := 288) hx hb dX0_value_4 (by decide) (by decide) (by decide) (by decide) ?_
    refine lv_aload_n hx hb dX0_value_292 rfl (lv_at hl 0 rfl) ?_
    refine lv_aload_n hx hb dX0_value_293 rfl (lv_at hl 1 rfl) ?_
    have hO : OKP G h0 a (upd (upd (upd (upd (upd (upd F 2 (nI sz)) 5 (nI cs)) 12 (nI vr)) 2 (nI sz)) 5 (nI cs)) 12 (nI vr)) (updR (updR (updR (updR R 2 (.ref pq)) 3 (.ref mq)) 2 (.ref pq)) 3 (.ref mq)) Z B J K w := hO.to rfl
    obtain ⟨_, qr103, hqr104⟩ := hO.2.1 24 _ (sg_24 G h0 a _ _ _ _ _)
    refine pn_V0 (G := G) (As := [.ref q]) (rest := []) hx hb hml hown hq hE hX pX0_al hP hD hS hA hl.1 (B_single l G h0 a (upd (upd (upd F 2 (nI sz)) 5 (nI cs)) 12 (nI vr)) (updR (updR R 2 (.ref pq)) 3 (.ref mq)) Z B J K w pq dr ml nd nm cp it s9 q mq cs vr sz n g rk (by omega) (BdE.wp BdE.rfl hwp) (BdE.pt BdE.rfl hwp hps) (BdE.rko BdE.rfl hrk) (by omega) (by omega) hng hmq hqT hqL hO hl0) (gV pw_267 pw_268 pw_269 pw_63 pw_168) hV_X0_single qr103 0 hqr104 rfl rfl rfl (Nat.le_of_ble_eq_true rfl) dX0_value_294 ⟨(by show 0 + 1 ≤ 1; omega), (by show 0 + 6 ≤ 6; omega)⟩ ⟨(by show (5 * n + 33) + 1 ≤ (5 * n + 34); omega), (by show 8 + (2 + 11) + (200 * n + 560) ≤ (200 * n + 600); omega)⟩ (fun v102 u100 H locs hw101 hP hD hS => ?_) (fun ux ce9 q9 H9 locs9 hux hP9 hD9 hS9 hce hcv hcl => pb_out ux (ThQ.up (Thx.same (Thx.same (Thx.same Thx.rfl rfl) rfl) rfl) (show RhX (updR (updR R 2 (.ref pq)) 3 (.ref mq)) (updR (updR (updR (updR R 2 (.ref pq)) 3 (.ref mq)) 2 (.ref pq)) 3 (.ref mq)) from fun k9 hk9 => by unfold updR; simp only [show ¬ k9 = 1 by omega, show ¬ k9 = 2 by omega, show ¬ k9 = 3 by omega, show ¬ k9 = 4 by omega, if_false]) hux) hnt hlocks hce hcv hcl hP9 hD9 hS9 (by show 0 + 1 ≤ 1; omega) (by show 0 + 6 ≤ 6; omega))
    obtain ⟨w, K105, B106, cs107, as108, wt109, wf110, r111⟩ := u100
    obtain ⟨hw101, h112, h113, h114, hO⟩ := hw101
    have h112 : BdE K K105 := h112
    have h113 : Bth B B106 := h113
    have h114 : cs107 ≤ 10000 := h114
    obtain rfl : v102 = some (.int r111) := hw101
    have hf115 : K105.1 pq = 7 := (BdE.T h112 hp1 (by decide))
    have hf116 : K105.2.2.1 18 pq = some (a 1) := (BdE.C h112 (by rw [hp1]; decide) 18).trans hp2
    have hf117 : K105.2.2.1 14 pq = some dr := (BdE.C h112 (by rw [hp1]; decide) 14).trans hp3
    have hf118 : K105.1 dr = 8 := (BdE.T h112 hp4 (by decide))
    have hf119 : K105.2.2.1 15 pq = some ml := (BdE.C h112 (by rw [hp1]; decide) 15).trans hp5
    have hf120 : K105.1 ml = 5 := (BdE.T h112 hp6 (by decide))
    have hf121 : K105.2.1 24 pq = (nI nd) := (BdE.I h112 (by rw [hp1]; decide) (by decide) (by decide)).trans hp8
    have hf122 : K105.1 q = 1 := (BdE.T h112 hqT (by decide))
    have hf123 : K105.1 mq = 3 := (BdE.T h112 hmq (by decide))
    have hf124 : K105.2.1 0 q = 4 := (BdE.I h112 (by rw [hqT]; decide) (by decide) (by decide)).trans hkd
    have hO : OKP G h0 a (upd (upd (upd (upd (upd (upd F 2 (nI sz)) 5 (nI cs107)) 12 (nI vr)) 13 as108) 14 wt109) 15 wf110) (updR (updR R 2 (.ref pq)) 3 (.ref mq)) Z B106 J K105 w := hO.to rfl
    refine W.widen (k := 0) (n := 0) (by show 0 + 0 ≤ 0; omega) (by show 0 + 0 ≤ 0; omega) ?_
    refine W.eq (g2 := F0 m 297 ls [.int r111]) rfl ?_
    have hbe125 := BdE.trans BdE.rfl h112
    have hbb126 : Bth B B106 := Bth.trans (show Thx (upd (upd (upd F 2 (nI sz)) 5 (nI cs)) 12 (nI vr)) (upd (upd (upd F 2 (nI sz)) 5 (nI cs)) 12 (nI vr)) B B from Thx.rfl).2 h113
    have hng127 : Nng (B106 18) := h113.2 hng
    refine lv_istore_n (lv' := [(2, .int r111), (0, .ref (a 4)), (1, .ref q)]) hx hb dX0_value_297 rfl hl (by decide) rfl (fun ls hl => ?_)
    refine lv_aload_n hx hb dX0_value_298 rfl (lv_at hl 1 rfl) ?_
    refine lv_aload_n hx hb dX0_value_299 rfl (lv_at hl 1 rfl) ?_
    refine c_get (v := .int as108) (C := RX0) (Tc := TX0) (N := 13) (ci := 0) hx hb hq pin_wsX00 hown hE hP hO 24 (sg_24 G h0 a _ _ _ _ _) rfl 8 (by decide) (hq _ pw_55) (fun _ h9 => h9) rfl dX0_value_300 ?_
    refine c_put (v := .int as108) (ty := .int) (C := RX0) (Tc := TX0) (N := 13) (ci := 0) hx hb hq pin_wsX00 tyX0 tyX0_ok nmX0 hown hE hP hD hS hO 24 (sg_24 G h0 a _ _ _ _ _) rfl 9 (by decide) (hq _ pw_156) (fun _ h9 => h9) rfl (by decide +kernel) rfl rfl (Nat.le_of_ble_eq_true rfl) (sf_14 G h0 a _ _ _ _ _ as108) dX0_value_303 (fun H locs w hP hD hS hO => ?_)
    refine lv_aload_n hx hb dX0_value_306 rfl (lv_at hl 1 rfl) ?_
    refine lv_aload_n hx hb dX0_value_307 rfl (lv_at hl 1 rfl) ?_
    refine c_get (v := .int as108) (C := RX0) (Tc := TX0) (N := 13) (ci := 0) hx hb hq pin_wsX00 hown hE hP hO 24 (sg_24 G h0 a _ _ _ _ _) rfl 8 (by decide) (hq _ pw_55) (fun _ h9 => h9) rfl dX0_value_308 ?_
    refine c_put (v := .int as108) (ty := .int) (C := RX0) (Tc := TX0) (N := 13) (ci := 0) hx hb hq pin_wsX00 tyX0 tyX0_ok nmX0 hown hE hP hD hS hO 24 (sg_24 G h0 a _ _ _ _ _) rfl 10 (by decide) (hq _ pw_157) (fun _ h9 => h9) rfl (by decide +kernel) rfl rfl (Nat.le_of_ble_eq_true rfl) (sf_15 G h0 a _ _ _ _ _ as108) dX0_value_311 (fun H locs w hP hD hS hO => ?_)
    refine lv_iload_n hx hb dX0_value_314 rfl (lv_at hl 0 rfl) ?_
    refine W_size (fun hz1 hz2 => ?_)
    refine vx_ret ?_
    have hz128 : BdE K K105 := hbe125
    have hz129 : Bth B B106 := (show Thx (upd (upd (upd F 2 (nI sz)) 5 (nI cs)) 12 (nI vr)) (upd (upd (upd (upd (upd (upd (upd F 2 (nI sz)) 5 (nI cs)) 12 (nI vr)) 5 (nI cs107)) 13 as108) 14 as108) 15 as108) B B106 from (Thx.f (Thx.f (Thx.f (Thx.f (Bth.thx hbb126) (by omega)) (by omega)) (by omega)) (by omega))).2
    have hz130 : cs107 ≤ 10000 := (by omega)
    have hO : OKP G h0 a (upd (upd (upd (upd (upd (upd F 2 (nI sz)) 5 (nI cs107)) 12 (nI vr)) 13 as108) 14 as108) 15 as108) (updR (updR R 2 (.ref pq)) 3 (.ref mq)) Z B106 J K105 w := hO.to rfl
    refine W.widen (k := 1) (n := 6) (by omega) (by omega) ?_
    have hzz1 : H.size ≤ s.heap.size + (0) := (by have z : 0 ≤ 0 := (by omega); omega)
    have hzz2 : hSl H ≤ hSl s.heap + (0) := (by have z : 0 ≤ 0 := (by omega); omega)
    exact W.iret (v := r111) hx hb hr (fun t99 ht99 hW99 => ⟨⟨_, (w, (K105, B106, cs107, as108, as108, as108, r111)), rfl, ⟨rfl, hz128, hz129, hz130, hO⟩, by rw [ht99]; exact hP, hD, by rw [ht99]; exact hzz1, by rw [ht99]; exact hzz2⟩, hS.F ht99⟩) hS.2.2 dX0_value_315
  by_cases h131 : kd = 5
  · subst h131
    refine lv_tableIn (tgt := 283) (off := 279) hx hb dX0_value_4 (by decide) (by decide) (by decide) (by decide) ?_
    refine lv_aload_n hx hb dX0_value_283 rfl (lv_at hl 0 rfl) ?_
    refine lv_aload_n hx hb dX0_value_284 rfl (lv_at hl 1 rfl) ?_
    have hO : OKP G h0 a (upd (upd (upd (upd (upd (upd F 2 (nI sz)) 5 (nI cs)) 12 (nI vr)) 2 (nI sz)) 5 (nI cs)) 12 (nI vr)) (updR (updR (updR (updR R 2 (.ref pq)) 3 (.ref mq)) 2 (.ref pq)) 3 (.ref mq)) Z B J K w := hO.to rfl
    obtain ⟨_, qr135, hqr136⟩ := hO.2.1 24 _ (sg_24 G h0 a _ _ _ _ _)
    refine pn_V0 (G := G) (As := [.ref q]) (rest := []) hx hb hml hown hq hE hX pX0_al hP hD hS hA hl.1 (B_variableValue l G h0 a (upd (upd (upd F 2 (nI sz)) 5 (nI cs)) 12 (nI vr)) (updR (updR R 2 (.ref pq)) 3 (.ref mq)) Z B J K w pq dr ml nd nm cp it s9 q mq cs vr sz n g rk (by omega) (BdE.wp BdE.rfl hwp) (BdE.pt BdE.rfl hwp hps) (BdE.rko BdE.rfl hrk) (by omega) (by omega) hng hmq hqT hqL hO hl0) (gV pw_264 pw_265 pw_266 pw_63 pw_165) hV_X0_variableValue qr135 0 hqr136 rfl rfl rfl (Nat.le_of_ble_eq_true rfl) dX0_value_285 ⟨(by show 0 + 1 ≤ 1; omega), (by show 0 + 6 ≤ 6; omega)⟩ ⟨(by show (5 * n + 33) + 1 ≤ (5 * n + 34); omega), (by show 8 + (4 + 11) + (200 * n + 560) ≤ (200 * n + 600); omega)⟩ (fun v134 u132 H locs hw133 hP hD hS => ?_) (fun ux ce9 q9 H9 locs9 hux hP9 hD9 hS9 hce hcv hcl => pb_out ux (ThQ.up (Thx.same (Thx.same (Thx.same Thx.rfl rfl) rfl) rfl) (show RhX (updR (updR R 2 (.ref pq)) 3 (.ref mq)) (updR (updR (updR (updR R 2 (.ref pq)) 3 (.ref mq)) 2 (.ref pq)) 3 (.ref mq)) from fun k9 hk9 => by unfold updR; simp only [show ¬ k9 = 1 by omega, show ¬ k9 = 2 by omega, show ¬ k9 = 3 by omega, show ¬ k9 = 4 by omega, if_false]) hux) hnt hlocks hce hcv hcl hP9 hD9 hS9 (by show 0 + 1 ≤ 1; omega) (by show 0 + 6 ≤ 6; omega))
    obtain ⟨w, K137, B138, cs139, as140, wt141, wf142, r143⟩ := u132
    obtain ⟨hw133, h144, h145, h146, hO⟩ := hw133
    have h144 : BdE K K137 := h144
    have h145 : Bth B B138 := h145
    have h146 : cs139 ≤ 10000 := h146
    obtain rfl : v134 = some (.int r143) := hw133
    have hf147 : K137.1 pq = 7 := (BdE.T h144 hp1 (by decide))
    have hf148 : K137.2.2.1 18 pq = some (a 1) := (BdE.C h144 (by rw [hp1]; decide) 18).trans hp2
    have hf149 : K137.2.2.1 14 pq = some dr := (BdE.C h144 (by rw [hp1]; decide) 14).trans hp3
    have hf150 : K137.1 dr = 8 := (BdE.T h144 hp4 (by decide))
    have hf151 : K137.2.2.1 15 pq = some ml := (BdE.C h144 (by rw [hp1]; decide) 15).trans hp5
    have hf152 : K137.1 ml = 5 := (BdE.T h144 hp6 (by decide))
    have hf153 : K137.2.1 24 pq = (nI nd) := (BdE.I h144 (by rw [hp1]; decide) (by decide) (by decide)).trans hp8
    have hf154 : K137.1 q = 1 := (BdE.T h144 hqT (by decide))
    have hf155 : K137.1 mq = 3 := (BdE.T h144 hmq (by decide))
    have hf156 : K137.2.1 0 q = 5 := (BdE.I h144 (by rw [hqT]; decide) (by decide) (by decide)).trans hkd
    have hO : OKP G h0 a (upd (upd (upd (upd (upd (upd F 2 (nI sz)) 5 (nI cs139)) 12 (nI vr)) 13 as140) 14 wt141) 15 wf142) (updR (updR R 2 (.ref pq)) 3 (.ref mq)) Z B138 J K137 w := hO.to rfl
    refine W.widen (k := 0) (n := 0) (by show 0 + 0 ≤ 0; omega) (by show 0 + 0 ≤ 0; omega) ?_
    refine W.eq (g2 := F0 m 288 ls [.int r143]) rfl ?_
    have hbe157 := BdE.trans BdE.rfl h144
    have hbb158 : Bth B B138 := Bth.trans (show Thx (upd (upd (upd F 2 (nI sz)) 5 (nI cs)) 12 (nI vr)) (upd (upd (upd F 2 (nI sz)) 5 (nI cs)) 12 (nI vr)) B B from Thx.rfl).2 h145
    have hng159 : Nng (B138 18) := h145.2 hng
    refine lv_istore_n (lv' := [(2, .int r143), (0, .ref (a 4)), (1, .ref q)]) hx hb dX0_value_288 rfl hl (by decide) rfl (fun ls hl => ?_)
    refine lv_goto (tgt := 298) hx hb dX0_value_289 (by decide) ?_
    refine lv_aload_n hx hb dX0_value_298 rfl (lv_at hl 1 rfl) ?_
    refine lv_aload_n hx hb dX0_value_299 rfl (lv_at hl 1 rfl) ?_
    refine c_get (v := .int as140) (C := RX0) (Tc := TX0) (N := 13) (ci := 0) hx hb hq pin_wsX00 hown hE hP hO 24 (sg_24 G h0 a _ _ _ _ _) rfl 8 (by decide) (hq _ pw_55) (fun _ h9 => h9) rfl dX0_value_300 ?_
    refine c_put (v := .int as140) (ty := .int) (C := RX0) (Tc := TX0) (N := 13) (ci := 0) hx hb hq pin_wsX00 tyX0 tyX0_ok nmX0 hown hE hP hD hS hO 24 (sg_24 G h0 a _ _ _ _ _) rfl 9 (by decide) (hq _ pw_156) (fun _ h9 => h9) rfl (by decide +kernel) rfl rfl (Nat.le_of_ble_eq_true rfl) (sf_14 G h0 a _ _ _ _ _ as140) dX0_value_303 (fun H locs w hP hD hS hO => ?_)
    refine lv_aload_n hx hb dX0_value_306 rfl (lv_at hl 1 rfl) ?_
    refine lv_aload_n hx hb dX0_value_307 rfl (lv_at hl 1 rfl) ?_
    refine c_get (v := .int as140) (C := RX0) (Tc := TX0) (N := 13) (ci := 0) hx hb hq pin_wsX00 hown hE hP hO 24 (sg_24 G h0 a _ _ _ _ _) rfl 8 (by decide) (hq _ pw_55) (fun _ h9 => h9) rfl dX0_value_308 ?_
    refine c_put (v := .int as140) (ty := .int) (C := RX0) (Tc := TX0) (N := 13) (ci := 0) hx hb hq pin_wsX00 tyX0 tyX0_ok nmX0 hown hE hP hD hS hO 24 (sg_24 G h0 a _ _ _ _ _) rfl 10 (by decide) (hq _ pw_157) (fun _ h9 => h9) rfl (by decide +kernel) rfl rfl (Nat.le_of_ble_eq_true rfl) (sf_15 G h0 a _ _ _ _ _ as140) dX0_value_311 (fun H locs w hP hD hS hO => ?_)
    refine lv_iload_n hx hb dX0_value_314 rfl (lv_at hl 0 rfl) ?_
    refine W_size (fun hz1 hz2 => ?_)
    refine vx_ret ?_
    have hz160 : BdE K K137 := hbe157
    have hz161 : Bth B B138 := (show Thx (upd (upd (upd F 2 (nI sz)) 5 (nI cs)) 12 (nI vr)) (upd (upd (upd (upd (upd (upd (upd F 2 (nI sz)) 5 (nI cs)) 12 (nI vr)) 5 (nI cs139)) 13 as140) 14 as140) 15 as140) B B138 from (Thx.f (Thx.f (Thx.f (Thx.f (Bth.thx hbb158) (by omega)) (by omega)) (by omega)) (by omega))).2
    have hz162 : cs139 ≤ 10000 := (by omega)
    have hO : OKP G h0 a (upd (upd (upd (upd (upd (upd F 2 (nI sz)) 5 (nI cs139)) 12 (nI vr)) 13 as140) 14 as140) 15 as140) (updR (updR R 2 (.ref pq)) 3 (.ref mq)) Z B138 J K137 w := hO.to rfl
    refine W.widen (k := 1) (n := 6) (by omega) (by omega) ?_
    have hzz1 : H.size ≤ s.heap.size + (0) := (by have z : 0 ≤ 0 := (by omega); omega)
    have hzz2 : hSl H ≤ hSl s.heap + (0) := (by have z : 0 ≤ 0 := (by omega); omega)
    exact W.iret (v := r143) hx hb hr (fun t99 ht99 hW99 => ⟨⟨_, (w, (K137, B138, cs139, as140, as140, as140, r143)), rfl, ⟨rfl, hz160, hz161, hz162, hO⟩, by rw [ht99]; exact hP, hD, by rw [ht99]; exact hzz1, by rw [ht99]; exact hzz2⟩, hS.F ht99⟩) hS.2.2 dX0_value_315
  by_cases h163 : kd = 6
  · subst h163
    refine lv_tableIn (tgt := 292) (off := 288) hx hb dX0_value_4 (by decide) (by decide) (by decide) (by decide) ?_
    refine lv_aload_n hx hb dX0_value_292 rfl (lv_at hl 0 rfl) ?_
    refine lv_aload_n hx hb dX0_value_293 rfl (lv_at hl 1 rfl) ?_
    have hO : OKP G h0 a (upd (upd (upd (upd (upd (upd F 2 (nI sz)) 5 (nI cs)) 12 (nI vr)) 2 (nI sz)) 5 (nI cs)) 12 (nI vr)) (updR (updR (updR (updR R 2 (.ref pq)) 3 (.ref mq)) 2 (.ref pq)) 3 (.ref mq)) Z B J K w := hO.to rfl
    obtain ⟨_, qr167, hqr168⟩ := hO.2.1 24 _ (sg_24 G h0 a _ _ _ _ _)
    refine pn_V0 (G := G) (As := [.ref q]) (rest := []) hx hb hml hown hq hE hX pX0_al hP hD hS hA hl.1 (B_single l G h0 a (upd (upd (upd F 2 (nI sz)) 5 (nI cs)) 12 (nI vr)) (updR (updR R 2 (.ref pq)) 3 (.ref mq)) Z B J K w pq dr ml nd nm cp it s9 q mq cs vr sz n g rk (by omega) (BdE.wp BdE.rfl hwp) (BdE.pt BdE.rfl hwp hps) (BdE.rko BdE.rfl hrk) (by omega) (by omega) hng hmq hqT hqL hO hl0) (gV pw_267 pw_268 pw_269 pw_63 pw_168) hV_X0_single qr167 0 hqr168 rfl rfl rfl (Nat.le_of_ble_eq_true rfl) dX0_value_294 ⟨(by show 0 + 1 ≤ 1; omega), (by show 0 + 6 ≤ 6; omega)⟩ ⟨(by show (5 * n + 33) + 1 ≤ (5 * n + 34); omega), (by show 8 + (2 + 11) + (200 * n + 560) ≤ (200 * n + 600); omega)⟩ (fun v166 u164 H locs hw165 hP hD hS => ?_) (fun ux ce9 q9 H9 locs9 hux hP9 hD9 hS9 hce hcv hcl => pb_out ux (ThQ.up (Thx.same (Thx.same (Thx.same Thx.rfl rfl) rfl) rfl) (show RhX (updR (updR R 2 (.ref pq)) 3 (.ref mq)) (updR (updR (updR (updR R 2 (.ref pq)) 3 (.ref mq)) 2 (.ref pq)) 3 (.ref mq)) from fun k9 hk9 => by unfold updR; simp only [show ¬ k9 = 1 by omega, show ¬ k9 = 2 by omega, show ¬ k9 = 3 by omega, show ¬ k9 = 4 by omega, if_false]) hux) hnt hlocks hce hcv hcl hP9 hD9 hS9 (by show 0 + 1 ≤ 1; omega) (by show 0 + 6 ≤ 6; omega))
    obtain ⟨w, K169, B170, cs171, as172, wt173, wf174, r175⟩ := u164
    obtain ⟨hw165, h176, h177, h178, hO⟩ := hw165
    have h176 : BdE K K169 := h176
    have h177 : Bth B B170 := h177
    have h178 : cs171 ≤ 10000 := h178
    obtain rfl : v166 = some (.int r175) := hw165
    have hf179 : K169.1 pq = 7 := (BdE.T h176 hp1 (by decide))
    have hf180 : K169.2.2.1 18 pq = some (a 1) := (BdE.C h176 (by rw [hp1]; decide) 18).trans hp2
    have hf181 : K169.2.2.1 14 pq = some dr := (BdE.C h176 (by rw [hp1]; decide) 14).trans hp3
    have hf182 : K169.1 dr = 8 := (BdE.T h176 hp4 (by decide))
    have hf183 : K169.2.2.1 15 pq = some ml := (BdE.C h176 (by rw [hp1]; decide) 15).trans hp5
    have hf184 : K169.1 ml = 5 := (BdE.T h176 hp6 (by decide))
    have hf185 : K169.2.1 24 pq = (nI nd) := (BdE.I h176 (by rw [hp1]; decide) (by decide) (by decide)).trans hp8
    have hf186 : K169.1 q = 1 := (BdE.T h176 hqT (by decide))
    have hf187 : K169.1 mq = 3 := (BdE.T h176 hmq (by decide))
    have hf188 : K169.2.1 0 q = 6 := (BdE.I h176 (by rw [hqT]; decide) (by decide) (by decide)).trans hkd
    have hO : OKP G h0 a (upd (upd (upd (upd (upd (upd F 2 (nI sz)) 5 (nI cs171)) 12 (nI vr)) 13 as172) 14 wt173) 15 wf174) (updR (updR R 2 (.ref pq)) 3 (.ref mq)) Z B170 J K169 w := hO.to rfl
    refine W.widen (k := 0) (n := 0) (by show 0 + 0 ≤ 0; omega) (by show 0 + 0 ≤ 0; omega) ?_
    refine W.eq (g2 := F0 m 297 ls [.int r175]) rfl ?_
    have hbe189 := BdE.trans BdE.rfl h176
    have hbb190 : Bth B B170 := Bth.trans (show Thx (upd (upd (upd F 2 (nI sz)) 5 (nI cs)) 12 (nI vr)) (upd (upd (upd F 2 (nI sz)) 5 (nI cs)) 12 (nI vr)) B B from Thx.rfl).2 h177
    have hng191 : Nng (B170 18) := h177.2 hng
    refine lv_istore_n (lv' := [(2, .int r175), (0, .ref (a 4)), (1, .ref q)]) hx hb dX0_value_297 rfl hl (by decide) rfl (fun ls hl => ?_)
    refine lv_aload_n hx hb dX0_value_298 rfl (lv_at hl 1 rfl) ?_
    refine lv_aload_n hx hb dX0_value_299 rfl (lv_at hl 1 rfl) ?_
    refine c_get (v := .int as172) (C := RX0) (Tc := TX0) (N := 13) (ci := 0) hx hb hq pin_wsX00 hown hE hP hO 24 (sg_24 G h0 a _ _ _ _ _) rfl 8 (by decide) (hq _ pw_55) (fun _ h9 => h9) rfl dX0_value_300 ?_
    refine c_put (v := .int as172) (ty := .int) (C := RX0) (Tc := TX0) (N := 13) (ci := 0) hx hb hq pin_wsX00 tyX0 tyX0_ok nmX0 hown hE hP hD hS hO 24 (sg_24 G h0 a _ _ _ _ _) rfl 9 (by decide) (hq _ pw_156) (fun _ h9 => h9) rfl (by decide +kernel) rfl rfl (Nat.le_of_ble_eq_true rfl) (sf_14 G h0 a _ _ _ _ _ as172) dX0_value_303 (fun H locs w hP hD hS hO => ?_)
    refine lv_aload_n hx hb dX0_value_306 rfl (lv_at hl 1 rfl) ?_
    refine lv_aload_n hx hb dX0_value_307 rfl (lv_at hl 1 rfl) ?_
    refine c_get (v := .int as172) (C := RX0) (Tc := TX0) (N := 13) (ci := 0) hx hb hq pin_wsX00 hown hE hP hO 24 (sg_24 G h0 a _ _ _ _ _) rfl 8 (by decide) (hq _ pw_55) (fun _ h9 => h9) rfl dX0_value_308 ?_
    refine c_put (v := .int as172) (ty := .int) (C := RX0) (Tc := TX0) (N := 13) (ci := 0) hx hb hq pin_wsX00 tyX0 tyX0_ok nmX0 hown hE hP hD hS hO 24 (sg_24 G h0 a _ _ _ _ _) rfl 10 (by decide) (hq _ pw_157) (fun _ h9 => h9) rfl (by decide +kernel) rfl rfl (Nat.le_of_ble_eq_true rfl) (sf_15 G h0 a _ _ _ _ _ as172) dX0_value_311 (fun H locs w hP hD hS hO => ?_)
    refine lv_iload_n hx hb dX0_value_314 rfl (lv_at hl 0 rfl) ?_
    refine W_size (fun hz1 hz2 => ?_)
    refine vx_ret ?_
    have hz192 : BdE K K169 := hbe189
    have hz193 : Bth B B170 := (show Thx (upd (upd (upd F 2 (nI sz)) 5 (nI cs)) 12 (nI vr)) (upd (upd (upd (upd (upd (upd (upd F 2 (nI sz)) 5 (nI cs)) 12 (nI vr)) 5 (nI cs171)) 13 as172) 14 as172) 15 as172) B B170 from (Thx.f (Thx.f (Thx.f (Thx.f (Bth.thx hbb190) (by omega)) (by omega)) (by omega)) (by omega))).2
    have hz194 : cs171 ≤ 10000 := (by omega)
    have hO : OKP G h0 a (upd (upd (upd (upd (upd (upd F 2 (nI sz)) 5 (nI cs171)) 12 (nI vr)) 13 as172) 14 as172) 15 as172) (updR (updR R 2 (.ref pq)) 3 (.ref mq)) Z B170 J K169 w := hO.to rfl
    refine W.widen (k := 1) (n := 6) (by omega) (by omega) ?_
    have hzz1 : H.size ≤ s.heap.size + (0) := (by have z : 0 ≤ 0 := (by omega); omega)
    have hzz2 : hSl H ≤ hSl s.heap + (0) := (by have z : 0 ≤ 0 := (by omega); omega)
    exact W.iret (v := r175) hx hb hr (fun t99 ht99 hW99 => ⟨⟨_, (w, (K169, B170, cs171, as172, as172, as172, r175)), rfl, ⟨rfl, hz192, hz193, hz194, hO⟩, by rw [ht99]; exact hP, hD, by rw [ht99]; exact hzz1, by rw [ht99]; exact hzz2⟩, hS.F ht99⟩) hS.2.2 dX0_value_315
  by_cases h195 : kd = 7
  · subst h195
    refine lv_tableIn (tgt := 100) (off := 96) hx hb dX0_value_4 (by decide) (by decide) (by decide) (by decide) ?_
    have hnd := hwp.1 q hqT hqL.1
    obtain ⟨q1, hc0, ht0, hw0⟩ := NdO.ch hnd (f := 0) (by decide) (hnd.1.1 (by rw [hkd]; decide))
    have hv0 : 1 ≤ g 0 q1 ∧ g 0 q1 + 1 ≤ n := ⟨hw0.1, (by have z := hw0.2; omega)⟩
    refine lv_aload_n hx hb dX0_value_100 rfl (lv_at hl 0 rfl) ?_
    refine lv_aload_n hx hb dX0_value_101 rfl (lv_at hl 1 rfl) ?_
    refine p_get (v := .ref q1) (C := RX7) (Tc := TX7) (N := 11) (ci := 13) hx hb hq pin_wsX70 hown hE hP hO (by rw [hqT]; decide) (rep_1 hqT) rfl 6 (by decide) (hq _ pw_180) (fun _ h9 => h9) (congrArg (fun z => some (va_rf z)) hc0) dX0_value_102 ?_
    have hO : OKP G h0 a (upd (upd (upd (upd (upd (upd F 2 (nI sz)) 5 (nI cs)) 12 (nI vr)) 2 (nI sz)) 5 (nI cs)) 12 (nI vr)) (updR (updR (updR (updR R 2 (.ref pq)) 3 (.ref mq)) 2 (.ref pq)) 3 (.ref mq)) Z B J K w := hO.to rfl
    obtain ⟨_, qr199, hqr200⟩ := hO.2.1 24 _ (sg_24 G h0 a _ _ _ _ _)
    refine pn_V0 (G := G) (As := [.ref q1]) (rest := []) hx hb hml hown hq hE hX pX0_al hP hD hS hA hl.1 ((ihv (by omega)) h0 a (upd (upd (upd F 2 (nI sz)) 5 (nI cs)) 12 (nI vr)) (updR (updR R 2 (.ref pq)) 3 (.ref mq)) Z B J K w pq dr ml nd nm cp it s9 q1 mq cs vr sz g rk (by omega) (BdE.wp BdE.rfl hwp) (BdE.pt BdE.rfl hwp hps) (BdE.rko BdE.rfl hrk) (by omega) (by omega) hng hmq ht0 ⟨hv0.1, (by have z9 := hv0; omega)⟩ hO hl0) (gV pw_173 pw_174 pw_175 pw_63 pw_224) hV_X0_value qr199 0 hqr200 rfl rfl rfl (Nat.le_of_ble_eq_true rfl) dX0_value_105 ⟨(by show 0 + 1 ≤ 1; omega), (by show 0 + 6 ≤ 6; omega)⟩ ⟨(by show (5 * (n - 1) + 34) + 1 ≤ (5 * n + 34); omega), (by show 8 + (3 + 11) + (200 * (n - 1) + 600) ≤ (200 * n + 600); omega)⟩ (fun v198 u196 H locs hw197 hP hD hS => ?_) (fun ux ce9 q9 H9 locs9 hux hP9 hD9 hS9 hce hcv hcl => pb_out ux (ThQ.up (Thx.same (Thx.same (Thx.same Thx.rfl rfl) rfl) rfl) (show RhX (updR (updR R 2 (.ref pq)) 3 (.ref mq)) (updR (updR (updR (updR R 2 (.ref pq)) 3 (.ref mq)) 2 (.ref pq)) 3 (.ref mq)) from fun k9 hk9 => by unfold updR; simp only [show ¬ k9 = 1 by omega, show ¬ k9 = 2 by omega, show ¬ k9 = 3 by omega, show ¬ k9 = 4 by omega, if_false]) hux) hnt hlocks hce hcv hcl hP9 hD9 hS9 (by show 0 + 1 ≤ 1; omega) (by show 0 + 6 ≤ 6; omega))
    obtain ⟨w, K201, B202, cs203, as204, wt205, wf206, r207⟩ := u196
    obtain ⟨hw197, h208, h209, h210, hO⟩ := hw197
    have h208 : BdE K K201 := h208
    have h209 : Bth B B202 := h209
    have h210 : cs203 ≤ 10000 := h210
    obtain rfl : v198 = some (.int r207) := hw197
    have hf211 : K201.1 pq = 7 := (BdE.T h208 hp1 (by decide))
    have hf212 : K201.2.2.1 18 pq = some (a 1) := (BdE.C h208 (by rw [hp1]; decide) 18).trans hp2
    have hf213 : K201.2.2.1 14 pq = some dr := (BdE.C h208 (by rw [hp1]; decide) 14).trans hp3
    have hf214 : K201.1 dr = 8 := (BdE.T h208 hp4 (by decide))
    have hf215 : K201.2.2.1 15 pq = some ml := (BdE.C h208 (by rw [hp1]; decide) 15).trans hp5
    have hf216 : K201.1 ml = 5 := (BdE.T h208 hp6 (by decide))
    have hf217 : K201.2.1 24 pq = (nI nd) := (BdE.I h208 (by rw [hp1]; decide) (by decide) (by decide)).trans hp8
    have hf218 : K201.1 q = 1 := (BdE.T h208 hqT (by decide))
    have hf219 : K201.1 mq = 3 := (BdE.T h208 hmq (by decide))
    have hf220 : K201.2.1 0 q = 7 := (BdE.I h208 (by rw [hqT]; decide) (by decide) (by decide)).trans hkd
    have hf221 : K201.2.2.1 0 q = some q1 := (BdE.C h208 (by rw [hqT]; decide) 0).trans hc0
    have hf222 : K201.1 q1 = 1 := (BdE.T h208 ht0 (by decide))
    have hO : OKP G h0 a (upd (upd (upd (upd (upd (upd F 2 (nI sz)) 5 (nI cs203)) 12 (nI vr)) 13 as204) 14 wt205) 15 wf206) (updR (updR R 2 (.ref pq)) 3 (.ref mq)) Z B202 J K201 w := hO.to rfl
    refine W.widen (k := 0) (n := 0) (by show 0 + 0 ≤ 0; omega) (by show 0 + 0 ≤ 0; omega) ?_
    refine W.eq (g2 := F0 m 108 ls [.int r207]) rfl ?_
    have hbe223 := BdE.trans BdE.rfl h208
    have hbb224 : Bth B B202 := Bth.trans (show Thx (upd (upd (upd F 2 (nI sz)) 5 (nI cs)) 12 (nI vr)) (upd (upd (upd F 2 (nI sz)) 5 (nI cs)) 12 (nI vr)) B B from Thx.rfl).2 h209
    have hng225 : Nng (B202 18) := h209.2 hng
    refine W_size (fun hz1 hz2 => ?_)
    refine vx_ret ?_
    have hz226 : BdE K K201 := hbe223
    have hz227 : Bth B B202 := (show Thx (upd (upd (upd F 2 (nI sz)) 5 (nI cs)) 12 (nI vr)) (upd (upd (upd (upd (upd (upd (upd F 2 (nI sz)) 5 (nI cs)) 12 (nI vr)) 5 (nI cs203)) 13 as204) 14 wt205) 15 wf206) B B202 from (Thx.f (Thx.f (Thx.f (Thx.f (Bth.thx hbb224) (by omega)) (by omega)) (by omega)) (by omega))).2
    have hz228 : cs203 ≤ 10000 := (by omega)
    have hO : OKP G h0 a (upd (upd (upd (upd (upd (upd F 2 (nI sz)) 5 (nI cs203)) 12 (nI vr)) 13 as204) 14 wt205) 15 wf206) (updR (updR R 2 (.ref pq)) 3 (.ref mq)) Z B202 J K201 w := hO.to rfl
    refine W.widen (k := 1) (n := 6) (by omega) (by omega) ?_
    have hzz1 : H.size ≤ s.heap.size + (0) := (by have z : 0 ≤ 0 := (by omega); omega)
    have hzz2 : hSl H ≤ hSl s.heap + (0) := (by have z : 0 ≤ 0 := (by omega); omega)
    exact W.iret (v := r207) hx hb hr (fun t99 ht99 hW99 => ⟨⟨_, (w, (K201, B202, cs203, as204, wt205, wf206, r207)), rfl, ⟨rfl, hz226, hz227, hz228, hO⟩, by rw [ht99]; exact hP, hD, by rw [ht99]; exact hzz1, by rw [ht99]; exact hzz2⟩, hS.F ht99⟩) hS.2.2 dX0_value_108
  by_cases h229 : kd = 8
  · subst h229
    refine lv_tableIn (tgt := 292) (off := 288) hx hb dX0_value_4 (by decide) (by decide) (by decide) (by decide) ?_
    refine lv_aload_n hx hb dX0_value_292 rfl (lv_at hl 0 rfl) ?_
    refine lv_aload_n hx hb dX0_value_293 rfl (lv_at hl 1 rfl) ?_
    have hO : OKP G h0 a (upd (upd (upd (upd (upd (upd F 2 (nI sz)) 5 (nI cs)) 12 (nI vr)) 2 (nI sz)) 5 (nI cs)) 12 (nI vr)) (updR (updR (updR (updR R 2 (.ref pq)) 3 (.ref mq)) 2 (.ref pq)) 3 (.ref mq)) Z B J K w := hO.to rfl
    obtain ⟨_, qr233, hqr234⟩ := hO.2.1 24 _ (sg_24 G h0 a _ _ _ _ _)
    refine pn_V0 (G := G) (As := [.ref q]) (rest := []) hx hb hml hown hq hE hX pX0_al hP hD hS hA hl.1 (B_single l G h0 a (upd (upd (upd F 2 (nI sz)) 5 (nI cs)) 12 (nI vr)) (updR (updR R 2 (.ref pq)) 3 (.ref mq)) Z B J K w pq dr ml nd nm cp it s9 q mq cs vr sz n g rk (by omega) (BdE.wp BdE.rfl hwp) (BdE.pt BdE.rfl hwp hps) (BdE.rko BdE.rfl hrk) (by omega) (by omega) hng hmq hqT hqL hO hl0) (gV pw_267 pw_268 pw_269 pw_63 pw_168) hV_X0_single qr233 0 hqr234 rfl rfl rfl (Nat.le_of_ble_eq_true rfl) dX0_value_294 ⟨(by show 0 + 1 ≤ 1; omega), (by show 0 + 6 ≤ 6; omega)⟩ ⟨(by show (5 * n + 33) + 1 ≤ (5 * n + 34); omega), (by show 8 + (2 + 11) + (200 * n + 560) ≤ (200 * n + 600); omega)⟩ (fun v232 u230 H locs hw231 hP hD hS => ?_) (fun ux ce9 q9 H9 locs9 hux hP9 hD9 hS9 hce hcv hcl => pb_out ux (ThQ.up (Thx.same (Thx.same (Thx.same Thx.rfl rfl) rfl) rfl) (show RhX (updR (updR R 2 (.ref pq)) 3 (.ref mq)) (updR (updR (updR (updR R 2 (.ref pq)) 3 (.ref mq)) 2 (.ref pq)) 3 (.ref mq)) from fun k9 hk9 => by unfold updR; simp only [show ¬ k9 = 1 by omega, show ¬ k9 = 2 by omega, show ¬ k9 = 3 by omega, show ¬ k9 = 4 by omega, if_false]) hux) hnt hlocks hce hcv hcl hP9 hD9 hS9 (by show 0 + 1 ≤ 1; omega) (by show 0 + 6 ≤ 6; omega))
    obtain ⟨w, K235, B236, cs237, as238, wt239, wf240, r241⟩ := u230
    obtain ⟨hw231, h242, h243, h244, hO⟩ := hw231
    have h242 : BdE K K235 := h242
    have h243 : Bth B B236 := h243
    have h244 : cs237 ≤ 10000 := h244
    obtain rfl : v232 = some (.int r241) := hw231
    have hf245 : K235.1 pq = 7 := (BdE.T h242 hp1 (by decide))
    have hf246 : K235.2.2.1 18 pq = some (a 1) := (BdE.C h242 (by rw [hp1]; decide) 18).trans hp2
    have hf247 : K235.2.2.1 14 pq = some dr := (BdE.C h242 (by rw [hp1]; decide) 14).trans hp3
    have hf248 : K235.1 dr = 8 := (BdE.T h242 hp4 (by decide))
    have hf249 : K235.2.2.1 15 pq = some ml := (BdE.C h242 (by rw [hp1]; decide) 15).trans hp5
    have hf250 : K235.1 ml = 5 := (BdE.T h242 hp6 (by decide))
    have hf251 : K235.2.1 24 pq = (nI nd) := (BdE.I h242 (by rw [hp1]; decide) (by decide) (by decide)).trans hp8
    have hf252 : K235.1 q = 1 := (BdE.T h242 hqT (by decide))
    have hf253 : K235.1 mq = 3 := (BdE.T h242 hmq (by decide))
    have hf254 : K235.2.1 0 q = 8 := (BdE.I h242 (by rw [hqT]; decide) (by decide) (by decide)).trans hkd
    have hO : OKP G h0 a (upd (upd (upd (upd (upd (upd F 2 (nI sz)) 5 (nI cs237)) 12 (nI vr)) 13 as238) 14 wt239) 15 wf240) (updR (updR R 2 (.ref pq)) 3 (.ref mq)) Z B236 J K235 w := hO.to rfl
    refine W.widen (k := 0) (n := 0) (by show 0 + 0 ≤ 0; omega) (by show 0 + 0 ≤ 0; omega) ?_
    refine W.eq (g2 := F0 m 297 ls [.int r241]) rfl ?_
    have hbe255 := BdE.trans BdE.rfl h242
    have hbb256 : Bth B B236 := Bth.trans (show Thx (upd (upd (upd F 2 (nI sz)) 5 (nI cs)) 12 (nI vr)) (upd (upd (upd F 2 (nI sz)) 5 (nI cs)) 12 (nI vr)) B B from Thx.rfl).2 h243
    have hng257 : Nng (B236 18) := h243.2 hng
    refine lv_istore_n (lv' := [(2, .int r241), (0, .ref (a 4)), (1, .ref q)]) hx hb dX0_value_297 rfl hl (by decide) rfl (fun ls hl => ?_)
    refine lv_aload_n hx hb dX0_value_298 rfl (lv_at hl 1 rfl) ?_
    refine lv_aload_n hx hb dX0_value_299 rfl (lv_at hl 1 rfl) ?_
    refine c_get (v := .int as238) (C := RX0) (Tc := TX0) (N := 13) (ci := 0) hx hb hq pin_wsX00 hown hE hP hO 24 (sg_24 G h0 a _ _ _ _ _) rfl 8 (by decide) (hq _ pw_55) (fun _ h9 => h9) rfl dX0_value_300 ?_
    refine c_put (v := .int as238) (ty := .int) (C := RX0) (Tc := TX0) (N := 13) (ci := 0) hx hb hq pin_wsX00 tyX0 tyX0_ok nmX0 hown hE hP hD hS hO 24 (sg_24 G h0 a _ _ _ _ _) rfl 9 (by decide) (hq _ pw_156) (fun _ h9 => h9) rfl (by decide +kernel) rfl rfl (Nat.le_of_ble_eq_true rfl) (sf_14 G h0 a _ _ _ _ _ as238) dX0_value_303 (fun H locs w hP hD hS hO => ?_)
    refine lv_aload_n hx hb dX0_value_306 rfl (lv_at hl 1 rfl) ?_
    refine lv_aload_n hx hb dX0_value_307 rfl (lv_at hl 1 rfl) ?_
    refine c_get (v := .int as238) (C := RX0) (Tc := TX0) (N := 13) (ci := 0) hx hb hq pin_wsX00 hown hE hP hO 24 (sg_24 G h0 a _ _ _ _ _) rfl 8 (by decide) (hq _ pw_55) (fun _ h9 => h9) rfl dX0_value_308 ?_
    refine c_put (v := .int as238) (ty := .int) (C := RX0) (Tc := TX0) (N := 13) (ci := 0) hx hb hq pin_wsX00 tyX0 tyX0_ok nmX0 hown hE hP hD hS hO 24 (sg_24 G h0 a _ _ _ _ _) rfl 10 (by decide) (hq _ pw_157) (fun _ h9 => h9) rfl (by decide +kernel) rfl rfl (Nat.le_of_ble_eq_true rfl) (sf_15 G h0 a _ _ _ _ _ as238) dX0_value_311 (fun H locs w hP hD hS hO => ?_)
    refine lv_iload_n hx hb dX0_value_314 rfl (lv_at hl 0 rfl) ?_
    refine W_size (fun hz1 hz2 => ?_)
    refine vx_ret ?_
    have hz258 : BdE K K235 := hbe255
    have hz259 : Bth B B236 := (show Thx (upd (upd (upd F 2 (nI sz)) 5 (nI cs)) 12 (nI vr)) (upd (upd (upd (upd (upd (upd (upd F 2 (nI sz)) 5 (nI cs)) 12 (nI vr)) 5 (nI cs237)) 13 as238) 14 as238) 15 as238) B B236 from (Thx.f (Thx.f (Thx.f (Thx.f (Bth.thx hbb256) (by omega)) (by omega)) (by omega)) (by omega))).2
    have hz260 : cs237 ≤ 10000 := (by omega)
    have hO : OKP G h0 a (upd (upd (upd (upd (upd (upd F 2 (nI sz)) 5 (nI cs237)) 12 (nI vr)) 13 as238) 14 as238) 15 as238) (updR (updR R 2 (.ref pq)) 3 (.ref mq)) Z B236 J K235 w := hO.to rfl
    refine W.widen (k := 1) (n := 6) (by omega) (by omega) ?_
    have hzz1 : H.size ≤ s.heap.size + (0) := (by have z : 0 ≤ 0 := (by omega); omega)
    have hzz2 : hSl H ≤ hSl s.heap + (0) := (by have z : 0 ≤ 0 := (by omega); omega)
    exact W.iret (v := r241) hx hb hr (fun t99 ht99 hW99 => ⟨⟨_, (w, (K235, B236, cs237, as238, as238, as238, r241)), rfl, ⟨rfl, hz258, hz259, hz260, hO⟩, by rw [ht99]; exact hP, hD, by rw [ht99]; exact hzz1, by rw [ht99]; exact hzz2⟩, hS.F ht99⟩) hS.2.2 dX0_value_315
  by_cases h261 : kd = 9
  · subst h261
    refine lv_tableIn (tgt := 274) (off := 270) hx hb dX0_value_4 (by decide) (by decide) (by decide) (by decide) ?_
    have hnd := hwp.1 q hqT hqL.1
    obtain ⟨q1, hc0, ht0, hw0⟩ := NdO.ch hnd (f := 0) (by decide) (hnd.1.1 (by rw [hkd]; decide))
    have hv0 : 1 ≤ g 0 q1 ∧ g 0 q1 + 1 ≤ n := ⟨hw0.1, (by have z := hw0.2; omega)⟩
    refine lv_aload_n hx hb dX0_value_274 rfl (lv_at hl 0 rfl) ?_
    refine lv_aload_n hx hb dX0_value_275 rfl (lv_at hl 1 rfl) ?_
    have hO : OKP G h0 a (upd (upd (upd (upd (upd (upd F 2 (nI sz)) 5 (nI cs)) 12 (nI vr)) 2 (nI sz)) 5 (nI cs)) 12 (nI vr)) (updR (updR (updR (updR R 2 (.ref pq)) 3 (.ref mq)) 2 (.ref pq)) 3 (.ref mq)) Z B J K w := hO.to rfl
    obtain ⟨_, qr265, hqr266⟩ := hO.2.1 24 _ (sg_24 G h0 a _ _ _ _ _)
    refine pn_V0 (G := G) (As := [.ref q]) (rest := []) hx hb hml hown hq hE hX pX0_al hP hD hS hA hl.1 (B_newArray l G h0 a (upd (upd (upd F 2 (nI sz)) 5 (nI cs)) 12 (nI vr)) (updR (updR R 2 (.ref pq)) 3 (.ref mq)) Z B J K w pq dr ml nd nm cp it s9 q mq cs vr sz n q1 g rk (by omega) (BdE.wp BdE.rfl hwp) (BdE.pt BdE.rfl hwp hps) (BdE.rko BdE.rfl hrk) (by omega) (by omega) hng hmq hqT hqL hc0 ht0 hv0 ihv hO hl0) (gV pw_261 pw_262 pw_263 pw_63 pw_214) hV_X0_newArray qr265 0 hqr266 rfl rfl rfl (Nat.le_of_ble_eq_true rfl) dX0_value_276 ⟨(by show 0 + 1 ≤ 1; omega), (by show 0 + 6 ≤ 6; omega)⟩ ⟨(by show (5 * n + 33) + 1 ≤ (5 * n + 34); omega), (by show 8 + (3 + 11) + (200 * n + 560) ≤ (200 * n + 600); omega)⟩ (fun v264 u262 H locs hw263 hP hD hS => ?_) (fun ux ce9 q9 H9 locs9 hux hP9 hD9 hS9 hce hcv hcl => pb_out ux (ThQ.up (Thx.same (Thx.same (Thx.same Thx.rfl rfl) rfl) rfl) (show RhX (updR (updR R 2 (.ref pq)) 3 (.ref mq)) (updR (updR (updR (updR R 2 (.ref pq)) 3 (.ref mq)) 2 (.ref pq)) 3 (.ref mq)) from fun k9 hk9 => by unfold updR; simp only [show ¬ k9 = 1 by omega, show ¬ k9 = 2 by omega, show ¬ k9 = 3 by omega, show ¬ k9 = 4 by omega, if_false]) hux) hnt hlocks hce hcv hcl hP9 hD9 hS9 (by show 0 + 1 ≤ 1; omega) (by show 0 + 6 ≤ 6; omega))
    obtain ⟨w, K267, B268, cs269, as270, wt271, wf272, r273⟩ := u262
    obtain ⟨hw263, h274, h275, h276, hO⟩ := hw263
    have h274 : BdE K K267 := h274
    have h275 : Bth B B268 := h275
    have h276 : cs269 ≤ 10000 := h276
    obtain rfl : v264 = some (.int r273) := hw263
    have hf277 : K267.1 pq = 7 := (BdE.T h274 hp1 (by decide))
    have hf278 : K267.2.2.1 18 pq = some (a 1) := (BdE.C h274 (by rw [hp1]; decide) 18).trans hp2
    have hf279 : K267.2.2.1 14 pq = some dr := (BdE.C h274 (by rw [hp1]; decide) 14).trans hp3
    have hf280 : K267.1 dr = 8 := (BdE.T h274 hp4 (by decide))
    have hf281 : K267.2.2.1 15 pq = some ml := (BdE.C h274 (by rw [hp1]; decide) 15).trans hp5
    have hf282 : K267.1 ml = 5 := (BdE.T h274 hp6 (by decide))
    have hf283 : K267.2.1 24 pq = (nI nd) := (BdE.I h274 (by rw [hp1]; decide) (by decide) (by decide)).trans hp8
    have hf284 : K267.1 q = 1 := (BdE.T h274 hqT (by decide))
    have hf285 : K267.1 mq = 3 := (BdE.T h274 hmq (by decide))
    have hf286 : K267.2.1 0 q = 9 := (BdE.I h274 (by rw [hqT]; decide) (by decide) (by decide)).trans hkd
    have hf287 : K267.2.2.1 0 q = some q1 := (BdE.C h274 (by rw [hqT]; decide) 0).trans hc0
    have hf288 : K267.1 q1 = 1 := (BdE.T h274 ht0 (by decide))
    have hO : OKP G h0 a (upd (upd (upd (upd (upd (upd F 2 (nI sz)) 5 (nI cs269)) 12 (nI vr)) 13 as270) 14 wt271) 15 wf272) (updR (updR R 2 (.ref pq)) 3 (.ref mq)) Z B268 J K267 w := hO.to rfl
    refine W.widen (k := 0) (n := 0) (by show 0 + 0 ≤ 0; omega) (by show 0 + 0 ≤ 0; omega) ?_
    refine W.eq (g2 := F0 m 279 ls [.int r273]) rfl ?_
    have hbe289 := BdE.trans BdE.rfl h274
    have hbb290 : Bth B B268 := Bth.trans (show Thx (upd (upd (upd F 2 (nI sz)) 5 (nI cs)) 12 (nI vr)) (upd (upd (upd F 2 (nI sz)) 5 (nI cs)) 12 (nI vr)) B B from Thx.rfl).2 h275
    have hng291 : Nng (B268 18) := h275.2 hng
    refine lv_istore_n (lv' := [(2, .int r273), (0, .ref (a 4)), (1, .ref q)]) hx hb dX0_value_279 rfl hl (by decide) rfl (fun ls hl => ?_)
    refine lv_goto (tgt := 298) hx hb dX0_value_280 (by decide) ?_
    refine lv_aload_n hx hb dX0_value_298 rfl (lv_at hl 1 rfl) ?_
    refine lv_aload_n hx hb dX0_value_299 rfl (lv_at hl 1 rfl) ?_
    refine c_get (v := .int as270) (C := RX0) (Tc := TX0) (N := 13) (ci := 0) hx hb hq pin_wsX00 hown hE hP hO 24 (sg_24 G h0 a _ _ _ _ _) rfl 8 (by decide) (hq _ pw_55) (fun _ h9 => h9) rfl dX0_value_300 ?_
    refine c_put (v := .int as270) (ty := .int) (C := RX0) (Tc := TX0) (N := 13) (ci := 0) hx hb hq pin_wsX00 tyX0 tyX0_ok nmX0 hown hE hP hD hS hO 24 (sg_24 G h0 a _ _ _ _ _) rfl 9 (by decide) (hq _ pw_156) (fun _ h9 => h9) rfl (by decide +kernel) rfl rfl (Nat.le_of_ble_eq_true rfl) (sf_14 G h0 a _ _ _ _ _ as270) dX0_value_303 (fun H locs w hP hD hS hO => ?_)
    refine lv_aload_n hx hb dX0_value_306 rfl (lv_at hl 1 rfl) ?_
    refine lv_aload_n hx hb dX0_value_307 rfl (lv_at hl 1 rfl) ?_
    refine c_get (v := .int as270) (C := RX0) (Tc := TX0) (N := 13) (ci := 0) hx hb hq pin_wsX00 hown hE hP hO 24 (sg_24 G h0 a _ _ _ _ _) rfl 8 (by decide) (hq _ pw_55) (fun _ h9 => h9) rfl dX0_value_308 ?_
    refine c_put (v := .int as270) (ty := .int) (C := RX0) (Tc := TX0) (N := 13) (ci := 0) hx hb hq pin_wsX00 tyX0 tyX0_ok nmX0 hown hE hP hD hS hO 24 (sg_24 G h0 a _ _ _ _ _) rfl 10 (by decide) (hq _ pw_157) (fun _ h9 => h9) rfl (by decide +kernel) rfl rfl (Nat.le_of_ble_eq_true rfl) (sf_15 G h0 a _ _ _ _ _ as270) dX0_value_311 (fun H locs w hP hD hS hO => ?_)
    refine lv_iload_n hx hb dX0_value_314 rfl (lv_at hl 0 rfl) ?_
    refine W_size (fun hz1 hz2 => ?_)
    refine vx_ret ?_
    have hz292 : BdE K K267 := hbe289
    have hz293 : Bth B B268 := (show Thx (upd (upd (upd F 2 (nI sz)) 5 (nI cs)) 12 (nI vr)) (upd (upd (upd (upd (upd (upd (upd F 2 (nI sz)) 5 (nI cs)) 12 (nI vr)) 5 (nI cs269)) 13 as270) 14 as270) 15 as270) B B268 from (Thx.f (Thx.f (Thx.f (Thx.f (Bth.thx hbb290) (by omega)) (by omega)) (by omega)) (by omega))).2
    have hz294 : cs269 ≤ 10000 := (by omega)
    have hO : OKP G h0 a (upd (upd (upd (upd (upd (upd F 2 (nI sz)) 5 (nI cs269)) 12 (nI vr)) 13 as270) 14 as270) 15 as270) (updR (updR R 2 (.ref pq)) 3 (.ref mq)) Z B268 J K267 w := hO.to rfl
    refine W.widen (k := 1) (n := 6) (by omega) (by omega) ?_
    have hzz1 : H.size ≤ s.heap.size + (0) := (by have z : 0 ≤ 0 := (by omega); omega)
    have hzz2 : hSl H ≤ hSl s.heap + (0) := (by have z : 0 ≤ 0 := (by omega); omega)
    exact W.iret (v := r273) hx hb hr (fun t99 ht99 hW99 => ⟨⟨_, (w, (K267, B268, cs269, as270, as270, as270, r273)), rfl, ⟨rfl, hz292, hz293, hz294, hO⟩, by rw [ht99]; exact hP, hD, by rw [ht99]; exact hzz1, by rw [ht99]; exact hzz2⟩, hS.F ht99⟩) hS.2.2 dX0_value_315
  by_cases h295 : kd = 10
  · subst h295
    refine lv_tableIn (tgt := 256) (off := 252) hx hb dX0_value_4 (by decide) (by decide) (by decide) (by decide) ?_
    have hnd := hwp.1 q hqT hqL.1
    have hls : Lsf (K.2.1 0 q) 1 := by rw [hkd]; exact Or.inr ⟨by decide, rfl⟩
    refine lv_aload_n hx hb dX0_value_256 rfl (lv_at hl 0 rfl) ?_
    refine lv_aload_n hx hb dX0_value_257 rfl (lv_at hl 1 rfl) ?_
    have hO : OKP G h0 a (upd (upd (upd (upd (upd (upd F 2 (nI sz)) 5 (nI cs)) 12 (nI vr)) 2 (nI sz)) 5 (nI cs)) 12 (nI vr)) (updR (updR (updR (updR R 2 (.ref pq)) 3 (.ref mq)) 2 (.ref pq)) 3 (.ref mq)) Z B J K w := hO.to rfl
    obtain ⟨_, qr299, hqr300⟩ := hO.2.1 24 _ (sg_24 G h0 a _ _ _ _ _)
    refine pn_V0 (G := G) (As := [.ref q]) (rest := []) hx hb hml hown hq hE hX pX0_al hP hD hS hA hl.1 (B_call l G h0 a (upd (upd (upd F 2 (nI sz)) 5 (nI cs)) 12 (nI vr)) (updR (updR R 2 (.ref pq)) 3 (.ref mq)) Z B J K w pq dr ml nd nm cp it s9 q mq cs vr sz n g rk (by omega) (BdE.wp BdE.rfl hwp) (BdE.pt BdE.rfl hwp hps) (BdE.rko BdE.rfl hrk) (by omega) (by omega) hng hmq hqT hqL hls ihv hO hl0) (gV pw_255 pw_256 pw_257 pw_63 pw_179) hV_X0_call qr299 0 hqr300 rfl rfl rfl (Nat.le_of_ble_eq_true rfl) dX0_value_258 ⟨(by show 0 + 1 ≤ 1; omega), (by show 0 + 6 ≤ 6; omega)⟩ ⟨(by show (5 * n + 33) + 1 ≤ (5 * n + 34); omega), (by show 8 + (4 + 11) + (200 * n + 560) ≤ (200 * n + 600); omega)⟩ (fun v298 u296 H locs hw297 hP hD hS => ?_) (fun ux ce9 q9 H9 locs9 hux hP9 hD9 hS9 hce hcv hcl => pb_out ux (ThQ.up (Thx.same (Thx.same (Thx.same Thx.rfl rfl) rfl) rfl) (show RhX (updR (updR R 2 (.ref pq)) 3 (.ref mq)) (updR (updR (updR (updR R 2 (.ref pq)) 3 (.ref mq)) 2 (.ref pq)) 3 (.ref mq)) from fun k9 hk9 => by unfold updR; simp only [show ¬ k9 = 1 by omega, show ¬ k9 = 2 by omega, show ¬ k9 = 3 by omega, show ¬ k9 = 4 by omega, if_false]) hux) hnt hlocks hce hcv hcl hP9 hD9 hS9 (by show 0 + 1 ≤ 1; omega) (by show 0 + 6 ≤ 6; omega))
    obtain ⟨w, K301, B302, cs303, as304, wt305, wf306, r307⟩ := u296
    obtain ⟨hw297, h308, h309, h310, hO⟩ := hw297
    have h308 : BdE K K301 := h308
    have h309 : Bth B B302 := h309
    have h310 : cs303 ≤ 10000 := h310
    obtain rfl : v298 = some (.int r307) := hw297
    have hf311 : K301.1 pq = 7 := (BdE.T h308 hp1 (by decide))
    have hf312 : K301.2.2.1 18 pq = some (a 1) := (BdE.C h308 (by rw [hp1]; decide) 18).trans hp2
    have hf313 : K301.2.2.1 14 pq = some dr := (BdE.C h308 (by rw [hp1]; decide) 14).trans hp3
    have hf314 : K301.1 dr = 8 := (BdE.T h308 hp4 (by decide))
    have hf315 : K301.2.2.1 15 pq = some ml := (BdE.C h308 (by rw [hp1]; decide) 15).trans hp5
    have hf316 : K301.1 ml = 5 := (BdE.T h308 hp6 (by decide))
    have hf317 : K301.2.1 24 pq = (nI nd) := (BdE.I h308 (by rw [hp1]; decide) (by decide) (by decide)).trans hp8
    have hf318 : K301.1 q = 1 := (BdE.T h308 hqT (by decide))
    have hf319 : K301.1 mq = 3 := (BdE.T h308 hmq (by decide))
    have hf320 : K301.2.1 0 q = 10 := (BdE.I h308 (by rw [hqT]; decide) (by decide) (by decide)).trans hkd
    have hO : OKP G h0 a (upd (upd (upd (upd (upd (upd F 2 (nI sz)) 5 (nI cs303)) 12 (nI vr)) 13 as304) 14 wt305) 15 wf306) (updR (updR R 2 (.ref pq)) 3 (.ref mq)) Z B302 J K301 w := hO.to rfl
    refine W.widen (k := 0) (n := 0) (by show 0 + 0 ≤ 0; omega) (by show 0 + 0 ≤ 0; omega) ?_
    refine W.eq (g2 := F0 m 261 ls [.int r307]) rfl ?_
    have hbe321 := BdE.trans BdE.rfl h308
    have hbb322 : Bth B B302 := Bth.trans (show Thx (upd (upd (upd F 2 (nI sz)) 5 (nI cs)) 12 (nI vr)) (upd (upd (upd F 2 (nI sz)) 5 (nI cs)) 12 (nI vr)) B B from Thx.rfl).2 h309
    have hng323 : Nng (B302 18) := h309.2 hng
    refine lv_istore_n (lv' := [(2, .int r307), (0, .ref (a 4)), (1, .ref q)]) hx hb dX0_value_261 rfl hl (by decide) rfl (fun ls hl => ?_)
    refine lv_goto (tgt := 298) hx hb dX0_value_262 (by decide) ?_
    refine lv_aload_n hx hb dX0_value_298 rfl (lv_at hl 1 rfl) ?_
    refine lv_aload_n hx hb dX0_value_299 rfl (lv_at hl 1 rfl) ?_
    refine c_get (v := .int as304) (C := RX0) (Tc := TX0) (N := 13) (ci := 0) hx hb hq pin_wsX00 hown hE hP hO 24 (sg_24 G h0 a _ _ _ _ _) rfl 8 (by decide) (hq _ pw_55) (fun _ h9 => h9) rfl dX0_value_300 ?_
    refine c_put (v := .int as304) (ty := .int) (C := RX0) (Tc := TX0) (N := 13) (ci := 0) hx hb hq pin_wsX00 tyX0 tyX0_ok nmX0 hown hE hP hD hS hO 24 (sg_24 G h0 a _ _ _ _ _) rfl 9 (by decide) (hq _ pw_156) (fun _ h9 => h9) rfl (by decide +kernel) rfl rfl (Nat.le_of_ble_eq_true rfl) (sf_14 G h0 a _ _ _ _ _ as304) dX0_value_303 (fun H locs w hP hD hS hO => ?_)
    refine lv_aload_n hx hb dX0_value_306 rfl (lv_at hl 1 rfl) ?_
    refine lv_aload_n hx hb dX0_value_307 rfl (lv_at hl 1 rfl) ?_
    refine c_get (v := .int as304) (C := RX0) (Tc := TX0) (N := 13) (ci := 0) hx hb hq pin_wsX00 hown hE hP hO 24 (sg_24 G h0 a _ _ _ _ _) rfl 8 (by decide) (hq _ pw_55) (fun _ h9 => h9) rfl dX0_value_308 ?_
    refine c_put (v := .int as304) (ty := .int) (C := RX0) (Tc := TX0) (N := 13) (ci := 0) hx hb hq pin_wsX00 tyX0 tyX0_ok nmX0 hown hE hP hD hS hO 24 (sg_24 G h0 a _ _ _ _ _) rfl 10 (by decide) (hq _ pw_157) (fun _ h9 => h9) rfl (by decide +kernel) rfl rfl (Nat.le_of_ble_eq_true rfl) (sf_15 G h0 a _ _ _ _ _ as304) dX0_value_311 (fun H locs w hP hD hS hO => ?_)
    refine lv_iload_n hx hb dX0_value_314 rfl (lv_at hl 0 rfl) ?_
    refine W_size (fun hz1 hz2 => ?_)
    refine vx_ret ?_
    have hz324 : BdE K K301 := hbe321
    have hz325 : Bth B B302 := (show Thx (upd (upd (upd F 2 (nI sz)) 5 (nI cs)) 12 (nI vr)) (upd (upd (upd (upd (upd (upd (upd F 2 (nI sz)) 5 (nI cs)) 12 (nI vr)) 5 (nI cs303)) 13 as304) 14 as304) 15 as304) B B302 from (Thx.f (Thx.f (Thx.f (Thx.f (Bth.thx hbb322) (by omega)) (by omega)) (by omega)) (by omega))).2
    have hz326 : cs303 ≤ 10000 := (by omega)
    have hO : OKP G h0 a (upd (upd (upd (upd (upd (upd F 2 (nI sz)) 5 (nI cs303)) 12 (nI vr)) 13 as304) 14 as304) 15 as304) (updR (updR R 2 (.ref pq)) 3 (.ref mq)) Z B302 J K301 w := hO.to rfl
    refine W.widen (k := 1) (n := 6) (by omega) (by omega) ?_
    have hzz1 : H.size ≤ s.heap.size + (0) := (by have z : 0 ≤ 0 := (by omega); omega)
    have hzz2 : hSl H ≤ hSl s.heap + (0) := (by have z : 0 ≤ 0 := (by omega); omega)
    exact W.iret (v := r307) hx hb hr (fun t99 ht99 hW99 => ⟨⟨_, (w, (K301, B302, cs303, as304, as304, as304, r307)), rfl, ⟨rfl, hz324, hz325, hz326, hO⟩, by rw [ht99]; exact hP, hD, by rw [ht99]; exact hzz1, by rw [ht99]; exact hzz2⟩, hS.F ht99⟩) hS.2.2 dX0_value_315
  by_cases h327 : kd = 11
  · subst h327
    refine lv_tableIn (tgt := 265) (off := 261) hx hb dX0_value_4 (by decide) (by decide) (by decide) (by decide) ?_
    have hnd := hwp.1 q hqT hqL.1
    have hls : Lsf (K.2.1 0 q) 1 := by rw [hkd]; exact Or.inr ⟨by decide, rfl⟩
    refine lv_aload_n hx hb dX0_value_265 rfl (lv_at hl 0 rfl) ?_
    refine lv_aload_n hx hb dX0_value_266 rfl (lv_at hl 1 rfl) ?_
    have hO : OKP G h0 a (upd (upd (upd (upd (upd (upd F 2 (nI sz)) 5 (nI cs)) 12 (nI vr)) 2 (nI sz)) 5 (nI cs)) 12 (nI vr)) (updR (updR (updR (updR R 2 (.ref pq)) 3 (.ref mq)) 2 (.ref pq)) 3 (.ref mq)) Z B J K w := hO.to rfl
    obtain ⟨_, qr331, hqr332⟩ := hO.2.1 24 _ (sg_24 G h0 a _ _ _ _ _)
    refine pn_V0 (G := G) (As := [.ref q]) (rest := []) hx hb hml hown hq hE hX pX0_al hP hD hS hA hl.1 (B_superCall l G h0 a (upd (upd (upd F 2 (nI sz)) 5 (nI cs)) 12 (nI vr)) (updR (updR R 2 (.ref pq)) 3 (.ref mq)) Z B J K w pq dr ml nd nm cp it s9 q mq cs vr sz n g rk (by omega) (BdE.wp BdE.rfl hwp) (BdE.pt BdE.rfl hwp hps) (BdE.rko BdE.rfl hrk) (by omega) (by omega) hng hmq hqT hqL hls ihv hO hl0) (gV pw_258 pw_259 pw_260 pw_63 pw_218) hV_X0_superCall qr331 0 hqr332 rfl rfl rfl (Nat.le_of_ble_eq_true rfl) dX0_value_267 ⟨(by show 0 + 1 ≤ 1; omega), (by show 0 + 6 ≤ 6; omega)⟩ ⟨(by show (5 * n + 33) + 1 ≤ (5 * n + 34); omega), (by show 8 + (4 + 11) + (200 * n + 560) ≤ (200 * n + 600); omega)⟩ (fun v330 u328 H locs hw329 hP hD hS => ?_) (fun ux ce9 q9 H9 locs9 hux hP9 hD9 hS9 hce hcv hcl => pb_out ux (ThQ.up (Thx.same (Thx.same (Thx.same Thx.rfl rfl) rfl) rfl) (show RhX (updR (updR R 2 (.ref pq)) 3 (.ref mq)) (updR (updR (updR (updR R 2 (.ref pq)) 3 (.ref mq)) 2 (.ref pq)) 3 (.ref mq)) from fun k9 hk9 => by unfold updR; simp only [show ¬ k9 = 1 by omega, show ¬ k9 = 2 by omega, show ¬ k9 = 3 by omega, show ¬ k9 = 4 by omega, if_false]) hux) hnt hlocks hce hcv hcl hP9 hD9 hS9 (by show 0 + 1 ≤ 1; omega) (by show 0 + 6 ≤ 6; omega))
    obtain ⟨w, K333, B334, cs335, as336, wt337, wf338, r339⟩ := u328
    obtain ⟨hw329, h340, h341, h342, hO⟩ := hw329
    have h340 : BdE K K333 := h340
    have h341 : Bth B B334 := h341
    have h342 : cs335 ≤ 10000 := h342
    obtain rfl : v330 = some (.int r339) := hw329
    have hf343 : K333.1 pq = 7 := (BdE.T h340 hp1 (by decide))
    have hf344 : K333.2.2.1 18 pq = some (a 1) := (BdE.C h340 (by rw [hp1]; decide) 18).trans hp2
    have hf345 : K333.2.2.1 14 pq = some dr := (BdE.C h340 (by rw [hp1]; decide) 14).trans hp3
    have hf346 : K333.1 dr = 8 := (BdE.T h340 hp4 (by decide))
    have hf347 : K333.2.2.1 15 pq = some ml := (BdE.C h340 (by rw [hp1]; decide) 15).trans hp5
    have hf348 : K333.1 ml = 5 := (BdE.T h340 hp6 (by decide))
    have hf349 : K333.2.1 24 pq = (nI nd) := (BdE.I h340 (by rw [hp1]; decide) (by decide) (by decide)).trans hp8
    have hf350 : K333.1 q = 1 := (BdE.T h340 hqT (by decide))
    have hf351 : K333.1 mq = 3 := (BdE.T h340 hmq (by decide))
    have hf352 : K333.2.1 0 q = 11 := (BdE.I h340 (by rw [hqT]; decide) (by decide) (by decide)).trans hkd
    have hO : OKP G h0 a (upd (upd (upd (upd (upd (upd F 2 (nI sz)) 5 (nI cs335)) 12 (nI vr)) 13 as336) 14 wt337) 15 wf338) (updR (updR R 2 (.ref pq)) 3 (.ref mq)) Z B334 J K333 w := hO.to rfl
    refine W.widen (k := 0) (n := 0) (by show 0 + 0 ≤ 0; omega) (by show 0 + 0 ≤ 0; omega) ?_
    refine W.eq (g2 := F0 m 270 ls [.int r339]) rfl ?_
    have hbe353 := BdE.trans BdE.rfl h340
    have hbb354 : Bth B B334 := Bth.trans (show Thx (upd (upd (upd F 2 (nI sz)) 5 (nI cs)) 12 (nI vr)) (upd (upd (upd F 2 (nI sz)) 5 (nI cs)) 12 (nI vr)) B B from Thx.rfl).2 h341
    have hng355 : Nng (B334 18) := h341.2 hng
    refine lv_istore_n (lv' := [(2, .int r339), (0, .ref (a 4)), (1, .ref q)]) hx hb dX0_value_270 rfl hl (by decide) rfl (fun ls hl => ?_)
    refine lv_goto (tgt := 298) hx hb dX0_value_271 (by decide) ?_
    refine lv_aload_n hx hb dX0_value_298 rfl (lv_at hl 1 rfl) ?_
    refine lv_aload_n hx hb dX0_value_299 rfl (lv_at hl 1 rfl) ?_
    refine c_get (v := .int as336) (C := RX0) (Tc := TX0) (N := 13) (ci := 0) hx hb hq pin_wsX00 hown hE hP hO 24 (sg_24 G h0 a _ _ _ _ _) rfl 8 (by decide) (hq _ pw_55) (fun _ h9 => h9) rfl dX0_value_300 ?_
    refine c_put (v := .int as336) (ty := .int) (C := RX0) (Tc := TX0) (N := 13) (ci := 0) hx hb hq pin_wsX00 tyX0 tyX0_ok nmX0 hown hE hP hD hS hO 24 (sg_24 G h0 a _ _ _ _ _) rfl 9 (by decide) (hq _ pw_156) (fun _ h9 => h9) rfl (by decide +kernel) rfl rfl (Nat.le_of_ble_eq_true rfl) (sf_14 G h0 a _ _ _ _ _ as336) dX0_value_303 (fun H locs w hP hD hS hO => ?_)
    refine lv_aload_n hx hb dX0_value_306 rfl (lv_at hl 1 rfl) ?_
    refine lv_aload_n hx hb dX0_value_307 rfl (lv_at hl 1 rfl) ?_
    refine c_get (v := .int as336) (C := RX0) (Tc := TX0) (N := 13) (ci := 0) hx hb hq pin_wsX00 hown hE hP hO 24 (sg_24 G h0 a _ _ _ _ _) rfl 8 (by decide) (hq _ pw_55) (fun _ h9 => h9) rfl dX0_value_308 ?_
    refine c_put (v := .int as336) (ty := .int) (C := RX0) (Tc := TX0) (N := 13) (ci := 0) hx hb hq pin_wsX00 tyX0 tyX0_ok nmX0 hown hE hP hD hS hO 24 (sg_24 G h0 a _ _ _ _ _) rfl 10 (by decide) (hq _ pw_157) (fun _ h9 => h9) rfl (by decide +kernel) rfl rfl (Nat.le_of_ble_eq_true rfl) (sf_15 G h0 a _ _ _ _ _ as336) dX0_value_311 (fun H locs w hP hD hS hO => ?_)
    refine lv_iload_n hx hb dX0_value_314 rfl (lv_at hl 0 rfl) ?_
    refine W_size (fun hz1 hz2 => ?_)
    refine vx_ret ?_
    have hz356 : BdE K K333 := hbe353
    have hz357 : Bth B B334 := (show Thx (upd (upd (upd F 2 (nI sz)) 5 (nI cs)) 12 (nI vr)) (upd (upd (upd (upd (upd (upd (upd F 2 (nI sz)) 5 (nI cs)) 12 (nI vr)) 5 (nI cs335)) 13 as336) 14 as336) 15 as336) B B334 from (Thx.f (Thx.f (Thx.f (Thx.f (Bth.thx hbb354) (by omega)) (by omega)) (by omega)) (by omega))).2
    have hz358 : cs335 ≤ 10000 := (by omega)
    have hO : OKP G h0 a (upd (upd (upd (upd (upd (upd F 2 (nI sz)) 5 (nI cs335)) 12 (nI vr)) 13 as336) 14 as336) 15 as336) (updR (updR R 2 (.ref pq)) 3 (.ref mq)) Z B334 J K333 w := hO.to rfl
    refine W.widen (k := 1) (n := 6) (by omega) (by omega) ?_
    have hzz1 : H.size ≤ s.heap.size + (0) := (by have z : 0 ≤ 0 := (by omega); omega)
    have hzz2 : hSl H ≤ hSl s.heap + (0) := (by have z : 0 ≤ 0 := (by omega); omega)
    exact W.iret (v := r339) hx hb hr (fun t99 ht99 hW99 => ⟨⟨_, (w, (K333, B334, cs335, as336, as336, as336, r339)), rfl, ⟨rfl, hz356, hz357, hz358, hO⟩, by rw [ht99]; exact hP, hD, by rw [ht99]; exact hzz1, by rw [ht99]; exact hzz2⟩, hS.F ht99⟩) hS.2.2 dX0_value_315
  by_cases h359 : kd = 12
  · subst h359
    refine lv_tableIn (tgt := 204) (off := 200) hx hb dX0_value_4 (by decide) (by decide) (by decide) (by decide) ?_
    have hnd := hwp.1 q hqT hqL.1
    obtain ⟨q1, hc0, ht0, hw0⟩ := NdO.ch hnd (f := 0) (by decide) (hnd.1.1 (by rw [hkd]; decide))
    have hv0 : 1 ≤ g 0 q1 ∧ g 0 q1 + 1 ≤ n := ⟨hw0.1, (by have z := hw0.2; omega)⟩
    refine lv_aload_n hx hb dX0_value_204 rfl (lv_at hl 0 rfl) ?_
    refine lv_aload_n hx hb dX0_value_205 rfl (lv_at hl 1 rfl) ?_
    have hO : OKP G h0 a (upd (upd (upd (upd (upd (upd F 2 (nI sz)) 5 (nI cs)) 12 (nI vr)) 2 (nI sz)) 5 (nI cs)) 12 (nI vr)) (updR (updR (updR (updR R 2 (.ref pq)) 3 (.ref mq)) 2 (.ref pq)) 3 (.ref mq)) Z B J K w := hO.to rfl
    obtain ⟨_, qr363, hqr364⟩ := hO.2.1 24 _ (sg_24 G h0 a _ _ _ _ _)
    refine pn_V0 (G := G) (As := [.ref q]) (rest := []) hx hb hml hown hq hE hX pX0_al hP hD hS hA hl.1 (B_fieldBehind l G h0 a (upd (upd (upd F 2 (nI sz)) 5 (nI cs)) 12 (nI vr)) (updR (updR R 2 (.ref pq)) 3 (.ref mq)) Z B J K w pq dr ml nd nm cp it s9 q mq cs vr sz n q1 g rk (by omega) (BdE.wp BdE.rfl hwp) (BdE.pt BdE.rfl hwp hps) (BdE.rko BdE.rfl hrk) (by omega) (by omega) hng hmq hqT hqL hc0 ht0 hv0 ihv hO hl0) (gV pw_246 pw_247 pw_248 pw_63 pw_210) hV_X0_fieldBehind qr363 0 hqr364 rfl rfl rfl (Nat.le_of_ble_eq_true rfl) dX0_value_206 ⟨(by show 0 + 1 ≤ 1; omega), (by show 0 + 6 ≤ 6; omega)⟩ ⟨(by show (5 * n + 33) + 1 ≤ (5 * n + 34); omega), (by show 8 + (3 + 11) + (200 * n + 560) ≤ (200 * n + 600); omega)⟩ (fun v362 u360 H locs hw361 hP hD hS => ?_) (fun ux ce9 q9 H9 locs9 hux hP9 hD9 hS9 hce hcv hcl => pb_out ux (ThQ.up (Thx.same (Thx.same (Thx.same Thx.rfl rfl) rfl) rfl) (show RhX (updR (updR R 2 (.ref pq)) 3 (.ref mq)) (updR (updR (updR (updR R 2 (.ref pq)) 3 (.ref mq)) 2 (.ref pq)) 3 (.ref mq)) from fun k9 hk9 => by unfold updR; simp only [show ¬ k9 = 1 by omega, show ¬ k9 = 2 by omega, show ¬ k9 = 3 by omega, show ¬ k9 = 4 by omega, if_false]) hux) hnt hlocks hce hcv hcl hP9 hD9 hS9 (by show 0 + 1 ≤ 1; omega) (by show 0 + 6 ≤ 6; omega))
    obtain ⟨w, K365, B366, cs367, as368, wt369, wf370, r371⟩ := u360
    obtain ⟨hw361, h372, h373, h374, hO⟩ := hw361
    have h372 : BdE K K365 := h372
    have h373 : Bth B B366 := h373
    have h374 : cs367 ≤ 10000 := h374
    obtain rfl : v362 = some (.int r371) := hw361
    have hf375 : K365.1 pq = 7 := (BdE.T h372 hp1 (by decide))
    have hf376 : K365.2.2.1 18 pq = some (a 1) := (BdE.C h372 (by rw [hp1]; decide) 18).trans hp2
    have hf377 : K365.2.2.1 14 pq = some dr := (BdE.C h372 (by rw [hp1]; decide) 14).trans hp3
    have hf378 : K365.1 dr = 8 := (BdE.T h372 hp4 (by decide))
    have hf379 : K365.2.2.1 15 pq = some ml := (BdE.C h372 (by rw [hp1]; decide) 15).trans hp5
    have hf380 : K365.1 ml = 5 := (BdE.T h372 hp6 (by decide))
    have hf381 : K365.2.1 24 pq = (nI nd) := (BdE.I h372 (by rw [hp1]; decide) (by decide) (by decide)).trans hp8
    have hf382 : K365.1 q = 1 := (BdE.T h372 hqT (by decide))
    have hf383 : K365.1 mq = 3 := (BdE.T h372 hmq (by decide))
    have hf384 : K365.2.1 0 q = 12 := (BdE.I h372 (by rw [hqT]; decide) (by decide) (by decide)).trans hkd
    have hf385 : K365.2.2.1 0 q = some q1 := (BdE.C h372 (by rw [hqT]; decide) 0).trans hc0
    have hf386 : K365.1 q1 = 1 := (BdE.T h372 ht0 (by decide))
    have hO : OKP G h0 a (upd (upd (upd (upd (upd (upd F 2 (nI sz)) 5 (nI cs367)) 12 (nI vr)) 13 as368) 14 wt369) 15 wf370) (updR (updR R 2 (.ref pq)) 3 (.ref mq)) Z B366 J K365 w := hO.to rfl
    refine W.widen (k := 0) (n := 0) (by show 0 + 0 ≤ 0; omega) (by show 0 + 0 ≤ 0; omega) ?_
    refine W.eq (g2 := F0 m 209 ls [.int r371]) rfl ?_
    have hbe387 := BdE.trans BdE.rfl h372
    have hbb388 : Bth B B366 := Bth.trans (show Thx (upd (upd (upd F 2 (nI sz)) 5 (nI cs)) 12 (nI vr)) (upd (upd (upd F 2 (nI sz)) 5 (nI cs)) 12 (nI vr)) B B from Thx.rfl).2 h373
    have hng389 : Nng (B366 18) := h373.2 hng
    refine lv_istore_n (lv' := [(2, .int r371), (0, .ref (a 4)), (1, .ref q)]) hx hb dX0_value_209 rfl hl (by decide) rfl (fun ls hl => ?_)
    refine lv_aload_n hx hb dX0_value_210 rfl (lv_at hl 1 rfl) ?_
    refine c_get (v := .ref (a 2)) (C := RX0) (Tc := TX0) (N := 13) (ci := 0) hx hb hq pin_wsX00 hown hE hP hO 24 (sg_24 G h0 a _ _ _ _ _) rfl 1 (by decide) (hq _ pw_5) (fun _ h9 => h9) rfl dX0_value_211 ?_
    refine lv_bipush (v := 17) hx hb dX0_value_214 (by decide) ?_
    refine lv_aload_n hx hb dX0_value_216 rfl (lv_at hl 2 rfl) ?_
    refine p_get (v := .int (K365.2.1 5 q)) (C := RX7) (Tc := TX7) (N := 11) (ci := 13) hx hb hq pin_wsX70 hown hE hP hO (by rw [hf382]; decide) (rep_1 hf382) rfl 5 (by decide) (hq _ pw_142) (fun _ h9 => h9) rfl dX0_value_217 ?_
    refine lv_iconst (v := 0) hx hb dX0_value_220 (by decide) ?_
    have hO : OKW G h0 a (upd (upd (upd (upd (upd (upd (upd F 2 (nI sz)) 5 (nI cs367)) 12 (nI vr)) 13 as368) 14 wt369) 15 wf370) 5 (nI cs367)) (updR (updR R 2 (.ref pq)) 3 (.ref mq)) Z B366 J K365.1 (fun q99 x99 => x99 = rep G a K365 q99) w := hO.to rfl
    obtain ⟨_, qr393, hqr394⟩ := hO.2.1 13 _ (sg_13 G h0 a _ _ _ _ _)
    refine pc_V0 (G := G) (As := [.int 17, .int (K365.2.1 5 q), .int (nI 0)]) (rest := []) hx hb hml hown hq hE hX pX0_al hP hD hS hA hl.1 (K_emit l G h0 a (upd (upd (upd (upd (upd (upd F 2 (nI sz)) 5 (nI cs367)) 12 (nI vr)) 13 as368) 14 wt369) 15 wf370) (updR (updR R 2 (.ref pq)) 3 (.ref mq)) Z B366 J K365.1 (fun q99 x99 => x99 = rep G a K365 q99) w 17 (K365.2.1 5 q) 0 cs367 (by omega) (by omega) hng389 hO) (gV pw_129 pw_130 pw_131 pw_70 pw_115) hV_X1_emit qr393 1 hqr394 rfl rfl rfl (Nat.le_of_ble_eq_true rfl) dX0_value_221 ⟨(by show 0 + 0 ≤ 1; omega), (by show 0 + 0 ≤ 6; omega)⟩ ⟨(by show 2 + 1 ≤ (5 * n + 34); omega), (by show 8 + (4 + 11) + 60 ≤ (200 * n + 600); omega)⟩ (fun v392 u390 H locs hw391 hP hD hS => ?_)
    obtain ⟨w, cs395, f396, f397, f398, f399⟩ := u390
    obtain ⟨hw391, h400, h401, hO⟩ := hw391
    have h400 : cs367 ≤ cs395 ∧ cs395 ≤ cs367 + 1 ∧ cs395 ≤ 10000 := h400
    have h401 : Nng f398 := h401
    obtain rfl : v392 = none := hw391
    have hO : OKP G h0 a (upd (upd (upd (upd (upd (upd F 2 (nI sz)) 5 (nI cs395)) 12 (nI vr)) 13 as368) 14 wt369) 15 wf370) (updR (updR R 2 (.ref pq)) 3 (.ref mq)) Z (updA (updA (updA (updA B366 16 f396) 17 f397) 18 f398) 19 f399) J K365 w := hO.to rfl
    refine W.widen (k := 0) (n := 0) (Nat.le_of_ble_eq_true rfl) (Nat.le_of_ble_eq_true rfl) ?_
    refine W.eq (g2 := F0 m 224 ls []) rfl ?_
    refine lv_goto (tgt := 298) hx hb dX0_value_224 (by decide) ?_
    refine lv_aload_n hx hb dX0_value_298 rfl (lv_at hl 1 rfl) ?_
    refine lv_aload_n hx hb dX0_value_299 rfl (lv_at hl 1 rfl) ?_
    refine c_get (v := .int as368) (C := RX0) (Tc := TX0) (N := 13) (ci := 0) hx hb hq pin_wsX00 hown hE hP hO 24 (sg_24 G h0 a _ _ _ _ _) rfl 8 (by decide) (hq _ pw_55) (fun _ h9 => h9) rfl dX0_value_300 ?_
    refine c_put (v := .int as368) (ty := .int) (C := RX0) (Tc := TX0) (N := 13) (ci := 0) hx hb hq pin_wsX00 tyX0 tyX0_ok nmX0 hown hE hP hD hS hO 24 (sg_24 G h0 a _ _ _ _ _) rfl 9 (by decide) (hq _ pw_156) (fun _ h9 => h9) rfl (by decide +kernel) rfl rfl (Nat.le_of_ble_eq_true rfl) (sf_14 G h0 a _ _ _ _ _ as368) dX0_value_303 (fun H locs w hP hD hS hO => ?_)
    refine lv_aload_n hx hb dX0_value_306 rfl (lv_at hl 1 rfl) ?_
    refine lv_aload_n hx hb dX0_value_307 rfl (lv_at hl 1 rfl) ?_
    refine c_get (v := .int as368) (C := RX0) (Tc := TX0) (N := 13) (ci := 0) hx hb hq pin_wsX00 hown hE hP hO 24 (sg_24 G h0 a _ _ _ _ _) rfl 8 (by decide) (hq _ pw_55) (fun _ h9 => h9) rfl dX0_value_308 ?_
    refine c_put (v := .int as368) (ty := .int) (C := RX0) (Tc := TX0) (N := 13) (ci := 0) hx hb hq pin_wsX00 tyX0 tyX0_ok nmX0 hown hE hP hD hS hO 24 (sg_24 G h0 a _ _ _ _ _) rfl 10 (by decide) (hq _ pw_157) (fun _ h9 => h9) rfl (by decide +kernel) rfl rfl (Nat.le_of_ble_eq_true rfl) (sf_15 G h0 a _ _ _ _ _ as368) dX0_value_311 (fun H locs w hP hD hS hO => ?_)
    refine lv_iload_n hx hb dX0_value_314 rfl (lv_at hl 0 rfl) ?_
    refine W_size (fun hz1 hz2 => ?_)
    refine vx_ret ?_
    have hz402 : BdE K K365 := hbe387
    have hz403 : Bth B (updA (updA (updA (updA B366 16 f396) 17 f397) 18 f398) 19 f399) := (show Thx (upd (upd (upd F 2 (nI sz)) 5 (nI cs)) 12 (nI vr)) (upd (upd (upd (upd (upd (upd (upd F 2 (nI sz)) 5 (nI cs)) 12 (nI vr)) 5 (nI cs395)) 13 as368) 14 as368) 15 as368) B (updA (updA (updA (updA B366 16 f396) 17 f397) 18 f398) 19 f399) from (Thx.b (Thx.b8 (Thx.b (Thx.b (Thx.f (Thx.f (Thx.f (Thx.f (Bth.thx hbb388) (by omega)) (by omega)) (by omega)) (by omega)) (by omega) (by decide)) (by omega) (by decide)) h401) (by omega) (by decide))).2
    have hz404 : cs395 ≤ 10000 := (by omega)
    have hO : OKP G h0 a (upd (upd (upd (upd (upd (upd F 2 (nI sz)) 5 (nI cs395)) 12 (nI vr)) 13 as368) 14 as368) 15 as368) (updR (updR R 2 (.ref pq)) 3 (.ref mq)) Z (updA (updA (updA (updA B366 16 f396) 17 f397) 18 f398) 19 f399) J K365 w := hO.to rfl
    refine W.widen (k := 1) (n := 6) (by omega) (by omega) ?_
    have hzz1 : H.size ≤ s.heap.size + (0) := (by have z : 0 ≤ 0 := (by omega); omega)
    have hzz2 : hSl H ≤ hSl s.heap + (0) := (by have z : 0 ≤ 0 := (by omega); omega)
    exact W.iret (v := r371) hx hb hr (fun t99 ht99 hW99 => ⟨⟨_, (w, (K365, (updA (updA (updA (updA B366 16 f396) 17 f397) 18 f398) 19 f399), cs395, as368, as368, as368, r371)), rfl, ⟨rfl, hz402, hz403, hz404, hO⟩, by rw [ht99]; exact hP, hD, by rw [ht99]; exact hzz1, by rw [ht99]; exact hzz2⟩, hS.F ht99⟩) hS.2.2 dX0_value_315
  by_cases h405 : kd = 13
  · subst h405
    refine lv_tableIn (tgt := 247) (off := 243) hx hb dX0_value_4 (by decide) (by decide) (by decide) (by decide) ?_
    have hnd := hwp.1 q hqT hqL.1
    obtain ⟨q1, hc0, ht0, hw0⟩ := NdO.ch hnd (f := 0) (by decide) (hnd.1.1 (by rw [hkd]; decide))
    have hv0 : 1 ≤ g 0 q1 ∧ g 0 q1 + 1 ≤ n := ⟨hw0.1, (by have z := hw0.2; omega)⟩
    refine lv_aload_n hx hb dX0_value_247 rfl (lv_at hl 0 rfl) ?_
    refine lv_aload_n hx hb dX0_value_248 rfl (lv_at hl 1 rfl) ?_
    have hO : OKP G h0 a (upd (upd (upd (upd (upd (upd F 2 (nI sz)) 5 (nI cs)) 12 (nI vr)) 2 (nI sz)) 5 (nI cs)) 12 (nI vr)) (updR (updR (updR (updR R 2 (.ref pq)) 3 (.ref mq)) 2 (.ref pq)) 3 (.ref mq)) Z B J K w := hO.to rfl
    obtain ⟨_, qr409, hqr410⟩ := hO.2.1 24 _ (sg_24 G h0 a _ _ _ _ _)
    refine pn_V0 (G := G) (As := [.ref q]) (rest := []) hx hb hml hown hq hE hX pX0_al hP hD hS hA hl.1 (B_length l G h0 a (upd (upd (upd F 2 (nI sz)) 5 (nI cs)) 12 (nI vr)) (updR (updR R 2 (.ref pq)) 3 (.ref mq)) Z B J K w pq dr ml nd nm cp it s9 q mq cs vr sz n q1 g rk (by omega) (BdE.wp BdE.rfl hwp) (BdE.pt BdE.rfl hwp hps) (BdE.rko BdE.rfl hrk) (by omega) (by omega) hng hmq hqT hqL hc0 ht0 hv0 ihv hO hl0) (gV pw_252 pw_253 pw_254 pw_63 pw_212) hV_X0_length qr409 0 hqr410 rfl rfl rfl (Nat.le_of_ble_eq_true rfl) dX0_value_249 ⟨(by show 0 + 1 ≤ 1; omega), (by show 0 + 6 ≤ 6; omega)⟩ ⟨(by show (5 * n + 33) + 1 ≤ (5 * n + 34); omega), (by show 8 + (2 + 11) + (200 * n + 560) ≤ (200 * n + 600); omega)⟩ (fun v408 u406 H locs hw407 hP hD hS => ?_) (fun ux ce9 q9 H9 locs9 hux hP9 hD9 hS9 hce hcv hcl => pb_out ux (ThQ.up (Thx.same (Thx.same (Thx.same Thx.rfl rfl) rfl) rfl) (show RhX (updR (updR R 2 (.ref pq)) 3 (.ref mq)) (updR (updR (updR (updR R 2 (.ref pq)) 3 (.ref mq)) 2 (.ref pq)) 3 (.ref mq)) from fun k9 hk9 => by unfold updR; simp only [show ¬ k9 = 1 by omega, show ¬ k9 = 2 by omega, show ¬ k9 = 3 by omega, show ¬ k9 = 4 by omega, if_false]) hux) hnt hlocks hce hcv hcl hP9 hD9 hS9 (by show 0 + 1 ≤ 1; omega) (by show 0 + 6 ≤ 6; omega))
    obtain ⟨w, K411, B412, cs413, as414, wt415, wf416, r417⟩ := u406
    obtain ⟨hw407, h418, h419, h420, hO⟩ := hw407
    have h418 : BdE K K411 := h418
    have h419 : Bth B B412 := h419
    have h420 : cs413 ≤ 10000 := h420
    obtain rfl : v408 = some (.int r417) := hw407
    have hf421 : K411.1 pq = 7 := (BdE.T h418 hp1 (by decide))
    have hf422 : K411.2.2.1 18 pq = some (a 1) := (BdE.C h418 (by rw [hp1]; decide) 18).trans hp2
    have hf423 : K411.2.2.1 14 pq = some dr := (BdE.C h418 (by rw [hp1]; decide) 14).trans hp3
    have hf424 : K411.1 dr = 8 := (BdE.T h418 hp4 (by decide))
    have hf425 : K411.2.2.1 15 pq = some ml := (BdE.C h418 (by rw [hp1]; decide) 15).trans hp5
    have hf426 : K411.1 ml = 5 := (BdE.T h418 hp6 (by decide))
    have hf427 : K411.2.1 24 pq = (nI nd) := (BdE.I h418 (by rw [hp1]; decide) (by decide) (by decide)).trans hp8
    have hf428 : K411.1 q = 1 := (BdE.T h418 hqT (by decide))
    have hf429 : K411.1 mq = 3 := (BdE.T h418 hmq (by decide))
    have hf430 : K411.2.1 0 q = 13 := (BdE.I h418 (by rw [hqT]; decide) (by decide) (by decide)).trans hkd
    have hf431 : K411.2.2.1 0 q = some q1 := (BdE.C h418 (by rw [hqT]; decide) 0).trans hc0
    have hf432 : K411.1 q1 = 1 := (BdE.T h418 ht0 (by decide))
    have hO : OKP G h0 a (upd (upd (upd (upd (upd (upd F 2 (nI sz)) 5 (nI cs413)) 12 (nI vr)) 13 as414) 14 wt415) 15 wf416) (updR (updR R 2 (.ref pq)) 3 (.ref mq)) Z B412 J K411 w := hO.to rfl
    refine W.widen (k := 0) (n := 0) (by show 0 + 0 ≤ 0; omega) (by show 0 + 0 ≤ 0; omega) ?_
    refine W.eq (g2 := F0 m 252 ls [.int r417]) rfl ?_
    have hbe433 := BdE.trans BdE.rfl h418
    have hbb434 : Bth B B412 := Bth.trans (show Thx (upd (upd (upd F 2 (nI sz)) 5 (nI cs)) 12 (nI vr)) (upd (upd (upd F 2 (nI sz)) 5 (nI cs)) 12 (nI vr)) B B from Thx.rfl).2 h419
    have hng435 : Nng (B412 18) := h419.2 hng
    refine lv_istore_n (lv' := [(2, .int r417), (0, .ref (a 4)), (1, .ref q)]) hx hb dX0_value_252 rfl hl (by decide) rfl (fun ls hl => ?_)
    refine lv_goto (tgt := 298) hx hb dX0_value_253 (by decide) ?_
    refine lv_aload_n hx hb dX0_value_298 rfl (lv_at hl 1 rfl) ?_
    refine lv_aload_n hx hb dX0_value_299 rfl (lv_at hl 1 rfl) ?_
    refine c_get (v := .int as414) (C := RX0) (Tc := TX0) (N := 13) (ci := 0) hx hb hq pin_wsX00 hown hE hP hO 24 (sg_24 G h0 a _ _ _ _ _) rfl 8 (by decide) (hq _ pw_55) (fun _ h9 => h9) rfl dX0_value_300 ?_
    refine c_put (v := .int as414) (ty := .int) (C := RX0) (Tc := TX0) (N := 13) (ci := 0) hx hb hq pin_wsX00 tyX0 tyX0_ok nmX0 hown hE hP hD hS hO 24 (sg_24 G h0 a _ _ _ _ _) rfl 9 (by decide) (hq _ pw_156) (fun _ h9 => h9) rfl (by decide +kernel) rfl rfl (Nat.le_of_ble_eq_true rfl) (sf_14 G h0 a _ _ _ _ _ as414) dX0_value_303 (fun H locs w hP hD hS hO => ?_)
    refine lv_aload_n hx hb dX0_value_306 rfl (lv_at hl 1 rfl) ?_
    refine lv_aload_n hx hb dX0_value_307 rfl (lv_at hl 1 rfl) ?_
    refine c_get (v := .int as414) (C := RX0) (Tc := TX0) (N := 13) (ci := 0) hx hb hq pin_wsX00 hown hE hP hO 24 (sg_24 G h0 a _ _ _ _ _) rfl 8 (by decide) (hq _ pw_55) (fun _ h9 => h9) rfl dX0_value_308 ?_
    refine c_put (v := .int as414) (ty := .int) (C := RX0) (Tc := TX0) (N := 13) (ci := 0) hx hb hq pin_wsX00 tyX0 tyX0_ok nmX0 hown hE hP hD hS hO 24 (sg_24 G h0 a _ _ _ _ _) rfl 10 (by decide) (hq _ pw_157) (fun _ h9 => h9) rfl (by decide +kernel) rfl rfl (Nat.le_of_ble_eq_true rfl) (sf_15 G h0 a _ _ _ _ _ as414) dX0_value_311 (fun H locs w hP hD hS hO => ?_)
    refine lv_iload_n hx hb dX0_value_314 rfl (lv_at hl 0 rfl) ?_
    refine W_size (fun hz1 hz2 => ?_)
    refine vx_ret ?_
    have hz436 : BdE K K411 := hbe433
    have hz437 : Bth B B412 := (show Thx (upd (upd (upd F 2 (nI sz)) 5 (nI cs)) 12 (nI vr)) (upd (upd (upd (upd (upd (upd (upd F 2 (nI sz)) 5 (nI cs)) 12 (nI vr)) 5 (nI cs413)) 13 as414) 14 as414) 15 as414) B B412 from (Thx.f (Thx.f (Thx.f (Thx.f (Bth.thx hbb434) (by omega)) (by omega)) (by omega)) (by omega))).2
    have hz438 : cs413 ≤ 10000 := (by omega)
    have hO : OKP G h0 a (upd (upd (upd (upd (upd (upd F 2 (nI sz)) 5 (nI cs413)) 12 (nI vr)) 13 as414) 14 as414) 15 as414) (updR (updR R 2 (.ref pq)) 3 (.ref mq)) Z B412 J K411 w := hO.to rfl
    refine W.widen (k := 1) (n := 6) (by omega) (by omega) ?_
    have hzz1 : H.size ≤ s.heap.size + (0) := (by have z : 0 ≤ 0 := (by omega); omega)
    have hzz2 : hSl H ≤ hSl s.heap + (0) := (by have z : 0 ≤ 0 := (by omega); omega)
    exact W.iret (v := r417) hx hb hr (fun t99 ht99 hW99 => ⟨⟨_, (w, (K411, B412, cs413, as414, as414, as414, r417)), rfl, ⟨rfl, hz436, hz437, hz438, hO⟩, by rw [ht99]; exact hP, hD, by rw [ht99]; exact hzz1, by rw [ht99]; exact hzz2⟩, hS.F ht99⟩) hS.2.2 dX0_value_315
  by_cases h439 : kd = 14
  · subst h439
    refine lv_tableIn (tgt := 227) (off := 223) hx hb dX0_value_4 (by decide) (by decide) (by decide) (by decide) ?_
    have hnd := hwp.1 q hqT hqL.1
    obtain ⟨q1, hc0, ht0, hw0⟩ := NdO.ch hnd (f := 0) (by decide) ((hnd.1.2.1 (by rw [hkd]; decide)).1)
    have hv0 : 1 ≤ g 0 q1 ∧ g 0 q1 + 1 ≤ n := ⟨hw0.1, (by have z := hw0.2; omega)⟩
    obtain ⟨q2, hc1, ht1, hw1⟩ := NdO.ch hnd (f := 1) (by decide) ((hnd.1.2.1 (by rw [hkd]; decide)).2)
    have hv1 : 1 ≤ g 0 q2 ∧ g 0 q2 + 1 ≤ n := ⟨hw1.1, (by have z := hw1.2; omega)⟩
    refine lv_aload_n hx hb dX0_value_227 rfl (lv_at hl 0 rfl) ?_
    refine lv_aload_n hx hb dX0_value_228 rfl (lv_at hl 1 rfl) ?_
    have hO : OKP G h0 a (upd (upd (upd (upd (upd (upd F 2 (nI sz)) 5 (nI cs)) 12 (nI vr)) 2 (nI sz)) 5 (nI cs)) 12 (nI vr)) (updR (updR (updR (updR R 2 (.ref pq)) 3 (.ref mq)) 2 (.ref pq)) 3 (.ref mq)) Z B J K w := hO.to rfl
    obtain ⟨_, qr443, hqr444⟩ := hO.2.1 24 _ (sg_24 G h0 a _ _ _ _ _)
    refine pn_V0 (G := G) (As := [.ref q]) (rest := []) hx hb hml hown hq hE hX pX0_al hP hD hS hA hl.1 (B_element l G h0 a (upd (upd (upd F 2 (nI sz)) 5 (nI cs)) 12 (nI vr)) (updR (updR R 2 (.ref pq)) 3 (.ref mq)) Z B J K w pq dr ml nd nm cp it s9 q mq cs vr sz n q1 q2 g rk (by omega) (BdE.wp BdE.rfl hwp) (BdE.pt BdE.rfl hwp hps) (BdE.rko BdE.rfl hrk) (by omega) (by omega) hng hmq hqT hqL hc0 ht0 hv0 hc1 ht1 hv1 ihv hO hl0) (gV pw_249 pw_250 pw_251 pw_63 pw_206) hV_X0_element qr443 0 hqr444 rfl rfl rfl (Nat.le_of_ble_eq_true rfl) dX0_value_229 ⟨(by show 0 + 1 ≤ 1; omega), (by show 0 + 6 ≤ 6; omega)⟩ ⟨(by show (5 * n + 33) + 1 ≤ (5 * n + 34); omega), (by show 8 + (3 + 11) + (200 * n + 560) ≤ (200 * n + 600); omega)⟩ (fun v442 u440 H locs hw441 hP hD hS => ?_) (fun ux ce9 q9 H9 locs9 hux hP9 hD9 hS9 hce hcv hcl => pb_out ux (ThQ.up (Thx.same (Thx.same (Thx.same Thx.rfl rfl) rfl) rfl) (show RhX (updR (updR R 2 (.ref pq)) 3 (.ref mq)) (updR (updR (updR (updR R 2 (.ref pq)) 3 (.ref mq)) 2 (.ref pq)) 3 (.ref mq)) from fun k9 hk9 => by unfold updR; simp only [show ¬ k9 = 1 by omega, show ¬ k9 = 2 by omega, show ¬ k9 = 3 by omega, show ¬ k9 = 4 by omega, if_false]) hux) hnt hlocks hce hcv hcl hP9 hD9 hS9 (by show 0 + 1 ≤ 1; omega) (by show 0 + 6 ≤ 6; omega))
    obtain ⟨w, K445, B446, cs447, as448, wt449, wf450, r451⟩ := u440
    obtain ⟨hw441, h452, h453, h454, hO⟩ := hw441
    have h452 : BdE K K445 := h452
    have h453 : Bth B B446 := h453
    have h454 : cs447 ≤ 10000 := h454
    obtain rfl : v442 = some (.int r451) := hw441
    have hf455 : K445.1 pq = 7 := (BdE.T h452 hp1 (by decide))
    have hf456 : K445.2.2.1 18 pq = some (a 1) := (BdE.C h452 (by rw [hp1]; decide) 18).trans hp2
    have hf457 : K445.2.2.1 14 pq = some dr := (BdE.C h452 (by rw [hp1]; decide) 14).trans hp3
    have hf458 : K445.1 dr = 8 := (BdE.T h452 hp4 (by decide))
    have hf459 : K445.2.2.1 15 pq = some ml := (BdE.C h452 (by rw [hp1]; decide) 15).trans hp5
    have hf460 : K445.1 ml = 5 := (BdE.T h452 hp6 (by decide))
    have hf461 : K445.2.1 24 pq = (nI nd) := (BdE.I h452 (by rw [hp1]; decide) (by decide) (by decide)).trans hp8
    have hf462 : K445.1 q = 1 := (BdE.T h452 hqT (by decide))
    have hf463 : K445.1 mq = 3 := (BdE.T h452 hmq (by decide))
    have hf464 : K445.2.1 0 q = 14 := (BdE.I h452 (by rw [hqT]; decide) (by decide) (by decide)).trans hkd
    have hf465 : K445.2.2.1 0 q = some q1 := (BdE.C h452 (by rw [hqT]; decide) 0).trans hc0
    have hf466 : K445.1 q1 = 1 := (BdE.T h452 ht0 (by decide))
    have hf467 : K445.2.2.1 1 q = some q2 := (BdE.C h452 (by rw [hqT]; decide) 1).trans hc1
    have hf468 : K445.1 q2 = 1 := (BdE.T h452 ht1 (by decide))
    have hO : OKP G h0 a (upd (upd (upd (upd (upd (upd F 2 (nI sz)) 5 (nI cs447)) 12 (nI vr)) 13 as448) 14 wt449) 15 wf450) (updR (updR R 2 (.ref pq)) 3 (.ref mq)) Z B446 J K445 w := hO.to rfl
    refine W.widen (k := 0) (n := 0) (by show 0 + 0 ≤ 0; omega) (by show 0 + 0 ≤ 0; omega) ?_
    refine W.eq (g2 := F0 m 232 ls [.int r451]) rfl ?_
    have hbe469 := BdE.trans BdE.rfl h452
    have hbb470 : Bth B B446 := Bth.trans (show Thx (upd (upd (upd F 2 (nI sz)) 5 (nI cs)) 12 (nI vr)) (upd (upd (upd F 2 (nI sz)) 5 (nI cs)) 12 (nI vr)) B B from Thx.rfl).2 h453
    have hng471 : Nng (B446 18) := h453.2 hng
    refine lv_istore_n (lv' := [(2, .int r451), (0, .ref (a 4)), (1, .ref q)]) hx hb dX0_value_232 rfl hl (by decide) rfl (fun ls hl => ?_)
    refine lv_aload_n hx hb dX0_value_233 rfl (lv_at hl 1 rfl) ?_
    refine c_get (v := .ref (a 2)) (C := RX0) (Tc := TX0) (N := 13) (ci := 0) hx hb hq pin_wsX00 hown hE hP hO 24 (sg_24 G h0 a _ _ _ _ _) rfl 1 (by decide) (hq _ pw_5) (fun _ h9 => h9) rfl dX0_value_234 ?_
    refine lv_bipush (v := 19) hx hb dX0_value_237 (by decide) ?_
    refine lv_iconst (v := 0) hx hb dX0_value_239 (by decide) ?_
    refine lv_iconst (v := 0) hx hb dX0_value_240 (by decide) ?_
    have hO : OKW G h0 a (upd (upd (upd (upd (upd (upd (upd F 2 (nI sz)) 5 (nI cs447)) 12 (nI vr)) 13 as448) 14 wt449) 15 wf450) 5 (nI cs447)) (updR (updR R 2 (.ref pq)) 3 (.ref mq)) Z B446 J K445.1 (fun q99 x99 => x99 = rep G a K445 q99) w := hO.to rfl
    obtain ⟨_, qr475, hqr476⟩ := hO.2.1 13 _ (sg_13 G h0 a _ _ _ _ _)
    refine pc_V0 (G := G) (As := [.int 19, .int 0, .int (nI 0)]) (rest := []) hx hb hml hown hq hE hX pX0_al hP hD hS hA hl.1 (K_emit l G h0 a (upd (upd (upd (upd (upd (upd F 2 (nI sz)) 5 (nI cs447)) 12 (nI vr)) 13 as448) 14 wt449) 15 wf450) (updR (updR R 2 (.ref pq)) 3 (.ref mq)) Z B446 J K445.1 (fun q99 x99 => x99 = rep G a K445 q99) w 19 0 0 cs447 (by omega) (by omega) hng471 hO) (gV pw_129 pw_130 pw_131 pw_70 pw_115) hV_X1_emit qr475 1 hqr476 rfl rfl rfl (Nat.le_of_ble_eq_true rfl) dX0_value_241 ⟨(by show 0 + 0 ≤ 1; omega), (by show 0 + 0 ≤ 6; omega)⟩ ⟨(by show 2 + 1 ≤ (5 * n + 34); omega), (by show 8 + (4 + 11) + 60 ≤ (200 * n + 600); omega)⟩ (fun v474 u472 H locs hw473 hP hD hS => ?_)
    obtain ⟨w, cs477, f478, f479, f480, f481⟩ := u472
    obtain ⟨hw473, h482, h483, hO⟩ := hw473
    have h482 : cs447 ≤ cs477 ∧ cs477 ≤ cs447 + 1 ∧ cs477 ≤ 10000 := h482
    have h483 : Nng f480 := h483
    obtain rfl : v474 = none := hw473
    have hO : OKP G h0 a (upd (upd (upd (upd (upd (upd F 2 (nI sz)) 5 (nI cs477)) 12 (nI vr)) 13 as448) 14 wt449) 15 wf450) (updR (updR R 2 (.ref pq)) 3 (.ref mq)) Z (updA (updA (updA (updA B446 16 f478) 17 f479) 18 f480) 19 f481) J K445 w := hO.to rfl
    refine W.widen (k := 0) (n := 0) (Nat.le_of_ble_eq_true rfl) (Nat.le_of_ble_eq_true rfl) ?_
    refine W.eq (g2 := F0 m 244 ls []) rfl ?_
    refine lv_goto (tgt := 298) hx hb dX0_value_244 (by decide) ?_
    refine lv_aload_n hx hb dX0_value_298 rfl (lv_at hl 1 rfl) ?_
    refine lv_aload_n hx hb dX0_value_299 rfl (lv_at hl 1 rfl) ?_
    refine c_get (v := .int as448) (C := RX0) (Tc := TX0) (N := 13) (ci := 0) hx hb hq pin_wsX00 hown hE hP hO 24 (sg_24 G h0 a _ _ _ _ _) rfl 8 (by decide) (hq _ pw_55) (fun _ h9 => h9) rfl dX0_value_300 ?_
    refine c_put (v := .int as448) (ty := .int) (C := RX0) (Tc := TX0) (N := 13) (ci := 0) hx hb hq pin_wsX00 tyX0 tyX0_ok nmX0 hown hE hP hD hS hO 24 (sg_24 G h0 a _ _ _ _ _) rfl 9 (by decide) (hq _ pw_156) (fun _ h9 => h9) rfl (by decide +kernel) rfl rfl (Nat.le_of_ble_eq_true rfl) (sf_14 G h0 a _ _ _ _ _ as448) dX0_value_303 (fun H locs w hP hD hS hO => ?_)
    refine lv_aload_n hx hb dX0_value_306 rfl (lv_at hl 1 rfl) ?_
    refine lv_aload_n hx hb dX0_value_307 rfl (lv_at hl 1 rfl) ?_
    refine c_get (v := .int as448) (C := RX0) (Tc := TX0) (N := 13) (ci := 0) hx hb hq pin_wsX00 hown hE hP hO 24 (sg_24 G h0 a _ _ _ _ _) rfl 8 (by decide) (hq _ pw_55) (fun _ h9 => h9) rfl dX0_value_308 ?_
    refine c_put (v := .int as448) (ty := .int) (C := RX0) (Tc := TX0) (N := 13) (ci := 0) hx hb hq pin_wsX00 tyX0 tyX0_ok nmX0 hown hE hP hD hS hO 24 (sg_24 G h0 a _ _ _ _ _) rfl 10 (by decide) (hq _ pw_157) (fun _ h9 => h9) rfl (by decide +kernel) rfl rfl (Nat.le_of_ble_eq_true rfl) (sf_15 G h0 a _ _ _ _ _ as448) dX0_value_311 (fun H locs w hP hD hS hO => ?_)
    refine lv_iload_n hx hb dX0_value_314 rfl (lv_at hl 0 rfl) ?_
    refine W_size (fun hz1 hz2 => ?_)
    refine vx_ret ?_
    have hz484 : BdE K K445 := hbe469
    have hz485 : Bth B (updA (updA (updA (updA B446 16 f478) 17 f479) 18 f480) 19 f481) := (show Thx (upd (upd (upd F 2 (nI sz)) 5 (nI cs)) 12 (nI vr)) (upd (upd (upd (upd (upd (upd (upd F 2 (nI sz)) 5 (nI cs)) 12 (nI vr)) 5 (nI cs477)) 13 as448) 14 as448) 15 as448) B (updA (updA (updA (updA B446 16 f478) 17 f479) 18 f480) 19 f481) from (Thx.b (Thx.b8 (Thx.b (Thx.b (Thx.f (Thx.f (Thx.f (Thx.f (Bth.thx hbb470) (by omega)) (by omega)) (by omega)) (by omega)) (by omega) (by decide)) (by omega) (by decide)) h483) (by omega) (by decide))).2
    have hz486 : cs477 ≤ 10000 := (by omega)
    have hO : OKP G h0 a (upd (upd (upd (upd (upd (upd F 2 (nI sz)) 5 (nI cs477)) 12 (nI vr)) 13 as448) 14 as448) 15 as448) (updR (updR R 2 (.ref pq)) 3 (.ref mq)) Z (updA (updA (updA (updA B446 16 f478) 17 f479) 18 f480) 19 f481) J K445 w := hO.to rfl
    refine W.widen (k := 1) (n := 6) (by omega) (by omega) ?_
    have hzz1 : H.size ≤ s.heap.size + (0) := (by have z : 0 ≤ 0 := (by omega); omega)
    have hzz2 : hSl H ≤ hSl s.heap + (0) := (by have z : 0 ≤ 0 := (by omega); omega)
    exact W.iret (v := r451) hx hb hr (fun t99 ht99 hW99 => ⟨⟨_, (w, (K445, (updA (updA (updA (updA B446 16 f478) 17 f479) 18 f480) 19 f481), cs477, as448, as448, as448, r451)), rfl, ⟨rfl, hz484, hz485, hz486, hO⟩, by rw [ht99]; exact hP, hD, by rw [ht99]; exact hzz1, by rw [ht99]; exact hzz2⟩, hS.F ht99⟩) hS.2.2 dX0_value_315
  by_cases h487 : kd = 15
  · subst h487
    refine lv_tableIn (tgt := 166) (off := 162) hx hb dX0_value_4 (by decide) (by decide) (by decide) (by decide) ?_
    have hnd := hwp.1 q hqT hqL.1
    obtain ⟨q1, hc0, ht0, hw0⟩ := NdO.ch hnd (f := 0) (by decide) (hnd.1.1 (by rw [hkd]; decide))
    have hv0 : 1 ≤ g 0 q1 ∧ g 0 q1 + 1 ≤ n := ⟨hw0.1, (by have z := hw0.2; omega)⟩
    refine lv_aload_n hx hb dX0_value_166 rfl (lv_at hl 0 rfl) ?_
    refine lv_aload_n hx hb dX0_value_167 rfl (lv_at hl 1 rfl) ?_
    have hO : OKP G h0 a (upd (upd (upd (upd (upd (upd F 2 (nI sz)) 5 (nI cs)) 12 (nI vr)) 2 (nI sz)) 5 (nI cs)) 12 (nI vr)) (updR (updR (updR (updR R 2 (.ref pq)) 3 (.ref mq)) 2 (.ref pq)) 3 (.ref mq)) Z B J K w := hO.to rfl
    obtain ⟨_, qr491, hqr492⟩ := hO.2.1 24 _ (sg_24 G h0 a _ _ _ _ _)
    refine pn_V0 (G := G) (As := [.ref q]) (rest := []) hx hb hml hown hq hE hX pX0_al hP hD hS hA hl.1 (B_prefix l G h0 a (upd (upd (upd F 2 (nI sz)) 5 (nI cs)) 12 (nI vr)) (updR (updR R 2 (.ref pq)) 3 (.ref mq)) Z B J K w pq dr ml nd nm cp it s9 q mq cs vr sz n q1 g rk (by omega) (BdE.wp BdE.rfl hwp) (BdE.pt BdE.rfl hwp hps) (BdE.rko BdE.rfl hrk) (by omega) (by omega) hng hmq hqT hqL hc0 ht0 hv0 ihv hO hl0) (gV pw_237 pw_238 pw_239 pw_63 pw_215) hV_X0_prefix qr491 0 hqr492 rfl rfl rfl (Nat.le_of_ble_eq_true rfl) dX0_value_168 ⟨(by show 0 + 1 ≤ 1; omega), (by show 0 + 6 ≤ 6; omega)⟩ ⟨(by show (5 * n + 33) + 1 ≤ (5 * n + 34); omega), (by show 8 + (2 + 11) + (200 * n + 560) ≤ (200 * n + 600); omega)⟩ (fun v490 u488 H locs hw489 hP hD hS => ?_) (fun ux ce9 q9 H9 locs9 hux hP9 hD9 hS9 hce hcv hcl => pb_out ux (ThQ.up (Thx.same (Thx.same (Thx.same Thx.rfl rfl) rfl) rfl) (show RhX (updR (updR R 2 (.ref pq)) 3 (.ref mq)) (updR (updR (updR (updR R 2 (.ref pq)) 3 (.ref mq)) 2 (.ref pq)) 3 (.ref mq)) from fun k9 hk9 => by unfold updR; simp only [show ¬ k9 = 1 by omega, show ¬ k9 = 2 by omega, show ¬ k9 = 3 by omega, show ¬ k9 = 4 by omega, if_false]) hux) hnt hlocks hce hcv hcl hP9 hD9 hS9 (by show 0 + 1 ≤ 1; omega) (by show 0 + 6 ≤ 6; omega))
    obtain ⟨w, K493, B494, cs495, as496, wt497, wf498, r499⟩ := u488
    obtain ⟨hw489, h500, h501, h502, hO⟩ := hw489
    have h500 : BdE K K493 := h500
    have h501 : Bth B B494 := h501
    have h502 : cs495 ≤ 10000 := h502
    obtain rfl : v490 = some (.int r499) := hw489
    have hf503 : K493.1 pq = 7 := (BdE.T h500 hp1 (by decide))
    have hf504 : K493.2.2.1 18 pq = some (a 1) := (BdE.C h500 (by rw [hp1]; decide) 18).trans hp2
    have hf505 : K493.2.2.1 14 pq = some dr := (BdE.C h500 (by rw [hp1]; decide) 14).trans hp3
    have hf506 : K493.1 dr = 8 := (BdE.T h500 hp4 (by decide))
    have hf507 : K493.2.2.1 15 pq = some ml := (BdE.C h500 (by rw [hp1]; decide) 15).trans hp5
    have hf508 : K493.1 ml = 5 := (BdE.T h500 hp6 (by decide))
    have hf509 : K493.2.1 24 pq = (nI nd) := (BdE.I h500 (by rw [hp1]; decide) (by decide) (by decide)).trans hp8
    have hf510 : K493.1 q = 1 := (BdE.T h500 hqT (by decide))
    have hf511 : K493.1 mq = 3 := (BdE.T h500 hmq (by decide))
    have hf512 : K493.2.1 0 q = 15 := (BdE.I h500 (by rw [hqT]; decide) (by decide) (by decide)).trans hkd
    have hf513 : K493.2.2.1 0 q = some q1 := (BdE.C h500 (by rw [hqT]; decide) 0).trans hc0
    have hf514 : K493.1 q1 = 1 := (BdE.T h500 ht0 (by decide))
    have hO : OKP G h0 a (upd (upd (upd (upd (upd (upd F 2 (nI sz)) 5 (nI cs495)) 12 (nI vr)) 13 as496) 14 wt497) 15 wf498) (updR (updR R 2 (.ref pq)) 3 (.ref mq)) Z B494 J K493 w := hO.to rfl
    refine W.widen (k := 0) (n := 0) (by show 0 + 0 ≤ 0; omega) (by show 0 + 0 ≤ 0; omega) ?_
    refine W.eq (g2 := F0 m 171 ls [.int r499]) rfl ?_
    have hbe515 := BdE.trans BdE.rfl h500
    have hbb516 : Bth B B494 := Bth.trans (show Thx (upd (upd (upd F 2 (nI sz)) 5 (nI cs)) 12 (nI vr)) (upd (upd (upd F 2 (nI sz)) 5 (nI cs)) 12 (nI vr)) B B from Thx.rfl).2 h501
    have hng517 : Nng (B494 18) := h501.2 hng
    refine lv_istore_n (lv' := [(2, .int r499), (0, .ref (a 4)), (1, .ref q)]) hx hb dX0_value_171 rfl hl (by decide) rfl (fun ls hl => ?_)
    refine lv_goto (tgt := 298) hx hb dX0_value_172 (by decide) ?_
    refine lv_aload_n hx hb dX0_value_298 rfl (lv_at hl 1 rfl) ?_
    refine lv_aload_n hx hb dX0_value_299 rfl (lv_at hl 1 rfl) ?_
    refine c_get (v := .int as496) (C := RX0) (Tc := TX0) (N := 13) (ci := 0) hx hb hq pin_wsX00 hown hE hP hO 24 (sg_24 G h0 a _ _ _ _ _) rfl 8 (by decide) (hq _ pw_55) (fun _ h9 => h9) rfl dX0_value_300 ?_
    refine c_put (v := .int as496) (ty := .int) (C := RX0) (Tc := TX0) (N := 13) (ci := 0) hx hb hq pin_wsX00 tyX0 tyX0_ok nmX0 hown hE hP hD hS hO 24 (sg_24 G h0 a _ _ _ _ _) rfl 9 (by decide) (hq _ pw_156) (fun _ h9 => h9) rfl (by decide +kernel) rfl rfl (Nat.le_of_ble_eq_true rfl) (sf_14 G h0 a _ _ _ _ _ as496) dX0_value_303 (fun H locs w hP hD hS hO => ?_)
    refine lv_aload_n hx hb dX0_value_306 rfl (lv_at hl 1 rfl) ?_
    refine lv_aload_n hx hb dX0_value_307 rfl (lv_at hl 1 rfl) ?_
    refine c_get (v := .int as496) (C := RX0) (Tc := TX0) (N := 13) (ci := 0) hx hb hq pin_wsX00 hown hE hP hO 24 (sg_24 G h0 a _ _ _ _ _) rfl 8 (by decide) (hq _ pw_55) (fun _ h9 => h9) rfl dX0_value_308 ?_
    refine c_put (v := .int as496) (ty := .int) (C := RX0) (Tc := TX0) (N := 13) (ci := 0) hx hb hq pin_wsX00 tyX0 tyX0_ok nmX0 hown hE hP hD hS hO 24 (sg_24 G h0 a _ _ _ _ _) rfl 10 (by decide) (hq _ pw_157) (fun _ h9 => h9) rfl (by decide +kernel) rfl rfl (Nat.le_of_ble_eq_true rfl) (sf_15 G h0 a _ _ _ _ _ as496) dX0_value_311 (fun H locs w hP hD hS hO => ?_)
    refine lv_iload_n hx hb dX0_value_314 rfl (lv_at hl 0 rfl) ?_
    refine W_size (fun hz1 hz2 => ?_)
    refine vx_ret ?_
    have hz518 : BdE K K493 := hbe515
    have hz519 : Bth B B494 := (show Thx (upd (upd (upd F 2 (nI sz)) 5 (nI cs)) 12 (nI vr)) (upd (upd (upd (upd (upd (upd (upd F 2 (nI sz)) 5 (nI cs)) 12 (nI vr)) 5 (nI cs495)) 13 as496) 14 as496) 15 as496) B B494 from (Thx.f (Thx.f (Thx.f (Thx.f (Bth.thx hbb516) (by omega)) (by omega)) (by omega)) (by omega))).2
    have hz520 : cs495 ≤ 10000 := (by omega)
    have hO : OKP G h0 a (upd (upd (upd (upd (upd (upd F 2 (nI sz)) 5 (nI cs495)) 12 (nI vr)) 13 as496) 14 as496) 15 as496) (updR (updR R 2 (.ref pq)) 3 (.ref mq)) Z B494 J K493 w := hO.to rfl
    refine W.widen (k := 1) (n := 6) (by omega) (by omega) ?_
    have hzz1 : H.size ≤ s.heap.size + (0) := (by have z : 0 ≤ 0 := (by omega); omega)
    have hzz2 : hSl H ≤ hSl s.heap + (0) := (by have z : 0 ≤ 0 := (by omega); omega)
    exact W.iret (v := r499) hx hb hr (fun t99 ht99 hW99 => ⟨⟨_, (w, (K493, B494, cs495, as496, as496, as496, r499)), rfl, ⟨rfl, hz518, hz519, hz520, hO⟩, by rw [ht99]; exact hP, hD, by rw [ht99]; exact hzz1, by rw [ht99]; exact hzz2⟩, hS.F ht99⟩) hS.2.2 dX0_value_315
  by_cases h521 : kd = 16
  · subst h521
    refine lv_tableIn (tgt := 127) (off := 123) hx hb dX0_value_4 (by decide) (by decide) (by decide) (by decide) ?_
    have hnd := hwp.1 q hqT hqL.1
    obtain ⟨q1, hc0, ht0, hw0⟩ := NdO.ch hnd (f := 0) (by decide) (hnd.1.1 (by rw [hkd]; decide))
    have hv0 : 1 ≤ g 0 q1 ∧ g 0 q1 + 1 ≤ n := ⟨hw0.1, (by have z := hw0.2; omega)⟩
    refine lv_aload_n hx hb dX0_value_127 rfl (lv_at hl 0 rfl) ?_
    refine lv_aload_n hx hb dX0_value_128 rfl (lv_at hl 1 rfl) ?_
    have hO : OKP G h0 a (upd (upd (upd (upd (upd (upd F 2 (nI sz)) 5 (nI cs)) 12 (nI vr)) 2 (nI sz)) 5 (nI cs)) 12 (nI vr)) (updR (updR (updR (updR R 2 (.ref pq)) 3 (.ref mq)) 2 (.ref pq)) 3 (.ref mq)) Z B J K w := hO.to rfl
    obtain ⟨_, qr525, hqr526⟩ := hO.2.1 24 _ (sg_24 G h0 a _ _ _ _ _)
    refine pn_V0 (G := G) (As := [.ref q]) (rest := []) hx hb hml hown hq hE hX pX0_al hP hD hS hA hl.1 (B_negation l G h0 a (upd (upd (upd F 2 (nI sz)) 5 (nI cs)) 12 (nI vr)) (updR (updR R 2 (.ref pq)) 3 (.ref mq)) Z B J K w pq dr ml nd nm cp it s9 q mq cs vr sz n q1 g rk (by omega) (BdE.wp BdE.rfl hwp) (BdE.pt BdE.rfl hwp hps) (BdE.rko BdE.rfl hrk) (by omega) (by omega) hng hmq hqT hqL hc0 ht0 hv0 ihv hO hl0) (gV pw_228 pw_229 pw_230 pw_63 pw_213) hV_X0_negation qr525 0 hqr526 rfl rfl rfl (Nat.le_of_ble_eq_true rfl) dX0_value_129 ⟨(by show 0 + 1 ≤ 1; omega), (by show 0 + 6 ≤ 6; omega)⟩ ⟨(by show (5 * n + 33) + 1 ≤ (5 * n + 34); omega), (by show 8 + (3 + 11) + (200 * n + 560) ≤ (200 * n + 600); omega)⟩ (fun v524 u522 H locs hw523 hP hD hS => ?_) (fun ux ce9 q9 H9 locs9 hux hP9 hD9 hS9 hce hcv hcl => pb_out ux (ThQ.up (Thx.same (Thx.same (Thx.same Thx.rfl rfl) rfl) rfl) (show RhX (updR (updR R 2 (.ref pq)) 3 (.ref mq)) (updR (updR (updR (updR R 2 (.ref pq)) 3 (.ref mq)) 2 (.ref pq)) 3 (.ref mq)) from fun k9 hk9 => by unfold updR; simp only [show ¬ k9 = 1 by omega, show ¬ k9 = 2 by omega, show ¬ k9 = 3 by omega, show ¬ k9 = 4 by omega, if_false]) hux) hnt hlocks hce hcv hcl hP9 hD9 hS9 (by show 0 + 1 ≤ 1; omega) (by show 0 + 6 ≤ 6; omega))
    obtain ⟨w, K527, B528, cs529, as530, wt531, wf532, r533⟩ := u522
    obtain ⟨hw523, h534, h535, h536, hO⟩ := hw523
    have h534 : BdE K K527 := h534
    have h535 : Bth B B528 := h535
    have h536 : cs529 ≤ 10000 := h536
    obtain rfl : v524 = some (.int r533) := hw523
    have hf537 : K527.1 pq = 7 := (BdE.T h534 hp1 (by decide))
    have hf538 : K527.2.2.1 18 pq = some (a 1) := (BdE.C h534 (by rw [hp1]; decide) 18).trans hp2
    have hf539 : K527.2.2.1 14 pq = some dr := (BdE.C h534 (by rw [hp1]; decide) 14).trans hp3
    have hf540 : K527.1 dr = 8 := (BdE.T h534 hp4 (by decide))
    have hf541 : K527.2.2.1 15 pq = some ml := (BdE.C h534 (by rw [hp1]; decide) 15).trans hp5
    have hf542 : K527.1 ml = 5 := (BdE.T h534 hp6 (by decide))
    have hf543 : K527.2.1 24 pq = (nI nd) := (BdE.I h534 (by rw [hp1]; decide) (by decide) (by decide)).trans hp8
    have hf544 : K527.1 q = 1 := (BdE.T h534 hqT (by decide))
    have hf545 : K527.1 mq = 3 := (BdE.T h534 hmq (by decide))
    have hf546 : K527.2.1 0 q = 16 := (BdE.I h534 (by rw [hqT]; decide) (by decide) (by decide)).trans hkd
    have hf547 : K527.2.2.1 0 q = some q1 := (BdE.C h534 (by rw [hqT]; decide) 0).trans hc0
    have hf548 : K527.1 q1 = 1 := (BdE.T h534 ht0 (by decide))
    have hO : OKP G h0 a (upd (upd (upd (upd (upd (upd F 2 (nI sz)) 5 (nI cs529)) 12 (nI vr)) 13 as530) 14 wt531) 15 wf532) (updR (updR R 2 (.ref pq)) 3 (.ref mq)) Z B528 J K527 w := hO.to rfl
    refine W.widen (k := 0) (n := 0) (by show 0 + 0 ≤ 0; omega) (by show 0 + 0 ≤ 0; omega) ?_
    refine W.eq (g2 := F0 m 132 ls [.int r533]) rfl ?_
    have hbe549 := BdE.trans BdE.rfl h534
    have hbb550 : Bth B B528 := Bth.trans (show Thx (upd (upd (upd F 2 (nI sz)) 5 (nI cs)) 12 (nI vr)) (upd (upd (upd F 2 (nI sz)) 5 (nI cs)) 12 (nI vr)) B B from Thx.rfl).2 h535
    have hng551 : Nng (B528 18) := h535.2 hng
    refine W_size (fun hz1 hz2 => ?_)
    refine vx_ret ?_
    have hz552 : BdE K K527 := hbe549
    have hz553 : Bth B B528 := (show Thx (upd (upd (upd F 2 (nI sz)) 5 (nI cs)) 12 (nI vr)) (upd (upd (upd (upd (upd (upd (upd F 2 (nI sz)) 5 (nI cs)) 12 (nI vr)) 5 (nI cs529)) 13 as530) 14 wt531) 15 wf532) B B528 from (Thx.f (Thx.f (Thx.f (Thx.f (Bth.thx hbb550) (by omega)) (by omega)) (by omega)) (by omega))).2
    have hz554 : cs529 ≤ 10000 := (by omega)
    have hO : OKP G h0 a (upd (upd (upd (upd (upd (upd F 2 (nI sz)) 5 (nI cs529)) 12 (nI vr)) 13 as530) 14 wt531) 15 wf532) (updR (updR R 2 (.ref pq)) 3 (.ref mq)) Z B528 J K527 w := hO.to rfl
    refine W.widen (k := 1) (n := 6) (by omega) (by omega) ?_
    have hzz1 : H.size ≤ s.heap.size + (0) := (by have z : 0 ≤ 0 := (by omega); omega)
    have hzz2 : hSl H ≤ hSl s.heap + (0) := (by have z : 0 ≤ 0 := (by omega); omega)
    exact W.iret (v := r533) hx hb hr (fun t99 ht99 hW99 => ⟨⟨_, (w, (K527, B528, cs529, as530, wt531, wf532, r533)), rfl, ⟨rfl, hz552, hz553, hz554, hO⟩, by rw [ht99]; exact hP, hD, by rw [ht99]; exact hzz1, by rw [ht99]; exact hzz2⟩, hS.F ht99⟩) hS.2.2 dX0_value_132
  by_cases h555 : kd = 17
  · subst h555
    refine lv_tableIn (tgt := 175) (off := 171) hx hb dX0_value_4 (by decide) (by decide) (by decide) (by decide) ?_
    have hnd := hwp.1 q hqT hqL.1
    obtain ⟨q1, hc0, ht0, hw0⟩ := NdO.ch hnd (f := 0) (by decide) ((hnd.1.2.1 (by rw [hkd]; decide)).1)
    have hv0 : 1 ≤ g 0 q1 ∧ g 0 q1 + 1 ≤ n := ⟨hw0.1, (by have z := hw0.2; omega)⟩
    obtain ⟨q2, hc1, ht1, hw1⟩ := NdO.ch hnd (f := 1) (by decide) ((hnd.1.2.1 (by rw [hkd]; decide)).2)
    have hv1 : 1 ≤ g 0 q2 ∧ g 0 q2 + 1 ≤ n := ⟨hw1.1, (by have z := hw1.2; omega)⟩
    refine lv_aload_n hx hb dX0_value_175 rfl (lv_at hl 0 rfl) ?_
    refine lv_aload_n hx hb dX0_value_176 rfl (lv_at hl 1 rfl) ?_
    refine lv_aload_n hx hb dX0_value_177 rfl (lv_at hl 0 rfl) ?_
    refine c_get (v := .ref (a 1)) (C := RX0) (Tc := TX0) (N := 13) (ci := 0) hx hb hq pin_wsX00 hown hE hP hO 24 (sg_24 G h0 a _ _ _ _ _) rfl 0 (by decide) (hq _ pw_4) (fun _ h9 => h9) rfl dX0_value_178 ?_
    refine lv_aload_n hx hb dX0_value_181 rfl (lv_at hl 1 rfl) ?_
    refine p_get (v := .int (K.2.1 1 q)) (C := RX7) (Tc := TX7) (N := 11) (ci := 13) hx hb hq pin_wsX70 hown hE hP hO (by rw [hqT]; decide) (rep_1 hqT) rfl 1 (by decide) (hq _ pw_81) (fun _ h9 => h9) rfl dX0_value_182 ?_
    have hO : OKW G h0 a (upd (upd (upd (upd F 2 (nI sz)) 5 (nI cs)) 12 (nI vr)) 2 (nI sz)) (updR (updR R 2 (.ref pq)) 3 (.ref mq)) Z B J K.1 (fun q99 x99 => x99 = rep G a K q99) w := hO.to rfl
    obtain ⟨_, qr559, hqr560⟩ := hO.2.1 2 _ (sg_2 G h0 a _ _ _ _ _)
    refine pc_V0 (G := G) (As := [.int (K.2.1 1 q)]) (rest := [.ref q, .ref (a 4)]) hx hb hml hown hq hE hX pX0_al hP hD hS hA hl.1 (K_kindAt l G h0 a (upd (upd (upd F 2 (nI sz)) 5 (nI cs)) 12 (nI vr)) (updR (updR R 2 (.ref pq)) 3 (.ref mq)) Z B J K.1 (fun q99 x99 => x99 = rep G a K q99) w (K.2.1 1 q) sz (by omega) hO) (gV pw_192 pw_193 pw_194 pw_59 pw_126) hV_X10_kindAt qr559 7 hqr560 rfl rfl rfl (Nat.le_of_ble_eq_true rfl) dX0_value_185 ⟨(by show 0 + 0 ≤ 1; omega), (by show 0 + 0 ≤ 6; omega)⟩ ⟨(by show 2 + 1 ≤ (5 * n + 34); omega), (by show 8 + (2 + 11) + 60 ≤ (200 * n + 600); omega)⟩ (fun v558 u556 H locs hw557 hP hD hS => ?_)
    obtain ⟨w, r561⟩ := u556
    obtain ⟨hw557, h562, hO⟩ := hw557
    have h562 : r561 = 67 ∨ ∃ t : Nat, (K.2.1 1 q) = nI t ∧ t < sz := h562
    obtain rfl : v558 = some (.int r561) := hw557
    have hO : OKP G h0 a (upd (upd (upd F 2 (nI sz)) 5 (nI cs)) 12 (nI vr)) (updR (updR R 2 (.ref pq)) 3 (.ref mq)) Z B J K w := hO.to rfl
    refine W.widen (k := 0) (n := 0) (Nat.le_of_ble_eq_true rfl) (Nat.le_of_ble_eq_true rfl) ?_
    refine W.eq (g2 := F0 m 188 ls [.int r561, .ref q, .ref (a 4)]) rfl ?_
    have hO : OKP G h0 a (upd (upd (upd (upd (upd (upd F 2 (nI sz)) 5 (nI cs)) 12 (nI vr)) 2 (nI sz)) 5 (nI cs)) 12 (nI vr)) (updR (updR (updR (updR R 2 (.ref pq)) 3 (.ref mq)) 2 (.ref pq)) 3 (.ref mq)) Z B J K w := hO.to rfl
    obtain ⟨_, qr566, hqr567⟩ := hO.2.1 24 _ (sg_24 G h0 a _ _ _ _ _)
    refine pn_V0 (G := G) (As := [.ref q, .int r561]) (rest := []) hx hb hml hown hq hE hX pX0_al hP hD hS hA hl.1 (B_sign l G h0 a (upd (upd (upd F 2 (nI sz)) 5 (nI cs)) 12 (nI vr)) (updR (updR R 2 (.ref pq)) 3 (.ref mq)) Z B J K w pq dr ml nd nm cp it s9 q mq cs vr sz n q1 q2 r561 g rk (by omega) (BdE.wp BdE.rfl hwp) (BdE.pt BdE.rfl hwp hps) (BdE.rko BdE.rfl hrk) (by omega) (by omega) hng hmq hqT hqL hc0 ht0 hv0 hc1 ht1 hv1 ihv hO hl0) (gV pw_240 pw_241 pw_242 pw_63 pw_217) hV_X0_sign qr566 0 hqr567 rfl rfl rfl (Nat.le_of_ble_eq_true rfl) dX0_value_188 ⟨(by show 0 + 1 ≤ 1; omega), (by show 0 + 6 ≤ 6; omega)⟩ ⟨(by show (5 * n + 33) + 1 ≤ (5 * n + 34); omega), (by show 8 + (5 + 11) + (200 * n + 560) ≤ (200 * n + 600); omega)⟩ (fun v565 u563 H locs hw564 hP hD hS => ?_) (fun ux ce9 q9 H9 locs9 hux hP9 hD9 hS9 hce hcv hcl => pb_out ux (ThQ.up (Thx.same (Thx.same (Thx.same Thx.rfl rfl) rfl) rfl) (show RhX (updR (updR R 2 (.ref pq)) 3 (.ref mq)) (updR (updR (updR (updR R 2 (.ref pq)) 3 (.ref mq)) 2 (.ref pq)) 3 (.ref mq)) from fun k9 hk9 => by unfold updR; simp only [show ¬ k9 = 1 by omega, show ¬ k9 = 2 by omega, show ¬ k9 = 3 by omega, show ¬ k9 = 4 by omega, if_false]) hux) hnt hlocks hce hcv hcl hP9 hD9 hS9 (by show 0 + 1 ≤ 1; omega) (by show 0 + 6 ≤ 6; omega))
    obtain ⟨w, K568, B569, cs570, as571, wt572, wf573, r574⟩ := u563
    obtain ⟨hw564, h575, h576, h577, hO⟩ := hw564
    have h575 : BdE K K568 := h575
    have h576 : Bth B B569 := h576
    have h577 : cs570 ≤ 10000 := h577
    obtain rfl : v565 = some (.int r574) := hw564
    have hf578 : K568.1 pq = 7 := (BdE.T h575 hp1 (by decide))
    have hf579 : K568.2.2.1 18 pq = some (a 1) := (BdE.C h575 (by rw [hp1]; decide) 18).trans hp2
    have hf580 : K568.2.2.1 14 pq = some dr := (BdE.C h575 (by rw [hp1]; decide) 14).trans hp3
    have hf581 : K568.1 dr = 8 := (BdE.T h575 hp4 (by decide))
    have hf582 : K568.2.2.1 15 pq = some ml := (BdE.C h575 (by rw [hp1]; decide) 15).trans hp5
    have hf583 : K568.1 ml = 5 := (BdE.T h575 hp6 (by decide))
    have hf584 : K568.2.1 24 pq = (nI nd) := (BdE.I h575 (by rw [hp1]; decide) (by decide) (by decide)).trans hp8
    have hf585 : K568.1 q = 1 := (BdE.T h575 hqT (by decide))
    have hf586 : K568.1 mq = 3 := (BdE.T h575 hmq (by decide))
    have hf587 : K568.2.1 0 q = 17 := (BdE.I h575 (by rw [hqT]; decide) (by decide) (by decide)).trans hkd
    have hf588 : K568.2.2.1 0 q = some q1 := (BdE.C h575 (by rw [hqT]; decide) 0).trans hc0
    have hf589 : K568.1 q1 = 1 := (BdE.T h575 ht0 (by decide))
    have hf590 : K568.2.2.1 1 q = some q2 := (BdE.C h575 (by rw [hqT]; decide) 1).trans hc1
    have hf591 : K568.1 q2 = 1 := (BdE.T h575 ht1 (by decide))
    have hO : OKP G h0 a (upd (upd (upd (upd (upd (upd F 2 (nI sz)) 5 (nI cs570)) 12 (nI vr)) 13 as571) 14 wt572) 15 wf573) (updR (updR R 2 (.ref pq)) 3 (.ref mq)) Z B569 J K568 w := hO.to rfl
    refine W.widen (k := 0) (n := 0) (by show 0 + 0 ≤ 0; omega) (by show 0 + 0 ≤ 0; omega) ?_
    refine W.eq (g2 := F0 m 191 ls [.int r574]) rfl ?_
    have hbe592 := BdE.trans BdE.rfl h575
    have hbb593 : Bth B B569 := Bth.trans (show Thx (upd (upd (upd F 2 (nI sz)) 5 (nI cs)) 12 (nI vr)) (upd (upd (upd F 2 (nI sz)) 5 (nI cs)) 12 (nI vr)) B B from Thx.rfl).2 h576
    have hng594 : Nng (B569 18) := h576.2 hng
    refine lv_istore_n (lv' := [(2, .int r574), (0, .ref (a 4)), (1, .ref q)]) hx hb dX0_value_191 rfl hl (by decide) rfl (fun ls hl => ?_)
    refine lv_goto (tgt := 298) hx hb dX0_value_192 (by decide) ?_
    refine lv_aload_n hx hb dX0_value_298 rfl (lv_at hl 1 rfl) ?_
    refine lv_aload_n hx hb dX0_value_299 rfl (lv_at hl 1 rfl) ?_
    refine c_get (v := .int as571) (C := RX0) (Tc := TX0) (N := 13) (ci := 0) hx hb hq pin_wsX00 hown hE hP hO 24 (sg_24 G h0 a _ _ _ _ _) rfl 8 (by decide) (hq _ pw_55) (fun _ h9 => h9) rfl dX0_value_300 ?_
    refine c_put (v := .int as571) (ty := .int) (C := RX0) (Tc := TX0) (N := 13) (ci := 0) hx hb hq pin_wsX00 tyX0 tyX0_ok nmX0 hown hE hP hD hS hO 24 (sg_24 G h0 a _ _ _ _ _) rfl 9 (by decide) (hq _ pw_156) (fun _ h9 => h9) rfl (by decide +kernel) rfl rfl (Nat.le_of_ble_eq_true rfl) (sf_14 G h0 a _ _ _ _ _ as571) dX0_value_303 (fun H locs w hP hD hS hO => ?_)
    refine lv_aload_n hx hb dX0_value_306 rfl (lv_at hl 1 rfl) ?_
    refine lv_aload_n hx hb dX0_value_307 rfl (lv_at hl 1 rfl) ?_
    refine c_get (v := .int as571) (C := RX0) (Tc := TX0) (N := 13) (ci := 0) hx hb hq pin_wsX00 hown hE hP hO 24 (sg_24 G h0 a _ _ _ _ _) rfl 8 (by decide) (hq _ pw_55) (fun _ h9 => h9) rfl dX0_value_308 ?_
    refine c_put (v := .int as571) (ty := .int) (C := RX0) (Tc := TX0) (N := 13) (ci := 0) hx hb hq pin_wsX00 tyX0 tyX0_ok nmX0 hown hE hP hD hS hO 24 (sg_24 G h0 a _ _ _ _ _) rfl 10 (by decide) (hq _ pw_157) (fun _ h9 => h9) rfl (by decide +kernel) rfl rfl (Nat.le_of_ble_eq_true rfl) (sf_15 G h0 a _ _ _ _ _ as571) dX0_value_311 (fun H locs w hP hD hS hO => ?_)
    refine lv_iload_n hx hb dX0_value_314 rfl (lv_at hl 0 rfl) ?_
    refine W_size (fun hz1 hz2 => ?_)
    refine vx_ret ?_
    have hz595 : BdE K K568 := hbe592
    have hz596 : Bth B B569 := (show Thx (upd (upd (upd F 2 (nI sz)) 5 (nI cs)) 12 (nI vr)) (upd (upd (upd (upd (upd (upd (upd F 2 (nI sz)) 5 (nI cs)) 12 (nI vr)) 5 (nI cs570)) 13 as571) 14 as571) 15 as571) B B569 from (Thx.f (Thx.f (Thx.f (Thx.f (Bth.thx hbb593) (by omega)) (by omega)) (by omega)) (by omega))).2
    have hz597 : cs570 ≤ 10000 := (by omega)
    have hO : OKP G h0 a (upd (upd (upd (upd (upd (upd F 2 (nI sz)) 5 (nI cs570)) 12 (nI vr)) 13 as571) 14 as571) 15 as571) (updR (updR R 2 (.ref pq)) 3 (.ref mq)) Z B569 J K568 w := hO.to rfl
    refine W.widen (k := 1) (n := 6) (by omega) (by omega) ?_
    have hzz1 : H.size ≤ s.heap.size + (0) := (by have z : 0 ≤ 0 := (by omega); omega)
    have hzz2 : hSl H ≤ hSl s.heap + (0) := (by have z : 0 ≤ 0 := (by omega); omega)
    exact W.iret (v := r574) hx hb hr (fun t99 ht99 hW99 => ⟨⟨_, (w, (K568, B569, cs570, as571, as571, as571, r574)), rfl, ⟨rfl, hz595, hz596, hz597, hO⟩, by rw [ht99]; exact hP, hD, by rw [ht99]; exact hzz1, by rw [ht99]; exact hzz2⟩, hS.F ht99⟩) hS.2.2 dX0_value_315
  by_cases h598 : kd = 18
  · subst h598
    refine lv_tableIn (tgt := 133) (off := 129) hx hb dX0_value_4 (by decide) (by decide) (by decide) (by decide) ?_
    have hnd := hwp.1 q hqT hqL.1
    obtain ⟨q1, hc0, ht0, hw0⟩ := NdO.ch hnd (f := 0) (by decide) ((hnd.1.2.1 (by rw [hkd]; decide)).1)
    have hv0 : 1 ≤ g 0 q1 ∧ g 0 q1 + 1 ≤ n := ⟨hw0.1, (by have z := hw0.2; omega)⟩
    obtain ⟨q2, hc1, ht1, hw1⟩ := NdO.ch hnd (f := 1) (by decide) ((hnd.1.2.1 (by rw [hkd]; decide)).2)
    have hv1 : 1 ≤ g 0 q2 ∧ g 0 q2 + 1 ≤ n := ⟨hw1.1, (by have z := hw1.2; omega)⟩
    refine lv_aload_n hx hb dX0_value_133 rfl (lv_at hl 0 rfl) ?_
    refine lv_aload_n hx hb dX0_value_134 rfl (lv_at hl 1 rfl) ?_
    refine lv_aload_n hx hb dX0_value_135 rfl (lv_at hl 0 rfl) ?_
    refine c_get (v := .ref (a 1)) (C := RX0) (Tc := TX0) (N := 13) (ci := 0) hx hb hq pin_wsX00 hown hE hP hO 24 (sg_24 G h0 a _ _ _ _ _) rfl 0 (by decide) (hq _ pw_4) (fun _ h9 => h9) rfl dX0_value_136 ?_
    refine lv_aload_n hx hb dX0_value_139 rfl (lv_at hl 1 rfl) ?_
    refine p_get (v := .int (K.2.1 1 q)) (C := RX7) (Tc := TX7) (N := 11) (ci := 13) hx hb hq pin_wsX70 hown hE hP hO (by rw [hqT]; decide) (rep_1 hqT) rfl 1 (by decide) (hq _ pw_81) (fun _ h9 => h9) rfl dX0_value_140 ?_
    have hO : OKW G h0 a (upd (upd (upd (upd F 2 (nI sz)) 5 (nI cs)) 12 (nI vr)) 2 (nI sz)) (updR (updR R 2 (.ref pq)) 3 (.ref mq)) Z B J K.1 (fun q99 x99 => x99 = rep G a K q99) w := hO.to rfl
    obtain ⟨_, qr602, hqr603⟩ := hO.2.1 2 _ (sg_2 G h0 a _ _ _ _ _)
    refine pc_V0 (G := G) (As := [.int (K.2.1 1 q)]) (rest := [.ref q, .ref (a 4)]) hx hb hml hown hq hE hX pX0_al hP hD hS hA hl.1 (K_kindAt l G h0 a (upd (upd (upd F 2 (nI sz)) 5 (nI cs)) 12 (nI vr)) (updR (updR R 2 (.ref pq)) 3 (.ref mq)) Z B J K.1 (fun q99 x99 => x99 = rep G a K q99) w (K.2.1 1 q) sz (by omega) hO) (gV pw_192 pw_193 pw_194 pw_59 pw_126) hV_X10_kindAt qr602 7 hqr603 rfl rfl rfl (Nat.le_of_ble_eq_true rfl) dX0_value_143 ⟨(by show 0 + 0 ≤ 1; omega), (by show 0 + 0 ≤ 6; omega)⟩ ⟨(by show 2 + 1 ≤ (5 * n + 34); omega), (by show 8 + (2 + 11) + 60 ≤ (200 * n + 600); omega)⟩ (fun v601 u599 H locs hw600 hP hD hS => ?_)
    obtain ⟨w, r604⟩ := u599
    obtain ⟨hw600, h605, hO⟩ := hw600
    have h605 : r604 = 67 ∨ ∃ t : Nat, (K.2.1 1 q) = nI t ∧ t < sz := h605
    obtain rfl : v601 = some (.int r604) := hw600
    have hO : OKP G h0 a (upd (upd (upd F 2 (nI sz)) 5 (nI cs)) 12 (nI vr)) (updR (updR R 2 (.ref pq)) 3 (.ref mq)) Z B J K w := hO.to rfl
    refine W.widen (k := 0) (n := 0) (Nat.le_of_ble_eq_true rfl) (Nat.le_of_ble_eq_true rfl) ?_
    refine W.eq (g2 := F0 m 146 ls [.int r604, .ref q, .ref (a 4)]) rfl ?_
    refine lv_bipush (v := 60) hx hb dX0_value_146 (by decide) ?_
    refine lv_icmp_ne (tgt := 155) hx hb dX0_value_148 (by decide) (fun c606 => ?_) (fun c606 => ?_)
    · refine lv_iconst (v := 0) hx hb dX0_value_155 (by decide) ?_
      have hO : OKP G h0 a (upd (upd (upd (upd (upd (upd F 2 (nI sz)) 5 (nI cs)) 12 (nI vr)) 2 (nI sz)) 5 (nI cs)) 12 (nI vr)) (updR (updR (updR (updR R 2 (.ref pq)) 3 (.ref mq)) 2 (.ref pq)) 3 (.ref mq)) Z B J K w := hO.to rfl
      obtain ⟨_, qr610, hqr611⟩ := hO.2.1 24 _ (sg_24 G h0 a _ _ _ _ _)
      refine pn_V0 (G := G) (As := [.ref q, .int (nI 0)]) (rest := []) hx hb hml hown hq hE hX pX0_al hP hD hS hA hl.1 (B_shortened l G h0 a (upd (upd (upd F 2 (nI sz)) 5 (nI cs)) 12 (nI vr)) (updR (updR R 2 (.ref pq)) 3 (.ref mq)) Z B J K w pq dr ml nd nm cp it s9 q mq cs vr sz n q1 q2 0 g rk (by omega) (BdE.wp BdE.rfl hwp) (BdE.pt BdE.rfl hwp hps) (BdE.rko BdE.rfl hrk) (by omega) (by omega) hng hmq hqT hqL hc0 ht0 hv0 hc1 ht1 hv1 (by omega) ihv hO hl0) (gV pw_231 pw_232 pw_233 pw_63 pw_216) hV_X0_shortened qr610 0 hqr611 rfl rfl rfl (Nat.le_of_ble_eq_true rfl) dX0_value_156 ⟨(by show 0 + 1 ≤ 1; omega), (by show 0 + 6 ≤ 6; omega)⟩ ⟨(by show (5 * n + 33) + 1 ≤ (5 * n + 34); omega), (by show 8 + (6 + 11) + (200 * n + 560) ≤ (200 * n + 600); omega)⟩ (fun v609 u607 H locs hw608 hP hD hS => ?_) (fun ux ce9 q9 H9 locs9 hux hP9 hD9 hS9 hce hcv hcl => pb_out ux (ThQ.up (Thx.same (Thx.same (Thx.same Thx.rfl rfl) rfl) rfl) (show RhX (updR (updR R 2 (.ref pq)) 3 (.ref mq)) (updR (updR (updR (updR R 2 (.ref pq)) 3 (.ref mq)) 2 (.ref pq)) 3 (.ref mq)) from fun k9 hk9 => by unfold updR; simp only [show ¬ k9 = 1 by omega, show ¬ k9 = 2 by omega, show ¬ k9 = 3 by omega, show ¬ k9 = 4 by omega, if_false]) hux) hnt hlocks hce hcv hcl hP9 hD9 hS9 (by show 0 + 1 ≤ 1; omega) (by show 0 + 6 ≤ 6; omega))
      obtain ⟨w, K612, B613, cs614, as615, wt616, wf617, r618⟩ := u607
      obtain ⟨hw608, h619, h620, h621, hO⟩ := hw608
      have h619 : BdE K K612 := h619
      have h620 : Bth B B613 := h620
      have h621 : cs614 ≤ 10000 := h621
      obtain rfl : v609 = some (.int r618) := hw608
      have hf622 : K612.1 pq = 7 := (BdE.T h619 hp1 (by decide))
      have hf623 : K612.2.2.1 18 pq = some (a 1) := (BdE.C h619 (by rw [hp1]; decide) 18).trans hp2
      have hf624 : K612.2.2.1 14 pq = some dr := (BdE.C h619 (by rw [hp1]; decide) 14).trans hp3
      have hf625 : K612.1 dr = 8 := (BdE.T h619 hp4 (by decide))
      have hf626 : K612.2.2.1 15 pq = some ml := (BdE.C h619 (by rw [hp1]; decide) 15).trans hp5
      have hf627 : K612.1 ml = 5 := (BdE.T h619 hp6 (by decide))
      have hf628 : K612.2.1 24 pq = (nI nd) := (BdE.I h619 (by rw [hp1]; decide) (by decide) (by decide)).trans hp8
      have hf629 : K612.1 q = 1 := (BdE.T h619 hqT (by decide))
      have hf630 : K612.1 mq = 3 := (BdE.T h619 hmq (by decide))
      have hf631 : K612.2.1 0 q = 18 := (BdE.I h619 (by rw [hqT]; decide) (by decide) (by decide)).trans hkd
      have hf632 : K612.2.2.1 0 q = some q1 := (BdE.C h619 (by rw [hqT]; decide) 0).trans hc0
      have hf633 : K612.1 q1 = 1 := (BdE.T h619 ht0 (by decide))
      have hf634 : K612.2.2.1 1 q = some q2 := (BdE.C h619 (by rw [hqT]; decide) 1).trans hc1
      have hf635 : K612.1 q2 = 1 := (BdE.T h619 ht1 (by decide))
      have hO : OKP G h0 a (upd (upd (upd (upd (upd (upd F 2 (nI sz)) 5 (nI cs614)) 12 (nI vr)) 13 as615) 14 wt616) 15 wf617) (updR (updR R 2 (.ref pq)) 3 (.ref mq)) Z B613 J K612 w := hO.to rfl
      refine W.widen (k := 0) (n := 0) (by show 0 + 0 ≤ 0; omega) (by show 0 + 0 ≤ 0; omega) ?_
      refine W.eq (g2 := F0 m 159 ls [.int r618]) rfl ?_
      have hbe636 := BdE.trans BdE.rfl h619
      have hbb637 : Bth B B613 := Bth.trans (show Thx (upd (upd (upd F 2 (nI sz)) 5 (nI cs)) 12 (nI vr)) (upd (upd (upd F 2 (nI sz)) 5 (nI cs)) 12 (nI vr)) B B from Thx.rfl).2 h620
      have hng638 : Nng (B613 18) := h620.2 hng
      refine W_size (fun hz1 hz2 => ?_)
      refine vx_ret ?_
      have hz639 : BdE K K612 := hbe636
      have hz640 : Bth B B613 := (show Thx (upd (upd (upd F 2 (nI sz)) 5 (nI cs)) 12 (nI vr)) (upd (upd (upd (upd (upd (upd (upd F 2 (nI sz)) 5 (nI cs)) 12 (nI vr)) 5 (nI cs614)) 13 as615) 14 wt616) 15 wf617) B B613 from (Thx.f (Thx.f (Thx.f (Thx.f (Bth.thx hbb637) (by omega)) (by omega)) (by omega)) (by omega))).2
      have hz641 : cs614 ≤ 10000 := (by omega)
      have hO : OKP G h0 a (upd (upd (upd (upd (upd (upd F 2 (nI sz)) 5 (nI cs614)) 12 (nI vr)) 13 as615) 14 wt616) 15 wf617) (updR (updR R 2 (.ref pq)) 3 (.ref mq)) Z B613 J K612 w := hO.to rfl
      refine W.widen (k := 1) (n := 6) (by omega) (by omega) ?_
      have hzz1 : H.size ≤ s.heap.size + (0) := (by have z : 0 ≤ 0 := (by omega); omega)
      have hzz2 : hSl H ≤ hSl s.heap + (0) := (by have z : 0 ≤ 0 := (by omega); omega)
      exact W.iret (v := r618) hx hb hr (fun t99 ht99 hW99 => ⟨⟨_, (w, (K612, B613, cs614, as615, wt616, wf617, r618)), rfl, ⟨rfl, hz639, hz640, hz641, hO⟩, by rw [ht99]; exact hP, hD, by rw [ht99]; exact hzz1, by rw [ht99]; exact hzz2⟩, hS.F ht99⟩) hS.2.2 dX0_value_159
    · refine lv_iconst (v := 1) hx hb dX0_value_151 (by decide) ?_
      refine lv_goto (tgt := 156) hx hb dX0_value_152 (by decide) ?_
      have hO : OKP G h0 a (upd (upd (upd (upd (upd (upd F 2 (nI sz)) 5 (nI cs)) 12 (nI vr)) 2 (nI sz)) 5 (nI cs)) 12 (nI vr)) (updR (updR (updR (updR R 2 (.ref pq)) 3 (.ref mq)) 2 (.ref pq)) 3 (.ref mq)) Z B J K w := hO.to rfl
      obtain ⟨_, qr645, hqr646⟩ := hO.2.1 24 _ (sg_24 G h0 a _ _ _ _ _)
      refine pn_V0 (G := G) (As := [.ref q, .int (nI 1)]) (rest := []) hx hb hml hown hq hE hX pX0_al hP hD hS hA hl.1 (B_shortened l G h0 a (upd (upd (upd F 2 (nI sz)) 5 (nI cs)) 12 (nI vr)) (updR (updR R 2 (.ref pq)) 3 (.ref mq)) Z B J K w pq dr ml nd nm cp it s9 q mq cs vr sz n q1 q2 1 g rk (by omega) (BdE.wp BdE.rfl hwp) (BdE.pt BdE.rfl hwp hps) (BdE.rko BdE.rfl hrk) (by omega) (by omega) hng hmq hqT hqL hc0 ht0 hv0 hc1 ht1 hv1 (by omega) ihv hO hl0) (gV pw_231 pw_232 pw_233 pw_63 pw_216) hV_X0_shortened qr645 0 hqr646 rfl rfl rfl (Nat.le_of_ble_eq_true rfl) dX0_value_156 ⟨(by show 0 + 1 ≤ 1; omega), (by show 0 + 6 ≤ 6; omega)⟩ ⟨(by show (5 * n + 33) + 1 ≤ (5 * n + 34); omega), (by show 8 + (6 + 11) + (200 * n + 560) ≤ (200 * n + 600); omega)⟩ (fun v644 u642 H locs hw643 hP hD hS => ?_) (fun ux ce9 q9 H9 locs9 hux hP9 hD9 hS9 hce hcv hcl => pb_out ux (ThQ.up (Thx.same (Thx.same (Thx.same Thx.rfl rfl) rfl) rfl) (show RhX (updR (updR R 2 (.ref pq)) 3 (.ref mq)) (updR (updR (updR (updR R 2 (.ref pq)) 3 (.ref mq)) 2 (.ref pq)) 3 (.ref mq)) from fun k9 hk9 => by unfold updR; simp only [show ¬ k9 = 1 by omega, show ¬ k9 = 2 by omega, show ¬ k9 = 3 by omega, show ¬ k9 = 4 by omega, if_false]) hux) hnt hlocks hce hcv hcl hP9 hD9 hS9 (by show 0 + 1 ≤ 1; omega) (by show 0 + 6 ≤ 6; omega))
      obtain ⟨w, K647, B648, cs649, as650, wt651, wf652, r653⟩ := u642
      obtain ⟨hw643, h654, h655, h656, hO⟩ := hw643
      have h654 : BdE K K647 := h654
      have h655 : Bth B B648 := h655
      have h656 : cs649 ≤ 10000 := h656
      obtain rfl : v644 = some (.int r653) := hw643
      have hf657 : K647.1 pq = 7 := (BdE.T h654 hp1 (by decide))
      have hf658 : K647.2.2.1 18 pq = some (a 1) := (BdE.C h654 (by rw [hp1]; decide) 18).trans hp2
      have hf659 : K647.2.2.1 14 pq = some dr := (BdE.C h654 (by rw [hp1]; decide) 14).trans hp3
      have hf660 : K647.1 dr = 8 := (BdE.T h654 hp4 (by decide))
      have hf661 : K647.2.2.1 15 pq = some ml := (BdE.C h654 (by rw [hp1]; decide) 15).trans hp5
      have hf662 : K647.1 ml = 5 := (BdE.T h654 hp6 (by decide))
      have hf663 : K647.2.1 24 pq = (nI nd) := (BdE.I h654 (by rw [hp1]; decide) (by decide) (by decide)).trans hp8
      have hf664 : K647.1 q = 1 := (BdE.T h654 hqT (by decide))
      have hf665 : K647.1 mq = 3 := (BdE.T h654 hmq (by decide))
      have hf666 : K647.2.1 0 q = 18 := (BdE.I h654 (by rw [hqT]; decide) (by decide) (by decide)).trans hkd
      have hf667 : K647.2.2.1 0 q = some q1 := (BdE.C h654 (by rw [hqT]; decide) 0).trans hc0
      have hf668 : K647.1 q1 = 1 := (BdE.T h654 ht0 (by decide))
      have hf669 : K647.2.2.1 1 q = some q2 := (BdE.C h654 (by rw [hqT]; decide) 1).trans hc1
      have hf670 : K647.1 q2 = 1 := (BdE.T h654 ht1 (by decide))
      have hO : OKP G h0 a (upd (upd (upd (upd (upd (upd F 2 (nI sz)) 5 (nI cs649)) 12 (nI vr)) 13 as650) 14 wt651) 15 wf652) (updR (updR R 2 (.ref pq)) 3 (.ref mq)) Z B648 J K647 w := hO.to rfl
      refine W.widen (k := 0) (n := 0) (by show 0 + 0 ≤ 0; omega) (by show 0 + 0 ≤ 0; omega) ?_
      refine W.eq (g2 := F0 m 159 ls [.int r653]) rfl ?_
      have hbe671 := BdE.trans BdE.rfl h654
      have hbb672 : Bth B B648 := Bth.trans (show Thx (upd (upd (upd F 2 (nI sz)) 5 (nI cs)) 12 (nI vr)) (upd (upd (upd F 2 (nI sz)) 5 (nI cs)) 12 (nI vr)) B B from Thx.rfl).2 h655
      have hng673 : Nng (B648 18) := h655.2 hng
      refine W_size (fun hz1 hz2 => ?_)
      refine vx_ret ?_
      have hz674 : BdE K K647 := hbe671
      have hz675 : Bth B B648 := (show Thx (upd (upd (upd F 2 (nI sz)) 5 (nI cs)) 12 (nI vr)) (upd (upd (upd (upd (upd (upd (upd F 2 (nI sz)) 5 (nI cs)) 12 (nI vr)) 5 (nI cs649)) 13 as650) 14 wt651) 15 wf652) B B648 from (Thx.f (Thx.f (Thx.f (Thx.f (Bth.thx hbb672) (by omega)) (by omega)) (by omega)) (by omega))).2
      have hz676 : cs649 ≤ 10000 := (by omega)
      have hO : OKP G h0 a (upd (upd (upd (upd (upd (upd F 2 (nI sz)) 5 (nI cs649)) 12 (nI vr)) 13 as650) 14 wt651) 15 wf652) (updR (updR R 2 (.ref pq)) 3 (.ref mq)) Z B648 J K647 w := hO.to rfl
      refine W.widen (k := 1) (n := 6) (by omega) (by omega) ?_
      have hzz1 : H.size ≤ s.heap.size + (0) := (by have z : 0 ≤ 0 := (by omega); omega)
      have hzz2 : hSl H ≤ hSl s.heap + (0) := (by have z : 0 ≤ 0 := (by omega); omega)
      exact W.iret (v := r653) hx hb hr (fun t99 ht99 hW99 => ⟨⟨_, (w, (K647, B648, cs649, as650, wt651, wf652, r653)), rfl, ⟨rfl, hz674, hz675, hz676, hO⟩, by rw [ht99]; exact hP, hD, by rw [ht99]; exact hzz1, by rw [ht99]; exact hzz2⟩, hS.F ht99⟩) hS.2.2 dX0_value_159
  by_cases h677 : kd = 19
  · subst h677
    refine lv_tableIn (tgt := 195) (off := 191) hx hb dX0_value_4 (by decide) (by decide) (by decide) (by decide) ?_
    have hnd := hwp.1 q hqT hqL.1
    obtain ⟨q1, hc0, ht0, hw0⟩ := NdO.ch hnd (f := 0) (by decide) (hnd.1.1 (by rw [hkd]; decide))
    have hv0 : 1 ≤ g 0 q1 ∧ g 0 q1 + 1 ≤ n := ⟨hw0.1, (by have z := hw0.2; omega)⟩
    refine lv_aload_n hx hb dX0_value_195 rfl (lv_at hl 0 rfl) ?_
    refine lv_aload_n hx hb dX0_value_196 rfl (lv_at hl 1 rfl) ?_
    have hO : OKP G h0 a (upd (upd (upd (upd (upd (upd F 2 (nI sz)) 5 (nI cs)) 12 (nI vr)) 2 (nI sz)) 5 (nI cs)) 12 (nI vr)) (updR (updR (updR (updR R 2 (.ref pq)) 3 (.ref mq)) 2 (.ref pq)) 3 (.ref mq)) Z B J K w := hO.to rfl
    obtain ⟨_, qr681, hqr682⟩ := hO.2.1 24 _ (sg_24 G h0 a _ _ _ _ _)
    refine pn_V0 (G := G) (As := [.ref q]) (rest := []) hx hb hml hown hq hE hX pX0_al hP hD hS hA hl.1 (B_check l G h0 a (upd (upd (upd F 2 (nI sz)) 5 (nI cs)) 12 (nI vr)) (updR (updR R 2 (.ref pq)) 3 (.ref mq)) Z B J K w pq dr ml nd nm cp it s9 q mq cs vr sz n q1 g rk (by omega) (BdE.wp BdE.rfl hwp) (BdE.pt BdE.rfl hwp hps) (BdE.rko BdE.rfl hrk) (by omega) (by omega) hng hmq hqT hqL hc0 ht0 hv0 ihv hO hl0) (gV pw_243 pw_244 pw_245 pw_63 pw_190) hV_X0_check qr681 0 hqr682 rfl rfl rfl (Nat.le_of_ble_eq_true rfl) dX0_value_197 ⟨(by show 0 + 1 ≤ 1; omega), (by show 0 + 6 ≤ 6; omega)⟩ ⟨(by show (5 * n + 33) + 1 ≤ (5 * n + 34); omega), (by show 8 + (3 + 11) + (200 * n + 560) ≤ (200 * n + 600); omega)⟩ (fun v680 u678 H locs hw679 hP hD hS => ?_) (fun ux ce9 q9 H9 locs9 hux hP9 hD9 hS9 hce hcv hcl => pb_out ux (ThQ.up (Thx.same (Thx.same (Thx.same Thx.rfl rfl) rfl) rfl) (show RhX (updR (updR R 2 (.ref pq)) 3 (.ref mq)) (updR (updR (updR (updR R 2 (.ref pq)) 3 (.ref mq)) 2 (.ref pq)) 3 (.ref mq)) from fun k9 hk9 => by unfold updR; simp only [show ¬ k9 = 1 by omega, show ¬ k9 = 2 by omega, show ¬ k9 = 3 by omega, show ¬ k9 = 4 by omega, if_false]) hux) hnt hlocks hce hcv hcl hP9 hD9 hS9 (by show 0 + 1 ≤ 1; omega) (by show 0 + 6 ≤ 6; omega))
    obtain ⟨w, K683, B684, cs685, as686, wt687, wf688, r689⟩ := u678
    obtain ⟨hw679, h690, h691, h692, hO⟩ := hw679
    have h690 : BdE K K683 := h690
    have h691 : Bth B B684 := h691
    have h692 : cs685 ≤ 10000 := h692
    obtain rfl : v680 = some (.int r689) := hw679
    have hf693 : K683.1 pq = 7 := (BdE.T h690 hp1 (by decide))
    have hf694 : K683.2.2.1 18 pq = some (a 1) := (BdE.C h690 (by rw [hp1]; decide) 18).trans hp2
    have hf695 : K683.2.2.1 14 pq = some dr := (BdE.C h690 (by rw [hp1]; decide) 14).trans hp3
    have hf696 : K683.1 dr = 8 := (BdE.T h690 hp4 (by decide))
    have hf697 : K683.2.2.1 15 pq = some ml := (BdE.C h690 (by rw [hp1]; decide) 15).trans hp5
    have hf698 : K683.1 ml = 5 := (BdE.T h690 hp6 (by decide))
    have hf699 : K683.2.1 24 pq = (nI nd) := (BdE.I h690 (by rw [hp1]; decide) (by decide) (by decide)).trans hp8
    have hf700 : K683.1 q = 1 := (BdE.T h690 hqT (by decide))
    have hf701 : K683.1 mq = 3 := (BdE.T h690 hmq (by decide))
    have hf702 : K683.2.1 0 q = 19 := (BdE.I h690 (by rw [hqT]; decide) (by decide) (by decide)).trans hkd
    have hf703 : K683.2.2.1 0 q = some q1 := (BdE.C h690 (by rw [hqT]; decide) 0).trans hc0
    have hf704 : K683.1 q1 = 1 := (BdE.T h690 ht0 (by decide))
    have hO : OKP G h0 a (upd (upd (upd (upd (upd (upd F 2 (nI sz)) 5 (nI cs685)) 12 (nI vr)) 13 as686) 14 wt687) 15 wf688) (updR (updR R 2 (.ref pq)) 3 (.ref mq)) Z B684 J K683 w := hO.to rfl
    refine W.widen (k := 0) (n := 0) (by show 0 + 0 ≤ 0; omega) (by show 0 + 0 ≤ 0; omega) ?_
    refine W.eq (g2 := F0 m 200 ls [.int r689]) rfl ?_
    have hbe705 := BdE.trans BdE.rfl h690
    have hbb706 : Bth B B684 := Bth.trans (show Thx (upd (upd (upd F 2 (nI sz)) 5 (nI cs)) 12 (nI vr)) (upd (upd (upd F 2 (nI sz)) 5 (nI cs)) 12 (nI vr)) B B from Thx.rfl).2 h691
    have hng707 : Nng (B684 18) := h691.2 hng
    refine lv_istore_n (lv' := [(2, .int r689), (0, .ref (a 4)), (1, .ref q)]) hx hb dX0_value_200 rfl hl (by decide) rfl (fun ls hl => ?_)
    refine lv_goto (tgt := 298) hx hb dX0_value_201 (by decide) ?_
    refine lv_aload_n hx hb dX0_value_298 rfl (lv_at hl 1 rfl) ?_
    refine lv_aload_n hx hb dX0_value_299 rfl (lv_at hl 1 rfl) ?_
    refine c_get (v := .int as686) (C := RX0) (Tc := TX0) (N := 13) (ci := 0) hx hb hq pin_wsX00 hown hE hP hO 24 (sg_24 G h0 a _ _ _ _ _) rfl 8 (by decide) (hq _ pw_55) (fun _ h9 => h9) rfl dX0_value_300 ?_
    refine c_put (v := .int as686) (ty := .int) (C := RX0) (Tc := TX0) (N := 13) (ci := 0) hx hb hq pin_wsX00 tyX0 tyX0_ok nmX0 hown hE hP hD hS hO 24 (sg_24 G h0 a _ _ _ _ _) rfl 9 (by decide) (hq _ pw_156) (fun _ h9 => h9) rfl (by decide +kernel) rfl rfl (Nat.le_of_ble_eq_true rfl) (sf_14 G h0 a _ _ _ _ _ as686) dX0_value_303 (fun H locs w hP hD hS hO => ?_)
    refine lv_aload_n hx hb dX0_value_306 rfl (lv_at hl 1 rfl) ?_
    refine lv_aload_n hx hb dX0_value_307 rfl (lv_at hl 1 rfl) ?_
    refine c_get (v := .int as686) (C := RX0) (Tc := TX0) (N := 13) (ci := 0) hx hb hq pin_wsX00 hown hE hP hO 24 (sg_24 G h0 a _ _ _ _ _) rfl 8 (by decide) (hq _ pw_55) (fun _ h9 => h9) rfl dX0_value_308 ?_
    refine c_put (v := .int as686) (ty := .int) (C := RX0) (Tc := TX0) (N := 13) (ci := 0) hx hb hq pin_wsX00 tyX0 tyX0_ok nmX0 hown hE hP hD hS hO 24 (sg_24 G h0 a _ _ _ _ _) rfl 10 (by decide) (hq _ pw_157) (fun _ h9 => h9) rfl (by decide +kernel) rfl rfl (Nat.le_of_ble_eq_true rfl) (sf_15 G h0 a _ _ _ _ _ as686) dX0_value_311 (fun H locs w hP hD hS hO => ?_)
    refine lv_iload_n hx hb dX0_value_314 rfl (lv_at hl 0 rfl) ?_
    refine W_size (fun hz1 hz2 => ?_)
    refine vx_ret ?_
    have hz708 : BdE K K683 := hbe705
    have hz709 : Bth B B684 := (show Thx (upd (upd (upd F 2 (nI sz)) 5 (nI cs)) 12 (nI vr)) (upd (upd (upd (upd (upd (upd (upd F 2 (nI sz)) 5 (nI cs)) 12 (nI vr)) 5 (nI cs685)) 13 as686) 14 as686) 15 as686) B B684 from (Thx.f (Thx.f (Thx.f (Thx.f (Bth.thx hbb706) (by omega)) (by omega)) (by omega)) (by omega))).2
    have hz710 : cs685 ≤ 10000 := (by omega)
    have hO : OKP G h0 a (upd (upd (upd (upd (upd (upd F 2 (nI sz)) 5 (nI cs685)) 12 (nI vr)) 13 as686) 14 as686) 15 as686) (updR (updR R 2 (.ref pq)) 3 (.ref mq)) Z B684 J K683 w := hO.to rfl
    refine W.widen (k := 1) (n := 6) (by omega) (by omega) ?_
    have hzz1 : H.size ≤ s.heap.size + (0) := (by have z : 0 ≤ 0 := (by omega); omega)
    have hzz2 : hSl H ≤ hSl s.heap + (0) := (by have z : 0 ≤ 0 := (by omega); omega)
    exact W.iret (v := r689) hx hb hr (fun t99 ht99 hW99 => ⟨⟨_, (w, (K683, B684, cs685, as686, as686, as686, r689)), rfl, ⟨rfl, hz708, hz709, hz710, hO⟩, by rw [ht99]; exact hP, hD, by rw [ht99]; exact hzz1, by rw [ht99]; exact hzz2⟩, hS.F ht99⟩) hS.2.2 dX0_value_315
  by_cases h711 : kd = 20
  · subst h711
    refine lv_tableIn (tgt := 160) (off := 156) hx hb dX0_value_4 (by decide) (by decide) (by decide) (by decide) ?_
    have hnd := hwp.1 q hqT hqL.1
    obtain ⟨q1, hc0, ht0, hw0⟩ := NdO.ch hnd (f := 0) (by decide) ((hnd.1.2.2.1 hkd).1)
    have hv0 : 1 ≤ g 0 q1 ∧ g 0 q1 + 1 ≤ n := ⟨hw0.1, (by have z := hw0.2; omega)⟩
    obtain ⟨q2, hc1, ht1, hw1⟩ := NdO.ch hnd (f := 1) (by decide) ((hnd.1.2.2.1 hkd).2.1)
    have hv1 : 1 ≤ g 0 q2 ∧ g 0 q2 + 1 ≤ n := ⟨hw1.1, (by have z := hw1.2; omega)⟩
    obtain ⟨q3, hc2, ht2, hw2⟩ := NdO.ch hnd (f := 2) (by decide) ((hnd.1.2.2.1 hkd).2.2)
    have hv2 : 1 ≤ g 0 q3 ∧ g 0 q3 + 1 ≤ n := ⟨hw2.1, (by have z := hw2.2; omega)⟩
    refine lv_aload_n hx hb dX0_value_160 rfl (lv_at hl 0 rfl) ?_
    refine lv_aload_n hx hb dX0_value_161 rfl (lv_at hl 1 rfl) ?_
    have hO : OKP G h0 a (upd (upd (upd (upd (upd (upd F 2 (nI sz)) 5 (nI cs)) 12 (nI vr)) 2 (nI sz)) 5 (nI cs)) 12 (nI vr)) (updR (updR (updR (updR R 2 (.ref pq)) 3 (.ref mq)) 2 (.ref pq)) 3 (.ref mq)) Z B J K w := hO.to rfl
    obtain ⟨_, qr715, hqr716⟩ := hO.2.1 24 _ (sg_24 G h0 a _ _ _ _ _)
    refine pn_V0 (G := G) (As := [.ref q]) (rest := []) hx hb hml hown hq hE hX pX0_al hP hD hS hA hl.1 (B_choice l G h0 a (upd (upd (upd F 2 (nI sz)) 5 (nI cs)) 12 (nI vr)) (updR (updR R 2 (.ref pq)) 3 (.ref mq)) Z B J K w pq dr ml nd nm cp it s9 q mq cs vr sz n q1 q2 q3 g rk (by omega) (BdE.wp BdE.rfl hwp) (BdE.pt BdE.rfl hwp hps) (BdE.rko BdE.rfl hrk) (by omega) (by omega) hng hmq hqT hqL hc0 ht0 hv0 hc1 ht1 hv1 hc2 ht2 hv2 ihv hO hl0) (gV pw_234 pw_235 pw_236 pw_63 pw_195) hV_X0_choice qr715 0 hqr716 rfl rfl rfl (Nat.le_of_ble_eq_true rfl) dX0_value_162 ⟨(by show 0 + 1 ≤ 1; omega), (by show 0 + 6 ≤ 6; omega)⟩ ⟨(by show (5 * n + 33) + 1 ≤ (5 * n + 34); omega), (by show 8 + (9 + 11) + (200 * n + 560) ≤ (200 * n + 600); omega)⟩ (fun v714 u712 H locs hw713 hP hD hS => ?_) (fun ux ce9 q9 H9 locs9 hux hP9 hD9 hS9 hce hcv hcl => pb_out ux (ThQ.up (Thx.same (Thx.same (Thx.same Thx.rfl rfl) rfl) rfl) (show RhX (updR (updR R 2 (.ref pq)) 3 (.ref mq)) (updR (updR (updR (updR R 2 (.ref pq)) 3 (.ref mq)) 2 (.ref pq)) 3 (.ref mq)) from fun k9 hk9 => by unfold updR; simp only [show ¬ k9 = 1 by omega, show ¬ k9 = 2 by omega, show ¬ k9 = 3 by omega, show ¬ k9 = 4 by omega, if_false]) hux) hnt hlocks hce hcv hcl hP9 hD9 hS9 (by show 0 + 1 ≤ 1; omega) (by show 0 + 6 ≤ 6; omega))
    obtain ⟨w, K717, B718, cs719, as720, wt721, wf722, r723⟩ := u712
    obtain ⟨hw713, h724, h725, h726, hO⟩ := hw713
    have h724 : BdE K K717 := h724
    have h725 : Bth B B718 := h725
    have h726 : cs719 ≤ 10000 := h726
    obtain rfl : v714 = some (.int r723) := hw713
    have hf727 : K717.1 pq = 7 := (BdE.T h724 hp1 (by decide))
    have hf728 : K717.2.2.1 18 pq = some (a 1) := (BdE.C h724 (by rw [hp1]; decide) 18).trans hp2
    have hf729 : K717.2.2.1 14 pq = some dr := (BdE.C h724 (by rw [hp1]; decide) 14).trans hp3
    have hf730 : K717.1 dr = 8 := (BdE.T h724 hp4 (by decide))
    have hf731 : K717.2.2.1 15 pq = some ml := (BdE.C h724 (by rw [hp1]; decide) 15).trans hp5
    have hf732 : K717.1 ml = 5 := (BdE.T h724 hp6 (by decide))
    have hf733 : K717.2.1 24 pq = (nI nd) := (BdE.I h724 (by rw [hp1]; decide) (by decide) (by decide)).trans hp8
    have hf734 : K717.1 q = 1 := (BdE.T h724 hqT (by decide))
    have hf735 : K717.1 mq = 3 := (BdE.T h724 hmq (by decide))
    have hf736 : K717.2.1 0 q = 20 := (BdE.I h724 (by rw [hqT]; decide) (by decide) (by decide)).trans hkd
    have hf737 : K717.2.2.1 0 q = some q1 := (BdE.C h724 (by rw [hqT]; decide) 0).trans hc0
    have hf738 : K717.1 q1 = 1 := (BdE.T h724 ht0 (by decide))
    have hf739 : K717.2.2.1 1 q = some q2 := (BdE.C h724 (by rw [hqT]; decide) 1).trans hc1
    have hf740 : K717.1 q2 = 1 := (BdE.T h724 ht1 (by decide))
    have hf741 : K717.2.2.1 2 q = some q3 := (BdE.C h724 (by rw [hqT]; decide) 2).trans hc2
    have hf742 : K717.1 q3 = 1 := (BdE.T h724 ht2 (by decide))
    have hO : OKP G h0 a (upd (upd (upd (upd (upd (upd F 2 (nI sz)) 5 (nI cs719)) 12 (nI vr)) 13 as720) 14 wt721) 15 wf722) (updR (updR R 2 (.ref pq)) 3 (.ref mq)) Z B718 J K717 w := hO.to rfl
    refine W.widen (k := 0) (n := 0) (by show 0 + 0 ≤ 0; omega) (by show 0 + 0 ≤ 0; omega) ?_
    refine W.eq (g2 := F0 m 165 ls [.int r723]) rfl ?_
    have hbe743 := BdE.trans BdE.rfl h724
    have hbb744 : Bth B B718 := Bth.trans (show Thx (upd (upd (upd F 2 (nI sz)) 5 (nI cs)) 12 (nI vr)) (upd (upd (upd F 2 (nI sz)) 5 (nI cs)) 12 (nI vr)) B B from Thx.rfl).2 h725
    have hng745 : Nng (B718 18) := h725.2 hng
    refine W_size (fun hz1 hz2 => ?_)
    refine vx_ret ?_
    have hz746 : BdE K K717 := hbe743
    have hz747 : Bth B B718 := (show Thx (upd (upd (upd F 2 (nI sz)) 5 (nI cs)) 12 (nI vr)) (upd (upd (upd (upd (upd (upd (upd F 2 (nI sz)) 5 (nI cs)) 12 (nI vr)) 5 (nI cs719)) 13 as720) 14 wt721) 15 wf722) B B718 from (Thx.f (Thx.f (Thx.f (Thx.f (Bth.thx hbb744) (by omega)) (by omega)) (by omega)) (by omega))).2
    have hz748 : cs719 ≤ 10000 := (by omega)
    have hO : OKP G h0 a (upd (upd (upd (upd (upd (upd F 2 (nI sz)) 5 (nI cs719)) 12 (nI vr)) 13 as720) 14 wt721) 15 wf722) (updR (updR R 2 (.ref pq)) 3 (.ref mq)) Z B718 J K717 w := hO.to rfl
    refine W.widen (k := 1) (n := 6) (by omega) (by omega) ?_
    have hzz1 : H.size ≤ s.heap.size + (0) := (by have z : 0 ≤ 0 := (by omega); omega)
    have hzz2 : hSl H ≤ hSl s.heap + (0) := (by have z : 0 ≤ 0 := (by omega); omega)
    exact W.iret (v := r723) hx hb hr (fun t99 ht99 hW99 => ⟨⟨_, (w, (K717, B718, cs719, as720, wt721, wf722, r723)), rfl, ⟨rfl, hz746, hz747, hz748, hO⟩, by rw [ht99]; exact hP, hD, by rw [ht99]; exact hzz1, by rw [ht99]; exact hzz2⟩, hS.F ht99⟩) hS.2.2 dX0_value_165
  refine lv_tableOut (tgt := 292) hx hb dX0_value_4 (sw_out20 h1 h34 h67 h99 h131 h163 h195 h229 h261 h295 h327 h359 h405 h439 h487 h521 h555 h598 h677 h711) (by decide) ?_
  refine lv_aload_n hx hb dX0_value_292 rfl (lv_at hl 0 rfl) ?_
  refine lv_aload_n hx hb dX0_value_293 rfl (lv_at hl 1 rfl) ?_
  have hO : OKP G h0 a (upd (upd (upd (upd (upd (upd F 2 (nI sz)) 5 (nI cs)) 12 (nI vr)) 2 (nI sz)) 5 (nI cs)) 12 (nI vr)) (updR (updR (updR (updR R 2 (.ref pq)) 3 (.ref mq)) 2 (.ref pq)) 3 (.ref mq)) Z B J K w := hO.to rfl
  obtain ⟨_, qr752, hqr753⟩ := hO.2.1 24 _ (sg_24 G h0 a _ _ _ _ _)
  refine pn_V0 (G := G) (As := [.ref q]) (rest := []) hx hb hml hown hq hE hX pX0_al hP hD hS hA hl.1 (B_single l G h0 a (upd (upd (upd F 2 (nI sz)) 5 (nI cs)) 12 (nI vr)) (updR (updR R 2 (.ref pq)) 3 (.ref mq)) Z B J K w pq dr ml nd nm cp it s9 q mq cs vr sz n g rk (by omega) (BdE.wp BdE.rfl hwp) (BdE.pt BdE.rfl hwp hps) (BdE.rko BdE.rfl hrk) (by omega) (by omega) hng hmq hqT hqL hO hl0) (gV pw_267 pw_268 pw_269 pw_63 pw_168) hV_X0_single qr752 0 hqr753 rfl rfl rfl (Nat.le_of_ble_eq_true rfl) dX0_value_294 ⟨(by show 0 + 1 ≤ 1; omega), (by show 0 + 6 ≤ 6; omega)⟩ ⟨(by show (5 * n + 33) + 1 ≤ (5 * n + 34); omega), (by show 8 + (2 + 11) + (200 * n + 560) ≤ (200 * n + 600); omega)⟩ (fun v751 u749 H locs hw750 hP hD hS => ?_) (fun ux ce9 q9 H9 locs9 hux hP9 hD9 hS9 hce hcv hcl => pb_out ux (ThQ.up (Thx.same (Thx.same (Thx.same Thx.rfl rfl) rfl) rfl) (show RhX (updR (updR R 2 (.ref pq)) 3 (.ref mq)) (updR (updR (updR (updR R 2 (.ref pq)) 3 (.ref mq)) 2 (.ref pq)) 3 (.ref mq)) from fun k9 hk9 => by unfold updR; simp only [show ¬ k9 = 1 by omega, show ¬ k9 = 2 by omega, show ¬ k9 = 3 by omega, show ¬ k9 = 4 by omega, if_false]) hux) hnt hlocks hce hcv hcl hP9 hD9 hS9 (by show 0 + 1 ≤ 1; omega) (by show 0 + 6 ≤ 6; omega))
  obtain ⟨w, K754, B755, cs756, as757, wt758, wf759, r760⟩ := u749
  obtain ⟨hw750, h761, h762, h763, hO⟩ := hw750
  have h761 : BdE K K754 := h761
  have h762 : Bth B B755 := h762
  have h763 : cs756 ≤ 10000 := h763
  obtain rfl : v751 = some (.int r760) := hw750
  have hf764 : K754.1 pq = 7 := (BdE.T h761 hp1 (by decide))
  have hf765 : K754.2.2.1 18 pq = some (a 1) := (BdE.C h761 (by rw [hp1]; decide) 18).trans hp2
  have hf766 : K754.2.2.1 14 pq = some dr := (BdE.C h761 (by rw [hp1]; decide) 14).trans hp3
  have hf767 : K754.1 dr = 8 := (BdE.T h761 hp4 (by decide))
  have hf768 : K754.2.2.1 15 pq = some ml := (BdE.C h761 (by rw [hp1]; decide) 15).trans hp5
  have hf769 : K754.1 ml = 5 := (BdE.T h761 hp6 (by decide))
  have hf770 : K754.2.1 24 pq = (nI nd) := (BdE.I h761 (by rw [hp1]; decide) (by decide) (by decide)).trans hp8
  have hf771 : K754.1 q = 1 := (BdE.T h761 hqT (by decide))
  have hf772 : K754.1 mq = 3 := (BdE.T h761 hmq (by decide))
  have hf773 : K754.2.1 0 q = kd := (BdE.I h761 (by rw [hqT]; decide) (by decide) (by decide)).trans hkd
  have hO : OKP G h0 a (upd (upd (upd (upd (upd (upd F 2 (nI sz)) 5 (nI cs756)) 12 (nI vr)) 13 as757) 14 wt758) 15 wf759) (updR (updR R 2 (.ref pq)) 3 (.ref mq)) Z B755 J K754 w := hO.to rfl
  refine W.widen (k := 0) (n := 0) (by show 0 + 0 ≤ 0; omega) (by show 0 + 0 ≤ 0; omega) ?_
  refine W.eq (g2 := F0 m 297 ls [.int r760]) rfl ?_
  have hbe774 := BdE.trans BdE.rfl h761
  have hbb775 : Bth B B755 := Bth.trans (show Thx (upd (upd (upd F 2 (nI sz)) 5 (nI cs)) 12 (nI vr)) (upd (upd (upd F 2 (nI sz)) 5 (nI cs)) 12 (nI vr)) B B from Thx.rfl).2 h762
  have hng776 : Nng (B755 18) := h762.2 hng
  refine lv_istore_n (lv' := [(2, .int r760), (0, .ref (a 4)), (1, .ref q)]) hx hb dX0_value_297 rfl hl (by decide) rfl (fun ls hl => ?_)
  refine lv_aload_n hx hb dX0_value_298 rfl (lv_at hl 1 rfl) ?_
  refine lv_aload_n hx hb dX0_value_299 rfl (lv_at hl 1 rfl) ?_
  refine c_get (v := .int as757) (C := RX0) (Tc := TX0) (N := 13) (ci := 0) hx hb hq pin_wsX00 hown hE hP hO 24 (sg_24 G h0 a _ _ _ _ _) rfl 8 (by decide) (hq _ pw_55) (fun _ h9 => h9) rfl dX0_value_300 ?_
  refine c_put (v := .int as757) (ty := .int) (C := RX0) (Tc := TX0) (N := 13) (ci := 0) hx hb hq pin_wsX00 tyX0 tyX0_ok nmX0 hown hE hP hD hS hO 24 (sg_24 G h0 a _ _ _ _ _) rfl 9 (by decide) (hq _ pw_156) (fun _ h9 => h9) rfl (by decide +kernel) rfl rfl (Nat.le_of_ble_eq_true rfl) (sf_14 G h0 a _ _ _ _ _ as757) dX0_value_303 (fun H locs w hP hD hS hO => ?_)
  refine lv_aload_n hx hb dX0_value_306 rfl (lv_at hl 1 rfl) ?_
  refine lv_aload_n hx hb dX0_value_307 rfl (lv_at hl 1 rfl) ?_
  refine c_get (v := .int as757) (C := RX0) (Tc := TX0) (N := 13) (ci := 0) hx hb hq pin_wsX00 hown hE hP hO 24 (sg_24 G h0 a _ _ _ _ _) rfl 8 (by decide) (hq _ pw_55) (fun _ h9 => h9) rfl dX0_value_308 ?_
  refine c_put (v := .int as757) (ty := .int) (C := RX0) (Tc := TX0) (N := 13) (ci := 0) hx hb hq pin_wsX00 tyX0 tyX0_ok nmX0 hown hE hP hD hS hO 24 (sg_24 G h0 a _ _ _ _ _) rfl 10 (by decide) (hq _ pw_157) (fun _ h9 => h9) rfl (by decide +kernel) rfl rfl (Nat.le_of_ble_eq_true rfl) (sf_15 G h0 a _ _ _ _ _ as757) dX0_value_311 (fun H locs w hP hD hS hO => ?_)
  refine lv_iload_n hx hb dX0_value_314 rfl (lv_at hl 0 rfl) ?_
  refine W_size (fun hz1 hz2 => ?_)
  refine vx_ret ?_
  have hz777 : BdE K K754 := hbe774
  have hz778 : Bth B B755 := (show Thx (upd (upd (upd F 2 (nI sz)) 5 (nI cs)) 12 (nI vr)) (upd (upd (upd (upd (upd (upd (upd F 2 (nI sz)) 5 (nI cs)) 12 (nI vr)) 5 (nI cs756)) 13 as757) 14 as757) 15 as757) B B755 from (Thx.f (Thx.f (Thx.f (Thx.f (Bth.thx hbb775) (by omega)) (by omega)) (by omega)) (by omega))).2
  have hz779 : cs756 ≤ 10000 := (by omega)
  have hO : OKP G h0 a (upd (upd (upd (upd (upd (upd F 2 (nI sz)) 5 (nI cs756)) 12 (nI vr)) 13 as757) 14 as757) 15 as757) (updR (updR R 2 (.ref pq)) 3 (.ref mq)) Z B755 J K754 w := hO.to rfl
  refine W.widen (k := 1) (n := 6) (by omega) (by omega) ?_
  have hzz1 : H.size ≤ s.heap.size + (0) := (by have z : 0 ≤ 0 := (by omega); omega)
  have hzz2 : hSl H ≤ hSl s.heap + (0) := (by have z : 0 ≤ 0 := (by omega); omega)
  exact W.iret (v := r760) hx hb hr (fun t99 ht99 hW99 => ⟨⟨_, (w, (K754, B755, cs756, as757, as757, as757, r760)), rfl, ⟨rfl, hz777, hz778, hz779, hO⟩, by rw [ht99]; exact hP, hD, by rw [ht99]; exact hzz1, by rw [ht99]; exact hzz2⟩, hS.F ht99⟩) hS.2.2 dX0_value_315
theorem PV_step (l : Launch) (G : pT) (n : Nat) (ih : IhV l G n) : PVa l G n := fun h0 a F R Z B J K w pq dr ml nd nm cp it s9 q mq cs vr sz g rk hsz hwp hps hrk hcs hvr hng hmq hqT hqL hO hl0 => B_value0 l G h0 a F R Z B J K w pq dr ml nd nm cp it s9 q mq cs vr sz n g rk hsz hwp hps hrk hcs hvr hng hmq hqT hqL ih hO hl0
theorem PV_all (l : Launch) (G : pT) : ∀ n : Nat, PVa l G n
  | 0 => PV_step l G 0 (fun h => absurd h (by decide))
  | n + 1 => PV_step l G (n + 1) (fun _ => PV_all l G n)
theorem IhV.all (l : Launch) (G : pT) (n : Nat) : IhV l G n := fun _ => PV_all l G (n - 1)

theorem dX0_statement_32 : decode cX0_statement 32 = .ok (.aload_n 1, 1) := by decide +kernel
theorem dX0_statement_33 : decode cX0_statement 33 = .ok (.getfield 178, 3) := by decide +kernel
theorem dX0_statement_36 : decode cX0_statement 36 = .ok (.tableswitch 205 21 33 #[68, 124, 132, 179, 76, 84, 84, 92, 100, 100, 108, 116, 147], 68) := by decide +kernel
theorem dX0_statement_104 : decode cX0_statement 104 = .ok (.aload_n 0, 1) := by decide +kernel
theorem dX0_statement_105 : decode cX0_statement 105 = .ok (.aload_n 1, 1) := by decide +kernel
theorem dX0_statement_106 : decode cX0_statement 106 = .ok (.invokevirtual 77, 3) := by decide +kernel
theorem dX0_statement_109 : decode cX0_statement 109 = .ok (.goto 132, 3) := by decide +kernel
theorem dX0_statement_241 : decode cX0_statement 241 = .ok (.return_, 1) := by decide +kernel
theorem dX0_statement_160 : decode cX0_statement 160 = .ok (.aload_n 0, 1) := by decide +kernel
theorem dX0_statement_161 : decode cX0_statement 161 = .ok (.aload_n 1, 1) := by decide +kernel
theorem dX0_statement_162 : decode cX0_statement 162 = .ok (.invokevirtual 199, 3) := by decide +kernel
theorem dX0_statement_165 : decode cX0_statement 165 = .ok (.goto 76, 3) := by decide +kernel
theorem dX0_statement_168 : decode cX0_statement 168 = .ok (.aload_n 0, 1) := by decide +kernel
theorem dX0_statement_169 : decode cX0_statement 169 = .ok (.aload_n 1, 1) := by decide +kernel
theorem dX0_statement_170 : decode cX0_statement 170 = .ok (.getfield 165, 3) := by decide +kernel
theorem dX0_statement_173 : decode cX0_statement 173 = .ok (.aload_n 1, 1) := by decide +kernel
theorem dX0_statement_174 : decode cX0_statement 174 = .ok (.getfield 202, 3) := by decide +kernel
theorem dX0_statement_177 : decode cX0_statement 177 = .ok (.invokevirtual 205, 3) := by decide +kernel
theorem dX0_statement_180 : decode cX0_statement 180 = .ok (.goto 61, 3) := by decide +kernel
theorem dX0_statement_215 : decode cX0_statement 215 = .ok (.aload_n 0, 1) := by decide +kernel
theorem dX0_statement_216 : decode cX0_statement 216 = .ok (.aload_n 1, 1) := by decide +kernel
theorem dX0_statement_217 : decode cX0_statement 217 = .ok (.getfield 165, 3) := by decide +kernel
theorem dX0_statement_220 : decode cX0_statement 220 = .ok (.invokevirtual 209, 3) := by decide +kernel
theorem dX0_statement_223 : decode cX0_statement 223 = .ok (.bipush 63, 2) := by decide +kernel
theorem dX0_statement_225 : decode cX0_statement 225 = .ok (.if_icmp .eq 16, 3) := by decide +kernel
theorem dX0_statement_228 : decode cX0_statement 228 = .ok (.aload_n 0, 1) := by decide +kernel
theorem dX0_statement_229 : decode cX0_statement 229 = .ok (.getfield 15, 3) := by decide +kernel
theorem dX0_statement_232 : decode cX0_statement 232 = .ok (.iconst 5, 1) := by decide +kernel
theorem dX0_statement_233 : decode cX0_statement 233 = .ok (.iconst 0, 1) := by decide +kernel
theorem dX0_statement_234 : decode cX0_statement 234 = .ok (.iconst 0, 1) := by decide +kernel
theorem dX0_statement_235 : decode cX0_statement 235 = .ok (.invokevirtual 140, 3) := by decide +kernel
theorem dX0_statement_238 : decode cX0_statement 238 = .ok (.goto 3, 3) := by decide +kernel
theorem dX0_statement_112 : decode cX0_statement 112 = .ok (.aload_n 0, 1) := by decide +kernel
theorem dX0_statement_113 : decode cX0_statement 113 = .ok (.aload_n 1, 1) := by decide +kernel
theorem dX0_statement_114 : decode cX0_statement 114 = .ok (.invokevirtual 181, 3) := by decide +kernel
theorem dX0_statement_117 : decode cX0_statement 117 = .ok (.goto 124, 3) := by decide +kernel
theorem dX0_statement_120 : decode cX0_statement 120 = .ok (.aload_n 0, 1) := by decide +kernel
theorem dX0_statement_121 : decode cX0_statement 121 = .ok (.aload_n 1, 1) := by decide +kernel
theorem dX0_statement_122 : decode cX0_statement 122 = .ok (.invokevirtual 184, 3) := by decide +kernel
theorem dX0_statement_125 : decode cX0_statement 125 = .ok (.goto 116, 3) := by decide +kernel
theorem dX0_statement_128 : decode cX0_statement 128 = .ok (.aload_n 0, 1) := by decide +kernel
theorem dX0_statement_129 : decode cX0_statement 129 = .ok (.aload_n 1, 1) := by decide +kernel
theorem dX0_statement_130 : decode cX0_statement 130 = .ok (.invokevirtual 187, 3) := by decide +kernel
theorem dX0_statement_133 : decode cX0_statement 133 = .ok (.goto 108, 3) := by decide +kernel
theorem dX0_statement_136 : decode cX0_statement 136 = .ok (.aload_n 0, 1) := by decide +kernel
theorem dX0_statement_137 : decode cX0_statement 137 = .ok (.aload_n 1, 1) := by decide +kernel
theorem dX0_statement_138 : decode cX0_statement 138 = .ok (.invokevirtual 190, 3) := by decide +kernel
theorem dX0_statement_141 : decode cX0_statement 141 = .ok (.goto 100, 3) := by decide +kernel
theorem dX0_statement_144 : decode cX0_statement 144 = .ok (.aload_n 0, 1) := by decide +kernel
theorem dX0_statement_145 : decode cX0_statement 145 = .ok (.aload_n 1, 1) := by decide +kernel
theorem dX0_statement_146 : decode cX0_statement 146 = .ok (.invokevirtual 193, 3) := by decide +kernel
theorem dX0_statement_149 : decode cX0_statement 149 = .ok (.goto 92, 3) := by decide +kernel
theorem dX0_statement_152 : decode cX0_statement 152 = .ok (.aload_n 0, 1) := by decide +kernel
theorem dX0_statement_153 : decode cX0_statement 153 = .ok (.aload_n 1, 1) := by decide +kernel
theorem dX0_statement_154 : decode cX0_statement 154 = .ok (.invokevirtual 196, 3) := by decide +kernel
theorem dX0_statement_157 : decode cX0_statement 157 = .ok (.goto 84, 3) := by decide +kernel
theorem dX0_statement_183 : decode cX0_statement 183 = .ok (.aload_n 0, 1) := by decide +kernel
theorem dX0_statement_184 : decode cX0_statement 184 = .ok (.aload_n 1, 1) := by decide +kernel
theorem dX0_statement_185 : decode cX0_statement 185 = .ok (.getfield 165, 3) := by decide +kernel
theorem dX0_statement_188 : decode cX0_statement 188 = .ok (.aload_n 0, 1) := by decide +kernel
theorem dX0_statement_189 : decode cX0_statement 189 = .ok (.aload_n 1, 1) := by decide +kernel
theorem dX0_statement_190 : decode cX0_statement 190 = .ok (.getfield 165, 3) := by decide +kernel
theorem dX0_statement_193 : decode cX0_statement 193 = .ok (.invokevirtual 209, 3) := by decide +kernel
theorem dX0_statement_196 : decode cX0_statement 196 = .ok (.bipush 60, 2) := by decide +kernel
theorem dX0_statement_198 : decode cX0_statement 198 = .ok (.invokevirtual 213, 3) := by decide +kernel
theorem dX0_statement_201 : decode cX0_statement 201 = .ok (.aload_n 0, 1) := by decide +kernel
theorem dX0_statement_202 : decode cX0_statement 202 = .ok (.getfield 15, 3) := by decide +kernel
theorem dX0_statement_205 : decode cX0_statement 205 = .ok (.bipush 13, 2) := by decide +kernel
theorem dX0_statement_207 : decode cX0_statement 207 = .ok (.iconst 0, 1) := by decide +kernel
theorem dX0_statement_208 : decode cX0_statement 208 = .ok (.iconst 0, 1) := by decide +kernel
theorem dX0_statement_209 : decode cX0_statement 209 = .ok (.invokevirtual 140, 3) := by decide +kernel
theorem dX0_statement_212 : decode cX0_statement 212 = .ok (.goto 29, 3) := by decide +kernel
theorem dX0_statement_0 : decode cX0_statement 0 = .ok (.iload_n 2, 1) := by decide +kernel
theorem dX0_statement_1 : decode cX0_statement 1 = .ok (.ifCond .eq 31, 3) := by decide +kernel
theorem dX0_statement_4 : decode cX0_statement 4 = .ok (.aload_n 1, 1) := by decide +kernel
theorem dX0_statement_5 : decode cX0_statement 5 = .ok (.getfield 178, 3) := by decide +kernel
theorem dX0_statement_8 : decode cX0_statement 8 = .ok (.bipush 21, 2) := by decide +kernel
theorem dX0_statement_10 : decode cX0_statement 10 = .ok (.if_icmp .eq 22, 3) := by decide +kernel
theorem dX0_statement_13 : decode cX0_statement 13 = .ok (.aload_n 1, 1) := by decide +kernel
theorem dX0_statement_14 : decode cX0_statement 14 = .ok (.getfield 178, 3) := by decide +kernel
theorem dX0_statement_17 : decode cX0_statement 17 = .ok (.bipush 34, 2) := by decide +kernel
theorem dX0_statement_19 : decode cX0_statement 19 = .ok (.if_icmp .eq 13, 3) := by decide +kernel
theorem dX0_statement_22 : decode cX0_statement 22 = .ok (.aload_n 0, 1) := by decide +kernel
theorem dX0_statement_23 : decode cX0_statement 23 = .ok (.getfield 15, 3) := by decide +kernel
theorem dX0_statement_26 : decode cX0_statement 26 = .ok (.iconst 0, 1) := by decide +kernel
theorem dX0_statement_27 : decode cX0_statement 27 = .ok (.iconst 0, 1) := by decide +kernel
theorem dX0_statement_28 : decode cX0_statement 28 = .ok (.iconst 0, 1) := by decide +kernel
theorem dX0_statement_29 : decode cX0_statement 29 = .ok (.invokevirtual 140, 3) := by decide +kernel
theorem hV_X0_local : yX0_local.cls = RX0 ∧ yX0_local.cls ≠ "java/lang/invoke/MethodHandle" ∧ yX0_local.cls ≠ "java/lang/invoke/VarHandle" ∧ (parseMethodDescriptor yX0_local.desc).map (fun d => d.parameters.length) = some 1 := by decide +kernel
theorem hV_X0_assign : yX0_assign.cls = RX0 ∧ yX0_assign.cls ≠ "java/lang/invoke/MethodHandle" ∧ yX0_assign.cls ≠ "java/lang/invoke/VarHandle" ∧ (parseMethodDescriptor yX0_assign.desc).map (fun d => d.parameters.length) = some 2 := by decide +kernel
theorem hV_X0_ifStatement : yX0_ifStatement.cls = RX0 ∧ yX0_ifStatement.cls ≠ "java/lang/invoke/MethodHandle" ∧ yX0_ifStatement.cls ≠ "java/lang/invoke/VarHandle" ∧ (parseMethodDescriptor yX0_ifStatement.desc).map (fun d => d.parameters.length) = some 1 := by decide +kernel
theorem hV_X0_loopStatement : yX0_loopStatement.cls = RX0 ∧ yX0_loopStatement.cls ≠ "java/lang/invoke/MethodHandle" ∧ yX0_loopStatement.cls ≠ "java/lang/invoke/VarHandle" ∧ (parseMethodDescriptor yX0_loopStatement.desc).map (fun d => d.parameters.length) = some 1 := by decide +kernel
theorem hV_X0_returnStatement : yX0_returnStatement.cls = RX0 ∧ yX0_returnStatement.cls ≠ "java/lang/invoke/MethodHandle" ∧ yX0_returnStatement.cls ≠ "java/lang/invoke/VarHandle" ∧ (parseMethodDescriptor yX0_returnStatement.desc).map (fun d => d.parameters.length) = some 1 := by decide +kernel
theorem hV_X0_jumpStatement : yX0_jumpStatement.cls = RX0 ∧ yX0_jumpStatement.cls ≠ "java/lang/invoke/MethodHandle" ∧ yX0_jumpStatement.cls ≠ "java/lang/invoke/VarHandle" ∧ (parseMethodDescriptor yX0_jumpStatement.desc).map (fun d => d.parameters.length) = some 1 := by decide +kernel
theorem hV_X0_throwStatement : yX0_throwStatement.cls = RX0 ∧ yX0_throwStatement.cls ≠ "java/lang/invoke/MethodHandle" ∧ yX0_throwStatement.cls ≠ "java/lang/invoke/VarHandle" ∧ (parseMethodDescriptor yX0_throwStatement.desc).map (fun d => d.parameters.length) = some 1 := by decide +kernel
theorem hV_X0_tryStatement : yX0_tryStatement.cls = RX0 ∧ yX0_tryStatement.cls ≠ "java/lang/invoke/MethodHandle" ∧ yX0_tryStatement.cls ≠ "java/lang/invoke/VarHandle" ∧ (parseMethodDescriptor yX0_tryStatement.desc).map (fun d => d.parameters.length) = some 1 := by decide +kernel
set_option maxHeartbeats 80000000 in
set_option maxRecDepth 100000 in
theorem B_statement0 (l : Launch) (G : pT) (h0 : Nat) (a : Nat → Nat) (F : Nat → Int32) (R : Nat → Value) (Z : Int64) (B : Nat → Nat → Int32) (J : Nat → Nat → Int64) (K : PK) (w : va_W) (pq : Nat) (dr : Nat) (ml : Nat) (nd : Nat) (nm : Nat) (cp : Nat) (it : Nat → Nat) (s9 : Nat) (q : Nat) (mq : Nat) (cs : Nat) (vr : Nat) (sz : Nat) (n : Nat) (tf : Nat) (hd : Nat) (dp : Nat) (rg : Nat) (ls9 : Int32) (lo : Option Nat) (g : Nat → Nat → Nat) (rk : Nat → Nat) (hsz : sz ≤ 5000) (hwp : WPr G K g) (hps : PgT G K g (a 1) pq dr ml nd nm cp it s9) (hrk : RkO K rk) (hcs : cs ≤ 10000) (hvr : vr ≤ 30) (hng : Nng (B 18)) (hmq : K.1 mq = 3) (hqT : K.1 q = 1) (hqL : 1 ≤ g 0 q ∧ g 0 q ≤ n) (hdp : dp ≤ 1000) (hrg : rg ≤ 625) (hhd : hd + 2 * n + 30 ≤ 900 + vr) (hlo : LpO K lo) (htf : tf ≤ 1) (ist : IhT l G n) (ihv : IhV l G n) (hO : OKP G h0 a (upd (upd (upd (upd (upd (upd (upd F 2 (nI sz)) 5 (nI cs)) 6 (nI rg)) 7 (nI hd)) 8 (nI dp)) 12 (nI vr)) 16 ls9) (updR (updR (updR R 2 (.ref pq)) 3 (.ref mq)) 4 (va_rf lo)) Z B J K w) (hl0 : l.stackTraces = false) : PBn l G pX0 yX0_statement cX0_statement 3 none ({ frames := (5 * n + 50), cells := ((rE (g 2 q) - rS (g 2 q)) + 1), slots := (6 * (rE (g 2 q) - rS (g 2 q)) + 6), locals := (200 * n + 1200) }) [.ref (a 4), .ref q, .int (nI tf)] w (fun (v : Option Value) (u : va_W × (PK × (Nat → Nat → Int32) × Nat × Int32 × Int32 × Int32 × Nat × Nat × Nat × Nat × Int32)) => v = none ∧ (BdE K u.2.1) ∧ (Bth B u.2.2.1) ∧ (u.2.2.2.1 ≤ 10000 ∧ u.2.2.2.2.2.2.2.2.2.2.1 ≤ 625 ∧ u.2.2.2.2.2.2.2.2.2.1 ≤ 1000) ∧ (vr ≤ u.2.2.2.2.2.2.2.1 ∧ u.2.2.2.2.2.2.2.1 ≤ 30 ∧ u.2.2.2.2.2.2.2.2.1 + vr = hd + u.2.2.2.2.2.2.2.1) ∧ (OKP G h0 a (upd (upd (upd (upd (upd (upd (upd (upd (upd (upd F 2 (nI sz)) 5 (nI u.2.2.2.1)) 6 (nI u.2.2.2.2.2.2.2.2.2.2.1)) 7 (nI u.2.2.2.2.2.2.2.2.1)) 8 (nI u.2.2.2.2.2.2.2.2.2.1)) 12 (nI u.2.2.2.2.2.2.2.1)) 13 u.2.2.2.2.1) 14 u.2.2.2.2.2.1) 15 u.2.2.2.2.2.2.1) 16 u.2.2.2.2.2.2.2.2.2.2.2) (updR (updR (updR R 2 (.ref pq)) 3 (.ref mq)) 4 (va_rf lo)) Z u.2.2.1 J u.2.1 u.1)) (fun u => u.1) (fun (u : va_W × (PK × (Nat → Nat → Int32) × Nat × Int32 × Int32 × Int32 × Nat × Nat × Nat × Nat × Int32)) => (rE (g 2 q) - rS (g 2 q))) (fun (u : va_W × (PK × (Nat → Nat → Int32) × Nat × Int32 × Int32 × Int32 × Nat × Nat × Nat × Nat × Int32)) => (6 * (rE (g 2 q) - rS (g 2 q)))) (fun (u : va_W × (Nat → Int32) × (Nat → Value) × (Nat → Nat → Int32)) => ThQ G h0 a (upd (upd (upd (upd (upd (upd (upd F 2 (nI sz)) 5 (nI cs)) 6 (nI rg)) 7 (nI hd)) 8 (nI dp)) 12 (nI vr)) 16 ls9) Z B J u) (fun u => u.1) := by
  intro sz
  refine vx_ofW (cc := cX0_statement) (maxL := 3) (ret := none) (by decide) rfl ?_
  intro p e s m args below meth c s₁ B9 hml hnt hv
  obtain ⟨rfl, hsz, hP, hD0, hE, hX⟩ := hv
  have hx := B9.exec
  have hb := B9.bytes
  have hr := B9.returns
  have hts := atoms_spec (ws := Cond.code yX0_statement cX0_statement 3 none :: pw) B9.pre
  have hq : ∀ w ∈ pw, w.before _ s = true := fun w h => hts w (List.mem_cons_of_mem _ h)
  have hown : s.vm.findClass RX0 = some m.cls := findClass_of_methodNamed B9.named
  have hlocks := B9.notSynchronized
  subst hsz
  have hD := hD0.self (sz := s.heap.size)
  have hA : ∀ q : Nat, s.heap.size ≤ q → va_A w s.heap.size q := fun q h => Or.inr h
  generalize va_A w s.heap.size = A at hD hE hA ⊢
  have hS : va_S A s.heap s.heap [] := va_S.rf
  have hl := lv_entry ([.ref (a 4), .ref q, .int (nI tf)]) (n := 3) (Nat.le_of_ble_eq_true rfl)
  rw [lg_entry_eq]
  generalize (lg_sl ([.ref (a 4), .ref q, .int (nI tf)]) ++ List.replicate (3 - (lg_sl ([.ref (a 4), .ref q, .int (nI tf)])).length) Slot.unset).toArray = ls at hl ⊢
  have hl : lv_has ls 3 [(0, .ref (a 4)), (1, .ref q), (2, .int (nI tf))] := hl
  have hpg := hps.1
  have hp1 := hpg.1
  have hp2 := hpg.2.1
  have hp3 := hpg.2.2.1
  have hp4 := hpg.2.2.2.1
  have hp5 := hpg.2.2.2.2.1
  have hp6 := hpg.2.2.2.2.2.1
  have hp8 := hpg.2.2.2.2.2.2.2.1
  have hp9 := hpg.2.2.2.2.2.2.2.2
  obtain ⟨kd, hkd⟩ : ∃ z : Int32, K.2.1 0 q = z := ⟨_, rfl⟩
  have hnd := hwp.1 q hqT hqL.1
  have cut_d : ∀ (B2 : Nat → Nat → Int32) (cs2 : Nat) (H : Heap) (locs : List Loc) (ls : Array Slot) (w : va_W), (Bth B B2) → (Nng (B2 18)) → (cs2 ≤ 10000) → va_P G.1 pCl w H → va_D A w → va_S A s.heap H locs → OKP G h0 a (upd (upd (upd (upd (upd (upd (upd F 2 (nI sz)) 5 (nI cs2)) 6 (nI rg)) 7 (nI hd)) 8 (nI dp)) 12 (nI vr)) 16 ls9) (updR (updR (updR R 2 (.ref pq)) 3 (.ref mq)) 4 (va_rf lo)) Z B2 J K w → lv_has ls 3 [(2, .int (nI tf)), (1, .ref q), (0, .ref (a 4))] → W p l e (headSpec (Cond.code yX0_statement cX0_statement 3 none :: pw) ({ frames := (5 * n + 50), cells := ((rE (g 2 q) - rS (g 2 q)) + 1), slots := (6 * (rE (g 2 q) - rS (g 2 q)) + 6), locals := (200 * n + 1200) } : Room)).room s m ([.ref (a 4), .ref q, .int (nI tf)] : List Value).toArray below meth c H locs 0 0 (vx_MQ below (pQn G A (fun (v : Option Value) (u : va_W × (PK × (Nat → Nat → Int32) × Nat × Int32 × Int32 × Int32 × Nat × Nat × Nat × Nat × Int32)) => v = none ∧ (BdE K u.2.1) ∧ (Bth B u.2.2.1) ∧ (u.2.2.2.1 ≤ 10000 ∧ u.2.2.2.2.2.2.2.2.2.2.1 ≤ 625 ∧ u.2.2.2.2.2.2.2.2.2.1 ≤ 1000) ∧ (vr ≤ u.2.2.2.2.2.2.2.1 ∧ u.2.2.2.2.2.2.2.1 ≤ 30 ∧ u.2.2.2.2.2.2.2.2.1 + vr = hd + u.2.2.2.2.2.2.2.1) ∧ (OKP G h0 a (upd (upd (upd (upd (upd (upd (upd (upd (upd (upd F 2 (nI sz)) 5 (nI u.2.2.2.1)) 6 (nI u.2.2.2.2.2.2.2.2.2.2.1)) 7 (nI u.2.2.2.2.2.2.2.2.1)) 8 (nI u.2.2.2.2.2.2.2.2.2.1)) 12 (nI u.2.2.2.2.2.2.2.1)) 13 u.2.2.2.2.1) 14 u.2.2.2.2.2.1) 15 u.2.2.2.2.2.2.1) 16 u.2.2.2.2.2.2.2.2.2.2.2) (updR (updR (updR R 2 (.ref pq)) 3 (.ref mq)) 4 (va_rf lo)) Z u.2.2.1 J u.2.1 u.1)) (fun u => u.1) (fun (u : va_W × (PK × (Nat → Nat → Int32) × Nat × Int32 × Int32 × Int32 × Nat × Nat × Nat × Nat × Int32)) => (rE (g 2 q) - rS (g 2 q))) (fun (u : va_W × (PK × (Nat → Nat → Int32) × Nat × Int32 × Int32 × Int32 × Nat × Nat × Nat × Nat × Int32)) => (6 * (rE (g 2 q) - rS (g 2 q))))) (pXX G A (fun (u : va_W × (Nat → Int32) × (Nat → Value) × (Nat → Nat → Int32)) => ThQ G h0 a (upd (upd (upd (upd (upd (upd (upd F 2 (nI sz)) 5 (nI cs)) 6 (nI rg)) 7 (nI hd)) 8 (nI dp)) 12 (nI vr)) 16 ls9) Z B J u) (fun u => u.1)) ([.ref (a 4), .ref q, .int (nI tf)] : List Value).toArray s ({ frames := (5 * n + 50), cells := ((rE (g 2 q) - rS (g 2 q)) + 1), slots := (6 * (rE (g 2 q) - rS (g 2 q)) + 6), locals := (200 * n + 1200) } : Room).cells ({ frames := (5 * n + 50), cells := ((rE (g 2 q) - rS (g 2 q)) + 1), slots := (6 * (rE (g 2 q) - rS (g 2 q)) + 6), locals := (200 * n + 1200) } : Room).slots A) (F0 m 32 ls []) := by
    intro B2 cs2 H locs ls w hbb2 hng2 hcs2 hP hD hS hO hl
    refine lv_aload_n hx hb dX0_statement_32 rfl (lv_at hl 1 rfl) ?_
    refine p_get (v := .int kd) (C := RX7) (Tc := TX7) (N := 11) (ci := 13) hx hb hq pin_wsX70 hown hE hP hO (by rw [hqT]; decide) (rep_1 hqT) rfl 0 (by decide) (hq _ pw_166) (fun _ h9 => h9) (congrArg (fun z => some (Value.int z)) hkd) dX0_statement_33 ?_
    by_cases h1 : kd = 21
    · subst h1
      refine lv_tableIn (tgt := 104) (off := 68) hx hb dX0_statement_36 (by decide) (by decide) (by decide) (by decide) ?_
      refine lv_aload_n hx hb dX0_statement_104 rfl (lv_at hl 2 rfl) ?_
      refine lv_aload_n hx hb dX0_statement_105 rfl (lv_at hl 1 rfl) ?_
      have hO : OKP G h0 a (upd (upd (upd (upd (upd (upd (upd (upd (upd (upd (upd (upd (upd (upd (upd F 2 (nI sz)) 5 (nI cs)) 6 (nI rg)) 7 (nI hd)) 8 (nI dp)) 12 (nI vr)) 16 ls9) 5 (nI cs2)) 2 (nI sz)) 5 (nI cs2)) 6 (nI rg)) 7 (nI hd)) 8 (nI dp)) 12 (nI vr)) 16 ls9) (updR (updR (updR (updR (updR (updR R 2 (.ref pq)) 3 (.ref mq)) 4 (va_rf lo)) 2 (.ref pq)) 3 (.ref mq)) 4 (va_rf lo)) Z B2 J K w := hO.to rfl
      obtain ⟨_, qr5, hqr6⟩ := hO.2.1 24 _ (sg_24 G h0 a _ _ _ _ _)
      refine pn_V0 (G := G) (As := [.ref q]) (rest := []) hx hb hml hown hq hE hX pX0_al hP hD hS hA hl.1 (B_block l G h0 a (upd (upd (upd (upd (upd (upd (upd (upd F 2 (nI sz)) 5 (nI cs)) 6 (nI rg)) 7 (nI hd)) 8 (nI dp)) 12 (nI vr)) 16 ls9) 5 (nI cs2)) (updR (updR (updR R 2 (.ref pq)) 3 (.ref mq)) 4 (va_rf lo)) Z B2 J K w pq dr ml nd nm cp it s9 q mq cs2 vr sz n hd dp rg ls9 lo g rk (by omega) (BdE.wp BdE.rfl hwp) (BdE.pt BdE.rfl hwp hps) (BdE.rko BdE.rfl hrk) (by omega) (by omega) hng2 hmq hqT hqL (by omega) (by omega) (by omega) (LpO.be BdE.rfl hlo) hkd ist (IhV.all l G _) hO hl0) (gV pw_307 pw_308 pw_309 pw_63 pw_358) hV_X0_block qr5 0 hqr6 rfl rfl rfl (Nat.le_of_ble_eq_true rfl) dX0_statement_106 ⟨(by show 0 + ((rE (g 2 q) - rS (g 2 q) - 2) + 1) ≤ ((rE (g 2 q) - rS (g 2 q)) + 1); omega), (by show 0 + (6 * (rE (g 2 q) - rS (g 2 q) - 2) + 6) ≤ (6 * (rE (g 2 q) - rS (g 2 q)) + 6); omega)⟩ ⟨(by show (5 * n + 46) + 1 ≤ (5 * n + 50); omega), (by show 8 + (5 + 11) + (200 * n + 1120) ≤ (200 * n + 1200); omega)⟩ (fun v4 u2 H locs hw3 hP hD hS => ?_) (fun ux ce9 q9 H9 locs9 hux hP9 hD9 hS9 hce hcv hcl => pb_out ux (ThQ.up (Thx.same (Thx.same (Thx.same (Thx.same (Thx.same (Thx.same (Thx.same (Thx.f (Bth.thx hbb2) (by omega)) rfl) rfl) rfl) rfl) rfl) rfl) rfl) hux) hnt hlocks hce hcv hcl hP9 hD9 hS9 (by show 0 + ((rE (g 2 q) - rS (g 2 q) - 2) + 1) ≤ ((rE (g 2 q) - rS (g 2 q)) + 1); omega) (by show 0 + (6 * (rE (g 2 q) - rS (g 2 q) - 2) + 6) ≤ (6 * (rE (g 2 q) - rS (g 2 q)) + 6); omega))
      obtain ⟨w, K7, B8, cs9, as10, wt11, wf12, vr13, hd14, dp15, rg16, ls17⟩ := u2
      obtain ⟨hw3, h18, h19, h20, h21, hO⟩ := hw3
      have h18 : BdE K K7 := h18
      have h19 : Bth B2 B8 := h19
      have h20 : cs9 ≤ 10000 ∧ rg16 ≤ 625 ∧ dp15 ≤ 1000 := h20
      have h21 : vr ≤ vr13 ∧ vr13 ≤ 30 ∧ hd14 + vr = hd + vr13 := h21
      obtain rfl : v4 = none := hw3
      have hf22 : K7.1 pq = 7 := (BdE.T h18 hp1 (by decide))
      have hf23 : K7.2.2.1 18 pq = some (a 1) := (BdE.C h18 (by rw [hp1]; decide) 18).trans hp2
      have hf24 : K7.2.2.1 14 pq = some dr := (BdE.C h18 (by rw [hp1]; decide) 14).trans hp3
      have hf25 : K7.1 dr = 8 := (BdE.T h18 hp4 (by decide))
      have hf26 : K7.2.2.1 15 pq = some ml := (BdE.C h18 (by rw [hp1]; decide) 15).trans hp5
      have hf27 : K7.1 ml = 5 := (BdE.T h18 hp6 (by decide))
      have hf28 : K7.2.1 24 pq = (nI nd) := (BdE.I h18 (by rw [hp1]; decide) (by decide) (by decide)).trans hp8
      have hf29 : K7.1 q = 1 := (BdE.T h18 hqT (by decide))
      have hf30 : K7.1 mq = 3 := (BdE.T h18 hmq (by decide))
      have hf31 : K7.2.1 0 q = 21 := (BdE.I h18 (by rw [hqT]; decide) (by decide) (by decide)).trans hkd
      have hO : OKP G h0 a (upd (upd (upd (upd (upd (upd (upd (upd (upd (upd F 2 (nI sz)) 5 (nI cs9)) 6 (nI rg16)) 7 (nI hd14)) 8 (nI dp15)) 12 (nI vr13)) 13 as10) 14 wt11) 15 wf12) 16 ls17) (updR (updR (updR R 2 (.ref pq)) 3 (.ref mq)) 4 (va_rf lo)) Z B8 J K7 w := hO.to rfl
      refine W.widen (k := (rE (g 2 q) - rS (g 2 q) - 2)) (n := (6 * (rE (g 2 q) - rS (g 2 q) - 2))) (by show 0 + (rE (g 2 q) - rS (g 2 q) - 2) ≤ (rE (g 2 q) - rS (g 2 q) - 2); omega) (by show 0 + (6 * (rE (g 2 q) - rS (g 2 q) - 2)) ≤ (6 * (rE (g 2 q) - rS (g 2 q) - 2)); omega) ?_
      refine W.eq (g2 := F0 m 109 ls []) rfl ?_
      have hbe32 := BdE.trans BdE.rfl h18
      have hbb33 : Bth B B8 := Bth.trans (show Thx (upd (upd (upd (upd (upd (upd (upd F 2 (nI sz)) 5 (nI cs)) 6 (nI rg)) 7 (nI hd)) 8 (nI dp)) 12 (nI vr)) 16 ls9) (upd (upd (upd (upd (upd (upd (upd (upd F 2 (nI sz)) 5 (nI cs)) 6 (nI rg)) 7 (nI hd)) 8 (nI dp)) 12 (nI vr)) 16 ls9) 5 (nI cs2)) B B2 from (Thx.f (Bth.thx hbb2) (by omega))).2 h19
      have hng34 : Nng (B8 18) := h19.2 hng2
      refine lv_goto (tgt := 241) hx hb dX0_statement_109 (by decide) ?_
      refine W_size (fun hz1 hz2 => ?_)
      refine vx_ret ?_
      have hz35 : BdE K K7 := hbe32
      have hz36 : Bth B B8 := (show Thx (upd (upd (upd (upd (upd (upd (upd F 2 (nI sz)) 5 (nI cs)) 6 (nI rg)) 7 (nI hd)) 8 (nI dp)) 12 (nI vr)) 16 ls9) (upd (upd (upd (upd (upd (upd (upd (upd (upd (upd (upd (upd (upd (upd (upd (upd F 2 (nI sz)) 5 (nI cs)) 6 (nI rg)) 7 (nI hd)) 8 (nI dp)) 12 (nI vr)) 16 ls9) 5 (nI cs9)) 6 (nI rg16)) 7 (nI hd14)) 8 (nI dp15)) 12 (nI vr13)) 13 as10) 14 wt11) 15 wf12) 16 ls17) B B8 from (Thx.f (Thx.f (Thx.f (Thx.f (Thx.f (Thx.f (Thx.f (Thx.f (Thx.f (Bth.thx hbb33) (by omega)) (by omega)) (by omega)) (by omega)) (by omega)) (by omega)) (by omega)) (by omega)) (by omega))).2
      have hz37 : cs9 ≤ 10000 ∧ rg16 ≤ 625 ∧ dp15 ≤ 1000 := (by omega)
      have hz38 : vr ≤ vr13 ∧ vr13 ≤ 30 ∧ hd14 + vr = hd + vr13 := (by omega)
      have hO : OKP G h0 a (upd (upd (upd (upd (upd (upd (upd (upd (upd (upd F 2 (nI sz)) 5 (nI cs9)) 6 (nI rg16)) 7 (nI hd14)) 8 (nI dp15)) 12 (nI vr13)) 13 as10) 14 wt11) 15 wf12) 16 ls17) (updR (updR (updR R 2 (.ref pq)) 3 (.ref mq)) 4 (va_rf lo)) Z B8 J K7 w := hO.to rfl
      refine W.widen (k := ((rE (g 2 q) - rS (g 2 q)) + 1)) (n := (6 * (rE (g 2 q) - rS (g 2 q)) + 6)) (by omega) (by omega) ?_
      have hzz1 : H.size ≤ s.heap.size + ((rE (g 2 q) - rS (g 2 q))) := (by have z : (rE (g 2 q) - rS (g 2 q) - 2) ≤ (rE (g 2 q) - rS (g 2 q)) := (by omega); omega)
      have hzz2 : hSl H ≤ hSl s.heap + ((6 * (rE (g 2 q) - rS (g 2 q)))) := (by have z : (6 * (rE (g 2 q) - rS (g 2 q) - 2)) ≤ (6 * (rE (g 2 q) - rS (g 2 q))) := (by omega); omega)
      exact W.vret hx hb hr (fun t99 ht99 hW99 => ⟨⟨_, (w, (K7, B8, cs9, as10, wt11, wf12, vr13, hd14, dp15, rg16, ls17)), rfl, ⟨rfl, hz35, hz36, hz37, hz38, hO⟩, by rw [ht99]; exact hP, hD, by rw [ht99]; exact hzz1, by rw [ht99]; exact hzz2⟩, hS.F ht99⟩) hS.2.2 dX0_statement_241
    by_cases h39 : kd = 22
    · subst h39
      refine lv_tableIn (tgt := 160) (off := 124) hx hb dX0_statement_36 (by decide) (by decide) (by decide) (by decide) ?_
      refine lv_aload_n hx hb dX0_statement_160 rfl (lv_at hl 2 rfl) ?_
      refine lv_aload_n hx hb dX0_statement_161 rfl (lv_at hl 1 rfl) ?_
      have hO : OKP G h0 a (upd (upd (upd (upd (upd (upd (upd (upd (upd (upd (upd (upd (upd (upd (upd F 2 (nI sz)) 5 (nI cs)) 6 (nI rg)) 7 (nI hd)) 8 (nI dp)) 12 (nI vr)) 16 ls9) 5 (nI cs2)) 2 (nI sz)) 5 (nI cs2)) 6 (nI rg)) 7 (nI hd)) 8 (nI dp)) 12 (nI vr)) 16 ls9) (updR (updR (updR (updR (updR (updR R 2 (.ref pq)) 3 (.ref mq)) 4 (va_rf lo)) 2 (.ref pq)) 3 (.ref mq)) 4 (va_rf lo)) Z B2 J K w := hO.to rfl
      obtain ⟨_, qr43, hqr44⟩ := hO.2.1 24 _ (sg_24 G h0 a _ _ _ _ _)
      refine pn_V0 (G := G) (As := [.ref q]) (rest := []) hx hb hml hown hq hE hX pX0_al hP hD hS hA hl.1 (B_local l G h0 a (upd (upd (upd (upd (upd (upd (upd (upd F 2 (nI sz)) 5 (nI cs)) 6 (nI rg)) 7 (nI hd)) 8 (nI dp)) 12 (nI vr)) 16 ls9) 5 (nI cs2)) (updR (updR (updR R 2 (.ref pq)) 3 (.ref mq)) 4 (va_rf lo)) Z B2 J K w pq dr ml nd nm cp it s9 q mq cs2 vr sz n hd dp rg ls9 lo g rk (by omega) (BdE.wp BdE.rfl hwp) (BdE.pt BdE.rfl hwp hps) (BdE.rko BdE.rfl hrk) (by omega) (by omega) hng2 hmq hqT hqL (by omega) (by omega) (by omega) (LpO.be BdE.rfl hlo) (IhV.all l G _) hO hl0) (gV pw_342 pw_343 pw_344 pw_63 pw_288) hV_X0_local qr43 0 hqr44 rfl rfl rfl (Nat.le_of_ble_eq_true rfl) dX0_statement_162 ⟨(by show 0 + 1 ≤ ((rE (g 2 q) - rS (g 2 q)) + 1); omega), (by show 0 + 6 ≤ (6 * (rE (g 2 q) - rS (g 2 q)) + 6); omega)⟩ ⟨(by show (5 * n + 33) + 1 ≤ (5 * n + 50); omega), (by show 8 + (5 + 11) + (200 * n + 560) ≤ (200 * n + 1200); omega)⟩ (fun v42 u40 H locs hw41 hP hD hS => ?_) (fun ux ce9 q9 H9 locs9 hux hP9 hD9 hS9 hce hcv hcl => pb_out ux (ThQ.up (Thx.same (Thx.same (Thx.same (Thx.same (Thx.same (Thx.same (Thx.same (Thx.f (Bth.thx hbb2) (by omega)) rfl) rfl) rfl) rfl) rfl) rfl) rfl) hux) hnt hlocks hce hcv hcl hP9 hD9 hS9 (by show 0 + 1 ≤ ((rE (g 2 q) - rS (g 2 q)) + 1); omega) (by show 0 + 6 ≤ (6 * (rE (g 2 q) - rS (g 2 q)) + 6); omega))
      obtain ⟨w, K45, B46, cs47, as48, wt49, wf50, vr51, hd52, dp53, rg54, ls55⟩ := u40
      obtain ⟨hw41, h56, h57, h58, h59, hO⟩ := hw41
      have h56 : BdE K K45 := h56
      have h57 : Bth B2 B46 := h57
      have h58 : cs47 ≤ 10000 ∧ rg54 ≤ 625 ∧ dp53 ≤ 1000 := h58
      have h59 : vr ≤ vr51 ∧ vr51 ≤ 30 ∧ hd52 + vr = hd + vr51 := h59
      obtain rfl : v42 = none := hw41
      have hf60 : K45.1 pq = 7 := (BdE.T h56 hp1 (by decide))
      have hf61 : K45.2.2.1 18 pq = some (a 1) := (BdE.C h56 (by rw [hp1]; decide) 18).trans hp2
      have hf62 : K45.2.2.1 14 pq = some dr := (BdE.C h56 (by rw [hp1]; decide) 14).trans hp3
      have hf63 : K45.1 dr = 8 := (BdE.T h56 hp4 (by decide))
      have hf64 : K45.2.2.1 15 pq = some ml := (BdE.C h56 (by rw [hp1]; decide) 15).trans hp5
      have hf65 : K45.1 ml = 5 := (BdE.T h56 hp6 (by decide))
      have hf66 : K45.2.1 24 pq = (nI nd) := (BdE.I h56 (by rw [hp1]; decide) (by decide) (by decide)).trans hp8
      have hf67 : K45.1 q = 1 := (BdE.T h56 hqT (by decide))
      have hf68 : K45.1 mq = 3 := (BdE.T h56 hmq (by decide))
      have hf69 : K45.2.1 0 q = 22 := (BdE.I h56 (by rw [hqT]; decide) (by decide) (by decide)).trans hkd
      have hO : OKP G h0 a (upd (upd (upd (upd (upd (upd (upd (upd (upd (upd F 2 (nI sz)) 5 (nI cs47)) 6 (nI rg54)) 7 (nI hd52)) 8 (nI dp53)) 12 (nI vr51)) 13 as48) 14 wt49) 15 wf50) 16 ls55) (updR (updR (updR R 2 (.ref pq)) 3 (.ref mq)) 4 (va_rf lo)) Z B46 J K45 w := hO.to rfl
      refine W.widen (k := 0) (n := 0) (by show 0 + 0 ≤ 0; omega) (by show 0 + 0 ≤ 0; omega) ?_
      refine W.eq (g2 := F0 m 165 ls []) rfl ?_
      have hbe70 := BdE.trans BdE.rfl h56
      have hbb71 : Bth B B46 := Bth.trans (show Thx (upd (upd (upd (upd (upd (upd (upd F 2 (nI sz)) 5 (nI cs)) 6 (nI rg)) 7 (nI hd)) 8 (nI dp)) 12 (nI vr)) 16 ls9) (upd (upd (upd (upd (upd (upd (upd (upd F 2 (nI sz)) 5 (nI cs)) 6 (nI rg)) 7 (nI hd)) 8 (nI dp)) 12 (nI vr)) 16 ls9) 5 (nI cs2)) B B2 from (Thx.f (Bth.thx hbb2) (by omega))).2 h57
      have hng72 : Nng (B46 18) := h57.2 hng2
      refine lv_goto (tgt := 241) hx hb dX0_statement_165 (by decide) ?_
      refine W_size (fun hz1 hz2 => ?_)
      refine vx_ret ?_
      have hz73 : BdE K K45 := hbe70
      have hz74 : Bth B B46 := (show Thx (upd (upd (upd (upd (upd (upd (upd F 2 (nI sz)) 5 (nI cs)) 6 (nI rg)) 7 (nI hd)) 8 (nI dp)) 12 (nI vr)) 16 ls9) (upd (upd (upd (upd (upd (upd (upd (upd (upd (upd (upd (upd (upd (upd (upd (upd F 2 (nI sz)) 5 (nI cs)) 6 (nI rg)) 7 (nI hd)) 8 (nI dp)) 12 (nI vr)) 16 ls9) 5 (nI cs47)) 6 (nI rg54)) 7 (nI hd52)) 8 (nI dp53)) 12 (nI vr51)) 13 as48) 14 wt49) 15 wf50) 16 ls55) B B46 from (Thx.f (Thx.f (Thx.f (Thx.f (Thx.f (Thx.f (Thx.f (Thx.f (Thx.f (Bth.thx hbb71) (by omega)) (by omega)) (by omega)) (by omega)) (by omega)) (by omega)) (by omega)) (by omega)) (by omega))).2
      have hz75 : cs47 ≤ 10000 ∧ rg54 ≤ 625 ∧ dp53 ≤ 1000 := (by omega)
      have hz76 : vr ≤ vr51 ∧ vr51 ≤ 30 ∧ hd52 + vr = hd + vr51 := (by omega)
      have hO : OKP G h0 a (upd (upd (upd (upd (upd (upd (upd (upd (upd (upd F 2 (nI sz)) 5 (nI cs47)) 6 (nI rg54)) 7 (nI hd52)) 8 (nI dp53)) 12 (nI vr51)) 13 as48) 14 wt49) 15 wf50) 16 ls55) (updR (updR (updR R 2 (.ref pq)) 3 (.ref mq)) 4 (va_rf lo)) Z B46 J K45 w := hO.to rfl
      refine W.widen (k := ((rE (g 2 q) - rS (g 2 q)) + 1)) (n := (6 * (rE (g 2 q) - rS (g 2 q)) + 6)) (by omega) (by omega) ?_
      have hzz1 : H.size ≤ s.heap.size + ((rE (g 2 q) - rS (g 2 q))) := (by have z : 0 ≤ (rE (g 2 q) - rS (g 2 q)) := (by omega); omega)
      have hzz2 : hSl H ≤ hSl s.heap + ((6 * (rE (g 2 q) - rS (g 2 q)))) := (by have z : 0 ≤ (6 * (rE (g 2 q) - rS (g 2 q))) := (by omega); omega)
      exact W.vret hx hb hr (fun t99 ht99 hW99 => ⟨⟨_, (w, (K45, B46, cs47, as48, wt49, wf50, vr51, hd52, dp53, rg54, ls55)), rfl, ⟨rfl, hz73, hz74, hz75, hz76, hO⟩, by rw [ht99]; exact hP, hD, by rw [ht99]; exact hzz1, by rw [ht99]; exact hzz2⟩, hS.F ht99⟩) hS.2.2 dX0_statement_241
    by_cases h77 : kd = 23
    · subst h77
      refine lv_tableIn (tgt := 168) (off := 132) hx hb dX0_statement_36 (by decide) (by decide) (by decide) (by decide) ?_
      obtain ⟨q1, hc0, ht0, hw0⟩ := NdO.ch hnd (f := 0) (by decide) ((hnd.1.2.1 (by rw [hkd]; decide)).1)
      have hv0 : 1 ≤ g 0 q1 ∧ g 0 q1 + 1 ≤ n := ⟨hw0.1, (by have z := hw0.2; omega)⟩
      obtain ⟨q2, hc1, ht1, hw1⟩ := NdO.ch hnd (f := 1) (by decide) ((hnd.1.2.1 (by rw [hkd]; decide)).2)
      have hv1 : 1 ≤ g 0 q2 ∧ g 0 q2 + 1 ≤ n := ⟨hw1.1, (by have z := hw1.2; omega)⟩
      refine lv_aload_n hx hb dX0_statement_168 rfl (lv_at hl 2 rfl) ?_
      refine lv_aload_n hx hb dX0_statement_169 rfl (lv_at hl 1 rfl) ?_
      refine p_get (v := .ref q1) (C := RX7) (Tc := TX7) (N := 11) (ci := 13) hx hb hq pin_wsX70 hown hE hP hO (by rw [hqT]; decide) (rep_1 hqT) rfl 6 (by decide) (hq _ pw_180) (fun _ h9 => h9) (congrArg (fun z => some (va_rf z)) hc0) dX0_statement_170 ?_
      refine lv_aload_n hx hb dX0_statement_173 rfl (lv_at hl 1 rfl) ?_
      refine p_get (v := .ref q2) (C := RX7) (Tc := TX7) (N := 11) (ci := 13) hx hb hq pin_wsX70 hown hE hP hO (by rw [hqT]; decide) (rep_1 hqT) rfl 7 (by decide) (hq _ pw_169) (fun _ h9 => h9) (congrArg (fun z => some (va_rf z)) hc1) dX0_statement_174 ?_
      have hO : OKP G h0 a (upd (upd (upd (upd (upd (upd (upd (upd (upd (upd (upd (upd (upd (upd (upd F 2 (nI sz)) 5 (nI cs)) 6 (nI rg)) 7 (nI hd)) 8 (nI dp)) 12 (nI vr)) 16 ls9) 5 (nI cs2)) 2 (nI sz)) 5 (nI cs2)) 6 (nI rg)) 7 (nI hd)) 8 (nI dp)) 12 (nI vr)) 16 ls9) (updR (updR (updR (updR (updR (updR R 2 (.ref pq)) 3 (.ref mq)) 4 (va_rf lo)) 2 (.ref pq)) 3 (.ref mq)) 4 (va_rf lo)) Z B2 J K w := hO.to rfl
      obtain ⟨_, qr81, hqr82⟩ := hO.2.1 24 _ (sg_24 G h0 a _ _ _ _ _)
      refine pn_V0 (G := G) (As := [.ref q1, .ref q2]) (rest := []) hx hb hml hown hq hE hX pX0_al hP hD hS hA hl.1 (B_assign l G h0 a (upd (upd (upd (upd (upd (upd (upd (upd F 2 (nI sz)) 5 (nI cs)) 6 (nI rg)) 7 (nI hd)) 8 (nI dp)) 12 (nI vr)) 16 ls9) 5 (nI cs2)) (updR (updR (updR R 2 (.ref pq)) 3 (.ref mq)) 4 (va_rf lo)) Z B2 J K w pq dr ml nd nm cp it s9 q1 mq cs2 vr sz n q2 hd dp rg ls9 lo g rk (by omega) (BdE.wp BdE.rfl hwp) (BdE.pt BdE.rfl hwp hps) (BdE.rko BdE.rfl hrk) (by omega) (by omega) hng2 hmq ht0 ⟨hv0.1, (by have z9 := hv0; omega)⟩ (by omega) (by omega) (by omega) (LpO.be BdE.rfl hlo) ht1 hv1 (NdO.k23 hnd hkd hc0) (IhV.all l G n) hO hl0) (gV pw_345 pw_346 pw_347 pw_63 pw_293) hV_X0_assign qr81 0 hqr82 rfl rfl rfl (Nat.le_of_ble_eq_true rfl) dX0_statement_177 ⟨(by show 0 + 1 ≤ ((rE (g 2 q) - rS (g 2 q)) + 1); omega), (by show 0 + 6 ≤ (6 * (rE (g 2 q) - rS (g 2 q)) + 6); omega)⟩ ⟨(by show (5 * n + 36) + 1 ≤ (5 * n + 50); omega), (by show 8 + (5 + 11) + (200 * n + 660) ≤ (200 * n + 1200); omega)⟩ (fun v80 u78 H locs hw79 hP hD hS => ?_) (fun ux ce9 q9 H9 locs9 hux hP9 hD9 hS9 hce hcv hcl => pb_out ux (ThQ.up (Thx.same (Thx.same (Thx.same (Thx.same (Thx.same (Thx.same (Thx.same (Thx.f (Bth.thx hbb2) (by omega)) rfl) rfl) rfl) rfl) rfl) rfl) rfl) hux) hnt hlocks hce hcv hcl hP9 hD9 hS9 (by show 0 + 1 ≤ ((rE (g 2 q) - rS (g 2 q)) + 1); omega) (by show 0 + 6 ≤ (6 * (rE (g 2 q) - rS (g 2 q)) + 6); omega))
      obtain ⟨w, K83, B84, cs85, as86, wt87, wf88, vr89, hd90, dp91, rg92, ls93⟩ := u78
      obtain ⟨hw79, h94, h95, h96, h97, hO⟩ := hw79
      have h94 : BdE K K83 := h94
      have h95 : Bth B2 B84 := h95
      have h96 : cs85 ≤ 10000 ∧ rg92 ≤ 625 ∧ dp91 ≤ 1000 := h96
      have h97 : vr ≤ vr89 ∧ vr89 ≤ 30 ∧ hd90 + vr = hd + vr89 := h97
      obtain rfl : v80 = none := hw79
      have hf98 : K83.1 pq = 7 := (BdE.T h94 hp1 (by decide))
      have hf99 : K83.2.2.1 18 pq = some (a 1) := (BdE.C h94 (by rw [hp1]; decide) 18).trans hp2
      have hf100 : K83.2.2.1 14 pq = some dr := (BdE.C h94 (by rw [hp1]; decide) 14).trans hp3
      have hf101 : K83.1 dr = 8 := (BdE.T h94 hp4 (by decide))
      have hf102 : K83.2.2.1 15 pq = some ml := (BdE.C h94 (by rw [hp1]; decide) 15).trans hp5
      have hf103 : K83.1 ml = 5 := (BdE.T h94 hp6 (by decide))
      have hf104 : K83.2.1 24 pq = (nI nd) := (BdE.I h94 (by rw [hp1]; decide) (by decide) (by decide)).trans hp8
      have hf105 : K83.1 q = 1 := (BdE.T h94 hqT (by decide))
      have hf106 : K83.1 mq = 3 := (BdE.T h94 hmq (by decide))
      have hf107 : K83.2.1 0 q = 23 := (BdE.I h94 (by rw [hqT]; decide) (by decide) (by decide)).trans hkd
      have hf108 : K83.2.2.1 0 q = some q1 := (BdE.C h94 (by rw [hqT]; decide) 0).trans hc0
      have hf109 : K83.1 q1 = 1 := (BdE.T h94 ht0 (by decide))
      have hf110 : K83.2.2.1 1 q = some q2 := (BdE.C h94 (by rw [hqT]; decide) 1).trans hc1
      have hf111 : K83.1 q2 = 1 := (BdE.T h94 ht1 (by decide))
      have hO : OKP G h0 a (upd (upd (upd (upd (upd (upd (upd (upd (upd (upd F 2 (nI sz)) 5 (nI cs85)) 6 (nI rg92)) 7 (nI hd90)) 8 (nI dp91)) 12 (nI vr89)) 13 as86) 14 wt87) 15 wf88) 16 ls93) (updR (updR (updR R 2 (.ref pq)) 3 (.ref mq)) 4 (va_rf lo)) Z B84 J K83 w := hO.to rfl
      refine W.widen (k := 0) (n := 0) (by show 0 + 0 ≤ 0; omega) (by show 0 + 0 ≤ 0; omega) ?_
      refine W.eq (g2 := F0 m 180 ls []) rfl ?_
      have hbe112 := BdE.trans BdE.rfl h94
      have hbb113 : Bth B B84 := Bth.trans (show Thx (upd (upd (upd (upd (upd (upd (upd F 2 (nI sz)) 5 (nI cs)) 6 (nI rg)) 7 (nI hd)) 8 (nI dp)) 12 (nI vr)) 16 ls9) (upd (upd (upd (upd (upd (upd (upd (upd F 2 (nI sz)) 5 (nI cs)) 6 (nI rg)) 7 (nI hd)) 8 (nI dp)) 12 (nI vr)) 16 ls9) 5 (nI cs2)) B B2 from (Thx.f (Bth.thx hbb2) (by omega))).2 h95
      have hng114 : Nng (B84 18) := h95.2 hng2
      refine lv_goto (tgt := 241) hx hb dX0_statement_180 (by decide) ?_
      refine W_size (fun hz1 hz2 => ?_)
      refine vx_ret ?_
      have hz115 : BdE K K83 := hbe112
      have hz116 : Bth B B84 := (show Thx (upd (upd (upd (upd (upd (upd (upd F 2 (nI sz)) 5 (nI cs)) 6 (nI rg)) 7 (nI hd)) 8 (nI dp)) 12 (nI vr)) 16 ls9) (upd (upd (upd (upd (upd (upd (upd (upd (upd (upd (upd (upd (upd (upd (upd (upd F 2 (nI sz)) 5 (nI cs)) 6 (nI rg)) 7 (nI hd)) 8 (nI dp)) 12 (nI vr)) 16 ls9) 5 (nI cs85)) 6 (nI rg92)) 7 (nI hd90)) 8 (nI dp91)) 12 (nI vr89)) 13 as86) 14 wt87) 15 wf88) 16 ls93) B B84 from (Thx.f (Thx.f (Thx.f (Thx.f (Thx.f (Thx.f (Thx.f (Thx.f (Thx.f (Bth.thx hbb113) (by omega)) (by omega)) (by omega)) (by omega)) (by omega)) (by omega)) (by omega)) (by omega)) (by omega))).2
      have hz117 : cs85 ≤ 10000 ∧ rg92 ≤ 625 ∧ dp91 ≤ 1000 := (by omega)
      have hz118 : vr ≤ vr89 ∧ vr89 ≤ 30 ∧ hd90 + vr = hd + vr89 := (by omega)
      have hO : OKP G h0 a (upd (upd (upd (upd (upd (upd (upd (upd (upd (upd F 2 (nI sz)) 5 (nI cs85)) 6 (nI rg92)) 7 (nI hd90)) 8 (nI dp91)) 12 (nI vr89)) 13 as86) 14 wt87) 15 wf88) 16 ls93) (updR (updR (updR R 2 (.ref pq)) 3 (.ref mq)) 4 (va_rf lo)) Z B84 J K83 w := hO.to rfl
      refine W.widen (k := ((rE (g 2 q) - rS (g 2 q)) + 1)) (n := (6 * (rE (g 2 q) - rS (g 2 q)) + 6)) (by omega) (by omega) ?_
      have hzz1 : H.size ≤ s.heap.size + ((rE (g 2 q) - rS (g 2 q))) := (by have z : 0 ≤ (rE (g 2 q) - rS (g 2 q)) := (by omega); omega)
      have hzz2 : hSl H ≤ hSl s.heap + ((6 * (rE (g 2 q) - rS (g 2 q)))) := (by have z : 0 ≤ (6 * (rE (g 2 q) - rS (g 2 q))) := (by omega); omega)
      exact W.vret hx hb hr (fun t99 ht99 hW99 => ⟨⟨_, (w, (K83, B84, cs85, as86, wt87, wf88, vr89, hd90, dp91, rg92, ls93)), rfl, ⟨rfl, hz115, hz116, hz117, hz118, hO⟩, by rw [ht99]; exact hP, hD, by rw [ht99]; exact hzz1, by rw [ht99]; exact hzz2⟩, hS.F ht99⟩) hS.2.2 dX0_statement_241
    by_cases h119 : kd = 24
    · subst h119
      refine lv_tableIn (tgt := 215) (off := 179) hx hb dX0_statement_36 (by decide) (by decide) (by decide) (by decide) ?_
      obtain ⟨q1, hc0, ht0, hw0⟩ := NdO.ch hnd (f := 0) (by decide) (hnd.1.1 (by rw [hkd]; decide))
      have hv0 : 1 ≤ g 0 q1 ∧ g 0 q1 + 1 ≤ n := ⟨hw0.1, (by have z := hw0.2; omega)⟩
      refine lv_aload_n hx hb dX0_statement_215 rfl (lv_at hl 2 rfl) ?_
      refine lv_aload_n hx hb dX0_statement_216 rfl (lv_at hl 1 rfl) ?_
      refine p_get (v := .ref q1) (C := RX7) (Tc := TX7) (N := 11) (ci := 13) hx hb hq pin_wsX70 hown hE hP hO (by rw [hqT]; decide) (rep_1 hqT) rfl 6 (by decide) (hq _ pw_180) (fun _ h9 => h9) (congrArg (fun z => some (va_rf z)) hc0) dX0_statement_217 ?_
      have hO : OKP G h0 a (upd (upd (upd (upd (upd (upd (upd (upd (upd (upd (upd F 2 (nI sz)) 5 (nI cs)) 6 (nI rg)) 7 (nI hd)) 8 (nI dp)) 12 (nI vr)) 16 ls9) 5 (nI cs2)) 2 (nI sz)) 5 (nI cs2)) 12 (nI vr)) (updR (updR (updR (updR (updR R 2 (.ref pq)) 3 (.ref mq)) 4 (va_rf lo)) 2 (.ref pq)) 3 (.ref mq)) Z B2 J K w := hO.to rfl
      obtain ⟨_, qr123, hqr124⟩ := hO.2.1 24 _ (sg_24 G h0 a _ _ _ _ _)
      refine pn_V0 (G := G) (As := [.ref q1]) (rest := []) hx hb hml hown hq hE hX pX0_al hP hD hS hA hl.1 ((ihv (by omega)) h0 a (upd (upd (upd (upd (upd (upd (upd (upd F 2 (nI sz)) 5 (nI cs)) 6 (nI rg)) 7 (nI hd)) 8 (nI dp)) 12 (nI vr)) 16 ls9) 5 (nI cs2)) (updR (updR (updR R 2 (.ref pq)) 3 (.ref mq)) 4 (va_rf lo)) Z B2 J K w pq dr ml nd nm cp it s9 q1 mq cs2 vr sz g rk (by omega) (BdE.wp BdE.rfl hwp) (BdE.pt BdE.rfl hwp hps) (BdE.rko BdE.rfl hrk) (by omega) (by omega) hng2 hmq ht0 ⟨hv0.1, (by have z9 := hv0; omega)⟩ hO hl0) (gV pw_173 pw_174 pw_175 pw_63 pw_224) hV_X0_value qr123 0 hqr124 rfl rfl rfl (Nat.le_of_ble_eq_true rfl) dX0_statement_220 ⟨(by show 0 + 1 ≤ ((rE (g 2 q) - rS (g 2 q)) + 1); omega), (by show 0 + 6 ≤ (6 * (rE (g 2 q) - rS (g 2 q)) + 6); omega)⟩ ⟨(by show (5 * (n - 1) + 34) + 1 ≤ (5 * n + 50); omega), (by show 8 + (3 + 11) + (200 * (n - 1) + 600) ≤ (200 * n + 1200); omega)⟩ (fun v122 u120 H locs hw121 hP hD hS => ?_) (fun ux ce9 q9 H9 locs9 hux hP9 hD9 hS9 hce hcv hcl => pb_out ux (ThQ.up (Thx.same (Thx.same (Thx.same (Thx.f (Bth.thx hbb2) (by omega)) rfl) rfl) rfl) hux) hnt hlocks hce hcv hcl hP9 hD9 hS9 (by show 0 + 1 ≤ ((rE (g 2 q) - rS (g 2 q)) + 1); omega) (by show 0 + 6 ≤ (6 * (rE (g 2 q) - rS (g 2 q)) + 6); omega))
      obtain ⟨w, K125, B126, cs127, as128, wt129, wf130, r131⟩ := u120
      obtain ⟨hw121, h132, h133, h134, hO⟩ := hw121
      have h132 : BdE K K125 := h132
      have h133 : Bth B2 B126 := h133
      have h134 : cs127 ≤ 10000 := h134
      obtain rfl : v122 = some (.int r131) := hw121
      have hf135 : K125.1 pq = 7 := (BdE.T h132 hp1 (by decide))
      have hf136 : K125.2.2.1 18 pq = some (a 1) := (BdE.C h132 (by rw [hp1]; decide) 18).trans hp2
      have hf137 : K125.2.2.1 14 pq = some dr := (BdE.C h132 (by rw [hp1]; decide) 14).trans hp3
      have hf138 : K125.1 dr = 8 := (BdE.T h132 hp4 (by decide))
      have hf139 : K125.2.2.1 15 pq = some ml := (BdE.C h132 (by rw [hp1]; decide) 15).trans hp5
      have hf140 : K125.1 ml = 5 := (BdE.T h132 hp6 (by decide))
      have hf141 : K125.2.1 24 pq = (nI nd) := (BdE.I h132 (by rw [hp1]; decide) (by decide) (by decide)).trans hp8
      have hf142 : K125.1 q = 1 := (BdE.T h132 hqT (by decide))
      have hf143 : K125.1 mq = 3 := (BdE.T h132 hmq (by decide))
      have hf144 : K125.2.1 0 q = 24 := (BdE.I h132 (by rw [hqT]; decide) (by decide) (by decide)).trans hkd
      have hf145 : K125.2.2.1 0 q = some q1 := (BdE.C h132 (by rw [hqT]; decide) 0).trans hc0
      have hf146 : K125.1 q1 = 1 := (BdE.T h132 ht0 (by decide))
      have hO : OKP G h0 a (upd (upd (upd (upd (upd (upd (upd (upd (upd (upd F 2 (nI sz)) 5 (nI cs127)) 6 (nI rg)) 7 (nI hd)) 8 (nI dp)) 12 (nI vr)) 13 as128) 14 wt129) 15 wf130) 16 ls9) (updR (updR (updR R 2 (.ref pq)) 3 (.ref mq)) 4 (va_rf lo)) Z B126 J K125 w := hO.to rfl
      refine W.widen (k := 0) (n := 0) (by show 0 + 0 ≤ 0; omega) (by show 0 + 0 ≤ 0; omega) ?_
      refine W.eq (g2 := F0 m 223 ls [.int r131]) rfl ?_
      have hbe147 := BdE.trans BdE.rfl h132
      have hbb148 : Bth B B126 := Bth.trans (show Thx (upd (upd (upd (upd (upd (upd (upd F 2 (nI sz)) 5 (nI cs)) 6 (nI rg)) 7 (nI hd)) 8 (nI dp)) 12 (nI vr)) 16 ls9) (upd (upd (upd (upd (upd (upd (upd (upd F 2 (nI sz)) 5 (nI cs)) 6 (nI rg)) 7 (nI hd)) 8 (nI dp)) 12 (nI vr)) 16 ls9) 5 (nI cs2)) B B2 from (Thx.f (Bth.thx hbb2) (by omega))).2 h133
      have hng149 : Nng (B126 18) := h133.2 hng2
      refine lv_bipush (v := 63) hx hb dX0_statement_223 (by decide) ?_
      refine lv_icmp_eq (tgt := 241) hx hb dX0_statement_225 (by decide) (fun c150 => ?_) (fun c150 => ?_)
      · refine W_size (fun hz1 hz2 => ?_)
        refine vx_ret ?_
        have hz151 : BdE K K125 := hbe147
        have hz152 : Bth B B126 := (show Thx (upd (upd (upd (upd (upd (upd (upd F 2 (nI sz)) 5 (nI cs)) 6 (nI rg)) 7 (nI hd)) 8 (nI dp)) 12 (nI vr)) 16 ls9) (upd (upd (upd (upd (upd (upd (upd (upd (upd (upd (upd F 2 (nI sz)) 5 (nI cs)) 6 (nI rg)) 7 (nI hd)) 8 (nI dp)) 12 (nI vr)) 16 ls9) 5 (nI cs127)) 13 as128) 14 wt129) 15 wf130) B B126 from (Thx.f (Thx.f (Thx.f (Thx.f (Bth.thx hbb148) (by omega)) (by omega)) (by omega)) (by omega))).2
        have hz153 : cs127 ≤ 10000 ∧ rg ≤ 625 ∧ dp ≤ 1000 := (by omega)
        have hz154 : vr ≤ vr ∧ vr ≤ 30 ∧ hd + vr = hd + vr := (by omega)
        have hO : OKP G h0 a (upd (upd (upd (upd (upd (upd (upd (upd (upd (upd F 2 (nI sz)) 5 (nI cs127)) 6 (nI rg)) 7 (nI hd)) 8 (nI dp)) 12 (nI vr)) 13 as128) 14 wt129) 15 wf130) 16 ls9) (updR (updR (updR R 2 (.ref pq)) 3 (.ref mq)) 4 (va_rf lo)) Z B126 J K125 w := hO.to rfl
        refine W.widen (k := ((rE (g 2 q) - rS (g 2 q)) + 1)) (n := (6 * (rE (g 2 q) - rS (g 2 q)) + 6)) (by omega) (by omega) ?_
        have hzz1 : H.size ≤ s.heap.size + ((rE (g 2 q) - rS (g 2 q))) := (by have z : 0 ≤ (rE (g 2 q) - rS (g 2 q)) := (by omega); omega)
        have hzz2 : hSl H ≤ hSl s.heap + ((6 * (rE (g 2 q) - rS (g 2 q)))) := (by have z : 0 ≤ (6 * (rE (g 2 q) - rS (g 2 q))) := (by omega); omega)
        exact W.vret hx hb hr (fun t99 ht99 hW99 => ⟨⟨_, (w, (K125, B126, cs127, as128, wt129, wf130, vr, hd, dp, rg, ls9)), rfl, ⟨rfl, hz151, hz152, hz153, hz154, hO⟩, by rw [ht99]; exact hP, hD, by rw [ht99]; exact hzz1, by rw [ht99]; exact hzz2⟩, hS.F ht99⟩) hS.2.2 dX0_statement_241
      · refine lv_aload_n hx hb dX0_statement_228 rfl (lv_at hl 2 rfl) ?_
        refine c_get (v := .ref (a 2)) (C := RX0) (Tc := TX0) (N := 13) (ci := 0) hx hb hq pin_wsX00 hown hE hP hO 24 (sg_24 G h0 a _ _ _ _ _) rfl 1 (by decide) (hq _ pw_5) (fun _ h9 => h9) rfl dX0_statement_229 ?_
        refine lv_iconst (v := 5) hx hb dX0_statement_232 (by decide) ?_
        refine lv_iconst (v := 0) hx hb dX0_statement_233 (by decide) ?_
        refine lv_iconst (v := 0) hx hb dX0_statement_234 (by decide) ?_
        have hO : OKW G h0 a (upd (upd (upd (upd (upd (upd (upd (upd (upd (upd (upd F 2 (nI sz)) 5 (nI cs127)) 6 (nI rg)) 7 (nI hd)) 8 (nI dp)) 12 (nI vr)) 13 as128) 14 wt129) 15 wf130) 16 ls9) 5 (nI cs127)) (updR (updR (updR R 2 (.ref pq)) 3 (.ref mq)) 4 (va_rf lo)) Z B126 J K125.1 (fun q99 x99 => x99 = rep G a K125 q99) w := hO.to rfl
        obtain ⟨_, qr158, hqr159⟩ := hO.2.1 13 _ (sg_13 G h0 a _ _ _ _ _)
        refine pc_V0 (G := G) (As := [.int 5, .int 0, .int (nI 0)]) (rest := []) hx hb hml hown hq hE hX pX0_al hP hD hS hA hl.1 (K_emit l G h0 a (upd (upd (upd (upd (upd (upd (upd (upd (upd (upd F 2 (nI sz)) 5 (nI cs127)) 6 (nI rg)) 7 (nI hd)) 8 (nI dp)) 12 (nI vr)) 13 as128) 14 wt129) 15 wf130) 16 ls9) (updR (updR (updR R 2 (.ref pq)) 3 (.ref mq)) 4 (va_rf lo)) Z B126 J K125.1 (fun q99 x99 => x99 = rep G a K125 q99) w 5 0 0 cs127 (by omega) (by omega) hng149 hO) (gV pw_129 pw_130 pw_131 pw_70 pw_115) hV_X1_emit qr158 1 hqr159 rfl rfl rfl (Nat.le_of_ble_eq_true rfl) dX0_statement_235 ⟨(by show 0 + 0 ≤ ((rE (g 2 q) - rS (g 2 q)) + 1); omega), (by show 0 + 0 ≤ (6 * (rE (g 2 q) - rS (g 2 q)) + 6); omega)⟩ ⟨(by show 2 + 1 ≤ (5 * n + 50); omega), (by show 8 + (4 + 11) + 60 ≤ (200 * n + 1200); omega)⟩ (fun v157 u155 H locs hw156 hP hD hS => ?_)
        obtain ⟨w, cs160, f161, f162, f163, f164⟩ := u155
        obtain ⟨hw156, h165, h166, hO⟩ := hw156
        have h165 : cs127 ≤ cs160 ∧ cs160 ≤ cs127 + 1 ∧ cs160 ≤ 10000 := h165
        have h166 : Nng f163 := h166
        obtain rfl : v157 = none := hw156
        have hO : OKP G h0 a (upd (upd (upd (upd (upd (upd (upd (upd (upd (upd F 2 (nI sz)) 5 (nI cs160)) 6 (nI rg)) 7 (nI hd)) 8 (nI dp)) 12 (nI vr)) 13 as128) 14 wt129) 15 wf130) 16 ls9) (updR (updR (updR R 2 (.ref pq)) 3 (.ref mq)) 4 (va_rf lo)) Z (updA (updA (updA (updA B126 16 f161) 17 f162) 18 f163) 19 f164) J K125 w := hO.to rfl
        refine W.widen (k := 0) (n := 0) (Nat.le_of_ble_eq_true rfl) (Nat.le_of_ble_eq_true rfl) ?_
        refine W.eq (g2 := F0 m 238 ls []) rfl ?_
        refine lv_goto (tgt := 241) hx hb dX0_statement_238 (by decide) ?_
        refine W_size (fun hz1 hz2 => ?_)
        refine vx_ret ?_
        have hz167 : BdE K K125 := hbe147
        have hz168 : Bth B (updA (updA (updA (updA B126 16 f161) 17 f162) 18 f163) 19 f164) := (show Thx (upd (upd (upd (upd (upd (upd (upd F 2 (nI sz)) 5 (nI cs)) 6 (nI rg)) 7 (nI hd)) 8 (nI dp)) 12 (nI vr)) 16 ls9) (upd (upd (upd (upd (upd (upd (upd (upd (upd (upd (upd F 2 (nI sz)) 5 (nI cs)) 6 (nI rg)) 7 (nI hd)) 8 (nI dp)) 12 (nI vr)) 16 ls9) 5 (nI cs160)) 13 as128) 14 wt129) 15 wf130) B (updA (updA (updA (updA B126 16 f161) 17 f162) 18 f163) 19 f164) from (Thx.b (Thx.b8 (Thx.b (Thx.b (Thx.f (Thx.f (Thx.f (Thx.f (Bth.thx hbb148) (by omega)) (by omega)) (by omega)) (by omega)) (by omega) (by decide)) (by omega) (by decide)) h166) (by omega) (by decide))).2
        have hz169 : cs160 ≤ 10000 ∧ rg ≤ 625 ∧ dp ≤ 1000 := (by omega)
        have hz170 : vr ≤ vr ∧ vr ≤ 30 ∧ hd + vr = hd + vr := (by omega)
        have hO : OKP G h0 a (upd (upd (upd (upd (upd (upd (upd (upd (upd (upd F 2 (nI sz)) 5 (nI cs160)) 6 (nI rg)) 7 (nI hd)) 8 (nI dp)) 12 (nI vr)) 13 as128) 14 wt129) 15 wf130) 16 ls9) (updR (updR (updR R 2 (.ref pq)) 3 (.ref mq)) 4 (va_rf lo)) Z (updA (updA (updA (updA B126 16 f161) 17 f162) 18 f163) 19 f164) J K125 w := hO.to rfl
        refine W.widen (k := ((rE (g 2 q) - rS (g 2 q)) + 1)) (n := (6 * (rE (g 2 q) - rS (g 2 q)) + 6)) (by omega) (by omega) ?_
        have hzz1 : H.size ≤ s.heap.size + ((rE (g 2 q) - rS (g 2 q))) := (by have z : 0 ≤ (rE (g 2 q) - rS (g 2 q)) := (by omega); omega)
        have hzz2 : hSl H ≤ hSl s.heap + ((6 * (rE (g 2 q) - rS (g 2 q)))) := (by have z : 0 ≤ (6 * (rE (g 2 q) - rS (g 2 q))) := (by omega); omega)
        exact W.vret hx hb hr (fun t99 ht99 hW99 => ⟨⟨_, (w, (K125, (updA (updA (updA (updA B126 16 f161) 17 f162) 18 f163) 19 f164), cs160, as128, wt129, wf130, vr, hd, dp, rg, ls9)), rfl, ⟨rfl, hz167, hz168, hz169, hz170, hO⟩, by rw [ht99]; exact hP, hD, by rw [ht99]; exact hzz1, by rw [ht99]; exact hzz2⟩, hS.F ht99⟩) hS.2.2 dX0_statement_241
    by_cases h171 : kd = 25
    · subst h171
      refine lv_tableIn (tgt := 112) (off := 76) hx hb dX0_statement_36 (by decide) (by decide) (by decide) (by decide) ?_
      obtain ⟨q1, hc0, ht0, hw0⟩ := NdO.ch hnd (f := 0) (by decide) ((hnd.1.2.1 (by rw [hkd]; decide)).1)
      have hv0 : 1 ≤ g 0 q1 ∧ g 0 q1 + 1 ≤ n := ⟨hw0.1, (by have z := hw0.2; omega)⟩
      obtain ⟨q2, hc1, ht1, hw1⟩ := NdO.ch hnd (f := 1) (by decide) ((hnd.1.2.1 (by rw [hkd]; decide)).2)
      have hv1 : 1 ≤ g 0 q2 ∧ g 0 q2 + 1 ≤ n := ⟨hw1.1, (by have z := hw1.2; omega)⟩
      refine lv_aload_n hx hb dX0_statement_112 rfl (lv_at hl 2 rfl) ?_
      refine lv_aload_n hx hb dX0_statement_113 rfl (lv_at hl 1 rfl) ?_
      have hO : OKP G h0 a (upd (upd (upd (upd (upd (upd (upd (upd (upd (upd (upd (upd (upd (upd (upd F 2 (nI sz)) 5 (nI cs)) 6 (nI rg)) 7 (nI hd)) 8 (nI dp)) 12 (nI vr)) 16 ls9) 5 (nI cs2)) 2 (nI sz)) 5 (nI cs2)) 6 (nI rg)) 7 (nI hd)) 8 (nI dp)) 12 (nI vr)) 16 ls9) (updR (updR (updR (updR (updR (updR R 2 (.ref pq)) 3 (.ref mq)) 4 (va_rf lo)) 2 (.ref pq)) 3 (.ref mq)) 4 (va_rf lo)) Z B2 J K w := hO.to rfl
      obtain ⟨_, qr175, hqr176⟩ := hO.2.1 24 _ (sg_24 G h0 a _ _ _ _ _)
      refine pn_V0 (G := G) (As := [.ref q]) (rest := []) hx hb hml hown hq hE hX pX0_al hP hD hS hA hl.1 (B_if l G h0 a (upd (upd (upd (upd (upd (upd (upd (upd F 2 (nI sz)) 5 (nI cs)) 6 (nI rg)) 7 (nI hd)) 8 (nI dp)) 12 (nI vr)) 16 ls9) 5 (nI cs2)) (updR (updR (updR R 2 (.ref pq)) 3 (.ref mq)) 4 (va_rf lo)) Z B2 J K w pq dr ml nd nm cp it s9 q mq cs2 vr sz n q1 q2 hd dp rg ls9 lo g rk (by omega) (BdE.wp BdE.rfl hwp) (BdE.pt BdE.rfl hwp hps) (BdE.rko BdE.rfl hrk) (by omega) (by omega) hng2 hmq hqT hqL hc0 ht0 hv0 hc1 ht1 hv1 (by omega) (by omega) (by omega) (LpO.be BdE.rfl hlo) hkd ist (IhV.all l G _) hO hl0) (gV pw_324 pw_325 pw_326 pw_63 pw_310) hV_X0_ifStatement qr175 0 hqr176 rfl rfl rfl (Nat.le_of_ble_eq_true rfl) dX0_statement_114 ⟨(by show 0 + ((rE (g 2 q) - rS (g 2 q)) + 1) ≤ ((rE (g 2 q) - rS (g 2 q)) + 1); omega), (by show 0 + (6 * (rE (g 2 q) - rS (g 2 q)) + 6) ≤ (6 * (rE (g 2 q) - rS (g 2 q)) + 6); omega)⟩ ⟨(by show (5 * n + 46) + 1 ≤ (5 * n + 50); omega), (by show 8 + (6 + 11) + (200 * n + 1120) ≤ (200 * n + 1200); omega)⟩ (fun v174 u172 H locs hw173 hP hD hS => ?_) (fun ux ce9 q9 H9 locs9 hux hP9 hD9 hS9 hce hcv hcl => pb_out ux (ThQ.up (Thx.same (Thx.same (Thx.same (Thx.same (Thx.same (Thx.same (Thx.same (Thx.f (Bth.thx hbb2) (by omega)) rfl) rfl) rfl) rfl) rfl) rfl) rfl) hux) hnt hlocks hce hcv hcl hP9 hD9 hS9 (by show 0 + ((rE (g 2 q) - rS (g 2 q)) + 1) ≤ ((rE (g 2 q) - rS (g 2 q)) + 1); omega) (by show 0 + (6 * (rE (g 2 q) - rS (g 2 q)) + 6) ≤ (6 * (rE (g 2 q) - rS (g 2 q)) + 6); omega))
      obtain ⟨w, K177, B178, cs179, as180, wt181, wf182, vr183, hd184, dp185, rg186, ls187⟩ := u172
      obtain ⟨hw173, h188, h189, h190, h191, hO⟩ := hw173
      have h188 : BdE K K177 := h188
      have h189 : Bth B2 B178 := h189
      have h190 : cs179 ≤ 10000 ∧ rg186 ≤ 625 ∧ dp185 ≤ 1000 := h190
      have h191 : vr ≤ vr183 ∧ vr183 ≤ 30 ∧ hd184 + vr = hd + vr183 := h191
      obtain rfl : v174 = none := hw173
      have hf192 : K177.1 pq = 7 := (BdE.T h188 hp1 (by decide))
      have hf193 : K177.2.2.1 18 pq = some (a 1) := (BdE.C h188 (by rw [hp1]; decide) 18).trans hp2
      have hf194 : K177.2.2.1 14 pq = some dr := (BdE.C h188 (by rw [hp1]; decide) 14).trans hp3
      have hf195 : K177.1 dr = 8 := (BdE.T h188 hp4 (by decide))
      have hf196 : K177.2.2.1 15 pq = some ml := (BdE.C h188 (by rw [hp1]; decide) 15).trans hp5
      have hf197 : K177.1 ml = 5 := (BdE.T h188 hp6 (by decide))
      have hf198 : K177.2.1 24 pq = (nI nd) := (BdE.I h188 (by rw [hp1]; decide) (by decide) (by decide)).trans hp8
      have hf199 : K177.1 q = 1 := (BdE.T h188 hqT (by decide))
      have hf200 : K177.1 mq = 3 := (BdE.T h188 hmq (by decide))
      have hf201 : K177.2.1 0 q = 25 := (BdE.I h188 (by rw [hqT]; decide) (by decide) (by decide)).trans hkd
      have hf202 : K177.2.2.1 0 q = some q1 := (BdE.C h188 (by rw [hqT]; decide) 0).trans hc0
      have hf203 : K177.1 q1 = 1 := (BdE.T h188 ht0 (by decide))
      have hf204 : K177.2.2.1 1 q = some q2 := (BdE.C h188 (by rw [hqT]; decide) 1).trans hc1
      have hf205 : K177.1 q2 = 1 := (BdE.T h188 ht1 (by decide))
      have hO : OKP G h0 a (upd (upd (upd (upd (upd (upd (upd (upd (upd (upd F 2 (nI sz)) 5 (nI cs179)) 6 (nI rg186)) 7 (nI hd184)) 8 (nI dp185)) 12 (nI vr183)) 13 as180) 14 wt181) 15 wf182) 16 ls187) (updR (updR (updR R 2 (.ref pq)) 3 (.ref mq)) 4 (va_rf lo)) Z B178 J K177 w := hO.to rfl
      refine W.widen (k := (rE (g 2 q) - rS (g 2 q))) (n := (6 * (rE (g 2 q) - rS (g 2 q)))) (by show 0 + (rE (g 2 q) - rS (g 2 q)) ≤ (rE (g 2 q) - rS (g 2 q)); omega) (by show 0 + (6 * (rE (g 2 q) - rS (g 2 q))) ≤ (6 * (rE (g 2 q) - rS (g 2 q))); omega) ?_
      refine W.eq (g2 := F0 m 117 ls []) rfl ?_
      have hbe206 := BdE.trans BdE.rfl h188
      have hbb207 : Bth B B178 := Bth.trans (show Thx (upd (upd (upd (upd (upd (upd (upd F 2 (nI sz)) 5 (nI cs)) 6 (nI rg)) 7 (nI hd)) 8 (nI dp)) 12 (nI vr)) 16 ls9) (upd (upd (upd (upd (upd (upd (upd (upd F 2 (nI sz)) 5 (nI cs)) 6 (nI rg)) 7 (nI hd)) 8 (nI dp)) 12 (nI vr)) 16 ls9) 5 (nI cs2)) B B2 from (Thx.f (Bth.thx hbb2) (by omega))).2 h189
      have hng208 : Nng (B178 18) := h189.2 hng2
      refine lv_goto (tgt := 241) hx hb dX0_statement_117 (by decide) ?_
      refine W_size (fun hz1 hz2 => ?_)
      refine vx_ret ?_
      have hz209 : BdE K K177 := hbe206
      have hz210 : Bth B B178 := (show Thx (upd (upd (upd (upd (upd (upd (upd F 2 (nI sz)) 5 (nI cs)) 6 (nI rg)) 7 (nI hd)) 8 (nI dp)) 12 (nI vr)) 16 ls9) (upd (upd (upd (upd (upd (upd (upd (upd (upd (upd (upd (upd (upd (upd (upd (upd F 2 (nI sz)) 5 (nI cs)) 6 (nI rg)) 7 (nI hd)) 8 (nI dp)) 12 (nI vr)) 16 ls9) 5 (nI cs179)) 6 (nI rg186)) 7 (nI hd184)) 8 (nI dp185)) 12 (nI vr183)) 13 as180) 14 wt181) 15 wf182) 16 ls187) B B178 from (Thx.f (Thx.f (Thx.f (Thx.f (Thx.f (Thx.f (Thx.f (Thx.f (Thx.f (Bth.thx hbb207) (by omega)) (by omega)) (by omega)) (by omega)) (by omega)) (by omega)) (by omega)) (by omega)) (by omega))).2
      have hz211 : cs179 ≤ 10000 ∧ rg186 ≤ 625 ∧ dp185 ≤ 1000 := (by omega)
      have hz212 : vr ≤ vr183 ∧ vr183 ≤ 30 ∧ hd184 + vr = hd + vr183 := (by omega)
      have hO : OKP G h0 a (upd (upd (upd (upd (upd (upd (upd (upd (upd (upd F 2 (nI sz)) 5 (nI cs179)) 6 (nI rg186)) 7 (nI hd184)) 8 (nI dp185)) 12 (nI vr183)) 13 as180) 14 wt181) 15 wf182) 16 ls187) (updR (updR (updR R 2 (.ref pq)) 3 (.ref mq)) 4 (va_rf lo)) Z B178 J K177 w := hO.to rfl
      refine W.widen (k := ((rE (g 2 q) - rS (g 2 q)) + 1)) (n := (6 * (rE (g 2 q) - rS (g 2 q)) + 6)) (by omega) (by omega) ?_
      have hzz1 : H.size ≤ s.heap.size + ((rE (g 2 q) - rS (g 2 q))) := (by have z : (rE (g 2 q) - rS (g 2 q)) ≤ (rE (g 2 q) - rS (g 2 q)) := (by omega); omega)
      have hzz2 : hSl H ≤ hSl s.heap + ((6 * (rE (g 2 q) - rS (g 2 q)))) := (by have z : (6 * (rE (g 2 q) - rS (g 2 q))) ≤ (6 * (rE (g 2 q) - rS (g 2 q))) := (by omega); omega)
      exact W.vret hx hb hr (fun t99 ht99 hW99 => ⟨⟨_, (w, (K177, B178, cs179, as180, wt181, wf182, vr183, hd184, dp185, rg186, ls187)), rfl, ⟨rfl, hz209, hz210, hz211, hz212, hO⟩, by rw [ht99]; exact hP, hD, by rw [ht99]; exact hzz1, by rw [ht99]; exact hzz2⟩, hS.F ht99⟩) hS.2.2 dX0_statement_241
    by_cases h213 : kd = 26
    · subst h213
      refine lv_tableIn (tgt := 120) (off := 84) hx hb dX0_statement_36 (by decide) (by decide) (by decide) (by decide) ?_
      obtain ⟨q4, hc3, ht3, hw3⟩ := NdO.ch hnd (f := 3) (by decide) ((hnd.1.2.2.2.1 hkd).2)
      have hv3 : 1 ≤ g 0 q4 ∧ g 0 q4 + 1 ≤ n := ⟨hw3.1, (by have z := hw3.2; omega)⟩
      refine lv_aload_n hx hb dX0_statement_120 rfl (lv_at hl 2 rfl) ?_
      refine lv_aload_n hx hb dX0_statement_121 rfl (lv_at hl 1 rfl) ?_
      have hO : OKP G h0 a (upd (upd (upd (upd (upd (upd (upd (upd (upd (upd (upd (upd (upd (upd (upd F 2 (nI sz)) 5 (nI cs)) 6 (nI rg)) 7 (nI hd)) 8 (nI dp)) 12 (nI vr)) 16 ls9) 5 (nI cs2)) 2 (nI sz)) 5 (nI cs2)) 6 (nI rg)) 7 (nI hd)) 8 (nI dp)) 12 (nI vr)) 16 ls9) (updR (updR (updR (updR (updR (updR R 2 (.ref pq)) 3 (.ref mq)) 4 (va_rf lo)) 2 (.ref pq)) 3 (.ref mq)) 4 (va_rf lo)) Z B2 J K w := hO.to rfl
      obtain ⟨_, qr217, hqr218⟩ := hO.2.1 24 _ (sg_24 G h0 a _ _ _ _ _)
      refine pn_V0 (G := G) (As := [.ref q]) (rest := []) hx hb hml hown hq hE hX pX0_al hP hD hS hA hl.1 (B_loop l G h0 a (upd (upd (upd (upd (upd (upd (upd (upd F 2 (nI sz)) 5 (nI cs)) 6 (nI rg)) 7 (nI hd)) 8 (nI dp)) 12 (nI vr)) 16 ls9) 5 (nI cs2)) (updR (updR (updR R 2 (.ref pq)) 3 (.ref mq)) 4 (va_rf lo)) Z B2 J K w pq dr ml nd nm cp it s9 q mq cs2 vr sz n q4 hd dp rg ls9 lo g rk (by omega) (BdE.wp BdE.rfl hwp) (BdE.pt BdE.rfl hwp hps) (BdE.rko BdE.rfl hrk) (by omega) (by omega) hng2 hmq hqT hqL hc3 ht3 hv3 (by omega) (by omega) (by omega) (LpO.be BdE.rfl hlo) (Or.inl hkd) ist (IhV.all l G _) hO hl0) (gV pw_327 pw_328 pw_329 pw_63 pw_312) hV_X0_loopStatement qr217 0 hqr218 rfl rfl rfl (Nat.le_of_ble_eq_true rfl) dX0_statement_122 ⟨(by show 0 + ((rE (g 2 q) - rS (g 2 q)) + 1) ≤ ((rE (g 2 q) - rS (g 2 q)) + 1); omega), (by show 0 + (6 * (rE (g 2 q) - rS (g 2 q)) + 6) ≤ (6 * (rE (g 2 q) - rS (g 2 q)) + 6); omega)⟩ ⟨(by show (5 * n + 46) + 1 ≤ (5 * n + 50); omega), (by show 8 + (7 + 11) + (200 * n + 1120) ≤ (200 * n + 1200); omega)⟩ (fun v216 u214 H locs hw215 hP hD hS => ?_) (fun ux ce9 q9 H9 locs9 hux hP9 hD9 hS9 hce hcv hcl => pb_out ux (ThQ.up (Thx.same (Thx.same (Thx.same (Thx.same (Thx.same (Thx.same (Thx.same (Thx.f (Bth.thx hbb2) (by omega)) rfl) rfl) rfl) rfl) rfl) rfl) rfl) hux) hnt hlocks hce hcv hcl hP9 hD9 hS9 (by show 0 + ((rE (g 2 q) - rS (g 2 q)) + 1) ≤ ((rE (g 2 q) - rS (g 2 q)) + 1); omega) (by show 0 + (6 * (rE (g 2 q) - rS (g 2 q)) + 6) ≤ (6 * (rE (g 2 q) - rS (g 2 q)) + 6); omega))
      obtain ⟨w, K219, B220, cs221, as222, wt223, wf224, vr225, hd226, dp227, rg228, ls229⟩ := u214
      obtain ⟨hw215, h230, h231, h232, h233, hO⟩ := hw215
      have h230 : BdE K K219 := h230
      have h231 : Bth B2 B220 := h231
      have h232 : cs221 ≤ 10000 ∧ rg228 ≤ 625 ∧ dp227 ≤ 1000 := h232
      have h233 : vr ≤ vr225 ∧ vr225 ≤ 30 ∧ hd226 + vr = hd + vr225 := h233
      obtain rfl : v216 = none := hw215
      have hf234 : K219.1 pq = 7 := (BdE.T h230 hp1 (by decide))
      have hf235 : K219.2.2.1 18 pq = some (a 1) := (BdE.C h230 (by rw [hp1]; decide) 18).trans hp2
      have hf236 : K219.2.2.1 14 pq = some dr := (BdE.C h230 (by rw [hp1]; decide) 14).trans hp3
      have hf237 : K219.1 dr = 8 := (BdE.T h230 hp4 (by decide))
      have hf238 : K219.2.2.1 15 pq = some ml := (BdE.C h230 (by rw [hp1]; decide) 15).trans hp5
      have hf239 : K219.1 ml = 5 := (BdE.T h230 hp6 (by decide))
      have hf240 : K219.2.1 24 pq = (nI nd) := (BdE.I h230 (by rw [hp1]; decide) (by decide) (by decide)).trans hp8
      have hf241 : K219.1 q = 1 := (BdE.T h230 hqT (by decide))
      have hf242 : K219.1 mq = 3 := (BdE.T h230 hmq (by decide))
      have hf243 : K219.2.1 0 q = 26 := (BdE.I h230 (by rw [hqT]; decide) (by decide) (by decide)).trans hkd
      have hf244 : K219.2.2.1 3 q = some q4 := (BdE.C h230 (by rw [hqT]; decide) 3).trans hc3
      have hf245 : K219.1 q4 = 1 := (BdE.T h230 ht3 (by decide))
      have hO : OKP G h0 a (upd (upd (upd (upd (upd (upd (upd (upd (upd (upd F 2 (nI sz)) 5 (nI cs221)) 6 (nI rg228)) 7 (nI hd226)) 8 (nI dp227)) 12 (nI vr225)) 13 as222) 14 wt223) 15 wf224) 16 ls229) (updR (updR (updR R 2 (.ref pq)) 3 (.ref mq)) 4 (va_rf lo)) Z B220 J K219 w := hO.to rfl
      refine W.widen (k := (rE (g 2 q) - rS (g 2 q))) (n := (6 * (rE (g 2 q) - rS (g 2 q)))) (by show 0 + (rE (g 2 q) - rS (g 2 q)) ≤ (rE (g 2 q) - rS (g 2 q)); omega) (by show 0 + (6 * (rE (g 2 q) - rS (g 2 q))) ≤ (6 * (rE (g 2 q) - rS (g 2 q))); omega) ?_
      refine W.eq (g2 := F0 m 125 ls []) rfl ?_
      have hbe246 := BdE.trans BdE.rfl h230
      have hbb247 : Bth B B220 := Bth.trans (show Thx (upd (upd (upd (upd (upd (upd (upd F 2 (nI sz)) 5 (nI cs)) 6 (nI rg)) 7 (nI hd)) 8 (nI dp)) 12 (nI vr)) 16 ls9) (upd (upd (upd (upd (upd (upd (upd (upd F 2 (nI sz)) 5 (nI cs)) 6 (nI rg)) 7 (nI hd)) 8 (nI dp)) 12 (nI vr)) 16 ls9) 5 (nI cs2)) B B2 from (Thx.f (Bth.thx hbb2) (by omega))).2 h231
      have hng248 : Nng (B220 18) := h231.2 hng2
      refine lv_goto (tgt := 241) hx hb dX0_statement_125 (by decide) ?_
      refine W_size (fun hz1 hz2 => ?_)
      refine vx_ret ?_
      have hz249 : BdE K K219 := hbe246
      have hz250 : Bth B B220 := (show Thx (upd (upd (upd (upd (upd (upd (upd F 2 (nI sz)) 5 (nI cs)) 6 (nI rg)) 7 (nI hd)) 8 (nI dp)) 12 (nI vr)) 16 ls9) (upd (upd (upd (upd (upd (upd (upd (upd (upd (upd (upd (upd (upd (upd (upd (upd F 2 (nI sz)) 5 (nI cs)) 6 (nI rg)) 7 (nI hd)) 8 (nI dp)) 12 (nI vr)) 16 ls9) 5 (nI cs221)) 6 (nI rg228)) 7 (nI hd226)) 8 (nI dp227)) 12 (nI vr225)) 13 as222) 14 wt223) 15 wf224) 16 ls229) B B220 from (Thx.f (Thx.f (Thx.f (Thx.f (Thx.f (Thx.f (Thx.f (Thx.f (Thx.f (Bth.thx hbb247) (by omega)) (by omega)) (by omega)) (by omega)) (by omega)) (by omega)) (by omega)) (by omega)) (by omega))).2
      have hz251 : cs221 ≤ 10000 ∧ rg228 ≤ 625 ∧ dp227 ≤ 1000 := (by omega)
      have hz252 : vr ≤ vr225 ∧ vr225 ≤ 30 ∧ hd226 + vr = hd + vr225 := (by omega)
      have hO : OKP G h0 a (upd (upd (upd (upd (upd (upd (upd (upd (upd (upd F 2 (nI sz)) 5 (nI cs221)) 6 (nI rg228)) 7 (nI hd226)) 8 (nI dp227)) 12 (nI vr225)) 13 as222) 14 wt223) 15 wf224) 16 ls229) (updR (updR (updR R 2 (.ref pq)) 3 (.ref mq)) 4 (va_rf lo)) Z B220 J K219 w := hO.to rfl
      refine W.widen (k := ((rE (g 2 q) - rS (g 2 q)) + 1)) (n := (6 * (rE (g 2 q) - rS (g 2 q)) + 6)) (by omega) (by omega) ?_
      have hzz1 : H.size ≤ s.heap.size + ((rE (g 2 q) - rS (g 2 q))) := (by have z : (rE (g 2 q) - rS (g 2 q)) ≤ (rE (g 2 q) - rS (g 2 q)) := (by omega); omega)
      have hzz2 : hSl H ≤ hSl s.heap + ((6 * (rE (g 2 q) - rS (g 2 q)))) := (by have z : (6 * (rE (g 2 q) - rS (g 2 q))) ≤ (6 * (rE (g 2 q) - rS (g 2 q))) := (by omega); omega)
      exact W.vret hx hb hr (fun t99 ht99 hW99 => ⟨⟨_, (w, (K219, B220, cs221, as222, wt223, wf224, vr225, hd226, dp227, rg228, ls229)), rfl, ⟨rfl, hz249, hz250, hz251, hz252, hO⟩, by rw [ht99]; exact hP, hD, by rw [ht99]; exact hzz1, by rw [ht99]; exact hzz2⟩, hS.F ht99⟩) hS.2.2 dX0_statement_241
    by_cases h253 : kd = 27
    · subst h253
      refine lv_tableIn (tgt := 120) (off := 84) hx hb dX0_statement_36 (by decide) (by decide) (by decide) (by decide) ?_
      obtain ⟨q4, hc3, ht3, hw3⟩ := NdO.ch hnd (f := 3) (by decide) (hnd.1.2.2.2.2 hkd)
      have hv3 : 1 ≤ g 0 q4 ∧ g 0 q4 + 1 ≤ n := ⟨hw3.1, (by have z := hw3.2; omega)⟩
      refine lv_aload_n hx hb dX0_statement_120 rfl (lv_at hl 2 rfl) ?_
      refine lv_aload_n hx hb dX0_statement_121 rfl (lv_at hl 1 rfl) ?_
      have hO : OKP G h0 a (upd (upd (upd (upd (upd (upd (upd (upd (upd (upd (upd (upd (upd (upd (upd F 2 (nI sz)) 5 (nI cs)) 6 (nI rg)) 7 (nI hd)) 8 (nI dp)) 12 (nI vr)) 16 ls9) 5 (nI cs2)) 2 (nI sz)) 5 (nI cs2)) 6 (nI rg)) 7 (nI hd)) 8 (nI dp)) 12 (nI vr)) 16 ls9) (updR (updR (updR (updR (updR (updR R 2 (.ref pq)) 3 (.ref mq)) 4 (va_rf lo)) 2 (.ref pq)) 3 (.ref mq)) 4 (va_rf lo)) Z B2 J K w := hO.to rfl
      obtain ⟨_, qr257, hqr258⟩ := hO.2.1 24 _ (sg_24 G h0 a _ _ _ _ _)
      refine pn_V0 (G := G) (As := [.ref q]) (rest := []) hx hb hml hown hq hE hX pX0_al hP hD hS hA hl.1 (B_loop l G h0 a (upd (upd (upd (upd (upd (upd (upd (upd F 2 (nI sz)) 5 (nI cs)) 6 (nI rg)) 7 (nI hd)) 8 (nI dp)) 12 (nI vr)) 16 ls9) 5 (nI cs2)) (updR (updR (updR R 2 (.ref pq)) 3 (.ref mq)) 4 (va_rf lo)) Z B2 J K w pq dr ml nd nm cp it s9 q mq cs2 vr sz n q4 hd dp rg ls9 lo g rk (by omega) (BdE.wp BdE.rfl hwp) (BdE.pt BdE.rfl hwp hps) (BdE.rko BdE.rfl hrk) (by omega) (by omega) hng2 hmq hqT hqL hc3 ht3 hv3 (by omega) (by omega) (by omega) (LpO.be BdE.rfl hlo) (Or.inr hkd) ist (IhV.all l G _) hO hl0) (gV pw_327 pw_328 pw_329 pw_63 pw_312) hV_X0_loopStatement qr257 0 hqr258 rfl rfl rfl (Nat.le_of_ble_eq_true rfl) dX0_statement_122 ⟨(by show 0 + ((rE (g 2 q) - rS (g 2 q)) + 1) ≤ ((rE (g 2 q) - rS (g 2 q)) + 1); omega), (by show 0 + (6 * (rE (g 2 q) - rS (g 2 q)) + 6) ≤ (6 * (rE (g 2 q) - rS (g 2 q)) + 6); omega)⟩ ⟨(by show (5 * n + 46) + 1 ≤ (5 * n + 50); omega), (by show 8 + (7 + 11) + (200 * n + 1120) ≤ (200 * n + 1200); omega)⟩ (fun v256 u254 H locs hw255 hP hD hS => ?_) (fun ux ce9 q9 H9 locs9 hux hP9 hD9 hS9 hce hcv hcl => pb_out ux (ThQ.up (Thx.same (Thx.same (Thx.same (Thx.same (Thx.same (Thx.same (Thx.same (Thx.f (Bth.thx hbb2) (by omega)) rfl) rfl) rfl) rfl) rfl) rfl) rfl) hux) hnt hlocks hce hcv hcl hP9 hD9 hS9 (by show 0 + ((rE (g 2 q) - rS (g 2 q)) + 1) ≤ ((rE (g 2 q) - rS (g 2 q)) + 1); omega) (by show 0 + (6 * (rE (g 2 q) - rS (g 2 q)) + 6) ≤ (6 * (rE (g 2 q) - rS (g 2 q)) + 6); omega))
      obtain ⟨w, K259, B260, cs261, as262, wt263, wf264, vr265, hd266, dp267, rg268, ls269⟩ := u254
      obtain ⟨hw255, h270, h271, h272, h273, hO⟩ := hw255
      have h270 : BdE K K259 := h270
      have h271 : Bth B2 B260 := h271
      have h272 : cs261 ≤ 10000 ∧ rg268 ≤ 625 ∧ dp267 ≤ 1000 := h272
      have h273 : vr ≤ vr265 ∧ vr265 ≤ 30 ∧ hd266 + vr = hd + vr265 := h273
      obtain rfl : v256 = none := hw255
      have hf274 : K259.1 pq = 7 := (BdE.T h270 hp1 (by decide))
      have hf275 : K259.2.2.1 18 pq = some (a 1) := (BdE.C h270 (by rw [hp1]; decide) 18).trans hp2
      have hf276 : K259.2.2.1 14 pq = some dr := (BdE.C h270 (by rw [hp1]; decide) 14).trans hp3
      have hf277 : K259.1 dr = 8 := (BdE.T h270 hp4 (by decide))
      have hf278 : K259.2.2.1 15 pq = some ml := (BdE.C h270 (by rw [hp1]; decide) 15).trans hp5
      have hf279 : K259.1 ml = 5 := (BdE.T h270 hp6 (by decide))
      have hf280 : K259.2.1 24 pq = (nI nd) := (BdE.I h270 (by rw [hp1]; decide) (by decide) (by decide)).trans hp8
      have hf281 : K259.1 q = 1 := (BdE.T h270 hqT (by decide))
      have hf282 : K259.1 mq = 3 := (BdE.T h270 hmq (by decide))
      have hf283 : K259.2.1 0 q = 27 := (BdE.I h270 (by rw [hqT]; decide) (by decide) (by decide)).trans hkd
      have hf284 : K259.2.2.1 3 q = some q4 := (BdE.C h270 (by rw [hqT]; decide) 3).trans hc3
      have hf285 : K259.1 q4 = 1 := (BdE.T h270 ht3 (by decide))
      have hO : OKP G h0 a (upd (upd (upd (upd (upd (upd (upd (upd (upd (upd F 2 (nI sz)) 5 (nI cs261)) 6 (nI rg268)) 7 (nI hd266)) 8 (nI dp267)) 12 (nI vr265)) 13 as262) 14 wt263) 15 wf264) 16 ls269) (updR (updR (updR R 2 (.ref pq)) 3 (.ref mq)) 4 (va_rf lo)) Z B260 J K259 w := hO.to rfl
      refine W.widen (k := (rE (g 2 q) - rS (g 2 q))) (n := (6 * (rE (g 2 q) - rS (g 2 q)))) (by show 0 + (rE (g 2 q) - rS (g 2 q)) ≤ (rE (g 2 q) - rS (g 2 q)); omega) (by show 0 + (6 * (rE (g 2 q) - rS (g 2 q))) ≤ (6 * (rE (g 2 q) - rS (g 2 q))); omega) ?_
      refine W.eq (g2 := F0 m 125 ls []) rfl ?_
      have hbe286 := BdE.trans BdE.rfl h270
      have hbb287 : Bth B B260 := Bth.trans (show Thx (upd (upd (upd (upd (upd (upd (upd F 2 (nI sz)) 5 (nI cs)) 6 (nI rg)) 7 (nI hd)) 8 (nI dp)) 12 (nI vr)) 16 ls9) (upd (upd (upd (upd (upd (upd (upd (upd F 2 (nI sz)) 5 (nI cs)) 6 (nI rg)) 7 (nI hd)) 8 (nI dp)) 12 (nI vr)) 16 ls9) 5 (nI cs2)) B B2 from (Thx.f (Bth.thx hbb2) (by omega))).2 h271
      have hng288 : Nng (B260 18) := h271.2 hng2
      refine lv_goto (tgt := 241) hx hb dX0_statement_125 (by decide) ?_
      refine W_size (fun hz1 hz2 => ?_)
      refine vx_ret ?_
      have hz289 : BdE K K259 := hbe286
      have hz290 : Bth B B260 := (show Thx (upd (upd (upd (upd (upd (upd (upd F 2 (nI sz)) 5 (nI cs)) 6 (nI rg)) 7 (nI hd)) 8 (nI dp)) 12 (nI vr)) 16 ls9) (upd (upd (upd (upd (upd (upd (upd (upd (upd (upd (upd (upd (upd (upd (upd (upd F 2 (nI sz)) 5 (nI cs)) 6 (nI rg)) 7 (nI hd)) 8 (nI dp)) 12 (nI vr)) 16 ls9) 5 (nI cs261)) 6 (nI rg268)) 7 (nI hd266)) 8 (nI dp267)) 12 (nI vr265)) 13 as262) 14 wt263) 15 wf264) 16 ls269) B B260 from (Thx.f (Thx.f (Thx.f (Thx.f (Thx.f (Thx.f (Thx.f (Thx.f (Thx.f (Bth.thx hbb287) (by omega)) (by omega)) (by omega)) (by omega)) (by omega)) (by omega)) (by omega)) (by omega)) (by omega))).2
      have hz291 : cs261 ≤ 10000 ∧ rg268 ≤ 625 ∧ dp267 ≤ 1000 := (by omega)
      have hz292 : vr ≤ vr265 ∧ vr265 ≤ 30 ∧ hd266 + vr = hd + vr265 := (by omega)
      have hO : OKP G h0 a (upd (upd (upd (upd (upd (upd (upd (upd (upd (upd F 2 (nI sz)) 5 (nI cs261)) 6 (nI rg268)) 7 (nI hd266)) 8 (nI dp267)) 12 (nI vr265)) 13 as262) 14 wt263) 15 wf264) 16 ls269) (updR (updR (updR R 2 (.ref pq)) 3 (.ref mq)) 4 (va_rf lo)) Z B260 J K259 w := hO.to rfl
      refine W.widen (k := ((rE (g 2 q) - rS (g 2 q)) + 1)) (n := (6 * (rE (g 2 q) - rS (g 2 q)) + 6)) (by omega) (by omega) ?_
      have hzz1 : H.size ≤ s.heap.size + ((rE (g 2 q) - rS (g 2 q))) := (by have z : (rE (g 2 q) - rS (g 2 q)) ≤ (rE (g 2 q) - rS (g 2 q)) := (by omega); omega)
      have hzz2 : hSl H ≤ hSl s.heap + ((6 * (rE (g 2 q) - rS (g 2 q)))) := (by have z : (6 * (rE (g 2 q) - rS (g 2 q))) ≤ (6 * (rE (g 2 q) - rS (g 2 q))) := (by omega); omega)
      exact W.vret hx hb hr (fun t99 ht99 hW99 => ⟨⟨_, (w, (K259, B260, cs261, as262, wt263, wf264, vr265, hd266, dp267, rg268, ls269)), rfl, ⟨rfl, hz289, hz290, hz291, hz292, hO⟩, by rw [ht99]; exact hP, hD, by rw [ht99]; exact hzz1, by rw [ht99]; exact hzz2⟩, hS.F ht99⟩) hS.2.2 dX0_statement_241
    by_cases h293 : kd = 28
    · subst h293
      refine lv_tableIn (tgt := 128) (off := 92) hx hb dX0_statement_36 (by decide) (by decide) (by decide) (by decide) ?_
      refine lv_aload_n hx hb dX0_statement_128 rfl (lv_at hl 2 rfl) ?_
      refine lv_aload_n hx hb dX0_statement_129 rfl (lv_at hl 1 rfl) ?_
      have hO : OKP G h0 a (upd (upd (upd (upd (upd (upd (upd (upd (upd (upd (upd (upd (upd (upd (upd F 2 (nI sz)) 5 (nI cs)) 6 (nI rg)) 7 (nI hd)) 8 (nI dp)) 12 (nI vr)) 16 ls9) 5 (nI cs2)) 2 (nI sz)) 5 (nI cs2)) 6 (nI rg)) 7 (nI hd)) 8 (nI dp)) 12 (nI vr)) 16 ls9) (updR (updR (updR (updR (updR (updR R 2 (.ref pq)) 3 (.ref mq)) 4 (va_rf lo)) 2 (.ref pq)) 3 (.ref mq)) 4 (va_rf lo)) Z B2 J K w := hO.to rfl
      obtain ⟨_, qr297, hqr298⟩ := hO.2.1 24 _ (sg_24 G h0 a _ _ _ _ _)
      refine pn_V0 (G := G) (As := [.ref q]) (rest := []) hx hb hml hown hq hE hX pX0_al hP hD hS hA hl.1 (B_return l G h0 a (upd (upd (upd (upd (upd (upd (upd (upd F 2 (nI sz)) 5 (nI cs)) 6 (nI rg)) 7 (nI hd)) 8 (nI dp)) 12 (nI vr)) 16 ls9) 5 (nI cs2)) (updR (updR (updR R 2 (.ref pq)) 3 (.ref mq)) 4 (va_rf lo)) Z B2 J K w pq dr ml nd nm cp it s9 q mq cs2 vr sz n hd dp rg ls9 lo g rk (by omega) (BdE.wp BdE.rfl hwp) (BdE.pt BdE.rfl hwp hps) (BdE.rko BdE.rfl hrk) (by omega) (by omega) hng2 hmq hqT hqL (by omega) (by omega) (by omega) (LpO.be BdE.rfl hlo) (IhV.all l G _) hO hl0) (gV pw_330 pw_331 pw_332 pw_63 pw_280) hV_X0_returnStatement qr297 0 hqr298 rfl rfl rfl (Nat.le_of_ble_eq_true rfl) dX0_statement_130 ⟨(by show 0 + 1 ≤ ((rE (g 2 q) - rS (g 2 q)) + 1); omega), (by show 0 + 6 ≤ (6 * (rE (g 2 q) - rS (g 2 q)) + 6); omega)⟩ ⟨(by show (5 * n + 33) + 1 ≤ (5 * n + 50); omega), (by show 8 + (2 + 11) + (200 * n + 560) ≤ (200 * n + 1200); omega)⟩ (fun v296 u294 H locs hw295 hP hD hS => ?_) (fun ux ce9 q9 H9 locs9 hux hP9 hD9 hS9 hce hcv hcl => pb_out ux (ThQ.up (Thx.same (Thx.same (Thx.same (Thx.same (Thx.same (Thx.same (Thx.same (Thx.f (Bth.thx hbb2) (by omega)) rfl) rfl) rfl) rfl) rfl) rfl) rfl) hux) hnt hlocks hce hcv hcl hP9 hD9 hS9 (by show 0 + 1 ≤ ((rE (g 2 q) - rS (g 2 q)) + 1); omega) (by show 0 + 6 ≤ (6 * (rE (g 2 q) - rS (g 2 q)) + 6); omega))
      obtain ⟨w, K299, B300, cs301, as302, wt303, wf304, vr305, hd306, dp307, rg308, ls309⟩ := u294
      obtain ⟨hw295, h310, h311, h312, h313, hO⟩ := hw295
      have h310 : BdE K K299 := h310
      have h311 : Bth B2 B300 := h311
      have h312 : cs301 ≤ 10000 ∧ rg308 ≤ 625 ∧ dp307 ≤ 1000 := h312
      have h313 : vr ≤ vr305 ∧ vr305 ≤ 30 ∧ hd306 + vr = hd + vr305 := h313
      obtain rfl : v296 = none := hw295
      have hf314 : K299.1 pq = 7 := (BdE.T h310 hp1 (by decide))
      have hf315 : K299.2.2.1 18 pq = some (a 1) := (BdE.C h310 (by rw [hp1]; decide) 18).trans hp2
      have hf316 : K299.2.2.1 14 pq = some dr := (BdE.C h310 (by rw [hp1]; decide) 14).trans hp3
      have hf317 : K299.1 dr = 8 := (BdE.T h310 hp4 (by decide))
      have hf318 : K299.2.2.1 15 pq = some ml := (BdE.C h310 (by rw [hp1]; decide) 15).trans hp5
      have hf319 : K299.1 ml = 5 := (BdE.T h310 hp6 (by decide))
      have hf320 : K299.2.1 24 pq = (nI nd) := (BdE.I h310 (by rw [hp1]; decide) (by decide) (by decide)).trans hp8
      have hf321 : K299.1 q = 1 := (BdE.T h310 hqT (by decide))
      have hf322 : K299.1 mq = 3 := (BdE.T h310 hmq (by decide))
      have hf323 : K299.2.1 0 q = 28 := (BdE.I h310 (by rw [hqT]; decide) (by decide) (by decide)).trans hkd
      have hO : OKP G h0 a (upd (upd (upd (upd (upd (upd (upd (upd (upd (upd F 2 (nI sz)) 5 (nI cs301)) 6 (nI rg308)) 7 (nI hd306)) 8 (nI dp307)) 12 (nI vr305)) 13 as302) 14 wt303) 15 wf304) 16 ls309) (updR (updR (updR R 2 (.ref pq)) 3 (.ref mq)) 4 (va_rf lo)) Z B300 J K299 w := hO.to rfl
      refine W.widen (k := 0) (n := 0) (by show 0 + 0 ≤ 0; omega) (by show 0 + 0 ≤ 0; omega) ?_
      refine W.eq (g2 := F0 m 133 ls []) rfl ?_
      have hbe324 := BdE.trans BdE.rfl h310
      have hbb325 : Bth B B300 := Bth.trans (show Thx (upd (upd (upd (upd (upd (upd (upd F 2 (nI sz)) 5 (nI cs)) 6 (nI rg)) 7 (nI hd)) 8 (nI dp)) 12 (nI vr)) 16 ls9) (upd (upd (upd (upd (upd (upd (upd (upd F 2 (nI sz)) 5 (nI cs)) 6 (nI rg)) 7 (nI hd)) 8 (nI dp)) 12 (nI vr)) 16 ls9) 5 (nI cs2)) B B2 from (Thx.f (Bth.thx hbb2) (by omega))).2 h311
      have hng326 : Nng (B300 18) := h311.2 hng2
      refine lv_goto (tgt := 241) hx hb dX0_statement_133 (by decide) ?_
      refine W_size (fun hz1 hz2 => ?_)
      refine vx_ret ?_
      have hz327 : BdE K K299 := hbe324
      have hz328 : Bth B B300 := (show Thx (upd (upd (upd (upd (upd (upd (upd F 2 (nI sz)) 5 (nI cs)) 6 (nI rg)) 7 (nI hd)) 8 (nI dp)) 12 (nI vr)) 16 ls9) (upd (upd (upd (upd (upd (upd (upd (upd (upd (upd (upd (upd (upd (upd (upd (upd F 2 (nI sz)) 5 (nI cs)) 6 (nI rg)) 7 (nI hd)) 8 (nI dp)) 12 (nI vr)) 16 ls9) 5 (nI cs301)) 6 (nI rg308)) 7 (nI hd306)) 8 (nI dp307)) 12 (nI vr305)) 13 as302) 14 wt303) 15 wf304) 16 ls309) B B300 from (Thx.f (Thx.f (Thx.f (Thx.f (Thx.f (Thx.f (Thx.f (Thx.f (Thx.f (Bth.thx hbb325) (by omega)) (by omega)) (by omega)) (by omega)) (by omega)) (by omega)) (by omega)) (by omega)) (by omega))).2
      have hz329 : cs301 ≤ 10000 ∧ rg308 ≤ 625 ∧ dp307 ≤ 1000 := (by omega)
      have hz330 : vr ≤ vr305 ∧ vr305 ≤ 30 ∧ hd306 + vr = hd + vr305 := (by omega)
      have hO : OKP G h0 a (upd (upd (upd (upd (upd (upd (upd (upd (upd (upd F 2 (nI sz)) 5 (nI cs301)) 6 (nI rg308)) 7 (nI hd306)) 8 (nI dp307)) 12 (nI vr305)) 13 as302) 14 wt303) 15 wf304) 16 ls309) (updR (updR (updR R 2 (.ref pq)) 3 (.ref mq)) 4 (va_rf lo)) Z B300 J K299 w := hO.to rfl
      refine W.widen (k := ((rE (g 2 q) - rS (g 2 q)) + 1)) (n := (6 * (rE (g 2 q) - rS (g 2 q)) + 6)) (by omega) (by omega) ?_
      have hzz1 : H.size ≤ s.heap.size + ((rE (g 2 q) - rS (g 2 q))) := (by have z : 0 ≤ (rE (g 2 q) - rS (g 2 q)) := (by omega); omega)
      have hzz2 : hSl H ≤ hSl s.heap + ((6 * (rE (g 2 q) - rS (g 2 q)))) := (by have z : 0 ≤ (6 * (rE (g 2 q) - rS (g 2 q))) := (by omega); omega)
      exact W.vret hx hb hr (fun t99 ht99 hW99 => ⟨⟨_, (w, (K299, B300, cs301, as302, wt303, wf304, vr305, hd306, dp307, rg308, ls309)), rfl, ⟨rfl, hz327, hz328, hz329, hz330, hO⟩, by rw [ht99]; exact hP, hD, by rw [ht99]; exact hzz1, by rw [ht99]; exact hzz2⟩, hS.F ht99⟩) hS.2.2 dX0_statement_241
    by_cases h331 : kd = 29
    · subst h331
      refine lv_tableIn (tgt := 136) (off := 100) hx hb dX0_statement_36 (by decide) (by decide) (by decide) (by decide) ?_
      refine lv_aload_n hx hb dX0_statement_136 rfl (lv_at hl 2 rfl) ?_
      refine lv_aload_n hx hb dX0_statement_137 rfl (lv_at hl 1 rfl) ?_
      have hO : OKP G h0 a (upd (upd (upd (upd (upd (upd (upd (upd (upd (upd (upd (upd (upd (upd (upd F 2 (nI sz)) 5 (nI cs)) 6 (nI rg)) 7 (nI hd)) 8 (nI dp)) 12 (nI vr)) 16 ls9) 5 (nI cs2)) 2 (nI sz)) 5 (nI cs2)) 6 (nI rg)) 7 (nI hd)) 8 (nI dp)) 12 (nI vr)) 16 ls9) (updR (updR (updR (updR (updR (updR R 2 (.ref pq)) 3 (.ref mq)) 4 (va_rf lo)) 2 (.ref pq)) 3 (.ref mq)) 4 (va_rf lo)) Z B2 J K w := hO.to rfl
      obtain ⟨_, qr335, hqr336⟩ := hO.2.1 24 _ (sg_24 G h0 a _ _ _ _ _)
      refine pn_V0 (G := G) (As := [.ref q]) (rest := []) hx hb hml hown hq hE hX pX0_al hP hD hS hA hl.1 (B_jump l G h0 a (upd (upd (upd (upd (upd (upd (upd (upd F 2 (nI sz)) 5 (nI cs)) 6 (nI rg)) 7 (nI hd)) 8 (nI dp)) 12 (nI vr)) 16 ls9) 5 (nI cs2)) (updR (updR (updR R 2 (.ref pq)) 3 (.ref mq)) 4 (va_rf lo)) Z B2 J K w pq dr ml nd nm cp it s9 q mq cs2 vr sz n hd dp rg ls9 lo g rk (by omega) (BdE.wp BdE.rfl hwp) (BdE.pt BdE.rfl hwp hps) (BdE.rko BdE.rfl hrk) (by omega) (by omega) hng2 hmq hqT hqL (by omega) (by omega) (by omega) (LpO.be BdE.rfl hlo) hO hl0) (gV pw_333 pw_334 pw_335 pw_63 pw_286) hV_X0_jumpStatement qr335 0 hqr336 rfl rfl rfl (Nat.le_of_ble_eq_true rfl) dX0_statement_138 ⟨(by show 0 + 1 ≤ ((rE (g 2 q) - rS (g 2 q)) + 1); omega), (by show 0 + 6 ≤ (6 * (rE (g 2 q) - rS (g 2 q)) + 6); omega)⟩ ⟨(by show (5 * n + 33) + 1 ≤ (5 * n + 50); omega), (by show 8 + (3 + 11) + (200 * n + 560) ≤ (200 * n + 1200); omega)⟩ (fun v334 u332 H locs hw333 hP hD hS => ?_) (fun ux ce9 q9 H9 locs9 hux hP9 hD9 hS9 hce hcv hcl => pb_out ux (ThQ.up (Thx.same (Thx.same (Thx.same (Thx.same (Thx.same (Thx.same (Thx.same (Thx.f (Bth.thx hbb2) (by omega)) rfl) rfl) rfl) rfl) rfl) rfl) rfl) hux) hnt hlocks hce hcv hcl hP9 hD9 hS9 (by show 0 + 1 ≤ ((rE (g 2 q) - rS (g 2 q)) + 1); omega) (by show 0 + 6 ≤ (6 * (rE (g 2 q) - rS (g 2 q)) + 6); omega))
      obtain ⟨w, K337, B338, cs339, as340, wt341, wf342, vr343, hd344, dp345, rg346, ls347⟩ := u332
      obtain ⟨hw333, h348, h349, h350, h351, hO⟩ := hw333
      have h348 : BdE K K337 := h348
      have h349 : Bth B2 B338 := h349
      have h350 : cs339 ≤ 10000 ∧ rg346 ≤ 625 ∧ dp345 ≤ 1000 := h350
      have h351 : vr ≤ vr343 ∧ vr343 ≤ 30 ∧ hd344 + vr = hd + vr343 := h351
      obtain rfl : v334 = none := hw333
      have hf352 : K337.1 pq = 7 := (BdE.T h348 hp1 (by decide))
      have hf353 : K337.2.2.1 18 pq = some (a 1) := (BdE.C h348 (by rw [hp1]; decide) 18).trans hp2
      have hf354 : K337.2.2.1 14 pq = some dr := (BdE.C h348 (by rw [hp1]; decide) 14).trans hp3
      have hf355 : K337.1 dr = 8 := (BdE.T h348 hp4 (by decide))
      have hf356 : K337.2.2.1 15 pq = some ml := (BdE.C h348 (by rw [hp1]; decide) 15).trans hp5
      have hf357 : K337.1 ml = 5 := (BdE.T h348 hp6 (by decide))
      have hf358 : K337.2.1 24 pq = (nI nd) := (BdE.I h348 (by rw [hp1]; decide) (by decide) (by decide)).trans hp8
      have hf359 : K337.1 q = 1 := (BdE.T h348 hqT (by decide))
      have hf360 : K337.1 mq = 3 := (BdE.T h348 hmq (by decide))
      have hf361 : K337.2.1 0 q = 29 := (BdE.I h348 (by rw [hqT]; decide) (by decide) (by decide)).trans hkd
      have hO : OKP G h0 a (upd (upd (upd (upd (upd (upd (upd (upd (upd (upd F 2 (nI sz)) 5 (nI cs339)) 6 (nI rg346)) 7 (nI hd344)) 8 (nI dp345)) 12 (nI vr343)) 13 as340) 14 wt341) 15 wf342) 16 ls347) (updR (updR (updR R 2 (.ref pq)) 3 (.ref mq)) 4 (va_rf lo)) Z B338 J K337 w := hO.to rfl
      refine W.widen (k := 0) (n := 0) (by show 0 + 0 ≤ 0; omega) (by show 0 + 0 ≤ 0; omega) ?_
      refine W.eq (g2 := F0 m 141 ls []) rfl ?_
      have hbe362 := BdE.trans BdE.rfl h348
      have hbb363 : Bth B B338 := Bth.trans (show Thx (upd (upd (upd (upd (upd (upd (upd F 2 (nI sz)) 5 (nI cs)) 6 (nI rg)) 7 (nI hd)) 8 (nI dp)) 12 (nI vr)) 16 ls9) (upd (upd (upd (upd (upd (upd (upd (upd F 2 (nI sz)) 5 (nI cs)) 6 (nI rg)) 7 (nI hd)) 8 (nI dp)) 12 (nI vr)) 16 ls9) 5 (nI cs2)) B B2 from (Thx.f (Bth.thx hbb2) (by omega))).2 h349
      have hng364 : Nng (B338 18) := h349.2 hng2
      refine lv_goto (tgt := 241) hx hb dX0_statement_141 (by decide) ?_
      refine W_size (fun hz1 hz2 => ?_)
      refine vx_ret ?_
      have hz365 : BdE K K337 := hbe362
      have hz366 : Bth B B338 := (show Thx (upd (upd (upd (upd (upd (upd (upd F 2 (nI sz)) 5 (nI cs)) 6 (nI rg)) 7 (nI hd)) 8 (nI dp)) 12 (nI vr)) 16 ls9) (upd (upd (upd (upd (upd (upd (upd (upd (upd (upd (upd (upd (upd (upd (upd (upd F 2 (nI sz)) 5 (nI cs)) 6 (nI rg)) 7 (nI hd)) 8 (nI dp)) 12 (nI vr)) 16 ls9) 5 (nI cs339)) 6 (nI rg346)) 7 (nI hd344)) 8 (nI dp345)) 12 (nI vr343)) 13 as340) 14 wt341) 15 wf342) 16 ls347) B B338 from (Thx.f (Thx.f (Thx.f (Thx.f (Thx.f (Thx.f (Thx.f (Thx.f (Thx.f (Bth.thx hbb363) (by omega)) (by omega)) (by omega)) (by omega)) (by omega)) (by omega)) (by omega)) (by omega)) (by omega))).2
      have hz367 : cs339 ≤ 10000 ∧ rg346 ≤ 625 ∧ dp345 ≤ 1000 := (by omega)
      have hz368 : vr ≤ vr343 ∧ vr343 ≤ 30 ∧ hd344 + vr = hd + vr343 := (by omega)
      have hO : OKP G h0 a (upd (upd (upd (upd (upd (upd (upd (upd (upd (upd F 2 (nI sz)) 5 (nI cs339)) 6 (nI rg346)) 7 (nI hd344)) 8 (nI dp345)) 12 (nI vr343)) 13 as340) 14 wt341) 15 wf342) 16 ls347) (updR (updR (updR R 2 (.ref pq)) 3 (.ref mq)) 4 (va_rf lo)) Z B338 J K337 w := hO.to rfl
      refine W.widen (k := ((rE (g 2 q) - rS (g 2 q)) + 1)) (n := (6 * (rE (g 2 q) - rS (g 2 q)) + 6)) (by omega) (by omega) ?_
      have hzz1 : H.size ≤ s.heap.size + ((rE (g 2 q) - rS (g 2 q))) := (by have z : 0 ≤ (rE (g 2 q) - rS (g 2 q)) := (by omega); omega)
      have hzz2 : hSl H ≤ hSl s.heap + ((6 * (rE (g 2 q) - rS (g 2 q)))) := (by have z : 0 ≤ (6 * (rE (g 2 q) - rS (g 2 q))) := (by omega); omega)
      exact W.vret hx hb hr (fun t99 ht99 hW99 => ⟨⟨_, (w, (K337, B338, cs339, as340, wt341, wf342, vr343, hd344, dp345, rg346, ls347)), rfl, ⟨rfl, hz365, hz366, hz367, hz368, hO⟩, by rw [ht99]; exact hP, hD, by rw [ht99]; exact hzz1, by rw [ht99]; exact hzz2⟩, hS.F ht99⟩) hS.2.2 dX0_statement_241
    by_cases h369 : kd = 30
    · subst h369
      refine lv_tableIn (tgt := 136) (off := 100) hx hb dX0_statement_36 (by decide) (by decide) (by decide) (by decide) ?_
      refine lv_aload_n hx hb dX0_statement_136 rfl (lv_at hl 2 rfl) ?_
      refine lv_aload_n hx hb dX0_statement_137 rfl (lv_at hl 1 rfl) ?_
      have hO : OKP G h0 a (upd (upd (upd (upd (upd (upd (upd (upd (upd (upd (upd (upd (upd (upd (upd F 2 (nI sz)) 5 (nI cs)) 6 (nI rg)) 7 (nI hd)) 8 (nI dp)) 12 (nI vr)) 16 ls9) 5 (nI cs2)) 2 (nI sz)) 5 (nI cs2)) 6 (nI rg)) 7 (nI hd)) 8 (nI dp)) 12 (nI vr)) 16 ls9) (updR (updR (updR (updR (updR (updR R 2 (.ref pq)) 3 (.ref mq)) 4 (va_rf lo)) 2 (.ref pq)) 3 (.ref mq)) 4 (va_rf lo)) Z B2 J K w := hO.to rfl
      obtain ⟨_, qr373, hqr374⟩ := hO.2.1 24 _ (sg_24 G h0 a _ _ _ _ _)
      refine pn_V0 (G := G) (As := [.ref q]) (rest := []) hx hb hml hown hq hE hX pX0_al hP hD hS hA hl.1 (B_jump l G h0 a (upd (upd (upd (upd (upd (upd (upd (upd F 2 (nI sz)) 5 (nI cs)) 6 (nI rg)) 7 (nI hd)) 8 (nI dp)) 12 (nI vr)) 16 ls9) 5 (nI cs2)) (updR (updR (updR R 2 (.ref pq)) 3 (.ref mq)) 4 (va_rf lo)) Z B2 J K w pq dr ml nd nm cp it s9 q mq cs2 vr sz n hd dp rg ls9 lo g rk (by omega) (BdE.wp BdE.rfl hwp) (BdE.pt BdE.rfl hwp hps) (BdE.rko BdE.rfl hrk) (by omega) (by omega) hng2 hmq hqT hqL (by omega) (by omega) (by omega) (LpO.be BdE.rfl hlo) hO hl0) (gV pw_333 pw_334 pw_335 pw_63 pw_286) hV_X0_jumpStatement qr373 0 hqr374 rfl rfl rfl (Nat.le_of_ble_eq_true rfl) dX0_statement_138 ⟨(by show 0 + 1 ≤ ((rE (g 2 q) - rS (g 2 q)) + 1); omega), (by show 0 + 6 ≤ (6 * (rE (g 2 q) - rS (g 2 q)) + 6); omega)⟩ ⟨(by show (5 * n + 33) + 1 ≤ (5 * n + 50); omega), (by show 8 + (3 + 11) + (200 * n + 560) ≤ (200 * n + 1200); omega)⟩ (fun v372 u370 H locs hw371 hP hD hS => ?_) (fun ux ce9 q9 H9 locs9 hux hP9 hD9 hS9 hce hcv hcl => pb_out ux (ThQ.up (Thx.same (Thx.same (Thx.same (Thx.same (Thx.same (Thx.same (Thx.same (Thx.f (Bth.thx hbb2) (by omega)) rfl) rfl) rfl) rfl) rfl) rfl) rfl) hux) hnt hlocks hce hcv hcl hP9 hD9 hS9 (by show 0 + 1 ≤ ((rE (g 2 q) - rS (g 2 q)) + 1); omega) (by show 0 + 6 ≤ (6 * (rE (g 2 q) - rS (g 2 q)) + 6); omega))
      obtain ⟨w, K375, B376, cs377, as378, wt379, wf380, vr381, hd382, dp383, rg384, ls385⟩ := u370
      obtain ⟨hw371, h386, h387, h388, h389, hO⟩ := hw371
      have h386 : BdE K K375 := h386
      have h387 : Bth B2 B376 := h387
      have h388 : cs377 ≤ 10000 ∧ rg384 ≤ 625 ∧ dp383 ≤ 1000 := h388
      have h389 : vr ≤ vr381 ∧ vr381 ≤ 30 ∧ hd382 + vr = hd + vr381 := h389
      obtain rfl : v372 = none := hw371
      have hf390 : K375.1 pq = 7 := (BdE.T h386 hp1 (by decide))
      have hf391 : K375.2.2.1 18 pq = some (a 1) := (BdE.C h386 (by rw [hp1]; decide) 18).trans hp2
      have hf392 : K375.2.2.1 14 pq = some dr := (BdE.C h386 (by rw [hp1]; decide) 14).trans hp3
      have hf393 : K375.1 dr = 8 := (BdE.T h386 hp4 (by decide))
      have hf394 : K375.2.2.1 15 pq = some ml := (BdE.C h386 (by rw [hp1]; decide) 15).trans hp5
      have hf395 : K375.1 ml = 5 := (BdE.T h386 hp6 (by decide))
      have hf396 : K375.2.1 24 pq = (nI nd) := (BdE.I h386 (by rw [hp1]; decide) (by decide) (by decide)).trans hp8
      have hf397 : K375.1 q = 1 := (BdE.T h386 hqT (by decide))
      have hf398 : K375.1 mq = 3 := (BdE.T h386 hmq (by decide))
      have hf399 : K375.2.1 0 q = 30 := (BdE.I h386 (by rw [hqT]; decide) (by decide) (by decide)).trans hkd
      have hO : OKP G h0 a (upd (upd (upd (upd (upd (upd (upd (upd (upd (upd F 2 (nI sz)) 5 (nI cs377)) 6 (nI rg384)) 7 (nI hd382)) 8 (nI dp383)) 12 (nI vr381)) 13 as378) 14 wt379) 15 wf380) 16 ls385) (updR (updR (updR R 2 (.ref pq)) 3 (.ref mq)) 4 (va_rf lo)) Z B376 J K375 w := hO.to rfl
      refine W.widen (k := 0) (n := 0) (by show 0 + 0 ≤ 0; omega) (by show 0 + 0 ≤ 0; omega) ?_
      refine W.eq (g2 := F0 m 141 ls []) rfl ?_
      have hbe400 := BdE.trans BdE.rfl h386
      have hbb401 : Bth B B376 := Bth.trans (show Thx (upd (upd (upd (upd (upd (upd (upd F 2 (nI sz)) 5 (nI cs)) 6 (nI rg)) 7 (nI hd)) 8 (nI dp)) 12 (nI vr)) 16 ls9) (upd (upd (upd (upd (upd (upd (upd (upd F 2 (nI sz)) 5 (nI cs)) 6 (nI rg)) 7 (nI hd)) 8 (nI dp)) 12 (nI vr)) 16 ls9) 5 (nI cs2)) B B2 from (Thx.f (Bth.thx hbb2) (by omega))).2 h387
      have hng402 : Nng (B376 18) := h387.2 hng2
      refine lv_goto (tgt := 241) hx hb dX0_statement_141 (by decide) ?_
      refine W_size (fun hz1 hz2 => ?_)
      refine vx_ret ?_
      have hz403 : BdE K K375 := hbe400
      have hz404 : Bth B B376 := (show Thx (upd (upd (upd (upd (upd (upd (upd F 2 (nI sz)) 5 (nI cs)) 6 (nI rg)) 7 (nI hd)) 8 (nI dp)) 12 (nI vr)) 16 ls9) (upd (upd (upd (upd (upd (upd (upd (upd (upd (upd (upd (upd (upd (upd (upd (upd F 2 (nI sz)) 5 (nI cs)) 6 (nI rg)) 7 (nI hd)) 8 (nI dp)) 12 (nI vr)) 16 ls9) 5 (nI cs377)) 6 (nI rg384)) 7 (nI hd382)) 8 (nI dp383)) 12 (nI vr381)) 13 as378) 14 wt379) 15 wf380) 16 ls385) B B376 from (Thx.f (Thx.f (Thx.f (Thx.f (Thx.f (Thx.f (Thx.f (Thx.f (Thx.f (Bth.thx hbb401) (by omega)) (by omega)) (by omega)) (by omega)) (by omega)) (by omega)) (by omega)) (by omega)) (by omega))).2
      have hz405 : cs377 ≤ 10000 ∧ rg384 ≤ 625 ∧ dp383 ≤ 1000 := (by omega)
      have hz406 : vr ≤ vr381 ∧ vr381 ≤ 30 ∧ hd382 + vr = hd + vr381 := (by omega)
      have hO : OKP G h0 a (upd (upd (upd (upd (upd (upd (upd (upd (upd (upd F 2 (nI sz)) 5 (nI cs377)) 6 (nI rg384)) 7 (nI hd382)) 8 (nI dp383)) 12 (nI vr381)) 13 as378) 14 wt379) 15 wf380) 16 ls385) (updR (updR (updR R 2 (.ref pq)) 3 (.ref mq)) 4 (va_rf lo)) Z B376 J K375 w := hO.to rfl
      refine W.widen (k := ((rE (g 2 q) - rS (g 2 q)) + 1)) (n := (6 * (rE (g 2 q) - rS (g 2 q)) + 6)) (by omega) (by omega) ?_
      have hzz1 : H.size ≤ s.heap.size + ((rE (g 2 q) - rS (g 2 q))) := (by have z : 0 ≤ (rE (g 2 q) - rS (g 2 q)) := (by omega); omega)
      have hzz2 : hSl H ≤ hSl s.heap + ((6 * (rE (g 2 q) - rS (g 2 q)))) := (by have z : 0 ≤ (6 * (rE (g 2 q) - rS (g 2 q))) := (by omega); omega)
      exact W.vret hx hb hr (fun t99 ht99 hW99 => ⟨⟨_, (w, (K375, B376, cs377, as378, wt379, wf380, vr381, hd382, dp383, rg384, ls385)), rfl, ⟨rfl, hz403, hz404, hz405, hz406, hO⟩, by rw [ht99]; exact hP, hD, by rw [ht99]; exact hzz1, by rw [ht99]; exact hzz2⟩, hS.F ht99⟩) hS.2.2 dX0_statement_241
    by_cases h407 : kd = 31
    · subst h407
      refine lv_tableIn (tgt := 144) (off := 108) hx hb dX0_statement_36 (by decide) (by decide) (by decide) (by decide) ?_
      obtain ⟨q1, hc0, ht0, hw0⟩ := NdO.ch hnd (f := 0) (by decide) (hnd.1.1 (by rw [hkd]; decide))
      have hv0 : 1 ≤ g 0 q1 ∧ g 0 q1 + 1 ≤ n := ⟨hw0.1, (by have z := hw0.2; omega)⟩
      refine lv_aload_n hx hb dX0_statement_144 rfl (lv_at hl 2 rfl) ?_
      refine lv_aload_n hx hb dX0_statement_145 rfl (lv_at hl 1 rfl) ?_
      have hO : OKP G h0 a (upd (upd (upd (upd (upd (upd (upd (upd (upd (upd (upd (upd (upd (upd (upd F 2 (nI sz)) 5 (nI cs)) 6 (nI rg)) 7 (nI hd)) 8 (nI dp)) 12 (nI vr)) 16 ls9) 5 (nI cs2)) 2 (nI sz)) 5 (nI cs2)) 6 (nI rg)) 7 (nI hd)) 8 (nI dp)) 12 (nI vr)) 16 ls9) (updR (updR (updR (updR (updR (updR R 2 (.ref pq)) 3 (.ref mq)) 4 (va_rf lo)) 2 (.ref pq)) 3 (.ref mq)) 4 (va_rf lo)) Z B2 J K w := hO.to rfl
      obtain ⟨_, qr411, hqr412⟩ := hO.2.1 24 _ (sg_24 G h0 a _ _ _ _ _)
      refine pn_V0 (G := G) (As := [.ref q]) (rest := []) hx hb hml hown hq hE hX pX0_al hP hD hS hA hl.1 (B_throw l G h0 a (upd (upd (upd (upd (upd (upd (upd (upd F 2 (nI sz)) 5 (nI cs)) 6 (nI rg)) 7 (nI hd)) 8 (nI dp)) 12 (nI vr)) 16 ls9) 5 (nI cs2)) (updR (updR (updR R 2 (.ref pq)) 3 (.ref mq)) 4 (va_rf lo)) Z B2 J K w pq dr ml nd nm cp it s9 q mq cs2 vr sz n q1 hd dp rg ls9 lo g rk (by omega) (BdE.wp BdE.rfl hwp) (BdE.pt BdE.rfl hwp hps) (BdE.rko BdE.rfl hrk) (by omega) (by omega) hng2 hmq hqT hqL hc0 ht0 hv0 (by omega) (by omega) (by omega) (LpO.be BdE.rfl hlo) (IhV.all l G _) hO hl0) (gV pw_336 pw_337 pw_338 pw_63 pw_287) hV_X0_throwStatement qr411 0 hqr412 rfl rfl rfl (Nat.le_of_ble_eq_true rfl) dX0_statement_146 ⟨(by show 0 + 1 ≤ ((rE (g 2 q) - rS (g 2 q)) + 1); omega), (by show 0 + 6 ≤ (6 * (rE (g 2 q) - rS (g 2 q)) + 6); omega)⟩ ⟨(by show (5 * n + 33) + 1 ≤ (5 * n + 50); omega), (by show 8 + (3 + 11) + (200 * n + 560) ≤ (200 * n + 1200); omega)⟩ (fun v410 u408 H locs hw409 hP hD hS => ?_) (fun ux ce9 q9 H9 locs9 hux hP9 hD9 hS9 hce hcv hcl => pb_out ux (ThQ.up (Thx.same (Thx.same (Thx.same (Thx.same (Thx.same (Thx.same (Thx.same (Thx.f (Bth.thx hbb2) (by omega)) rfl) rfl) rfl) rfl) rfl) rfl) rfl) hux) hnt hlocks hce hcv hcl hP9 hD9 hS9 (by show 0 + 1 ≤ ((rE (g 2 q) - rS (g 2 q)) + 1); omega) (by show 0 + 6 ≤ (6 * (rE (g 2 q) - rS (g 2 q)) + 6); omega))
      obtain ⟨w, K413, B414, cs415, as416, wt417, wf418, vr419, hd420, dp421, rg422, ls423⟩ := u408
      obtain ⟨hw409, h424, h425, h426, h427, hO⟩ := hw409
      have h424 : BdE K K413 := h424
      have h425 : Bth B2 B414 := h425
      have h426 : cs415 ≤ 10000 ∧ rg422 ≤ 625 ∧ dp421 ≤ 1000 := h426
      have h427 : vr ≤ vr419 ∧ vr419 ≤ 30 ∧ hd420 + vr = hd + vr419 := h427
      obtain rfl : v410 = none := hw409
      have hf428 : K413.1 pq = 7 := (BdE.T h424 hp1 (by decide))
      have hf429 : K413.2.2.1 18 pq = some (a 1) := (BdE.C h424 (by rw [hp1]; decide) 18).trans hp2
      have hf430 : K413.2.2.1 14 pq = some dr := (BdE.C h424 (by rw [hp1]; decide) 14).trans hp3
      have hf431 : K413.1 dr = 8 := (BdE.T h424 hp4 (by decide))
      have hf432 : K413.2.2.1 15 pq = some ml := (BdE.C h424 (by rw [hp1]; decide) 15).trans hp5
      have hf433 : K413.1 ml = 5 := (BdE.T h424 hp6 (by decide))
      have hf434 : K413.2.1 24 pq = (nI nd) := (BdE.I h424 (by rw [hp1]; decide) (by decide) (by decide)).trans hp8
      have hf435 : K413.1 q = 1 := (BdE.T h424 hqT (by decide))
      have hf436 : K413.1 mq = 3 := (BdE.T h424 hmq (by decide))
      have hf437 : K413.2.1 0 q = 31 := (BdE.I h424 (by rw [hqT]; decide) (by decide) (by decide)).trans hkd
      have hf438 : K413.2.2.1 0 q = some q1 := (BdE.C h424 (by rw [hqT]; decide) 0).trans hc0
      have hf439 : K413.1 q1 = 1 := (BdE.T h424 ht0 (by decide))
      have hO : OKP G h0 a (upd (upd (upd (upd (upd (upd (upd (upd (upd (upd F 2 (nI sz)) 5 (nI cs415)) 6 (nI rg422)) 7 (nI hd420)) 8 (nI dp421)) 12 (nI vr419)) 13 as416) 14 wt417) 15 wf418) 16 ls423) (updR (updR (updR R 2 (.ref pq)) 3 (.ref mq)) 4 (va_rf lo)) Z B414 J K413 w := hO.to rfl
      refine W.widen (k := 0) (n := 0) (by show 0 + 0 ≤ 0; omega) (by show 0 + 0 ≤ 0; omega) ?_
      refine W.eq (g2 := F0 m 149 ls []) rfl ?_
      have hbe440 := BdE.trans BdE.rfl h424
      have hbb441 : Bth B B414 := Bth.trans (show Thx (upd (upd (upd (upd (upd (upd (upd F 2 (nI sz)) 5 (nI cs)) 6 (nI rg)) 7 (nI hd)) 8 (nI dp)) 12 (nI vr)) 16 ls9) (upd (upd (upd (upd (upd (upd (upd (upd F 2 (nI sz)) 5 (nI cs)) 6 (nI rg)) 7 (nI hd)) 8 (nI dp)) 12 (nI vr)) 16 ls9) 5 (nI cs2)) B B2 from (Thx.f (Bth.thx hbb2) (by omega))).2 h425
      have hng442 : Nng (B414 18) := h425.2 hng2
      refine lv_goto (tgt := 241) hx hb dX0_statement_149 (by decide) ?_
      refine W_size (fun hz1 hz2 => ?_)
      refine vx_ret ?_
      have hz443 : BdE K K413 := hbe440
      have hz444 : Bth B B414 := (show Thx (upd (upd (upd (upd (upd (upd (upd F 2 (nI sz)) 5 (nI cs)) 6 (nI rg)) 7 (nI hd)) 8 (nI dp)) 12 (nI vr)) 16 ls9) (upd (upd (upd (upd (upd (upd (upd (upd (upd (upd (upd (upd (upd (upd (upd (upd F 2 (nI sz)) 5 (nI cs)) 6 (nI rg)) 7 (nI hd)) 8 (nI dp)) 12 (nI vr)) 16 ls9) 5 (nI cs415)) 6 (nI rg422)) 7 (nI hd420)) 8 (nI dp421)) 12 (nI vr419)) 13 as416) 14 wt417) 15 wf418) 16 ls423) B B414 from (Thx.f (Thx.f (Thx.f (Thx.f (Thx.f (Thx.f (Thx.f (Thx.f (Thx.f (Bth.thx hbb441) (by omega)) (by omega)) (by omega)) (by omega)) (by omega)) (by omega)) (by omega)) (by omega)) (by omega))).2
      have hz445 : cs415 ≤ 10000 ∧ rg422 ≤ 625 ∧ dp421 ≤ 1000 := (by omega)
      have hz446 : vr ≤ vr419 ∧ vr419 ≤ 30 ∧ hd420 + vr = hd + vr419 := (by omega)
      have hO : OKP G h0 a (upd (upd (upd (upd (upd (upd (upd (upd (upd (upd F 2 (nI sz)) 5 (nI cs415)) 6 (nI rg422)) 7 (nI hd420)) 8 (nI dp421)) 12 (nI vr419)) 13 as416) 14 wt417) 15 wf418) 16 ls423) (updR (updR (updR R 2 (.ref pq)) 3 (.ref mq)) 4 (va_rf lo)) Z B414 J K413 w := hO.to rfl
      refine W.widen (k := ((rE (g 2 q) - rS (g 2 q)) + 1)) (n := (6 * (rE (g 2 q) - rS (g 2 q)) + 6)) (by omega) (by omega) ?_
      have hzz1 : H.size ≤ s.heap.size + ((rE (g 2 q) - rS (g 2 q))) := (by have z : 0 ≤ (rE (g 2 q) - rS (g 2 q)) := (by omega); omega)
      have hzz2 : hSl H ≤ hSl s.heap + ((6 * (rE (g 2 q) - rS (g 2 q)))) := (by have z : 0 ≤ (6 * (rE (g 2 q) - rS (g 2 q))) := (by omega); omega)
      exact W.vret hx hb hr (fun t99 ht99 hW99 => ⟨⟨_, (w, (K413, B414, cs415, as416, wt417, wf418, vr419, hd420, dp421, rg422, ls423)), rfl, ⟨rfl, hz443, hz444, hz445, hz446, hO⟩, by rw [ht99]; exact hP, hD, by rw [ht99]; exact hzz1, by rw [ht99]; exact hzz2⟩, hS.F ht99⟩) hS.2.2 dX0_statement_241
    by_cases h447 : kd = 32
    · subst h447
      refine lv_tableIn (tgt := 152) (off := 116) hx hb dX0_statement_36 (by decide) (by decide) (by decide) (by decide) ?_
      obtain ⟨q1, hc0, ht0, hw0⟩ := NdO.ch hnd (f := 0) (by decide) (hnd.1.1 (by rw [hkd]; decide))
      have hv0 : 1 ≤ g 0 q1 ∧ g 0 q1 + 1 ≤ n := ⟨hw0.1, (by have z := hw0.2; omega)⟩
      rcases hos2 : K.2.2.1 2 q with _ | q3
      · skip
        refine lv_aload_n hx hb dX0_statement_152 rfl (lv_at hl 2 rfl) ?_
        refine lv_aload_n hx hb dX0_statement_153 rfl (lv_at hl 1 rfl) ?_
        have hO : OKP G h0 a (upd (upd (upd (upd (upd (upd (upd (upd (upd (upd (upd (upd (upd (upd (upd F 2 (nI sz)) 5 (nI cs)) 6 (nI rg)) 7 (nI hd)) 8 (nI dp)) 12 (nI vr)) 16 ls9) 5 (nI cs2)) 2 (nI sz)) 5 (nI cs2)) 6 (nI rg)) 7 (nI hd)) 8 (nI dp)) 12 (nI vr)) 16 ls9) (updR (updR (updR (updR (updR (updR R 2 (.ref pq)) 3 (.ref mq)) 4 (va_rf lo)) 2 (.ref pq)) 3 (.ref mq)) 4 (va_rf lo)) Z B2 J K w := hO.to rfl
        obtain ⟨_, qr451, hqr452⟩ := hO.2.1 24 _ (sg_24 G h0 a _ _ _ _ _)
        refine pn_V0 (G := G) (As := [.ref q]) (rest := []) hx hb hml hown hq hE hX pX0_al hP hD hS hA hl.1 (B_tryN l G h0 a (upd (upd (upd (upd (upd (upd (upd (upd F 2 (nI sz)) 5 (nI cs)) 6 (nI rg)) 7 (nI hd)) 8 (nI dp)) 12 (nI vr)) 16 ls9) 5 (nI cs2)) (updR (updR (updR R 2 (.ref pq)) 3 (.ref mq)) 4 (va_rf lo)) Z B2 J K w pq dr ml nd nm cp it s9 q mq cs2 vr sz n q1 hd dp rg ls9 lo g rk (by omega) (BdE.wp BdE.rfl hwp) (BdE.pt BdE.rfl hwp hps) (BdE.rko BdE.rfl hrk) (by omega) (by omega) hng2 hmq hqT hqL hc0 ht0 hv0 (by omega) (by omega) (by omega) (LpO.be BdE.rfl hlo) hkd hos2 ist (IhV.all l G _) hO hl0) (gV pw_339 pw_340 pw_341 pw_63 pw_348) hV_X0_tryStatement qr451 0 hqr452 rfl rfl rfl (Nat.le_of_ble_eq_true rfl) dX0_statement_154 ⟨(by show 0 + ((rE (g 2 q) - rS (g 2 q)) + 1) ≤ ((rE (g 2 q) - rS (g 2 q)) + 1); omega), (by show 0 + (6 * (rE (g 2 q) - rS (g 2 q)) + 6) ≤ (6 * (rE (g 2 q) - rS (g 2 q)) + 6); omega)⟩ ⟨(by show (5 * n + 46) + 1 ≤ (5 * n + 50); omega), (by show 8 + (11 + 11) + (200 * n + 1120) ≤ (200 * n + 1200); omega)⟩ (fun v450 u448 H locs hw449 hP hD hS => ?_) (fun ux ce9 q9 H9 locs9 hux hP9 hD9 hS9 hce hcv hcl => pb_out ux (ThQ.up (Thx.same (Thx.same (Thx.same (Thx.same (Thx.same (Thx.same (Thx.same (Thx.f (Bth.thx hbb2) (by omega)) rfl) rfl) rfl) rfl) rfl) rfl) rfl) hux) hnt hlocks hce hcv hcl hP9 hD9 hS9 (by show 0 + ((rE (g 2 q) - rS (g 2 q)) + 1) ≤ ((rE (g 2 q) - rS (g 2 q)) + 1); omega) (by show 0 + (6 * (rE (g 2 q) - rS (g 2 q)) + 6) ≤ (6 * (rE (g 2 q) - rS (g 2 q)) + 6); omega))
        obtain ⟨w, K453, B454, cs455, as456, wt457, wf458, vr459, hd460, dp461, rg462, ls463⟩ := u448
        obtain ⟨hw449, h464, h465, h466, h467, hO⟩ := hw449
        have h464 : BdE K K453 := h464
        have h465 : Bth B2 B454 := h465
        have h466 : cs455 ≤ 10000 ∧ rg462 ≤ 625 ∧ dp461 ≤ 1000 := h466
        have h467 : vr ≤ vr459 ∧ vr459 ≤ 30 ∧ hd460 + vr = hd + vr459 := h467
        obtain rfl : v450 = none := hw449
        have hf468 : K453.1 pq = 7 := (BdE.T h464 hp1 (by decide))
        have hf469 : K453.2.2.1 18 pq = some (a 1) := (BdE.C h464 (by rw [hp1]; decide) 18).trans hp2
        have hf470 : K453.2.2.1 14 pq = some dr := (BdE.C h464 (by rw [hp1]; decide) 14).trans hp3
        have hf471 : K453.1 dr = 8 := (BdE.T h464 hp4 (by decide))
        have hf472 : K453.2.2.1 15 pq = some ml := (BdE.C h464 (by rw [hp1]; decide) 15).trans hp5
        have hf473 : K453.1 ml = 5 := (BdE.T h464 hp6 (by decide))
        have hf474 : K453.2.1 24 pq = (nI nd) := (BdE.I h464 (by rw [hp1]; decide) (by decide) (by decide)).trans hp8
        have hf475 : K453.1 q = 1 := (BdE.T h464 hqT (by decide))
        have hf476 : K453.1 mq = 3 := (BdE.T h464 hmq (by decide))
        have hf477 : K453.2.1 0 q = 32 := (BdE.I h464 (by rw [hqT]; decide) (by decide) (by decide)).trans hkd
        have hf478 : K453.2.2.1 0 q = some q1 := (BdE.C h464 (by rw [hqT]; decide) 0).trans hc0
        have hf479 : K453.1 q1 = 1 := (BdE.T h464 ht0 (by decide))
        have hf480 : K453.2.2.1 2 q = none := (BdE.C h464 (by rw [hqT]; decide) 2).trans hos2
        have hO : OKP G h0 a (upd (upd (upd (upd (upd (upd (upd (upd (upd (upd F 2 (nI sz)) 5 (nI cs455)) 6 (nI rg462)) 7 (nI hd460)) 8 (nI dp461)) 12 (nI vr459)) 13 as456) 14 wt457) 15 wf458) 16 ls463) (updR (updR (updR R 2 (.ref pq)) 3 (.ref mq)) 4 (va_rf lo)) Z B454 J K453 w := hO.to rfl
        refine W.widen (k := (rE (g 2 q) - rS (g 2 q))) (n := (6 * (rE (g 2 q) - rS (g 2 q)))) (by show 0 + (rE (g 2 q) - rS (g 2 q)) ≤ (rE (g 2 q) - rS (g 2 q)); omega) (by show 0 + (6 * (rE (g 2 q) - rS (g 2 q))) ≤ (6 * (rE (g 2 q) - rS (g 2 q))); omega) ?_
        refine W.eq (g2 := F0 m 157 ls []) rfl ?_
        have hbe481 := BdE.trans BdE.rfl h464
        have hbb482 : Bth B B454 := Bth.trans (show Thx (upd (upd (upd (upd (upd (upd (upd F 2 (nI sz)) 5 (nI cs)) 6 (nI rg)) 7 (nI hd)) 8 (nI dp)) 12 (nI vr)) 16 ls9) (upd (upd (upd (upd (upd (upd (upd (upd F 2 (nI sz)) 5 (nI cs)) 6 (nI rg)) 7 (nI hd)) 8 (nI dp)) 12 (nI vr)) 16 ls9) 5 (nI cs2)) B B2 from (Thx.f (Bth.thx hbb2) (by omega))).2 h465
        have hng483 : Nng (B454 18) := h465.2 hng2
        refine lv_goto (tgt := 241) hx hb dX0_statement_157 (by decide) ?_
        refine W_size (fun hz1 hz2 => ?_)
        refine vx_ret ?_
        have hz484 : BdE K K453 := hbe481
        have hz485 : Bth B B454 := (show Thx (upd (upd (upd (upd (upd (upd (upd F 2 (nI sz)) 5 (nI cs)) 6 (nI rg)) 7 (nI hd)) 8 (nI dp)) 12 (nI vr)) 16 ls9) (upd (upd (upd (upd (upd (upd (upd (upd (upd (upd (upd (upd (upd (upd (upd (upd F 2 (nI sz)) 5 (nI cs)) 6 (nI rg)) 7 (nI hd)) 8 (nI dp)) 12 (nI vr)) 16 ls9) 5 (nI cs455)) 6 (nI rg462)) 7 (nI hd460)) 8 (nI dp461)) 12 (nI vr459)) 13 as456) 14 wt457) 15 wf458) 16 ls463) B B454 from (Thx.f (Thx.f (Thx.f (Thx.f (Thx.f (Thx.f (Thx.f (Thx.f (Thx.f (Bth.thx hbb482) (by omega)) (by omega)) (by omega)) (by omega)) (by omega)) (by omega)) (by omega)) (by omega)) (by omega))).2
        have hz486 : cs455 ≤ 10000 ∧ rg462 ≤ 625 ∧ dp461 ≤ 1000 := (by omega)
        have hz487 : vr ≤ vr459 ∧ vr459 ≤ 30 ∧ hd460 + vr = hd + vr459 := (by omega)
        have hO : OKP G h0 a (upd (upd (upd (upd (upd (upd (upd (upd (upd (upd F 2 (nI sz)) 5 (nI cs455)) 6 (nI rg462)) 7 (nI hd460)) 8 (nI dp461)) 12 (nI vr459)) 13 as456) 14 wt457) 15 wf458) 16 ls463) (updR (updR (updR R 2 (.ref pq)) 3 (.ref mq)) 4 (va_rf lo)) Z B454 J K453 w := hO.to rfl
        refine W.widen (k := ((rE (g 2 q) - rS (g 2 q)) + 1)) (n := (6 * (rE (g 2 q) - rS (g 2 q)) + 6)) (by omega) (by omega) ?_
        have hzz1 : H.size ≤ s.heap.size + ((rE (g 2 q) - rS (g 2 q))) := (by have z : (rE (g 2 q) - rS (g 2 q)) ≤ (rE (g 2 q) - rS (g 2 q)) := (by omega); omega)
        have hzz2 : hSl H ≤ hSl s.heap + ((6 * (rE (g 2 q) - rS (g 2 q)))) := (by have z : (6 * (rE (g 2 q) - rS (g 2 q))) ≤ (6 * (rE (g 2 q) - rS (g 2 q))) := (by omega); omega)
        exact W.vret hx hb hr (fun t99 ht99 hW99 => ⟨⟨_, (w, (K453, B454, cs455, as456, wt457, wf458, vr459, hd460, dp461, rg462, ls463)), rfl, ⟨rfl, hz484, hz485, hz486, hz487, hO⟩, by rw [ht99]; exact hP, hD, by rw [ht99]; exact hzz1, by rw [ht99]; exact hzz2⟩, hS.F ht99⟩) hS.2.2 dX0_statement_241
      · skip
        have hcz := hnd.2.1 2 q3 (by decide) hos2
        have ht2 := hcz.1
        have hv2 : 1 ≤ g 0 q3 ∧ g 0 q3 + 1 ≤ n := ⟨hcz.2.1, (by have z := hcz.2.2.1; omega)⟩
        refine lv_aload_n hx hb dX0_statement_152 rfl (lv_at hl 2 rfl) ?_
        refine lv_aload_n hx hb dX0_statement_153 rfl (lv_at hl 1 rfl) ?_
        have hO : OKP G h0 a (upd (upd (upd (upd (upd (upd (upd (upd (upd (upd (upd (upd (upd (upd (upd F 2 (nI sz)) 5 (nI cs)) 6 (nI rg)) 7 (nI hd)) 8 (nI dp)) 12 (nI vr)) 16 ls9) 5 (nI cs2)) 2 (nI sz)) 5 (nI cs2)) 6 (nI rg)) 7 (nI hd)) 8 (nI dp)) 12 (nI vr)) 16 ls9) (updR (updR (updR (updR (updR (updR R 2 (.ref pq)) 3 (.ref mq)) 4 (va_rf lo)) 2 (.ref pq)) 3 (.ref mq)) 4 (va_rf lo)) Z B2 J K w := hO.to rfl
        obtain ⟨_, qr491, hqr492⟩ := hO.2.1 24 _ (sg_24 G h0 a _ _ _ _ _)
        refine pn_V0 (G := G) (As := [.ref q]) (rest := []) hx hb hml hown hq hE hX pX0_al hP hD hS hA hl.1 (B_tryL l G h0 a (upd (upd (upd (upd (upd (upd (upd (upd F 2 (nI sz)) 5 (nI cs)) 6 (nI rg)) 7 (nI hd)) 8 (nI dp)) 12 (nI vr)) 16 ls9) 5 (nI cs2)) (updR (updR (updR R 2 (.ref pq)) 3 (.ref mq)) 4 (va_rf lo)) Z B2 J K w pq dr ml nd nm cp it s9 q mq cs2 vr sz n q1 q3 hd dp rg ls9 lo g rk (by omega) (BdE.wp BdE.rfl hwp) (BdE.pt BdE.rfl hwp hps) (BdE.rko BdE.rfl hrk) (by omega) (by omega) hng2 hmq hqT hqL hc0 ht0 hv0 hos2 ht2 hv2 (by omega) (by omega) (by omega) (LpO.be BdE.rfl hlo) hkd ist (IhV.all l G _) hO hl0) (gV pw_339 pw_340 pw_341 pw_63 pw_348) hV_X0_tryStatement qr491 0 hqr492 rfl rfl rfl (Nat.le_of_ble_eq_true rfl) dX0_statement_154 ⟨(by show 0 + ((rE (g 2 q) - rS (g 2 q)) + 1) ≤ ((rE (g 2 q) - rS (g 2 q)) + 1); omega), (by show 0 + (6 * (rE (g 2 q) - rS (g 2 q)) + 6) ≤ (6 * (rE (g 2 q) - rS (g 2 q)) + 6); omega)⟩ ⟨(by show (5 * n + 46) + 1 ≤ (5 * n + 50); omega), (by show 8 + (11 + 11) + (200 * n + 1120) ≤ (200 * n + 1200); omega)⟩ (fun v490 u488 H locs hw489 hP hD hS => ?_) (fun ux ce9 q9 H9 locs9 hux hP9 hD9 hS9 hce hcv hcl => pb_out ux (ThQ.up (Thx.same (Thx.same (Thx.same (Thx.same (Thx.same (Thx.same (Thx.same (Thx.f (Bth.thx hbb2) (by omega)) rfl) rfl) rfl) rfl) rfl) rfl) rfl) hux) hnt hlocks hce hcv hcl hP9 hD9 hS9 (by show 0 + ((rE (g 2 q) - rS (g 2 q)) + 1) ≤ ((rE (g 2 q) - rS (g 2 q)) + 1); omega) (by show 0 + (6 * (rE (g 2 q) - rS (g 2 q)) + 6) ≤ (6 * (rE (g 2 q) - rS (g 2 q)) + 6); omega))
        obtain ⟨w, K493, B494, cs495, as496, wt497, wf498, vr499, hd500, dp501, rg502, ls503⟩ := u488
        obtain ⟨hw489, h504, h505, h506, h507, hO⟩ := hw489
        have h504 : BdE K K493 := h504
        have h505 : Bth B2 B494 := h505
        have h506 : cs495 ≤ 10000 ∧ rg502 ≤ 625 ∧ dp501 ≤ 1000 := h506
        have h507 : vr ≤ vr499 ∧ vr499 ≤ 30 ∧ hd500 + vr = hd + vr499 := h507
        obtain rfl : v490 = none := hw489
        have hf508 : K493.1 pq = 7 := (BdE.T h504 hp1 (by decide))
        have hf509 : K493.2.2.1 18 pq = some (a 1) := (BdE.C h504 (by rw [hp1]; decide) 18).trans hp2
        have hf510 : K493.2.2.1 14 pq = some dr := (BdE.C h504 (by rw [hp1]; decide) 14).trans hp3
        have hf511 : K493.1 dr = 8 := (BdE.T h504 hp4 (by decide))
        have hf512 : K493.2.2.1 15 pq = some ml := (BdE.C h504 (by rw [hp1]; decide) 15).trans hp5
        have hf513 : K493.1 ml = 5 := (BdE.T h504 hp6 (by decide))
        have hf514 : K493.2.1 24 pq = (nI nd) := (BdE.I h504 (by rw [hp1]; decide) (by decide) (by decide)).trans hp8
        have hf515 : K493.1 q = 1 := (BdE.T h504 hqT (by decide))
        have hf516 : K493.1 mq = 3 := (BdE.T h504 hmq (by decide))
        have hf517 : K493.2.1 0 q = 32 := (BdE.I h504 (by rw [hqT]; decide) (by decide) (by decide)).trans hkd
        have hf518 : K493.2.2.1 0 q = some q1 := (BdE.C h504 (by rw [hqT]; decide) 0).trans hc0
        have hf519 : K493.1 q1 = 1 := (BdE.T h504 ht0 (by decide))
        have hf520 : K493.2.2.1 2 q = some q3 := (BdE.C h504 (by rw [hqT]; decide) 2).trans hos2
        have hf521 : K493.1 q3 = 1 := (BdE.T h504 ht2 (by decide))
        have hO : OKP G h0 a (upd (upd (upd (upd (upd (upd (upd (upd (upd (upd F 2 (nI sz)) 5 (nI cs495)) 6 (nI rg502)) 7 (nI hd500)) 8 (nI dp501)) 12 (nI vr499)) 13 as496) 14 wt497) 15 wf498) 16 ls503) (updR (updR (updR R 2 (.ref pq)) 3 (.ref mq)) 4 (va_rf lo)) Z B494 J K493 w := hO.to rfl
        refine W.widen (k := (rE (g 2 q) - rS (g 2 q))) (n := (6 * (rE (g 2 q) - rS (g 2 q)))) (by show 0 + (rE (g 2 q) - rS (g 2 q)) ≤ (rE (g 2 q) - rS (g 2 q)); omega) (by show 0 + (6 * (rE (g 2 q) - rS (g 2 q))) ≤ (6 * (rE (g 2 q) - rS (g 2 q))); omega) ?_
        refine W.eq (g2 := F0 m 157 ls []) rfl ?_
        have hbe522 := BdE.trans BdE.rfl h504
        have hbb523 : Bth B B494 := Bth.trans (show Thx (upd (upd (upd (upd (upd (upd (upd F 2 (nI sz)) 5 (nI cs)) 6 (nI rg)) 7 (nI hd)) 8 (nI dp)) 12 (nI vr)) 16 ls9) (upd (upd (upd (upd (upd (upd (upd (upd F 2 (nI sz)) 5 (nI cs)) 6 (nI rg)) 7 (nI hd)) 8 (nI dp)) 12 (nI vr)) 16 ls9) 5 (nI cs2)) B B2 from (Thx.f (Bth.thx hbb2) (by omega))).2 h505
        have hng524 : Nng (B494 18) := h505.2 hng2
        refine lv_goto (tgt := 241) hx hb dX0_statement_157 (by decide) ?_
        refine W_size (fun hz1 hz2 => ?_)
        refine vx_ret ?_
        have hz525 : BdE K K493 := hbe522
        have hz526 : Bth B B494 := (show Thx (upd (upd (upd (upd (upd (upd (upd F 2 (nI sz)) 5 (nI cs)) 6 (nI rg)) 7 (nI hd)) 8 (nI dp)) 12 (nI vr)) 16 ls9) (upd (upd (upd (upd (upd (upd (upd (upd (upd (upd (upd (upd (upd (upd (upd (upd F 2 (nI sz)) 5 (nI cs)) 6 (nI rg)) 7 (nI hd)) 8 (nI dp)) 12 (nI vr)) 16 ls9) 5 (nI cs495)) 6 (nI rg502)) 7 (nI hd500)) 8 (nI dp501)) 12 (nI vr499)) 13 as496) 14 wt497) 15 wf498) 16 ls503) B B494 from (Thx.f (Thx.f (Thx.f (Thx.f (Thx.f (Thx.f (Thx.f (Thx.f (Thx.f (Bth.thx hbb523) (by omega)) (by omega)) (by omega)) (by omega)) (by omega)) (by omega)) (by omega)) (by omega)) (by omega))).2
        have hz527 : cs495 ≤ 10000 ∧ rg502 ≤ 625 ∧ dp501 ≤ 1000 := (by omega)
        have hz528 : vr ≤ vr499 ∧ vr499 ≤ 30 ∧ hd500 + vr = hd + vr499 := (by omega)
        have hO : OKP G h0 a (upd (upd (upd (upd (upd (upd (upd (upd (upd (upd F 2 (nI sz)) 5 (nI cs495)) 6 (nI rg502)) 7 (nI hd500)) 8 (nI dp501)) 12 (nI vr499)) 13 as496) 14 wt497) 15 wf498) 16 ls503) (updR (updR (updR R 2 (.ref pq)) 3 (.ref mq)) 4 (va_rf lo)) Z B494 J K493 w := hO.to rfl
        refine W.widen (k := ((rE (g 2 q) - rS (g 2 q)) + 1)) (n := (6 * (rE (g 2 q) - rS (g 2 q)) + 6)) (by omega) (by omega) ?_
        have hzz1 : H.size ≤ s.heap.size + ((rE (g 2 q) - rS (g 2 q))) := (by have z : (rE (g 2 q) - rS (g 2 q)) ≤ (rE (g 2 q) - rS (g 2 q)) := (by omega); omega)
        have hzz2 : hSl H ≤ hSl s.heap + ((6 * (rE (g 2 q) - rS (g 2 q)))) := (by have z : (6 * (rE (g 2 q) - rS (g 2 q))) ≤ (6 * (rE (g 2 q) - rS (g 2 q))) := (by omega); omega)
        exact W.vret hx hb hr (fun t99 ht99 hW99 => ⟨⟨_, (w, (K493, B494, cs495, as496, wt497, wf498, vr499, hd500, dp501, rg502, ls503)), rfl, ⟨rfl, hz525, hz526, hz527, hz528, hO⟩, by rw [ht99]; exact hP, hD, by rw [ht99]; exact hzz1, by rw [ht99]; exact hzz2⟩, hS.F ht99⟩) hS.2.2 dX0_statement_241
    by_cases h529 : kd = 33
    · subst h529
      refine lv_tableIn (tgt := 183) (off := 147) hx hb dX0_statement_36 (by decide) (by decide) (by decide) (by decide) ?_
      obtain ⟨q1, hc0, ht0, hw0⟩ := NdO.ch hnd (f := 0) (by decide) (hnd.1.1 (by rw [hkd]; decide))
      have hv0 : 1 ≤ g 0 q1 ∧ g 0 q1 + 1 ≤ n := ⟨hw0.1, (by have z := hw0.2; omega)⟩
      refine lv_aload_n hx hb dX0_statement_183 rfl (lv_at hl 2 rfl) ?_
      refine lv_aload_n hx hb dX0_statement_184 rfl (lv_at hl 1 rfl) ?_
      refine p_get (v := .ref q1) (C := RX7) (Tc := TX7) (N := 11) (ci := 13) hx hb hq pin_wsX70 hown hE hP hO (by rw [hqT]; decide) (rep_1 hqT) rfl 6 (by decide) (hq _ pw_180) (fun _ h9 => h9) (congrArg (fun z => some (va_rf z)) hc0) dX0_statement_185 ?_
      refine lv_aload_n hx hb dX0_statement_188 rfl (lv_at hl 2 rfl) ?_
      refine lv_aload_n hx hb dX0_statement_189 rfl (lv_at hl 1 rfl) ?_
      refine p_get (v := .ref q1) (C := RX7) (Tc := TX7) (N := 11) (ci := 13) hx hb hq pin_wsX70 hown hE hP hO (by rw [hqT]; decide) (rep_1 hqT) rfl 6 (by decide) (hq _ pw_180) (fun _ h9 => h9) (congrArg (fun z => some (va_rf z)) hc0) dX0_statement_190 ?_
      have hO : OKP G h0 a (upd (upd (upd (upd (upd (upd (upd (upd (upd (upd (upd F 2 (nI sz)) 5 (nI cs)) 6 (nI rg)) 7 (nI hd)) 8 (nI dp)) 12 (nI vr)) 16 ls9) 5 (nI cs2)) 2 (nI sz)) 5 (nI cs2)) 12 (nI vr)) (updR (updR (updR (updR (updR R 2 (.ref pq)) 3 (.ref mq)) 4 (va_rf lo)) 2 (.ref pq)) 3 (.ref mq)) Z B2 J K w := hO.to rfl
      obtain ⟨_, qr533, hqr534⟩ := hO.2.1 24 _ (sg_24 G h0 a _ _ _ _ _)
      refine pn_V0 (G := G) (As := [.ref q1]) (rest := [.ref q1, .ref (a 4)]) hx hb hml hown hq hE hX pX0_al hP hD hS hA hl.1 ((ihv (by omega)) h0 a (upd (upd (upd (upd (upd (upd (upd (upd F 2 (nI sz)) 5 (nI cs)) 6 (nI rg)) 7 (nI hd)) 8 (nI dp)) 12 (nI vr)) 16 ls9) 5 (nI cs2)) (updR (updR (updR R 2 (.ref pq)) 3 (.ref mq)) 4 (va_rf lo)) Z B2 J K w pq dr ml nd nm cp it s9 q1 mq cs2 vr sz g rk (by omega) (BdE.wp BdE.rfl hwp) (BdE.pt BdE.rfl hwp hps) (BdE.rko BdE.rfl hrk) (by omega) (by omega) hng2 hmq ht0 ⟨hv0.1, (by have z9 := hv0; omega)⟩ hO hl0) (gV pw_173 pw_174 pw_175 pw_63 pw_224) hV_X0_value qr533 0 hqr534 rfl rfl rfl (Nat.le_of_ble_eq_true rfl) dX0_statement_193 ⟨(by show 0 + 1 ≤ ((rE (g 2 q) - rS (g 2 q)) + 1); omega), (by show 0 + 6 ≤ (6 * (rE (g 2 q) - rS (g 2 q)) + 6); omega)⟩ ⟨(by show (5 * (n - 1) + 34) + 1 ≤ (5 * n + 50); omega), (by show 8 + (3 + 11) + (200 * (n - 1) + 600) ≤ (200 * n + 1200); omega)⟩ (fun v532 u530 H locs hw531 hP hD hS => ?_) (fun ux ce9 q9 H9 locs9 hux hP9 hD9 hS9 hce hcv hcl => pb_out ux (ThQ.up (Thx.same (Thx.same (Thx.same (Thx.f (Bth.thx hbb2) (by omega)) rfl) rfl) rfl) hux) hnt hlocks hce hcv hcl hP9 hD9 hS9 (by show 0 + 1 ≤ ((rE (g 2 q) - rS (g 2 q)) + 1); omega) (by show 0 + 6 ≤ (6 * (rE (g 2 q) - rS (g 2 q)) + 6); omega))
      obtain ⟨w, K535, B536, cs537, as538, wt539, wf540, r541⟩ := u530
      obtain ⟨hw531, h542, h543, h544, hO⟩ := hw531
      have h542 : BdE K K535 := h542
      have h543 : Bth B2 B536 := h543
      have h544 : cs537 ≤ 10000 := h544
      obtain rfl : v532 = some (.int r541) := hw531
      have hf545 : K535.1 pq = 7 := (BdE.T h542 hp1 (by decide))
      have hf546 : K535.2.2.1 18 pq = some (a 1) := (BdE.C h542 (by rw [hp1]; decide) 18).trans hp2
      have hf547 : K535.2.2.1 14 pq = some dr := (BdE.C h542 (by rw [hp1]; decide) 14).trans hp3
      have hf548 : K535.1 dr = 8 := (BdE.T h542 hp4 (by decide))
      have hf549 : K535.2.2.1 15 pq = some ml := (BdE.C h542 (by rw [hp1]; decide) 15).trans hp5
      have hf550 : K535.1 ml = 5 := (BdE.T h542 hp6 (by decide))
      have hf551 : K535.2.1 24 pq = (nI nd) := (BdE.I h542 (by rw [hp1]; decide) (by decide) (by decide)).trans hp8
      have hf552 : K535.1 q = 1 := (BdE.T h542 hqT (by decide))
      have hf553 : K535.1 mq = 3 := (BdE.T h542 hmq (by decide))
      have hf554 : K535.2.1 0 q = 33 := (BdE.I h542 (by rw [hqT]; decide) (by decide) (by decide)).trans hkd
      have hf555 : K535.2.2.1 0 q = some q1 := (BdE.C h542 (by rw [hqT]; decide) 0).trans hc0
      have hf556 : K535.1 q1 = 1 := (BdE.T h542 ht0 (by decide))
      have hO : OKP G h0 a (upd (upd (upd (upd (upd (upd (upd (upd (upd (upd F 2 (nI sz)) 5 (nI cs537)) 6 (nI rg)) 7 (nI hd)) 8 (nI dp)) 12 (nI vr)) 13 as538) 14 wt539) 15 wf540) 16 ls9) (updR (updR (updR R 2 (.ref pq)) 3 (.ref mq)) 4 (va_rf lo)) Z B536 J K535 w := hO.to rfl
      refine W.widen (k := 0) (n := 0) (by show 0 + 0 ≤ 0; omega) (by show 0 + 0 ≤ 0; omega) ?_
      refine W.eq (g2 := F0 m 196 ls [.int r541, .ref q1, .ref (a 4)]) rfl ?_
      have hbe557 := BdE.trans BdE.rfl h542
      have hbb558 : Bth B B536 := Bth.trans (show Thx (upd (upd (upd (upd (upd (upd (upd F 2 (nI sz)) 5 (nI cs)) 6 (nI rg)) 7 (nI hd)) 8 (nI dp)) 12 (nI vr)) 16 ls9) (upd (upd (upd (upd (upd (upd (upd (upd F 2 (nI sz)) 5 (nI cs)) 6 (nI rg)) 7 (nI hd)) 8 (nI dp)) 12 (nI vr)) 16 ls9) 5 (nI cs2)) B B2 from (Thx.f (Bth.thx hbb2) (by omega))).2 h543
      have hng559 : Nng (B536 18) := h543.2 hng2
      refine lv_bipush (v := 60) hx hb dX0_statement_196 (by decide) ?_
      have hO : OKP G h0 a (upd (upd (upd (upd (upd (upd (upd (upd (upd (upd (upd (upd F 2 (nI sz)) 5 (nI cs)) 6 (nI rg)) 7 (nI hd)) 8 (nI dp)) 12 (nI vr)) 16 ls9) 5 (nI cs537)) 13 as538) 14 wt539) 15 wf540) 2 (nI sz)) (updR (updR (updR (updR R 2 (.ref pq)) 3 (.ref mq)) 4 (va_rf lo)) 2 (.ref pq)) Z B536 J K535 w := hO.to rfl
      obtain ⟨_, qr563, hqr564⟩ := hO.2.1 24 _ (sg_24 G h0 a _ _ _ _ _)
      refine pn_V0 (G := G) (As := [.ref q1, .int r541, .int 60]) (rest := []) hx hb hml hown hq hE hX pX0_al hP hD hS hA hl.1 (B_fit l G h0 a (upd (upd (upd (upd (upd (upd (upd (upd (upd (upd (upd F 2 (nI sz)) 5 (nI cs)) 6 (nI rg)) 7 (nI hd)) 8 (nI dp)) 12 (nI vr)) 16 ls9) 5 (nI cs537)) 13 as538) 14 wt539) 15 wf540) (updR (updR (updR R 2 (.ref pq)) 3 (.ref mq)) 4 (va_rf lo)) Z B536 J K535 w pq dr ml nd q1 sz r541 60 g (by omega) (BdE.pt hbe557 hwp hps).1 (BdE.pt hbe557 hwp hps).2.1 hf556 hO hl0) (gV pw_176 pw_177 pw_178 pw_63 pw_114) hV_X0_fit qr563 0 hqr564 rfl rfl rfl (Nat.le_of_ble_eq_true rfl) dX0_statement_198 ⟨(by show 0 + 1 ≤ ((rE (g 2 q) - rS (g 2 q)) + 1); omega), (by show 0 + 6 ≤ (6 * (rE (g 2 q) - rS (g 2 q)) + 6); omega)⟩ ⟨(by show 7 + 1 ≤ (5 * n + 50); omega), (by show 8 + (4 + 11) + 122 ≤ (200 * n + 1200); omega)⟩ (fun v562 u560 H locs hw561 hP hD hS => ?_) (fun ux ce9 q9 H9 locs9 hux hP9 hD9 hS9 hce hcv hcl => pb_out ux (ThQ.up (Thx.same (Thx.f (Thx.f (Thx.f (Thx.f (Bth.thx hbb558) (by omega)) (by omega)) (by omega)) (by omega)) rfl) hux) hnt hlocks hce hcv hcl hP9 hD9 hS9 (by show 0 + 1 ≤ ((rE (g 2 q) - rS (g 2 q)) + 1); omega) (by show 0 + 6 ≤ (6 * (rE (g 2 q) - rS (g 2 q)) + 6); omega))
      obtain ⟨w, _⟩ := u560
      obtain ⟨hw561, hO⟩ := hw561
      obtain rfl : v562 = none := hw561
      have hO : OKP G h0 a (upd (upd (upd (upd (upd (upd (upd (upd (upd (upd F 2 (nI sz)) 5 (nI cs537)) 6 (nI rg)) 7 (nI hd)) 8 (nI dp)) 12 (nI vr)) 13 as538) 14 wt539) 15 wf540) 16 ls9) (updR (updR (updR R 2 (.ref pq)) 3 (.ref mq)) 4 (va_rf lo)) Z B536 J K535 w := hO.to rfl
      refine W.widen (k := 0) (n := 0) (by show 0 + 0 ≤ 0; omega) (by show 0 + 0 ≤ 0; omega) ?_
      refine W.eq (g2 := F0 m 201 ls []) rfl ?_
      refine lv_aload_n hx hb dX0_statement_201 rfl (lv_at hl 2 rfl) ?_
      refine c_get (v := .ref (a 2)) (C := RX0) (Tc := TX0) (N := 13) (ci := 0) hx hb hq pin_wsX00 hown hE hP hO 24 (sg_24 G h0 a _ _ _ _ _) rfl 1 (by decide) (hq _ pw_5) (fun _ h9 => h9) rfl dX0_statement_202 ?_
      refine lv_bipush (v := 13) hx hb dX0_statement_205 (by decide) ?_
      refine lv_iconst (v := 0) hx hb dX0_statement_207 (by decide) ?_
      refine lv_iconst (v := 0) hx hb dX0_statement_208 (by decide) ?_
      have hO : OKW G h0 a (upd (upd (upd (upd (upd (upd (upd (upd (upd (upd (upd F 2 (nI sz)) 5 (nI cs537)) 6 (nI rg)) 7 (nI hd)) 8 (nI dp)) 12 (nI vr)) 13 as538) 14 wt539) 15 wf540) 16 ls9) 5 (nI cs537)) (updR (updR (updR R 2 (.ref pq)) 3 (.ref mq)) 4 (va_rf lo)) Z B536 J K535.1 (fun q99 x99 => x99 = rep G a K535 q99) w := hO.to rfl
      obtain ⟨_, qr568, hqr569⟩ := hO.2.1 13 _ (sg_13 G h0 a _ _ _ _ _)
      refine pc_V0 (G := G) (As := [.int 13, .int 0, .int (nI 0)]) (rest := []) hx hb hml hown hq hE hX pX0_al hP hD hS hA hl.1 (K_emit l G h0 a (upd (upd (upd (upd (upd (upd (upd (upd (upd (upd F 2 (nI sz)) 5 (nI cs537)) 6 (nI rg)) 7 (nI hd)) 8 (nI dp)) 12 (nI vr)) 13 as538) 14 wt539) 15 wf540) 16 ls9) (updR (updR (updR R 2 (.ref pq)) 3 (.ref mq)) 4 (va_rf lo)) Z B536 J K535.1 (fun q99 x99 => x99 = rep G a K535 q99) w 13 0 0 cs537 (by omega) (by omega) hng559 hO) (gV pw_129 pw_130 pw_131 pw_70 pw_115) hV_X1_emit qr568 1 hqr569 rfl rfl rfl (Nat.le_of_ble_eq_true rfl) dX0_statement_209 ⟨(by show 0 + 0 ≤ ((rE (g 2 q) - rS (g 2 q)) + 1); omega), (by show 0 + 0 ≤ (6 * (rE (g 2 q) - rS (g 2 q)) + 6); omega)⟩ ⟨(by show 2 + 1 ≤ (5 * n + 50); omega), (by show 8 + (4 + 11) + 60 ≤ (200 * n + 1200); omega)⟩ (fun v567 u565 H locs hw566 hP hD hS => ?_)
      obtain ⟨w, cs570, f571, f572, f573, f574⟩ := u565
      obtain ⟨hw566, h575, h576, hO⟩ := hw566
      have h575 : cs537 ≤ cs570 ∧ cs570 ≤ cs537 + 1 ∧ cs570 ≤ 10000 := h575
      have h576 : Nng f573 := h576
      obtain rfl : v567 = none := hw566
      have hO : OKP G h0 a (upd (upd (upd (upd (upd (upd (upd (upd (upd (upd F 2 (nI sz)) 5 (nI cs570)) 6 (nI rg)) 7 (nI hd)) 8 (nI dp)) 12 (nI vr)) 13 as538) 14 wt539) 15 wf540) 16 ls9) (updR (updR (updR R 2 (.ref pq)) 3 (.ref mq)) 4 (va_rf lo)) Z (updA (updA (updA (updA B536 16 f571) 17 f572) 18 f573) 19 f574) J K535 w := hO.to rfl
      refine W.widen (k := 0) (n := 0) (Nat.le_of_ble_eq_true rfl) (Nat.le_of_ble_eq_true rfl) ?_
      refine W.eq (g2 := F0 m 212 ls []) rfl ?_
      refine lv_goto (tgt := 241) hx hb dX0_statement_212 (by decide) ?_
      refine W_size (fun hz1 hz2 => ?_)
      refine vx_ret ?_
      have hz577 : BdE K K535 := hbe557
      have hz578 : Bth B (updA (updA (updA (updA B536 16 f571) 17 f572) 18 f573) 19 f574) := (show Thx (upd (upd (upd (upd (upd (upd (upd F 2 (nI sz)) 5 (nI cs)) 6 (nI rg)) 7 (nI hd)) 8 (nI dp)) 12 (nI vr)) 16 ls9) (upd (upd (upd (upd (upd (upd (upd (upd (upd (upd (upd F 2 (nI sz)) 5 (nI cs)) 6 (nI rg)) 7 (nI hd)) 8 (nI dp)) 12 (nI vr)) 16 ls9) 5 (nI cs570)) 13 as538) 14 wt539) 15 wf540) B (updA (updA (updA (updA B536 16 f571) 17 f572) 18 f573) 19 f574) from (Thx.b (Thx.b8 (Thx.b (Thx.b (Thx.f (Thx.f (Thx.f (Thx.f (Bth.thx hbb558) (by omega)) (by omega)) (by omega)) (by omega)) (by omega) (by decide)) (by omega) (by decide)) h576) (by omega) (by decide))).2
      have hz579 : cs570 ≤ 10000 ∧ rg ≤ 625 ∧ dp ≤ 1000 := (by omega)
      have hz580 : vr ≤ vr ∧ vr ≤ 30 ∧ hd + vr = hd + vr := (by omega)
      have hO : OKP G h0 a (upd (upd (upd (upd (upd (upd (upd (upd (upd (upd F 2 (nI sz)) 5 (nI cs570)) 6 (nI rg)) 7 (nI hd)) 8 (nI dp)) 12 (nI vr)) 13 as538) 14 wt539) 15 wf540) 16 ls9) (updR (updR (updR R 2 (.ref pq)) 3 (.ref mq)) 4 (va_rf lo)) Z (updA (updA (updA (updA B536 16 f571) 17 f572) 18 f573) 19 f574) J K535 w := hO.to rfl
      refine W.widen (k := ((rE (g 2 q) - rS (g 2 q)) + 1)) (n := (6 * (rE (g 2 q) - rS (g 2 q)) + 6)) (by omega) (by omega) ?_
      have hzz1 : H.size ≤ s.heap.size + ((rE (g 2 q) - rS (g 2 q))) := (by have z : 0 ≤ (rE (g 2 q) - rS (g 2 q)) := (by omega); omega)
      have hzz2 : hSl H ≤ hSl s.heap + ((6 * (rE (g 2 q) - rS (g 2 q)))) := (by have z : 0 ≤ (6 * (rE (g 2 q) - rS (g 2 q))) := (by omega); omega)
      exact W.vret hx hb hr (fun t99 ht99 hW99 => ⟨⟨_, (w, (K535, (updA (updA (updA (updA B536 16 f571) 17 f572) 18 f573) 19 f574), cs570, as538, wt539, wf540, vr, hd, dp, rg, ls9)), rfl, ⟨rfl, hz577, hz578, hz579, hz580, hO⟩, by rw [ht99]; exact hP, hD, by rw [ht99]; exact hzz1, by rw [ht99]; exact hzz2⟩, hS.F ht99⟩) hS.2.2 dX0_statement_241
    refine lv_tableOut (tgt := 241) hx hb dX0_statement_36 (sw_out33 h1 h39 h77 h119 h171 h213 h253 h293 h331 h369 h407 h447 h529) (by decide) ?_
    refine W_size (fun hz1 hz2 => ?_)
    refine vx_ret ?_
    have hz581 : BdE K K := BdE.rfl
    have hz582 : Bth B B2 := (show Thx (upd (upd (upd (upd (upd (upd (upd F 2 (nI sz)) 5 (nI cs)) 6 (nI rg)) 7 (nI hd)) 8 (nI dp)) 12 (nI vr)) 16 ls9) (upd (upd (upd (upd (upd (upd (upd (upd F 2 (nI sz)) 5 (nI cs)) 6 (nI rg)) 7 (nI hd)) 8 (nI dp)) 12 (nI vr)) 16 ls9) 5 (nI cs2)) B B2 from (Thx.f (Bth.thx hbb2) (by omega))).2
    have hz583 : cs2 ≤ 10000 ∧ rg ≤ 625 ∧ dp ≤ 1000 := (by omega)
    have hz584 : vr ≤ vr ∧ vr ≤ 30 ∧ hd + vr = hd + vr := (by omega)
    have hO : OKP G h0 a (upd (upd (upd (upd (upd (upd (upd (upd (upd (upd F 2 (nI sz)) 5 (nI cs2)) 6 (nI rg)) 7 (nI hd)) 8 (nI dp)) 12 (nI vr)) 13 (F 13)) 14 (F 14)) 15 (F 15)) 16 ls9) (updR (updR (updR R 2 (.ref pq)) 3 (.ref mq)) 4 (va_rf lo)) Z B2 J K w := hO.to rfl
    refine W.widen (k := ((rE (g 2 q) - rS (g 2 q)) + 1)) (n := (6 * (rE (g 2 q) - rS (g 2 q)) + 6)) (by omega) (by omega) ?_
    have hzz1 : H.size ≤ s.heap.size + ((rE (g 2 q) - rS (g 2 q))) := (by have z : 0 ≤ (rE (g 2 q) - rS (g 2 q)) := (by omega); omega)
    have hzz2 : hSl H ≤ hSl s.heap + ((6 * (rE (g 2 q) - rS (g 2 q)))) := (by have z : 0 ≤ (6 * (rE (g 2 q) - rS (g 2 q))) := (by omega); omega)
    exact W.vret hx hb hr (fun t99 ht99 hW99 => ⟨⟨_, (w, (K, B2, cs2, (F 13), (F 14), (F 15), vr, hd, dp, rg, ls9)), rfl, ⟨rfl, hz581, hz582, hz583, hz584, hO⟩, by rw [ht99]; exact hP, hD, by rw [ht99]; exact hzz1, by rw [ht99]; exact hzz2⟩, hS.F ht99⟩) hS.2.2 dX0_statement_241
  refine lv_iload_n hx hb dX0_statement_0 rfl (lv_at hl 2 rfl) ?_
  refine lv_if_eq (tgt := 32) hx hb dX0_statement_1 (by decide) (fun c585 => ?_) (fun c585 => ?_)
  · have n586 : tf = 0 := (nI_eq (a := tf) (b := 0) (by omega) (by omega)).mp c585
    refine W.widen (k := 0) (n := 0) (by show 0 ≤ _; omega) (by show 0 ≤ _; omega) ?_
    have hO : OKP G h0 a (upd (upd (upd (upd (upd (upd (upd F 2 (nI sz)) 5 (nI cs)) 6 (nI rg)) 7 (nI hd)) 8 (nI dp)) 12 (nI vr)) 16 ls9) (updR (updR (updR R 2 (.ref pq)) 3 (.ref mq)) 4 (va_rf lo)) Z B J K w := hO.to rfl
    exact cut_d B cs _ _ _ _ ((show Thx (upd (upd (upd (upd (upd (upd (upd F 2 (nI sz)) 5 (nI cs)) 6 (nI rg)) 7 (nI hd)) 8 (nI dp)) 12 (nI vr)) 16 ls9) (upd (upd (upd (upd (upd (upd (upd F 2 (nI sz)) 5 (nI cs)) 6 (nI rg)) 7 (nI hd)) 8 (nI dp)) 12 (nI vr)) 16 ls9) B B from Thx.rfl).2) hng (by omega) hP hD hS hO (lv_sub hl [2, 1, 0] rfl)
  · have n587 : ¬ (tf = 0) := fun h9 => c585 ((nI_eq (a := tf) (b := 0) (by omega) (by omega)).mpr h9)
    refine lv_aload_n hx hb dX0_statement_4 rfl (lv_at hl 1 rfl) ?_
    refine p_get (v := .int kd) (C := RX7) (Tc := TX7) (N := 11) (ci := 13) hx hb hq pin_wsX70 hown hE hP hO (by rw [hqT]; decide) (rep_1 hqT) rfl 0 (by decide) (hq _ pw_166) (fun _ h9 => h9) (congrArg (fun z => some (Value.int z)) hkd) dX0_statement_5 ?_
    refine lv_bipush (v := 21) hx hb dX0_statement_8 (by decide) ?_
    refine lv_icmp_eq (tgt := 32) hx hb dX0_statement_10 (by decide) (fun c588 => ?_) (fun c588 => ?_)
    · refine W.widen (k := 0) (n := 0) (by show 0 ≤ _; omega) (by show 0 ≤ _; omega) ?_
      have hO : OKP G h0 a (upd (upd (upd (upd (upd (upd (upd F 2 (nI sz)) 5 (nI cs)) 6 (nI rg)) 7 (nI hd)) 8 (nI dp)) 12 (nI vr)) 16 ls9) (updR (updR (updR R 2 (.ref pq)) 3 (.ref mq)) 4 (va_rf lo)) Z B J K w := hO.to rfl
      exact cut_d B cs _ _ _ _ ((show Thx (upd (upd (upd (upd (upd (upd (upd F 2 (nI sz)) 5 (nI cs)) 6 (nI rg)) 7 (nI hd)) 8 (nI dp)) 12 (nI vr)) 16 ls9) (upd (upd (upd (upd (upd (upd (upd F 2 (nI sz)) 5 (nI cs)) 6 (nI rg)) 7 (nI hd)) 8 (nI dp)) 12 (nI vr)) 16 ls9) B B from Thx.rfl).2) hng (by omega) hP hD hS hO (lv_sub hl [2, 1, 0] rfl)
    · refine lv_aload_n hx hb dX0_statement_13 rfl (lv_at hl 1 rfl) ?_
      refine p_get (v := .int kd) (C := RX7) (Tc := TX7) (N := 11) (ci := 13) hx hb hq pin_wsX70 hown hE hP hO (by rw [hqT]; decide) (rep_1 hqT) rfl 0 (by decide) (hq _ pw_166) (fun _ h9 => h9) (congrArg (fun z => some (Value.int z)) hkd) dX0_statement_14 ?_
      refine lv_bipush (v := 34) hx hb dX0_statement_17 (by decide) ?_
      refine lv_icmp_eq (tgt := 32) hx hb dX0_statement_19 (by decide) (fun c589 => ?_) (fun c589 => ?_)
      · refine W.widen (k := 0) (n := 0) (by show 0 ≤ _; omega) (by show 0 ≤ _; omega) ?_
        have hO : OKP G h0 a (upd (upd (upd (upd (upd (upd (upd F 2 (nI sz)) 5 (nI cs)) 6 (nI rg)) 7 (nI hd)) 8 (nI dp)) 12 (nI vr)) 16 ls9) (updR (updR (updR R 2 (.ref pq)) 3 (.ref mq)) 4 (va_rf lo)) Z B J K w := hO.to rfl
        exact cut_d B cs _ _ _ _ ((show Thx (upd (upd (upd (upd (upd (upd (upd F 2 (nI sz)) 5 (nI cs)) 6 (nI rg)) 7 (nI hd)) 8 (nI dp)) 12 (nI vr)) 16 ls9) (upd (upd (upd (upd (upd (upd (upd F 2 (nI sz)) 5 (nI cs)) 6 (nI rg)) 7 (nI hd)) 8 (nI dp)) 12 (nI vr)) 16 ls9) B B from Thx.rfl).2) hng (by omega) hP hD hS hO (lv_sub hl [2, 1, 0] rfl)
      · refine lv_aload_n hx hb dX0_statement_22 rfl (lv_at hl 0 rfl) ?_
        refine c_get (v := .ref (a 2)) (C := RX0) (Tc := TX0) (N := 13) (ci := 0) hx hb hq pin_wsX00 hown hE hP hO 24 (sg_24 G h0 a _ _ _ _ _) rfl 1 (by decide) (hq _ pw_5) (fun _ h9 => h9) rfl dX0_statement_23 ?_
        refine lv_iconst (v := 0) hx hb dX0_statement_26 (by decide) ?_
        refine lv_iconst (v := 0) hx hb dX0_statement_27 (by decide) ?_
        refine lv_iconst (v := 0) hx hb dX0_statement_28 (by decide) ?_
        have hO : OKW G h0 a (upd (upd (upd (upd (upd (upd (upd (upd F 2 (nI sz)) 5 (nI cs)) 6 (nI rg)) 7 (nI hd)) 8 (nI dp)) 12 (nI vr)) 16 ls9) 5 (nI cs)) (updR (updR (updR R 2 (.ref pq)) 3 (.ref mq)) 4 (va_rf lo)) Z B J K.1 (fun q99 x99 => x99 = rep G a K q99) w := hO.to rfl
        obtain ⟨_, qr593, hqr594⟩ := hO.2.1 13 _ (sg_13 G h0 a _ _ _ _ _)
        refine pc_V0 (G := G) (As := [.int 0, .int 0, .int (nI 0)]) (rest := []) hx hb hml hown hq hE hX pX0_al hP hD hS hA hl.1 (K_emit l G h0 a (upd (upd (upd (upd (upd (upd (upd F 2 (nI sz)) 5 (nI cs)) 6 (nI rg)) 7 (nI hd)) 8 (nI dp)) 12 (nI vr)) 16 ls9) (updR (updR (updR R 2 (.ref pq)) 3 (.ref mq)) 4 (va_rf lo)) Z B J K.1 (fun q99 x99 => x99 = rep G a K q99) w 0 0 0 cs (by omega) (by omega) hng hO) (gV pw_129 pw_130 pw_131 pw_70 pw_115) hV_X1_emit qr593 1 hqr594 rfl rfl rfl (Nat.le_of_ble_eq_true rfl) dX0_statement_29 ⟨(by show 0 + 0 ≤ ((rE (g 2 q) - rS (g 2 q)) + 1); omega), (by show 0 + 0 ≤ (6 * (rE (g 2 q) - rS (g 2 q)) + 6); omega)⟩ ⟨(by show 2 + 1 ≤ (5 * n + 50); omega), (by show 8 + (4 + 11) + 60 ≤ (200 * n + 1200); omega)⟩ (fun v592 u590 H locs hw591 hP hD hS => ?_)
        obtain ⟨w, cs595, f596, f597, f598, f599⟩ := u590
        obtain ⟨hw591, h600, h601, hO⟩ := hw591
        have h600 : cs ≤ cs595 ∧ cs595 ≤ cs + 1 ∧ cs595 ≤ 10000 := h600
        have h601 : Nng f598 := h601
        obtain rfl : v592 = none := hw591
        have hO : OKP G h0 a (upd (upd (upd (upd (upd (upd (upd F 2 (nI sz)) 5 (nI cs595)) 6 (nI rg)) 7 (nI hd)) 8 (nI dp)) 12 (nI vr)) 16 ls9) (updR (updR (updR R 2 (.ref pq)) 3 (.ref mq)) 4 (va_rf lo)) Z (updA (updA (updA (updA B 16 f596) 17 f597) 18 f598) 19 f599) J K w := hO.to rfl
        refine W.widen (k := 0) (n := 0) (Nat.le_of_ble_eq_true rfl) (Nat.le_of_ble_eq_true rfl) ?_
        refine W.eq (g2 := F0 m 32 ls []) rfl ?_
        refine W.widen (k := 0) (n := 0) (by show 0 ≤ _; omega) (by show 0 ≤ _; omega) ?_
        have hO : OKP G h0 a (upd (upd (upd (upd (upd (upd (upd F 2 (nI sz)) 5 (nI cs595)) 6 (nI rg)) 7 (nI hd)) 8 (nI dp)) 12 (nI vr)) 16 ls9) (updR (updR (updR R 2 (.ref pq)) 3 (.ref mq)) 4 (va_rf lo)) Z (updA (updA (updA (updA B 16 f596) 17 f597) 18 f598) 19 f599) J K w := hO.to rfl
        exact cut_d (updA (updA (updA (updA B 16 f596) 17 f597) 18 f598) 19 f599) cs595 _ _ _ _ ((show Thx (upd (upd (upd (upd (upd (upd (upd F 2 (nI sz)) 5 (nI cs)) 6 (nI rg)) 7 (nI hd)) 8 (nI dp)) 12 (nI vr)) 16 ls9) (upd (upd (upd (upd (upd (upd (upd (upd F 2 (nI sz)) 5 (nI cs)) 6 (nI rg)) 7 (nI hd)) 8 (nI dp)) 12 (nI vr)) 16 ls9) 5 (nI cs595)) B (updA (updA (updA (updA B 16 f596) 17 f597) 18 f598) 19 f599) from (Thx.b (Thx.b8 (Thx.b (Thx.b (Thx.f Thx.rfl (by omega)) (by omega) (by decide)) (by omega) (by decide)) h601) (by omega) (by decide))).2) h601 (by omega) hP hD hS hO (lv_sub hl [2, 1, 0] rfl)
theorem PS_step (l : Launch) (G : pT) (n : Nat) (ih : IhT l G n) : PSa l G n := fun h0 a F R Z B J K w pq dr ml nd nm cp it s9 q mq cs vr sz tf hd dp rg ls9 lo g rk hsz hwp hps hrk hcs hvr hng hmq hqT hqL hdp hrg hhd hlo htf hO hl0 => B_statement0 l G h0 a F R Z B J K w pq dr ml nd nm cp it s9 q mq cs vr sz n tf hd dp rg ls9 lo g rk hsz hwp hps hrk hcs hvr hng hmq hqT hqL hdp hrg hhd hlo htf ih (IhV.all l G n) hO hl0
theorem IhT.all (l : Launch) (G : pT) : ∀ n : Nat, IhT l G n
  | 0 => fun m hm => absurd hm (by omega)
  | n + 1 => fun m hm => by
    by_cases e : m = n
    · rw [e]; exact PS_step l G n (IhT.all l G n)
    · exact IhT.all l G n m (by omega)

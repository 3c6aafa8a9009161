theorem sw_out33 {x : Int32} (h21 : ¬ x = 21) (h22 : ¬ x = 22) (h23 : ¬ x = 23) (h24 : ¬ x = 24) (h25 : ¬ x = 25) (h26 : ¬ x = 26) (h27 : ¬ x = 27) (h28 : ¬ x = 28) (h29 : ¬ x = 29) (h30 : ¬ x = 30) (h31 : ¬ x = 31) (h32 : ¬ x = 32) (h33 : ¬ x = 33) : x.toInt < 21 ∨ 33 < x.toInt := by
  have a21 : ¬ x.toInt = 21 := tJ_ne (n := 21) (by decide) h21
  have a22 : ¬ x.toInt = 22 := tJ_ne (n := 22) (by decide) h22
  have a23 : ¬ x.toInt = 23 := tJ_ne (n := 23) (by decide) h23
  have a24 : ¬ x.toInt = 24 := tJ_ne (n := 24) (by decide) h24
  have a25 : ¬ x.toInt = 25 := tJ_ne (n := 25) (by decide) h25
  have a26 : ¬ x.toInt = 26 := tJ_ne (n := 26) (by decide) h26
  have a27 : ¬ x.toInt = 27 := tJ_ne (n := 27) (by decide) h27
  have a28 : ¬ x.toInt = 28 := tJ_ne (n := 28) (by decide) h28
  have a29 : ¬ x.toInt = 29 := tJ_ne (n := 29) (by decide) h29
  have a30 : ¬ x.toInt = 30 := tJ_ne (n := 30) (by decide) h30
  have a31 : ¬ x.toInt = 31 := tJ_ne (n := 31) (by decide) h31
  have a32 : ¬ x.toInt = 32 := tJ_ne (n := 32) (by decide) h32
  have a33 : ¬ x.toInt = 33 := tJ_ne (n := 33) (by decide) h33
  omega
theorem dX0_statement_32 : decode cX0_statement 32 = .ok (.aload_n 1, 1) := by decide +kernel
theorem dX0_statement_33 : decode cX0_statement 33 = .ok (.getfield 178, 3) := by decide +kernel
theorem dX0_statement_36 : decode cX0_statement 36 = .ok (.tableswitch 205 21 33 #[68, 124, 132, 179, 76, 84, 84, 92, 100, 100, 108, 116, 147], 68) := by decide +kernel
theorem dX0_statement_104 : decode cX0_statement 104 = .ok (.aload_n 0, 1) := by decide +kernel
theorem dX0_statement_105 : decode cX0_statement 105 = .ok (.aload_n 1, 1) := by decide +kernel
theorem dX0_statement_106 : decode cX0_statement 106 = .ok (.invokevirtual 77, 3) := by decide +kernel
theorem dX0_statement_109 : decode cX0_statement 109 = .ok (.goto 132, 3) := by decide +kernel
theorem dX0_statement_241 : decode cX0_statement 241 = .ok (.return_, 1) := by decide +kernel
theorem dX0_statement_160 : decode cX0_statement 160 = .ok (.aload_n 0, 1) := by decide +kernel
theorem dX0_statement_161 : decode cX0_statement 161 = .ok (.aload_n 1, 1) := by decide +kernel
theorem dX0_statement_162 : decode cX0_statement 162 = .ok (.invokevirtual 199, 3) := by decide +kernel
theorem dX0_statement_165 : decode cX0_statement 165 = .ok (.goto 76, 3) := by decide +kernel
theorem dX0_statement_168 : decode cX0_statement 168 = .ok (.aload_n 0, 1) := by decide +kernel
theorem dX0_statement_169 : decode cX0_statement 169 = .ok (.aload_n 1, 1) := by decide +kernel
theorem dX0_statement_170 : decode cX0_statement 170 = .ok (.getfield 165, 3) := by decide +kernel
theorem dX0_statement_173 : decode cX0_statement 173 = .ok (.aload_n 1, 1) := by decide +kernel
theorem dX0_statement_174 : decode cX0_statement 174 = .ok (.getfield 202, 3) := by decide +kernel
theorem dX0_statement_177 : decode cX0_statement 177 = .ok (.invokevirtual 205, 3) := by decide +kernel
theorem dX0_statement_180 : decode cX0_statement 180 = .ok (.goto 61, 3) := by decide +kernel
theorem dX0_statement_215 : decode cX0_statement 215 = .ok (.aload_n 0, 1) := by decide +kernel
theorem dX0_statement_216 : decode cX0_statement 216 = .ok (.aload_n 1, 1) := by decide +kernel
theorem dX0_statement_217 : decode cX0_statement 217 = .ok (.getfield 165, 3) := by decide +kernel
theorem dX0_statement_220 : decode cX0_statement 220 = .ok (.invokevirtual 209, 3) := by decide +kernel
theorem dX0_statement_223 : decode cX0_statement 223 = .ok (.bipush 63, 2) := by decide +kernel
theorem dX0_statement_225 : decode cX0_statement 225 = .ok (.if_icmp .eq 16, 3) := by decide +kernel
theorem dX0_statement_228 : decode cX0_statement 228 = .ok (.aload_n 0, 1) := by decide +kernel
theorem dX0_statement_229 : decode cX0_statement 229 = .ok (.getfield 15, 3) := by decide +kernel
theorem dX0_statement_232 : decode cX0_statement 232 = .ok (.iconst 5, 1) := by decide +kernel
theorem dX0_statement_233 : decode cX0_statement 233 = .ok (.iconst 0, 1) := by decide +kernel
theorem dX0_statement_234 : decode cX0_statement 234 = .ok (.iconst 0, 1) := by decide +kernel
theorem dX0_statement_235 : decode cX0_statement 235 = .ok (.invokevirtual 140, 3) := by decide +kernel
theorem dX0_statement_238 : decode cX0_statement 238 = .ok (.goto 3, 3) := by decide +kernel
theorem dX0_statement_112 : decode cX0_statement 112 = .ok (.aload_n 0, 1) := by decide +kernel
theorem dX0_statement_113 : decode cX0_statement 113 = .ok (.aload_n 1, 1) := by decide +kernel
theorem dX0_statement_114 : decode cX0_statement 114 = .ok (.invokevirtual 181, 3) := by decide +kernel
theorem dX0_statement_117 : decode cX0_statement 117 = .ok (.goto 124, 3) := by decide +kernel
theorem dX0_statement_120 : decode cX0_statement 120 = .ok (.aload_n 0, 1) := by decide +kernel
theorem dX0_statement_121 : decode cX0_statement 121 = .ok (.aload_n 1, 1) := by decide +kernel
theorem dX0_statement_122 : decode cX0_statement 122 = .ok (.invokevirtual 184, 3) := by decide +kernel
theorem dX0_statement_125 : decode cX0_statement 125 = .ok (.goto 116, 3) := by decide +kernel
theorem dX0_statement_128 : decode cX0_statement 128 = .ok (.aload_n 0, 1) := by decide +kernel
theorem dX0_statement_129 : decode cX0_statement 129 = .ok (.aload_n 1, 1) := by decide +kernel
theorem dX0_statement_130 : decode cX0_statement 130 = .ok (.invokevirtual 187, 3) := by decide +kernel
theorem dX0_statement_133 : decode cX0_statement 133 = .ok (.goto 108, 3) := by decide +kernel
theorem dX0_statement_136 : decode cX0_statement 136 = .ok (.aload_n 0, 1) := by decide +kernel
theorem dX0_statement_137 : decode cX0_statement 137 = .ok (.aload_n 1, 1) := by decide +kernel
theorem dX0_statement_138 : decode cX0_statement 138 = .ok (.invokevirtual 190, 3) := by decide +kernel
theorem dX0_statement_141 : decode cX0_statement 141 = .ok (.goto 100, 3) := by decide +kernel
theorem dX0_statement_144 : decode cX0_statement 144 = .ok (.aload_n 0, 1) := by decide +kernel
theorem dX0_statement_145 : decode cX0_statement 145 = .ok (.aload_n 1, 1) := by decide +kernel
theorem dX0_statement_146 : decode cX0_statement 146 = .ok (.invokevirtual 193, 3) := by decide +kernel
theorem dX0_statement_149 : decode cX0_statement 149 = .ok (.goto 92, 3) := by decide +kernel
theorem dX0_statement_152 : decode cX0_statement 152 = .ok (.aload_n 0, 1) := by decide +kernel
theorem dX0_statement_153 : decode cX0_statement 153 = .ok (.aload_n 1, 1) := by decide +kernel
theorem dX0_statement_154 : decode cX0_statement 154 = .ok (.invokevirtual 196, 3) := by decide +kernel
theorem dX0_statement_157 : decode cX0_statement 157 = .ok (.goto 84, 3) := by decide +kernel
theorem dX0_statement_183 : decode cX0_statement 183 = .ok (.aload_n 0, 1) := by decide +kernel
theorem dX0_statement_184 : decode cX0_statement 184 = .ok (.aload_n 1, 1) := by decide +kernel
theorem dX0_statement_185 : decode cX0_statement 185 = .ok (.getfield 165, 3) := by decide +kernel
theorem dX0_statement_188 : decode cX0_statement 188 = .ok (.aload_n 0, 1) := by decide +kernel
theorem dX0_statement_189 : decode cX0_statement 189 = .ok (.aload_n 1, 1) := by decide +kernel
theorem dX0_statement_190 : decode cX0_statement 190 = .ok (.getfield 165, 3) := by decide +kernel
theorem dX0_statement_193 : decode cX0_statement 193 = .ok (.invokevirtual 209, 3) := by decide +kernel
theorem dX0_statement_196 : decode cX0_statement 196 = .ok (.bipush 60, 2) := by decide +kernel
theorem dX0_statement_198 : decode cX0_statement 198 = .ok (.invokevirtual 213, 3) := by decide +kernel
theorem dX0_statement_201 : decode cX0_statement 201 = .ok (.aload_n 0, 1) := by decide +kernel
theorem dX0_statement_202 : decode cX0_statement 202 = .ok (.getfield 15, 3) := by decide +kernel
theorem dX0_statement_205 : decode cX0_statement 205 = .ok (.bipush 13, 2) := by decide +kernel
theorem dX0_statement_207 : decode cX0_statement 207 = .ok (.iconst 0, 1) := by decide +kernel
theorem dX0_statement_208 : decode cX0_statement 208 = .ok (.iconst 0, 1) := by decide +kernel
theorem dX0_statement_209 : decode cX0_statement 209 = .ok (.invokevirtual 140, 3) := by decide +kernel
theorem dX0_statement_212 : decode cX0_statement 212 = .ok (.goto 29, 3) := by decide +kernel
theorem dX0_statement_0 : decode cX0_statement 0 = .ok (.iload_n 2, 1) := by decide +kernel
theorem dX0_statement_1 : decode cX0_statement 1 = .ok (.ifCond .eq 31, 3) := by decide +kernel
theorem dX0_statement_4 : decode cX0_statement 4 = .ok (.aload_n 1, 1) := by decide +kernel
theorem dX0_statement_5 : decode cX0_statement 5 = .ok (.getfield 178, 3) := by decide +kernel
theorem dX0_statement_8 : decode cX0_statement 8 = .ok (.bipush 21, 2) := by decide +kernel
theorem dX0_statement_10 : decode cX0_statement 10 = .ok (.if_icmp .eq 22, 3) := by decide +kernel
theorem dX0_statement_13 : decode cX0_statement 13 = .ok (.aload_n 1, 1) := by decide +kernel
theorem dX0_statement_14 : decode cX0_statement 14 = .ok (.getfield 178, 3) := by decide +kernel
theorem dX0_statement_17 : decode cX0_statement 17 = .ok (.bipush 34, 2) := by decide +kernel
theorem dX0_statement_19 : decode cX0_statement 19 = .ok (.if_icmp .eq 13, 3) := by decide +kernel
theorem dX0_statement_22 : decode cX0_statement 22 = .ok (.aload_n 0, 1) := by decide +kernel
theorem dX0_statement_23 : decode cX0_statement 23 = .ok (.getfield 15, 3) := by decide +kernel
theorem dX0_statement_26 : decode cX0_statement 26 = .ok (.iconst 0, 1) := by decide +kernel
theorem dX0_statement_27 : decode cX0_statement 27 = .ok (.iconst 0, 1) := by decide +kernel
theorem dX0_statement_28 : decode cX0_statement 28 = .ok (.iconst 0, 1) := by decide +kernel
theorem dX0_statement_29 : decode cX0_statement 29 = .ok (.invokevirtual 140, 3) := by decide +kernel
theorem hV_X0_local : yX0_local.cls = RX0 ∧ yX0_local.cls ≠ "java/lang/invoke/MethodHandle" ∧ yX0_local.cls ≠ "java/lang/invoke/VarHandle" ∧ (parseMethodDescriptor yX0_local.desc).map (fun d => d.parameters.length) = some 1 := by decide +kernel
theorem hV_X0_assign : yX0_assign.cls = RX0 ∧ yX0_assign.cls ≠ "java/lang/invoke/MethodHandle" ∧ yX0_assign.cls ≠ "java/lang/invoke/VarHandle" ∧ (parseMethodDescriptor yX0_assign.desc).map (fun d => d.parameters.length) = some 2 := by decide +kernel
theorem hV_X0_ifStatement : yX0_ifStatement.cls = RX0 ∧ yX0_ifStatement.cls ≠ "java/lang/invoke/MethodHandle" ∧ yX0_ifStatement.cls ≠ "java/lang/invoke/VarHandle" ∧ (parseMethodDescriptor yX0_ifStatement.desc).map (fun d => d.parameters.length) = some 1 := by decide +kernel
theorem hV_X0_loopStatement : yX0_loopStatement.cls = RX0 ∧ yX0_loopStatement.cls ≠ "java/lang/invoke/MethodHandle" ∧ yX0_loopStatement.cls ≠ "java/lang/invoke/VarHandle" ∧ (parseMethodDescriptor yX0_loopStatement.desc).map (fun d => d.parameters.length) = some 1 := by decide +kernel
theorem hV_X0_returnStatement : yX0_returnStatement.cls = RX0 ∧ yX0_returnStatement.cls ≠ "java/lang/invoke/MethodHandle" ∧ yX0_returnStatement.cls ≠ "java/lang/invoke/VarHandle" ∧ (parseMethodDescriptor yX0_returnStatement.desc).map (fun d => d.parameters.length) = some 1 := by decide +kernel
theorem hV_X0_jumpStatement : yX0_jumpStatement.cls = RX0 ∧ yX0_jumpStatement.cls ≠ "java/lang/invoke/MethodHandle" ∧ yX0_jumpStatement.cls ≠ "java/lang/invoke/VarHandle" ∧ (parseMethodDescriptor yX0_jumpStatement.desc).map (fun d => d.parameters.length) = some 1 := by decide +kernel
theorem hV_X0_throwStatement : yX0_throwStatement.cls = RX0 ∧ yX0_throwStatement.cls ≠ "java/lang/invoke/MethodHandle" ∧ yX0_throwStatement.cls ≠ "java/lang/invoke/VarHandle" ∧ (parseMethodDescriptor yX0_throwStatement.desc).map (fun d => d.parameters.length) = some 1 := by decide +kernel
theorem hV_X0_tryStatement : yX0_tryStatement.cls = RX0 ∧ yX0_tryStatement.cls ≠ "java/lang/invoke/MethodHandle" ∧ yX0_tryStatement.cls ≠ "java/lang/invoke/VarHandle" ∧ (parseMethodDescriptor yX0_tryStatement.desc).map (fun d => d.parameters.length) = some 1 := by decide +kernel
set_option maxHeartbeats 80000000 in
set_option maxRecDepth 100000 in
theorem B_statement0 (l : Launch) (G : pT) (h0 : Nat) (a : Nat → Nat) (F : Nat → Int32) (R : Nat → Value) (Z : Int64) (B : Nat → Nat → Int32) (J : Nat → Nat → Int64) (K : PK) (w : va_W) (pq : Nat) (dr : Nat) (ml : Nat) (nd : Nat) (nm : Nat) (cp : Nat) (it : Nat → Nat) (s9 : Nat) (q : Nat) (mq : Nat) (cs : Nat) (vr : Nat) (sz : Nat) (n : Nat) (tf : Nat) (hd : Nat) (dp : Nat) (rg : Nat) (ls9 : Int32) (lo : Option Nat) (g : Nat → Nat → Nat) (rk : Nat → Nat) (hsz : sz ≤ 5000) (hwp : WPr G K g) (hps : PgT G K g (a 1) pq dr ml nd nm cp it s9) (hrk : RkO K rk) (hcs : cs ≤ 10000) (hvr : vr ≤ 30) (hng : Nng (B 18)) (hmq : K.1 mq = 3) (hqT : K.1 q = 1) (hqL : 1 ≤ g 0 q ∧ g 0 q ≤ n) (hdp : dp ≤ 1000) (hrg : rg ≤ 625) (hhd : hd + 2 * n + 30 ≤ 900 + vr) (hlo : LpO K lo) (htf : tf ≤ 1) (ist : IhT l G n) (ihv : IhV l G n) (hO : OKP G h0 a (upd (upd (upd (upd (upd (upd (upd F 2 (nI sz)) 5 (nI cs)) 6 (nI rg)) 7 (nI hd)) 8 (nI dp)) 12 (nI vr)) 16 ls9) (updR (updR (updR R 2 (.ref pq)) 3 (.ref mq)) 4 (va_rf lo)) Z B J K w) (hl0 : l.stackTraces = false) : PBn l G pX0 yX0_statement cX0_statement 3 none ({ frames := (5 * n + 50), cells := ((rE (g 2 q) - rS (g 2 q)) + 1), slots := (6 * (rE (g 2 q) - rS (g 2 q)) + 6), locals := (200 * n + 1200) }) [.ref (a 4), .ref q, .int (nI tf)] w (fun (v : Option Value) (u : va_W × (PK × (Nat → Nat → Int32) × Nat × Int32 × Int32 × Int32 × Nat × Nat × Nat × Nat × Int32)) => v = none ∧ (BdE K u.2.1) ∧ (Bth B u.2.2.1) ∧ (u.2.2.2.1 ≤ 10000 ∧ u.2.2.2.2.2.2.2.2.2.2.1 ≤ 625 ∧ u.2.2.2.2.2.2.2.2.2.1 ≤ 1000) ∧ (vr ≤ u.2.2.2.2.2.2.2.1 ∧ u.2.2.2.2.2.2.2.1 ≤ 30 ∧ u.2.2.2.2.2.2.2.2.1 + vr = hd + u.2.2.2.2.2.2.2.1) ∧ (OKP G h0 a (upd (upd (upd (upd (upd (upd (upd (upd (upd (upd F 2 (nI sz)) 5 (nI u.2.2.2.1)) 6 (nI u.2.2.2.2.2.2.2.2.2.2.1)) 7 (nI u.2.2.2.2.2.2.2.2.1)) 8 (nI u.2.2.2.2.2.2.2.2.2.1)) 12 (nI u.2.2.2.2.2.2.2.1)) 13 u.2.2.2.2.1) 14 u.2.2.2.2.2.1) 15 u.2.2.2.2.2.2.1) 16 u.2.2.2.2.2.2.2.2.2.2.2) (updR (updR (updR R 2 (.ref pq)) 3 (.ref mq)) 4 (va_rf lo)) Z u.2.2.1 J u.2.1 u.1)) (fun u => u.1) (fun (u : va_W × (PK × (Nat → Nat → Int32) × Nat × Int32 × Int32 × Int32 × Nat × Nat × Nat × Nat × Int32)) => (rE (g 2 q) - rS (g 2 q))) (fun (u : va_W × (PK × (Nat → Nat → Int32) × Nat × Int32 × Int32 × Int32 × Nat × Nat × Nat × Nat × Int32)) => (6 * (rE (g 2 q) - rS (g 2 q)))) (fun (u : va_W × (Nat → Int32) × (Nat → Value) × (Nat → Nat → Int32)) => ThQ G h0 a (upd (upd (upd (upd (upd (upd (upd F 2 (nI sz)) 5 (nI cs)) 6 (nI rg)) 7 (nI hd)) 8 (nI dp)) 12 (nI vr)) 16 ls9) (updR (updR (updR R 2 (.ref pq)) 3 (.ref mq)) 4 (va_rf lo)) Z B J u) (fun u => u.1) := by
  intro sz
  refine vx_ofW (cc := cX0_statement) (maxL := 3) (ret := none) (by decide) rfl ?_
  intro p e s m args below meth c s₁ B9 hml hnt hv
  obtain ⟨rfl, hsz, hP, hD0, hE, hX⟩ := hv
  have hx := B9.exec
  have hb := B9.bytes
  have hr := B9.returns
  have hts := atoms_spec (ws := Cond.code yX0_statement cX0_statement 3 none :: pw) B9.pre
  have hq : ∀ w ∈ pw, w.before _ s = true := fun w h => hts w (List.mem_cons_of_mem _ h)
  have hown : s.vm.findClass RX0 = some m.cls := findClass_of_methodNamed B9.named
  have hlocks := B9.notSynchronized
  subst hsz
  have hD := hD0.self (sz := s.heap.size)
  have hA : ∀ q : Nat, s.heap.size ≤ q → va_A w s.heap.size q := fun q h => Or.inr h
  generalize va_A w s.heap.size = A at hD hE hA ⊢
  have hS : va_S A s.heap s.heap [] := va_S.rf
  have hl := lv_entry ([.ref (a 4), .ref q, .int (nI tf)]) (n := 3) (Nat.le_of_ble_eq_true rfl)
  rw [lg_entry_eq]
  generalize (lg_sl ([.ref (a 4), .ref q, .int (nI tf)]) ++ List.replicate (3 - (lg_sl ([.ref (a 4), .ref q, .int (nI tf)])).length) Slot.unset).toArray = ls at hl ⊢
  have hl : lv_has ls 3 [(0, .ref (a 4)), (1, .ref q), (2, .int (nI tf))] := hl
  have hpg := hps.1
  have hp1 := hpg.1
  have hp2 := hpg.2.1
  have hp3 := hpg.2.2.1
  have hp4 := hpg.2.2.2.1
  have hp5 := hpg.2.2.2.2.1
  have hp6 := hpg.2.2.2.2.2.1
  have hp8 := hpg.2.2.2.2.2.2.2.1
  have hp9 := hpg.2.2.2.2.2.2.2.2
  obtain ⟨kd, hkd⟩ : ∃ z : Int32, K.2.1 0 q = z := ⟨_, rfl⟩
  have hnd := hwp.1 q hqT hqL.1
  have cut_d : ∀ (B2 : Nat → Nat → Int32) (cs2 : Nat) (H : Heap) (locs : List Loc) (ls : Array Slot) (w : va_W), (Bth B B2) → (Nng (B2 18)) → (cs2 ≤ 10000) → va_P G.1 pCl w H → va_D A w → va_S A s.heap H locs → OKP G h0 a (upd (upd (upd (upd (upd (upd (upd F 2 (nI sz)) 5 (nI cs2)) 6 (nI rg)) 7 (nI hd)) 8 (nI dp)) 12 (nI vr)) 16 ls9) (updR (updR (updR R 2 (.ref pq)) 3 (.ref mq)) 4 (va_rf lo)) Z B2 J K w → lv_has ls 3 [(2, .int (nI tf)), (1, .ref q), (0, .ref (a 4))] → W p l e (headSpec (Cond.code yX0_statement cX0_statement 3 none :: pw) ({ frames := (5 * n + 50), cells := ((rE (g 2 q) - rS (g 2 q)) + 1), slots := (6 * (rE (g 2 q) - rS (g 2 q)) + 6), locals := (200 * n + 1200) } : Room)).room s m ([.ref (a 4), .ref q, .int (nI tf)] : List Value).toArray below meth c H locs 0 0 (vx_MQ below (pQn G A (fun (v : Option Value) (u : va_W × (PK × (Nat → Nat → Int32) × Nat × Int32 × Int32 × Int32 × Nat × Nat × Nat × Nat × Int32)) => v = none ∧ (BdE K u.2.1) ∧ (Bth B u.2.2.1) ∧ (u.2.2.2.1 ≤ 10000 ∧ u.2.2.2.2.2.2.2.2.2.2.1 ≤ 625 ∧ u.2.2.2.2.2.2.2.2.2.1 ≤ 1000) ∧ (vr ≤ u.2.2.2.2.2.2.2.1 ∧ u.2.2.2.2.2.2.2.1 ≤ 30 ∧ u.2.2.2.2.2.2.2.2.1 + vr = hd + u.2.2.2.2.2.2.2.1) ∧ (OKP G h0 a (upd (upd (upd (upd (upd (upd (upd (upd (upd (upd F 2 (nI sz)) 5 (nI u.2.2.2.1)) 6 (nI u.2.2.2.2.2.2.2.2.2.2.1)) 7 (nI u.2.2.2.2.2.2.2.2.1)) 8 (nI u.2.2.2.2.2.2.2.2.2.1)) 12 (nI u.2.2.2.2.2.2.2.1)) 13 u.2.2.2.2.1) 14 u.2.2.2.2.2.1) 15 u.2.2.2.2.2.2.1) 16 u.2.2.2.2.2.2.2.2.2.2.2) (updR (updR (updR R 2 (.ref pq)) 3 (.ref mq)) 4 (va_rf lo)) Z u.2.2.1 J u.2.1 u.1)) (fun u => u.1) (fun (u : va_W × (PK × (Nat → Nat → Int32) × Nat × Int32 × Int32 × Int32 × Nat × Nat × Nat × Nat × Int32)) => (rE (g 2 q) - rS (g 2 q))) (fun (u : va_W × (PK × (Nat → Nat → Int32) × Nat × Int32 × Int32 × Int32 × Nat × Nat × Nat × Nat × Int32)) => (6 * (rE (g 2 q) - rS (g 2 q))))) (pXX G A (fun (u : va_W × (Nat → Int32) × (Nat → Value) × (Nat → Nat → Int32)) => ThQ G h0 a (upd (upd (upd (upd (upd (upd (upd F 2 (nI sz)) 5 (nI cs)) 6 (nI rg)) 7 (nI hd)) 8 (nI dp)) 12 (nI vr)) 16 ls9) (updR (updR (updR R 2 (.ref pq)) 3 (.ref mq)) 4 (va_rf lo)) Z B J u) (fun u => u.1)) ([.ref (a 4), .ref q, .int (nI tf)] : List Value).toArray s ({ frames := (5 * n + 50), cells := ((rE (g 2 q) - rS (g 2 q)) + 1), slots := (6 * (rE (g 2 q) - rS (g 2 q)) + 6), locals := (200 * n + 1200) } : Room).cells ({ frames := (5 * n + 50), cells := ((rE (g 2 q) - rS (g 2 q)) + 1), slots := (6 * (rE (g 2 q) - rS (g 2 q)) + 6), locals := (200 * n + 1200) } : Room).slots A) (F0 m 32 ls []) := by
    intro B2 cs2 H locs ls w hbb2 hng2 hcs2 hP hD hS hO hl
    refine lv_aload_n hx hb dX0_statement_32 rfl (lv_at hl 1 rfl) ?_
    refine p_get (v := .int kd) (C := RX7) (Tc := TX7) (N := 11) (ci := 13) hx hb hq pin_wsX70 hown hE hP hO (by rw [hqT]; decide) (rep_1 hqT) rfl 0 (by decide) (hq _ pw_166) (fun _ h9 => h9) (congrArg (fun z => some (Value.int z)) hkd) dX0_statement_33 ?_
    by_cases h1 : kd = 21
    · subst h1
      refine lv_tableIn (tgt := 104) (off := 68) hx hb dX0_statement_36 (by decide) (by decide) (by decide) (by decide) ?_
      refine lv_aload_n hx hb dX0_statement_104 rfl (lv_at hl 2 rfl) ?_
      refine lv_aload_n hx hb dX0_statement_105 rfl (lv_at hl 1 rfl) ?_
      have hO : OKP G h0 a (upd (upd (upd (upd (upd (upd (upd (upd (upd (upd (upd (upd (upd (upd (upd F 2 (nI sz)) 5 (nI cs)) 6 (nI rg)) 7 (nI hd)) 8 (nI dp)) 12 (nI vr)) 16 ls9) 5 (nI cs2)) 2 (nI sz)) 5 (nI cs2)) 6 (nI rg)) 7 (nI hd)) 8 (nI dp)) 12 (nI vr)) 16 ls9) (updR (updR (updR (updR (updR (updR R 2 (.ref pq)) 3 (.ref mq)) 4 (va_rf lo)) 2 (.ref pq)) 3 (.ref mq)) 4 (va_rf lo)) Z B2 J K w := hO.to rfl
      obtain ⟨_, qr5, hqr6⟩ := hO.2.1 24 _ (sg_24 G h0 a _ _ _ _ _)
      refine pn_V0 (G := G) (As := [.ref q]) (rest := []) hx hb hml hown hq hE hX pX0_al hP hD hS hA hl.1 (B_block l G h0 a (upd (upd (upd (upd (upd (upd (upd (upd F 2 (nI sz)) 5 (nI cs)) 6 (nI rg)) 7 (nI hd)) 8 (nI dp)) 12 (nI vr)) 16 ls9) 5 (nI cs2)) (updR (updR (updR R 2 (.ref pq)) 3 (.ref mq)) 4 (va_rf lo)) Z B2 J K w pq dr ml nd nm cp it s9 q mq cs2 vr sz n hd dp rg ls9 lo g rk (by omega) (BdE.wp BdE.rfl hwp) (BdE.pt BdE.rfl hwp hps) (BdE.rko BdE.rfl hrk) (by omega) (by omega) hng2 hmq hqT hqL (by omega) (by omega) (by omega) (LpO.be BdE.rfl hlo) hkd ist (IhV.all l G _) hO hl0) (gV pw_307 pw_308 pw_309 pw_63 pw_358) hV_X0_block qr5 0 hqr6 rfl rfl rfl (Nat.le_of_ble_eq_true rfl) dX0_statement_106 ⟨(by show 0 + ((rE (g 2 q) - rS (g 2 q) - 2) + 1) ≤ ((rE (g 2 q) - rS (g 2 q)) + 1); omega), (by show 0 + (6 * (rE (g 2 q) - rS (g 2 q) - 2) + 6) ≤ (6 * (rE (g 2 q) - rS (g 2 q)) + 6); omega)⟩ ⟨(by show (5 * n + 46) + 1 ≤ (5 * n + 50); omega), (by show 8 + (5 + 11) + (200 * n + 1120) ≤ (200 * n + 1200); omega)⟩ (fun v4 u2 H locs hw3 hP hD hS => ?_) (fun ux ce9 q9 H9 locs9 hux hP9 hD9 hS9 hce hcv hcl => pb_out ux (ThQ.up (Thx.same (Thx.same (Thx.same (Thx.same (Thx.same (Thx.same (Thx.same (Thx.f (Bth.thx hbb2) (by omega)) rfl) rfl) rfl) rfl) rfl) rfl) rfl) (show RhX (updR (updR (updR R 2 (.ref pq)) 3 (.ref mq)) 4 (va_rf lo)) (updR (updR (updR (updR (updR (updR R 2 (.ref pq)) 3 (.ref mq)) 4 (va_rf lo)) 2 (.ref pq)) 3 (.ref mq)) 4 (va_rf lo)) from fun k9 hk9 => by unfold updR; simp only [show ¬ k9 = 1 by omega, show ¬ k9 = 2 by omega, show ¬ k9 = 3 by omega, show ¬ k9 = 4 by omega, if_false]) hux) hnt hlocks hce hcv hcl hP9 hD9 hS9 (by show 0 + ((rE (g 2 q) - rS (g 2 q) - 2) + 1) ≤ ((rE (g 2 q) - rS (g 2 q)) + 1); omega) (by show 0 + (6 * (rE (g 2 q) - rS (g 2 q) - 2) + 6) ≤ (6 * (rE (g 2 q) - rS (g 2 q)) + 6); omega))
      obtain ⟨w, K7, B8, cs9, as10, wt11, wf12, dp13, rg14, ls15⟩ := u2
      obtain ⟨hw3, h16, h17, h18, hO⟩ := hw3
      have h16 : BdE K K7 := h16
      have h17 : Bth B2 B8 := h17
      have h18 : cs9 ≤ 10000 ∧ rg14 ≤ 625 ∧ dp13 ≤ 1000 := h18
      obtain rfl : v4 = none := hw3
      have hf19 : K7.1 pq = 7 := (BdE.T h16 hp1 (by decide))
      have hf20 : K7.2.2.1 18 pq = some (a 1) := (BdE.C h16 (by rw [hp1]; decide) 18).trans hp2
      have hf21 : K7.2.2.1 14 pq = some dr := (BdE.C h16 (by rw [hp1]; decide) 14).trans hp3
      have hf22 : K7.1 dr = 8 := (BdE.T h16 hp4 (by decide))
      have hf23 : K7.2.2.1 15 pq = some ml := (BdE.C h16 (by rw [hp1]; decide) 15).trans hp5
      have hf24 : K7.1 ml = 5 := (BdE.T h16 hp6 (by decide))
      have hf25 : K7.2.1 24 pq = (nI nd) := (BdE.I h16 (by rw [hp1]; decide) (by decide) (by decide)).trans hp8
      have hf26 : K7.1 q = 1 := (BdE.T h16 hqT (by decide))
      have hf27 : K7.1 mq = 3 := (BdE.T h16 hmq (by decide))
      have hf28 : K7.2.1 0 q = 21 := (BdE.I h16 (by rw [hqT]; decide) (by decide) (by decide)).trans hkd
      have hO : OKP G h0 a (upd (upd (upd (upd (upd (upd (upd (upd (upd (upd F 2 (nI sz)) 5 (nI cs9)) 6 (nI rg14)) 7 (nI hd)) 8 (nI dp13)) 12 (nI vr)) 13 as10) 14 wt11) 15 wf12) 16 ls15) (updR (updR (updR R 2 (.ref pq)) 3 (.ref mq)) 4 (va_rf lo)) Z B8 J K7 w := hO.to rfl
      refine W.widen (k := (rE (g 2 q) - rS (g 2 q) - 2)) (n := (6 * (rE (g 2 q) - rS (g 2 q) - 2))) (by show 0 + (rE (g 2 q) - rS (g 2 q) - 2) ≤ (rE (g 2 q) - rS (g 2 q) - 2); omega) (by show 0 + (6 * (rE (g 2 q) - rS (g 2 q) - 2)) ≤ (6 * (rE (g 2 q) - rS (g 2 q) - 2)); omega) ?_
      refine W.eq (g2 := F0 m 109 ls []) rfl ?_
      have hbe29 := BdE.trans BdE.rfl h16
      have hbb30 : Bth B B8 := Bth.trans (show Thx (upd (upd (upd (upd (upd (upd (upd F 2 (nI sz)) 5 (nI cs)) 6 (nI rg)) 7 (nI hd)) 8 (nI dp)) 12 (nI vr)) 16 ls9) (upd (upd (upd (upd (upd (upd (upd (upd F 2 (nI sz)) 5 (nI cs)) 6 (nI rg)) 7 (nI hd)) 8 (nI dp)) 12 (nI vr)) 16 ls9) 5 (nI cs2)) B B2 from (Thx.f (Bth.thx hbb2) (by omega))).2 h17
      have hng31 : Nng (B8 18) := h17.2 hng2
      refine lv_goto (tgt := 241) hx hb dX0_statement_109 (by decide) ?_
      refine W_size (fun hz1 hz2 => ?_)
      refine vx_ret ?_
      have hz32 : BdE K K7 := hbe29
      have hz33 : Bth B B8 := (show Thx (upd (upd (upd (upd (upd (upd (upd F 2 (nI sz)) 5 (nI cs)) 6 (nI rg)) 7 (nI hd)) 8 (nI dp)) 12 (nI vr)) 16 ls9) (upd (upd (upd (upd (upd (upd (upd (upd (upd (upd (upd (upd (upd (upd F 2 (nI sz)) 5 (nI cs)) 6 (nI rg)) 7 (nI hd)) 8 (nI dp)) 12 (nI vr)) 16 ls9) 5 (nI cs9)) 6 (nI rg14)) 8 (nI dp13)) 13 as10) 14 wt11) 15 wf12) 16 ls15) B B8 from (Thx.f (Thx.f (Thx.f (Thx.f (Thx.f (Thx.f (Thx.f (Bth.thx hbb30) (by omega)) (by omega)) (by omega)) (by omega)) (by omega)) (by omega)) (by omega))).2
      have hz34 : cs9 ≤ 10000 ∧ rg14 ≤ 625 ∧ dp13 ≤ 1000 := (by omega)
      have hz35 : vr ≤ vr ∧ vr ≤ 30 ∧ hd + vr = hd + vr := (by omega)
      have hO : OKP G h0 a (upd (upd (upd (upd (upd (upd (upd (upd (upd (upd F 2 (nI sz)) 5 (nI cs9)) 6 (nI rg14)) 7 (nI hd)) 8 (nI dp13)) 12 (nI vr)) 13 as10) 14 wt11) 15 wf12) 16 ls15) (updR (updR (updR R 2 (.ref pq)) 3 (.ref mq)) 4 (va_rf lo)) Z B8 J K7 w := hO.to rfl
      refine W.widen (k := ((rE (g 2 q) - rS (g 2 q)) + 1)) (n := (6 * (rE (g 2 q) - rS (g 2 q)) + 6)) (by omega) (by omega) ?_
      have hzz1 : H.size ≤ s.heap.size + ((rE (g 2 q) - rS (g 2 q))) := (by have z : (rE (g 2 q) - rS (g 2 q) - 2) ≤ (rE (g 2 q) - rS (g 2 q)) := (by omega); omega)
      have hzz2 : hSl H ≤ hSl s.heap + ((6 * (rE (g 2 q) - rS (g 2 q)))) := (by have z : (6 * (rE (g 2 q) - rS (g 2 q) - 2)) ≤ (6 * (rE (g 2 q) - rS (g 2 q))) := (by omega); omega)
      exact W.vret hx hb hr (fun t99 ht99 hW99 => ⟨⟨_, (w, (K7, B8, cs9, as10, wt11, wf12, vr, hd, dp13, rg14, ls15)), rfl, ⟨rfl, hz32, hz33, hz34, hz35, hO⟩, by rw [ht99]; exact hP, hD, by rw [ht99]; exact hzz1, by rw [ht99]; exact hzz2⟩, hS.F ht99⟩) hS.2.2 dX0_statement_241
    by_cases h36 : kd = 22
    · subst h36
      refine lv_tableIn (tgt := 160) (off := 124) hx hb dX0_statement_36 (by decide) (by decide) (by decide) (by decide) ?_
      refine lv_aload_n hx hb dX0_statement_160 rfl (lv_at hl 2 rfl) ?_
      refine lv_aload_n hx hb dX0_statement_161 rfl (lv_at hl 1 rfl) ?_
      have hO : OKP G h0 a (upd (upd (upd (upd (upd (upd (upd (upd (upd (upd (upd (upd (upd (upd (upd F 2 (nI sz)) 5 (nI cs)) 6 (nI rg)) 7 (nI hd)) 8 (nI dp)) 12 (nI vr)) 16 ls9) 5 (nI cs2)) 2 (nI sz)) 5 (nI cs2)) 6 (nI rg)) 7 (nI hd)) 8 (nI dp)) 12 (nI vr)) 16 ls9) (updR (updR (updR (updR (updR (updR R 2 (.ref pq)) 3 (.ref mq)) 4 (va_rf lo)) 2 (.ref pq)) 3 (.ref mq)) 4 (va_rf lo)) Z B2 J K w := hO.to rfl
      obtain ⟨_, qr40, hqr41⟩ := hO.2.1 24 _ (sg_24 G h0 a _ _ _ _ _)
      refine pn_V0 (G := G) (As := [.ref q]) (rest := []) hx hb hml hown hq hE hX pX0_al hP hD hS hA hl.1 (B_local l G h0 a (upd (upd (upd (upd (upd (upd (upd (upd F 2 (nI sz)) 5 (nI cs)) 6 (nI rg)) 7 (nI hd)) 8 (nI dp)) 12 (nI vr)) 16 ls9) 5 (nI cs2)) (updR (updR (updR R 2 (.ref pq)) 3 (.ref mq)) 4 (va_rf lo)) Z B2 J K w pq dr ml nd nm cp it s9 q mq cs2 vr sz n hd dp rg ls9 lo g rk (by omega) (BdE.wp BdE.rfl hwp) (BdE.pt BdE.rfl hwp hps) (BdE.rko BdE.rfl hrk) (by omega) (by omega) hng2 hmq hqT hqL (by omega) (by omega) (by omega) (LpO.be BdE.rfl hlo) (IhV.all l G _) hO hl0) (gV pw_342 pw_343 pw_344 pw_63 pw_288) hV_X0_local qr40 0 hqr41 rfl rfl rfl (Nat.le_of_ble_eq_true rfl) dX0_statement_162 ⟨(by show 0 + 1 ≤ ((rE (g 2 q) - rS (g 2 q)) + 1); omega), (by show 0 + 6 ≤ (6 * (rE (g 2 q) - rS (g 2 q)) + 6); omega)⟩ ⟨(by show (5 * n + 33) + 1 ≤ (5 * n + 50); omega), (by show 8 + (5 + 11) + (200 * n + 560) ≤ (200 * n + 1200); omega)⟩ (fun v39 u37 H locs hw38 hP hD hS => ?_) (fun ux ce9 q9 H9 locs9 hux hP9 hD9 hS9 hce hcv hcl => pb_out ux (ThQ.up (Thx.same (Thx.same (Thx.same (Thx.same (Thx.same (Thx.same (Thx.same (Thx.f (Bth.thx hbb2) (by omega)) rfl) rfl) rfl) rfl) rfl) rfl) rfl) (show RhX (updR (updR (updR R 2 (.ref pq)) 3 (.ref mq)) 4 (va_rf lo)) (updR (updR (updR (updR (updR (updR R 2 (.ref pq)) 3 (.ref mq)) 4 (va_rf lo)) 2 (.ref pq)) 3 (.ref mq)) 4 (va_rf lo)) from fun k9 hk9 => by unfold updR; simp only [show ¬ k9 = 1 by omega, show ¬ k9 = 2 by omega, show ¬ k9 = 3 by omega, show ¬ k9 = 4 by omega, if_false]) hux) hnt hlocks hce hcv hcl hP9 hD9 hS9 (by show 0 + 1 ≤ ((rE (g 2 q) - rS (g 2 q)) + 1); omega) (by show 0 + 6 ≤ (6 * (rE (g 2 q) - rS (g 2 q)) + 6); omega))
      obtain ⟨w, K42, B43, cs44, as45, wt46, wf47, vr48, hd49, dp50, rg51, ls52⟩ := u37
      obtain ⟨hw38, h53, h54, h55, h56, hO⟩ := hw38
      have h53 : BdE K K42 := h53
      have h54 : Bth B2 B43 := h54
      have h55 : cs44 ≤ 10000 ∧ rg51 ≤ 625 ∧ dp50 ≤ 1000 := h55
      have h56 : vr ≤ vr48 ∧ vr48 ≤ 30 ∧ hd49 + vr = hd + vr48 := h56
      obtain rfl : v39 = none := hw38
      have hf57 : K42.1 pq = 7 := (BdE.T h53 hp1 (by decide))
      have hf58 : K42.2.2.1 18 pq = some (a 1) := (BdE.C h53 (by rw [hp1]; decide) 18).trans hp2
      have hf59 : K42.2.2.1 14 pq = some dr := (BdE.C h53 (by rw [hp1]; decide) 14).trans hp3
      have hf60 : K42.1 dr = 8 := (BdE.T h53 hp4 (by decide))
      have hf61 : K42.2.2.1 15 pq = some ml := (BdE.C h53 (by rw [hp1]; decide) 15).trans hp5
      have hf62 : K42.1 ml = 5 := (BdE.T h53 hp6 (by decide))
      have hf63 : K42.2.1 24 pq = (nI nd) := (BdE.I h53 (by rw [hp1]; decide) (by decide) (by decide)).trans hp8
      have hf64 : K42.1 q = 1 := (BdE.T h53 hqT (by decide))
      have hf65 : K42.1 mq = 3 := (BdE.T h53 hmq (by decide))
      have hf66 : K42.2.1 0 q = 22 := (BdE.I h53 (by rw [hqT]; decide) (by decide) (by decide)).trans hkd
      have hO : OKP G h0 a (upd (upd (upd (upd (upd (upd (upd (upd (upd (upd F 2 (nI sz)) 5 (nI cs44)) 6 (nI rg51)) 7 (nI hd49)) 8 (nI dp50)) 12 (nI vr48)) 13 as45) 14 wt46) 15 wf47) 16 ls52) (updR (updR (updR R 2 (.ref pq)) 3 (.ref mq)) 4 (va_rf lo)) Z B43 J K42 w := hO.to rfl
      refine W.widen (k := 0) (n := 0) (by show 0 + 0 ≤ 0; omega) (by show 0 + 0 ≤ 0; omega) ?_
      refine W.eq (g2 := F0 m 165 ls []) rfl ?_
      have hbe67 := BdE.trans BdE.rfl h53
      have hbb68 : Bth B B43 := Bth.trans (show Thx (upd (upd (upd (upd (upd (upd (upd F 2 (nI sz)) 5 (nI cs)) 6 (nI rg)) 7 (nI hd)) 8 (nI dp)) 12 (nI vr)) 16 ls9) (upd (upd (upd (upd (upd (upd (upd (upd F 2 (nI sz)) 5 (nI cs)) 6 (nI rg)) 7 (nI hd)) 8 (nI dp)) 12 (nI vr)) 16 ls9) 5 (nI cs2)) B B2 from (Thx.f (Bth.thx hbb2) (by omega))).2 h54
      have hng69 : Nng (B43 18) := h54.2 hng2
      refine lv_goto (tgt := 241) hx hb dX0_statement_165 (by decide) ?_
      refine W_size (fun hz1 hz2 => ?_)
      refine vx_ret ?_
      have hz70 : BdE K K42 := hbe67
      have hz71 : Bth B B43 := (show Thx (upd (upd (upd (upd (upd (upd (upd F 2 (nI sz)) 5 (nI cs)) 6 (nI rg)) 7 (nI hd)) 8 (nI dp)) 12 (nI vr)) 16 ls9) (upd (upd (upd (upd (upd (upd (upd (upd (upd (upd (upd (upd (upd (upd (upd (upd F 2 (nI sz)) 5 (nI cs)) 6 (nI rg)) 7 (nI hd)) 8 (nI dp)) 12 (nI vr)) 16 ls9) 5 (nI cs44)) 6 (nI rg51)) 7 (nI hd49)) 8 (nI dp50)) 12 (nI vr48)) 13 as45) 14 wt46) 15 wf47) 16 ls52) B B43 from (Thx.f (Thx.f (Thx.f (Thx.f (Thx.f (Thx.f (Thx.f (Thx.f (Thx.f (Bth.thx hbb68) (by omega)) (by omega)) (by omega)) (by omega)) (by omega)) (by omega)) (by omega)) (by omega)) (by omega))).2
      have hz72 : cs44 ≤ 10000 ∧ rg51 ≤ 625 ∧ dp50 ≤ 1000 := (by omega)
      have hz73 : vr ≤ vr48 ∧ vr48 ≤ 30 ∧ hd49 + vr = hd + vr48 := (by omega)
      have hO : OKP G h0 a (upd (upd (upd (upd (upd (upd (upd (upd (upd (upd F 2 (nI sz)) 5 (nI cs44)) 6 (nI rg51)) 7 (nI hd49)) 8 (nI dp50)) 12 (nI vr48)) 13 as45) 14 wt46) 15 wf47) 16 ls52) (updR (updR (updR R 2 (.ref pq)) 3 (.ref mq)) 4 (va_rf lo)) Z B43 J K42 w := hO.to rfl
      refine W.widen (k := ((rE (g 2 q) - rS (g 2 q)) + 1)) (n := (6 * (rE (g 2 q) - rS (g 2 q)) + 6)) (by omega) (by omega) ?_
      have hzz1 : H.size ≤ s.heap.size + ((rE (g 2 q) - rS (g 2 q))) := (by have z : 0 ≤ (rE (g 2 q) - rS (g 2 q)) := (by omega); omega)
      have hzz2 : hSl H ≤ hSl s.heap + ((6 * (rE (g 2 q) - rS (g 2 q)))) := (by have z : 0 ≤ (6 * (rE (g 2 q) - rS (g 2 q))) := (by omega); omega)
      exact W.vret hx hb hr (fun t99 ht99 hW99 => ⟨⟨_, (w, (K42, B43, cs44, as45, wt46, wf47, vr48, hd49, dp50, rg51, ls52)), rfl, ⟨rfl, hz70, hz71, hz72, hz73, hO⟩, by rw [ht99]; exact hP, hD, by rw [ht99]; exact hzz1, by rw [ht99]; exact hzz2⟩, hS.F ht99⟩) hS.2.2 dX0_statement_241
    by_cases h74 : kd = 23
    · subst h74
      refine lv_tableIn (tgt := 168) (off := 132) hx hb dX0_statement_36 (by decide) (by decide) (by decide) (by decide) ?_
      obtain ⟨q1, hc0, ht0, hw0⟩ := NdO.ch hnd (f := 0) (by decide) ((hnd.1.2.1 (by rw [hkd]; decide)).1)
      have hv0 : 1 ≤ g 0 q1 ∧ g 0 q1 + 1 ≤ n := ⟨hw0.1, (by have z := hw0.2; omega)⟩
      obtain ⟨q2, hc1, ht1, hw1⟩ := NdO.ch hnd (f := 1) (by decide) ((hnd.1.2.1 (by rw [hkd]; decide)).2)
      have hv1 : 1 ≤ g 0 q2 ∧ g 0 q2 + 1 ≤ n := ⟨hw1.1, (by have z := hw1.2; omega)⟩
      refine lv_aload_n hx hb dX0_statement_168 rfl (lv_at hl 2 rfl) ?_
      refine lv_aload_n hx hb dX0_statement_169 rfl (lv_at hl 1 rfl) ?_
      refine p_get (v := .ref q1) (C := RX7) (Tc := TX7) (N := 11) (ci := 13) hx hb hq pin_wsX70 hown hE hP hO (by rw [hqT]; decide) (rep_1 hqT) rfl 6 (by decide) (hq _ pw_180) (fun _ h9 => h9) (congrArg (fun z => some (va_rf z)) hc0) dX0_statement_170 ?_
      refine lv_aload_n hx hb dX0_statement_173 rfl (lv_at hl 1 rfl) ?_
      refine p_get (v := .ref q2) (C := RX7) (Tc := TX7) (N := 11) (ci := 13) hx hb hq pin_wsX70 hown hE hP hO (by rw [hqT]; decide) (rep_1 hqT) rfl 7 (by decide) (hq _ pw_169) (fun _ h9 => h9) (congrArg (fun z => some (va_rf z)) hc1) dX0_statement_174 ?_
      have hO : OKP G h0 a (upd (upd (upd (upd (upd (upd (upd (upd (upd (upd (upd (upd (upd (upd (upd F 2 (nI sz)) 5 (nI cs)) 6 (nI rg)) 7 (nI hd)) 8 (nI dp)) 12 (nI vr)) 16 ls9) 5 (nI cs2)) 2 (nI sz)) 5 (nI cs2)) 6 (nI rg)) 7 (nI hd)) 8 (nI dp)) 12 (nI vr)) 16 ls9) (updR (updR (updR (updR (updR (updR R 2 (.ref pq)) 3 (.ref mq)) 4 (va_rf lo)) 2 (.ref pq)) 3 (.ref mq)) 4 (va_rf lo)) Z B2 J K w := hO.to rfl
      obtain ⟨_, qr78, hqr79⟩ := hO.2.1 24 _ (sg_24 G h0 a _ _ _ _ _)
      refine pn_V0 (G := G) (As := [.ref q1, .ref q2]) (rest := []) hx hb hml hown hq hE hX pX0_al hP hD hS hA hl.1 (B_assign l G h0 a (upd (upd (upd (upd (upd (upd (upd (upd F 2 (nI sz)) 5 (nI cs)) 6 (nI rg)) 7 (nI hd)) 8 (nI dp)) 12 (nI vr)) 16 ls9) 5 (nI cs2)) (updR (updR (updR R 2 (.ref pq)) 3 (.ref mq)) 4 (va_rf lo)) Z B2 J K w pq dr ml nd nm cp it s9 q1 mq cs2 vr sz n q2 hd dp rg ls9 lo g rk (by omega) (BdE.wp BdE.rfl hwp) (BdE.pt BdE.rfl hwp hps) (BdE.rko BdE.rfl hrk) (by omega) (by omega) hng2 hmq ht0 ⟨hv0.1, (by have z9 := hv0; omega)⟩ (by omega) (by omega) (by omega) (LpO.be BdE.rfl hlo) ht1 hv1 (NdO.k23 hnd hkd hc0) (IhV.all l G n) hO hl0) (gV pw_345 pw_346 pw_347 pw_63 pw_293) hV_X0_assign qr78 0 hqr79 rfl rfl rfl (Nat.le_of_ble_eq_true rfl) dX0_statement_177 ⟨(by show 0 + 1 ≤ ((rE (g 2 q) - rS (g 2 q)) + 1); omega), (by show 0 + 6 ≤ (6 * (rE (g 2 q) - rS (g 2 q)) + 6); omega)⟩ ⟨(by show (5 * n + 36) + 1 ≤ (5 * n + 50); omega), (by show 8 + (5 + 11) + (200 * n + 660) ≤ (200 * n + 1200); omega)⟩ (fun v77 u75 H locs hw76 hP hD hS => ?_) (fun ux ce9 q9 H9 locs9 hux hP9 hD9 hS9 hce hcv hcl => pb_out ux (ThQ.up (Thx.same (Thx.same (Thx.same (Thx.same (Thx.same (Thx.same (Thx.same (Thx.f (Bth.thx hbb2) (by omega)) rfl) rfl) rfl) rfl) rfl) rfl) rfl) (show RhX (updR (updR (updR R 2 (.ref pq)) 3 (.ref mq)) 4 (va_rf lo)) (updR (updR (updR (updR (updR (updR R 2 (.ref pq)) 3 (.ref mq)) 4 (va_rf lo)) 2 (.ref pq)) 3 (.ref mq)) 4 (va_rf lo)) from fun k9 hk9 => by unfold updR; simp only [show ¬ k9 = 1 by omega, show ¬ k9 = 2 by omega, show ¬ k9 = 3 by omega, show ¬ k9 = 4 by omega, if_false]) hux) hnt hlocks hce hcv hcl hP9 hD9 hS9 (by show 0 + 1 ≤ ((rE (g 2 q) - rS (g 2 q)) + 1); omega) (by show 0 + 6 ≤ (6 * (rE (g 2 q) - rS (g 2 q)) + 6); omega))
      obtain ⟨w, K80, B81, cs82, as83, wt84, wf85, vr86, hd87, dp88, rg89, ls90⟩ := u75
      obtain ⟨hw76, h91, h92, h93, h94, hO⟩ := hw76
      have h91 : BdE K K80 := h91
      have h92 : Bth B2 B81 := h92
      have h93 : cs82 ≤ 10000 ∧ rg89 ≤ 625 ∧ dp88 ≤ 1000 := h93
      have h94 : vr ≤ vr86 ∧ vr86 ≤ 30 ∧ hd87 + vr = hd + vr86 := h94
      obtain rfl : v77 = none := hw76
      have hf95 : K80.1 pq = 7 := (BdE.T h91 hp1 (by decide))
      have hf96 : K80.2.2.1 18 pq = some (a 1) := (BdE.C h91 (by rw [hp1]; decide) 18).trans hp2
      have hf97 : K80.2.2.1 14 pq = some dr := (BdE.C h91 (by rw [hp1]; decide) 14).trans hp3
      have hf98 : K80.1 dr = 8 := (BdE.T h91 hp4 (by decide))
      have hf99 : K80.2.2.1 15 pq = some ml := (BdE.C h91 (by rw [hp1]; decide) 15).trans hp5
      have hf100 : K80.1 ml = 5 := (BdE.T h91 hp6 (by decide))
      have hf101 : K80.2.1 24 pq = (nI nd) := (BdE.I h91 (by rw [hp1]; decide) (by decide) (by decide)).trans hp8
      have hf102 : K80.1 q = 1 := (BdE.T h91 hqT (by decide))
      have hf103 : K80.1 mq = 3 := (BdE.T h91 hmq (by decide))
      have hf104 : K80.2.1 0 q = 23 := (BdE.I h91 (by rw [hqT]; decide) (by decide) (by decide)).trans hkd
      have hf105 : K80.2.2.1 0 q = some q1 := (BdE.C h91 (by rw [hqT]; decide) 0).trans hc0
      have hf106 : K80.1 q1 = 1 := (BdE.T h91 ht0 (by decide))
      have hf107 : K80.2.2.1 1 q = some q2 := (BdE.C h91 (by rw [hqT]; decide) 1).trans hc1
      have hf108 : K80.1 q2 = 1 := (BdE.T h91 ht1 (by decide))
      have hO : OKP G h0 a (upd (upd (upd (upd (upd (upd (upd (upd (upd (upd F 2 (nI sz)) 5 (nI cs82)) 6 (nI rg89)) 7 (nI hd87)) 8 (nI dp88)) 12 (nI vr86)) 13 as83) 14 wt84) 15 wf85) 16 ls90) (updR (updR (updR R 2 (.ref pq)) 3 (.ref mq)) 4 (va_rf lo)) Z B81 J K80 w := hO.to rfl
      refine W.widen (k := 0) (n := 0) (by show 0 + 0 ≤ 0; omega) (by show 0 + 0 ≤ 0; omega) ?_
      refine W.eq (g2 := F0 m 180 ls []) rfl ?_
      have hbe109 := BdE.trans BdE.rfl h91
      have hbb110 : Bth B B81 := Bth.trans (show Thx (upd (upd (upd (upd (upd (upd (upd F 2 (nI sz)) 5 (nI cs)) 6 (nI rg)) 7 (nI hd)) 8 (nI dp)) 12 (nI vr)) 16 ls9) (upd (upd (upd (upd (upd (upd (upd (upd F 2 (nI sz)) 5 (nI cs)) 6 (nI rg)) 7 (nI hd)) 8 (nI dp)) 12 (nI vr)) 16 ls9) 5 (nI cs2)) B B2 from (Thx.f (Bth.thx hbb2) (by omega))).2 h92
      have hng111 : Nng (B81 18) := h92.2 hng2
      refine lv_goto (tgt := 241) hx hb dX0_statement_180 (by decide) ?_
      refine W_size (fun hz1 hz2 => ?_)
      refine vx_ret ?_
      have hz112 : BdE K K80 := hbe109
      have hz113 : Bth B B81 := (show Thx (upd (upd (upd (upd (upd (upd (upd F 2 (nI sz)) 5 (nI cs)) 6 (nI rg)) 7 (nI hd)) 8 (nI dp)) 12 (nI vr)) 16 ls9) (upd (upd (upd (upd (upd (upd (upd (upd (upd (upd (upd (upd (upd (upd (upd (upd F 2 (nI sz)) 5 (nI cs)) 6 (nI rg)) 7 (nI hd)) 8 (nI dp)) 12 (nI vr)) 16 ls9) 5 (nI cs82)) 6 (nI rg89)) 7 (nI hd87)) 8 (nI dp88)) 12 (nI vr86)) 13 as83) 14 wt84) 15 wf85) 16 ls90) B B81 from (Thx.f (Thx.f (Thx.f (Thx.f (Thx.f (Thx.f (Thx.f (Thx.f (Thx.f (Bth.thx hbb110) (by omega)) (by omega)) (by omega)) (by omega)) (by omega)) (by omega)) (by omega)) (by omega)) (by omega))).2
      have hz114 : cs82 ≤ 10000 ∧ rg89 ≤ 625 ∧ dp88 ≤ 1000 := (by omega)
      have hz115 : vr ≤ vr86 ∧ vr86 ≤ 30 ∧ hd87 + vr = hd + vr86 := (by omega)
      have hO : OKP G h0 a (upd (upd (upd (upd (upd (upd (upd (upd (upd (upd F 2 (nI sz)) 5 (nI cs82)) 6 (nI rg89)) 7 (nI hd87)) 8 (nI dp88)) 12 (nI vr86)) 13 as83) 14 wt84) 15 wf85) 16 ls90) (updR (updR (updR R 2 (.ref pq)) 3 (.ref mq)) 4 (va_rf lo)) Z B81 J K80 w := hO.to rfl
      refine W.widen (k := ((rE (g 2 q) - rS (g 2 q)) + 1)) (n := (6 * (rE (g 2 q) - rS (g 2 q)) + 6)) (by omega) (by omega) ?_
      have hzz1 : H.size ≤ s.heap.size + ((rE (g 2 q) - rS (g 2 q))) := (by have z : 0 ≤ (rE (g 2 q) - rS (g 2 q)) := (by omega); omega)
      have hzz2 : hSl H ≤ hSl s.heap + ((6 * (rE (g 2 q) - rS (g 2 q)))) := (by have z : 0 ≤ (6 * (rE (g 2 q) - rS (g 2 q))) := (by omega); omega)
      exact W.vret hx hb hr (fun t99 ht99 hW99 => ⟨⟨_, (w, (K80, B81, cs82, as83, wt84, wf85, vr86, hd87, dp88, rg89, ls90)), rfl, ⟨rfl, hz112, hz113, hz114, hz115, hO⟩, by rw [ht99]; exact hP, hD, by rw [ht99]; exact hzz1, by rw [ht99]; exact hzz2⟩, hS.F ht99⟩) hS.2.2 dX0_statement_241
    by_cases h116 : kd = 24
    · subst h116
      refine lv_tableIn (tgt := 215) (off := 179) hx hb dX0_statement_36 (by decide) (by decide) (by decide) (by decide) ?_
      obtain ⟨q1, hc0, ht0, hw0⟩ := NdO.ch hnd (f := 0) (by decide) (hnd.1.1 (by rw [hkd]; decide))
      have hv0 : 1 ≤ g 0 q1 ∧ g 0 q1 + 1 ≤ n := ⟨hw0.1, (by have z := hw0.2; omega)⟩
      refine lv_aload_n hx hb dX0_statement_215 rfl (lv_at hl 2 rfl) ?_
      refine lv_aload_n hx hb dX0_statement_216 rfl (lv_at hl 1 rfl) ?_
      refine p_get (v := .ref q1) (C := RX7) (Tc := TX7) (N := 11) (ci := 13) hx hb hq pin_wsX70 hown hE hP hO (by rw [hqT]; decide) (rep_1 hqT) rfl 6 (by decide) (hq _ pw_180) (fun _ h9 => h9) (congrArg (fun z => some (va_rf z)) hc0) dX0_statement_217 ?_
      have hO : OKP G h0 a (upd (upd (upd (upd (upd (upd (upd (upd (upd (upd (upd F 2 (nI sz)) 5 (nI cs)) 6 (nI rg)) 7 (nI hd)) 8 (nI dp)) 12 (nI vr)) 16 ls9) 5 (nI cs2)) 2 (nI sz)) 5 (nI cs2)) 12 (nI vr)) (updR (updR (updR (updR (updR R 2 (.ref pq)) 3 (.ref mq)) 4 (va_rf lo)) 2 (.ref pq)) 3 (.ref mq)) Z B2 J K w := hO.to rfl
      obtain ⟨_, qr120, hqr121⟩ := hO.2.1 24 _ (sg_24 G h0 a _ _ _ _ _)
      refine pn_V0 (G := G) (As := [.ref q1]) (rest := []) hx hb hml hown hq hE hX pX0_al hP hD hS hA hl.1 ((ihv (by omega)) h0 a (upd (upd (upd (upd (upd (upd (upd (upd F 2 (nI sz)) 5 (nI cs)) 6 (nI rg)) 7 (nI hd)) 8 (nI dp)) 12 (nI vr)) 16 ls9) 5 (nI cs2)) (updR (updR (updR R 2 (.ref pq)) 3 (.ref mq)) 4 (va_rf lo)) Z B2 J K w pq dr ml nd nm cp it s9 q1 mq cs2 vr sz g rk (by omega) (BdE.wp BdE.rfl hwp) (BdE.pt BdE.rfl hwp hps) (BdE.rko BdE.rfl hrk) (by omega) (by omega) hng2 hmq ht0 ⟨hv0.1, (by have z9 := hv0; omega)⟩ hO hl0) (gV pw_173 pw_174 pw_175 pw_63 pw_224) hV_X0_value qr120 0 hqr121 rfl rfl rfl (Nat.le_of_ble_eq_true rfl) dX0_statement_220 ⟨(by show 0 + 1 ≤ ((rE (g 2 q) - rS (g 2 q)) + 1); omega), (by show 0 + 6 ≤ (6 * (rE (g 2 q) - rS (g 2 q)) + 6); omega)⟩ ⟨(by show (5 * (n - 1) + 34) + 1 ≤ (5 * n + 50); omega), (by show 8 + (3 + 11) + (200 * (n - 1) + 600) ≤ (200 * n + 1200); omega)⟩ (fun v119 u117 H locs hw118 hP hD hS => ?_) (fun ux ce9 q9 H9 locs9 hux hP9 hD9 hS9 hce hcv hcl => pb_out ux (ThQ.up (Thx.same (Thx.same (Thx.same (Thx.f (Bth.thx hbb2) (by omega)) rfl) rfl) rfl) (show RhX (updR (updR (updR R 2 (.ref pq)) 3 (.ref mq)) 4 (va_rf lo)) (updR (updR (updR (updR (updR R 2 (.ref pq)) 3 (.ref mq)) 4 (va_rf lo)) 2 (.ref pq)) 3 (.ref mq)) from fun k9 hk9 => by unfold updR; simp only [show ¬ k9 = 1 by omega, show ¬ k9 = 2 by omega, show ¬ k9 = 3 by omega, show ¬ k9 = 4 by omega, if_false]) hux) hnt hlocks hce hcv hcl hP9 hD9 hS9 (by show 0 + 1 ≤ ((rE (g 2 q) - rS (g 2 q)) + 1); omega) (by show 0 + 6 ≤ (6 * (rE (g 2 q) - rS (g 2 q)) + 6); omega))
      obtain ⟨w, K122, B123, cs124, as125, wt126, wf127, r128⟩ := u117
      obtain ⟨hw118, h129, h130, h131, hO⟩ := hw118
      have h129 : BdE K K122 := h129
      have h130 : Bth B2 B123 := h130
      have h131 : cs124 ≤ 10000 := h131
      obtain rfl : v119 = some (.int r128) := hw118
      have hf132 : K122.1 pq = 7 := (BdE.T h129 hp1 (by decide))
      have hf133 : K122.2.2.1 18 pq = some (a 1) := (BdE.C h129 (by rw [hp1]; decide) 18).trans hp2
      have hf134 : K122.2.2.1 14 pq = some dr := (BdE.C h129 (by rw [hp1]; decide) 14).trans hp3
      have hf135 : K122.1 dr = 8 := (BdE.T h129 hp4 (by decide))
      have hf136 : K122.2.2.1 15 pq = some ml := (BdE.C h129 (by rw [hp1]; decide) 15).trans hp5
      have hf137 : K122.1 ml = 5 := (BdE.T h129 hp6 (by decide))
      have hf138 : K122.2.1 24 pq = (nI nd) := (BdE.I h129 (by rw [hp1]; decide) (by decide) (by decide)).trans hp8
      have hf139 : K122.1 q = 1 := (BdE.T h129 hqT (by decide))
      have hf140 : K122.1 mq = 3 := (BdE.T h129 hmq (by decide))
      have hf141 : K122.2.1 0 q = 24 := (BdE.I h129 (by rw [hqT]; decide) (by decide) (by decide)).trans hkd
      have hf142 : K122.2.2.1 0 q = some q1 := (BdE.C h129 (by rw [hqT]; decide) 0).trans hc0
      have hf143 : K122.1 q1 = 1 := (BdE.T h129 ht0 (by decide))
      have hO : OKP G h0 a (upd (upd (upd (upd (upd (upd (upd (upd (upd (upd F 2 (nI sz)) 5 (nI cs124)) 6 (nI rg)) 7 (nI hd)) 8 (nI dp)) 12 (nI vr)) 13 as125) 14 wt126) 15 wf127) 16 ls9) (updR (updR (updR R 2 (.ref pq)) 3 (.ref mq)) 4 (va_rf lo)) Z B123 J K122 w := hO.to rfl
      refine W.widen (k := 0) (n := 0) (by show 0 + 0 ≤ 0; omega) (by show 0 + 0 ≤ 0; omega) ?_
      refine W.eq (g2 := F0 m 223 ls [.int r128]) rfl ?_
      have hbe144 := BdE.trans BdE.rfl h129
      have hbb145 : Bth B B123 := Bth.trans (show Thx (upd (upd (upd (upd (upd (upd (upd F 2 (nI sz)) 5 (nI cs)) 6 (nI rg)) 7 (nI hd)) 8 (nI dp)) 12 (nI vr)) 16 ls9) (upd (upd (upd (upd (upd (upd (upd (upd F 2 (nI sz)) 5 (nI cs)) 6 (nI rg)) 7 (nI hd)) 8 (nI dp)) 12 (nI vr)) 16 ls9) 5 (nI cs2)) B B2 from (Thx.f (Bth.thx hbb2) (by omega))).2 h130
      have hng146 : Nng (B123 18) := h130.2 hng2
      refine lv_bipush (v := 63) hx hb dX0_statement_223 (by decide) ?_
      refine lv_icmp_eq (tgt := 241) hx hb dX0_statement_225 (by decide) (fun c147 => ?_) (fun c147 => ?_)
      · refine W_size (fun hz1 hz2 => ?_)
        refine vx_ret ?_
        have hz148 : BdE K K122 := hbe144
        have hz149 : Bth B B123 := (show Thx (upd (upd (upd (upd (upd (upd (upd F 2 (nI sz)) 5 (nI cs)) 6 (nI rg)) 7 (nI hd)) 8 (nI dp)) 12 (nI vr)) 16 ls9) (upd (upd (upd (upd (upd (upd (upd (upd (upd (upd (upd F 2 (nI sz)) 5 (nI cs)) 6 (nI rg)) 7 (nI hd)) 8 (nI dp)) 12 (nI vr)) 16 ls9) 5 (nI cs124)) 13 as125) 14 wt126) 15 wf127) B B123 from (Thx.f (Thx.f (Thx.f (Thx.f (Bth.thx hbb145) (by omega)) (by omega)) (by omega)) (by omega))).2
        have hz150 : cs124 ≤ 10000 ∧ rg ≤ 625 ∧ dp ≤ 1000 := (by omega)
        have hz151 : vr ≤ vr ∧ vr ≤ 30 ∧ hd + vr = hd + vr := (by omega)
        have hO : OKP G h0 a (upd (upd (upd (upd (upd (upd (upd (upd (upd (upd F 2 (nI sz)) 5 (nI cs124)) 6 (nI rg)) 7 (nI hd)) 8 (nI dp)) 12 (nI vr)) 13 as125) 14 wt126) 15 wf127) 16 ls9) (updR (updR (updR R 2 (.ref pq)) 3 (.ref mq)) 4 (va_rf lo)) Z B123 J K122 w := hO.to rfl
        refine W.widen (k := ((rE (g 2 q) - rS (g 2 q)) + 1)) (n := (6 * (rE (g 2 q) - rS (g 2 q)) + 6)) (by omega) (by omega) ?_
        have hzz1 : H.size ≤ s.heap.size + ((rE (g 2 q) - rS (g 2 q))) := (by have z : 0 ≤ (rE (g 2 q) - rS (g 2 q)) := (by omega); omega)
        have hzz2 : hSl H ≤ hSl s.heap + ((6 * (rE (g 2 q) - rS (g 2 q)))) := (by have z : 0 ≤ (6 * (rE (g 2 q) - rS (g 2 q))) := (by omega); omega)
        exact W.vret hx hb hr (fun t99 ht99 hW99 => ⟨⟨_, (w, (K122, B123, cs124, as125, wt126, wf127, vr, hd, dp, rg, ls9)), rfl, ⟨rfl, hz148, hz149, hz150, hz151, hO⟩, by rw [ht99]; exact hP, hD, by rw [ht99]; exact hzz1, by rw [ht99]; exact hzz2⟩, hS.F ht99⟩) hS.2.2 dX0_statement_241
      · refine lv_aload_n hx hb dX0_statement_228 rfl (lv_at hl 2 rfl) ?_
        refine c_get (v := .ref (a 2)) (C := RX0) (Tc := TX0) (N := 13) (ci := 0) hx hb hq pin_wsX00 hown hE hP hO 24 (sg_24 G h0 a _ _ _ _ _) rfl 1 (by decide) (hq _ pw_5) (fun _ h9 => h9) rfl dX0_statement_229 ?_
        refine lv_iconst (v := 5) hx hb dX0_statement_232 (by decide) ?_
        refine lv_iconst (v := 0) hx hb dX0_statement_233 (by decide) ?_
        refine lv_iconst (v := 0) hx hb dX0_statement_234 (by decide) ?_
        have hO : OKW G h0 a (upd (upd (upd (upd (upd (upd (upd (upd (upd (upd (upd F 2 (nI sz)) 5 (nI cs124)) 6 (nI rg)) 7 (nI hd)) 8 (nI dp)) 12 (nI vr)) 13 as125) 14 wt126) 15 wf127) 16 ls9) 5 (nI cs124)) (updR (updR (updR R 2 (.ref pq)) 3 (.ref mq)) 4 (va_rf lo)) Z B123 J K122.1 (fun q99 x99 => x99 = rep G a K122 q99) w := hO.to rfl
        obtain ⟨_, qr155, hqr156⟩ := hO.2.1 13 _ (sg_13 G h0 a _ _ _ _ _)
        refine pc_V0 (G := G) (As := [.int 5, .int 0, .int (nI 0)]) (rest := []) hx hb hml hown hq hE hX pX0_al hP hD hS hA hl.1 (K_emit l G h0 a (upd (upd (upd (upd (upd (upd (upd (upd (upd (upd F 2 (nI sz)) 5 (nI cs124)) 6 (nI rg)) 7 (nI hd)) 8 (nI dp)) 12 (nI vr)) 13 as125) 14 wt126) 15 wf127) 16 ls9) (updR (updR (updR R 2 (.ref pq)) 3 (.ref mq)) 4 (va_rf lo)) Z B123 J K122.1 (fun q99 x99 => x99 = rep G a K122 q99) w 5 0 0 cs124 (by omega) (by omega) hng146 hO) (gV pw_129 pw_130 pw_131 pw_70 pw_115) hV_X1_emit qr155 1 hqr156 rfl rfl rfl (Nat.le_of_ble_eq_true rfl) dX0_statement_235 ⟨(by show 0 + 0 ≤ ((rE (g 2 q) - rS (g 2 q)) + 1); omega), (by show 0 + 0 ≤ (6 * (rE (g 2 q) - rS (g 2 q)) + 6); omega)⟩ ⟨(by show 2 + 1 ≤ (5 * n + 50); omega), (by show 8 + (4 + 11) + 60 ≤ (200 * n + 1200); omega)⟩ (fun v154 u152 H locs hw153 hP hD hS => ?_)
        obtain ⟨w, cs157, f158, f159, f160, f161⟩ := u152
        obtain ⟨hw153, h162, h163, hO⟩ := hw153
        have h162 : cs124 ≤ cs157 ∧ cs157 ≤ cs124 + 1 ∧ cs157 ≤ 10000 := h162
        have h163 : Nng f160 := h163
        obtain rfl : v154 = none := hw153
        have hO : OKP G h0 a (upd (upd (upd (upd (upd (upd (upd (upd (upd (upd F 2 (nI sz)) 5 (nI cs157)) 6 (nI rg)) 7 (nI hd)) 8 (nI dp)) 12 (nI vr)) 13 as125) 14 wt126) 15 wf127) 16 ls9) (updR (updR (updR R 2 (.ref pq)) 3 (.ref mq)) 4 (va_rf lo)) Z (updA (updA (updA (updA B123 16 f158) 17 f159) 18 f160) 19 f161) J K122 w := hO.to rfl
        refine W.widen (k := 0) (n := 0) (Nat.le_of_ble_eq_true rfl) (Nat.le_of_ble_eq_true rfl) ?_
        refine W.eq (g2 := F0 m 238 ls []) rfl ?_
        refine lv_goto (tgt := 241) hx hb dX0_statement_238 (by decide) ?_
        refine W_size (fun hz1 hz2 => ?_)
        refine vx_ret ?_
        have hz164 : BdE K K122 := hbe144
        have hz165 : Bth B (updA (updA (updA (updA B123 16 f158) 17 f159) 18 f160) 19 f161) := (show Thx (upd (upd (upd (upd (upd (upd (upd F 2 (nI sz)) 5 (nI cs)) 6 (nI rg)) 7 (nI hd)) 8 (nI dp)) 12 (nI vr)) 16 ls9) (upd (upd (upd (upd (upd (upd (upd (upd (upd (upd (upd F 2 (nI sz)) 5 (nI cs)) 6 (nI rg)) 7 (nI hd)) 8 (nI dp)) 12 (nI vr)) 16 ls9) 5 (nI cs157)) 13 as125) 14 wt126) 15 wf127) B (updA (updA (updA (updA B123 16 f158) 17 f159) 18 f160) 19 f161) from (Thx.b (Thx.b8 (Thx.b (Thx.b (Thx.f (Thx.f (Thx.f (Thx.f (Bth.thx hbb145) (by omega)) (by omega)) (by omega)) (by omega)) (by omega) (by decide)) (by omega) (by decide)) h163) (by omega) (by decide))).2
        have hz166 : cs157 ≤ 10000 ∧ rg ≤ 625 ∧ dp ≤ 1000 := (by omega)
        have hz167 : vr ≤ vr ∧ vr ≤ 30 ∧ hd + vr = hd + vr := (by omega)
        have hO : OKP G h0 a (upd (upd (upd (upd (upd (upd (upd (upd (upd (upd F 2 (nI sz)) 5 (nI cs157)) 6 (nI rg)) 7 (nI hd)) 8 (nI dp)) 12 (nI vr)) 13 as125) 14 wt126) 15 wf127) 16 ls9) (updR (updR (updR R 2 (.ref pq)) 3 (.ref mq)) 4 (va_rf lo)) Z (updA (updA (updA (updA B123 16 f158) 17 f159) 18 f160) 19 f161) J K122 w := hO.to rfl
        refine W.widen (k := ((rE (g 2 q) - rS (g 2 q)) + 1)) (n := (6 * (rE (g 2 q) - rS (g 2 q)) + 6)) (by omega) (by omega) ?_
        have hzz1 : H.size ≤ s.heap.size + ((rE (g 2 q) - rS (g 2 q))) := (by have z : 0 ≤ (rE (g 2 q) - rS (g 2 q)) := (by omega); omega)
        have hzz2 : hSl H ≤ hSl s.heap + ((6 * (rE (g 2 q) - rS (g 2 q)))) := (by have z : 0 ≤ (6 * (rE (g 2 q) - rS (g 2 q))) := (by omega); omega)
        exact W.vret hx hb hr (fun t99 ht99 hW99 => ⟨⟨_, (w, (K122, (updA (updA (updA (updA B123 16 f158) 17 f159) 18 f160) 19 f161), cs157, as125, wt126, wf127, vr, hd, dp, rg, ls9)), rfl, ⟨rfl, hz164, hz165, hz166, hz167, hO⟩, by rw [ht99]; exact hP, hD, by rw [ht99]; exact hzz1, by rw [ht99]; exact hzz2⟩, hS.F ht99⟩) hS.2.2 dX0_statement_241
    by_cases h168 : kd = 25
    · subst h168
      refine lv_tableIn (tgt := 112) (off := 76) hx hb dX0_statement_36 (by decide) (by decide) (by decide) (by decide) ?_
      obtain ⟨q1, hc0, ht0, hw0⟩ := NdO.ch hnd (f := 0) (by decide) ((hnd.1.2.1 (by rw [hkd]; decide)).1)
      have hv0 : 1 ≤ g 0 q1 ∧ g 0 q1 + 1 ≤ n := ⟨hw0.1, (by have z := hw0.2; omega)⟩
      obtain ⟨q2, hc1, ht1, hw1⟩ := NdO.ch hnd (f := 1) (by decide) ((hnd.1.2.1 (by rw [hkd]; decide)).2)
      have hv1 : 1 ≤ g 0 q2 ∧ g 0 q2 + 1 ≤ n := ⟨hw1.1, (by have z := hw1.2; omega)⟩
      refine lv_aload_n hx hb dX0_statement_112 rfl (lv_at hl 2 rfl) ?_
      refine lv_aload_n hx hb dX0_statement_113 rfl (lv_at hl 1 rfl) ?_
      have hO : OKP G h0 a (upd (upd (upd (upd (upd (upd (upd (upd (upd (upd (upd (upd (upd (upd (upd F 2 (nI sz)) 5 (nI cs)) 6 (nI rg)) 7 (nI hd)) 8 (nI dp)) 12 (nI vr)) 16 ls9) 5 (nI cs2)) 2 (nI sz)) 5 (nI cs2)) 6 (nI rg)) 7 (nI hd)) 8 (nI dp)) 12 (nI vr)) 16 ls9) (updR (updR (updR (updR (updR (updR R 2 (.ref pq)) 3 (.ref mq)) 4 (va_rf lo)) 2 (.ref pq)) 3 (.ref mq)) 4 (va_rf lo)) Z B2 J K w := hO.to rfl
      obtain ⟨_, qr172, hqr173⟩ := hO.2.1 24 _ (sg_24 G h0 a _ _ _ _ _)
      refine pn_V0 (G := G) (As := [.ref q]) (rest := []) hx hb hml hown hq hE hX pX0_al hP hD hS hA hl.1 (B_if l G h0 a (upd (upd (upd (upd (upd (upd (upd (upd F 2 (nI sz)) 5 (nI cs)) 6 (nI rg)) 7 (nI hd)) 8 (nI dp)) 12 (nI vr)) 16 ls9) 5 (nI cs2)) (updR (updR (updR R 2 (.ref pq)) 3 (.ref mq)) 4 (va_rf lo)) Z B2 J K w pq dr ml nd nm cp it s9 q mq cs2 vr sz n q1 q2 hd dp rg ls9 lo g rk (by omega) (BdE.wp BdE.rfl hwp) (BdE.pt BdE.rfl hwp hps) (BdE.rko BdE.rfl hrk) (by omega) (by omega) hng2 hmq hqT hqL hc0 ht0 hv0 hc1 ht1 hv1 (by omega) (by omega) (by omega) (LpO.be BdE.rfl hlo) hkd ist (IhV.all l G _) hO hl0) (gV pw_324 pw_325 pw_326 pw_63 pw_310) hV_X0_ifStatement qr172 0 hqr173 rfl rfl rfl (Nat.le_of_ble_eq_true rfl) dX0_statement_114 ⟨(by show 0 + ((rE (g 2 q) - rS (g 2 q)) + 1) ≤ ((rE (g 2 q) - rS (g 2 q)) + 1); omega), (by show 0 + (6 * (rE (g 2 q) - rS (g 2 q)) + 6) ≤ (6 * (rE (g 2 q) - rS (g 2 q)) + 6); omega)⟩ ⟨(by show (5 * n + 46) + 1 ≤ (5 * n + 50); omega), (by show 8 + (6 + 11) + (200 * n + 1120) ≤ (200 * n + 1200); omega)⟩ (fun v171 u169 H locs hw170 hP hD hS => ?_) (fun ux ce9 q9 H9 locs9 hux hP9 hD9 hS9 hce hcv hcl => pb_out ux (ThQ.up (Thx.same (Thx.same (Thx.same (Thx.same (Thx.same (Thx.same (Thx.same (Thx.f (Bth.thx hbb2) (by omega)) rfl) rfl) rfl) rfl) rfl) rfl) rfl) (show RhX (updR (updR (updR R 2 (.ref pq)) 3 (.ref mq)) 4 (va_rf lo)) (updR (updR (updR (updR (updR (updR R 2 (.ref pq)) 3 (.ref mq)) 4 (va_rf lo)) 2 (.ref pq)) 3 (.ref mq)) 4 (va_rf lo)) from fun k9 hk9 => by unfold updR; simp only [show ¬ k9 = 1 by omega, show ¬ k9 = 2 by omega, show ¬ k9 = 3 by omega, show ¬ k9 = 4 by omega, if_false]) hux) hnt hlocks hce hcv hcl hP9 hD9 hS9 (by show 0 + ((rE (g 2 q) - rS (g 2 q)) + 1) ≤ ((rE (g 2 q) - rS (g 2 q)) + 1); omega) (by show 0 + (6 * (rE (g 2 q) - rS (g 2 q)) + 6) ≤ (6 * (rE (g 2 q) - rS (g 2 q)) + 6); omega))
      obtain ⟨w, K174, B175, cs176, as177, wt178, wf179, vr180, hd181, dp182, rg183, ls184⟩ := u169
      obtain ⟨hw170, h185, h186, h187, h188, hO⟩ := hw170
      have h185 : BdE K K174 := h185
      have h186 : Bth B2 B175 := h186
      have h187 : cs176 ≤ 10000 ∧ rg183 ≤ 625 ∧ dp182 ≤ 1000 := h187
      have h188 : vr ≤ vr180 ∧ vr180 ≤ 30 ∧ hd181 + vr = hd + vr180 := h188
      obtain rfl : v171 = none := hw170
      have hf189 : K174.1 pq = 7 := (BdE.T h185 hp1 (by decide))
      have hf190 : K174.2.2.1 18 pq = some (a 1) := (BdE.C h185 (by rw [hp1]; decide) 18).trans hp2
      have hf191 : K174.2.2.1 14 pq = some dr := (BdE.C h185 (by rw [hp1]; decide) 14).trans hp3
      have hf192 : K174.1 dr = 8 := (BdE.T h185 hp4 (by decide))
      have hf193 : K174.2.2.1 15 pq = some ml := (BdE.C h185 (by rw [hp1]; decide) 15).trans hp5
      have hf194 : K174.1 ml = 5 := (BdE.T h185 hp6 (by decide))
      have hf195 : K174.2.1 24 pq = (nI nd) := (BdE.I h185 (by rw [hp1]; decide) (by decide) (by decide)).trans hp8
      have hf196 : K174.1 q = 1 := (BdE.T h185 hqT (by decide))
      have hf197 : K174.1 mq = 3 := (BdE.T h185 hmq (by decide))
      have hf198 : K174.2.1 0 q = 25 := (BdE.I h185 (by rw [hqT]; decide) (by decide) (by decide)).trans hkd
      have hf199 : K174.2.2.1 0 q = some q1 := (BdE.C h185 (by rw [hqT]; decide) 0).trans hc0
      have hf200 : K174.1 q1 = 1 := (BdE.T h185 ht0 (by decide))
      have hf201 : K174.2.2.1 1 q = some q2 := (BdE.C h185 (by rw [hqT]; decide) 1).trans hc1
      have hf202 : K174.1 q2 = 1 := (BdE.T h185 ht1 (by decide))
      have hO : OKP G h0 a (upd (upd (upd (upd (upd (upd (upd (upd (upd (upd F 2 (nI sz)) 5 (nI cs176)) 6 (nI rg183)) 7 (nI hd181)) 8 (nI dp182)) 12 (nI vr180)) 13 as177) 14 wt178) 15 wf179) 16 ls184) (updR (updR (updR R 2 (.ref pq)) 3 (.ref mq)) 4 (va_rf lo)) Z B175 J K174 w := hO.to rfl
      refine W.widen (k := (rE (g 2 q) - rS (g 2 q))) (n := (6 * (rE (g 2 q) - rS (g 2 q)))) (by show 0 + (rE (g 2 q) - rS (g 2 q)) ≤ (rE (g 2 q) - rS (g 2 q)); omega) (by show 0 + (6 * (rE (g 2 q) - rS (g 2 q))) ≤ (6 * (rE (g 2 q) - rS (g 2 q))); omega) ?_
      refine W.eq (g2 := F0 m 117 ls []) rfl ?_
      have hbe203 := BdE.trans BdE.rfl h185
      have hbb204 : Bth B B175 := Bth.trans (show Thx (upd (upd (upd (upd (upd (upd (upd F 2 (nI sz)) 5 (nI cs)) 6 (nI rg)) 7 (nI hd)) 8 (nI dp)) 12 (nI vr)) 16 ls9) (upd (upd (upd (upd (upd (upd (upd (upd F 2 (nI sz)) 5 (nI cs)) 6 (nI rg)) 7 (nI hd)) 8 (nI dp)) 12 (nI vr)) 16 ls9) 5 (nI cs2)) B B2 from (Thx.f (Bth.thx hbb2) (by omega))).2 h186
      have hng205 : Nng (B175 18) := h186.2 hng2
      refine lv_goto (tgt := 241) hx hb dX0_statement_117 (by decide) ?_
      refine W_size (fun hz1 hz2 => ?_)
      refine vx_ret ?_
      have hz206 : BdE K K174 := hbe203
      have hz207 : Bth B B175 := (show Thx (upd (upd (upd (upd (upd (upd (upd F 2 (nI sz)) 5 (nI cs)) 6 (nI rg)) 7 (nI hd)) 8 (nI dp)) 12 (nI vr)) 16 ls9) (upd (upd (upd (upd (upd (upd (upd (upd (upd (upd (upd (upd (upd (upd (upd (upd F 2 (nI sz)) 5 (nI cs)) 6 (nI rg)) 7 (nI hd)) 8 (nI dp)) 12 (nI vr)) 16 ls9) 5 (nI cs176)) 6 (nI rg183)) 7 (nI hd181)) 8 (nI dp182)) 12 (nI vr180)) 13 as177) 14 wt178) 15 wf179) 16 ls184) B B175 from (Thx.f (Thx.f (Thx.f (Thx.f (Thx.f (Thx.f (Thx.f (Thx.f (Thx.f (Bth.thx hbb204) (by omega)) (by omega)) (by omega)) (by omega)) (by omega)) (by omega)) (by omega)) (by omega)) (by omega))).2
      have hz208 : cs176 ≤ 10000 ∧ rg183 ≤ 625 ∧ dp182 ≤ 1000 := (by omega)
      have hz209 : vr ≤ vr180 ∧ vr180 ≤ 30 ∧ hd181 + vr = hd + vr180 := (by omega)
      have hO : OKP G h0 a (upd (upd (upd (upd (upd (upd (upd (upd (upd (upd F 2 (nI sz)) 5 (nI cs176)) 6 (nI rg183)) 7 (nI hd181)) 8 (nI dp182)) 12 (nI vr180)) 13 as177) 14 wt178) 15 wf179) 16 ls184) (updR (updR (updR R 2 (.ref pq)) 3 (.ref mq)) 4 (va_rf lo)) Z B175 J K174 w := hO.to rfl
      refine W.widen (k := ((rE (g 2 q) - rS (g 2 q)) + 1)) (n := (6 * (rE (g 2 q) - rS (g 2 q)) + 6)) (by omega) (by omega) ?_
      have hzz1 : H.size ≤ s.heap.size + ((rE (g 2 q) - rS (g 2 q))) := (by have z : (rE (g 2 q) - rS (g 2 q)) ≤ (rE (g 2 q) - rS (g 2 q)) := (by omega); omega)
      have hzz2 : hSl H ≤ hSl s.heap + ((6 * (rE (g 2 q) - rS (g 2 q)))) := (by have z : (6 * (rE (g 2 q) - rS (g 2 q))) ≤ (6 * (rE (g 2 q) - rS (g 2 q))) := (by omega); omega)
      exact W.vret hx hb hr (fun t99 ht99 hW99 => ⟨⟨_, (w, (K174, B175, cs176, as177, wt178, wf179, vr180, hd181, dp182, rg183, ls184)), rfl, ⟨rfl, hz206, hz207, hz208, hz209, hO⟩, by rw [ht99]; exact hP, hD, by rw [ht99]; exact hzz1, by rw [ht99]; exact hzz2⟩, hS.F ht99⟩) hS.2.2 dX0_statement_241
    by_cases h210 : kd = 26
    · subst h210
      refine lv_tableIn (tgt := 120) (off := 84) hx hb dX0_statement_36 (by decide) (by decide) (by decide) (by decide) ?_
      obtain ⟨q4, hc3, ht3, hw3⟩ := NdO.ch hnd (f := 3) (by decide) ((hnd.1.2.2.2.1 hkd).2)
      have hv3 : 1 ≤ g 0 q4 ∧ g 0 q4 + 1 ≤ n := ⟨hw3.1, (by have z := hw3.2; omega)⟩
      refine lv_aload_n hx hb dX0_statement_120 rfl (lv_at hl 2 rfl) ?_
      refine lv_aload_n hx hb dX0_statement_121 rfl (lv_at hl 1 rfl) ?_
      have hO : OKP G h0 a (upd (upd (upd (upd (upd (upd (upd (upd (upd (upd (upd (upd (upd (upd (upd F 2 (nI sz)) 5 (nI cs)) 6 (nI rg)) 7 (nI hd)) 8 (nI dp)) 12 (nI vr)) 16 ls9) 5 (nI cs2)) 2 (nI sz)) 5 (nI cs2)) 6 (nI rg)) 7 (nI hd)) 8 (nI dp)) 12 (nI vr)) 16 ls9) (updR (updR (updR (updR (updR (updR R 2 (.ref pq)) 3 (.ref mq)) 4 (va_rf lo)) 2 (.ref pq)) 3 (.ref mq)) 4 (va_rf lo)) Z B2 J K w := hO.to rfl
      obtain ⟨_, qr214, hqr215⟩ := hO.2.1 24 _ (sg_24 G h0 a _ _ _ _ _)
      refine pn_V0 (G := G) (As := [.ref q]) (rest := []) hx hb hml hown hq hE hX pX0_al hP hD hS hA hl.1 (B_loop l G h0 a (upd (upd (upd (upd (upd (upd (upd (upd F 2 (nI sz)) 5 (nI cs)) 6 (nI rg)) 7 (nI hd)) 8 (nI dp)) 12 (nI vr)) 16 ls9) 5 (nI cs2)) (updR (updR (updR R 2 (.ref pq)) 3 (.ref mq)) 4 (va_rf lo)) Z B2 J K w pq dr ml nd nm cp it s9 q mq cs2 vr sz n q4 hd dp rg ls9 lo g rk (by omega) (BdE.wp BdE.rfl hwp) (BdE.pt BdE.rfl hwp hps) (BdE.rko BdE.rfl hrk) (by omega) (by omega) hng2 hmq hqT hqL hc3 ht3 hv3 (by omega) (by omega) (by omega) (LpO.be BdE.rfl hlo) (Or.inl hkd) ist (IhV.all l G _) hO hl0) (gV pw_327 pw_328 pw_329 pw_63 pw_312) hV_X0_loopStatement qr214 0 hqr215 rfl rfl rfl (Nat.le_of_ble_eq_true rfl) dX0_statement_122 ⟨(by show 0 + ((rE (g 2 q) - rS (g 2 q)) + 1) ≤ ((rE (g 2 q) - rS (g 2 q)) + 1); omega), (by show 0 + (6 * (rE (g 2 q) - rS (g 2 q)) + 6) ≤ (6 * (rE (g 2 q) - rS (g 2 q)) + 6); omega)⟩ ⟨(by show (5 * n + 46) + 1 ≤ (5 * n + 50); omega), (by show 8 + (7 + 11) + (200 * n + 1120) ≤ (200 * n + 1200); omega)⟩ (fun v213 u211 H locs hw212 hP hD hS => ?_) (fun ux ce9 q9 H9 locs9 hux hP9 hD9 hS9 hce hcv hcl => pb_out ux (ThQ.up (Thx.same (Thx.same (Thx.same (Thx.same (Thx.same (Thx.same (Thx.same (Thx.f (Bth.thx hbb2) (by omega)) rfl) rfl) rfl) rfl) rfl) rfl) rfl) (show RhX (updR (updR (updR R 2 (.ref pq)) 3 (.ref mq)) 4 (va_rf lo)) (updR (updR (updR (updR (updR (updR R 2 (.ref pq)) 3 (.ref mq)) 4 (va_rf lo)) 2 (.ref pq)) 3 (.ref mq)) 4 (va_rf lo)) from fun k9 hk9 => by unfold updR; simp only [show ¬ k9 = 1 by omega, show ¬ k9 = 2 by omega, show ¬ k9 = 3 by omega, show ¬ k9 = 4 by omega, if_false]) hux) hnt hlocks hce hcv hcl hP9 hD9 hS9 (by show 0 + ((rE (g 2 q) - rS (g 2 q)) + 1) ≤ ((rE (g 2 q) - rS (g 2 q)) + 1); omega) (by show 0 + (6 * (rE (g 2 q) - rS (g 2 q)) + 6) ≤ (6 * (rE (g 2 q) - rS (g 2 q)) + 6); omega))
      obtain ⟨w, K216, B217, cs218, as219, wt220, wf221, vr222, hd223, dp224, rg225, ls226⟩ := u211
      obtain ⟨hw212, h227, h228, h229, h230, hO⟩ := hw212
      have h227 : BdE K K216 := h227
      have h228 : Bth B2 B217 := h228
      have h229 : cs218 ≤ 10000 ∧ rg225 ≤ 625 ∧ dp224 ≤ 1000 := h229
      have h230 : vr ≤ vr222 ∧ vr222 ≤ 30 ∧ hd223 + vr = hd + vr222 := h230
      obtain rfl : v213 = none := hw212
      have hf231 : K216.1 pq = 7 := (BdE.T h227 hp1 (by decide))
      have hf232 : K216.2.2.1 18 pq = some (a 1) := (BdE.C h227 (by rw [hp1]; decide) 18).trans hp2
      have hf233 : K216.2.2.1 14 pq = some dr := (BdE.C h227 (by rw [hp1]; decide) 14).trans hp3
      have hf234 : K216.1 dr = 8 := (BdE.T h227 hp4 (by decide))
      have hf235 : K216.2.2.1 15 pq = some ml := (BdE.C h227 (by rw [hp1]; decide) 15).trans hp5
      have hf236 : K216.1 ml = 5 := (BdE.T h227 hp6 (by decide))
      have hf237 : K216.2.1 24 pq = (nI nd) := (BdE.I h227 (by rw [hp1]; decide) (by decide) (by decide)).trans hp8
      have hf238 : K216.1 q = 1 := (BdE.T h227 hqT (by decide))
      have hf239 : K216.1 mq = 3 := (BdE.T h227 hmq (by decide))
      have hf240 : K216.2.1 0 q = 26 := (BdE.I h227 (by rw [hqT]; decide) (by decide) (by decide)).trans hkd
      have hf241 : K216.2.2.1 3 q = some q4 := (BdE.C h227 (by rw [hqT]; decide) 3).trans hc3
      have hf242 : K216.1 q4 = 1 := (BdE.T h227 ht3 (by decide))
      have hO : OKP G h0 a (upd (upd (upd (upd (upd (upd (upd (upd (upd (upd F 2 (nI sz)) 5 (nI cs218)) 6 (nI rg225)) 7 (nI hd223)) 8 (nI dp224)) 12 (nI vr222)) 13 as219) 14 wt220) 15 wf221) 16 ls226) (updR (updR (updR R 2 (.ref pq)) 3 (.ref mq)) 4 (va_rf lo)) Z B217 J K216 w := hO.to rfl
      refine W.widen (k := (rE (g 2 q) - rS (g 2 q))) (n := (6 * (rE (g 2 q) - rS (g 2 q)))) (by show 0 + (rE (g 2 q) - rS (g 2 q)) ≤ (rE (g 2 q) - rS (g 2 q)); omega) (by show 0 + (6 * (rE (g 2 q) - rS (g 2 q))) ≤ (6 * (rE (g 2 q) - rS (g 2 q))); omega) ?_
      refine W.eq (g2 := F0 m 125 ls []) rfl ?_
      have hbe243 := BdE.trans BdE.rfl h227
      have hbb244 : Bth B B217 := Bth.trans (show Thx (upd (upd (upd (upd (upd (upd (upd F 2 (nI sz)) 5 (nI cs)) 6 (nI rg)) 7 (nI hd)) 8 (nI dp)) 12 (nI vr)) 16 ls9) (upd (upd (upd (upd (upd (upd (upd (upd F 2 (nI sz)) 5 (nI cs)) 6 (nI rg)) 7 (nI hd)) 8 (nI dp)) 12 (nI vr)) 16 ls9) 5 (nI cs2)) B B2 from (Thx.f (Bth.thx hbb2) (by omega))).2 h228
      have hng245 : Nng (B217 18) := h228.2 hng2
      refine lv_goto (tgt := 241) hx hb dX0_statement_125 (by decide) ?_
      refine W_size (fun hz1 hz2 => ?_)
      refine vx_ret ?_
      have hz246 : BdE K K216 := hbe243
      have hz247 : Bth B B217 := (show Thx (upd (upd (upd (upd (upd (upd (upd F 2 (nI sz)) 5 (nI cs)) 6 (nI rg)) 7 (nI hd)) 8 (nI dp)) 12 (nI vr)) 16 ls9) (upd (upd (upd (upd (upd (upd (upd (upd (upd (upd (upd (upd (upd (upd (upd (upd F 2 (nI sz)) 5 (nI cs)) 6 (nI rg)) 7 (nI hd)) 8 (nI dp)) 12 (nI vr)) 16 ls9) 5 (nI cs218)) 6 (nI rg225)) 7 (nI hd223)) 8 (nI dp224)) 12 (nI vr222)) 13 as219) 14 wt220) 15 wf221) 16 ls226) B B217 from (Thx.f (Thx.f (Thx.f (Thx.f (Thx.f (Thx.f (Thx.f (Thx.f (Thx.f (Bth.thx hbb244) (by omega)) (by omega)) (by omega)) (by omega)) (by omega)) (by omega)) (by omega)) (by omega)) (by omega))).2
      have hz248 : cs218 ≤ 10000 ∧ rg225 ≤ 625 ∧ dp224 ≤ 1000 := (by omega)
      have hz249 : vr ≤ vr222 ∧ vr222 ≤ 30 ∧ hd223 + vr = hd + vr222 := (by omega)
      have hO : OKP G h0 a (upd (upd (upd (upd (upd (upd (upd (upd (upd (upd F 2 (nI sz)) 5 (nI cs218)) 6 (nI rg225)) 7 (nI hd223)) 8 (nI dp224)) 12 (nI vr222)) 13 as219) 14 wt220) 15 wf221) 16 ls226) (updR (updR (updR R 2 (.ref pq)) 3 (.ref mq)) 4 (va_rf lo)) Z B217 J K216 w := hO.to rfl
      refine W.widen (k := ((rE (g 2 q) - rS (g 2 q)) + 1)) (n := (6 * (rE (g 2 q) - rS (g 2 q)) + 6)) (by omega) (by omega) ?_
      have hzz1 : H.size ≤ s.heap.size + ((rE (g 2 q) - rS (g 2 q))) := (by have z : (rE (g 2 q) - rS (g 2 q)) ≤ (rE (g 2 q) - rS (g 2 q)) := (by omega); omega)
      have hzz2 : hSl H ≤ hSl s.heap + ((6 * (rE (g 2 q) - rS (g 2 q)))) := (by have z : (6 * (rE (g 2 q) - rS (g 2 q))) ≤ (6 * (rE (g 2 q) - rS (g 2 q))) := (by omega); omega)
      exact W.vret hx hb hr (fun t99 ht99 hW99 => ⟨⟨_, (w, (K216, B217, cs218, as219, wt220, wf221, vr222, hd223, dp224, rg225, ls226)), rfl, ⟨rfl, hz246, hz247, hz248, hz249, hO⟩, by rw [ht99]; exact hP, hD, by rw [ht99]; exact hzz1, by rw [ht99]; exact hzz2⟩, hS.F ht99⟩) hS.2.2 dX0_statement_241
    by_cases h250 : kd = 27
    · subst h250
      refine lv_tableIn (tgt := 120) (off := 84) hx hb dX0_statement_36 (by decide) (by decide) (by decide) (by decide) ?_
      obtain ⟨q4, hc3, ht3, hw3⟩ := NdO.ch hnd (f := 3) (by decide) (hnd.1.2.2.2.2 hkd)
      have hv3 : 1 ≤ g 0 q4 ∧ g 0 q4 + 1 ≤ n := ⟨hw3.1, (by have z := hw3.2; omega)⟩
      refine lv_aload_n hx hb dX0_statement_120 rfl (lv_at hl 2 rfl) ?_
      refine lv_aload_n hx hb dX0_statement_121 rfl (lv_at hl 1 rfl) ?_
      have hO : OKP G h0 a (upd (upd (upd (upd (upd (upd (upd (upd (upd (upd (upd (upd (upd (upd (upd F 2 (nI sz)) 5 (nI cs)) 6 (nI rg)) 7 (nI hd)) 8 (nI dp)) 12 (nI vr)) 16 ls9) 5 (nI cs2)) 2 (nI sz)) 5 (nI cs2)) 6 (nI rg)) 7 (nI hd)) 8 (nI dp)) 12 (nI vr)) 16 ls9) (updR (updR (updR (updR (updR (updR R 2 (.ref pq)) 3 (.ref mq)) 4 (va_rf lo)) 2 (.ref pq)) 3 (.ref mq)) 4 (va_rf lo)) Z B2 J K w := hO.to rfl
      obtain ⟨_, qr254, hqr255⟩ := hO.2.1 24 _ (sg_24 G h0 a _ _ _ _ _)
      refine pn_V0 (G := G) (As := [.ref q]) (rest := []) hx hb hml hown hq hE hX pX0_al hP hD hS hA hl.1 (B_loop l G h0 a (upd (upd (upd (upd (upd (upd (upd (upd F 2 (nI sz)) 5 (nI cs)) 6 (nI rg)) 7 (nI hd)) 8 (nI dp)) 12 (nI vr)) 16 ls9) 5 (nI cs2)) (updR (updR (updR R 2 (.ref pq)) 3 (.ref mq)) 4 (va_rf lo)) Z B2 J K w pq dr ml nd nm cp it s9 q mq cs2 vr sz n q4 hd dp rg ls9 lo g rk (by omega) (BdE.wp BdE.rfl hwp) (BdE.pt BdE.rfl hwp hps) (BdE.rko BdE.rfl hrk) (by omega) (by omega) hng2 hmq hqT hqL hc3 ht3 hv3 (by omega) (by omega) (by omega) (LpO.be BdE.rfl hlo) (Or.inr hkd) ist (IhV.all l G _) hO hl0) (gV pw_327 pw_328 pw_329 pw_63 pw_312) hV_X0_loopStatement qr254 0 hqr255 rfl rfl rfl (Nat.le_of_ble_eq_true rfl) dX0_statement_122 ⟨(by show 0 + ((rE (g 2 q) - rS (g 2 q)) + 1) ≤ ((rE (g 2 q) - rS (g 2 q)) + 1); omega), (by show 0 + (6 * (rE (g 2 q) - rS (g 2 q)) + 6) ≤ (6 * (rE (g 2 q) - rS (g 2 q)) + 6); omega)⟩ ⟨(by show (5 * n + 46) + 1 ≤ (5 * n + 50); omega), (by show 8 + (7 + 11) + (200 * n + 1120) ≤ (200 * n + 1200); omega)⟩ (fun v253 u251 H locs hw252 hP hD hS => ?_) (fun ux ce9 q9 H9 locs9 hux hP9 hD9 hS9 hce hcv hcl => pb_out ux (ThQ.up (Thx.same (Thx.same (Thx.same (Thx.same (Thx.same (Thx.same (Thx.same (Thx.f (Bth.thx hbb2) (by omega)) rfl) rfl) rfl) rfl) rfl) rfl) rfl) (show RhX (updR (updR (updR R 2 (.ref pq)) 3 (.ref mq)) 4 (va_rf lo)) (updR (updR (updR (updR (updR (updR R 2 (.ref pq)) 3 (.ref mq)) 4 (va_rf lo)) 2 (.ref pq)) 3 (.ref mq)) 4 (va_rf lo)) from fun k9 hk9 => by unfold updR; simp only [show ¬ k9 = 1 by omega, show ¬ k9 = 2 by omega, show ¬ k9 = 3 by omega, show ¬ k9 = 4 by omega, if_false]) hux) hnt hlocks hce hcv hcl hP9 hD9 hS9 (by show 0 + ((rE (g 2 q) - rS (g 2 q)) + 1) ≤ ((rE (g 2 q) - rS (g 2 q)) + 1); omega) (by show 0 + (6 * (rE (g 2 q) - rS (g 2 q)) + 6) ≤ (6 * (rE (g 2 q) - rS (g 2 q)) + 6); omega))
      obtain ⟨w, K256, B257, cs258, as259, wt260, wf261, vr262, hd263, dp264, rg265, ls266⟩ := u251
      obtain ⟨hw252, h267, h268, h269, h270, hO⟩ := hw252
      have h267 : BdE K K256 := h267
      have h268 : Bth B2 B257 := h268
      have h269 : cs258 ≤ 10000 ∧ rg265 ≤ 625 ∧ dp264 ≤ 1000 := h269
      have h270 : vr ≤ vr262 ∧ vr262 ≤ 30 ∧ hd263 + vr = hd + vr262 := h270
      obtain rfl : v253 = none := hw252
      have hf271 : K256.1 pq = 7 := (BdE.T h267 hp1 (by decide))
      have hf272 : K256.2.2.1 18 pq = some (a 1) := (BdE.C h267 (by rw [hp1]; decide) 18).trans hp2
      have hf273 : K256.2.2.1 14 pq = some dr := (BdE.C h267 (by rw [hp1]; decide) 14).trans hp3
      have hf274 : K256.1 dr = 8 := (BdE.T h267 hp4 (by decide))
      have hf275 : K256.2.2.1 15 pq = some ml := (BdE.C h267 (by rw [hp1]; decide) 15).trans hp5
      have hf276 : K256.1 ml = 5 := (BdE.T h267 hp6 (by decide))
      have hf277 : K256.2.1 24 pq = (nI nd) := (BdE.I h267 (by rw [hp1]; decide) (by decide) (by decide)).trans hp8
      have hf278 : K256.1 q = 1 := (BdE.T h267 hqT (by decide))
      have hf279 : K256.1 mq = 3 := (BdE.T h267 hmq (by decide))
      have hf280 : K256.2.1 0 q = 27 := (BdE.I h267 (by rw [hqT]; decide) (by decide) (by decide)).trans hkd
      have hf281 : K256.2.2.1 3 q = some q4 := (BdE.C h267 (by rw [hqT]; decide) 3).trans hc3
      have hf282 : K256.1 q4 = 1 := (BdE.T h267 ht3 (by decide))
      have hO : OKP G h0 a (upd (upd (upd (upd (upd (upd (upd (upd (upd (upd F 2 (nI sz)) 5 (nI cs258)) 6 (nI rg265)) 7 (nI hd263)) 8 (nI dp264)) 12 (nI vr262)) 13 as259) 14 wt260) 15 wf261) 16 ls266) (updR (updR (updR R 2 (.ref pq)) 3 (.ref mq)) 4 (va_rf lo)) Z B257 J K256 w := hO.to rfl
      refine W.widen (k := (rE (g 2 q) - rS (g 2 q))) (n := (6 * (rE (g 2 q) - rS (g 2 q)))) (by show 0 + (rE (g 2 q) - rS (g 2 q)) ≤ (rE (g 2 q) - rS (g 2 q)); omega) (by show 0 + (6 * (rE (g 2 q) - rS (g 2 q))) ≤ (6 * (rE (g 2 q) - rS (g 2 q))); omega) ?_
      refine W.eq (g2 := F0 m 125 ls []) rfl ?_
      have hbe283 := BdE.trans BdE.rfl h267
      have hbb284 : Bth B B257 := Bth.trans (show Thx (upd (upd (upd (upd (upd (upd (upd F 2 (nI sz)) 5 (nI cs)) 6 (nI rg)) 7 (nI hd)) 8 (nI dp)) 12 (nI vr)) 16 ls9) (upd (upd (upd (upd (upd (upd (upd (upd F 2 (nI sz)) 5 (nI cs)) 6 (nI rg)) 7 (nI hd)) 8 (nI dp)) 12 (nI vr)) 16 ls9) 5 (nI cs2)) B B2 from (Thx.f (Bth.thx hbb2) (by omega))).2 h268
      have hng285 : Nng (B257 18) := h268.2 hng2
      refine lv_goto (tgt := 241) hx hb dX0_statement_125 (by decide) ?_
      refine W_size (fun hz1 hz2 => ?_)
      refine vx_ret ?_
      have hz286 : BdE K K256 := hbe283
      have hz287 : Bth B B257 := (show Thx (upd (upd (upd (upd (upd (upd (upd F 2 (nI sz)) 5 (nI cs)) 6 (nI rg)) 7 (nI hd)) 8 (nI dp)) 12 (nI vr)) 16 ls9) (upd (upd (upd (upd (upd (upd (upd (upd (upd (upd (upd (upd (upd (upd (upd (upd F 2 (nI sz)) 5 (nI cs)) 6 (nI rg)) 7 (nI hd)) 8 (nI dp)) 12 (nI vr)) 16 ls9) 5 (nI cs258)) 6 (nI rg265)) 7 (nI hd263)) 8 (nI dp264)) 12 (nI vr262)) 13 as259) 14 wt260) 15 wf261) 16 ls266) B B257 from (Thx.f (Thx.f (Thx.f (Thx.f (Thx.f (Thx.f (Thx.f (Thx.f (Thx.f (Bth.thx hbb284) (by omega)) (by omega)) (by omega)) (by omega)) (by omega)) (by omega)) (by omega)) (by omega)) (by omega))).2
      have hz288 : cs258 ≤ 10000 ∧ rg265 ≤ 625 ∧ dp264 ≤ 1000 := (by omega)
      have hz289 : vr ≤ vr262 ∧ vr262 ≤ 30 ∧ hd263 + vr = hd + vr262 := (by omega)
      have hO : OKP G h0 a (upd (upd (upd (upd (upd (upd (upd (upd (upd (upd F 2 (nI sz)) 5 (nI cs258)) 6 (nI rg265)) 7 (nI hd263)) 8 (nI dp264)) 12 (nI vr262)) 13 as259) 14 wt260) 15 wf261) 16 ls266) (updR (updR (updR R 2 (.ref pq)) 3 (.ref mq)) 4 (va_rf lo)) Z B257 J K256 w := hO.to rfl
      refine W.widen (k := ((rE (g 2 q) - rS (g 2 q)) + 1)) (n := (6 * (rE (g 2 q) - rS (g 2 q)) + 6)) (by omega) (by omega) ?_
      have hzz1 : H.size ≤ s.heap.size + ((rE (g 2 q) - rS (g 2 q))) := (by have z : (rE (g 2 q) - rS (g 2 q)) ≤ (rE (g 2 q) - rS (g 2 q)) := (by omega); omega)
      have hzz2 : hSl H ≤ hSl s.heap + ((6 * (rE (g 2 q) - rS (g 2 q)))) := (by have z : (6 * (rE (g 2 q) - rS (g 2 q))) ≤ (6 * (rE (g 2 q) - rS (g 2 q))) := (by omega); omega)
      exact W.vret hx hb hr (fun t99 ht99 hW99 => ⟨⟨_, (w, (K256, B257, cs258, as259, wt260, wf261, vr262, hd263, dp264, rg265, ls266)), rfl, ⟨rfl, hz286, hz287, hz288, hz289, hO⟩, by rw [ht99]; exact hP, hD, by rw [ht99]; exact hzz1, by rw [ht99]; exact hzz2⟩, hS.F ht99⟩) hS.2.2 dX0_statement_241
    by_cases h290 : kd = 28
    · subst h290
      refine lv_tableIn (tgt := 128) (off := 92) hx hb dX0_statement_36 (by decide) (by decide) (by decide) (by decide) ?_
      refine lv_aload_n hx hb dX0_statement_128 rfl (lv_at hl 2 rfl) ?_
      refine lv_aload_n hx hb dX0_statement_129 rfl (lv_at hl 1 rfl) ?_
      have hO : OKP G h0 a (upd (upd (upd (upd (upd (upd (upd (upd (upd (upd (upd (upd (upd (upd (upd F 2 (nI sz)) 5 (nI cs)) 6 (nI rg)) 7 (nI hd)) 8 (nI dp)) 12 (nI vr)) 16 ls9) 5 (nI cs2)) 2 (nI sz)) 5 (nI cs2)) 6 (nI rg)) 7 (nI hd)) 8 (nI dp)) 12 (nI vr)) 16 ls9) (updR (updR (updR (updR (updR (updR R 2 (.ref pq)) 3 (.ref mq)) 4 (va_rf lo)) 2 (.ref pq)) 3 (.ref mq)) 4 (va_rf lo)) Z B2 J K w := hO.to rfl
      obtain ⟨_, qr294, hqr295⟩ := hO.2.1 24 _ (sg_24 G h0 a _ _ _ _ _)
      refine pn_V0 (G := G) (As := [.ref q]) (rest := []) hx hb hml hown hq hE hX pX0_al hP hD hS hA hl.1 (B_return l G h0 a (upd (upd (upd (upd (upd (upd (upd (upd F 2 (nI sz)) 5 (nI cs)) 6 (nI rg)) 7 (nI hd)) 8 (nI dp)) 12 (nI vr)) 16 ls9) 5 (nI cs2)) (updR (updR (updR R 2 (.ref pq)) 3 (.ref mq)) 4 (va_rf lo)) Z B2 J K w pq dr ml nd nm cp it s9 q mq cs2 vr sz n hd dp rg ls9 lo g rk (by omega) (BdE.wp BdE.rfl hwp) (BdE.pt BdE.rfl hwp hps) (BdE.rko BdE.rfl hrk) (by omega) (by omega) hng2 hmq hqT hqL (by omega) (by omega) (by omega) (LpO.be BdE.rfl hlo) (IhV.all l G _) hO hl0) (gV pw_330 pw_331 pw_332 pw_63 pw_280) hV_X0_returnStatement qr294 0 hqr295 rfl rfl rfl (Nat.le_of_ble_eq_true rfl) dX0_statement_130 ⟨(by show 0 + 1 ≤ ((rE (g 2 q) - rS (g 2 q)) + 1); omega), (by show 0 + 6 ≤ (6 * (rE (g 2 q) - rS (g 2 q)) + 6); omega)⟩ ⟨(by show (5 * n + 33) + 1 ≤ (5 * n + 50); omega), (by show 8 + (2 + 11) + (200 * n + 560) ≤ (200 * n + 1200); omega)⟩ (fun v293 u291 H locs hw292 hP hD hS => ?_) (fun ux ce9 q9 H9 locs9 hux hP9 hD9 hS9 hce hcv hcl => pb_out ux (ThQ.up (Thx.same (Thx.same (Thx.same (Thx.same (Thx.same (Thx.same (Thx.same (Thx.f (Bth.thx hbb2) (by omega)) rfl) rfl) rfl) rfl) rfl) rfl) rfl) (show RhX (updR (updR (updR R 2 (.ref pq)) 3 (.ref mq)) 4 (va_rf lo)) (updR (updR (updR (updR (updR (updR R 2 (.ref pq)) 3 (.ref mq)) 4 (va_rf lo)) 2 (.ref pq)) 3 (.ref mq)) 4 (va_rf lo)) from fun k9 hk9 => by unfold updR; simp only [show ¬ k9 = 1 by omega, show ¬ k9 = 2 by omega, show ¬ k9 = 3 by omega, show ¬ k9 = 4 by omega, if_false]) hux) hnt hlocks hce hcv hcl hP9 hD9 hS9 (by show 0 + 1 ≤ ((rE (g 2 q) - rS (g 2 q)) + 1); omega) (by show 0 + 6 ≤ (6 * (rE (g 2 q) - rS (g 2 q)) + 6); omega))
      obtain ⟨w, K296, B297, cs298, as299, wt300, wf301, vr302, hd303, dp304, rg305, ls306⟩ := u291
      obtain ⟨hw292, h307, h308, h309, h310, hO⟩ := hw292
      have h307 : BdE K K296 := h307
      have h308 : Bth B2 B297 := h308
      have h309 : cs298 ≤ 10000 ∧ rg305 ≤ 625 ∧ dp304 ≤ 1000 := h309
      have h310 : vr ≤ vr302 ∧ vr302 ≤ 30 ∧ hd303 + vr = hd + vr302 := h310
      obtain rfl : v293 = none := hw292
      have hf311 : K296.1 pq = 7 := (BdE.T h307 hp1 (by decide))
      have hf312 : K296.2.2.1 18 pq = some (a 1) := (BdE.C h307 (by rw [hp1]; decide) 18).trans hp2
      have hf313 : K296.2.2.1 14 pq = some dr := (BdE.C h307 (by rw [hp1]; decide) 14).trans hp3
      have hf314 : K296.1 dr = 8 := (BdE.T h307 hp4 (by decide))
      have hf315 : K296.2.2.1 15 pq = some ml := (BdE.C h307 (by rw [hp1]; decide) 15).trans hp5
      have hf316 : K296.1 ml = 5 := (BdE.T h307 hp6 (by decide))
      have hf317 : K296.2.1 24 pq = (nI nd) := (BdE.I h307 (by rw [hp1]; decide) (by decide) (by decide)).trans hp8
      have hf318 : K296.1 q = 1 := (BdE.T h307 hqT (by decide))
      have hf319 : K296.1 mq = 3 := (BdE.T h307 hmq (by decide))
      have hf320 : K296.2.1 0 q = 28 := (BdE.I h307 (by rw [hqT]; decide) (by decide) (by decide)).trans hkd
      have hO : OKP G h0 a (upd (upd (upd (upd (upd (upd (upd (upd (upd (upd F 2 (nI sz)) 5 (nI cs298)) 6 (nI rg305)) 7 (nI hd303)) 8 (nI dp304)) 12 (nI vr302)) 13 as299) 14 wt300) 15 wf301) 16 ls306) (updR (updR (updR R 2 (.ref pq)) 3 (.ref mq)) 4 (va_rf lo)) Z B297 J K296 w := hO.to rfl
      refine W.widen (k := 0) (n := 0) (by show 0 + 0 ≤ 0; omega) (by show 0 + 0 ≤ 0; omega) ?_
      refine W.eq (g2 := F0 m 133 ls []) rfl ?_
      have hbe321 := BdE.trans BdE.rfl h307
      have hbb322 : Bth B B297 := Bth.trans (show Thx (upd (upd (upd (upd (upd (upd (upd F 2 (nI sz)) 5 (nI cs)) 6 (nI rg)) 7 (nI hd)) 8 (nI dp)) 12 (nI vr)) 16 ls9) (upd (upd (upd (upd (upd (upd (upd (upd F 2 (nI sz)) 5 (nI cs)) 6 (nI rg)) 7 (nI hd)) 8 (nI dp)) 12 (nI vr)) 16 ls9) 5 (nI cs2)) B B2 from (Thx.f (Bth.thx hbb2) (by omega))).2 h308
      have hng323 : Nng (B297 18) := h308.2 hng2
      refine lv_goto (tgt := 241) hx hb dX0_statement_133 (by decide) ?_
      refine W_size (fun hz1 hz2 => ?_)
      refine vx_ret ?_
      have hz324 : BdE K K296 := hbe321
      have hz325 : Bth B B297 := (show Thx (upd (upd (upd (upd (upd (upd (upd F 2 (nI sz)) 5 (nI cs)) 6 (nI rg)) 7 (nI hd)) 8 (nI dp)) 12 (nI vr)) 16 ls9) (upd (upd (upd (upd (upd (upd (upd (upd (upd (upd (upd (upd (upd (upd (upd (upd F 2 (nI sz)) 5 (nI cs)) 6 (nI rg)) 7 (nI hd)) 8 (nI dp)) 12 (nI vr)) 16 ls9) 5 (nI cs298)) 6 (nI rg305)) 7 (nI hd303)) 8 (nI dp304)) 12 (nI vr302)) 13 as299) 14 wt300) 15 wf301) 16 ls306) B B297 from (Thx.f (Thx.f (Thx.f (Thx.f (Thx.f (Thx.f (Thx.f (Thx.f (Thx.f (Bth.thx hbb322) (by omega)) (by omega)) (by omega)) (by omega)) (by omega)) (by omega)) (by omega)) (by omega)) (by omega))).2
      have hz326 : cs298 ≤ 10000 ∧ rg305 ≤ 625 ∧ dp304 ≤ 1000 := (by omega)
      have hz327 : vr ≤ vr302 ∧ vr302 ≤ 30 ∧ hd303 + vr = hd + vr302 := (by omega)
      have hO : OKP G h0 a (upd (upd (upd (upd (upd (upd (upd (upd (upd (upd F 2 (nI sz)) 5 (nI cs298)) 6 (nI rg305)) 7 (nI hd303)) 8 (nI dp304)) 12 (nI vr302)) 13 as299) 14 wt300) 15 wf301) 16 ls306) (updR (updR (updR R 2 (.ref pq)) 3 (.ref mq)) 4 (va_rf lo)) Z B297 J K296 w := hO.to rfl
      refine W.widen (k := ((rE (g 2 q) - rS (g 2 q)) + 1)) (n := (6 * (rE (g 2 q) - rS (g 2 q)) + 6)) (by omega) (by omega) ?_
      have hzz1 : H.size ≤ s.heap.size + ((rE (g 2 q) - rS (g 2 q))) := (by have z : 0 ≤ (rE (g 2 q) - rS (g 2 q)) := (by omega); omega)
      have hzz2 : hSl H ≤ hSl s.heap + ((6 * (rE (g 2 q) - rS (g 2 q)))) := (by have z : 0 ≤ (6 * (rE (g 2 q) - rS (g 2 q))) := (by omega); omega)
      exact W.vret hx hb hr (fun t99 ht99 hW99 => ⟨⟨_, (w, (K296, B297, cs298, as299, wt300, wf301, vr302, hd303, dp304, rg305, ls306)), rfl, ⟨rfl, hz324, hz325, hz326, hz327, hO⟩, by rw [ht99]; exact hP, hD, by rw [ht99]; exact hzz1, by rw [ht99]; exact hzz2⟩, hS.F ht99⟩) hS.2.2 dX0_statement_241
    by_cases h328 : kd = 29
    · subst h328
      refine lv_tableIn (tgt := 136) (off := 100) hx hb dX0_statement_36 (by decide) (by decide) (by decide) (by decide) ?_
      refine lv_aload_n hx hb dX0_statement_136 rfl (lv_at hl 2 rfl) ?_
      refine lv_aload_n hx hb dX0_statement_137 rfl (lv_at hl 1 rfl) ?_
      have hO : OKP G h0 a (upd (upd (upd (upd (upd (upd (upd (upd (upd (upd (upd (upd (upd (upd (upd F 2 (nI sz)) 5 (nI cs)) 6 (nI rg)) 7 (nI hd)) 8 (nI dp)) 12 (nI vr)) 16 ls9) 5 (nI cs2)) 2 (nI sz)) 5 (nI cs2)) 6 (nI rg)) 7 (nI hd)) 8 (nI dp)) 12 (nI vr)) 16 ls9) (updR (updR (updR (updR (updR (updR R 2 (.ref pq)) 3 (.ref mq)) 4 (va_rf lo)) 2 (.ref pq)) 3 (.ref mq)) 4 (va_rf lo)) Z B2 J K w := hO.to rfl
      obtain ⟨_, qr332, hqr333⟩ := hO.2.1 24 _ (sg_24 G h0 a _ _ _ _ _)
      refine pn_V0 (G := G) (As := [.ref q]) (rest := []) hx hb hml hown hq hE hX pX0_al hP hD hS hA hl.1 (B_jump l G h0 a (upd (upd (upd (upd (upd (upd (upd (upd F 2 (nI sz)) 5 (nI cs)) 6 (nI rg)) 7 (nI hd)) 8 (nI dp)) 12 (nI vr)) 16 ls9) 5 (nI cs2)) (updR (updR (updR R 2 (.ref pq)) 3 (.ref mq)) 4 (va_rf lo)) Z B2 J K w pq dr ml nd nm cp it s9 q mq cs2 vr sz n hd dp rg ls9 lo g rk (by omega) (BdE.wp BdE.rfl hwp) (BdE.pt BdE.rfl hwp hps) (BdE.rko BdE.rfl hrk) (by omega) (by omega) hng2 hmq hqT hqL (by omega) (by omega) (by omega) (LpO.be BdE.rfl hlo) hO hl0) (gV pw_333 pw_334 pw_335 pw_63 pw_286) hV_X0_jumpStatement qr332 0 hqr333 rfl rfl rfl (Nat.le_of_ble_eq_true rfl) dX0_statement_138 ⟨(by show 0 + 1 ≤ ((rE (g 2 q) - rS (g 2 q)) + 1); omega), (by show 0 + 6 ≤ (6 * (rE (g 2 q) - rS (g 2 q)) + 6); omega)⟩ ⟨(by show (5 * n + 33) + 1 ≤ (5 * n + 50); omega), (by show 8 + (3 + 11) + (200 * n + 560) ≤ (200 * n + 1200); omega)⟩ (fun v331 u329 H locs hw330 hP hD hS => ?_) (fun ux ce9 q9 H9 locs9 hux hP9 hD9 hS9 hce hcv hcl => pb_out ux (ThQ.up (Thx.same (Thx.same (Thx.same (Thx.same (Thx.same (Thx.same (Thx.same (Thx.f (Bth.thx hbb2) (by omega)) rfl) rfl) rfl) rfl) rfl) rfl) rfl) (show RhX (updR (updR (updR R 2 (.ref pq)) 3 (.ref mq)) 4 (va_rf lo)) (updR (updR (updR (updR (updR (updR R 2 (.ref pq)) 3 (.ref mq)) 4 (va_rf lo)) 2 (.ref pq)) 3 (.ref mq)) 4 (va_rf lo)) from fun k9 hk9 => by unfold updR; simp only [show ¬ k9 = 1 by omega, show ¬ k9 = 2 by omega, show ¬ k9 = 3 by omega, show ¬ k9 = 4 by omega, if_false]) hux) hnt hlocks hce hcv hcl hP9 hD9 hS9 (by show 0 + 1 ≤ ((rE (g 2 q) - rS (g 2 q)) + 1); omega) (by show 0 + 6 ≤ (6 * (rE (g 2 q) - rS (g 2 q)) + 6); omega))
      obtain ⟨w, K334, B335, cs336, as337, wt338, wf339, vr340, hd341, dp342, rg343, ls344⟩ := u329
      obtain ⟨hw330, h345, h346, h347, h348, hO⟩ := hw330
      have h345 : BdE K K334 := h345
      have h346 : Bth B2 B335 := h346
      have h347 : cs336 ≤ 10000 ∧ rg343 ≤ 625 ∧ dp342 ≤ 1000 := h347
      have h348 : vr ≤ vr340 ∧ vr340 ≤ 30 ∧ hd341 + vr = hd + vr340 := h348
      obtain rfl : v331 = none := hw330
      have hf349 : K334.1 pq = 7 := (BdE.T h345 hp1 (by decide))
      have hf350 : K334.2.2.1 18 pq = some (a 1) := (BdE.C h345 (by rw [hp1]; decide) 18).trans hp2
      have hf351 : K334.2.2.1 14 pq = some dr := (BdE.C h345 (by rw [hp1]; decide) 14).trans hp3
      have hf352 : K334.1 dr = 8 := (BdE.T h345 hp4 (by decide))
      have hf353 : K334.2.2.1 15 pq = some ml := (BdE.C h345 (by rw [hp1]; decide) 15).trans hp5
      have hf354 : K334.1 ml = 5 := (BdE.T h345 hp6 (by decide))
      have hf355 : K334.2.1 24 pq = (nI nd) := (BdE.I h345 (by rw [hp1]; decide) (by decide) (by decide)).trans hp8
      have hf356 : K334.1 q = 1 := (BdE.T h345 hqT (by decide))
      have hf357 : K334.1 mq = 3 := (BdE.T h345 hmq (by decide))
      have hf358 : K334.2.1 0 q = 29 := (BdE.I h345 (by rw [hqT]; decide) (by decide) (by decide)).trans hkd
      have hO : OKP G h0 a (upd (upd (upd (upd (upd (upd (upd (upd (upd (upd F 2 (nI sz)) 5 (nI cs336)) 6 (nI rg343)) 7 (nI hd341)) 8 (nI dp342)) 12 (nI vr340)) 13 as337) 14 wt338) 15 wf339) 16 ls344) (updR (updR (updR R 2 (.ref pq)) 3 (.ref mq)) 4 (va_rf lo)) Z B335 J K334 w := hO.to rfl
      refine W.widen (k := 0) (n := 0) (by show 0 + 0 ≤ 0; omega) (by show 0 + 0 ≤ 0; omega) ?_
      refine W.eq (g2 := F0 m 141 ls []) rfl ?_
      have hbe359 := BdE.trans BdE.rfl h345
      have hbb360 : Bth B B335 := Bth.trans (show Thx (upd (upd (upd (upd (upd (upd (upd F 2 (nI sz)) 5 (nI cs)) 6 (nI rg)) 7 (nI hd)) 8 (nI dp)) 12 (nI vr)) 16 ls9) (upd (upd (upd (upd (upd (upd (upd (upd F 2 (nI sz)) 5 (nI cs)) 6 (nI rg)) 7 (nI hd)) 8 (nI dp)) 12 (nI vr)) 16 ls9) 5 (nI cs2)) B B2 from (Thx.f (Bth.thx hbb2) (by omega))).2 h346
      have hng361 : Nng (B335 18) := h346.2 hng2
      refine lv_goto (tgt := 241) hx hb dX0_statement_141 (by decide) ?_
      refine W_size (fun hz1 hz2 => ?_)
      refine vx_ret ?_
      have hz362 : BdE K K334 := hbe359
      have hz363 : Bth B B335 := (show Thx (upd (upd (upd (upd (upd (upd (upd F 2 (nI sz)) 5 (nI cs)) 6 (nI rg)) 7 (nI hd)) 8 (nI dp)) 12 (nI vr)) 16 ls9) (upd (upd (upd (upd (upd (upd (upd (upd (upd (upd (upd (upd (upd (upd (upd (upd F 2 (nI sz)) 5 (nI cs)) 6 (nI rg)) 7 (nI hd)) 8 (nI dp)) 12 (nI vr)) 16 ls9) 5 (nI cs336)) 6 (nI rg343)) 7 (nI hd341)) 8 (nI dp342)) 12 (nI vr340)) 13 as337) 14 wt338) 15 wf339) 16 ls344) B B335 from (Thx.f (Thx.f (Thx.f (Thx.f (Thx.f (Thx.f (Thx.f (Thx.f (Thx.f (Bth.thx hbb360) (by omega)) (by omega)) (by omega)) (by omega)) (by omega)) (by omega)) (by omega)) (by omega)) (by omega))).2
      have hz364 : cs336 ≤ 10000 ∧ rg343 ≤ 625 ∧ dp342 ≤ 1000 := (by omega)
      have hz365 : vr ≤ vr340 ∧ vr340 ≤ 30 ∧ hd341 + vr = hd + vr340 := (by omega)
      have hO : OKP G h0 a (upd (upd (upd (upd (upd (upd (upd (upd (upd (upd F 2 (nI sz)) 5 (nI cs336)) 6 (nI rg343)) 7 (nI hd341)) 8 (nI dp342)) 12 (nI vr340)) 13 as337) 14 wt338) 15 wf339) 16 ls344) (updR (updR (updR R 2 (.ref pq)) 3 (.ref mq)) 4 (va_rf lo)) Z B335 J K334 w := hO.to rfl
      refine W.widen (k := ((rE (g 2 q) - rS (g 2 q)) + 1)) (n := (6 * (rE (g 2 q) - rS (g 2 q)) + 6)) (by omega) (by omega) ?_
      have hzz1 : H.size ≤ s.heap.size + ((rE (g 2 q) - rS (g 2 q))) := (by have z : 0 ≤ (rE (g 2 q) - rS (g 2 q)) := (by omega); omega)
      have hzz2 : hSl H ≤ hSl s.heap + ((6 * (rE (g 2 q) - rS (g 2 q)))) := (by have z : 0 ≤ (6 * (rE (g 2 q) - rS (g 2 q))) := (by omega); omega)
      exact W.vret hx hb hr (fun t99 ht99 hW99 => ⟨⟨_, (w, (K334, B335, cs336, as337, wt338, wf339, vr340, hd341, dp342, rg343, ls344)), rfl, ⟨rfl, hz362, hz363, hz364, hz365, hO⟩, by rw [ht99]; exact hP, hD, by rw [ht99]; exact hzz1, by rw [ht99]; exact hzz2⟩, hS.F ht99⟩) hS.2.2 dX0_statement_241
    by_cases h366 : kd = 30
    · subst h366
      refine lv_tableIn (tgt := 136) (off := 100) hx hb dX0_statement_36 (by decide) (by decide) (by decide) (by decide) ?_
      refine lv_aload_n hx hb dX0_statement_136 rfl (lv_at hl 2 rfl) ?_
      refine lv_aload_n hx hb dX0_statement_137 rfl (lv_at hl 1 rfl) ?_
      have hO : OKP G h0 a (upd (upd (upd (upd (upd (upd (upd (upd (upd (upd (upd (upd (upd (upd (upd F 2 (nI sz)) 5 (nI cs)) 6 (nI rg)) 7 (nI hd)) 8 (nI dp)) 12 (nI vr)) 16 ls9) 5 (nI cs2)) 2 (nI sz)) 5 (nI cs2)) 6 (nI rg)) 7 (nI hd)) 8 (nI dp)) 12 (nI vr)) 16 ls9) (updR (updR (updR (updR (updR (updR R 2 (.ref pq)) 3 (.ref mq)) 4 (va_rf lo)) 2 (.ref pq)) 3 (.ref mq)) 4 (va_rf lo)) Z B2 J K w := hO.to rfl
      obtain ⟨_, qr370, hqr371⟩ := hO.2.1 24 _ (sg_24 G h0 a _ _ _ _ _)
      refine pn_V0 (G := G) (As := [.ref q]) (rest := []) hx hb hml hown hq hE hX pX0_al hP hD hS hA hl.1 (B_jump l G h0 a (upd (upd (upd (upd (upd (upd (upd (upd F 2 (nI sz)) 5 (nI cs)) 6 (nI rg)) 7 (nI hd)) 8 (nI dp)) 12 (nI vr)) 16 ls9) 5 (nI cs2)) (updR (updR (updR R 2 (.ref pq)) 3 (.ref mq)) 4 (va_rf lo)) Z B2 J K w pq dr ml nd nm cp it s9 q mq cs2 vr sz n hd dp rg ls9 lo g rk (by omega) (BdE.wp BdE.rfl hwp) (BdE.pt BdE.rfl hwp hps) (BdE.rko BdE.rfl hrk) (by omega) (by omega) hng2 hmq hqT hqL (by omega) (by omega) (by omega) (LpO.be BdE.rfl hlo) hO hl0) (gV pw_333 pw_334 pw_335 pw_63 pw_286) hV_X0_jumpStatement qr370 0 hqr371 rfl rfl rfl (Nat.le_of_ble_eq_true rfl) dX0_statement_138 ⟨(by show 0 + 1 ≤ ((rE (g 2 q) - rS (g 2 q)) + 1); omega), (by show 0 + 6 ≤ (6 * (rE (g 2 q) - rS (g 2 q)) + 6); omega)⟩ ⟨(by show (5 * n + 33) + 1 ≤ (5 * n + 50); omega), (by show 8 + (3 + 11) + (200 * n + 560) ≤ (200 * n + 1200); omega)⟩ (fun v369 u367 H locs hw368 hP hD hS => ?_) (fun ux ce9 q9 H9 locs9 hux hP9 hD9 hS9 hce hcv hcl => pb_out ux (ThQ.up (Thx.same (Thx.same (Thx.same (Thx.same (Thx.same (Thx.same (Thx.same (Thx.f (Bth.thx hbb2) (by omega)) rfl) rfl) rfl) rfl) rfl) rfl) rfl) (show RhX (updR (updR (updR R 2 (.ref pq)) 3 (.ref mq)) 4 (va_rf lo)) (updR (updR (updR (updR (updR (updR R 2 (.ref pq)) 3 (.ref mq)) 4 (va_rf lo)) 2 (.ref pq)) 3 (.ref mq)) 4 (va_rf lo)) from fun k9 hk9 => by unfold updR; simp only [show ¬ k9 = 1 by omega, show ¬ k9 = 2 by omega, show ¬ k9 = 3 by omega, show ¬ k9 = 4 by omega, if_false]) hux) hnt hlocks hce hcv hcl hP9 hD9 hS9 (by show 0 + 1 ≤ ((rE (g 2 q) - rS (g 2 q)) + 1); omega) (by show 0 + 6 ≤ (6 * (rE (g 2 q) - rS (g 2 q)) + 6); omega))
      obtain ⟨w, K372, B373, cs374, as375, wt376, wf377, vr378, hd379, dp380, rg381, ls382⟩ := u367
      obtain ⟨hw368, h383, h384, h385, h386, hO⟩ := hw368
      have h383 : BdE K K372 := h383
      have h384 : Bth B2 B373 := h384
      have h385 : cs374 ≤ 10000 ∧ rg381 ≤ 625 ∧ dp380 ≤ 1000 := h385
      have h386 : vr ≤ vr378 ∧ vr378 ≤ 30 ∧ hd379 + vr = hd + vr378 := h386
      obtain rfl : v369 = none := hw368
      have hf387 : K372.1 pq = 7 := (BdE.T h383 hp1 (by decide))
      have hf388 : K372.2.2.1 18 pq = some (a 1) := (BdE.C h383 (by rw [hp1]; decide) 18).trans hp2
      have hf389 : K372.2.2.1 14 pq = some dr := (BdE.C h383 (by rw [hp1]; decide) 14).trans hp3
      have hf390 : K372.1 dr = 8 := (BdE.T h383 hp4 (by decide))
      have hf391 : K372.2.2.1 15 pq = some ml := (BdE.C h383 (by rw [hp1]; decide) 15).trans hp5
      have hf392 : K372.1 ml = 5 := (BdE.T h383 hp6 (by decide))
      have hf393 : K372.2.1 24 pq = (nI nd) := (BdE.I h383 (by rw [hp1]; decide) (by decide) (by decide)).trans hp8
      have hf394 : K372.1 q = 1 := (BdE.T h383 hqT (by decide))
      have hf395 : K372.1 mq = 3 := (BdE.T h383 hmq (by decide))
      have hf396 : K372.2.1 0 q = 30 := (BdE.I h383 (by rw [hqT]; decide) (by decide) (by decide)).trans hkd
      have hO : OKP G h0 a (upd (upd (upd (upd (upd (upd (upd (upd (upd (upd F 2 (nI sz)) 5 (nI cs374)) 6 (nI rg381)) 7 (nI hd379)) 8 (nI dp380)) 12 (nI vr378)) 13 as375) 14 wt376) 15 wf377) 16 ls382) (updR (updR (updR R 2 (.ref pq)) 3 (.ref mq)) 4 (va_rf lo)) Z B373 J K372 w := hO.to rfl
      refine W.widen (k := 0) (n := 0) (by show 0 + 0 ≤ 0; omega) (by show 0 + 0 ≤ 0; omega) ?_
      refine W.eq (g2 := F0 m 141 ls []) rfl ?_
      have hbe397 := BdE.trans BdE.rfl h383
      have hbb398 : Bth B B373 := Bth.trans (show Thx (upd (upd (upd (upd (upd (upd (upd F 2 (nI sz)) 5 (nI cs)) 6 (nI rg)) 7 (nI hd)) 8 (nI dp)) 12 (nI vr)) 16 ls9) (upd (upd (upd (upd (upd (upd (upd (upd F 2 (nI sz)) 5 (nI cs)) 6 (nI rg)) 7 (nI hd)) 8 (nI dp)) 12 (nI vr)) 16 ls9) 5 (nI cs2)) B B2 from (Thx.f (Bth.thx hbb2) (by omega))).2 h384
      have hng399 : Nng (B373 18) := h384.2 hng2
      refine lv_goto (tgt := 241) hx hb dX0_statement_141 (by decide) ?_
      refine W_size (fun hz1 hz2 => ?_)
      refine vx_ret ?_
      have hz400 : BdE K K372 := hbe397
      have hz401 : Bth B B373 := (show Thx (upd (upd (upd (upd (upd (upd (upd F 2 (nI sz)) 5 (nI cs)) 6 (nI rg)) 7 (nI hd)) 8 (nI dp)) 12 (nI vr)) 16 ls9) (upd (upd (upd (upd (upd (upd (upd (upd (upd (upd (upd (upd (upd (upd (upd (upd F 2 (nI sz)) 5 (nI cs)) 6 (nI rg)) 7 (nI hd)) 8 (nI dp)) 12 (nI vr)) 16 ls9) 5 (nI cs374)) 6 (nI rg381)) 7 (nI hd379)) 8 (nI dp380)) 12 (nI vr378)) 13 as375) 14 wt376) 15 wf377) 16 ls382) B B373 from (Thx.f (Thx.f (Thx.f (Thx.f (Thx.f (Thx.f (Thx.f (Thx.f (Thx.f (Bth.thx hbb398) (by omega)) (by omega)) (by omega)) (by omega)) (by omega)) (by omega)) (by omega)) (by omega)) (by omega))).2
      have hz402 : cs374 ≤ 10000 ∧ rg381 ≤ 625 ∧ dp380 ≤ 1000 := (by omega)
      have hz403 : vr ≤ vr378 ∧ vr378 ≤ 30 ∧ hd379 + vr = hd + vr378 := (by omega)
      have hO : OKP G h0 a (upd (upd (upd (upd (upd (upd (upd (upd (upd (upd F 2 (nI sz)) 5 (nI cs374)) 6 (nI rg381)) 7 (nI hd379)) 8 (nI dp380)) 12 (nI vr378)) 13 as375) 14 wt376) 15 wf377) 16 ls382) (updR (updR (updR R 2 (.ref pq)) 3 (.ref mq)) 4 (va_rf lo)) Z B373 J K372 w := hO.to rfl
      refine W.widen (k := ((rE (g 2 q) - rS (g 2 q)) + 1)) (n := (6 * (rE (g 2 q) - rS (g 2 q)) + 6)) (by omega) (by omega) ?_
      have hzz1 : H.size ≤ s.heap.size + ((rE (g 2 q) - rS (g 2 q))) := (by have z : 0 ≤ (rE (g 2 q) - rS (g 2 q)) := (by omega); omega)
      have hzz2 : hSl H ≤ hSl s.heap + ((6 * (rE (g 2 q) - rS (g 2 q)))) := (by have z : 0 ≤ (6 * (rE (g 2 q) - rS (g 2 q))) := (by omega); omega)
      exact W.vret hx hb hr (fun t99 ht99 hW99 => ⟨⟨_, (w, (K372, B373, cs374, as375, wt376, wf377, vr378, hd379, dp380, rg381, ls382)), rfl, ⟨rfl, hz400, hz401, hz402, hz403, hO⟩, by rw [ht99]; exact hP, hD, by rw [ht99]; exact hzz1, by rw [ht99]; exact hzz2⟩, hS.F ht99⟩) hS.2.2 dX0_statement_241
    by_cases h404 : kd = 31
    · subst h404
      refine lv_tableIn (tgt := 144) (off := 108) hx hb dX0_statement_36 (by decide) (by decide) (by decide) (by decide) ?_
      obtain ⟨q1, hc0, ht0, hw0⟩ := NdO.ch hnd (f := 0) (by decide) (hnd.1.1 (by rw [hkd]; decide))
      have hv0 : 1 ≤ g 0 q1 ∧ g 0 q1 + 1 ≤ n := ⟨hw0.1, (by have z := hw0.2; omega)⟩
      refine lv_aload_n hx hb dX0_statement_144 rfl (lv_at hl 2 rfl) ?_
      refine lv_aload_n hx hb dX0_statement_145 rfl (lv_at hl 1 rfl) ?_
      have hO : OKP G h0 a (upd (upd (upd (upd (upd (upd (upd (upd (upd (upd (upd (upd (upd (upd (upd F 2 (nI sz)) 5 (nI cs)) 6 (nI rg)) 7 (nI hd)) 8 (nI dp)) 12 (nI vr)) 16 ls9) 5 (nI cs2)) 2 (nI sz)) 5 (nI cs2)) 6 (nI rg)) 7 (nI hd)) 8 (nI dp)) 12 (nI vr)) 16 ls9) (updR (updR (updR (updR (updR (updR R 2 (.ref pq)) 3 (.ref mq)) 4 (va_rf lo)) 2 (.ref pq)) 3 (.ref mq)) 4 (va_rf lo)) Z B2 J K w := hO.to rfl
      obtain ⟨_, qr408, hqr409⟩ := hO.2.1 24 _ (sg_24 G h0 a _ _ _ _ _)
      refine pn_V0 (G := G) (As := [.ref q]) (rest := []) hx hb hml hown hq hE hX pX0_al hP hD hS hA hl.1 (B_throw l G h0 a (upd (upd (upd (upd (upd (upd (upd (upd F 2 (nI sz)) 5 (nI cs)) 6 (nI rg)) 7 (nI hd)) 8 (nI dp)) 12 (nI vr)) 16 ls9) 5 (nI cs2)) (updR (updR (updR R 2 (.ref pq)) 3 (.ref mq)) 4 (va_rf lo)) Z B2 J K w pq dr ml nd nm cp it s9 q mq cs2 vr sz n q1 hd dp rg ls9 lo g rk (by omega) (BdE.wp BdE.rfl hwp) (BdE.pt BdE.rfl hwp hps) (BdE.rko BdE.rfl hrk) (by omega) (by omega) hng2 hmq hqT hqL hc0 ht0 hv0 (by omega) (by omega) (by omega) (LpO.be BdE.rfl hlo) (IhV.all l G _) hO hl0) (gV pw_336 pw_337 pw_338 pw_63 pw_287) hV_X0_throwStatement qr408 0 hqr409 rfl rfl rfl (Nat.le_of_ble_eq_true rfl) dX0_statement_146 ⟨(by show 0 + 1 ≤ ((rE (g 2 q) - rS (g 2 q)) + 1); omega), (by show 0 + 6 ≤ (6 * (rE (g 2 q) - rS (g 2 q)) + 6); omega)⟩ ⟨(by show (5 * n + 33) + 1 ≤ (5 * n + 50); omega), (by show 8 + (3 + 11) + (200 * n + 560) ≤ (200 * n + 1200); omega)⟩ (fun v407 u405 H locs hw406 hP hD hS => ?_) (fun ux ce9 q9 H9 locs9 hux hP9 hD9 hS9 hce hcv hcl => pb_out ux (ThQ.up (Thx.same (Thx.same (Thx.same (Thx.same (Thx.same (Thx.same (Thx.same (Thx.f (Bth.thx hbb2) (by omega)) rfl) rfl) rfl) rfl) rfl) rfl) rfl) (show RhX (updR (updR (updR R 2 (.ref pq)) 3 (.ref mq)) 4 (va_rf lo)) (updR (updR (updR (updR (updR (updR R 2 (.ref pq)) 3 (.ref mq)) 4 (va_rf lo)) 2 (.ref pq)) 3 (.ref mq)) 4 (va_rf lo)) from fun k9 hk9 => by unfold updR; simp only [show ¬ k9 = 1 by omega, show ¬ k9 = 2 by omega, show ¬ k9 = 3 by omega, show ¬ k9 = 4 by omega, if_false]) hux) hnt hlocks hce hcv hcl hP9 hD9 hS9 (by show 0 + 1 ≤ ((rE (g 2 q) - rS (g 2 q)) + 1); omega) (by show 0 + 6 ≤ (6 * (rE (g 2 q) - rS (g 2 q)) + 6); omega))
      obtain ⟨w, K410, B411, cs412, as413, wt414, wf415, vr416, hd417, dp418, rg419, ls420⟩ := u405
      obtain ⟨hw406, h421, h422, h423, h424, hO⟩ := hw406
      have h421 : BdE K K410 := h421
      have h422 : Bth B2 B411 := h422
      have h423 : cs412 ≤ 10000 ∧ rg419 ≤ 625 ∧ dp418 ≤ 1000 := h423
      have h424 : vr ≤ vr416 ∧ vr416 ≤ 30 ∧ hd417 + vr = hd + vr416 := h424
      obtain rfl : v407 = none := hw406
      have hf425 : K410.1 pq = 7 := (BdE.T h421 hp1 (by decide))
      have hf426 : K410.2.2.1 18 pq = some (a 1) := (BdE.C h421 (by rw [hp1]; decide) 18).trans hp2
      have hf427 : K410.2.2.1 14 pq = some dr := (BdE.C h421 (by rw [hp1]; decide) 14).trans hp3
      have hf428 : K410.1 dr = 8 := (BdE.T h421 hp4 (by decide))
      have hf429 : K410.2.2.1 15 pq = some ml := (BdE.C h421 (by rw [hp1]; decide) 15).trans hp5
      have hf430 : K410.1 ml = 5 := (BdE.T h421 hp6 (by decide))
      have hf431 : K410.2.1 24 pq = (nI nd) := (BdE.I h421 (by rw [hp1]; decide) (by decide) (by decide)).trans hp8
      have hf432 : K410.1 q = 1 := (BdE.T h421 hqT (by decide))
      have hf433 : K410.1 mq = 3 := (BdE.T h421 hmq (by decide))
      have hf434 : K410.2.1 0 q = 31 := (BdE.I h421 (by rw [hqT]; decide) (by decide) (by decide)).trans hkd
      have hf435 : K410.2.2.1 0 q = some q1 := (BdE.C h421 (by rw [hqT]; decide) 0).trans hc0
      have hf436 : K410.1 q1 = 1 := (BdE.T h421 ht0 (by decide))
      have hO : OKP G h0 a (upd (upd (upd (upd (upd (upd (upd (upd (upd (upd F 2 (nI sz)) 5 (nI cs412)) 6 (nI rg419)) 7 (nI hd417)) 8 (nI dp418)) 12 (nI vr416)) 13 as413) 14 wt414) 15 wf415) 16 ls420) (updR (updR (updR R 2 (.ref pq)) 3 (.ref mq)) 4 (va_rf lo)) Z B411 J K410 w := hO.to rfl
      refine W.widen (k := 0) (n := 0) (by show 0 + 0 ≤ 0; omega) (by show 0 + 0 ≤ 0; omega) ?_
      refine W.eq (g2 := F0 m 149 ls []) rfl ?_
      have hbe437 := BdE.trans BdE.rfl h421
      have hbb438 : Bth B B411 := Bth.trans (show Thx (upd (upd (upd (upd (upd (upd (upd F 2 (nI sz)) 5 (nI cs)) 6 (nI rg)) 7 (nI hd)) 8 (nI dp)) 12 (nI vr)) 16 ls9) (upd (upd (upd (upd (upd (upd (upd (upd F 2 (nI sz)) 5 (nI cs)) 6 (nI rg)) 7 (nI hd)) 8 (nI dp)) 12 (nI vr)) 16 ls9) 5 (nI cs2)) B B2 from (Thx.f (Bth.thx hbb2) (by omega))).2 h422
      have hng439 : Nng (B411 18) := h422.2 hng2
      refine lv_goto (tgt := 241) hx hb dX0_statement_149 (by decide) ?_
      refine W_size (fun hz1 hz2 => ?_)
      refine vx_ret ?_
      have hz440 : BdE K K410 := hbe437
      have hz441 : Bth B B411 := (show Thx (upd (upd (upd (upd (upd (upd (upd F 2 (nI sz)) 5 (nI cs)) 6 (nI rg)) 7 (nI hd)) 8 (nI dp)) 12 (nI vr)) 16 ls9) (upd (upd (upd (upd (upd (upd (upd (upd (upd (upd (upd (upd (upd (upd (upd (upd F 2 (nI sz)) 5 (nI cs)) 6 (nI rg)) 7 (nI hd)) 8 (nI dp)) 12 (nI vr)) 16 ls9) 5 (nI cs412)) 6 (nI rg419)) 7 (nI hd417)) 8 (nI dp418)) 12 (nI vr416)) 13 as413) 14 wt414) 15 wf415) 16 ls420) B B411 from (Thx.f (Thx.f (Thx.f (Thx.f (Thx.f (Thx.f (Thx.f (Thx.f (Thx.f (Bth.thx hbb438) (by omega)) (by omega)) (by omega)) (by omega)) (by omega)) (by omega)) (by omega)) (by omega)) (by omega))).2
      have hz442 : cs412 ≤ 10000 ∧ rg419 ≤ 625 ∧ dp418 ≤ 1000 := (by omega)
      have hz443 : vr ≤ vr416 ∧ vr416 ≤ 30 ∧ hd417 + vr = hd + vr416 := (by omega)
      have hO : OKP G h0 a (upd (upd (upd (upd (upd (upd (upd (upd (upd (upd F 2 (nI sz)) 5 (nI cs412)) 6 (nI rg419)) 7 (nI hd417)) 8 (nI dp418)) 12 (nI vr416)) 13 as413) 14 wt414) 15 wf415) 16 ls420) (updR (updR (updR R 2 (.ref pq)) 3 (.ref mq)) 4 (va_rf lo)) Z B411 J K410 w := hO.to rfl
      refine W.widen (k := ((rE (g 2 q) - rS (g 2 q)) + 1)) (n := (6 * (rE (g 2 q) - rS (g 2 q)) + 6)) (by omega) (by omega) ?_
      have hzz1 : H.size ≤ s.heap.size + ((rE (g 2 q) - rS (g 2 q))) := (by have z : 0 ≤ (rE (g 2 q) - rS (g 2 q)) := (by omega); omega)
      have hzz2 : hSl H ≤ hSl s.heap + ((6 * (rE (g 2 q) - rS (g 2 q)))) := (by have z : 0 ≤ (6 * (rE (g 2 q) - rS (g 2 q))) := (by omega); omega)
      exact W.vret hx hb hr (fun t99 ht99 hW99 => ⟨⟨_, (w, (K410, B411, cs412, as413, wt414, wf415, vr416, hd417, dp418, rg419, ls420)), rfl, ⟨rfl, hz440, hz441, hz442, hz443, hO⟩, by rw [ht99]; exact hP, hD, by rw [ht99]; exact hzz1, by rw [ht99]; exact hzz2⟩, hS.F ht99⟩) hS.2.2 dX0_statement_241
    by_cases h444 : kd = 32
    · subst h444
      refine lv_tableIn (tgt := 152) (off := 116) hx hb dX0_statement_36 (by decide) (by decide) (by decide) (by decide) ?_
      obtain ⟨q1, hc0, ht0, hw0⟩ := NdO.ch hnd (f := 0) (by decide) (hnd.1.1 (by rw [hkd]; decide))
      have hv0 : 1 ≤ g 0 q1 ∧ g 0 q1 + 1 ≤ n := ⟨hw0.1, (by have z := hw0.2; omega)⟩
      rcases hos2 : K.2.2.1 2 q with _ | q3
      · skip
        refine lv_aload_n hx hb dX0_statement_152 rfl (lv_at hl 2 rfl) ?_
        refine lv_aload_n hx hb dX0_statement_153 rfl (lv_at hl 1 rfl) ?_
        have hO : OKP G h0 a (upd (upd (upd (upd (upd (upd (upd (upd (upd (upd (upd (upd (upd (upd (upd F 2 (nI sz)) 5 (nI cs)) 6 (nI rg)) 7 (nI hd)) 8 (nI dp)) 12 (nI vr)) 16 ls9) 5 (nI cs2)) 2 (nI sz)) 5 (nI cs2)) 6 (nI rg)) 7 (nI hd)) 8 (nI dp)) 12 (nI vr)) 16 ls9) (updR (updR (updR (updR (updR (updR R 2 (.ref pq)) 3 (.ref mq)) 4 (va_rf lo)) 2 (.ref pq)) 3 (.ref mq)) 4 (va_rf lo)) Z B2 J K w := hO.to rfl
        obtain ⟨_, qr448, hqr449⟩ := hO.2.1 24 _ (sg_24 G h0 a _ _ _ _ _)
        refine pn_V0 (G := G) (As := [.ref q]) (rest := []) hx hb hml hown hq hE hX pX0_al hP hD hS hA hl.1 (B_tryN l G h0 a (upd (upd (upd (upd (upd (upd (upd (upd F 2 (nI sz)) 5 (nI cs)) 6 (nI rg)) 7 (nI hd)) 8 (nI dp)) 12 (nI vr)) 16 ls9) 5 (nI cs2)) (updR (updR (updR R 2 (.ref pq)) 3 (.ref mq)) 4 (va_rf lo)) Z B2 J K w pq dr ml nd nm cp it s9 q mq cs2 vr sz n q1 hd dp rg ls9 lo g rk (by omega) (BdE.wp BdE.rfl hwp) (BdE.pt BdE.rfl hwp hps) (BdE.rko BdE.rfl hrk) (by omega) (by omega) hng2 hmq hqT hqL hc0 ht0 hv0 (by omega) (by omega) (by omega) (LpO.be BdE.rfl hlo) hkd hos2 ist (IhV.all l G _) hO hl0) (gV pw_339 pw_340 pw_341 pw_63 pw_348) hV_X0_tryStatement qr448 0 hqr449 rfl rfl rfl (Nat.le_of_ble_eq_true rfl) dX0_statement_154 ⟨(by show 0 + ((rE (g 2 q) - rS (g 2 q)) + 1) ≤ ((rE (g 2 q) - rS (g 2 q)) + 1); omega), (by show 0 + (6 * (rE (g 2 q) - rS (g 2 q)) + 6) ≤ (6 * (rE (g 2 q) - rS (g 2 q)) + 6); omega)⟩ ⟨(by show (5 * n + 46) + 1 ≤ (5 * n + 50); omega), (by show 8 + (11 + 11) + (200 * n + 1120) ≤ (200 * n + 1200); omega)⟩ (fun v447 u445 H locs hw446 hP hD hS => ?_) (fun ux ce9 q9 H9 locs9 hux hP9 hD9 hS9 hce hcv hcl => pb_out ux (ThQ.up (Thx.same (Thx.same (Thx.same (Thx.same (Thx.same (Thx.same (Thx.same (Thx.f (Bth.thx hbb2) (by omega)) rfl) rfl) rfl) rfl) rfl) rfl) rfl) (show RhX (updR (updR (updR R 2 (.ref pq)) 3 (.ref mq)) 4 (va_rf lo)) (updR (updR (updR (updR (updR (updR R 2 (.ref pq)) 3 (.ref mq)) 4 (va_rf lo)) 2 (.ref pq)) 3 (.ref mq)) 4 (va_rf lo)) from fun k9 hk9 => by unfold updR; simp only [show ¬ k9 = 1 by omega, show ¬ k9 = 2 by omega, show ¬ k9 = 3 by omega, show ¬ k9 = 4 by omega, if_false]) hux) hnt hlocks hce hcv hcl hP9 hD9 hS9 (by show 0 + ((rE (g 2 q) - rS (g 2 q)) + 1) ≤ ((rE (g 2 q) - rS (g 2 q)) + 1); omega) (by show 0 + (6 * (rE (g 2 q) - rS (g 2 q)) + 6) ≤ (6 * (rE (g 2 q) - rS (g 2 q)) + 6); omega))
        obtain ⟨w, K450, B451, cs452, as453, wt454, wf455, dp456, rg457, ls458⟩ := u445
        obtain ⟨hw446, h459, h460, h461, hO⟩ := hw446
        have h459 : BdE K K450 := h459
        have h460 : Bth B2 B451 := h460
        have h461 : cs452 ≤ 10000 ∧ rg457 ≤ 625 ∧ dp456 ≤ 1000 := h461
        obtain rfl : v447 = none := hw446
        have hf462 : K450.1 pq = 7 := (BdE.T h459 hp1 (by decide))
        have hf463 : K450.2.2.1 18 pq = some (a 1) := (BdE.C h459 (by rw [hp1]; decide) 18).trans hp2
        have hf464 : K450.2.2.1 14 pq = some dr := (BdE.C h459 (by rw [hp1]; decide) 14).trans hp3
        have hf465 : K450.1 dr = 8 := (BdE.T h459 hp4 (by decide))
        have hf466 : K450.2.2.1 15 pq = some ml := (BdE.C h459 (by rw [hp1]; decide) 15).trans hp5
        have hf467 : K450.1 ml = 5 := (BdE.T h459 hp6 (by decide))
        have hf468 : K450.2.1 24 pq = (nI nd) := (BdE.I h459 (by rw [hp1]; decide) (by decide) (by decide)).trans hp8
        have hf469 : K450.1 q = 1 := (BdE.T h459 hqT (by decide))
        have hf470 : K450.1 mq = 3 := (BdE.T h459 hmq (by decide))
        have hf471 : K450.2.1 0 q = 32 := (BdE.I h459 (by rw [hqT]; decide) (by decide) (by decide)).trans hkd
        have hf472 : K450.2.2.1 0 q = some q1 := (BdE.C h459 (by rw [hqT]; decide) 0).trans hc0
        have hf473 : K450.1 q1 = 1 := (BdE.T h459 ht0 (by decide))
        have hf474 : K450.2.2.1 2 q = none := (BdE.C h459 (by rw [hqT]; decide) 2).trans hos2
        have hO : OKP G h0 a (upd (upd (upd (upd (upd (upd (upd (upd (upd (upd F 2 (nI sz)) 5 (nI cs452)) 6 (nI rg457)) 7 (nI hd)) 8 (nI dp456)) 12 (nI vr)) 13 as453) 14 wt454) 15 wf455) 16 ls458) (updR (updR (updR R 2 (.ref pq)) 3 (.ref mq)) 4 (va_rf lo)) Z B451 J K450 w := hO.to rfl
        refine W.widen (k := (rE (g 2 q) - rS (g 2 q))) (n := (6 * (rE (g 2 q) - rS (g 2 q)))) (by show 0 + (rE (g 2 q) - rS (g 2 q)) ≤ (rE (g 2 q) - rS (g 2 q)); omega) (by show 0 + (6 * (rE (g 2 q) - rS (g 2 q))) ≤ (6 * (rE (g 2 q) - rS (g 2 q))); omega) ?_
        refine W.eq (g2 := F0 m 157 ls []) rfl ?_
        have hbe475 := BdE.trans BdE.rfl h459
        have hbb476 : Bth B B451 := Bth.trans (show Thx (upd (upd (upd (upd (upd (upd (upd F 2 (nI sz)) 5 (nI cs)) 6 (nI rg)) 7 (nI hd)) 8 (nI dp)) 12 (nI vr)) 16 ls9) (upd (upd (upd (upd (upd (upd (upd (upd F 2 (nI sz)) 5 (nI cs)) 6 (nI rg)) 7 (nI hd)) 8 (nI dp)) 12 (nI vr)) 16 ls9) 5 (nI cs2)) B B2 from (Thx.f (Bth.thx hbb2) (by omega))).2 h460
        have hng477 : Nng (B451 18) := h460.2 hng2
        refine lv_goto (tgt := 241) hx hb dX0_statement_157 (by decide) ?_
        refine W_size (fun hz1 hz2 => ?_)
        refine vx_ret ?_
        have hz478 : BdE K K450 := hbe475
        have hz479 : Bth B B451 := (show Thx (upd (upd (upd (upd (upd (upd (upd F 2 (nI sz)) 5 (nI cs)) 6 (nI rg)) 7 (nI hd)) 8 (nI dp)) 12 (nI vr)) 16 ls9) (upd (upd (upd (upd (upd (upd (upd (upd (upd (upd (upd (upd (upd (upd F 2 (nI sz)) 5 (nI cs)) 6 (nI rg)) 7 (nI hd)) 8 (nI dp)) 12 (nI vr)) 16 ls9) 5 (nI cs452)) 6 (nI rg457)) 8 (nI dp456)) 13 as453) 14 wt454) 15 wf455) 16 ls458) B B451 from (Thx.f (Thx.f (Thx.f (Thx.f (Thx.f (Thx.f (Thx.f (Bth.thx hbb476) (by omega)) (by omega)) (by omega)) (by omega)) (by omega)) (by omega)) (by omega))).2
        have hz480 : cs452 ≤ 10000 ∧ rg457 ≤ 625 ∧ dp456 ≤ 1000 := (by omega)
        have hz481 : vr ≤ vr ∧ vr ≤ 30 ∧ hd + vr = hd + vr := (by omega)
        have hO : OKP G h0 a (upd (upd (upd (upd (upd (upd (upd (upd (upd (upd F 2 (nI sz)) 5 (nI cs452)) 6 (nI rg457)) 7 (nI hd)) 8 (nI dp456)) 12 (nI vr)) 13 as453) 14 wt454) 15 wf455) 16 ls458) (updR (updR (updR R 2 (.ref pq)) 3 (.ref mq)) 4 (va_rf lo)) Z B451 J K450 w := hO.to rfl
        refine W.widen (k := ((rE (g 2 q) - rS (g 2 q)) + 1)) (n := (6 * (rE (g 2 q) - rS (g 2 q)) + 6)) (by omega) (by omega) ?_
        have hzz1 : H.size ≤ s.heap.size + ((rE (g 2 q) - rS (g 2 q))) := (by have z : (rE (g 2 q) - rS (g 2 q)) ≤ (rE (g 2 q) - rS (g 2 q)) := (by omega); omega)
        have hzz2 : hSl H ≤ hSl s.heap + ((6 * (rE (g 2 q) - rS (g 2 q)))) := (by have z : (6 * (rE (g 2 q) - rS (g 2 q))) ≤ (6 * (rE (g 2 q) - rS (g 2 q))) := (by omega); omega)
        exact W.vret hx hb hr (fun t99 ht99 hW99 => ⟨⟨_, (w, (K450, B451, cs452, as453, wt454, wf455, vr, hd, dp456, rg457, ls458)), rfl, ⟨rfl, hz478, hz479, hz480, hz481, hO⟩, by rw [ht99]; exact hP, hD, by rw [ht99]; exact hzz1, by rw [ht99]; exact hzz2⟩, hS.F ht99⟩) hS.2.2 dX0_statement_241
      · skip
        have hcz := hnd.2.1 2 q3 (by decide) hos2
        have ht2 := hcz.1
        have hv2 : 1 ≤ g 0 q3 ∧ g 0 q3 + 1 ≤ n := ⟨hcz.2.1, (by have z := hcz.2.2.1; omega)⟩
        refine lv_aload_n hx hb dX0_statement_152 rfl (lv_at hl 2 rfl) ?_
        refine lv_aload_n hx hb dX0_statement_153 rfl (lv_at hl 1 rfl) ?_
        have hO : OKP G h0 a (upd (upd (upd (upd (upd (upd (upd (upd (upd (upd (upd (upd (upd (upd (upd F 2 (nI sz)) 5 (nI cs)) 6 (nI rg)) 7 (nI hd)) 8 (nI dp)) 12 (nI vr)) 16 ls9) 5 (nI cs2)) 2 (nI sz)) 5 (nI cs2)) 6 (nI rg)) 7 (nI hd)) 8 (nI dp)) 12 (nI vr)) 16 ls9) (updR (updR (updR (updR (updR (updR R 2 (.ref pq)) 3 (.ref mq)) 4 (va_rf lo)) 2 (.ref pq)) 3 (.ref mq)) 4 (va_rf lo)) Z B2 J K w := hO.to rfl
        obtain ⟨_, qr485, hqr486⟩ := hO.2.1 24 _ (sg_24 G h0 a _ _ _ _ _)
        refine pn_V0 (G := G) (As := [.ref q]) (rest := []) hx hb hml hown hq hE hX pX0_al hP hD hS hA hl.1 (B_tryL l G h0 a (upd (upd (upd (upd (upd (upd (upd (upd F 2 (nI sz)) 5 (nI cs)) 6 (nI rg)) 7 (nI hd)) 8 (nI dp)) 12 (nI vr)) 16 ls9) 5 (nI cs2)) (updR (updR (updR R 2 (.ref pq)) 3 (.ref mq)) 4 (va_rf lo)) Z B2 J K w pq dr ml nd nm cp it s9 q mq cs2 vr sz n q1 q3 hd dp rg ls9 lo g rk (by omega) (BdE.wp BdE.rfl hwp) (BdE.pt BdE.rfl hwp hps) (BdE.rko BdE.rfl hrk) (by omega) (by omega) hng2 hmq hqT hqL hc0 ht0 hv0 hos2 ht2 hv2 (by omega) (by omega) (by omega) (LpO.be BdE.rfl hlo) hkd ist (IhV.all l G _) hO hl0) (gV pw_339 pw_340 pw_341 pw_63 pw_348) hV_X0_tryStatement qr485 0 hqr486 rfl rfl rfl (Nat.le_of_ble_eq_true rfl) dX0_statement_154 ⟨(by show 0 + ((rE (g 2 q) - rS (g 2 q)) + 1) ≤ ((rE (g 2 q) - rS (g 2 q)) + 1); omega), (by show 0 + (6 * (rE (g 2 q) - rS (g 2 q)) + 6) ≤ (6 * (rE (g 2 q) - rS (g 2 q)) + 6); omega)⟩ ⟨(by show (5 * n + 46) + 1 ≤ (5 * n + 50); omega), (by show 8 + (11 + 11) + (200 * n + 1120) ≤ (200 * n + 1200); omega)⟩ (fun v484 u482 H locs hw483 hP hD hS => ?_) (fun ux ce9 q9 H9 locs9 hux hP9 hD9 hS9 hce hcv hcl => pb_out ux (ThQ.up (Thx.same (Thx.same (Thx.same (Thx.same (Thx.same (Thx.same (Thx.same (Thx.f (Bth.thx hbb2) (by omega)) rfl) rfl) rfl) rfl) rfl) rfl) rfl) (show RhX (updR (updR (updR R 2 (.ref pq)) 3 (.ref mq)) 4 (va_rf lo)) (updR (updR (updR (updR (updR (updR R 2 (.ref pq)) 3 (.ref mq)) 4 (va_rf lo)) 2 (.ref pq)) 3 (.ref mq)) 4 (va_rf lo)) from fun k9 hk9 => by unfold updR; simp only [show ¬ k9 = 1 by omega, show ¬ k9 = 2 by omega, show ¬ k9 = 3 by omega, show ¬ k9 = 4 by omega, if_false]) hux) hnt hlocks hce hcv hcl hP9 hD9 hS9 (by show 0 + ((rE (g 2 q) - rS (g 2 q)) + 1) ≤ ((rE (g 2 q) - rS (g 2 q)) + 1); omega) (by show 0 + (6 * (rE (g 2 q) - rS (g 2 q)) + 6) ≤ (6 * (rE (g 2 q) - rS (g 2 q)) + 6); omega))
        obtain ⟨w, K487, B488, cs489, as490, wt491, wf492, dp493, rg494, ls495⟩ := u482
        obtain ⟨hw483, h496, h497, h498, hO⟩ := hw483
        have h496 : BdE K K487 := h496
        have h497 : Bth B2 B488 := h497
        have h498 : cs489 ≤ 10000 ∧ rg494 ≤ 625 ∧ dp493 ≤ 1000 := h498
        obtain rfl : v484 = none := hw483
        have hf499 : K487.1 pq = 7 := (BdE.T h496 hp1 (by decide))
        have hf500 : K487.2.2.1 18 pq = some (a 1) := (BdE.C h496 (by rw [hp1]; decide) 18).trans hp2
        have hf501 : K487.2.2.1 14 pq = some dr := (BdE.C h496 (by rw [hp1]; decide) 14).trans hp3
        have hf502 : K487.1 dr = 8 := (BdE.T h496 hp4 (by decide))
        have hf503 : K487.2.2.1 15 pq = some ml := (BdE.C h496 (by rw [hp1]; decide) 15).trans hp5
        have hf504 : K487.1 ml = 5 := (BdE.T h496 hp6 (by decide))
        have hf505 : K487.2.1 24 pq = (nI nd) := (BdE.I h496 (by rw [hp1]; decide) (by decide) (by decide)).trans hp8
        have hf506 : K487.1 q = 1 := (BdE.T h496 hqT (by decide))
        have hf507 : K487.1 mq = 3 := (BdE.T h496 hmq (by decide))
        have hf508 : K487.2.1 0 q = 32 := (BdE.I h496 (by rw [hqT]; decide) (by decide) (by decide)).trans hkd
        have hf509 : K487.2.2.1 0 q = some q1 := (BdE.C h496 (by rw [hqT]; decide) 0).trans hc0
        have hf510 : K487.1 q1 = 1 := (BdE.T h496 ht0 (by decide))
        have hf511 : K487.2.2.1 2 q = some q3 := (BdE.C h496 (by rw [hqT]; decide) 2).trans hos2
        have hf512 : K487.1 q3 = 1 := (BdE.T h496 ht2 (by decide))
        have hO : OKP G h0 a (upd (upd (upd (upd (upd (upd (upd (upd (upd (upd F 2 (nI sz)) 5 (nI cs489)) 6 (nI rg494)) 7 (nI hd)) 8 (nI dp493)) 12 (nI vr)) 13 as490) 14 wt491) 15 wf492) 16 ls495) (updR (updR (updR R 2 (.ref pq)) 3 (.ref mq)) 4 (va_rf lo)) Z B488 J K487 w := hO.to rfl
        refine W.widen (k := (rE (g 2 q) - rS (g 2 q))) (n := (6 * (rE (g 2 q) - rS (g 2 q)))) (by show 0 + (rE (g 2 q) - rS (g 2 q)) ≤ (rE (g 2 q) - rS (g 2 q)); omega) (by show 0 + (6 * (rE (g 2 q) - rS (g 2 q))) ≤ (6 * (rE (g 2 q) - rS (g 2 q))); omega) ?_
        refine W.eq (g2 := F0 m 157 ls []) rfl ?_
        have hbe513 := BdE.trans BdE.rfl h496
        have hbb514 : Bth B B488 := Bth.trans (show Thx (upd (upd (upd (upd (upd (upd (upd F 2 (nI sz)) 5 (nI cs)) 6 (nI rg)) 7 (nI hd)) 8 (nI dp)) 12 (nI vr)) 16 ls9) (upd (upd (upd (upd (upd (upd (upd (upd F 2 (nI sz)) 5 (nI cs)) 6 (nI rg)) 7 (nI hd)) 8 (nI dp)) 12 (nI vr)) 16 ls9) 5 (nI cs2)) B B2 from (Thx.f (Bth.thx hbb2) (by omega))).2 h497
        have hng515 : Nng (B488 18) := h497.2 hng2
        refine lv_goto (tgt := 241) hx hb dX0_statement_157 (by decide) ?_
        refine W_size (fun hz1 hz2 => ?_)
        refine vx_ret ?_
        have hz516 : BdE K K487 := hbe513
        have hz517 : Bth B B488 := (show Thx (upd (upd (upd (upd (upd (upd (upd F 2 (nI sz)) 5 (nI cs)) 6 (nI rg)) 7 (nI hd)) 8 (nI dp)) 12 (nI vr)) 16 ls9) (upd (upd (upd (upd (upd (upd (upd (upd (upd (upd (upd (upd (upd (upd F 2 (nI sz)) 5 (nI cs)) 6 (nI rg)) 7 (nI hd)) 8 (nI dp)) 12 (nI vr)) 16 ls9) 5 (nI cs489)) 6 (nI rg494)) 8 (nI dp493)) 13 as490) 14 wt491) 15 wf492) 16 ls495) B B488 from (Thx.f (Thx.f (Thx.f (Thx.f (Thx.f (Thx.f (Thx.f (Bth.thx hbb514) (by omega)) (by omega)) (by omega)) (by omega)) (by omega)) (by omega)) (by omega))).2
        have hz518 : cs489 ≤ 10000 ∧ rg494 ≤ 625 ∧ dp493 ≤ 1000 := (by omega)
        have hz519 : vr ≤ vr ∧ vr ≤ 30 ∧ hd + vr = hd + vr := (by omega)
        have hO : OKP G h0 a (upd (upd (upd (upd (upd (upd (upd (upd (upd (upd F 2 (nI sz)) 5 (nI cs489)) 6 (nI rg494)) 7 (nI hd)) 8 (nI dp493)) 12 (nI vr)) 13 as490) 14 wt491) 15 wf492) 16 ls495) (updR (updR (updR R 2 (.ref pq)) 3 (.ref mq)) 4 (va_rf lo)) Z B488 J K487 w := hO.to rfl
        refine W.widen (k := ((rE (g 2 q) - rS (g 2 q)) + 1)) (n := (6 * (rE (g 2 q) - rS (g 2 q)) + 6)) (by omega) (by omega) ?_
        have hzz1 : H.size ≤ s.heap.size + ((rE (g 2 q) - rS (g 2 q))) := (by have z : (rE (g 2 q) - rS (g 2 q)) ≤ (rE (g 2 q) - rS (g 2 q)) := (by omega); omega)
        have hzz2 : hSl H ≤ hSl s.heap + ((6 * (rE (g 2 q) - rS (g 2 q)))) := (by have z : (6 * (rE (g 2 q) - rS (g 2 q))) ≤ (6 * (rE (g 2 q) - rS (g 2 q))) := (by omega); omega)
        exact W.vret hx hb hr (fun t99 ht99 hW99 => ⟨⟨_, (w, (K487, B488, cs489, as490, wt491, wf492, vr, hd, dp493, rg494, ls495)), rfl, ⟨rfl, hz516, hz517, hz518, hz519, hO⟩, by rw [ht99]; exact hP, hD, by rw [ht99]; exact hzz1, by rw [ht99]; exact hzz2⟩, hS.F ht99⟩) hS.2.2 dX0_statement_241
    by_cases h520 : kd = 33
    · subst h520
      refine lv_tableIn (tgt := 183) (off := 147) hx hb dX0_statement_36 (by decide) (by decide) (by decide) (by decide) ?_
      obtain ⟨q1, hc0, ht0, hw0⟩ := NdO.ch hnd (f := 0) (by decide) (hnd.1.1 (by rw [hkd]; decide))
      have hv0 : 1 ≤ g 0 q1 ∧ g 0 q1 + 1 ≤ n := ⟨hw0.1, (by have z := hw0.2; omega)⟩
      refine lv_aload_n hx hb dX0_statement_183 rfl (lv_at hl 2 rfl) ?_
      refine lv_aload_n hx hb dX0_statement_184 rfl (lv_at hl 1 rfl) ?_
      refine p_get (v := .ref q1) (C := RX7) (Tc := TX7) (N := 11) (ci := 13) hx hb hq pin_wsX70 hown hE hP hO (by rw [hqT]; decide) (rep_1 hqT) rfl 6 (by decide) (hq _ pw_180) (fun _ h9 => h9) (congrArg (fun z => some (va_rf z)) hc0) dX0_statement_185 ?_
      refine lv_aload_n hx hb dX0_statement_188 rfl (lv_at hl 2 rfl) ?_
      refine lv_aload_n hx hb dX0_statement_189 rfl (lv_at hl 1 rfl) ?_
      refine p_get (v := .ref q1) (C := RX7) (Tc := TX7) (N := 11) (ci := 13) hx hb hq pin_wsX70 hown hE hP hO (by rw [hqT]; decide) (rep_1 hqT) rfl 6 (by decide) (hq _ pw_180) (fun _ h9 => h9) (congrArg (fun z => some (va_rf z)) hc0) dX0_statement_190 ?_
      have hO : OKP G h0 a (upd (upd (upd (upd (upd (upd (upd (upd (upd (upd (upd F 2 (nI sz)) 5 (nI cs)) 6 (nI rg)) 7 (nI hd)) 8 (nI dp)) 12 (nI vr)) 16 ls9) 5 (nI cs2)) 2 (nI sz)) 5 (nI cs2)) 12 (nI vr)) (updR (updR (updR (updR (updR R 2 (.ref pq)) 3 (.ref mq)) 4 (va_rf lo)) 2 (.ref pq)) 3 (.ref mq)) Z B2 J K w := hO.to rfl
      obtain ⟨_, qr524, hqr525⟩ := hO.2.1 24 _ (sg_24 G h0 a _ _ _ _ _)
      refine pn_V0 (G := G) (As := [.ref q1]) (rest := [.ref q1, .ref (a 4)]) hx hb hml hown hq hE hX pX0_al hP hD hS hA hl.1 ((ihv (by omega)) h0 a (upd (upd (upd (upd (upd (upd (upd (upd F 2 (nI sz)) 5 (nI cs)) 6 (nI rg)) 7 (nI hd)) 8 (nI dp)) 12 (nI vr)) 16 ls9) 5 (nI cs2)) (updR (updR (updR R 2 (.ref pq)) 3 (.ref mq)) 4 (va_rf lo)) Z B2 J K w pq dr ml nd nm cp it s9 q1 mq cs2 vr sz g rk (by omega) (BdE.wp BdE.rfl hwp) (BdE.pt BdE.rfl hwp hps) (BdE.rko BdE.rfl hrk) (by omega) (by omega) hng2 hmq ht0 ⟨hv0.1, (by have z9 := hv0; omega)⟩ hO hl0) (gV pw_173 pw_174 pw_175 pw_63 pw_224) hV_X0_value qr524 0 hqr525 rfl rfl rfl (Nat.le_of_ble_eq_true rfl) dX0_statement_193 ⟨(by show 0 + 1 ≤ ((rE (g 2 q) - rS (g 2 q)) + 1); omega), (by show 0 + 6 ≤ (6 * (rE (g 2 q) - rS (g 2 q)) + 6); omega)⟩ ⟨(by show (5 * (n - 1) + 34) + 1 ≤ (5 * n + 50); omega), (by show 8 + (3 + 11) + (200 * (n - 1) + 600) ≤ (200 * n + 1200); omega)⟩ (fun v523 u521 H locs hw522 hP hD hS => ?_) (fun ux ce9 q9 H9 locs9 hux hP9 hD9 hS9 hce hcv hcl => pb_out ux (ThQ.up (Thx.same (Thx.same (Thx.same (Thx.f (Bth.thx hbb2) (by omega)) rfl) rfl) rfl) (show RhX (updR (updR (updR R 2 (.ref pq)) 3 (.ref mq)) 4 (va_rf lo)) (updR (updR (updR (updR (updR R 2 (.ref pq)) 3 (.ref mq)) 4 (va_rf lo)) 2 (.ref pq)) 3 (.ref mq)) from fun k9 hk9 => by unfold updR; simp only [show ¬ k9 = 1 by omega, show ¬ k9 = 2 by omega, show ¬ k9 = 3 by omega, show ¬ k9 = 4 by omega, if_false]) hux) hnt hlocks hce hcv hcl hP9 hD9 hS9 (by show 0 + 1 ≤ ((rE (g 2 q) - rS (g 2 q)) + 1); omega) (by show 0 + 6 ≤ (6 * (rE (g 2 q) - rS (g 2 q)) + 6); omega))
      obtain ⟨w, K526, B527, cs528, as529, wt530, wf531, r532⟩ := u521
      obtain ⟨hw522, h533, h534, h535, hO⟩ := hw522
      have h533 : BdE K K526 := h533
      have h534 : Bth B2 B527 := h534
      have h535 : cs528 ≤ 10000 := h535
      obtain rfl : v523 = some (.int r532) := hw522
      have hf536 : K526.1 pq = 7 := (BdE.T h533 hp1 (by decide))
      have hf537 : K526.2.2.1 18 pq = some (a 1) := (BdE.C h533 (by rw [hp1]; decide) 18).trans hp2
      have hf538 : K526.2.2.1 14 pq = some dr := (BdE.C h533 (by rw [hp1]; decide) 14).trans hp3
      have hf539 : K526.1 dr = 8 := (BdE.T h533 hp4 (by decide))
      have hf540 : K526.2.2.1 15 pq = some ml := (BdE.C h533 (by rw [hp1]; decide) 15).trans hp5
      have hf541 : K526.1 ml = 5 := (BdE.T h533 hp6 (by decide))
      have hf542 : K526.2.1 24 pq = (nI nd) := (BdE.I h533 (by rw [hp1]; decide) (by decide) (by decide)).trans hp8
      have hf543 : K526.1 q = 1 := (BdE.T h533 hqT (by decide))
      have hf544 : K526.1 mq = 3 := (BdE.T h533 hmq (by decide))
      have hf545 : K526.2.1 0 q = 33 := (BdE.I h533 (by rw [hqT]; decide) (by decide) (by decide)).trans hkd
      have hf546 : K526.2.2.1 0 q = some q1 := (BdE.C h533 (by rw [hqT]; decide) 0).trans hc0
      have hf547 : K526.1 q1 = 1 := (BdE.T h533 ht0 (by decide))
      have hO : OKP G h0 a (upd (upd (upd (upd (upd (upd (upd (upd (upd (upd F 2 (nI sz)) 5 (nI cs528)) 6 (nI rg)) 7 (nI hd)) 8 (nI dp)) 12 (nI vr)) 13 as529) 14 wt530) 15 wf531) 16 ls9) (updR (updR (updR R 2 (.ref pq)) 3 (.ref mq)) 4 (va_rf lo)) Z B527 J K526 w := hO.to rfl
      refine W.widen (k := 0) (n := 0) (by show 0 + 0 ≤ 0; omega) (by show 0 + 0 ≤ 0; omega) ?_
      refine W.eq (g2 := F0 m 196 ls [.int r532, .ref q1, .ref (a 4)]) rfl ?_
      have hbe548 := BdE.trans BdE.rfl h533
      have hbb549 : Bth B B527 := Bth.trans (show Thx (upd (upd (upd (upd (upd (upd (upd F 2 (nI sz)) 5 (nI cs)) 6 (nI rg)) 7 (nI hd)) 8 (nI dp)) 12 (nI vr)) 16 ls9) (upd (upd (upd (upd (upd (upd (upd (upd F 2 (nI sz)) 5 (nI cs)) 6 (nI rg)) 7 (nI hd)) 8 (nI dp)) 12 (nI vr)) 16 ls9) 5 (nI cs2)) B B2 from (Thx.f (Bth.thx hbb2) (by omega))).2 h534
      have hng550 : Nng (B527 18) := h534.2 hng2
      refine lv_bipush (v := 60) hx hb dX0_statement_196 (by decide) ?_
      have hO : OKP G h0 a (upd (upd (upd (upd (upd (upd (upd (upd (upd (upd (upd (upd F 2 (nI sz)) 5 (nI cs)) 6 (nI rg)) 7 (nI hd)) 8 (nI dp)) 12 (nI vr)) 16 ls9) 5 (nI cs528)) 13 as529) 14 wt530) 15 wf531) 2 (nI sz)) (updR (updR (updR (updR R 2 (.ref pq)) 3 (.ref mq)) 4 (va_rf lo)) 2 (.ref pq)) Z B527 J K526 w := hO.to rfl
      obtain ⟨_, qr554, hqr555⟩ := hO.2.1 24 _ (sg_24 G h0 a _ _ _ _ _)
      refine pn_V0 (G := G) (As := [.ref q1, .int r532, .int 60]) (rest := []) hx hb hml hown hq hE hX pX0_al hP hD hS hA hl.1 (B_fit l G h0 a (upd (upd (upd (upd (upd (upd (upd (upd (upd (upd (upd F 2 (nI sz)) 5 (nI cs)) 6 (nI rg)) 7 (nI hd)) 8 (nI dp)) 12 (nI vr)) 16 ls9) 5 (nI cs528)) 13 as529) 14 wt530) 15 wf531) (updR (updR (updR R 2 (.ref pq)) 3 (.ref mq)) 4 (va_rf lo)) Z B527 J K526 w pq dr ml nd q1 sz r532 60 g (by omega) (BdE.pt hbe548 hwp hps).1 (BdE.pt hbe548 hwp hps).2.1 hf547 hO hl0) (gV pw_176 pw_177 pw_178 pw_63 pw_114) hV_X0_fit qr554 0 hqr555 rfl rfl rfl (Nat.le_of_ble_eq_true rfl) dX0_statement_198 ⟨(by show 0 + 1 ≤ ((rE (g 2 q) - rS (g 2 q)) + 1); omega), (by show 0 + 6 ≤ (6 * (rE (g 2 q) - rS (g 2 q)) + 6); omega)⟩ ⟨(by show 7 + 1 ≤ (5 * n + 50); omega), (by show 8 + (4 + 11) + 122 ≤ (200 * n + 1200); omega)⟩ (fun v553 u551 H locs hw552 hP hD hS => ?_) (fun ux ce9 q9 H9 locs9 hux hP9 hD9 hS9 hce hcv hcl => pb_out ux (ThQ.up (Thx.same (Thx.f (Thx.f (Thx.f (Thx.f (Bth.thx hbb549) (by omega)) (by omega)) (by omega)) (by omega)) rfl) (show RhX (updR (updR (updR R 2 (.ref pq)) 3 (.ref mq)) 4 (va_rf lo)) (updR (updR (updR (updR R 2 (.ref pq)) 3 (.ref mq)) 4 (va_rf lo)) 2 (.ref pq)) from fun k9 hk9 => by unfold updR; simp only [show ¬ k9 = 1 by omega, show ¬ k9 = 2 by omega, show ¬ k9 = 3 by omega, show ¬ k9 = 4 by omega, if_false]) hux) hnt hlocks hce hcv hcl hP9 hD9 hS9 (by show 0 + 1 ≤ ((rE (g 2 q) - rS (g 2 q)) + 1); omega) (by show 0 + 6 ≤ (6 * (rE (g 2 q) - rS (g 2 q)) + 6); omega))
      obtain ⟨w, _⟩ := u551
      obtain ⟨hw552, hO⟩ := hw552
      obtain rfl : v553 = none := hw552
      have hO : OKP G h0 a (upd (upd (upd (upd (upd (upd (upd (upd (upd (upd F 2 (nI sz)) 5 (nI cs528)) 6 (nI rg)) 7 (nI hd)) 8 (nI dp)) 12 (nI vr)) 13 as529) 14 wt530) 15 wf531) 16 ls9) (updR (updR (updR R 2 (.ref pq)) 3 (.ref mq)) 4 (va_rf lo)) Z B527 J K526 w := hO.to rfl
      refine W.widen (k := 0) (n := 0) (by show 0 + 0 ≤ 0; omega) (by show 0 + 0 ≤ 0; omega) ?_
      refine W.eq (g2 := F0 m 201 ls []) rfl ?_
      refine lv_aload_n hx hb dX0_statement_201 rfl (lv_at hl 2 rfl) ?_
      refine c_get (v := .ref (a 2)) (C := RX0) (Tc := TX0) (N := 13) (ci := 0) hx hb hq pin_wsX00 hown hE hP hO 24 (sg_24 G h0 a _ _ _ _ _) rfl 1 (by decide) (hq _ pw_5) (fun _ h9 => h9) rfl dX0_statement_202 ?_
      refine lv_bipush (v := 13) hx hb dX0_statement_205 (by decide) ?_
      refine lv_iconst (v := 0) hx hb dX0_statement_207 (by decide) ?_
      refine lv_iconst (v := 0) hx hb dX0_statement_208 (by decide) ?_
      have hO : OKW G h0 a (upd (upd (upd (upd (upd (upd (upd (upd (upd (upd (upd F 2 (nI sz)) 5 (nI cs528)) 6 (nI rg)) 7 (nI hd)) 8 (nI dp)) 12 (nI vr)) 13 as529) 14 wt530) 15 wf531) 16 ls9) 5 (nI cs528)) (updR (updR (updR R 2 (.ref pq)) 3 (.ref mq)) 4 (va_rf lo)) Z B527 J K526.1 (fun q99 x99 => x99 = rep G a K526 q99) w := hO.to rfl
      obtain ⟨_, qr559, hqr560⟩ := hO.2.1 13 _ (sg_13 G h0 a _ _ _ _ _)
      refine pc_V0 (G := G) (As := [.int 13, .int 0, .int (nI 0)]) (rest := []) hx hb hml hown hq hE hX pX0_al hP hD hS hA hl.1 (K_emit l G h0 a (upd (upd (upd (upd (upd (upd (upd (upd (upd (upd F 2 (nI sz)) 5 (nI cs528)) 6 (nI rg)) 7 (nI hd)) 8 (nI dp)) 12 (nI vr)) 13 as529) 14 wt530) 15 wf531) 16 ls9) (updR (updR (updR R 2 (.ref pq)) 3 (.ref mq)) 4 (va_rf lo)) Z B527 J K526.1 (fun q99 x99 => x99 = rep G a K526 q99) w 13 0 0 cs528 (by omega) (by omega) hng550 hO) (gV pw_129 pw_130 pw_131 pw_70 pw_115) hV_X1_emit qr559 1 hqr560 rfl rfl rfl (Nat.le_of_ble_eq_true rfl) dX0_statement_209 ⟨(by show 0 + 0 ≤ ((rE (g 2 q) - rS (g 2 q)) + 1); omega), (by show 0 + 0 ≤ (6 * (rE (g 2 q) - rS (g 2 q)) + 6); omega)⟩ ⟨(by show 2 + 1 ≤ (5 * n + 50); omega), (by show 8 + (4 + 11) + 60 ≤ (200 * n + 1200); omega)⟩ (fun v558 u556 H locs hw557 hP hD hS => ?_)
      obtain ⟨w, cs561, f562, f563, f564, f565⟩ := u556
      obtain ⟨hw557, h566, h567, hO⟩ := hw557
      have h566 : cs528 ≤ cs561 ∧ cs561 ≤ cs528 + 1 ∧ cs561 ≤ 10000 := h566
      have h567 : Nng f564 := h567
      obtain rfl : v558 = none := hw557
      have hO : OKP G h0 a (upd (upd (upd (upd (upd (upd (upd (upd (upd (upd F 2 (nI sz)) 5 (nI cs561)) 6 (nI rg)) 7 (nI hd)) 8 (nI dp)) 12 (nI vr)) 13 as529) 14 wt530) 15 wf531) 16 ls9) (updR (updR (updR R 2 (.ref pq)) 3 (.ref mq)) 4 (va_rf lo)) Z (updA (updA (updA (updA B527 16 f562) 17 f563) 18 f564) 19 f565) J K526 w := hO.to rfl
      refine W.widen (k := 0) (n := 0) (Nat.le_of_ble_eq_true rfl) (Nat.le_of_ble_eq_true rfl) ?_
      refine W.eq (g2 := F0 m 212 ls []) rfl ?_
      refine lv_goto (tgt := 241) hx hb dX0_statement_212 (by decide) ?_
      refine W_size (fun hz1 hz2 => ?_)
      refine vx_ret ?_
      have hz568 : BdE K K526 := hbe548
      have hz569 : Bth B (updA (updA (updA (updA B527 16 f562) 17 f563) 18 f564) 19 f565) := (show Thx (upd (upd (upd (upd (upd (upd (upd F 2 (nI sz)) 5 (nI cs)) 6 (nI rg)) 7 (nI hd)) 8 (nI dp)) 12 (nI vr)) 16 ls9) (upd (upd (upd (upd (upd (upd (upd (upd (upd (upd (upd F 2 (nI sz)) 5 (nI cs)) 6 (nI rg)) 7 (nI hd)) 8 (nI dp)) 12 (nI vr)) 16 ls9) 5 (nI cs561)) 13 as529) 14 wt530) 15 wf531) B (updA (updA (updA (updA B527 16 f562) 17 f563) 18 f564) 19 f565) from (Thx.b (Thx.b8 (Thx.b (Thx.b (Thx.f (Thx.f (Thx.f (Thx.f (Bth.thx hbb549) (by omega)) (by omega)) (by omega)) (by omega)) (by omega) (by decide)) (by omega) (by decide)) h567) (by omega) (by decide))).2
      have hz570 : cs561 ≤ 10000 ∧ rg ≤ 625 ∧ dp ≤ 1000 := (by omega)
      have hz571 : vr ≤ vr ∧ vr ≤ 30 ∧ hd + vr = hd + vr := (by omega)
      have hO : OKP G h0 a (upd (upd (upd (upd (upd (upd (upd (upd (upd (upd F 2 (nI sz)) 5 (nI cs561)) 6 (nI rg)) 7 (nI hd)) 8 (nI dp)) 12 (nI vr)) 13 as529) 14 wt530) 15 wf531) 16 ls9) (updR (updR (updR R 2 (.ref pq)) 3 (.ref mq)) 4 (va_rf lo)) Z (updA (updA (updA (updA B527 16 f562) 17 f563) 18 f564) 19 f565) J K526 w := hO.to rfl
      refine W.widen (k := ((rE (g 2 q) - rS (g 2 q)) + 1)) (n := (6 * (rE (g 2 q) - rS (g 2 q)) + 6)) (by omega) (by omega) ?_
      have hzz1 : H.size ≤ s.heap.size + ((rE (g 2 q) - rS (g 2 q))) := (by have z : 0 ≤ (rE (g 2 q) - rS (g 2 q)) := (by omega); omega)
      have hzz2 : hSl H ≤ hSl s.heap + ((6 * (rE (g 2 q) - rS (g 2 q)))) := (by have z : 0 ≤ (6 * (rE (g 2 q) - rS (g 2 q))) := (by omega); omega)
      exact W.vret hx hb hr (fun t99 ht99 hW99 => ⟨⟨_, (w, (K526, (updA (updA (updA (updA B527 16 f562) 17 f563) 18 f564) 19 f565), cs561, as529, wt530, wf531, vr, hd, dp, rg, ls9)), rfl, ⟨rfl, hz568, hz569, hz570, hz571, hO⟩, by rw [ht99]; exact hP, hD, by rw [ht99]; exact hzz1, by rw [ht99]; exact hzz2⟩, hS.F ht99⟩) hS.2.2 dX0_statement_241
    refine lv_tableOut (tgt := 241) hx hb dX0_statement_36 (sw_out33 h1 h36 h74 h116 h168 h210 h250 h290 h328 h366 h404 h444 h520) (by decide) ?_
    refine W_size (fun hz1 hz2 => ?_)
    refine vx_ret ?_
    have hz572 : BdE K K := BdE.rfl
    have hz573 : Bth B B2 := (show Thx (upd (upd (upd (upd (upd (upd (upd F 2 (nI sz)) 5 (nI cs)) 6 (nI rg)) 7 (nI hd)) 8 (nI dp)) 12 (nI vr)) 16 ls9) (upd (upd (upd (upd (upd (upd (upd (upd F 2 (nI sz)) 5 (nI cs)) 6 (nI rg)) 7 (nI hd)) 8 (nI dp)) 12 (nI vr)) 16 ls9) 5 (nI cs2)) B B2 from (Thx.f (Bth.thx hbb2) (by omega))).2
    have hz574 : cs2 ≤ 10000 ∧ rg ≤ 625 ∧ dp ≤ 1000 := (by omega)
    have hz575 : vr ≤ vr ∧ vr ≤ 30 ∧ hd + vr = hd + vr := (by omega)
    have hO : OKP G h0 a (upd (upd (upd (upd (upd (upd (upd (upd (upd (upd F 2 (nI sz)) 5 (nI cs2)) 6 (nI rg)) 7 (nI hd)) 8 (nI dp)) 12 (nI vr)) 13 (F 13)) 14 (F 14)) 15 (F 15)) 16 ls9) (updR (updR (updR R 2 (.ref pq)) 3 (.ref mq)) 4 (va_rf lo)) Z B2 J K w := hO.to rfl
    refine W.widen (k := ((rE (g 2 q) - rS (g 2 q)) + 1)) (n := (6 * (rE (g 2 q) - rS (g 2 q)) + 6)) (by omega) (by omega) ?_
    have hzz1 : H.size ≤ s.heap.size + ((rE (g 2 q) - rS (g 2 q))) := (by have z : 0 ≤ (rE (g 2 q) - rS (g 2 q)) := (by omega); omega)
    have hzz2 : hSl H ≤ hSl s.heap + ((6 * (rE (g 2 q) - rS (g 2 q)))) := (by have z : 0 ≤ (6 * (rE (g 2 q) - rS (g 2 q))) := (by omega); omega)
    exact W.vret hx hb hr (fun t99 ht99 hW99 => ⟨⟨_, (w, (K, B2, cs2, (F 13), (F 14), (F 15), vr, hd, dp, rg, ls9)), rfl, ⟨rfl, hz572, hz573, hz574, hz575, hO⟩, by rw [ht99]; exact hP, hD, by rw [ht99]; exact hzz1, by rw [ht99]; exact hzz2⟩, hS.F ht99⟩) hS.2.2 dX0_statement_241
  refine lv_iload_n hx hb dX0_statement_0 rfl (lv_at hl 2 rfl) ?_
  refine lv_if_eq (tgt := 32) hx hb dX0_statement_1 (by decide) (fun c576 => ?_) (fun c576 => ?_)
  · have n577 : tf = 0 := (nI_eq (a := tf) (b := 0) (by omega) (by omega)).mp c576
    refine W.widen (k := 0) (n := 0) (by show 0 ≤ _; omega) (by show 0 ≤ _; omega) ?_
    have hO : OKP G h0 a (upd (upd (upd (upd (upd (upd (upd F 2 (nI sz)) 5 (nI cs)) 6 (nI rg)) 7 (nI hd)) 8 (nI dp)) 12 (nI vr)) 16 ls9) (updR (updR (updR R 2 (.ref pq)) 3 (.ref mq)) 4 (va_rf lo)) Z B J K w := hO.to rfl
    exact cut_d B cs _ _ _ _ ((show Thx (upd (upd (upd (upd (upd (upd (upd F 2 (nI sz)) 5 (nI cs)) 6 (nI rg)) 7 (nI hd)) 8 (nI dp)) 12 (nI vr)) 16 ls9) (upd (upd (upd (upd (upd (upd (upd F 2 (nI sz)) 5 (nI cs)) 6 (nI rg)) 7 (nI hd)) 8 (nI dp)) 12 (nI vr)) 16 ls9) B B from Thx.rfl).2) hng (by omega) hP hD hS hO (lv_sub hl [2, 1, 0] rfl)
  · have n578 : ¬ (tf = 0) := fun h9 => c576 ((nI_eq (a := tf) (b := 0) (by omega) (by omega)).mpr h9)
    refine lv_aload_n hx hb dX0_statement_4 rfl (lv_at hl 1 rfl) ?_
    refine p_get (v := .int kd) (C := RX7) (Tc := TX7) (N := 11) (ci := 13) hx hb hq pin_wsX70 hown hE hP hO (by rw [hqT]; decide) (rep_1 hqT) rfl 0 (by decide) (hq _ pw_166) (fun _ h9 => h9) (congrArg (fun z => some (Value.int z)) hkd) dX0_statement_5 ?_
    refine lv_bipush (v := 21) hx hb dX0_statement_8 (by decide) ?_
    refine lv_icmp_eq (tgt := 32) hx hb dX0_statement_10 (by decide) (fun c579 => ?_) (fun c579 => ?_)
    · refine W.widen (k := 0) (n := 0) (by show 0 ≤ _; omega) (by show 0 ≤ _; omega) ?_
      have hO : OKP G h0 a (upd (upd (upd (upd (upd (upd (upd F 2 (nI sz)) 5 (nI cs)) 6 (nI rg)) 7 (nI hd)) 8 (nI dp)) 12 (nI vr)) 16 ls9) (updR (updR (updR R 2 (.ref pq)) 3 (.ref mq)) 4 (va_rf lo)) Z B J K w := hO.to rfl
      exact cut_d B cs _ _ _ _ ((show Thx (upd (upd (upd (upd (upd (upd (upd F 2 (nI sz)) 5 (nI cs)) 6 (nI rg)) 7 (nI hd)) 8 (nI dp)) 12 (nI vr)) 16 ls9) (upd (upd (upd (upd (upd (upd (upd F 2 (nI sz)) 5 (nI cs)) 6 (nI rg)) 7 (nI hd)) 8 (nI dp)) 12 (nI vr)) 16 ls9) B B from Thx.rfl).2) hng (by omega) hP hD hS hO (lv_sub hl [2, 1, 0] rfl)
    · refine lv_aload_n hx hb dX0_statement_13 rfl (lv_at hl 1 rfl) ?_
      refine p_get (v := .int kd) (C := RX7) (Tc := TX7) (N := 11) (ci := 13) hx hb hq pin_wsX70 hown hE hP hO (by rw [hqT]; decide) (rep_1 hqT) rfl 0 (by decide) (hq _ pw_166) (fun _ h9 => h9) (congrArg (fun z => some (Value.int z)) hkd) dX0_statement_14 ?_
      refine lv_bipush (v := 34) hx hb dX0_statement_17 (by decide) ?_
      refine lv_icmp_eq (tgt := 32) hx hb dX0_statement_19 (by decide) (fun c580 => ?_) (fun c580 => ?_)
      · refine W.widen (k := 0) (n := 0) (by show 0 ≤ _; omega) (by show 0 ≤ _; omega) ?_
        have hO : OKP G h0 a (upd (upd (upd (upd (upd (upd (upd F 2 (nI sz)) 5 (nI cs)) 6 (nI rg)) 7 (nI hd)) 8 (nI dp)) 12 (nI vr)) 16 ls9) (updR (updR (updR R 2 (.ref pq)) 3 (.ref mq)) 4 (va_rf lo)) Z B J K w := hO.to rfl
        exact cut_d B cs _ _ _ _ ((show Thx (upd (upd (upd (upd (upd (upd (upd F 2 (nI sz)) 5 (nI cs)) 6 (nI rg)) 7 (nI hd)) 8 (nI dp)) 12 (nI vr)) 16 ls9) (upd (upd (upd (upd (upd (upd (upd F 2 (nI sz)) 5 (nI cs)) 6 (nI rg)) 7 (nI hd)) 8 (nI dp)) 12 (nI vr)) 16 ls9) B B from Thx.rfl).2) hng (by omega) hP hD hS hO (lv_sub hl [2, 1, 0] rfl)
      · refine lv_aload_n hx hb dX0_statement_22 rfl (lv_at hl 0 rfl) ?_
        refine c_get (v := .ref (a 2)) (C := RX0) (Tc := TX0) (N := 13) (ci := 0) hx hb hq pin_wsX00 hown hE hP hO 24 (sg_24 G h0 a _ _ _ _ _) rfl 1 (by decide) (hq _ pw_5) (fun _ h9 => h9) rfl dX0_statement_23 ?_
        refine lv_iconst (v := 0) hx hb dX0_statement_26 (by decide) ?_
        refine lv_iconst (v := 0) hx hb dX0_statement_27 (by decide) ?_
        refine lv_iconst (v := 0) hx hb dX0_statement_28 (by decide) ?_
        have hO : OKW G h0 a (upd (upd (upd (upd (upd (upd (upd (upd F 2 (nI sz)) 5 (nI cs)) 6 (nI rg)) 7 (nI hd)) 8 (nI dp)) 12 (nI vr)) 16 ls9) 5 (nI cs)) (updR (updR (updR R 2 (.ref pq)) 3 (.ref mq)) 4 (va_rf lo)) Z B J K.1 (fun q99 x99 => x99 = rep G a K q99) w := hO.to rfl
        obtain ⟨_, qr584, hqr585⟩ := hO.2.1 13 _ (sg_13 G h0 a _ _ _ _ _)
        refine pc_V0 (G := G) (As := [.int 0, .int 0, .int (nI 0)]) (rest := []) hx hb hml hown hq hE hX pX0_al hP hD hS hA hl.1 (K_emit l G h0 a (upd (upd (upd (upd (upd (upd (upd F 2 (nI sz)) 5 (nI cs)) 6 (nI rg)) 7 (nI hd)) 8 (nI dp)) 12 (nI vr)) 16 ls9) (updR (updR (updR R 2 (.ref pq)) 3 (.ref mq)) 4 (va_rf lo)) Z B J K.1 (fun q99 x99 => x99 = rep G a K q99) w 0 0 0 cs (by omega) (by omega) hng hO) (gV pw_129 pw_130 pw_131 pw_70 pw_115) hV_X1_emit qr584 1 hqr585 rfl rfl rfl (Nat.le_of_ble_eq_true rfl) dX0_statement_29 ⟨(by show 0 + 0 ≤ ((rE (g 2 q) - rS (g 2 q)) + 1); omega), (by show 0 + 0 ≤ (6 * (rE (g 2 q) - rS (g 2 q)) + 6); omega)⟩ ⟨(by show 2 + 1 ≤ (5 * n + 50); omega), (by show 8 + (4 + 11) + 60 ≤ (200 * n + 1200); omega)⟩ (fun v583 u581 H locs hw582 hP hD hS => ?_)
        obtain ⟨w, cs586, f587, f588, f589, f590⟩ := u581
        obtain ⟨hw582, h591, h592, hO⟩ := hw582
        have h591 : cs ≤ cs586 ∧ cs586 ≤ cs + 1 ∧ cs586 ≤ 10000 := h591
        have h592 : Nng f589 := h592
        obtain rfl : v583 = none := hw582
        have hO : OKP G h0 a (upd (upd (upd (upd (upd (upd (upd F 2 (nI sz)) 5 (nI cs586)) 6 (nI rg)) 7 (nI hd)) 8 (nI dp)) 12 (nI vr)) 16 ls9) (updR (updR (updR R 2 (.ref pq)) 3 (.ref mq)) 4 (va_rf lo)) Z (updA (updA (updA (updA B 16 f587) 17 f588) 18 f589) 19 f590) J K w := hO.to rfl
        refine W.widen (k := 0) (n := 0) (Nat.le_of_ble_eq_true rfl) (Nat.le_of_ble_eq_true rfl) ?_
        refine W.eq (g2 := F0 m 32 ls []) rfl ?_
        refine W.widen (k := 0) (n := 0) (by show 0 ≤ _; omega) (by show 0 ≤ _; omega) ?_
        have hO : OKP G h0 a (upd (upd (upd (upd (upd (upd (upd F 2 (nI sz)) 5 (nI cs586)) 6 (nI rg)) 7 (nI hd)) 8 (nI dp)) 12 (nI vr)) 16 ls9) (updR (updR (updR R 2 (.ref pq)) 3 (.ref mq)) 4 (va_rf lo)) Z (updA (updA (updA (updA B 16 f587) 17 f588) 18 f589) 19 f590) J K w := hO.to rfl
        exact cut_d (updA (updA (updA (updA B 16 f587) 17 f588) 18 f589) 19 f590) cs586 _ _ _ _ ((show Thx (upd (upd (upd (upd (upd (upd (upd F 2 (nI sz)) 5 (nI cs)) 6 (nI rg)) 7 (nI hd)) 8 (nI dp)) 12 (nI vr)) 16 ls9) (upd (upd (upd (upd (upd (upd (upd (upd F 2 (nI sz)) 5 (nI cs)) 6 (nI rg)) 7 (nI hd)) 8 (nI dp)) 12 (nI vr)) 16 ls9) 5 (nI cs586)) B (updA (updA (updA (updA B 16 f587) 17 f588) 18 f589) 19 f590) from (Thx.b (Thx.b8 (Thx.b (Thx.b (Thx.f Thx.rfl (by omega)) (by omega) (by decide)) (by omega) (by decide)) h592) (by omega) (by decide))).2) h592 (by omega) hP hD hS hO (lv_sub hl [2, 1, 0] rfl)
theorem PS_step (l : Launch) (G : pT) (n : Nat) (ih : IhT l G n) : PSa l G n := fun h0 a F R Z B J K w pq dr ml nd nm cp it s9 q mq cs vr sz tf hd dp rg ls9 lo g rk hsz hwp hps hrk hcs hvr hng hmq hqT hqL hdp hrg hhd hlo htf hO hl0 => B_statement0 l G h0 a F R Z B J K w pq dr ml nd nm cp it s9 q mq cs vr sz n tf hd dp rg ls9 lo g rk hsz hwp hps hrk hcs hvr hng hmq hqT hqL hdp hrg hhd hlo htf ih (IhV.all l G n) hO hl0
theorem IhT.all (l : Launch) (G : pT) : ∀ n : Nat, IhT l G n
  | 0 => fun m hm => absurd hm (by omega)
  | n + 1 => fun m hm => by
    by_cases e : m = n
    · rw [e]; exact PS_step l G n (IhT.all l G n)
    · exact IhT.all l G n m (by omega)

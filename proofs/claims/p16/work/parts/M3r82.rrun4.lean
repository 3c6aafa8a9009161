theorem dX12_gives_0 : decode cX12_gives 0 = .ok (.aload_n 0, 1) := by decide +kernel
theorem dX12_gives_1 : decode cX12_gives 1 = .ok (.iload_n 2, 1) := by decide +kernel
theorem dX12_gives_2 : decode cX12_gives 2 = .ok (.aload_n 0, 1) := by decide +kernel
theorem dX12_gives_3 : decode cX12_gives 3 = .ok (.aload_n 0, 1) := by decide +kernel
theorem dX12_gives_4 : decode cX12_gives 4 = .ok (.getfield 62, 3) := by decide +kernel
theorem dX12_gives_7 : decode cX12_gives 7 = .ok (.iload_n 1, 1) := by decide +kernel
theorem dX12_gives_8 : decode cX12_gives 8 = .ok (.iaload, 1) := by decide +kernel
theorem dX12_gives_9 : decode cX12_gives 9 = .ok (.invokevirtual 525, 3) := by decide +kernel
theorem dX12_gives_12 : decode cX12_gives 12 = .ok (.invokevirtual 757, 3) := by decide +kernel
theorem dX12_gives_15 : decode cX12_gives 15 = .ok (.aload_n 0, 1) := by decide +kernel
theorem dX12_gives_16 : decode cX12_gives 16 = .ok (.iload_n 1, 1) := by decide +kernel
theorem dX12_gives_17 : decode cX12_gives 17 = .ok (.invokevirtual 760, 3) := by decide +kernel
theorem dX12_gives_20 : decode cX12_gives 20 = .ok (.return_, 1) := by decide +kernel
theorem hV_X12_push : yX12_push.cls = RX12 ∧ yX12_push.cls ≠ "java/lang/invoke/MethodHandle" ∧ yX12_push.cls ≠ "java/lang/invoke/VarHandle" ∧ (parseMethodDescriptor yX12_push.desc).map (fun d => d.parameters.length) = some 2 := by decide +kernel
set_option maxHeartbeats 2000000 in
set_option maxRecDepth 100000 in
/-- gives(n, v) -/
theorem R_gives (l : Launch) (G : pT) (h0 : Nat) (a : Nat → Nat) (F : Nat → Int32) (B : Nat → Nat → Int32) (n9 : Nat) (ty9 : Nat) (tp : Nat) (x : Int32) (stk : Nat → Int32) (rfr : Nat → Int32) (hn9 : n9 < 12000) (hty : B 17 n9 = nI ty9) (hty5 : ty9 ≤ 5000) (htp : tp < 40000) : PM l G pX0 yX12_gives cX12_gives 3 none ({ frames := 3, cells := 0, slots := 0, locals := 82 }) [.ref h0, .int (nI n9), .int x] (mW G h0 a (upd F 111 (nI tp)) (updA (updA B 68 stk) 69 rfr)) (fun (v : Option Value) (u : Nat × (Nat → Int32)) => v = none ∧ (u.2 = upd rfr tp (nI u.1)) ∧ (u.1 ≤ 1 ∧ 3 * u.1 ≤ ty9 ∧ ty9 ≤ 2 + 9000 * u.1)) (fun u => (mW G h0 a (upd (upd (upd F 111 (nI (tp + 1))) 125 (nI n9)) 126 0) (updA (updA B 68 (upd stk tp x)) 69 u.2))) := by
  intro sz
  refine Met.ofW (cc := cX12_gives) (maxL := 3) (ret := none) (by decide) rfl ?_
  intro p e s m args below meth c s₁ B9 hml hv
  obtain ⟨rfl, hsz, hP, hD0, hE, hX⟩ := hv
  have hx := B9.exec
  have hb := B9.bytes
  have hr := B9.returns
  have hts := atoms_spec (ws := Cond.code yX12_gives cX12_gives 3 none :: pw) B9.pre
  have hq : ∀ w ∈ pw, w.before _ s = true := fun w h => hts w (List.mem_cons_of_mem _ h)
  have hown : s.vm.findClass RX12 = some m.cls := findClass_of_methodNamed B9.named
  have hlocks := B9.notSynchronized
  subst hsz
  have hD := hD0.self (sz := s.heap.size)
  have hA : ∀ q : Nat, s.heap.size ≤ q → va_A (mW G h0 a (upd F 111 (nI tp)) (updA (updA B 68 stk) 69 rfr)) s.heap.size q := fun q h => Or.inr h
  have hP : va_P G.1 pCl (mW G h0 a (upd F 111 (nI tp)) (updA (updA B 68 stk) 69 rfr)) s.heap := hP
  generalize va_A (mW G h0 a (upd F 111 (nI tp)) (updA (updA B 68 stk) 69 rfr)) s.heap.size = A at hD hE hA ⊢
  have hS : va_S A s.heap s.heap [] := va_S.rf
  have hl := lv_entry ([.ref h0, .int (nI n9), .int x]) (n := 3) (Nat.le_of_ble_eq_true rfl)
  rw [lg_entry_eq]
  generalize (lg_sl ([.ref h0, .int (nI n9), .int x]) ++ List.replicate (3 - (lg_sl ([.ref h0, .int (nI n9), .int x])).length) Slot.unset).toArray = ls at hl ⊢
  have hl : lv_has ls 3 [(0, .ref h0), (1, .int (nI n9)), (2, .int x)] := hl
  refine lv_aload_n hx hb dX12_gives_0 rfl (lv_at hl 0 rfl) ?_
  refine lv_iload_n hx hb dX12_gives_1 rfl (lv_at hl 2 rfl) ?_
  refine lv_aload_n hx hb dX12_gives_2 rfl (lv_at hl 0 rfl) ?_
  refine lv_aload_n hx hb dX12_gives_3 rfl (lv_at hl 0 rfl) ?_
  refine r_get (v := .ref (a 17)) hx hb hown hq hE hP 25 62 tFX12_25 (by decide) pw_1447 rfl dX12_gives_4 ?_
  refine lv_iload_n hx hb dX12_gives_7 rfl (lv_at hl 1 rfl) ?_
  refine r_ldi (f := (B 17)) (j := n9) hx hb hE hP 17 (ma_17 G a _) rfl (by omega) (by decide) dX12_gives_8 ?_
  refine lv_topi (fun x1 e2 => ?_)
  obtain rfl : x1 = nI ty9 := e2.trans hty
  have hP : va_P G.1 pCl (mW G h0 a (upd F 111 (nI tp)) (updA (updA B 68 stk) 69 rfr)) _ := hP
  have hD : va_D A (mW G h0 a (upd F 111 (nI tp)) (updA (updA B 68 stk) 69 rfr)) := mW_D hD
  refine pc_V0 (G := G) (As := [.int (nI ty9)]) (rest := [.int x, .ref h0]) hx hb hml hown hq hE hX pX0_al hP hD hS hA hl.1 (R_isReference l G h0 a (upd F 111 (nI tp)) (updA (updA B 68 stk) 69 rfr) ty9 (by omega)) (gV pw_1783 pw_1784 pw_1785 pw_1523 pw_1779) hV_X12_isReference 0 9 rfl rfl rfl rfl (Nat.le_of_ble_eq_true rfl) dX12_gives_9 ⟨Nat.le_of_ble_eq_true rfl, Nat.le_of_ble_eq_true rfl⟩ ⟨Nat.le_of_ble_eq_true rfl, Nat.le_of_ble_eq_true rfl⟩ (fun v5 u3 H locs hw4 hP hD hS => ?_)
  obtain ⟨r6, rfl⟩ : ∃ z, z = u3 := ⟨_, rfl⟩
  obtain ⟨hw4, h7, h8, h9⟩ := hw4
  replace h7 : r6 ≤ 1 := h7
  replace h8 : 3 * r6 ≤ ty9 := h8
  replace h9 : ty9 ≤ 2 + 9000 * r6 := h9
  obtain rfl : v5 = some (.int (nI r6)) := hw4
  have hP : va_P G.1 pCl (mW G h0 a (upd F 111 (nI tp)) (updA (updA B 68 stk) 69 rfr)) _ := hP
  have hD : va_D A (mW G h0 a (upd F 111 (nI tp)) (updA (updA B 68 stk) 69 rfr)) := mW_D hD
  refine W.widen (k := 0) (n := 0) (Nat.le_of_ble_eq_true rfl) (Nat.le_of_ble_eq_true rfl) ?_
  refine W.eq (g2 := F0 m 12 ls [.int (nI r6), .int x, .ref h0]) rfl ?_
  have hP : va_P G.1 pCl (mW G h0 a (upd (upd F 111 (nI tp)) 111 (nI tp)) (updA (updA (updA (updA B 68 stk) 69 rfr) 68 stk) 69 rfr)) _ := mW_to (F := F) (l1 := [(111, (nI tp))]) (l2 := [(111, (nI tp)), (111, (nI tp))]) (V := [(nI tp), (nI tp), (nI tp)]) rfl rfl (show (updA (updA B 68 stk) 69 rfr) = (updA (updA (updA (updA B 68 stk) 69 rfr) 68 stk) 69 rfr) from updsA_eq2 (F := B) (l1 := [(68, stk), (69, rfr)]) (l2 := [(68, stk), (69, rfr), (68, stk), (69, rfr)]) (V := [stk, rfr, stk, rfr, stk, rfr]) rfl rfl) hP
  have hD : va_D A (mW G h0 a (upd (upd F 111 (nI tp)) 111 (nI tp)) (updA (updA (updA (updA B 68 stk) 69 rfr) 68 stk) 69 rfr)) := mW_D hD
  refine pc_V0 (G := G) (As := [.int x, .int (nI r6)]) (rest := []) hx hb hml hown hq hE hX pX0_al hP hD hS hA hl.1 (R_push l G h0 a (upd F 111 (nI tp)) (updA (updA B 68 stk) 69 rfr) x r6 tp stk rfr (by omega) (by omega)) (gV pw_2007 pw_2008 pw_2009 pw_1523 pw_1963) hV_X12_push 0 9 rfl rfl rfl rfl (Nat.le_of_ble_eq_true rfl) dX12_gives_12 ⟨Nat.le_of_ble_eq_true rfl, Nat.le_of_ble_eq_true rfl⟩ ⟨Nat.le_of_ble_eq_true rfl, Nat.le_of_ble_eq_true rfl⟩ (fun v12 u10 H locs hw11 hP hD hS => ?_)
  obtain ⟨rf13, rfl⟩ : ∃ z, z = u10 := ⟨_, rfl⟩
  obtain ⟨hw11, h14⟩ := hw11
  replace h14 : rf13 = upd rfr tp (nI r6) := h14
  obtain rfl : v12 = none := hw11
  have hP : va_P G.1 pCl (mW G h0 a (upd F 111 (nI (tp + 1))) (updA (updA B 68 (upd stk tp x)) 69 rf13)) _ := mW_to (F := F) (l1 := [(111, (nI tp)), (111, (nI (tp + 1)))]) (l2 := [(111, (nI (tp + 1)))]) (V := [(nI (tp + 1)), (nI (tp + 1)), (nI (tp + 1))]) rfl rfl (show (updA (updA (updA (updA B 68 stk) 69 rfr) 68 (upd stk tp x)) 69 rf13) = (updA (updA B 68 (upd stk tp x)) 69 rf13) from updsA_eq2 (F := B) (l1 := [(68, stk), (69, rfr), (68, (upd stk tp x)), (69, rf13)]) (l2 := [(68, (upd stk tp x)), (69, rf13)]) (V := [(upd stk tp x), rf13, (upd stk tp x), rf13, (upd stk tp x), rf13]) rfl rfl) hP
  have hD : va_D A (mW G h0 a (upd F 111 (nI (tp + 1))) (updA (updA B 68 (upd stk tp x)) 69 rf13)) := mW_D hD
  refine W.widen (k := 0) (n := 0) (Nat.le_of_ble_eq_true rfl) (Nat.le_of_ble_eq_true rfl) ?_
  refine W.eq (g2 := F0 m 15 ls []) rfl ?_
  refine lv_aload_n hx hb dX12_gives_15 rfl (lv_at hl 0 rfl) ?_
  refine lv_iload_n hx hb dX12_gives_16 rfl (lv_at hl 1 rfl) ?_
  have hP : va_P G.1 pCl (mW G h0 a (upd F 111 (nI (tp + 1))) (updA (updA B 68 (upd stk tp x)) 69 rf13)) _ := hP
  have hD : va_D A (mW G h0 a (upd F 111 (nI (tp + 1))) (updA (updA B 68 (upd stk tp x)) 69 rf13)) := mW_D hD
  refine pc_V0 (G := G) (As := [.int (nI n9)]) (rest := []) hx hb hml hown hq hE hX pX0_al hP hD hS hA hl.1 (R_comesToEnd l G h0 a (upd F 111 (nI (tp + 1))) (updA (updA B 68 (upd stk tp x)) 69 rf13) (nI n9)) (gV pw_2010 pw_2011 pw_2012 pw_1523 pw_2005) hV_X12_comesToEnd 0 9 rfl rfl rfl rfl (Nat.le_of_ble_eq_true rfl) dX12_gives_17 ⟨Nat.le_of_ble_eq_true rfl, Nat.le_of_ble_eq_true rfl⟩ ⟨Nat.le_of_ble_eq_true rfl, Nat.le_of_ble_eq_true rfl⟩ (fun v17 u15 H locs hw16 hP hD hS => ?_)
  obtain rfl : v17 = none := hw16
  have hP : va_P G.1 pCl (mW G h0 a (upd (upd (upd F 111 (nI (tp + 1))) 125 (nI n9)) 126 0) (updA (updA B 68 (upd stk tp x)) 69 rf13)) _ := hP
  have hD : va_D A (mW G h0 a (upd (upd (upd F 111 (nI (tp + 1))) 125 (nI n9)) 126 0) (updA (updA B 68 (upd stk tp x)) 69 rf13)) := mW_D hD
  refine W.widen (k := 0) (n := 0) (Nat.le_of_ble_eq_true rfl) (Nat.le_of_ble_eq_true rfl) ?_
  refine W.eq (g2 := F0 m 20 ls []) rfl ?_
  have hz18 : rf13 = upd rfr tp (nI r6) := h14
  have hz19 : r6 ≤ 1 ∧ 3 * r6 ≤ ty9 ∧ ty9 ≤ 2 + 9000 * r6 := (by omega)
  have hP : va_P G.1 pCl (mW G h0 a (upd (upd (upd F 111 (nI (tp + 1))) 125 (nI n9)) 126 0) (updA (updA B 68 (upd stk tp x)) 69 rf13)) _ := hP
  have hD : va_D A (mW G h0 a (upd (upd (upd F 111 (nI (tp + 1))) 125 (nI n9)) 126 0) (updA (updA B 68 (upd stk tp x)) 69 rf13)) := mW_D hD
  exact W.vret hx hb hr (fun t9 ht9 hW9 => ⟨⟨_, (r6, rf13), rfl, ⟨rfl, hz18, hz19⟩, by rw [ht9]; exact hP, hD⟩, hS.F ht9⟩) hS.2.2 dX12_gives_20
theorem dX12_reckon_0 : decode cX12_reckon 0 = .ok (.iload_n 0, 1) := by decide +kernel
theorem dX12_reckon_1 : decode cX12_reckon 1 = .ok (.lookupswitch 264 #[(38, 161), (42, 246), (43, 238), (45, 242), (47, 250), (60, 173), (62, 184), (94, 169), (124, 165), (256, 195), (257, 206), (258, 139), (259, 150), (262, 217), (263, 224), (264, 231)], 139) := by decide +kernel
theorem dX12_reckon_162 : decode cX12_reckon 162 = .ok (.iload_n 1, 1) := by decide +kernel
theorem dX12_reckon_163 : decode cX12_reckon 163 = .ok (.iload_n 2, 1) := by decide +kernel
theorem dX12_reckon_164 : decode cX12_reckon 164 = .ok (.iand, 1) := by decide +kernel
theorem dX12_reckon_165 : decode cX12_reckon 165 = .ok (.ireturn, 1) := by decide +kernel
theorem dX12_reckon_247 : decode cX12_reckon 247 = .ok (.iload_n 1, 1) := by decide +kernel
theorem dX12_reckon_248 : decode cX12_reckon 248 = .ok (.iload_n 2, 1) := by decide +kernel
theorem dX12_reckon_249 : decode cX12_reckon 249 = .ok (.imul, 1) := by decide +kernel
theorem dX12_reckon_250 : decode cX12_reckon 250 = .ok (.ireturn, 1) := by decide +kernel
theorem dX12_reckon_239 : decode cX12_reckon 239 = .ok (.iload_n 1, 1) := by decide +kernel
theorem dX12_reckon_240 : decode cX12_reckon 240 = .ok (.iload_n 2, 1) := by decide +kernel
theorem dX12_reckon_241 : decode cX12_reckon 241 = .ok (.iadd, 1) := by decide +kernel
theorem dX12_reckon_242 : decode cX12_reckon 242 = .ok (.ireturn, 1) := by decide +kernel
theorem dX12_reckon_243 : decode cX12_reckon 243 = .ok (.iload_n 1, 1) := by decide +kernel
theorem dX12_reckon_244 : decode cX12_reckon 244 = .ok (.iload_n 2, 1) := by decide +kernel
theorem dX12_reckon_245 : decode cX12_reckon 245 = .ok (.isub, 1) := by decide +kernel
theorem dX12_reckon_246 : decode cX12_reckon 246 = .ok (.ireturn, 1) := by decide +kernel
theorem dX12_reckon_251 : decode cX12_reckon 251 = .ok (.iload_n 2, 1) := by decide +kernel
theorem dX12_reckon_252 : decode cX12_reckon 252 = .ok (.iconst (-1), 1) := by decide +kernel
theorem dX12_reckon_253 : decode cX12_reckon 253 = .ok (.if_icmp .ne 8, 3) := by decide +kernel
theorem dX12_reckon_261 : decode cX12_reckon 261 = .ok (.iload_n 1, 1) := by decide +kernel
theorem dX12_reckon_262 : decode cX12_reckon 262 = .ok (.iload_n 2, 1) := by decide +kernel
theorem dX12_reckon_263 : decode cX12_reckon 263 = .ok (.idiv, 1) := by decide +kernel
theorem dX12_reckon_264 : decode cX12_reckon 264 = .ok (.ireturn, 1) := by decide +kernel
theorem dX12_reckon_256 : decode cX12_reckon 256 = .ok (.iload_n 1, 1) := by decide +kernel
theorem dX12_reckon_257 : decode cX12_reckon 257 = .ok (.ineg, 1) := by decide +kernel
theorem dX12_reckon_258 : decode cX12_reckon 258 = .ok (.goto 6, 3) := by decide +kernel
theorem dX12_reckon_174 : decode cX12_reckon 174 = .ok (.iload_n 1, 1) := by decide +kernel
theorem dX12_reckon_175 : decode cX12_reckon 175 = .ok (.iload_n 2, 1) := by decide +kernel
theorem dX12_reckon_176 : decode cX12_reckon 176 = .ok (.if_icmp .ge 7, 3) := by decide +kernel
theorem dX12_reckon_183 : decode cX12_reckon 183 = .ok (.iconst 0, 1) := by decide +kernel
theorem dX12_reckon_184 : decode cX12_reckon 184 = .ok (.ireturn, 1) := by decide +kernel
theorem dX12_reckon_179 : decode cX12_reckon 179 = .ok (.iconst 1, 1) := by decide +kernel
theorem dX12_reckon_180 : decode cX12_reckon 180 = .ok (.goto 4, 3) := by decide +kernel
theorem dX12_reckon_185 : decode cX12_reckon 185 = .ok (.iload_n 1, 1) := by decide +kernel
theorem dX12_reckon_186 : decode cX12_reckon 186 = .ok (.iload_n 2, 1) := by decide +kernel
theorem dX12_reckon_187 : decode cX12_reckon 187 = .ok (.if_icmp .le 7, 3) := by decide +kernel
theorem dX12_reckon_194 : decode cX12_reckon 194 = .ok (.iconst 0, 1) := by decide +kernel
theorem dX12_reckon_195 : decode cX12_reckon 195 = .ok (.ireturn, 1) := by decide +kernel
theorem dX12_reckon_190 : decode cX12_reckon 190 = .ok (.iconst 1, 1) := by decide +kernel
theorem dX12_reckon_191 : decode cX12_reckon 191 = .ok (.goto 4, 3) := by decide +kernel
theorem dX12_reckon_170 : decode cX12_reckon 170 = .ok (.iload_n 1, 1) := by decide +kernel
theorem dX12_reckon_171 : decode cX12_reckon 171 = .ok (.iload_n 2, 1) := by decide +kernel
theorem dX12_reckon_172 : decode cX12_reckon 172 = .ok (.ixor, 1) := by decide +kernel
theorem dX12_reckon_173 : decode cX12_reckon 173 = .ok (.ireturn, 1) := by decide +kernel
theorem dX12_reckon_166 : decode cX12_reckon 166 = .ok (.iload_n 1, 1) := by decide +kernel
theorem dX12_reckon_167 : decode cX12_reckon 167 = .ok (.iload_n 2, 1) := by decide +kernel
theorem dX12_reckon_168 : decode cX12_reckon 168 = .ok (.ior, 1) := by decide +kernel
theorem dX12_reckon_169 : decode cX12_reckon 169 = .ok (.ireturn, 1) := by decide +kernel
theorem dX12_reckon_196 : decode cX12_reckon 196 = .ok (.iload_n 1, 1) := by decide +kernel
theorem dX12_reckon_197 : decode cX12_reckon 197 = .ok (.iload_n 2, 1) := by decide +kernel
theorem dX12_reckon_198 : decode cX12_reckon 198 = .ok (.if_icmp .gt 7, 3) := by decide +kernel
theorem dX12_reckon_205 : decode cX12_reckon 205 = .ok (.iconst 0, 1) := by decide +kernel
theorem dX12_reckon_206 : decode cX12_reckon 206 = .ok (.ireturn, 1) := by decide +kernel
theorem dX12_reckon_201 : decode cX12_reckon 201 = .ok (.iconst 1, 1) := by decide +kernel
theorem dX12_reckon_202 : decode cX12_reckon 202 = .ok (.goto 4, 3) := by decide +kernel
theorem dX12_reckon_207 : decode cX12_reckon 207 = .ok (.iload_n 1, 1) := by decide +kernel
theorem dX12_reckon_208 : decode cX12_reckon 208 = .ok (.iload_n 2, 1) := by decide +kernel
theorem dX12_reckon_209 : decode cX12_reckon 209 = .ok (.if_icmp .lt 7, 3) := by decide +kernel
theorem dX12_reckon_216 : decode cX12_reckon 216 = .ok (.iconst 0, 1) := by decide +kernel
theorem dX12_reckon_217 : decode cX12_reckon 217 = .ok (.ireturn, 1) := by decide +kernel
theorem dX12_reckon_212 : decode cX12_reckon 212 = .ok (.iconst 1, 1) := by decide +kernel
theorem dX12_reckon_213 : decode cX12_reckon 213 = .ok (.goto 4, 3) := by decide +kernel
theorem dX12_reckon_140 : decode cX12_reckon 140 = .ok (.iload_n 1, 1) := by decide +kernel
theorem dX12_reckon_141 : decode cX12_reckon 141 = .ok (.iload_n 2, 1) := by decide +kernel
theorem dX12_reckon_142 : decode cX12_reckon 142 = .ok (.if_icmp .ne 7, 3) := by decide +kernel
theorem dX12_reckon_149 : decode cX12_reckon 149 = .ok (.iconst 0, 1) := by decide +kernel
theorem dX12_reckon_150 : decode cX12_reckon 150 = .ok (.ireturn, 1) := by decide +kernel
theorem dX12_reckon_145 : decode cX12_reckon 145 = .ok (.iconst 1, 1) := by decide +kernel
theorem dX12_reckon_146 : decode cX12_reckon 146 = .ok (.goto 4, 3) := by decide +kernel
theorem dX12_reckon_151 : decode cX12_reckon 151 = .ok (.iload_n 1, 1) := by decide +kernel
theorem dX12_reckon_152 : decode cX12_reckon 152 = .ok (.iload_n 2, 1) := by decide +kernel
theorem dX12_reckon_153 : decode cX12_reckon 153 = .ok (.if_icmp .eq 7, 3) := by decide +kernel
theorem dX12_reckon_160 : decode cX12_reckon 160 = .ok (.iconst 0, 1) := by decide +kernel
theorem dX12_reckon_161 : decode cX12_reckon 161 = .ok (.ireturn, 1) := by decide +kernel
theorem dX12_reckon_156 : decode cX12_reckon 156 = .ok (.iconst 1, 1) := by decide +kernel
theorem dX12_reckon_157 : decode cX12_reckon 157 = .ok (.goto 4, 3) := by decide +kernel
theorem dX12_reckon_218 : decode cX12_reckon 218 = .ok (.iload_n 1, 1) := by decide +kernel
theorem dX12_reckon_219 : decode cX12_reckon 219 = .ok (.iload_n 2, 1) := by decide +kernel
theorem dX12_reckon_220 : decode cX12_reckon 220 = .ok (.bipush 31, 2) := by decide +kernel
theorem dX12_reckon_222 : decode cX12_reckon 222 = .ok (.iand, 1) := by decide +kernel
theorem dX12_reckon_223 : decode cX12_reckon 223 = .ok (.ishl, 1) := by decide +kernel
theorem dX12_reckon_224 : decode cX12_reckon 224 = .ok (.ireturn, 1) := by decide +kernel
theorem dX12_reckon_225 : decode cX12_reckon 225 = .ok (.iload_n 1, 1) := by decide +kernel
theorem dX12_reckon_226 : decode cX12_reckon 226 = .ok (.iload_n 2, 1) := by decide +kernel
theorem dX12_reckon_227 : decode cX12_reckon 227 = .ok (.bipush 31, 2) := by decide +kernel
theorem dX12_reckon_229 : decode cX12_reckon 229 = .ok (.iand, 1) := by decide +kernel
theorem dX12_reckon_230 : decode cX12_reckon 230 = .ok (.ishr, 1) := by decide +kernel
theorem dX12_reckon_231 : decode cX12_reckon 231 = .ok (.ireturn, 1) := by decide +kernel
theorem dX12_reckon_232 : decode cX12_reckon 232 = .ok (.iload_n 1, 1) := by decide +kernel
theorem dX12_reckon_233 : decode cX12_reckon 233 = .ok (.iload_n 2, 1) := by decide +kernel
theorem dX12_reckon_234 : decode cX12_reckon 234 = .ok (.bipush 31, 2) := by decide +kernel
theorem dX12_reckon_236 : decode cX12_reckon 236 = .ok (.iand, 1) := by decide +kernel
theorem dX12_reckon_237 : decode cX12_reckon 237 = .ok (.iushr, 1) := by decide +kernel
theorem dX12_reckon_238 : decode cX12_reckon 238 = .ok (.ireturn, 1) := by decide +kernel
theorem dX12_reckon_265 : decode cX12_reckon 265 = .ok (.iload_n 2, 1) := by decide +kernel
theorem dX12_reckon_266 : decode cX12_reckon 266 = .ok (.iconst (-1), 1) := by decide +kernel
theorem dX12_reckon_267 : decode cX12_reckon 267 = .ok (.if_icmp .ne 7, 3) := by decide +kernel
theorem dX12_reckon_274 : decode cX12_reckon 274 = .ok (.iload_n 1, 1) := by decide +kernel
theorem dX12_reckon_275 : decode cX12_reckon 275 = .ok (.iload_n 2, 1) := by decide +kernel
theorem dX12_reckon_276 : decode cX12_reckon 276 = .ok (.irem, 1) := by decide +kernel
theorem dX12_reckon_277 : decode cX12_reckon 277 = .ok (.ireturn, 1) := by decide +kernel
theorem dX12_reckon_270 : decode cX12_reckon 270 = .ok (.iconst 0, 1) := by decide +kernel
theorem dX12_reckon_271 : decode cX12_reckon 271 = .ok (.goto 6, 3) := by decide +kernel
set_option maxHeartbeats 1000000 in
set_option maxRecDepth 100000 in
/-- reckon(s, a, b) -/
theorem s_reckon (l : Launch) (G : pT) (sg : Int32) (xa : Int32) (xb : Int32) (hz9 : ¬ xb = 0 ∨ (¬ sg = 47 ∧ ¬ sg = 37 ∧ twoTok sg = true)) : PM l G pX0 yX12_reckon cX12_reckon 3 (some .int) ({ frames := 2, cells := 0, slots := 0, locals := 60 }) [.int sg, .int xa, .int xb] [] (fun (v : Option Value) (u : Unit) => ∃ r : Int32, v = some (.int r)) (fun u => []) := by
  intro sz
  refine Met.ofW (cc := cX12_reckon) (maxL := 3) (ret := (some .int)) (by decide) rfl ?_
  intro p e s m args below meth c s₁ B hml hv
  obtain ⟨rfl, hsz, hP, hD0, hE, hX⟩ := hv
  have hx := B.exec
  have hb := B.bytes
  have hr := B.returns
  have hts := atoms_spec (ws := Cond.code yX12_reckon cX12_reckon 3 (some .int) :: pw) B.pre
  have hq : ∀ w ∈ pw, w.before _ s = true := fun w h => hts w (List.mem_cons_of_mem _ h)
  have hown : s.vm.findClass RX12 = some m.cls := findClass_of_methodNamed B.named
  have hlocks := B.notSynchronized
  subst hsz
  have hD := hD0.self (sz := s.heap.size)
  have hA : ∀ q : Nat, s.heap.size ≤ q → va_A [] s.heap.size q := fun q h => Or.inr h
  have hP : va_P G.1 pCl [] s.heap := hP
  generalize va_A [] s.heap.size = A at hD hE hA ⊢
  have hS : va_S A s.heap s.heap [] := va_S.rf
  have hl := lv_entry ([.int sg, .int xa, .int xb]) (n := 3) (Nat.le_of_ble_eq_true rfl)
  rw [lg_entry_eq]
  generalize (lg_sl ([.int sg, .int xa, .int xb]) ++ List.replicate (3 - (lg_sl ([.int sg, .int xa, .int xb])).length) Slot.unset).toArray = ls at hl ⊢
  have hl : lv_has ls 3 [(0, .int sg), (1, .int xa), (2, .int xb)] := hl
  refine lv_iload_n hx hb dX12_reckon_0 rfl (lv_at hl 0 rfl) ?_
  by_cases h1 : sg = 38
  · refine lv_lookup (tgt := 162) (off := 161) hx hb dX12_reckon_1 (by decide) (by rw [h1]; decide) (by decide) ?_
    refine lv_iload_n hx hb dX12_reckon_162 rfl (lv_at hl 1 rfl) ?_
    refine lv_iload_n hx hb dX12_reckon_163 rfl (lv_at hl 2 rfl) ?_
    refine lv_iand hx hb dX12_reckon_164 ?_
    refine lv_topi (fun x2 e3 => ?_)
    refine W.widen (k := 0) (n := 0) (Nat.le_of_ble_eq_true rfl) (Nat.le_of_ble_eq_true rfl) ?_
    exact W.iret (v := x2) hx hb hr (fun t ht hW => ⟨⟨_, (), rfl, ⟨_, rfl⟩, by rw [ht]; exact hP.sub [] rfl, hD.sub [] (by decide) rfl⟩, hS.F ht⟩) hS.2.2 dX12_reckon_165
  by_cases h4 : sg = 42
  · refine lv_lookup (tgt := 247) (off := 246) hx hb dX12_reckon_1 (by decide) (by rw [h4]; decide) (by decide) ?_
    refine lv_iload_n hx hb dX12_reckon_247 rfl (lv_at hl 1 rfl) ?_
    refine lv_iload_n hx hb dX12_reckon_248 rfl (lv_at hl 2 rfl) ?_
    refine lv_imul hx hb dX12_reckon_249 ?_
    refine lv_topi (fun x5 e6 => ?_)
    refine W.widen (k := 0) (n := 0) (Nat.le_of_ble_eq_true rfl) (Nat.le_of_ble_eq_true rfl) ?_
    exact W.iret (v := x5) hx hb hr (fun t ht hW => ⟨⟨_, (), rfl, ⟨_, rfl⟩, by rw [ht]; exact hP.sub [] rfl, hD.sub [] (by decide) rfl⟩, hS.F ht⟩) hS.2.2 dX12_reckon_250
  by_cases h7 : sg = 43
  · refine lv_lookup (tgt := 239) (off := 238) hx hb dX12_reckon_1 (by decide) (by rw [h7]; decide) (by decide) ?_
    refine lv_iload_n hx hb dX12_reckon_239 rfl (lv_at hl 1 rfl) ?_
    refine lv_iload_n hx hb dX12_reckon_240 rfl (lv_at hl 2 rfl) ?_
    refine lv_iadd hx hb dX12_reckon_241 ?_
    refine lv_topi (fun x8 e9 => ?_)
    refine W.widen (k := 0) (n := 0) (Nat.le_of_ble_eq_true rfl) (Nat.le_of_ble_eq_true rfl) ?_
    exact W.iret (v := x8) hx hb hr (fun t ht hW => ⟨⟨_, (), rfl, ⟨_, rfl⟩, by rw [ht]; exact hP.sub [] rfl, hD.sub [] (by decide) rfl⟩, hS.F ht⟩) hS.2.2 dX12_reckon_242
  by_cases h10 : sg = 45
  · refine lv_lookup (tgt := 243) (off := 242) hx hb dX12_reckon_1 (by decide) (by rw [h10]; decide) (by decide) ?_
    refine lv_iload_n hx hb dX12_reckon_243 rfl (lv_at hl 1 rfl) ?_
    refine lv_iload_n hx hb dX12_reckon_244 rfl (lv_at hl 2 rfl) ?_
    refine lv_isub hx hb dX12_reckon_245 ?_
    refine lv_topi (fun x11 e12 => ?_)
    refine W.widen (k := 0) (n := 0) (Nat.le_of_ble_eq_true rfl) (Nat.le_of_ble_eq_true rfl) ?_
    exact W.iret (v := x11) hx hb hr (fun t ht hW => ⟨⟨_, (), rfl, ⟨_, rfl⟩, by rw [ht]; exact hP.sub [] rfl, hD.sub [] (by decide) rfl⟩, hS.F ht⟩) hS.2.2 dX12_reckon_246
  by_cases h13 : sg = 47
  · refine lv_lookup (tgt := 251) (off := 250) hx hb dX12_reckon_1 (by decide) (by rw [h13]; decide) (by decide) ?_
    refine lv_iload_n hx hb dX12_reckon_251 rfl (lv_at hl 2 rfl) ?_
    refine lv_iconst (v := (-1)) hx hb dX12_reckon_252 (by decide) ?_
    refine lv_icmp_ne (tgt := 261) hx hb dX12_reckon_253 (by decide) (fun c14 => ?_) (fun c14 => ?_)
    · refine lv_iload_n hx hb dX12_reckon_261 rfl (lv_at hl 1 rfl) ?_
      refine lv_iload_n hx hb dX12_reckon_262 rfl (lv_at hl 2 rfl) ?_
      refine lv_idiv hx hb dX12_reckon_263 (hz9.elim id (fun q => absurd h13 q.1)) ?_
      refine lv_topi (fun x15 e16 => ?_)
      refine W.widen (k := 0) (n := 0) (Nat.le_of_ble_eq_true rfl) (Nat.le_of_ble_eq_true rfl) ?_
      exact W.iret (v := x15) hx hb hr (fun t ht hW => ⟨⟨_, (), rfl, ⟨_, rfl⟩, by rw [ht]; exact hP.sub [] rfl, hD.sub [] (by decide) rfl⟩, hS.F ht⟩) hS.2.2 dX12_reckon_264
    · refine lv_iload_n hx hb dX12_reckon_256 rfl (lv_at hl 1 rfl) ?_
      refine lv_ineg hx hb dX12_reckon_257 ?_
      refine lv_topi (fun x17 e18 => ?_)
      refine lv_goto (tgt := 264) hx hb dX12_reckon_258 (by decide) ?_
      refine W.widen (k := 0) (n := 0) (Nat.le_of_ble_eq_true rfl) (Nat.le_of_ble_eq_true rfl) ?_
      exact W.iret (v := x17) hx hb hr (fun t ht hW => ⟨⟨_, (), rfl, ⟨_, rfl⟩, by rw [ht]; exact hP.sub [] rfl, hD.sub [] (by decide) rfl⟩, hS.F ht⟩) hS.2.2 dX12_reckon_264
  by_cases h19 : sg = 60
  · refine lv_lookup (tgt := 174) (off := 173) hx hb dX12_reckon_1 (by decide) (by rw [h19]; decide) (by decide) ?_
    refine lv_iload_n hx hb dX12_reckon_174 rfl (lv_at hl 1 rfl) ?_
    refine lv_iload_n hx hb dX12_reckon_175 rfl (lv_at hl 2 rfl) ?_
    refine lv_icmp_ge (tgt := 183) hx hb dX12_reckon_176 (by decide) (fun c20 => ?_) (fun c20 => ?_)
    · refine lv_iconst (v := 0) hx hb dX12_reckon_183 (by decide) ?_
      refine W.widen (k := 0) (n := 0) (Nat.le_of_ble_eq_true rfl) (Nat.le_of_ble_eq_true rfl) ?_
      exact W.iret (v := 0) hx hb hr (fun t ht hW => ⟨⟨_, (), rfl, ⟨_, rfl⟩, by rw [ht]; exact hP.sub [] rfl, hD.sub [] (by decide) rfl⟩, hS.F ht⟩) hS.2.2 dX12_reckon_184
    · refine lv_iconst (v := 1) hx hb dX12_reckon_179 (by decide) ?_
      refine lv_goto (tgt := 184) hx hb dX12_reckon_180 (by decide) ?_
      refine W.widen (k := 0) (n := 0) (Nat.le_of_ble_eq_true rfl) (Nat.le_of_ble_eq_true rfl) ?_
      exact W.iret (v := 1) hx hb hr (fun t ht hW => ⟨⟨_, (), rfl, ⟨_, rfl⟩, by rw [ht]; exact hP.sub [] rfl, hD.sub [] (by decide) rfl⟩, hS.F ht⟩) hS.2.2 dX12_reckon_184
  by_cases h21 : sg = 62
  · refine lv_lookup (tgt := 185) (off := 184) hx hb dX12_reckon_1 (by decide) (by rw [h21]; decide) (by decide) ?_
    refine lv_iload_n hx hb dX12_reckon_185 rfl (lv_at hl 1 rfl) ?_
    refine lv_iload_n hx hb dX12_reckon_186 rfl (lv_at hl 2 rfl) ?_
    refine lv_icmp_le (tgt := 194) hx hb dX12_reckon_187 (by decide) (fun c22 => ?_) (fun c22 => ?_)
    · refine lv_iconst (v := 0) hx hb dX12_reckon_194 (by decide) ?_
      refine W.widen (k := 0) (n := 0) (Nat.le_of_ble_eq_true rfl) (Nat.le_of_ble_eq_true rfl) ?_
      exact W.iret (v := 0) hx hb hr (fun t ht hW => ⟨⟨_, (), rfl, ⟨_, rfl⟩, by rw [ht]; exact hP.sub [] rfl, hD.sub [] (by decide) rfl⟩, hS.F ht⟩) hS.2.2 dX12_reckon_195
    · refine lv_iconst (v := 1) hx hb dX12_reckon_190 (by decide) ?_
      refine lv_goto (tgt := 195) hx hb dX12_reckon_191 (by decide) ?_
      refine W.widen (k := 0) (n := 0) (Nat.le_of_ble_eq_true rfl) (Nat.le_of_ble_eq_true rfl) ?_
      exact W.iret (v := 1) hx hb hr (fun t ht hW => ⟨⟨_, (), rfl, ⟨_, rfl⟩, by rw [ht]; exact hP.sub [] rfl, hD.sub [] (by decide) rfl⟩, hS.F ht⟩) hS.2.2 dX12_reckon_195
  by_cases h23 : sg = 94
  · refine lv_lookup (tgt := 170) (off := 169) hx hb dX12_reckon_1 (by decide) (by rw [h23]; decide) (by decide) ?_
    refine lv_iload_n hx hb dX12_reckon_170 rfl (lv_at hl 1 rfl) ?_
    refine lv_iload_n hx hb dX12_reckon_171 rfl (lv_at hl 2 rfl) ?_
    refine lv_ixor hx hb dX12_reckon_172 ?_
    refine lv_topi (fun x24 e25 => ?_)
    refine W.widen (k := 0) (n := 0) (Nat.le_of_ble_eq_true rfl) (Nat.le_of_ble_eq_true rfl) ?_
    exact W.iret (v := x24) hx hb hr (fun t ht hW => ⟨⟨_, (), rfl, ⟨_, rfl⟩, by rw [ht]; exact hP.sub [] rfl, hD.sub [] (by decide) rfl⟩, hS.F ht⟩) hS.2.2 dX12_reckon_173
  by_cases h26 : sg = 124
  · refine lv_lookup (tgt := 166) (off := 165) hx hb dX12_reckon_1 (by decide) (by rw [h26]; decide) (by decide) ?_
    refine lv_iload_n hx hb dX12_reckon_166 rfl (lv_at hl 1 rfl) ?_
    refine lv_iload_n hx hb dX12_reckon_167 rfl (lv_at hl 2 rfl) ?_
    refine lv_ior hx hb dX12_reckon_168 ?_
    refine lv_topi (fun x27 e28 => ?_)
    refine W.widen (k := 0) (n := 0) (Nat.le_of_ble_eq_true rfl) (Nat.le_of_ble_eq_true rfl) ?_
    exact W.iret (v := x27) hx hb hr (fun t ht hW => ⟨⟨_, (), rfl, ⟨_, rfl⟩, by rw [ht]; exact hP.sub [] rfl, hD.sub [] (by decide) rfl⟩, hS.F ht⟩) hS.2.2 dX12_reckon_169
  by_cases h29 : sg = 256
  · refine lv_lookup (tgt := 196) (off := 195) hx hb dX12_reckon_1 (by decide) (by rw [h29]; decide) (by decide) ?_
    refine lv_iload_n hx hb dX12_reckon_196 rfl (lv_at hl 1 rfl) ?_
    refine lv_iload_n hx hb dX12_reckon_197 rfl (lv_at hl 2 rfl) ?_
    refine lv_icmp_gt (tgt := 205) hx hb dX12_reckon_198 (by decide) (fun c30 => ?_) (fun c30 => ?_)
    · refine lv_iconst (v := 0) hx hb dX12_reckon_205 (by decide) ?_
      refine W.widen (k := 0) (n := 0) (Nat.le_of_ble_eq_true rfl) (Nat.le_of_ble_eq_true rfl) ?_
      exact W.iret (v := 0) hx hb hr (fun t ht hW => ⟨⟨_, (), rfl, ⟨_, rfl⟩, by rw [ht]; exact hP.sub [] rfl, hD.sub [] (by decide) rfl⟩, hS.F ht⟩) hS.2.2 dX12_reckon_206
    · refine lv_iconst (v := 1) hx hb dX12_reckon_201 (by decide) ?_
      refine lv_goto (tgt := 206) hx hb dX12_reckon_202 (by decide) ?_
      refine W.widen (k := 0) (n := 0) (Nat.le_of_ble_eq_true rfl) (Nat.le_of_ble_eq_true rfl) ?_
      exact W.iret (v := 1) hx hb hr (fun t ht hW => ⟨⟨_, (), rfl, ⟨_, rfl⟩, by rw [ht]; exact hP.sub [] rfl, hD.sub [] (by decide) rfl⟩, hS.F ht⟩) hS.2.2 dX12_reckon_206
  by_cases h31 : sg = 257
  · refine lv_lookup (tgt := 207) (off := 206) hx hb dX12_reckon_1 (by decide) (by rw [h31]; decide) (by decide) ?_
    refine lv_iload_n hx hb dX12_reckon_207 rfl (lv_at hl 1 rfl) ?_
    refine lv_iload_n hx hb dX12_reckon_208 rfl (lv_at hl 2 rfl) ?_
    refine lv_icmp_lt (tgt := 216) hx hb dX12_reckon_209 (by decide) (fun c32 => ?_) (fun c32 => ?_)
    · refine lv_iconst (v := 0) hx hb dX12_reckon_216 (by decide) ?_
      refine W.widen (k := 0) (n := 0) (Nat.le_of_ble_eq_true rfl) (Nat.le_of_ble_eq_true rfl) ?_
      exact W.iret (v := 0) hx hb hr (fun t ht hW => ⟨⟨_, (), rfl, ⟨_, rfl⟩, by rw [ht]; exact hP.sub [] rfl, hD.sub [] (by decide) rfl⟩, hS.F ht⟩) hS.2.2 dX12_reckon_217
    · refine lv_iconst (v := 1) hx hb dX12_reckon_212 (by decide) ?_
      refine lv_goto (tgt := 217) hx hb dX12_reckon_213 (by decide) ?_
      refine W.widen (k := 0) (n := 0) (Nat.le_of_ble_eq_true rfl) (Nat.le_of_ble_eq_true rfl) ?_
      exact W.iret (v := 1) hx hb hr (fun t ht hW => ⟨⟨_, (), rfl, ⟨_, rfl⟩, by rw [ht]; exact hP.sub [] rfl, hD.sub [] (by decide) rfl⟩, hS.F ht⟩) hS.2.2 dX12_reckon_217
  by_cases h33 : sg = 258
  · refine lv_lookup (tgt := 140) (off := 139) hx hb dX12_reckon_1 (by decide) (by rw [h33]; decide) (by decide) ?_
    refine lv_iload_n hx hb dX12_reckon_140 rfl (lv_at hl 1 rfl) ?_
    refine lv_iload_n hx hb dX12_reckon_141 rfl (lv_at hl 2 rfl) ?_
    refine lv_icmp_ne (tgt := 149) hx hb dX12_reckon_142 (by decide) (fun c34 => ?_) (fun c34 => ?_)
    · refine lv_iconst (v := 0) hx hb dX12_reckon_149 (by decide) ?_
      refine W.widen (k := 0) (n := 0) (Nat.le_of_ble_eq_true rfl) (Nat.le_of_ble_eq_true rfl) ?_
      exact W.iret (v := 0) hx hb hr (fun t ht hW => ⟨⟨_, (), rfl, ⟨_, rfl⟩, by rw [ht]; exact hP.sub [] rfl, hD.sub [] (by decide) rfl⟩, hS.F ht⟩) hS.2.2 dX12_reckon_150
    · refine lv_iconst (v := 1) hx hb dX12_reckon_145 (by decide) ?_
      refine lv_goto (tgt := 150) hx hb dX12_reckon_146 (by decide) ?_
      refine W.widen (k := 0) (n := 0) (Nat.le_of_ble_eq_true rfl) (Nat.le_of_ble_eq_true rfl) ?_
      exact W.iret (v := 1) hx hb hr (fun t ht hW => ⟨⟨_, (), rfl, ⟨_, rfl⟩, by rw [ht]; exact hP.sub [] rfl, hD.sub [] (by decide) rfl⟩, hS.F ht⟩) hS.2.2 dX12_reckon_150
  by_cases h35 : sg = 259
  · refine lv_lookup (tgt := 151) (off := 150) hx hb dX12_reckon_1 (by decide) (by rw [h35]; decide) (by decide) ?_
    refine lv_iload_n hx hb dX12_reckon_151 rfl (lv_at hl 1 rfl) ?_
    refine lv_iload_n hx hb dX12_reckon_152 rfl (lv_at hl 2 rfl) ?_
    refine lv_icmp_eq (tgt := 160) hx hb dX12_reckon_153 (by decide) (fun c36 => ?_) (fun c36 => ?_)
    · refine lv_iconst (v := 0) hx hb dX12_reckon_160 (by decide) ?_
      refine W.widen (k := 0) (n := 0) (Nat.le_of_ble_eq_true rfl) (Nat.le_of_ble_eq_true rfl) ?_
      exact W.iret (v := 0) hx hb hr (fun t ht hW => ⟨⟨_, (), rfl, ⟨_, rfl⟩, by rw [ht]; exact hP.sub [] rfl, hD.sub [] (by decide) rfl⟩, hS.F ht⟩) hS.2.2 dX12_reckon_161
    · refine lv_iconst (v := 1) hx hb dX12_reckon_156 (by decide) ?_
      refine lv_goto (tgt := 161) hx hb dX12_reckon_157 (by decide) ?_
      refine W.widen (k := 0) (n := 0) (Nat.le_of_ble_eq_true rfl) (Nat.le_of_ble_eq_true rfl) ?_
      exact W.iret (v := 1) hx hb hr (fun t ht hW => ⟨⟨_, (), rfl, ⟨_, rfl⟩, by rw [ht]; exact hP.sub [] rfl, hD.sub [] (by decide) rfl⟩, hS.F ht⟩) hS.2.2 dX12_reckon_161
  by_cases h37 : sg = 262
  · refine lv_lookup (tgt := 218) (off := 217) hx hb dX12_reckon_1 (by decide) (by rw [h37]; decide) (by decide) ?_
    refine lv_iload_n hx hb dX12_reckon_218 rfl (lv_at hl 1 rfl) ?_
    refine lv_iload_n hx hb dX12_reckon_219 rfl (lv_at hl 2 rfl) ?_
    refine lv_bipush (v := 31) hx hb dX12_reckon_220 (by decide) ?_
    refine lv_iand hx hb dX12_reckon_222 ?_
    refine lv_topi (fun x38 e39 => ?_)
    refine lv_ishl hx hb dX12_reckon_223 ?_
    refine lv_topi (fun x40 e41 => ?_)
    refine W.widen (k := 0) (n := 0) (Nat.le_of_ble_eq_true rfl) (Nat.le_of_ble_eq_true rfl) ?_
    exact W.iret (v := x40) hx hb hr (fun t ht hW => ⟨⟨_, (), rfl, ⟨_, rfl⟩, by rw [ht]; exact hP.sub [] rfl, hD.sub [] (by decide) rfl⟩, hS.F ht⟩) hS.2.2 dX12_reckon_224
  by_cases h42 : sg = 263
  · refine lv_lookup (tgt := 225) (off := 224) hx hb dX12_reckon_1 (by decide) (by rw [h42]; decide) (by decide) ?_
    refine lv_iload_n hx hb dX12_reckon_225 rfl (lv_at hl 1 rfl) ?_
    refine lv_iload_n hx hb dX12_reckon_226 rfl (lv_at hl 2 rfl) ?_
    refine lv_bipush (v := 31) hx hb dX12_reckon_227 (by decide) ?_
    refine lv_iand hx hb dX12_reckon_229 ?_
    refine lv_topi (fun x43 e44 => ?_)
    refine lv_ishr hx hb dX12_reckon_230 ?_
    refine lv_topi (fun x45 e46 => ?_)
    refine W.widen (k := 0) (n := 0) (Nat.le_of_ble_eq_true rfl) (Nat.le_of_ble_eq_true rfl) ?_
    exact W.iret (v := x45) hx hb hr (fun t ht hW => ⟨⟨_, (), rfl, ⟨_, rfl⟩, by rw [ht]; exact hP.sub [] rfl, hD.sub [] (by decide) rfl⟩, hS.F ht⟩) hS.2.2 dX12_reckon_231
  by_cases h47 : sg = 264
  · refine lv_lookup (tgt := 232) (off := 231) hx hb dX12_reckon_1 (by decide) (by rw [h47]; decide) (by decide) ?_
    refine lv_iload_n hx hb dX12_reckon_232 rfl (lv_at hl 1 rfl) ?_
    refine lv_iload_n hx hb dX12_reckon_233 rfl (lv_at hl 2 rfl) ?_
    refine lv_bipush (v := 31) hx hb dX12_reckon_234 (by decide) ?_
    refine lv_iand hx hb dX12_reckon_236 ?_
    refine lv_topi (fun x48 e49 => ?_)
    refine lv_iushr hx hb dX12_reckon_237 rfl ?_
    refine lv_topi (fun x50 e51 => ?_)
    refine W.widen (k := 0) (n := 0) (Nat.le_of_ble_eq_true rfl) (Nat.le_of_ble_eq_true rfl) ?_
    exact W.iret (v := x50) hx hb hr (fun t ht hW => ⟨⟨_, (), rfl, ⟨_, rfl⟩, by rw [ht]; exact hP.sub [] rfl, hD.sub [] (by decide) rfl⟩, hS.F ht⟩) hS.2.2 dX12_reckon_238
  refine lv_lookup (tgt := 265) (off := 264) hx hb dX12_reckon_1 (by decide) ((lv_osw h1 (by decide)).trans ((lv_osw h4 (by decide)).trans ((lv_osw h7 (by decide)).trans ((lv_osw h10 (by decide)).trans ((lv_osw h13 (by decide)).trans ((lv_osw h19 (by decide)).trans ((lv_osw h21 (by decide)).trans ((lv_osw h23 (by decide)).trans ((lv_osw h26 (by decide)).trans ((lv_osw h29 (by decide)).trans ((lv_osw h31 (by decide)).trans ((lv_osw h33 (by decide)).trans ((lv_osw h35 (by decide)).trans ((lv_osw h37 (by decide)).trans ((lv_osw h42 (by decide)).trans ((lv_osw h47 (by decide)).trans rfl)))))))))))))))) (by decide) ?_
  refine lv_iload_n hx hb dX12_reckon_265 rfl (lv_at hl 2 rfl) ?_
  refine lv_iconst (v := (-1)) hx hb dX12_reckon_266 (by decide) ?_
  refine lv_icmp_ne (tgt := 274) hx hb dX12_reckon_267 (by decide) (fun c52 => ?_) (fun c52 => ?_)
  · refine lv_iload_n hx hb dX12_reckon_274 rfl (lv_at hl 1 rfl) ?_
    refine lv_iload_n hx hb dX12_reckon_275 rfl (lv_at hl 2 rfl) ?_
    refine lv_irem hx hb dX12_reckon_276 (hz9.elim id (fun q => absurd (by have z := q.2.2; simpa [twoTok, h1, h4, h7, h10, h13, h19, h21, h23, h26, h29, h31, h33, h35, h37, h42, h47] using z) q.2.1)) ?_
    refine lv_topi (fun x53 e54 => ?_)
    refine W.widen (k := 0) (n := 0) (Nat.le_of_ble_eq_true rfl) (Nat.le_of_ble_eq_true rfl) ?_
    exact W.iret (v := x53) hx hb hr (fun t ht hW => ⟨⟨_, (), rfl, ⟨_, rfl⟩, by rw [ht]; exact hP.sub [] rfl, hD.sub [] (by decide) rfl⟩, hS.F ht⟩) hS.2.2 dX12_reckon_277
  · refine lv_iconst (v := 0) hx hb dX12_reckon_270 (by decide) ?_
    refine lv_goto (tgt := 277) hx hb dX12_reckon_271 (by decide) ?_
    refine W.widen (k := 0) (n := 0) (Nat.le_of_ble_eq_true rfl) (Nat.le_of_ble_eq_true rfl) ?_
    exact W.iret (v := 0) hx hb hr (fun t ht hW => ⟨⟨_, (), rfl, ⟨_, rfl⟩, by rw [ht]; exact hP.sub [] rfl, hD.sub [] (by decide) rfl⟩, hS.F ht⟩) hS.2.2 dX12_reckon_277

theorem dX8_told_0 : decode cX8_told 0 = .ok (.aload_n 0, 1) := by decide +kernel
theorem dX8_told_1 : decode cX8_told 1 = .ok (.invokevirtual 95, 3) := by decide +kernel
theorem dX8_told_4 : decode cX8_told 4 = .ok (.istore_n 2, 1) := by decide +kernel
theorem dX8_told_5 : decode cX8_told 5 = .ok (.aload_n 0, 1) := by decide +kernel
theorem dX8_told_6 : decode cX8_told 6 = .ok (.bipush 65, 2) := by decide +kernel
theorem dX8_told_8 : decode cX8_told 8 = .ok (.invokevirtual 53, 3) := by decide +kernel
theorem dX8_told_11 : decode cX8_told 11 = .ok (.istore_n 3, 1) := by decide +kernel
theorem dX8_told_12 : decode cX8_told 12 = .ok (.aload_n 0, 1) := by decide +kernel
theorem dX8_told_13 : decode cX8_told 13 = .ok (.aload_n 1, 1) := by decide +kernel
theorem dX8_told_14 : decode cX8_told 14 = .ok (.iload_n 2, 1) := by decide +kernel
theorem dX8_told_15 : decode cX8_told 15 = .ok (.iload_n 3, 1) := by decide +kernel
theorem dX8_told_16 : decode cX8_told 16 = .ok (.invokevirtual 99, 3) := by decide +kernel
theorem dX8_told_19 : decode cX8_told 19 = .ok (.pop, 1) := by decide +kernel
theorem dX8_told_20 : decode cX8_told 20 = .ok (.aload_n 0, 1) := by decide +kernel
theorem dX8_told_21 : decode cX8_told 21 = .ok (.bipush 38, 2) := by decide +kernel
theorem dX8_told_23 : decode cX8_told 23 = .ok (.invokevirtual 53, 3) := by decide +kernel
theorem dX8_told_26 : decode cX8_told 26 = .ok (.pop, 1) := by decide +kernel
theorem dX8_told_27 : decode cX8_told 27 = .ok (.return_, 1) := by decide +kernel
theorem hV_X8_takeResult : yX8_takeResult.cls = RX8 ∧ yX8_takeResult.cls ≠ "java/lang/invoke/MethodHandle" ∧ yX8_takeResult.cls ≠ "java/lang/invoke/VarHandle" ∧ (parseMethodDescriptor yX8_takeResult.desc).map (fun d => d.parameters.length) = some 0 := by decide +kernel
theorem hV_X8_head : yX8_head.cls = RX8 ∧ yX8_head.cls ≠ "java/lang/invoke/MethodHandle" ∧ yX8_head.cls ≠ "java/lang/invoke/VarHandle" ∧ (parseMethodDescriptor yX8_head.desc).map (fun d => d.parameters.length) = some 3 := by decide +kernel
set_option maxHeartbeats 16000000 in
set_option maxRecDepth 100000 in
theorem P_told (l : Launch) (G : pT) (h0 : Nat) (a : Nat → Nat) (F : Nat → Int32) (R : Nat → Value) (Z : Int64) (B : Nat → Nat → Int32) (J : Nat → Nat → Int64) (K : PK) (w : va_W) (pq : Nat) (dr : Nat) (ml : Nat) (nd : Nat) (nm : Nat) (cp : Nat) (it : Nat → Nat) (s9 : Nat) (d0 : Nat) (sg : Nat) (at9 : Nat) (sz : Nat) (g : Nat → Nat → Nat) (hsz : sz ≤ 5000) (hat : at9 ≤ sz) (hwp : WPr G K g) (hps : PgS G K g (a 1) pq dr ml nd nm cp it s9) (hd0 : K.1 d0 = 4) (hs9 : s9 ≤ at9) (hsg : sg ≤ 60) (hO : OKP G h0 a (upd (upd (upd (upd F 2 (nI sz)) 9 (nI at9)) 10 0) 11 (nI sg)) (updR R 1 (.ref pq)) Z B J K w) (hl0 : l.stackTraces = false) : PBn l G pX0 yX8_told cX8_told 4 none ({ frames := 9, cells := (4 * (sz - at9) + 40), slots := (60 * (sz - at9) + 2 * sz + 600 - 4 * cp), locals := 219 }) [.ref (a 3), .ref d0] w (fun (v : Option Value) (u : va_W × (PK × (Nat → Nat → Nat) × Nat × Nat × (Nat → Nat) × Nat × Nat × (Nat → Int32))) => v = none ∧ (WPr G u.2.1 u.2.2.1) ∧ (PgS G u.2.1 u.2.2.1 (a 1) pq dr ml nd u.2.2.2.1 u.2.2.2.2.1 u.2.2.2.2.2.1 (s9 + (u.2.2.2.2.2.2.1 - at9))) ∧ (u.2.1.1 d0 = 4) ∧ (at9 + 3 ≤ u.2.2.2.2.2.2.1 ∧ u.2.2.2.2.2.2.1 ≤ sz) ∧ (cp ≤ u.2.2.2.2.1) ∧ (u.2.2.2.2.2.2.2.1 ≤ 60) ∧ (OKP G h0 a (upd (upd (upd (upd F 2 (nI sz)) 9 (nI u.2.2.2.2.2.2.1)) 10 0) 11 (nI u.2.2.2.2.2.2.2.1)) (updR R 1 (.ref pq)) Z (updA B 10 u.2.2.2.2.2.2.2.2) J u.2.1 u.1)) (fun u => u.1) (fun (u : va_W × (PK × (Nat → Nat → Nat) × Nat × Nat × (Nat → Nat) × Nat × Nat × (Nat → Int32))) => (4 * (u.2.2.2.2.2.2.1 - at9))) (fun (u : va_W × (PK × (Nat → Nat → Nat) × Nat × Nat × (Nat → Nat) × Nat × Nat × (Nat → Int32))) => (60 * (u.2.2.2.2.2.2.1 - at9) + 4 * (u.2.2.2.2.1 - cp))) (fun (u : va_W × (Nat → Int32) × (Nat → Value) × (Nat → Nat → Int32)) => ThQ G h0 a (upd (upd (upd (upd F 2 (nI sz)) 9 (nI at9)) 10 0) 11 (nI sg)) (updR R 1 (.ref pq)) Z B J u) (fun u => u.1) := by
  intro sz
  refine vx_ofW (cc := cX8_told) (maxL := 4) (ret := none) (by decide) rfl ?_
  intro p e s m args below meth c s₁ B9 hml hnt hv
  obtain ⟨rfl, hsz, hP, hD0, hE, hX⟩ := hv
  have hx := B9.exec
  have hb := B9.bytes
  have hr := B9.returns
  have hts := atoms_spec (ws := Cond.code yX8_told cX8_told 4 none :: pw) B9.pre
  have hq : ∀ w ∈ pw, w.before _ s = true := fun w h => hts w (List.mem_cons_of_mem _ h)
  have hown : s.vm.findClass RX8 = some m.cls := findClass_of_methodNamed B9.named
  have hlocks := B9.notSynchronized
  subst hsz
  have hD := hD0.self (sz := s.heap.size)
  have hA : ∀ q : Nat, s.heap.size ≤ q → va_A w s.heap.size q := fun q h => Or.inr h
  generalize va_A w s.heap.size = A at hD hE hA ⊢
  have hS : va_S A s.heap s.heap [] := va_S.rf
  have hl := lv_entry ([.ref (a 3), .ref d0]) (n := 4) (Nat.le_of_ble_eq_true rfl)
  rw [lg_entry_eq]
  generalize (lg_sl ([.ref (a 3), .ref d0]) ++ List.replicate (4 - (lg_sl ([.ref (a 3), .ref d0])).length) Slot.unset).toArray = ls at hl ⊢
  have hl : lv_has ls 4 [(0, .ref (a 3)), (1, .ref d0)] := hl
  have hcp7 := hps.2.2.2.2.2.2.1
  have hnm7 := hps.2.2.2.2.2.1
  have hnm8 := hps.2.2.1.2.2.1
  refine lv_aload_n hx hb dX8_told_0 rfl (lv_at hl 0 rfl) ?_
  have hO : OKW G h0 a (upd (upd (upd (upd (upd (upd F 2 (nI sz)) 9 (nI at9)) 10 0) 11 (nI sg)) 2 (nI sz)) 9 (nI at9)) (updR R 1 (.ref pq)) Z B J K.1 (fun q99 x99 => x99 = rep G a K q99) w := hO.to rfl
  obtain ⟨_, qr4, hqr5⟩ := hO.2.1 23 _ (sg_23 G h0 a _ _ _ _ _)
  refine pn_V0 (G := G) (As := []) (rest := []) hx hb hml hown hq hE hX pX0_al hP hD hS hA hl.1 (P_takeResult l G h0 a (upd (upd (upd (upd F 2 (nI sz)) 9 (nI at9)) 10 0) 11 (nI sg)) (updR R 1 (.ref pq)) Z B J K.1 (fun q99 x99 => x99 = rep G a K q99) w at9 sz (by omega) (by omega) hO hl0) (gV pw_892 pw_893 pw_894 pw_796 pw_828) hV_X8_takeResult qr4 5 hqr5 rfl rfl rfl (Nat.le_of_ble_eq_true rfl) dX8_told_1 ⟨(by show 0 + 1 ≤ (4 * (sz - at9) + 40); omega), (by show 0 + 6 ≤ (60 * (sz - at9) + 2 * sz + 600 - 4 * cp); omega)⟩ ⟨Nat.le_of_ble_eq_true rfl, Nat.le_of_ble_eq_true rfl⟩ (fun v3 u1 H locs hw2 hP hD hS => ?_) (fun ux ce9 q9 H9 locs9 hux hP9 hD9 hS9 hce hcv hcl => pb_out ux (ThQ.up (Thx.same (Thx.same Thx.rfl rfl) rfl) RhX.rfl hux) hnt hlocks hce hcv hcl hP9 hD9 hS9 (by show 0 + 1 ≤ (4 * (sz - at9) + 40); omega) (by show 0 + 6 ≤ (60 * (sz - at9) + 2 * sz + 600 - 4 * cp); omega))
  obtain ⟨w, at6, f7⟩ := u1
  obtain ⟨hw2, h8, hO⟩ := hw2
  have h8 : at9 + 1 ≤ at6 ∧ at6 ≤ sz := h8
  obtain rfl : v3 = some (.int (nI at9)) := hw2
  have hO : OKP G h0 a (upd (upd (upd (upd F 2 (nI sz)) 9 (nI at6)) 10 0) 11 (nI sg)) (updR R 1 (.ref pq)) Z (updA B 10 f7) J K w := hO.to rfl
  refine W.widen (k := 0) (n := 0) (by show 0 + 0 ≤ 0; omega) (by show 0 + 0 ≤ 0; omega) ?_
  refine W.eq (g2 := F0 m 4 ls [.int (nI at9)]) rfl ?_
  refine lv_istore_n (lv' := [(2, .int (nI at9)), (0, .ref (a 3)), (1, .ref d0)]) hx hb dX8_told_4 rfl hl (by decide) rfl (fun ls hl => ?_)
  refine lv_aload_n hx hb dX8_told_5 rfl (lv_at hl 1 rfl) ?_
  refine lv_bipush (v := 65) hx hb dX8_told_6 (by decide) ?_
  have hO : OKW G h0 a (upd (upd (upd (upd (upd (upd (upd F 2 (nI sz)) 9 (nI at9)) 10 0) 11 (nI sg)) 9 (nI at6)) 2 (nI sz)) 9 (nI at6)) (updR R 1 (.ref pq)) Z (updA B 10 f7) J K.1 (fun q99 x99 => x99 = rep G a K q99) w := hO.to rfl
  obtain ⟨_, qr12, hqr13⟩ := hO.2.1 23 _ (sg_23 G h0 a _ _ _ _ _)
  refine pn_V0 (G := G) (As := [.int 65]) (rest := []) hx hb hml hown hq hE hX pX0_al hP hD hS hA hl.1 (P_take l G h0 a (upd (upd (upd (upd (upd F 2 (nI sz)) 9 (nI at9)) 10 0) 11 (nI sg)) 9 (nI at6)) (updR R 1 (.ref pq)) Z (updA B 10 f7) J K.1 (fun q99 x99 => x99 = rep G a K q99) w 65 at6 sz (by omega) (by omega) (by decide) hO hl0) (gV pw_793 pw_794 pw_795 pw_796 pw_781) hV_X8_take qr12 5 hqr13 rfl rfl rfl (Nat.le_of_ble_eq_true rfl) dX8_told_8 ⟨(by show 0 + 1 ≤ (4 * (sz - at9) + 40); omega), (by show 0 + 6 ≤ (60 * (sz - at9) + 2 * sz + 600 - 4 * cp); omega)⟩ ⟨Nat.le_of_ble_eq_true rfl, Nat.le_of_ble_eq_true rfl⟩ (fun v11 u9 H locs hw10 hP hD hS => ?_) (fun ux ce9 q9 H9 locs9 hux hP9 hD9 hS9 hce hcv hcl => pb_out ux (ThQ.up (Thx.same (Thx.same (Thx.b (Thx.f Thx.rfl (by omega)) (by omega) (by decide)) rfl) rfl) RhX.rfl hux) hnt hlocks hce hcv hcl hP9 hD9 hS9 (by show 0 + 1 ≤ (4 * (sz - at9) + 40); omega) (by show 0 + 6 ≤ (60 * (sz - at9) + 2 * sz + 600 - 4 * cp); omega))
  obtain ⟨w, _⟩ := u9
  obtain ⟨hw10, h14, hO⟩ := hw10
  have h14 : at6 + 1 ≤ sz := h14
  obtain rfl : v11 = some (.int (nI at6)) := hw10
  have hO : OKP G h0 a (upd (upd (upd (upd F 2 (nI sz)) 9 (nI (at6 + 1))) 10 0) 11 (nI sg)) (updR R 1 (.ref pq)) Z (updA B 10 f7) J K w := hO.to rfl
  refine W.widen (k := 0) (n := 0) (by show 0 + 0 ≤ 0; omega) (by show 0 + 0 ≤ 0; omega) ?_
  refine W.eq (g2 := F0 m 11 ls [.int (nI at6)]) rfl ?_
  refine lv_istore_n (lv' := [(3, .int (nI at6)), (2, .int (nI at9)), (0, .ref (a 3)), (1, .ref d0)]) hx hb dX8_told_11 rfl hl (by decide) rfl (fun ls hl => ?_)
  refine lv_aload_n hx hb dX8_told_12 rfl (lv_at hl 2 rfl) ?_
  refine lv_aload_n hx hb dX8_told_13 rfl (lv_at hl 3 rfl) ?_
  refine lv_iload_n hx hb dX8_told_14 rfl (lv_at hl 1 rfl) ?_
  refine lv_iload_n hx hb dX8_told_15 rfl (lv_at hl 0 rfl) ?_
  have hO : OKP G h0 a (upd (upd (upd (upd (upd (upd (upd F 2 (nI sz)) 9 (nI at9)) 10 0) 11 (nI sg)) 9 (nI (at6 + 1))) 2 (nI sz)) 9 (nI (at6 + 1))) (updR (updR R 1 (.ref pq)) 1 (.ref pq)) Z (updA B 10 f7) J K w := hO.to rfl
  obtain ⟨_, qr18, hqr19⟩ := hO.2.1 23 _ (sg_23 G h0 a _ _ _ _ _)
  refine pn_V0 (G := G) (As := [.ref d0, .int (nI at9), .int (nI at6)]) (rest := []) hx hb hml hown hq hE hX pX0_al hP hD hS hA hl.1 (P_head l G h0 a (upd (upd (upd (upd (upd F 2 (nI sz)) 9 (nI at9)) 10 0) 11 (nI sg)) 9 (nI (at6 + 1))) (updR R 1 (.ref pq)) Z (updA B 10 f7) J K w pq dr ml nd nm cp it s9 d0 at6 (nI at9) (at6 + 1) sz g (by omega) (by omega) hwp hps hd0 (by omega) hO hl0) (gV pw_895 pw_896 pw_897 pw_796 pw_891) hV_X8_head qr18 5 hqr19 rfl rfl rfl (Nat.le_of_ble_eq_true rfl) dX8_told_16 ⟨(by show 0 + (2 * (sz - (at6 + 1)) + 10) ≤ (4 * (sz - at9) + 40); omega), (by show 0 + (60 * (sz - (at6 + 1)) + 400) ≤ (60 * (sz - at9) + 2 * sz + 600 - 4 * cp); omega)⟩ ⟨Nat.le_of_ble_eq_true rfl, Nat.le_of_ble_eq_true rfl⟩ (fun v17 u15 H locs hw16 hP hD hS => ?_) (fun ux ce9 q9 H9 locs9 hux hP9 hD9 hS9 hce hcv hcl => pb_out ux (ThQ.up (Thx.same (Thx.same (Thx.b (Thx.f Thx.rfl (by omega)) (by omega) (by decide)) rfl) rfl) (show RhX (updR R 1 (.ref pq)) (updR (updR R 1 (.ref pq)) 1 (.ref pq)) from fun k9 hk9 => by unfold updR; simp only [show ¬ k9 = 1 by omega, show ¬ k9 = 2 by omega, show ¬ k9 = 3 by omega, show ¬ k9 = 4 by omega, if_false]) hux) hnt hlocks hce hcv hcl hP9 hD9 hS9 (by show 0 + (2 * (sz - (at6 + 1)) + 10) ≤ (4 * (sz - at9) + 40); omega) (by show 0 + (60 * (sz - (at6 + 1)) + 400) ≤ (60 * (sz - at9) + 2 * sz + 600 - 4 * cp); omega))
  obtain ⟨w, K20, g21, r22, at23, f24⟩ := u15
  obtain ⟨hw16, h25, h26, h27, h28, h29, h30, hO⟩ := hw16
  have h25 : WPr G K20 g21 := h25
  have h26 : PgS G K20 g21 (a 1) pq dr ml nd nm cp it (s9 + 3 + (at23 - (at6 + 1))) := h26
  have h27 : K20.1 r22 = 3 := h27
  have h28 : K20.1 d0 = 4 := h28
  have h29 : (at6 + 1) + 2 ≤ at23 ∧ at23 ≤ sz := h29
  have h30 : Onc K20 dr nd r22 := h30
  obtain rfl : v17 = some (.ref r22) := hw16
  have hO : OKP G h0 a (upd (upd (upd (upd F 2 (nI sz)) 9 (nI at23)) 10 0) 11 (nI sg)) (updR R 1 (.ref pq)) Z (updA B 10 f24) J K20 w := hO.to rfl
  refine W.widen (k := (at23 - (at6 + 1) + 3)) (n := (60 * (at23 - (at6 + 1)) + 60)) (by show 0 + (at23 - (at6 + 1) + 3) ≤ (at23 - (at6 + 1) + 3); omega) (by show 0 + (60 * (at23 - (at6 + 1)) + 60) ≤ (60 * (at23 - (at6 + 1)) + 60); omega) ?_
  refine W.eq (g2 := F0 m 19 ls [.ref r22]) rfl ?_
  refine lv_pop hx hb dX8_told_19 rfl ?_
  refine lv_aload_n hx hb dX8_told_20 rfl (lv_at hl 2 rfl) ?_
  refine lv_bipush (v := 38) hx hb dX8_told_21 (by decide) ?_
  have hO : OKW G h0 a (upd (upd (upd (upd (upd (upd (upd F 2 (nI sz)) 9 (nI at9)) 10 0) 11 (nI sg)) 9 (nI at23)) 2 (nI sz)) 9 (nI at23)) (updR R 1 (.ref pq)) Z (updA B 10 f24) J K20.1 (fun q99 x99 => x99 = rep G a K20 q99) w := hO.to rfl
  obtain ⟨_, qr34, hqr35⟩ := hO.2.1 23 _ (sg_23 G h0 a _ _ _ _ _)
  refine pn_V0 (G := G) (As := [.int 38]) (rest := []) hx hb hml hown hq hE hX pX0_al hP hD hS hA hl.1 (P_take l G h0 a (upd (upd (upd (upd (upd F 2 (nI sz)) 9 (nI at9)) 10 0) 11 (nI sg)) 9 (nI at23)) (updR R 1 (.ref pq)) Z (updA B 10 f24) J K20.1 (fun q99 x99 => x99 = rep G a K20 q99) w 38 at23 sz (by omega) (by omega) (by decide) hO hl0) (gV pw_793 pw_794 pw_795 pw_796 pw_781) hV_X8_take qr34 5 hqr35 rfl rfl rfl (Nat.le_of_ble_eq_true rfl) dX8_told_23 ⟨(by show (at23 - (at6 + 1) + 3) + 1 ≤ (4 * (sz - at9) + 40); omega), (by show (60 * (at23 - (at6 + 1)) + 60) + 6 ≤ (60 * (sz - at9) + 2 * sz + 600 - 4 * cp); omega)⟩ ⟨Nat.le_of_ble_eq_true rfl, Nat.le_of_ble_eq_true rfl⟩ (fun v33 u31 H locs hw32 hP hD hS => ?_) (fun ux ce9 q9 H9 locs9 hux hP9 hD9 hS9 hce hcv hcl => pb_out ux (ThQ.up (Thx.same (Thx.same (Thx.b (Thx.f Thx.rfl (by omega)) (by omega) (by decide)) rfl) rfl) RhX.rfl hux) hnt hlocks hce hcv hcl hP9 hD9 hS9 (by show (at23 - (at6 + 1) + 3) + 1 ≤ (4 * (sz - at9) + 40); omega) (by show (60 * (at23 - (at6 + 1)) + 60) + 6 ≤ (60 * (sz - at9) + 2 * sz + 600 - 4 * cp); omega))
  obtain ⟨w, _⟩ := u31
  obtain ⟨hw32, h36, hO⟩ := hw32
  have h36 : at23 + 1 ≤ sz := h36
  obtain rfl : v33 = some (.int (nI at23)) := hw32
  have hO : OKP G h0 a (upd (upd (upd (upd F 2 (nI sz)) 9 (nI (at23 + 1))) 10 0) 11 (nI sg)) (updR R 1 (.ref pq)) Z (updA B 10 f24) J K20 w := hO.to rfl
  refine W.widen (k := (at23 - (at6 + 1) + 3)) (n := (60 * (at23 - (at6 + 1)) + 60)) (by show (at23 - (at6 + 1) + 3) + 0 ≤ (at23 - (at6 + 1) + 3); omega) (by show (60 * (at23 - (at6 + 1)) + 60) + 0 ≤ (60 * (at23 - (at6 + 1)) + 60); omega) ?_
  refine W.eq (g2 := F0 m 26 ls [.int (nI at23)]) rfl ?_
  refine lv_pop hx hb dX8_told_26 rfl ?_
  refine W_size (fun hz1 hz2 => ?_)
  refine vx_ret ?_
  have hz37 : WPr G K20 g21 := h25
  have hz38 : PgS G K20 g21 (a 1) pq dr ml nd nm cp it (s9 + ((at23 + 1) - at9)) := (PgS.up h26 (by omega))
  have hz39 : K20.1 d0 = 4 := h28
  have hz40 : at9 + 3 ≤ (at23 + 1) ∧ (at23 + 1) ≤ sz := (by omega)
  have hz41 : cp ≤ cp := (by omega)
  have hz42 : sg ≤ 60 := (by omega)
  have hO : OKP G h0 a (upd (upd (upd (upd F 2 (nI sz)) 9 (nI (at23 + 1))) 10 0) 11 (nI sg)) (updR R 1 (.ref pq)) Z (updA B 10 f24) J K20 w := hO.to rfl
  refine W.widen (k := (4 * (sz - at9) + 40)) (n := (60 * (sz - at9) + 2 * sz + 600 - 4 * cp)) (by omega) (by omega) ?_
  have hzz1 : H.size ≤ s.heap.size + ((4 * ((at23 + 1) - at9))) := (by have z : (at23 - (at6 + 1) + 3) ≤ (4 * ((at23 + 1) - at9)) := (by omega); omega)
  have hzz2 : hSl H ≤ hSl s.heap + ((60 * ((at23 + 1) - at9) + 4 * (cp - cp))) := (by have z : (60 * (at23 - (at6 + 1)) + 60) ≤ (60 * ((at23 + 1) - at9) + 4 * (cp - cp)) := (by omega); omega)
  exact W.vret hx hb hr (fun t99 ht99 hW99 => ⟨⟨_, (w, (K20, g21, nm, cp, it, (at23 + 1), sg, f24)), rfl, ⟨rfl, hz37, hz38, hz39, hz40, hz41, hz42, hO⟩, by rw [ht99]; exact hP, hD, by rw [ht99]; exact hzz1, by rw [ht99]; exact hzz2⟩, hS.F ht99⟩) hS.2.2 dX8_told_27
theorem dX8_member_0 : decode cX8_member 0 = .ok (.aload_n 0, 1) := by decide +kernel
theorem dX8_member_1 : decode cX8_member 1 = .ok (.bipush 27, 2) := by decide +kernel
theorem dX8_member_3 : decode cX8_member 3 = .ok (.invokevirtual 36, 3) := by decide +kernel
theorem dX8_member_6 : decode cX8_member 6 = .ok (.istore_n 2, 1) := by decide +kernel
theorem dX8_member_7 : decode cX8_member 7 = .ok (.aload_n 0, 1) := by decide +kernel
theorem dX8_member_8 : decode cX8_member 8 = .ok (.invokevirtual 95, 3) := by decide +kernel
theorem dX8_member_11 : decode cX8_member 11 = .ok (.istore_n 3, 1) := by decide +kernel
theorem dX8_member_12 : decode cX8_member 12 = .ok (.aload_n 0, 1) := by decide +kernel
theorem dX8_member_13 : decode cX8_member 13 = .ok (.bipush 65, 2) := by decide +kernel
theorem dX8_member_15 : decode cX8_member 15 = .ok (.invokevirtual 53, 3) := by decide +kernel
theorem dX8_member_18 : decode cX8_member 18 = .ok (.istore 4, 2) := by decide +kernel
theorem dX8_member_20 : decode cX8_member 20 = .ok (.aload_n 0, 1) := by decide +kernel
theorem dX8_member_21 : decode cX8_member 21 = .ok (.bipush 34, 2) := by decide +kernel
theorem dX8_member_23 : decode cX8_member 23 = .ok (.invokevirtual 36, 3) := by decide +kernel
theorem dX8_member_26 : decode cX8_member 26 = .ok (.ifCond .eq 53, 3) := by decide +kernel
theorem dX8_member_79 : decode cX8_member 79 = .ok (.iload_n 2, 1) := by decide +kernel
theorem dX8_member_80 : decode cX8_member 80 = .ok (.ifCond .ne 81, 3) := by decide +kernel
theorem dX8_member_161 : decode cX8_member 161 = .ok (.aload_n 0, 1) := by decide +kernel
theorem dX8_member_162 : decode cX8_member 162 = .ok (.invokevirtual 67, 3) := by decide +kernel
theorem dX8_member_83 : decode cX8_member 83 = .ok (.aload_n 0, 1) := by decide +kernel
theorem dX8_member_84 : decode cX8_member 84 = .ok (.bipush 39, 2) := by decide +kernel
theorem dX8_member_86 : decode cX8_member 86 = .ok (.invokevirtual 36, 3) := by decide +kernel
theorem dX8_member_89 : decode cX8_member 89 = .ok (.ifCond .ne 12, 3) := by decide +kernel
theorem dX8_member_101 : decode cX8_member 101 = .ok (.aload_n 0, 1) := by decide +kernel
theorem dX8_member_102 : decode cX8_member 102 = .ok (.aload_n 1, 1) := by decide +kernel
theorem dX8_member_103 : decode cX8_member 103 = .ok (.iload_n 3, 1) := by decide +kernel
theorem dX8_member_104 : decode cX8_member 104 = .ok (.iload 4, 2) := by decide +kernel
theorem dX8_member_106 : decode cX8_member 106 = .ok (.invokevirtual 128, 3) := by decide +kernel
theorem dX8_member_109 : decode cX8_member 109 = .ok (.iconst 0, 1) := by decide +kernel
theorem dX8_member_110 : decode cX8_member 110 = .ok (.istore 5, 2) := by decide +kernel
theorem dX8_member_112 : decode cX8_member 112 = .ok (.iload 5, 2) := by decide +kernel
theorem dX8_member_114 : decode cX8_member 114 = .ok (.aload_n 0, 1) := by decide +kernel
theorem dX8_member_115 : decode cX8_member 115 = .ok (.getfield 7, 3) := by decide +kernel
theorem dX8_member_118 : decode cX8_member 118 = .ok (.getfield 27, 3) := by decide +kernel
theorem dX8_member_121 : decode cX8_member 121 = .ok (.if_icmp .ge 30, 3) := by decide +kernel
theorem dX8_member_151 : decode cX8_member 151 = .ok (.aload_n 0, 1) := by decide +kernel
theorem dX8_member_152 : decode cX8_member 152 = .ok (.bipush 38, 2) := by decide +kernel
theorem dX8_member_154 : decode cX8_member 154 = .ok (.invokevirtual 53, 3) := by decide +kernel
theorem dX8_member_157 : decode cX8_member 157 = .ok (.pop, 1) := by decide +kernel
theorem dX8_member_158 : decode cX8_member 158 = .ok (.goto 7, 3) := by decide +kernel
theorem dX8_member_165 : decode cX8_member 165 = .ok (.return_, 1) := by decide +kernel
theorem dX8_member_124 : decode cX8_member 124 = .ok (.aload_n 0, 1) := by decide +kernel
theorem dX8_member_125 : decode cX8_member 125 = .ok (.bipush 39, 2) := by decide +kernel
theorem dX8_member_127 : decode cX8_member 127 = .ok (.invokevirtual 80, 3) := by decide +kernel
theorem dX8_member_130 : decode cX8_member 130 = .ok (.ifCond .eq 21, 3) := by decide +kernel
theorem dX8_member_133 : decode cX8_member 133 = .ok (.aload_n 0, 1) := by decide +kernel
theorem dX8_member_134 : decode cX8_member 134 = .ok (.aload_n 1, 1) := by decide +kernel
theorem dX8_member_135 : decode cX8_member 135 = .ok (.iload_n 3, 1) := by decide +kernel
theorem dX8_member_136 : decode cX8_member 136 = .ok (.aload_n 0, 1) := by decide +kernel
theorem dX8_member_137 : decode cX8_member 137 = .ok (.bipush 65, 2) := by decide +kernel
theorem dX8_member_139 : decode cX8_member 139 = .ok (.invokevirtual 53, 3) := by decide +kernel
theorem dX8_member_142 : decode cX8_member 142 = .ok (.invokevirtual 128, 3) := by decide +kernel
theorem dX8_member_145 : decode cX8_member 145 = .ok (.iinc 5 1, 3) := by decide +kernel
theorem dX8_member_148 : decode cX8_member 148 = .ok (.goto (-36), 3) := by decide +kernel
theorem dX8_member_92 : decode cX8_member 92 = .ok (.aload_n 0, 1) := by decide +kernel
theorem dX8_member_93 : decode cX8_member 93 = .ok (.bipush 38, 2) := by decide +kernel
theorem dX8_member_95 : decode cX8_member 95 = .ok (.invokevirtual 36, 3) := by decide +kernel
theorem dX8_member_98 : decode cX8_member 98 = .ok (.ifCond .eq 63, 3) := by decide +kernel
theorem dX8_member_29 : decode cX8_member 29 = .ok (.aload_n 0, 1) := by decide +kernel
theorem dX8_member_30 : decode cX8_member 30 = .ok (.aload_n 1, 1) := by decide +kernel
theorem dX8_member_31 : decode cX8_member 31 = .ok (.iload_n 3, 1) := by decide +kernel
theorem dX8_member_32 : decode cX8_member 32 = .ok (.iload 4, 2) := by decide +kernel
theorem dX8_member_34 : decode cX8_member 34 = .ok (.invokevirtual 99, 3) := by decide +kernel
theorem dX8_member_37 : decode cX8_member 37 = .ok (.astore 5, 2) := by decide +kernel
theorem dX8_member_39 : decode cX8_member 39 = .ok (.aload 5, 2) := by decide +kernel
theorem dX8_member_41 : decode cX8_member 41 = .ok (.aload_n 0, 1) := by decide +kernel
theorem dX8_member_42 : decode cX8_member 42 = .ok (.getfield 13, 3) := by decide +kernel
theorem dX8_member_45 : decode cX8_member 45 = .ok (.getfield 103, 3) := by decide +kernel
theorem dX8_member_48 : decode cX8_member 48 = .ok (.invokevirtual 107, 3) := by decide +kernel
theorem dX8_member_51 : decode cX8_member 51 = .ok (.putfield 111, 3) := by decide +kernel
theorem dX8_member_54 : decode cX8_member 54 = .ok (.aload_n 0, 1) := by decide +kernel
theorem dX8_member_55 : decode cX8_member 55 = .ok (.getfield 13, 3) := by decide +kernel
theorem dX8_member_58 : decode cX8_member 58 = .ok (.getfield 103, 3) := by decide +kernel
theorem dX8_member_61 : decode cX8_member 61 = .ok (.aload 5, 2) := by decide +kernel
theorem dX8_member_63 : decode cX8_member 63 = .ok (.invokevirtual 116, 3) := by decide +kernel
theorem dX8_member_66 : decode cX8_member 66 = .ok (.pop, 1) := by decide +kernel
theorem dX8_member_67 : decode cX8_member 67 = .ok (.aload 5, 2) := by decide +kernel
theorem dX8_member_69 : decode cX8_member 69 = .ok (.aload_n 0, 1) := by decide +kernel
theorem dX8_member_70 : decode cX8_member 70 = .ok (.invokevirtual 120, 3) := by decide +kernel
theorem dX8_member_73 : decode cX8_member 73 = .ok (.putfield 124, 3) := by decide +kernel
theorem dX8_member_76 : decode cX8_member 76 = .ok (.goto 89, 3) := by decide +kernel
theorem hV_X8_addField : yX8_addField.cls = RX8 ∧ yX8_addField.cls ≠ "java/lang/invoke/MethodHandle" ∧ yX8_addField.cls ≠ "java/lang/invoke/VarHandle" ∧ (parseMethodDescriptor yX8_addField.desc).map (fun d => d.parameters.length) = some 3 := by decide +kernel
set_option maxHeartbeats 60000000 in
set_option maxRecDepth 100000 in
theorem P_member (l : Launch) (G : pT) (h0 : Nat) (a : Nat → Nat) (F : Nat → Int32) (R : Nat → Value) (Z : Int64) (B : Nat → Nat → Int32) (J : Nat → Nat → Int64) (K : PK) (w : va_W) (pq : Nat) (dr : Nat) (ml : Nat) (nd : Nat) (nm : Nat) (cp : Nat) (it : Nat → Nat) (s9 : Nat) (d0 : Nat) (sg : Nat) (at9 : Nat) (sz : Nat) (g : Nat → Nat → Nat) (hsz : sz ≤ 5000) (hat : at9 ≤ sz) (hwp : WPr G K g) (hps : PgS G K g (a 1) pq dr ml nd nm cp it s9) (hd0 : K.1 d0 = 4) (hs9 : s9 ≤ at9) (hsg : sg ≤ 60) (hO : OKP G h0 a (upd (upd (upd (upd F 2 (nI sz)) 9 (nI at9)) 10 0) 11 (nI sg)) (updR R 1 (.ref pq)) Z B J K w) (hl0 : l.stackTraces = false) : PBn l G pX0 yX8_member cX8_member 6 none ({ frames := (1060), cells := (4 * (sz - at9) + 40), slots := (60 * (sz - at9) + 2 * sz + 600 - 4 * cp), locals := (31700) }) [.ref (a 3), .ref d0] w (fun (v : Option Value) (u : va_W × (PK × (Nat → Nat → Nat) × Nat × Nat × (Nat → Nat) × Nat × Nat × (Nat → Int32))) => v = none ∧ (WPr G u.2.1 u.2.2.1) ∧ (PgS G u.2.1 u.2.2.1 (a 1) pq dr ml nd u.2.2.2.1 u.2.2.2.2.1 u.2.2.2.2.2.1 (s9 + (u.2.2.2.2.2.2.1 - at9))) ∧ (u.2.1.1 d0 = 4) ∧ (at9 + 3 ≤ u.2.2.2.2.2.2.1 ∧ u.2.2.2.2.2.2.1 ≤ sz) ∧ (cp ≤ u.2.2.2.2.1) ∧ (u.2.2.2.2.2.2.2.1 ≤ 60) ∧ (OKP G h0 a (upd (upd (upd (upd F 2 (nI sz)) 9 (nI u.2.2.2.2.2.2.1)) 10 0) 11 (nI u.2.2.2.2.2.2.2.1)) (updR R 1 (.ref pq)) Z (updA B 10 u.2.2.2.2.2.2.2.2) J u.2.1 u.1)) (fun u => u.1) (fun (u : va_W × (PK × (Nat → Nat → Nat) × Nat × Nat × (Nat → Nat) × Nat × Nat × (Nat → Int32))) => (4 * (u.2.2.2.2.2.2.1 - at9))) (fun (u : va_W × (PK × (Nat → Nat → Nat) × Nat × Nat × (Nat → Nat) × Nat × Nat × (Nat → Int32))) => (60 * (u.2.2.2.2.2.2.1 - at9) + 4 * (u.2.2.2.2.1 - cp))) (fun (u : va_W × (Nat → Int32) × (Nat → Value) × (Nat → Nat → Int32)) => ThQ G h0 a (upd (upd (upd (upd F 2 (nI sz)) 9 (nI at9)) 10 0) 11 (nI sg)) (updR R 1 (.ref pq)) Z B J u) (fun u => u.1) := by
  intro sz
  refine vx_ofW (cc := cX8_member) (maxL := 6) (ret := none) (by decide) rfl ?_
  intro p e s m args below meth c s₁ B9 hml hnt hv
  obtain ⟨rfl, hsz, hP, hD0, hE, hX⟩ := hv
  have hx := B9.exec
  have hb := B9.bytes
  have hr := B9.returns
  have hts := atoms_spec (ws := Cond.code yX8_member cX8_member 6 none :: pw) B9.pre
  have hq : ∀ w ∈ pw, w.before _ s = true := fun w h => hts w (List.mem_cons_of_mem _ h)
  have hown : s.vm.findClass RX8 = some m.cls := findClass_of_methodNamed B9.named
  have hlocks := B9.notSynchronized
  subst hsz
  have hD := hD0.self (sz := s.heap.size)
  have hA : ∀ q : Nat, s.heap.size ≤ q → va_A w s.heap.size q := fun q h => Or.inr h
  generalize va_A w s.heap.size = A at hD hE hA ⊢
  have hS : va_S A s.heap s.heap [] := va_S.rf
  have hl := lv_entry ([.ref (a 3), .ref d0]) (n := 6) (Nat.le_of_ble_eq_true rfl)
  rw [lg_entry_eq]
  generalize (lg_sl ([.ref (a 3), .ref d0]) ++ List.replicate (6 - (lg_sl ([.ref (a 3), .ref d0])).length) Slot.unset).toArray = ls at hl ⊢
  have hl : lv_has ls 6 [(0, .ref (a 3)), (1, .ref d0)] := hl
  have hcp7 := hps.2.2.2.2.2.2.1
  have hnm7 := hps.2.2.2.2.2.1
  have hnm8 := hps.2.2.1.2.2.1
  refine lv_aload_n hx hb dX8_member_0 rfl (lv_at hl 0 rfl) ?_
  refine lv_bipush (v := 27) hx hb dX8_member_1 (by decide) ?_
  have hO : OKW G h0 a (upd (upd (upd (upd (upd (upd F 2 (nI sz)) 9 (nI at9)) 10 0) 11 (nI sg)) 2 (nI sz)) 9 (nI at9)) (updR R 1 (.ref pq)) Z B J K.1 (fun q99 x99 => x99 = rep G a K q99) w := hO.to rfl
  obtain ⟨_, qr4, hqr5⟩ := hO.2.1 23 _ (sg_23 G h0 a _ _ _ _ _)
  refine pc_V0 (G := G) (As := [.int 27]) (rest := []) hx hb hml hown hq hE hX pX0_al hP hD hS hA hl.1 (P_sees l G h0 a (upd (upd (upd (upd F 2 (nI sz)) 9 (nI at9)) 10 0) 11 (nI sg)) (updR R 1 (.ref pq)) Z B J K.1 (fun q99 x99 => x99 = rep G a K q99) w 27 at9 sz (by omega) (by omega) hO) (gV pw_803 pw_804 pw_805 pw_796 pw_775) hV_X8_sees qr4 5 hqr5 rfl rfl rfl (Nat.le_of_ble_eq_true rfl) dX8_member_3 ⟨(by show 0 + 0 ≤ (4 * (sz - at9) + 40); omega), (by show 0 + 0 ≤ (60 * (sz - at9) + 2 * sz + 600 - 4 * cp); omega)⟩ ⟨(by show 3 + 1 ≤ (1060); omega), (by show 8 + (2 + 11) + 81 ≤ (31700); omega)⟩ (fun v3 u1 H locs hw2 hP hD hS => ?_)
  obtain ⟨w, r6⟩ := u1
  obtain ⟨hw2, h7, hO⟩ := hw2
  have h7 : r6 ≤ 1 := h7
  obtain rfl : v3 = some (.int (nI r6)) := hw2
  have hO : OKP G h0 a (upd (upd (upd (upd F 2 (nI sz)) 9 (nI at9)) 10 0) 11 (nI sg)) (updR R 1 (.ref pq)) Z B J K w := hO.to rfl
  refine W.widen (k := 0) (n := 0) (Nat.le_of_ble_eq_true rfl) (Nat.le_of_ble_eq_true rfl) ?_
  refine W.eq (g2 := F0 m 6 ls [.int (nI r6)]) rfl ?_
  refine lv_istore_n (lv' := [(2, .int (nI r6)), (0, .ref (a 3)), (1, .ref d0)]) hx hb dX8_member_6 rfl hl (by decide) rfl (fun ls hl => ?_)
  refine lv_aload_n hx hb dX8_member_7 rfl (lv_at hl 1 rfl) ?_
  have hO : OKW G h0 a (upd (upd (upd (upd (upd (upd F 2 (nI sz)) 9 (nI at9)) 10 0) 11 (nI sg)) 2 (nI sz)) 9 (nI at9)) (updR R 1 (.ref pq)) Z B J K.1 (fun q99 x99 => x99 = rep G a K q99) w := hO.to rfl
  obtain ⟨_, qr11, hqr12⟩ := hO.2.1 23 _ (sg_23 G h0 a _ _ _ _ _)
  refine pn_V0 (G := G) (As := []) (rest := []) hx hb hml hown hq hE hX pX0_al hP hD hS hA hl.1 (P_takeResult l G h0 a (upd (upd (upd (upd F 2 (nI sz)) 9 (nI at9)) 10 0) 11 (nI sg)) (updR R 1 (.ref pq)) Z B J K.1 (fun q99 x99 => x99 = rep G a K q99) w at9 sz (by omega) (by omega) hO hl0) (gV pw_892 pw_893 pw_894 pw_796 pw_828) hV_X8_takeResult qr11 5 hqr12 rfl rfl rfl (Nat.le_of_ble_eq_true rfl) dX8_member_8 ⟨(by show 0 + 1 ≤ (4 * (sz - at9) + 40); omega), (by show 0 + 6 ≤ (60 * (sz - at9) + 2 * sz + 600 - 4 * cp); omega)⟩ ⟨(by show 8 + 1 ≤ (1060); omega), (by show 8 + (1 + 11) + 145 ≤ (31700); omega)⟩ (fun v10 u8 H locs hw9 hP hD hS => ?_) (fun ux ce9 q9 H9 locs9 hux hP9 hD9 hS9 hce hcv hcl => pb_out ux (ThQ.up (Thx.same (Thx.same Thx.rfl rfl) rfl) RhX.rfl hux) hnt hlocks hce hcv hcl hP9 hD9 hS9 (by show 0 + 1 ≤ (4 * (sz - at9) + 40); omega) (by show 0 + 6 ≤ (60 * (sz - at9) + 2 * sz + 600 - 4 * cp); omega))
  obtain ⟨w, at13, f14⟩ := u8
  obtain ⟨hw9, h15, hO⟩ := hw9
  have h15 : at9 + 1 ≤ at13 ∧ at13 ≤ sz := h15
  obtain rfl : v10 = some (.int (nI at9)) := hw9
  have hO : OKP G h0 a (upd (upd (upd (upd F 2 (nI sz)) 9 (nI at13)) 10 0) 11 (nI sg)) (updR R 1 (.ref pq)) Z (updA B 10 f14) J K w := hO.to rfl
  refine W.widen (k := 0) (n := 0) (by show 0 + 0 ≤ 0; omega) (by show 0 + 0 ≤ 0; omega) ?_
  refine W.eq (g2 := F0 m 11 ls [.int (nI at9)]) rfl ?_
  refine lv_istore_n (lv' := [(3, .int (nI at9)), (2, .int (nI r6)), (0, .ref (a 3)), (1, .ref d0)]) hx hb dX8_member_11 rfl hl (by decide) rfl (fun ls hl => ?_)
  refine lv_aload_n hx hb dX8_member_12 rfl (lv_at hl 2 rfl) ?_
  refine lv_bipush (v := 65) hx hb dX8_member_13 (by decide) ?_
  have hO : OKW G h0 a (upd (upd (upd (upd (upd (upd (upd F 2 (nI sz)) 9 (nI at9)) 10 0) 11 (nI sg)) 9 (nI at13)) 2 (nI sz)) 9 (nI at13)) (updR R 1 (.ref pq)) Z (updA B 10 f14) J K.1 (fun q99 x99 => x99 = rep G a K q99) w := hO.to rfl
  obtain ⟨_, qr19, hqr20⟩ := hO.2.1 23 _ (sg_23 G h0 a _ _ _ _ _)
  refine pn_V0 (G := G) (As := [.int 65]) (rest := []) hx hb hml hown hq hE hX pX0_al hP hD hS hA hl.1 (P_take l G h0 a (upd (upd (upd (upd (upd F 2 (nI sz)) 9 (nI at9)) 10 0) 11 (nI sg)) 9 (nI at13)) (updR R 1 (.ref pq)) Z (updA B 10 f14) J K.1 (fun q99 x99 => x99 = rep G a K q99) w 65 at13 sz (by omega) (by omega) (by decide) hO hl0) (gV pw_793 pw_794 pw_795 pw_796 pw_781) hV_X8_take qr19 5 hqr20 rfl rfl rfl (Nat.le_of_ble_eq_true rfl) dX8_member_15 ⟨(by show 0 + 1 ≤ (4 * (sz - at9) + 40); omega), (by show 0 + 6 ≤ (60 * (sz - at9) + 2 * sz + 600 - 4 * cp); omega)⟩ ⟨(by show 7 + 1 ≤ (1060); omega), (by show 8 + (2 + 11) + 122 ≤ (31700); omega)⟩ (fun v18 u16 H locs hw17 hP hD hS => ?_) (fun ux ce9 q9 H9 locs9 hux hP9 hD9 hS9 hce hcv hcl => pb_out ux (ThQ.up (Thx.same (Thx.same (Thx.b (Thx.f Thx.rfl (by omega)) (by omega) (by decide)) rfl) rfl) RhX.rfl hux) hnt hlocks hce hcv hcl hP9 hD9 hS9 (by show 0 + 1 ≤ (4 * (sz - at9) + 40); omega) (by show 0 + 6 ≤ (60 * (sz - at9) + 2 * sz + 600 - 4 * cp); omega))
  obtain ⟨w, _⟩ := u16
  obtain ⟨hw17, h21, hO⟩ := hw17
  have h21 : at13 + 1 ≤ sz := h21
  obtain rfl : v18 = some (.int (nI at13)) := hw17
  have hO : OKP G h0 a (upd (upd (upd (upd F 2 (nI sz)) 9 (nI (at13 + 1))) 10 0) 11 (nI sg)) (updR R 1 (.ref pq)) Z (updA B 10 f14) J K w := hO.to rfl
  refine W.widen (k := 0) (n := 0) (by show 0 + 0 ≤ 0; omega) (by show 0 + 0 ≤ 0; omega) ?_
  refine W.eq (g2 := F0 m 18 ls [.int (nI at13)]) rfl ?_
  refine lv_istore (lv' := [(4, .int (nI at13)), (3, .int (nI at9)), (2, .int (nI r6)), (0, .ref (a 3)), (1, .ref d0)]) hx hb dX8_member_18 hl (by decide) rfl (fun ls hl => ?_)
  refine lv_aload_n hx hb dX8_member_20 rfl (lv_at hl 3 rfl) ?_
  refine lv_bipush (v := 34) hx hb dX8_member_21 (by decide) ?_
  have hO : OKW G h0 a (upd (upd (upd (upd (upd (upd F 2 (nI sz)) 9 (nI (at13 + 1))) 10 0) 11 (nI sg)) 2 (nI sz)) 9 (nI (at13 + 1))) (updR R 1 (.ref pq)) Z (updA B 10 f14) J K.1 (fun q99 x99 => x99 = rep G a K q99) w := hO.to rfl
  obtain ⟨_, qr25, hqr26⟩ := hO.2.1 23 _ (sg_23 G h0 a _ _ _ _ _)
  refine pc_V0 (G := G) (As := [.int 34]) (rest := []) hx hb hml hown hq hE hX pX0_al hP hD hS hA hl.1 (P_sees l G h0 a (upd (upd (upd (upd F 2 (nI sz)) 9 (nI (at13 + 1))) 10 0) 11 (nI sg)) (updR R 1 (.ref pq)) Z (updA B 10 f14) J K.1 (fun q99 x99 => x99 = rep G a K q99) w 34 (at13 + 1) sz (by omega) (by omega) hO) (gV pw_803 pw_804 pw_805 pw_796 pw_775) hV_X8_sees qr25 5 hqr26 rfl rfl rfl (Nat.le_of_ble_eq_true rfl) dX8_member_23 ⟨(by show 0 + 0 ≤ (4 * (sz - at9) + 40); omega), (by show 0 + 0 ≤ (60 * (sz - at9) + 2 * sz + 600 - 4 * cp); omega)⟩ ⟨(by show 3 + 1 ≤ (1060); omega), (by show 8 + (2 + 11) + 81 ≤ (31700); omega)⟩ (fun v24 u22 H locs hw23 hP hD hS => ?_)
  obtain ⟨w, r27⟩ := u22
  obtain ⟨hw23, h28, hO⟩ := hw23
  have h28 : r27 ≤ 1 := h28
  obtain rfl : v24 = some (.int (nI r27)) := hw23
  have hO : OKP G h0 a (upd (upd (upd (upd F 2 (nI sz)) 9 (nI (at13 + 1))) 10 0) 11 (nI sg)) (updR R 1 (.ref pq)) Z (updA B 10 f14) J K w := hO.to rfl
  refine W.widen (k := 0) (n := 0) (Nat.le_of_ble_eq_true rfl) (Nat.le_of_ble_eq_true rfl) ?_
  refine W.eq (g2 := F0 m 26 ls [.int (nI r27)]) rfl ?_
  refine lv_if_eq (tgt := 79) hx hb dX8_member_26 (by decide) (fun c29 => ?_) (fun c29 => ?_)
  · have n30 : r27 = 0 := (nI_eq (a := r27) (b := 0) (by omega) (by omega)).mp c29
    refine lv_iload_n hx hb dX8_member_79 rfl (lv_at hl 2 rfl) ?_
    refine lv_if_ne (tgt := 161) hx hb dX8_member_80 (by decide) (fun c31 => ?_) (fun c31 => ?_)
    · have n32 : ¬ (r6 = 0) := fun h9 => c31 ((nI_eq (a := r6) (b := 0) (by omega) (by omega)).mpr h9)
      refine lv_aload_n hx hb dX8_member_161 rfl (lv_at hl 3 rfl) ?_
      have hO : OKW G h0 a (upd (upd (upd (upd (upd (upd (upd F 2 (nI sz)) 9 (nI at9)) 10 0) 11 (nI sg)) 9 (nI (at13 + 1))) 2 (nI sz)) 9 (nI (at13 + 1))) (updR R 1 (.ref pq)) Z (updA B 10 f14) J K.1 (fun q99 x99 => x99 = rep G a K q99) w := hO.to rfl
      obtain ⟨_, qr36, hqr37⟩ := hO.2.1 23 _ (sg_23 G h0 a _ _ _ _ _)
      refine pn_V0 (G := G) (As := []) (rest := []) hx hb hml hown hq hE hX pX0_al hP hD hS hA hl.1 (P_refuse l G h0 a (upd (upd (upd (upd (upd F 2 (nI sz)) 9 (nI at9)) 10 0) 11 (nI sg)) 9 (nI (at13 + 1))) (updR R 1 (.ref pq)) Z (updA B 10 f14) J K.1 (fun q99 x99 => x99 = rep G a K q99) w (at13 + 1) sz (by omega) (by omega) hO hl0) (gV pw_806 pw_807 pw_808 pw_796 pw_778) hV_X8_refuse qr36 5 hqr37 rfl rfl rfl (Nat.le_of_ble_eq_true rfl) dX8_member_162 ⟨(by show 0 + 1 ≤ (4 * (sz - at9) + 40); omega), (by show 0 + 6 ≤ (60 * (sz - at9) + 2 * sz + 600 - 4 * cp); omega)⟩ ⟨(by show 7 + 1 ≤ (1060); omega), (by show 8 + (1 + 11) + 122 ≤ (31700); omega)⟩ (fun v35 u33 H locs hw34 hP hD hS => hw34.elim) (fun ux ce9 q9 H9 locs9 hux hP9 hD9 hS9 hce hcv hcl => pb_out ux (ThQ.up (Thx.same (Thx.same (Thx.b (Thx.f Thx.rfl (by omega)) (by omega) (by decide)) rfl) rfl) RhX.rfl hux) hnt hlocks hce hcv hcl hP9 hD9 hS9 (by show 0 + 1 ≤ (4 * (sz - at9) + 40); omega) (by show 0 + 6 ≤ (60 * (sz - at9) + 2 * sz + 600 - 4 * cp); omega))
    · have n38 : r6 = 0 := (nI_eq (a := r6) (b := 0) (by omega) (by omega)).mp c31
      refine lv_aload_n hx hb dX8_member_83 rfl (lv_at hl 3 rfl) ?_
      refine lv_bipush (v := 39) hx hb dX8_member_84 (by decide) ?_
      have hO : OKW G h0 a (upd (upd (upd (upd (upd (upd F 2 (nI sz)) 9 (nI (at13 + 1))) 10 0) 11 (nI sg)) 2 (nI sz)) 9 (nI (at13 + 1))) (updR R 1 (.ref pq)) Z (updA B 10 f14) J K.1 (fun q99 x99 => x99 = rep G a K q99) w := hO.to rfl
      obtain ⟨_, qr42, hqr43⟩ := hO.2.1 23 _ (sg_23 G h0 a _ _ _ _ _)
      refine pc_V0 (G := G) (As := [.int 39]) (rest := []) hx hb hml hown hq hE hX pX0_al hP hD hS hA hl.1 (P_sees l G h0 a (upd (upd (upd (upd F 2 (nI sz)) 9 (nI (at13 + 1))) 10 0) 11 (nI sg)) (updR R 1 (.ref pq)) Z (updA B 10 f14) J K.1 (fun q99 x99 => x99 = rep G a K q99) w 39 (at13 + 1) sz (by omega) (by omega) hO) (gV pw_803 pw_804 pw_805 pw_796 pw_775) hV_X8_sees qr42 5 hqr43 rfl rfl rfl (Nat.le_of_ble_eq_true rfl) dX8_member_86 ⟨(by show 0 + 0 ≤ (4 * (sz - at9) + 40); omega), (by show 0 + 0 ≤ (60 * (sz - at9) + 2 * sz + 600 - 4 * cp); omega)⟩ ⟨(by show 3 + 1 ≤ (1060); omega), (by show 8 + (2 + 11) + 81 ≤ (31700); omega)⟩ (fun v41 u39 H locs hw40 hP hD hS => ?_)
      obtain ⟨w, r44⟩ := u39
      obtain ⟨hw40, h45, hO⟩ := hw40
      have h45 : r44 ≤ 1 := h45
      obtain rfl : v41 = some (.int (nI r44)) := hw40
      have hO : OKP G h0 a (upd (upd (upd (upd F 2 (nI sz)) 9 (nI (at13 + 1))) 10 0) 11 (nI sg)) (updR R 1 (.ref pq)) Z (updA B 10 f14) J K w := hO.to rfl
      refine W.widen (k := 0) (n := 0) (Nat.le_of_ble_eq_true rfl) (Nat.le_of_ble_eq_true rfl) ?_
      refine W.eq (g2 := F0 m 89 ls [.int (nI r44)]) rfl ?_
      refine lv_if_ne (tgt := 101) hx hb dX8_member_89 (by decide) (fun c46 => ?_) (fun c46 => ?_)
      · have n47 : ¬ (r44 = 0) := fun h9 => c46 ((nI_eq (a := r44) (b := 0) (by omega) (by omega)).mpr h9)
        refine lv_aload_n hx hb dX8_member_101 rfl (lv_at hl 3 rfl) ?_
        refine lv_aload_n hx hb dX8_member_102 rfl (lv_at hl 4 rfl) ?_
        refine lv_iload_n hx hb dX8_member_103 rfl (lv_at hl 1 rfl) ?_
        refine lv_iload hx hb dX8_member_104 (lv_at hl 0 rfl) ?_
        have hO : OKP G h0 a (upd (upd (upd (upd (upd (upd (upd F 2 (nI sz)) 9 (nI at9)) 10 0) 11 (nI sg)) 9 (nI (at13 + 1))) 2 (nI sz)) 9 (nI (at13 + 1))) (updR (updR R 1 (.ref pq)) 1 (.ref pq)) Z (updA B 10 f14) J K w := hO.to rfl
        obtain ⟨_, qr51, hqr52⟩ := hO.2.1 23 _ (sg_23 G h0 a _ _ _ _ _)
        refine pn_V0 (G := G) (As := [.ref d0, .int (nI at9), .int (nI at13)]) (rest := []) hx hb hml hown hq hE hX pX0_al hP hD hS hA hl.1 (P_addField l G h0 a (upd (upd (upd (upd (upd F 2 (nI sz)) 9 (nI at9)) 10 0) 11 (nI sg)) 9 (nI (at13 + 1))) (updR R 1 (.ref pq)) Z (updA B 10 f14) J K w pq dr ml nd nm cp it s9 d0 at13 (nI at9) (at13 + 1) sz g (by omega) (by omega) hwp hps hd0 (by omega) hO hl0) (gV pw_1062 pw_1063 pw_1064 pw_796 pw_1058) hV_X8_addField qr51 5 hqr52 rfl rfl rfl (Nat.le_of_ble_eq_true rfl) dX8_member_106 ⟨(by show 0 + 3 ≤ (4 * (sz - at9) + 40); omega), (by show 0 + 100 ≤ (60 * (sz - at9) + 2 * sz + 600 - 4 * cp); omega)⟩ ⟨(by show 8 + 1 ≤ (1060); omega), (by show 8 + (4 + 11) + 191 ≤ (31700); omega)⟩ (fun v50 u48 H locs hw49 hP hD hS => ?_) (fun ux ce9 q9 H9 locs9 hux hP9 hD9 hS9 hce hcv hcl => pb_out ux (ThQ.up (Thx.same (Thx.same (Thx.b (Thx.f Thx.rfl (by omega)) (by omega) (by decide)) rfl) rfl) (show RhX (updR R 1 (.ref pq)) (updR (updR R 1 (.ref pq)) 1 (.ref pq)) from fun k9 hk9 => by unfold updR; simp only [show ¬ k9 = 1 by omega, show ¬ k9 = 2 by omega, show ¬ k9 = 3 by omega, show ¬ k9 = 4 by omega, if_false]) hux) hnt hlocks hce hcv hcl hP9 hD9 hS9 (by show 0 + 3 ≤ (4 * (sz - at9) + 40); omega) (by show 0 + 100 ≤ (60 * (sz - at9) + 2 * sz + 600 - 4 * cp); omega))
        obtain ⟨w, K53, g54⟩ := u48
        obtain ⟨hw49, h55, h56, h57, hO⟩ := hw49
        have h55 : WPr G K53 g54 := h55
        have h56 : PgS G K53 g54 (a 1) pq dr ml nd nm cp it (s9 + 2) := h56
        have h57 : K53.1 d0 = 4 := h57
        obtain rfl : v50 = none := hw49
        have hO : OKP G h0 a (upd (upd (upd (upd F 2 (nI sz)) 9 (nI (at13 + 1))) 10 0) 11 (nI sg)) (updR R 1 (.ref pq)) Z (updA B 10 f14) J K53 w := hO.to rfl
        refine W.widen (k := 2) (n := 90) (by show 0 + 2 ≤ 2; omega) (by show 0 + 90 ≤ 90; omega) ?_
        refine W.eq (g2 := F0 m 109 ls []) rfl ?_
        refine lv_iconst (v := 0) hx hb dX8_member_109 (by decide) ?_
        refine lv_istore (lv' := [(5, .int 0), (4, .int (nI at13)), (3, .int (nI at9)), (2, .int (nI r6)), (0, .ref (a 3)), (1, .ref d0)]) hx hb dX8_member_110 hl (by decide) rfl (fun ls hl => ?_)
        have loop_f : ∀ (n_f : Nat) (i2 : Nat) (at2 : Nat) (f9 : Nat → Int32) (K2 : PK) (g2 : Nat → Nat → Nat) (s2 : Nat) (x3 : Nat) (H : Heap) (locs : List Loc) (ls : Array Slot) (w : va_W), i2 ≤ sz → sz + 1 ≤ i2 + n_f → (at9 + 2 ≤ at2 ∧ at2 ≤ sz) → (WPr G K2 g2) → (PgS G K2 g2 (a 1) pq dr ml nd nm cp it s2) → (s2 ≤ s9 + (at2 - at9)) → (K2.1 d0 = 4) → va_P G.1 pCl w H → va_D A w → va_S A s.heap H locs → OKP G h0 a (upd (upd (upd (upd F 2 (nI sz)) 9 (nI at2)) 10 0) 11 (nI sg)) (updR R 1 (.ref pq)) Z (updA B 10 f9) J K2 w → lv_has ls 6 [(5, .int (nI i2)), (3, .int (nI x3)), (1, .ref d0), (0, .ref (a 3))] → W p l e (headSpec (Cond.code yX8_member cX8_member 6 none :: pw) ({ frames := (1060), cells := (4 * (sz - at9) + 40), slots := (60 * (sz - at9) + 2 * sz + 600 - 4 * cp), locals := (31700) } : Room)).room s m ([.ref (a 3), .ref d0] : List Value).toArray below meth c H locs (2 * (at2 - at9)) (60 * (at2 - at9)) (vx_MQ below (pQn G A (fun (v : Option Value) (u : va_W × (PK × (Nat → Nat → Nat) × Nat × Nat × (Nat → Nat) × Nat × Nat × (Nat → Int32))) => v = none ∧ (WPr G u.2.1 u.2.2.1) ∧ (PgS G u.2.1 u.2.2.1 (a 1) pq dr ml nd u.2.2.2.1 u.2.2.2.2.1 u.2.2.2.2.2.1 (s9 + (u.2.2.2.2.2.2.1 - at9))) ∧ (u.2.1.1 d0 = 4) ∧ (at9 + 3 ≤ u.2.2.2.2.2.2.1 ∧ u.2.2.2.2.2.2.1 ≤ sz) ∧ (cp ≤ u.2.2.2.2.1) ∧ (u.2.2.2.2.2.2.2.1 ≤ 60) ∧ (OKP G h0 a (upd (upd (upd (upd F 2 (nI sz)) 9 (nI u.2.2.2.2.2.2.1)) 10 0) 11 (nI u.2.2.2.2.2.2.2.1)) (updR R 1 (.ref pq)) Z (updA B 10 u.2.2.2.2.2.2.2.2) J u.2.1 u.1)) (fun u => u.1) (fun (u : va_W × (PK × (Nat → Nat → Nat) × Nat × Nat × (Nat → Nat) × Nat × Nat × (Nat → Int32))) => (4 * (u.2.2.2.2.2.2.1 - at9))) (fun (u : va_W × (PK × (Nat → Nat → Nat) × Nat × Nat × (Nat → Nat) × Nat × Nat × (Nat → Int32))) => (60 * (u.2.2.2.2.2.2.1 - at9) + 4 * (u.2.2.2.2.1 - cp)))) (pXX G A (fun (u : va_W × (Nat → Int32) × (Nat → Value) × (Nat → Nat → Int32)) => ThQ G h0 a (upd (upd (upd (upd F 2 (nI sz)) 9 (nI at9)) 10 0) 11 (nI sg)) (updR R 1 (.ref pq)) Z B J u) (fun u => u.1)) ([.ref (a 3), .ref d0] : List Value).toArray s ({ frames := (1060), cells := (4 * (sz - at9) + 40), slots := (60 * (sz - at9) + 2 * sz + 600 - 4 * cp), locals := (31700) } : Room).cells ({ frames := (1060), cells := (4 * (sz - at9) + 40), slots := (60 * (sz - at9) + 2 * sz + 600 - 4 * cp), locals := (31700) } : Room).slots A) (F0 m 112 ls []) := by
          intro n_f
          induction n_f with
          | zero => intro i2 at2 f9 K2 g2 s2 x3 H locs ls w hk_f hn_f; omega
          | succ n_f ih_f =>
            intro i2 at2 f9 K2 g2 s2 x3 H locs ls w hk_f hn_f hat2 hwp2 hps2 hs2 hd2 hP hD hS hO hl
            refine lv_iload hx hb dX8_member_112 (lv_at hl 0 rfl) ?_
            refine lv_aload_n hx hb dX8_member_114 rfl (lv_at hl 3 rfl) ?_
            refine c_get (v := .ref (a 1)) (C := RX8) (Tc := TX8) (N := 5) (ci := 5) hx hb hq pin_wsX80 hown hE hP hO 23 (sg_23 G h0 a _ _ _ _ _) rfl 0 (by decide) (hq _ pw_774) (fun _ h9 => h9) rfl dX8_member_115 ?_
            refine c_get (v := .int (nI sz)) (C := RX10) (Tc := TX10) (N := 15) (ci := 7) hx hb hq pin_wsX100 hown hE hP hO 2 (sg_2 G h0 a _ _ _ _ _) rfl 8 (by decide) (hq _ pw_792) (fun _ h9 => h9) rfl dX8_member_118 ?_
            refine lv_icmp_ge (tgt := 151) hx hb dX8_member_121 (by decide) (fun c58 => ?_) (fun c58 => ?_)
            · have n59 : sz ≤ i2 := (nI_leI (a := sz) (b := i2) (by omega) (by omega)).mp c58
              refine lv_aload_n hx hb dX8_member_151 rfl (lv_at hl 3 rfl) ?_
              refine lv_bipush (v := 38) hx hb dX8_member_152 (by decide) ?_
              have hO : OKW G h0 a (upd (upd (upd (upd (upd (upd (upd F 2 (nI sz)) 9 (nI at9)) 10 0) 11 (nI sg)) 9 (nI at2)) 2 (nI sz)) 9 (nI at2)) (updR R 1 (.ref pq)) Z (updA B 10 f9) J K2.1 (fun q99 x99 => x99 = rep G a K2 q99) w := hO.to rfl
              obtain ⟨_, qr63, hqr64⟩ := hO.2.1 23 _ (sg_23 G h0 a _ _ _ _ _)
              refine pn_V0 (G := G) (As := [.int 38]) (rest := []) hx hb hml hown hq hE hX pX0_al hP hD hS hA hl.1 (P_take l G h0 a (upd (upd (upd (upd (upd F 2 (nI sz)) 9 (nI at9)) 10 0) 11 (nI sg)) 9 (nI at2)) (updR R 1 (.ref pq)) Z (updA B 10 f9) J K2.1 (fun q99 x99 => x99 = rep G a K2 q99) w 38 at2 sz (by omega) (by omega) (by decide) hO hl0) (gV pw_793 pw_794 pw_795 pw_796 pw_781) hV_X8_take qr63 5 hqr64 rfl rfl rfl (Nat.le_of_ble_eq_true rfl) dX8_member_154 ⟨(by show (2 * (at2 - at9)) + 1 ≤ (4 * (sz - at9) + 40); omega), (by show (60 * (at2 - at9)) + 6 ≤ (60 * (sz - at9) + 2 * sz + 600 - 4 * cp); omega)⟩ ⟨(by show 7 + 1 ≤ (1060); omega), (by show 8 + (2 + 11) + 122 ≤ (31700); omega)⟩ (fun v62 u60 H locs hw61 hP hD hS => ?_) (fun ux ce9 q9 H9 locs9 hux hP9 hD9 hS9 hce hcv hcl => pb_out ux (ThQ.up (Thx.same (Thx.same (Thx.b (Thx.f Thx.rfl (by omega)) (by omega) (by decide)) rfl) rfl) RhX.rfl hux) hnt hlocks hce hcv hcl hP9 hD9 hS9 (by show (2 * (at2 - at9)) + 1 ≤ (4 * (sz - at9) + 40); omega) (by show (60 * (at2 - at9)) + 6 ≤ (60 * (sz - at9) + 2 * sz + 600 - 4 * cp); omega))
              obtain ⟨w, _⟩ := u60
              obtain ⟨hw61, h65, hO⟩ := hw61
              have h65 : at2 + 1 ≤ sz := h65
              obtain rfl : v62 = some (.int (nI at2)) := hw61
              have hO : OKP G h0 a (upd (upd (upd (upd F 2 (nI sz)) 9 (nI (at2 + 1))) 10 0) 11 (nI sg)) (updR R 1 (.ref pq)) Z (updA B 10 f9) J K2 w := hO.to rfl
              refine W.widen (k := (2 * (at2 - at9))) (n := (60 * (at2 - at9))) (by show (2 * (at2 - at9)) + 0 ≤ (2 * (at2 - at9)); omega) (by show (60 * (at2 - at9)) + 0 ≤ (60 * (at2 - at9)); omega) ?_
              refine W.eq (g2 := F0 m 157 ls [.int (nI at2)]) rfl ?_
              refine lv_pop hx hb dX8_member_157 rfl ?_
              refine lv_goto (tgt := 165) hx hb dX8_member_158 (by decide) ?_
              refine W_size (fun hz1 hz2 => ?_)
              refine vx_ret ?_
              have hz66 : WPr G K2 g2 := hwp2
              have hz67 : PgS G K2 g2 (a 1) pq dr ml nd nm cp it (s9 + ((at2 + 1) - at9)) := (PgS.up hps2 (by omega))
              have hz68 : K2.1 d0 = 4 := hd2
              have hz69 : at9 + 3 ≤ (at2 + 1) ∧ (at2 + 1) ≤ sz := (by omega)
              have hz70 : cp ≤ cp := (by omega)
              have hz71 : sg ≤ 60 := (by omega)
              have hO : OKP G h0 a (upd (upd (upd (upd F 2 (nI sz)) 9 (nI (at2 + 1))) 10 0) 11 (nI sg)) (updR R 1 (.ref pq)) Z (updA B 10 f9) J K2 w := hO.to rfl
              refine W.widen (k := (4 * (sz - at9) + 40)) (n := (60 * (sz - at9) + 2 * sz + 600 - 4 * cp)) (by omega) (by omega) ?_
              have hzz1 : H.size ≤ s.heap.size + ((4 * ((at2 + 1) - at9))) := (by have z : (2 * (at2 - at9)) ≤ (4 * ((at2 + 1) - at9)) := (by omega); omega)
              have hzz2 : hSl H ≤ hSl s.heap + ((60 * ((at2 + 1) - at9) + 4 * (cp - cp))) := (by have z : (60 * (at2 - at9)) ≤ (60 * ((at2 + 1) - at9) + 4 * (cp - cp)) := (by omega); omega)
              exact W.vret hx hb hr (fun t99 ht99 hW99 => ⟨⟨_, (w, (K2, g2, nm, cp, it, (at2 + 1), sg, f9)), rfl, ⟨rfl, hz66, hz67, hz68, hz69, hz70, hz71, hO⟩, by rw [ht99]; exact hP, hD, by rw [ht99]; exact hzz1, by rw [ht99]; exact hzz2⟩, hS.F ht99⟩) hS.2.2 dX8_member_165
            · have n72 : ¬ (sz ≤ i2) := fun h9 => c58 ((nI_leI (a := sz) (b := i2) (by omega) (by omega)).mpr h9)
              refine lv_aload_n hx hb dX8_member_124 rfl (lv_at hl 3 rfl) ?_
              refine lv_bipush (v := 39) hx hb dX8_member_125 (by decide) ?_
              have hO : OKW G h0 a (upd (upd (upd (upd (upd (upd F 2 (nI sz)) 9 (nI at2)) 10 0) 11 (nI sg)) 2 (nI sz)) 9 (nI at2)) (updR R 1 (.ref pq)) Z (updA B 10 f9) J K2.1 (fun q99 x99 => x99 = rep G a K2 q99) w := hO.to rfl
              obtain ⟨_, qr76, hqr77⟩ := hO.2.1 23 _ (sg_23 G h0 a _ _ _ _ _)
              refine pc_V0 (G := G) (As := [.int 39]) (rest := []) hx hb hml hown hq hE hX pX0_al hP hD hS hA hl.1 (P_takeIf l G h0 a (upd (upd (upd (upd F 2 (nI sz)) 9 (nI at2)) 10 0) 11 (nI sg)) (updR R 1 (.ref pq)) Z (updA B 10 f9) J K2.1 (fun q99 x99 => x99 = rep G a K2 q99) w 39 at2 sz (by omega) (by omega) (by decide) hO) (gV pw_797 pw_798 pw_799 pw_796 pw_789) hV_X8_takeIf qr76 5 hqr77 rfl rfl rfl (Nat.le_of_ble_eq_true rfl) dX8_member_127 ⟨(by show (2 * (at2 - at9)) + 0 ≤ (4 * (sz - at9) + 40); omega), (by show (60 * (at2 - at9)) + 0 ≤ (60 * (sz - at9) + 2 * sz + 600 - 4 * cp); omega)⟩ ⟨(by show 3 + 1 ≤ (1060); omega), (by show 8 + (2 + 11) + 81 ≤ (31700); omega)⟩ (fun v75 u73 H locs hw74 hP hD hS => ?_)
              obtain ⟨w, r78⟩ := u73
              obtain ⟨hw74, h79, h80, hO⟩ := hw74
              have h79 : r78 ≤ 1 := h79
              have h80 : at2 + r78 ≤ sz := h80
              obtain rfl : v75 = some (.int (nI r78)) := hw74
              have hO : OKP G h0 a (upd (upd (upd (upd F 2 (nI sz)) 9 (nI (at2 + r78))) 10 0) 11 (nI sg)) (updR R 1 (.ref pq)) Z (updA B 10 f9) J K2 w := hO.to rfl
              refine W.widen (k := (2 * (at2 - at9))) (n := (60 * (at2 - at9))) (by show (2 * (at2 - at9)) + 0 ≤ (2 * (at2 - at9)); omega) (by show (60 * (at2 - at9)) + 0 ≤ (60 * (at2 - at9)); omega) ?_
              refine W.eq (g2 := F0 m 130 ls [.int (nI r78)]) rfl ?_
              refine lv_if_eq (tgt := 151) hx hb dX8_member_130 (by decide) (fun c81 => ?_) (fun c81 => ?_)
              · have n82 : r78 = 0 := (nI_eq (a := r78) (b := 0) (by omega) (by omega)).mp c81
                refine lv_aload_n hx hb dX8_member_151 rfl (lv_at hl 3 rfl) ?_
                refine lv_bipush (v := 38) hx hb dX8_member_152 (by decide) ?_
                have hO : OKW G h0 a (upd (upd (upd (upd (upd (upd (upd F 2 (nI sz)) 9 (nI at9)) 10 0) 11 (nI sg)) 9 (nI (at2 + r78))) 2 (nI sz)) 9 (nI (at2 + r78))) (updR R 1 (.ref pq)) Z (updA B 10 f9) J K2.1 (fun q99 x99 => x99 = rep G a K2 q99) w := hO.to rfl
                obtain ⟨_, qr86, hqr87⟩ := hO.2.1 23 _ (sg_23 G h0 a _ _ _ _ _)
                refine pn_V0 (G := G) (As := [.int 38]) (rest := []) hx hb hml hown hq hE hX pX0_al hP hD hS hA hl.1 (P_take l G h0 a (upd (upd (upd (upd (upd F 2 (nI sz)) 9 (nI at9)) 10 0) 11 (nI sg)) 9 (nI (at2 + r78))) (updR R 1 (.ref pq)) Z (updA B 10 f9) J K2.1 (fun q99 x99 => x99 = rep G a K2 q99) w 38 (at2 + r78) sz (by omega) (by omega) (by decide) hO hl0) (gV pw_793 pw_794 pw_795 pw_796 pw_781) hV_X8_take qr86 5 hqr87 rfl rfl rfl (Nat.le_of_ble_eq_true rfl) dX8_member_154 ⟨(by show (2 * (at2 - at9)) + 1 ≤ (4 * (sz - at9) + 40); omega), (by show (60 * (at2 - at9)) + 6 ≤ (60 * (sz - at9) + 2 * sz + 600 - 4 * cp); omega)⟩ ⟨(by show 7 + 1 ≤ (1060); omega), (by show 8 + (2 + 11) + 122 ≤ (31700); omega)⟩ (fun v85 u83 H locs hw84 hP hD hS => ?_) (fun ux ce9 q9 H9 locs9 hux hP9 hD9 hS9 hce hcv hcl => pb_out ux (ThQ.up (Thx.same (Thx.same (Thx.b (Thx.f Thx.rfl (by omega)) (by omega) (by decide)) rfl) rfl) RhX.rfl hux) hnt hlocks hce hcv hcl hP9 hD9 hS9 (by show (2 * (at2 - at9)) + 1 ≤ (4 * (sz - at9) + 40); omega) (by show (60 * (at2 - at9)) + 6 ≤ (60 * (sz - at9) + 2 * sz + 600 - 4 * cp); omega))
                obtain ⟨w, _⟩ := u83
                obtain ⟨hw84, h88, hO⟩ := hw84
                have h88 : (at2 + r78) + 1 ≤ sz := h88
                obtain rfl : v85 = some (.int (nI (at2 + r78))) := hw84
                have hO : OKP G h0 a (upd (upd (upd (upd F 2 (nI sz)) 9 (nI ((at2 + r78) + 1))) 10 0) 11 (nI sg)) (updR R 1 (.ref pq)) Z (updA B 10 f9) J K2 w := hO.to rfl
                refine W.widen (k := (2 * (at2 - at9))) (n := (60 * (at2 - at9))) (by show (2 * (at2 - at9)) + 0 ≤ (2 * (at2 - at9)); omega) (by show (60 * (at2 - at9)) + 0 ≤ (60 * (at2 - at9)); omega) ?_
                refine W.eq (g2 := F0 m 157 ls [.int (nI (at2 + r78))]) rfl ?_
                refine lv_pop hx hb dX8_member_157 rfl ?_
                refine lv_goto (tgt := 165) hx hb dX8_member_158 (by decide) ?_
                refine W_size (fun hz1 hz2 => ?_)
                refine vx_ret ?_
                have hz89 : WPr G K2 g2 := hwp2
                have hz90 : PgS G K2 g2 (a 1) pq dr ml nd nm cp it (s9 + (((at2 + r78) + 1) - at9)) := (PgS.up hps2 (by omega))
                have hz91 : K2.1 d0 = 4 := hd2
                have hz92 : at9 + 3 ≤ ((at2 + r78) + 1) ∧ ((at2 + r78) + 1) ≤ sz := (by omega)
                have hz93 : cp ≤ cp := (by omega)
                have hz94 : sg ≤ 60 := (by omega)
                have hO : OKP G h0 a (upd (upd (upd (upd F 2 (nI sz)) 9 (nI ((at2 + r78) + 1))) 10 0) 11 (nI sg)) (updR R 1 (.ref pq)) Z (updA B 10 f9) J K2 w := hO.to rfl
                refine W.widen (k := (4 * (sz - at9) + 40)) (n := (60 * (sz - at9) + 2 * sz + 600 - 4 * cp)) (by omega) (by omega) ?_
                have hzz1 : H.size ≤ s.heap.size + ((4 * (((at2 + r78) + 1) - at9))) := (by have z : (2 * (at2 - at9)) ≤ (4 * (((at2 + r78) + 1) - at9)) := (by omega); omega)
                have hzz2 : hSl H ≤ hSl s.heap + ((60 * (((at2 + r78) + 1) - at9) + 4 * (cp - cp))) := (by have z : (60 * (at2 - at9)) ≤ (60 * (((at2 + r78) + 1) - at9) + 4 * (cp - cp)) := (by omega); omega)
                exact W.vret hx hb hr (fun t99 ht99 hW99 => ⟨⟨_, (w, (K2, g2, nm, cp, it, ((at2 + r78) + 1), sg, f9)), rfl, ⟨rfl, hz89, hz90, hz91, hz92, hz93, hz94, hO⟩, by rw [ht99]; exact hP, hD, by rw [ht99]; exact hzz1, by rw [ht99]; exact hzz2⟩, hS.F ht99⟩) hS.2.2 dX8_member_165
              · have n95 : ¬ (r78 = 0) := fun h9 => c81 ((nI_eq (a := r78) (b := 0) (by omega) (by omega)).mpr h9)
                refine lv_aload_n hx hb dX8_member_133 rfl (lv_at hl 3 rfl) ?_
                refine lv_aload_n hx hb dX8_member_134 rfl (lv_at hl 2 rfl) ?_
                refine lv_iload_n hx hb dX8_member_135 rfl (lv_at hl 1 rfl) ?_
                refine lv_aload_n hx hb dX8_member_136 rfl (lv_at hl 3 rfl) ?_
                refine lv_bipush (v := 65) hx hb dX8_member_137 (by decide) ?_
                have hO : OKW G h0 a (upd (upd (upd (upd (upd (upd (upd F 2 (nI sz)) 9 (nI at9)) 10 0) 11 (nI sg)) 9 (nI (at2 + r78))) 2 (nI sz)) 9 (nI (at2 + r78))) (updR R 1 (.ref pq)) Z (updA B 10 f9) J K2.1 (fun q99 x99 => x99 = rep G a K2 q99) w := hO.to rfl
                obtain ⟨_, qr99, hqr100⟩ := hO.2.1 23 _ (sg_23 G h0 a _ _ _ _ _)
                refine pn_V0 (G := G) (As := [.int 65]) (rest := [.int (nI x3), .ref d0, .ref (a 3)]) hx hb hml hown hq hE hX pX0_al hP hD hS hA hl.1 (P_take l G h0 a (upd (upd (upd (upd (upd F 2 (nI sz)) 9 (nI at9)) 10 0) 11 (nI sg)) 9 (nI (at2 + r78))) (updR R 1 (.ref pq)) Z (updA B 10 f9) J K2.1 (fun q99 x99 => x99 = rep G a K2 q99) w 65 (at2 + r78) sz (by omega) (by omega) (by decide) hO hl0) (gV pw_793 pw_794 pw_795 pw_796 pw_781) hV_X8_take qr99 5 hqr100 rfl rfl rfl (Nat.le_of_ble_eq_true rfl) dX8_member_139 ⟨(by show (2 * (at2 - at9)) + 1 ≤ (4 * (sz - at9) + 40); omega), (by show (60 * (at2 - at9)) + 6 ≤ (60 * (sz - at9) + 2 * sz + 600 - 4 * cp); omega)⟩ ⟨(by show 7 + 1 ≤ (1060); omega), (by show 8 + (2 + 11) + 122 ≤ (31700); omega)⟩ (fun v98 u96 H locs hw97 hP hD hS => ?_) (fun ux ce9 q9 H9 locs9 hux hP9 hD9 hS9 hce hcv hcl => pb_out ux (ThQ.up (Thx.same (Thx.same (Thx.b (Thx.f Thx.rfl (by omega)) (by omega) (by decide)) rfl) rfl) RhX.rfl hux) hnt hlocks hce hcv hcl hP9 hD9 hS9 (by show (2 * (at2 - at9)) + 1 ≤ (4 * (sz - at9) + 40); omega) (by show (60 * (at2 - at9)) + 6 ≤ (60 * (sz - at9) + 2 * sz + 600 - 4 * cp); omega))
                obtain ⟨w, _⟩ := u96
                obtain ⟨hw97, h101, hO⟩ := hw97
                have h101 : (at2 + r78) + 1 ≤ sz := h101
                obtain rfl : v98 = some (.int (nI (at2 + r78))) := hw97
                have hO : OKP G h0 a (upd (upd (upd (upd F 2 (nI sz)) 9 (nI ((at2 + r78) + 1))) 10 0) 11 (nI sg)) (updR R 1 (.ref pq)) Z (updA B 10 f9) J K2 w := hO.to rfl
                refine W.widen (k := (2 * (at2 - at9))) (n := (60 * (at2 - at9))) (by show (2 * (at2 - at9)) + 0 ≤ (2 * (at2 - at9)); omega) (by show (60 * (at2 - at9)) + 0 ≤ (60 * (at2 - at9)); omega) ?_
                refine W.eq (g2 := F0 m 142 ls [.int (nI (at2 + r78)), .int (nI x3), .ref d0, .ref (a 3)]) rfl ?_
                have hO : OKP G h0 a (upd (upd (upd (upd (upd (upd (upd F 2 (nI sz)) 9 (nI at9)) 10 0) 11 (nI sg)) 9 (nI ((at2 + r78) + 1))) 2 (nI sz)) 9 (nI ((at2 + r78) + 1))) (updR (updR R 1 (.ref pq)) 1 (.ref pq)) Z (updA B 10 f9) J K2 w := hO.to rfl
                obtain ⟨_, qr105, hqr106⟩ := hO.2.1 23 _ (sg_23 G h0 a _ _ _ _ _)
                refine pn_V0 (G := G) (As := [.ref d0, .int (nI x3), .int (nI (at2 + r78))]) (rest := []) hx hb hml hown hq hE hX pX0_al hP hD hS hA hl.1 (P_addField l G h0 a (upd (upd (upd (upd (upd F 2 (nI sz)) 9 (nI at9)) 10 0) 11 (nI sg)) 9 (nI ((at2 + r78) + 1))) (updR R 1 (.ref pq)) Z (updA B 10 f9) J K2 w pq dr ml nd nm cp it s2 d0 (at2 + r78) (nI x3) ((at2 + r78) + 1) sz g2 (by omega) (by omega) hwp2 hps2 hd2 (by omega) hO hl0) (gV pw_1062 pw_1063 pw_1064 pw_796 pw_1058) hV_X8_addField qr105 5 hqr106 rfl rfl rfl (Nat.le_of_ble_eq_true rfl) dX8_member_142 ⟨(by show (2 * (at2 - at9)) + 3 ≤ (4 * (sz - at9) + 40); omega), (by show (60 * (at2 - at9)) + 100 ≤ (60 * (sz - at9) + 2 * sz + 600 - 4 * cp); omega)⟩ ⟨(by show 8 + 1 ≤ (1060); omega), (by show 8 + (4 + 11) + 191 ≤ (31700); omega)⟩ (fun v104 u102 H locs hw103 hP hD hS => ?_) (fun ux ce9 q9 H9 locs9 hux hP9 hD9 hS9 hce hcv hcl => pb_out ux (ThQ.up (Thx.same (Thx.same (Thx.b (Thx.f Thx.rfl (by omega)) (by omega) (by decide)) rfl) rfl) (show RhX (updR R 1 (.ref pq)) (updR (updR R 1 (.ref pq)) 1 (.ref pq)) from fun k9 hk9 => by unfold updR; simp only [show ¬ k9 = 1 by omega, show ¬ k9 = 2 by omega, show ¬ k9 = 3 by omega, show ¬ k9 = 4 by omega, if_false]) hux) hnt hlocks hce hcv hcl hP9 hD9 hS9 (by show (2 * (at2 - at9)) + 3 ≤ (4 * (sz - at9) + 40); omega) (by show (60 * (at2 - at9)) + 100 ≤ (60 * (sz - at9) + 2 * sz + 600 - 4 * cp); omega))
                obtain ⟨w, K107, g108⟩ := u102
                obtain ⟨hw103, h109, h110, h111, hO⟩ := hw103
                have h109 : WPr G K107 g108 := h109
                have h110 : PgS G K107 g108 (a 1) pq dr ml nd nm cp it (s2 + 2) := h110
                have h111 : K107.1 d0 = 4 := h111
                obtain rfl : v104 = none := hw103
                have hO : OKP G h0 a (upd (upd (upd (upd F 2 (nI sz)) 9 (nI ((at2 + r78) + 1))) 10 0) 11 (nI sg)) (updR R 1 (.ref pq)) Z (updA B 10 f9) J K107 w := hO.to rfl
                refine W.widen (k := ((2 * (at2 - at9)) + 2)) (n := ((60 * (at2 - at9)) + 90)) (by show (2 * (at2 - at9)) + 2 ≤ ((2 * (at2 - at9)) + 2); omega) (by show (60 * (at2 - at9)) + 90 ≤ ((60 * (at2 - at9)) + 90); omega) ?_
                refine W.eq (g2 := F0 m 145 ls []) rfl ?_
                refine lv_iinc (v := (nI (i2 + 1))) (lv' := [(5, .int (nI (i2 + 1))), (3, .int (nI x3)), (1, .ref d0), (0, .ref (a 3))]) hx hb dX8_member_145 hl (k := 0) rfl (nI_1 i2) (by decide) rfl (fun ls hl => ?_)
                refine lv_goto (tgt := 112) hx hb dX8_member_148 (by decide) ?_
                refine W.widen (k := (2 * (((at2 + r78) + 1) - at9))) (n := (60 * (((at2 + r78) + 1) - at9))) (by show ((2 * (at2 - at9)) + 2) ≤ _; omega) (by show ((60 * (at2 - at9)) + 90) ≤ _; omega) ?_
                have hO : OKP G h0 a (upd (upd (upd (upd F 2 (nI sz)) 9 (nI ((at2 + r78) + 1))) 10 0) 11 (nI sg)) (updR R 1 (.ref pq)) Z (updA B 10 f9) J K107 w := hO.to rfl
                exact ih_f (i2 + 1) ((at2 + r78) + 1) f9 K107 g108 (s2 + 2) x3 _ _ _ _ (by omega) (by omega) (by omega) h109 h110 (by omega) h111 hP hD hS hO (lv_sub hl [0, 1, 2, 3] rfl)
        refine W.widen (k := (2 * ((at13 + 1) - at9))) (n := (60 * ((at13 + 1) - at9))) (by show 2 ≤ _; omega) (by show 90 ≤ _; omega) ?_
        have hO : OKP G h0 a (upd (upd (upd (upd F 2 (nI sz)) 9 (nI (at13 + 1))) 10 0) 11 (nI sg)) (updR R 1 (.ref pq)) Z (updA B 10 f14) J K53 w := hO.to rfl
        exact loop_f (sz + 1) 0 (at13 + 1) f14 K53 g54 (s9 + 2) at9 _ _ _ _ (by omega) (by omega) (by omega) h55 h56 (by omega) h57 hP hD hS hO (lv_sub hl [0, 2, 5, 4] rfl)
      · have n112 : r44 = 0 := (nI_eq (a := r44) (b := 0) (by omega) (by omega)).mp c46
        refine lv_aload_n hx hb dX8_member_92 rfl (lv_at hl 3 rfl) ?_
        refine lv_bipush (v := 38) hx hb dX8_member_93 (by decide) ?_
        have hO : OKW G h0 a (upd (upd (upd (upd (upd (upd F 2 (nI sz)) 9 (nI (at13 + 1))) 10 0) 11 (nI sg)) 2 (nI sz)) 9 (nI (at13 + 1))) (updR R 1 (.ref pq)) Z (updA B 10 f14) J K.1 (fun q99 x99 => x99 = rep G a K q99) w := hO.to rfl
        obtain ⟨_, qr116, hqr117⟩ := hO.2.1 23 _ (sg_23 G h0 a _ _ _ _ _)
        refine pc_V0 (G := G) (As := [.int 38]) (rest := []) hx hb hml hown hq hE hX pX0_al hP hD hS hA hl.1 (P_sees l G h0 a (upd (upd (upd (upd F 2 (nI sz)) 9 (nI (at13 + 1))) 10 0) 11 (nI sg)) (updR R 1 (.ref pq)) Z (updA B 10 f14) J K.1 (fun q99 x99 => x99 = rep G a K q99) w 38 (at13 + 1) sz (by omega) (by omega) hO) (gV pw_803 pw_804 pw_805 pw_796 pw_775) hV_X8_sees qr116 5 hqr117 rfl rfl rfl (Nat.le_of_ble_eq_true rfl) dX8_member_95 ⟨(by show 0 + 0 ≤ (4 * (sz - at9) + 40); omega), (by show 0 + 0 ≤ (60 * (sz - at9) + 2 * sz + 600 - 4 * cp); omega)⟩ ⟨(by show 3 + 1 ≤ (1060); omega), (by show 8 + (2 + 11) + 81 ≤ (31700); omega)⟩ (fun v115 u113 H locs hw114 hP hD hS => ?_)
        obtain ⟨w, r118⟩ := u113
        obtain ⟨hw114, h119, hO⟩ := hw114
        have h119 : r118 ≤ 1 := h119
        obtain rfl : v115 = some (.int (nI r118)) := hw114
        have hO : OKP G h0 a (upd (upd (upd (upd F 2 (nI sz)) 9 (nI (at13 + 1))) 10 0) 11 (nI sg)) (updR R 1 (.ref pq)) Z (updA B 10 f14) J K w := hO.to rfl
        refine W.widen (k := 0) (n := 0) (Nat.le_of_ble_eq_true rfl) (Nat.le_of_ble_eq_true rfl) ?_
        refine W.eq (g2 := F0 m 98 ls [.int (nI r118)]) rfl ?_
        refine lv_if_eq (tgt := 161) hx hb dX8_member_98 (by decide) (fun c120 => ?_) (fun c120 => ?_)
        · have n121 : r118 = 0 := (nI_eq (a := r118) (b := 0) (by omega) (by omega)).mp c120
          refine lv_aload_n hx hb dX8_member_161 rfl (lv_at hl 3 rfl) ?_
          have hO : OKW G h0 a (upd (upd (upd (upd (upd (upd (upd F 2 (nI sz)) 9 (nI at9)) 10 0) 11 (nI sg)) 9 (nI (at13 + 1))) 2 (nI sz)) 9 (nI (at13 + 1))) (updR R 1 (.ref pq)) Z (updA B 10 f14) J K.1 (fun q99 x99 => x99 = rep G a K q99) w := hO.to rfl
          obtain ⟨_, qr125, hqr126⟩ := hO.2.1 23 _ (sg_23 G h0 a _ _ _ _ _)
          refine pn_V0 (G := G) (As := []) (rest := []) hx hb hml hown hq hE hX pX0_al hP hD hS hA hl.1 (P_refuse l G h0 a (upd (upd (upd (upd (upd F 2 (nI sz)) 9 (nI at9)) 10 0) 11 (nI sg)) 9 (nI (at13 + 1))) (updR R 1 (.ref pq)) Z (updA B 10 f14) J K.1 (fun q99 x99 => x99 = rep G a K q99) w (at13 + 1) sz (by omega) (by omega) hO hl0) (gV pw_806 pw_807 pw_808 pw_796 pw_778) hV_X8_refuse qr125 5 hqr126 rfl rfl rfl (Nat.le_of_ble_eq_true rfl) dX8_member_162 ⟨(by show 0 + 1 ≤ (4 * (sz - at9) + 40); omega), (by show 0 + 6 ≤ (60 * (sz - at9) + 2 * sz + 600 - 4 * cp); omega)⟩ ⟨(by show 7 + 1 ≤ (1060); omega), (by show 8 + (1 + 11) + 122 ≤ (31700); omega)⟩ (fun v124 u122 H locs hw123 hP hD hS => hw123.elim) (fun ux ce9 q9 H9 locs9 hux hP9 hD9 hS9 hce hcv hcl => pb_out ux (ThQ.up (Thx.same (Thx.same (Thx.b (Thx.f Thx.rfl (by omega)) (by omega) (by decide)) rfl) rfl) RhX.rfl hux) hnt hlocks hce hcv hcl hP9 hD9 hS9 (by show 0 + 1 ≤ (4 * (sz - at9) + 40); omega) (by show 0 + 6 ≤ (60 * (sz - at9) + 2 * sz + 600 - 4 * cp); omega))
        · have n127 : ¬ (r118 = 0) := fun h9 => c120 ((nI_eq (a := r118) (b := 0) (by omega) (by omega)).mpr h9)
          refine lv_aload_n hx hb dX8_member_101 rfl (lv_at hl 3 rfl) ?_
          refine lv_aload_n hx hb dX8_member_102 rfl (lv_at hl 4 rfl) ?_
          refine lv_iload_n hx hb dX8_member_103 rfl (lv_at hl 1 rfl) ?_
          refine lv_iload hx hb dX8_member_104 (lv_at hl 0 rfl) ?_
          have hO : OKP G h0 a (upd (upd (upd (upd (upd (upd (upd F 2 (nI sz)) 9 (nI at9)) 10 0) 11 (nI sg)) 9 (nI (at13 + 1))) 2 (nI sz)) 9 (nI (at13 + 1))) (updR (updR R 1 (.ref pq)) 1 (.ref pq)) Z (updA B 10 f14) J K w := hO.to rfl
          obtain ⟨_, qr131, hqr132⟩ := hO.2.1 23 _ (sg_23 G h0 a _ _ _ _ _)
          refine pn_V0 (G := G) (As := [.ref d0, .int (nI at9), .int (nI at13)]) (rest := []) hx hb hml hown hq hE hX pX0_al hP hD hS hA hl.1 (P_addField l G h0 a (upd (upd (upd (upd (upd F 2 (nI sz)) 9 (nI at9)) 10 0) 11 (nI sg)) 9 (nI (at13 + 1))) (updR R 1 (.ref pq)) Z (updA B 10 f14) J K w pq dr ml nd nm cp it s9 d0 at13 (nI at9) (at13 + 1) sz g (by omega) (by omega) hwp hps hd0 (by omega) hO hl0) (gV pw_1062 pw_1063 pw_1064 pw_796 pw_1058) hV_X8_addField qr131 5 hqr132 rfl rfl rfl (Nat.le_of_ble_eq_true rfl) dX8_member_106 ⟨(by show 0 + 3 ≤ (4 * (sz - at9) + 40); omega), (by show 0 + 100 ≤ (60 * (sz - at9) + 2 * sz + 600 - 4 * cp); omega)⟩ ⟨(by show 8 + 1 ≤ (1060); omega), (by show 8 + (4 + 11) + 191 ≤ (31700); omega)⟩ (fun v130 u128 H locs hw129 hP hD hS => ?_) (fun ux ce9 q9 H9 locs9 hux hP9 hD9 hS9 hce hcv hcl => pb_out ux (ThQ.up (Thx.same (Thx.same (Thx.b (Thx.f Thx.rfl (by omega)) (by omega) (by decide)) rfl) rfl) (show RhX (updR R 1 (.ref pq)) (updR (updR R 1 (.ref pq)) 1 (.ref pq)) from fun k9 hk9 => by unfold updR; simp only [show ¬ k9 = 1 by omega, show ¬ k9 = 2 by omega, show ¬ k9 = 3 by omega, show ¬ k9 = 4 by omega, if_false]) hux) hnt hlocks hce hcv hcl hP9 hD9 hS9 (by show 0 + 3 ≤ (4 * (sz - at9) + 40); omega) (by show 0 + 100 ≤ (60 * (sz - at9) + 2 * sz + 600 - 4 * cp); omega))
          obtain ⟨w, K133, g134⟩ := u128
          obtain ⟨hw129, h135, h136, h137, hO⟩ := hw129
          have h135 : WPr G K133 g134 := h135
          have h136 : PgS G K133 g134 (a 1) pq dr ml nd nm cp it (s9 + 2) := h136
          have h137 : K133.1 d0 = 4 := h137
          obtain rfl : v130 = none := hw129
          have hO : OKP G h0 a (upd (upd (upd (upd F 2 (nI sz)) 9 (nI (at13 + 1))) 10 0) 11 (nI sg)) (updR R 1 (.ref pq)) Z (updA B 10 f14) J K133 w := hO.to rfl
          refine W.widen (k := 2) (n := 90) (by show 0 + 2 ≤ 2; omega) (by show 0 + 90 ≤ 90; omega) ?_
          refine W.eq (g2 := F0 m 109 ls []) rfl ?_
          refine lv_iconst (v := 0) hx hb dX8_member_109 (by decide) ?_
          refine lv_istore (lv' := [(5, .int 0), (4, .int (nI at13)), (3, .int (nI at9)), (2, .int (nI r6)), (0, .ref (a 3)), (1, .ref d0)]) hx hb dX8_member_110 hl (by decide) rfl (fun ls hl => ?_)
          have loop_f : ∀ (n_f : Nat) (i2 : Nat) (at2 : Nat) (f9 : Nat → Int32) (K2 : PK) (g2 : Nat → Nat → Nat) (s2 : Nat) (x3 : Nat) (H : Heap) (locs : List Loc) (ls : Array Slot) (w : va_W), i2 ≤ sz → sz + 1 ≤ i2 + n_f → (at9 + 2 ≤ at2 ∧ at2 ≤ sz) → (WPr G K2 g2) → (PgS G K2 g2 (a 1) pq dr ml nd nm cp it s2) → (s2 ≤ s9 + (at2 - at9)) → (K2.1 d0 = 4) → va_P G.1 pCl w H → va_D A w → va_S A s.heap H locs → OKP G h0 a (upd (upd (upd (upd F 2 (nI sz)) 9 (nI at2)) 10 0) 11 (nI sg)) (updR R 1 (.ref pq)) Z (updA B 10 f9) J K2 w → lv_has ls 6 [(5, .int (nI i2)), (3, .int (nI x3)), (1, .ref d0), (0, .ref (a 3))] → W p l e (headSpec (Cond.code yX8_member cX8_member 6 none :: pw) ({ frames := (1060), cells := (4 * (sz - at9) + 40), slots := (60 * (sz - at9) + 2 * sz + 600 - 4 * cp), locals := (31700) } : Room)).room s m ([.ref (a 3), .ref d0] : List Value).toArray below meth c H locs (2 * (at2 - at9)) (60 * (at2 - at9)) (vx_MQ below (pQn G A (fun (v : Option Value) (u : va_W × (PK × (Nat → Nat → Nat) × Nat × Nat × (Nat → Nat) × Nat × Nat × (Nat → Int32))) => v = none ∧ (WPr G u.2.1 u.2.2.1) ∧ (PgS G u.2.1 u.2.2.1 (a 1) pq dr ml nd u.2.2.2.1 u.2.2.2.2.1 u.2.2.2.2.2.1 (s9 + (u.2.2.2.2.2.2.1 - at9))) ∧ (u.2.1.1 d0 = 4) ∧ (at9 + 3 ≤ u.2.2.2.2.2.2.1 ∧ u.2.2.2.2.2.2.1 ≤ sz) ∧ (cp ≤ u.2.2.2.2.1) ∧ (u.2.2.2.2.2.2.2.1 ≤ 60) ∧ (OKP G h0 a (upd (upd (upd (upd F 2 (nI sz)) 9 (nI u.2.2.2.2.2.2.1)) 10 0) 11 (nI u.2.2.2.2.2.2.2.1)) (updR R 1 (.ref pq)) Z (updA B 10 u.2.2.2.2.2.2.2.2) J u.2.1 u.1)) (fun u => u.1) (fun (u : va_W × (PK × (Nat → Nat → Nat) × Nat × Nat × (Nat → Nat) × Nat × Nat × (Nat → Int32))) => (4 * (u.2.2.2.2.2.2.1 - at9))) (fun (u : va_W × (PK × (Nat → Nat → Nat) × Nat × Nat × (Nat → Nat) × Nat × Nat × (Nat → Int32))) => (60 * (u.2.2.2.2.2.2.1 - at9) + 4 * (u.2.2.2.2.1 - cp)))) (pXX G A (fun (u : va_W × (Nat → Int32) × (Nat → Value) × (Nat → Nat → Int32)) => ThQ G h0 a (upd (upd (upd (upd F 2 (nI sz)) 9 (nI at9)) 10 0) 11 (nI sg)) (updR R 1 (.ref pq)) Z B J u) (fun u => u.1)) ([.ref (a 3), .ref d0] : List Value).toArray s ({ frames := (1060), cells := (4 * (sz - at9) + 40), slots := (60 * (sz - at9) + 2 * sz + 600 - 4 * cp), locals := (31700) } : Room).cells ({ frames := (1060), cells := (4 * (sz - at9) + 40), slots := (60 * (sz - at9) + 2 * sz + 600 - 4 * cp), locals := (31700) } : Room).slots A) (F0 m 112 ls []) := by
            intro n_f
            induction n_f with
            | zero => intro i2 at2 f9 K2 g2 s2 x3 H locs ls w hk_f hn_f; omega
            | succ n_f ih_f =>
              intro i2 at2 f9 K2 g2 s2 x3 H locs ls w hk_f hn_f hat2 hwp2 hps2 hs2 hd2 hP hD hS hO hl
              refine lv_iload hx hb dX8_member_112 (lv_at hl 0 rfl) ?_
              refine lv_aload_n hx hb dX8_member_114 rfl (lv_at hl 3 rfl) ?_
              refine c_get (v := .ref (a 1)) (C := RX8) (Tc := TX8) (N := 5) (ci := 5) hx hb hq pin_wsX80 hown hE hP hO 23 (sg_23 G h0 a _ _ _ _ _) rfl 0 (by decide) (hq _ pw_774) (fun _ h9 => h9) rfl dX8_member_115 ?_
              refine c_get (v := .int (nI sz)) (C := RX10) (Tc := TX10) (N := 15) (ci := 7) hx hb hq pin_wsX100 hown hE hP hO 2 (sg_2 G h0 a _ _ _ _ _) rfl 8 (by decide) (hq _ pw_792) (fun _ h9 => h9) rfl dX8_member_118 ?_
              refine lv_icmp_ge (tgt := 151) hx hb dX8_member_121 (by decide) (fun c138 => ?_) (fun c138 => ?_)
              · have n139 : sz ≤ i2 := (nI_leI (a := sz) (b := i2) (by omega) (by omega)).mp c138
                refine lv_aload_n hx hb dX8_member_151 rfl (lv_at hl 3 rfl) ?_
                refine lv_bipush (v := 38) hx hb dX8_member_152 (by decide) ?_
                have hO : OKW G h0 a (upd (upd (upd (upd (upd (upd (upd F 2 (nI sz)) 9 (nI at9)) 10 0) 11 (nI sg)) 9 (nI at2)) 2 (nI sz)) 9 (nI at2)) (updR R 1 (.ref pq)) Z (updA B 10 f9) J K2.1 (fun q99 x99 => x99 = rep G a K2 q99) w := hO.to rfl
                obtain ⟨_, qr143, hqr144⟩ := hO.2.1 23 _ (sg_23 G h0 a _ _ _ _ _)
                refine pn_V0 (G := G) (As := [.int 38]) (rest := []) hx hb hml hown hq hE hX pX0_al hP hD hS hA hl.1 (P_take l G h0 a (upd (upd (upd (upd (upd F 2 (nI sz)) 9 (nI at9)) 10 0) 11 (nI sg)) 9 (nI at2)) (updR R 1 (.ref pq)) Z (updA B 10 f9) J K2.1 (fun q99 x99 => x99 = rep G a K2 q99) w 38 at2 sz (by omega) (by omega) (by decide) hO hl0) (gV pw_793 pw_794 pw_795 pw_796 pw_781) hV_X8_take qr143 5 hqr144 rfl rfl rfl (Nat.le_of_ble_eq_true rfl) dX8_member_154 ⟨(by show (2 * (at2 - at9)) + 1 ≤ (4 * (sz - at9) + 40); omega), (by show (60 * (at2 - at9)) + 6 ≤ (60 * (sz - at9) + 2 * sz + 600 - 4 * cp); omega)⟩ ⟨(by show 7 + 1 ≤ (1060); omega), (by show 8 + (2 + 11) + 122 ≤ (31700); omega)⟩ (fun v142 u140 H locs hw141 hP hD hS => ?_) (fun ux ce9 q9 H9 locs9 hux hP9 hD9 hS9 hce hcv hcl => pb_out ux (ThQ.up (Thx.same (Thx.same (Thx.b (Thx.f Thx.rfl (by omega)) (by omega) (by decide)) rfl) rfl) RhX.rfl hux) hnt hlocks hce hcv hcl hP9 hD9 hS9 (by show (2 * (at2 - at9)) + 1 ≤ (4 * (sz - at9) + 40); omega) (by show (60 * (at2 - at9)) + 6 ≤ (60 * (sz - at9) + 2 * sz + 600 - 4 * cp); omega))
                obtain ⟨w, _⟩ := u140
                obtain ⟨hw141, h145, hO⟩ := hw141
                have h145 : at2 + 1 ≤ sz := h145
                obtain rfl : v142 = some (.int (nI at2)) := hw141
                have hO : OKP G h0 a (upd (upd (upd (upd F 2 (nI sz)) 9 (nI (at2 + 1))) 10 0) 11 (nI sg)) (updR R 1 (.ref pq)) Z (updA B 10 f9) J K2 w := hO.to rfl
                refine W.widen (k := (2 * (at2 - at9))) (n := (60 * (at2 - at9))) (by show (2 * (at2 - at9)) + 0 ≤ (2 * (at2 - at9)); omega) (by show (60 * (at2 - at9)) + 0 ≤ (60 * (at2 - at9)); omega) ?_
                refine W.eq (g2 := F0 m 157 ls [.int (nI at2)]) rfl ?_
                refine lv_pop hx hb dX8_member_157 rfl ?_
                refine lv_goto (tgt := 165) hx hb dX8_member_158 (by decide) ?_
                refine W_size (fun hz1 hz2 => ?_)
                refine vx_ret ?_
                have hz146 : WPr G K2 g2 := hwp2
                have hz147 : PgS G K2 g2 (a 1) pq dr ml nd nm cp it (s9 + ((at2 + 1) - at9)) := (PgS.up hps2 (by omega))
                have hz148 : K2.1 d0 = 4 := hd2
                have hz149 : at9 + 3 ≤ (at2 + 1) ∧ (at2 + 1) ≤ sz := (by omega)
                have hz150 : cp ≤ cp := (by omega)
                have hz151 : sg ≤ 60 := (by omega)
                have hO : OKP G h0 a (upd (upd (upd (upd F 2 (nI sz)) 9 (nI (at2 + 1))) 10 0) 11 (nI sg)) (updR R 1 (.ref pq)) Z (updA B 10 f9) J K2 w := hO.to rfl
                refine W.widen (k := (4 * (sz - at9) + 40)) (n := (60 * (sz - at9) + 2 * sz + 600 - 4 * cp)) (by omega) (by omega) ?_
                have hzz1 : H.size ≤ s.heap.size + ((4 * ((at2 + 1) - at9))) := (by have z : (2 * (at2 - at9)) ≤ (4 * ((at2 + 1) - at9)) := (by omega); omega)
                have hzz2 : hSl H ≤ hSl s.heap + ((60 * ((at2 + 1) - at9) + 4 * (cp - cp))) := (by have z : (60 * (at2 - at9)) ≤ (60 * ((at2 + 1) - at9) + 4 * (cp - cp)) := (by omega); omega)
                exact W.vret hx hb hr (fun t99 ht99 hW99 => ⟨⟨_, (w, (K2, g2, nm, cp, it, (at2 + 1), sg, f9)), rfl, ⟨rfl, hz146, hz147, hz148, hz149, hz150, hz151, hO⟩, by rw [ht99]; exact hP, hD, by rw [ht99]; exact hzz1, by rw [ht99]; exact hzz2⟩, hS.F ht99⟩) hS.2.2 dX8_member_165
              · have n152 : ¬ (sz ≤ i2) := fun h9 => c138 ((nI_leI (a := sz) (b := i2) (by omega) (by omega)).mpr h9)
                refine lv_aload_n hx hb dX8_member_124 rfl (lv_at hl 3 rfl) ?_
                refine lv_bipush (v := 39) hx hb dX8_member_125 (by decide) ?_
                have hO : OKW G h0 a (upd (upd (upd (upd (upd (upd F 2 (nI sz)) 9 (nI at2)) 10 0) 11 (nI sg)) 2 (nI sz)) 9 (nI at2)) (updR R 1 (.ref pq)) Z (updA B 10 f9) J K2.1 (fun q99 x99 => x99 = rep G a K2 q99) w := hO.to rfl
                obtain ⟨_, qr156, hqr157⟩ := hO.2.1 23 _ (sg_23 G h0 a _ _ _ _ _)
                refine pc_V0 (G := G) (As := [.int 39]) (rest := []) hx hb hml hown hq hE hX pX0_al hP hD hS hA hl.1 (P_takeIf l G h0 a (upd (upd (upd (upd F 2 (nI sz)) 9 (nI at2)) 10 0) 11 (nI sg)) (updR R 1 (.ref pq)) Z (updA B 10 f9) J K2.1 (fun q99 x99 => x99 = rep G a K2 q99) w 39 at2 sz (by omega) (by omega) (by decide) hO) (gV pw_797 pw_798 pw_799 pw_796 pw_789) hV_X8_takeIf qr156 5 hqr157 rfl rfl rfl (Nat.le_of_ble_eq_true rfl) dX8_member_127 ⟨(by show (2 * (at2 - at9)) + 0 ≤ (4 * (sz - at9) + 40); omega), (by show (60 * (at2 - at9)) + 0 ≤ (60 * (sz - at9) + 2 * sz + 600 - 4 * cp); omega)⟩ ⟨(by show 3 + 1 ≤ (1060); omega), (by show 8 + (2 + 11) + 81 ≤ (31700); omega)⟩ (fun v155 u153 H locs hw154 hP hD hS => ?_)
                obtain ⟨w, r158⟩ := u153
                obtain ⟨hw154, h159, h160, hO⟩ := hw154
                have h159 : r158 ≤ 1 := h159
                have h160 : at2 + r158 ≤ sz := h160
                obtain rfl : v155 = some (.int (nI r158)) := hw154
                have hO : OKP G h0 a (upd (upd (upd (upd F 2 (nI sz)) 9 (nI (at2 + r158))) 10 0) 11 (nI sg)) (updR R 1 (.ref pq)) Z (updA B 10 f9) J K2 w := hO.to rfl
                refine W.widen (k := (2 * (at2 - at9))) (n := (60 * (at2 - at9))) (by show (2 * (at2 - at9)) + 0 ≤ (2 * (at2 - at9)); omega) (by show (60 * (at2 - at9)) + 0 ≤ (60 * (at2 - at9)); omega) ?_
                refine W.eq (g2 := F0 m 130 ls [.int (nI r158)]) rfl ?_
                refine lv_if_eq (tgt := 151) hx hb dX8_member_130 (by decide) (fun c161 => ?_) (fun c161 => ?_)
                · have n162 : r158 = 0 := (nI_eq (a := r158) (b := 0) (by omega) (by omega)).mp c161
                  refine lv_aload_n hx hb dX8_member_151 rfl (lv_at hl 3 rfl) ?_
                  refine lv_bipush (v := 38) hx hb dX8_member_152 (by decide) ?_
                  have hO : OKW G h0 a (upd (upd (upd (upd (upd (upd (upd F 2 (nI sz)) 9 (nI at9)) 10 0) 11 (nI sg)) 9 (nI (at2 + r158))) 2 (nI sz)) 9 (nI (at2 + r158))) (updR R 1 (.ref pq)) Z (updA B 10 f9) J K2.1 (fun q99 x99 => x99 = rep G a K2 q99) w := hO.to rfl
                  obtain ⟨_, qr166, hqr167⟩ := hO.2.1 23 _ (sg_23 G h0 a _ _ _ _ _)
                  refine pn_V0 (G := G) (As := [.int 38]) (rest := []) hx hb hml hown hq hE hX pX0_al hP hD hS hA hl.1 (P_take l G h0 a (upd (upd (upd (upd (upd F 2 (nI sz)) 9 (nI at9)) 10 0) 11 (nI sg)) 9 (nI (at2 + r158))) (updR R 1 (.ref pq)) Z (updA B 10 f9) J K2.1 (fun q99 x99 => x99 = rep G a K2 q99) w 38 (at2 + r158) sz (by omega) (by omega) (by decide) hO hl0) (gV pw_793 pw_794 pw_795 pw_796 pw_781) hV_X8_take qr166 5 hqr167 rfl rfl rfl (Nat.le_of_ble_eq_true rfl) dX8_member_154 ⟨(by show (2 * (at2 - at9)) + 1 ≤ (4 * (sz - at9) + 40); omega), (by show (60 * (at2 - at9)) + 6 ≤ (60 * (sz - at9) + 2 * sz + 600 - 4 * cp); omega)⟩ ⟨(by show 7 + 1 ≤ (1060); omega), (by show 8 + (2 + 11) + 122 ≤ (31700); omega)⟩ (fun v165 u163 H locs hw164 hP hD hS => ?_) (fun ux ce9 q9 H9 locs9 hux hP9 hD9 hS9 hce hcv hcl => pb_out ux (ThQ.up (Thx.same (Thx.same (Thx.b (Thx.f Thx.rfl (by omega)) (by omega) (by decide)) rfl) rfl) RhX.rfl hux) hnt hlocks hce hcv hcl hP9 hD9 hS9 (by show (2 * (at2 - at9)) + 1 ≤ (4 * (sz - at9) + 40); omega) (by show (60 * (at2 - at9)) + 6 ≤ (60 * (sz - at9) + 2 * sz + 600 - 4 * cp); omega))
                  obtain ⟨w, _⟩ := u163
                  obtain ⟨hw164, h168, hO⟩ := hw164
                  have h168 : (at2 + r158) + 1 ≤ sz := h168
                  obtain rfl : v165 = some (.int (nI (at2 + r158))) := hw164
                  have hO : OKP G h0 a (upd (upd (upd (upd F 2 (nI sz)) 9 (nI ((at2 + r158) + 1))) 10 0) 11 (nI sg)) (updR R 1 (.ref pq)) Z (updA B 10 f9) J K2 w := hO.to rfl
                  refine W.widen (k := (2 * (at2 - at9))) (n := (60 * (at2 - at9))) (by show (2 * (at2 - at9)) + 0 ≤ (2 * (at2 - at9)); omega) (by show (60 * (at2 - at9)) + 0 ≤ (60 * (at2 - at9)); omega) ?_
                  refine W.eq (g2 := F0 m 157 ls [.int (nI (at2 + r158))]) rfl ?_
                  refine lv_pop hx hb dX8_member_157 rfl ?_
                  refine lv_goto (tgt := 165) hx hb dX8_member_158 (by decide) ?_
                  refine W_size (fun hz1 hz2 => ?_)
                  refine vx_ret ?_
                  have hz169 : WPr G K2 g2 := hwp2
                  have hz170 : PgS G K2 g2 (a 1) pq dr ml nd nm cp it (s9 + (((at2 + r158) + 1) - at9)) := (PgS.up hps2 (by omega))
                  have hz171 : K2.1 d0 = 4 := hd2
                  have hz172 : at9 + 3 ≤ ((at2 + r158) + 1) ∧ ((at2 + r158) + 1) ≤ sz := (by omega)
                  have hz173 : cp ≤ cp := (by omega)
                  have hz174 : sg ≤ 60 := (by omega)
                  have hO : OKP G h0 a (upd (upd (upd (upd F 2 (nI sz)) 9 (nI ((at2 + r158) + 1))) 10 0) 11 (nI sg)) (updR R 1 (.ref pq)) Z (updA B 10 f9) J K2 w := hO.to rfl
                  refine W.widen (k := (4 * (sz - at9) + 40)) (n := (60 * (sz - at9) + 2 * sz + 600 - 4 * cp)) (by omega) (by omega) ?_
                  have hzz1 : H.size ≤ s.heap.size + ((4 * (((at2 + r158) + 1) - at9))) := (by have z : (2 * (at2 - at9)) ≤ (4 * (((at2 + r158) + 1) - at9)) := (by omega); omega)
                  have hzz2 : hSl H ≤ hSl s.heap + ((60 * (((at2 + r158) + 1) - at9) + 4 * (cp - cp))) := (by have z : (60 * (at2 - at9)) ≤ (60 * (((at2 + r158) + 1) - at9) + 4 * (cp - cp)) := (by omega); omega)
                  exact W.vret hx hb hr (fun t99 ht99 hW99 => ⟨⟨_, (w, (K2, g2, nm, cp, it, ((at2 + r158) + 1), sg, f9)), rfl, ⟨rfl, hz169, hz170, hz171, hz172, hz173, hz174, hO⟩, by rw [ht99]; exact hP, hD, by rw [ht99]; exact hzz1, by rw [ht99]; exact hzz2⟩, hS.F ht99⟩) hS.2.2 dX8_member_165
                · have n175 : ¬ (r158 = 0) := fun h9 => c161 ((nI_eq (a := r158) (b := 0) (by omega) (by omega)).mpr h9)
                  refine lv_aload_n hx hb dX8_member_133 rfl (lv_at hl 3 rfl) ?_
                  refine lv_aload_n hx hb dX8_member_134 rfl (lv_at hl 2 rfl) ?_
                  refine lv_iload_n hx hb dX8_member_135 rfl (lv_at hl 1 rfl) ?_
                  refine lv_aload_n hx hb dX8_member_136 rfl (lv_at hl 3 rfl) ?_
                  refine lv_bipush (v := 65) hx hb dX8_member_137 (by decide) ?_
                  have hO : OKW G h0 a (upd (upd (upd (upd (upd (upd (upd F 2 (nI sz)) 9 (nI at9)) 10 0) 11 (nI sg)) 9 (nI (at2 + r158))) 2 (nI sz)) 9 (nI (at2 + r158))) (updR R 1 (.ref pq)) Z (updA B 10 f9) J K2.1 (fun q99 x99 => x99 = rep G a K2 q99) w := hO.to rfl
                  obtain ⟨_, qr179, hqr180⟩ := hO.2.1 23 _ (sg_23 G h0 a _ _ _ _ _)
                  refine pn_V0 (G := G) (As := [.int 65]) (rest := [.int (nI x3), .ref d0, .ref (a 3)]) hx hb hml hown hq hE hX pX0_al hP hD hS hA hl.1 (P_take l G h0 a (upd (upd (upd (upd (upd F 2 (nI sz)) 9 (nI at9)) 10 0) 11 (nI sg)) 9 (nI (at2 + r158))) (updR R 1 (.ref pq)) Z (updA B 10 f9) J K2.1 (fun q99 x99 => x99 = rep G a K2 q99) w 65 (at2 + r158) sz (by omega) (by omega) (by decide) hO hl0) (gV pw_793 pw_794 pw_795 pw_796 pw_781) hV_X8_take qr179 5 hqr180 rfl rfl rfl (Nat.le_of_ble_eq_true rfl) dX8_member_139 ⟨(by show (2 * (at2 - at9)) + 1 ≤ (4 * (sz - at9) + 40); omega), (by show (60 * (at2 - at9)) + 6 ≤ (60 * (sz - at9) + 2 * sz + 600 - 4 * cp); omega)⟩ ⟨(by show 7 + 1 ≤ (1060); omega), (by show 8 + (2 + 11) + 122 ≤ (31700); omega)⟩ (fun v178 u176 H locs hw177 hP hD hS => ?_) (fun ux ce9 q9 H9 locs9 hux hP9 hD9 hS9 hce hcv hcl => pb_out ux (ThQ.up (Thx.same (Thx.same (Thx.b (Thx.f Thx.rfl (by omega)) (by omega) (by decide)) rfl) rfl) RhX.rfl hux) hnt hlocks hce hcv hcl hP9 hD9 hS9 (by show (2 * (at2 - at9)) + 1 ≤ (4 * (sz - at9) + 40); omega) (by show (60 * (at2 - at9)) + 6 ≤ (60 * (sz - at9) + 2 * sz + 600 - 4 * cp); omega))
                  obtain ⟨w, _⟩ := u176
                  obtain ⟨hw177, h181, hO⟩ := hw177
                  have h181 : (at2 + r158) + 1 ≤ sz := h181
                  obtain rfl : v178 = some (.int (nI (at2 + r158))) := hw177
                  have hO : OKP G h0 a (upd (upd (upd (upd F 2 (nI sz)) 9 (nI ((at2 + r158) + 1))) 10 0) 11 (nI sg)) (updR R 1 (.ref pq)) Z (updA B 10 f9) J K2 w := hO.to rfl
                  refine W.widen (k := (2 * (at2 - at9))) (n := (60 * (at2 - at9))) (by show (2 * (at2 - at9)) + 0 ≤ (2 * (at2 - at9)); omega) (by show (60 * (at2 - at9)) + 0 ≤ (60 * (at2 - at9)); omega) ?_
                  refine W.eq (g2 := F0 m 142 ls [.int (nI (at2 + r158)), .int (nI x3), .ref d0, .ref (a 3)]) rfl ?_
                  have hO : OKP G h0 a (upd (upd (upd (upd (upd (upd (upd F 2 (nI sz)) 9 (nI at9)) 10 0) 11 (nI sg)) 9 (nI ((at2 + r158) + 1))) 2 (nI sz)) 9 (nI ((at2 + r158) + 1))) (updR (updR R 1 (.ref pq)) 1 (.ref pq)) Z (updA B 10 f9) J K2 w := hO.to rfl
                  obtain ⟨_, qr185, hqr186⟩ := hO.2.1 23 _ (sg_23 G h0 a _ _ _ _ _)
                  refine pn_V0 (G := G) (As := [.ref d0, .int (nI x3), .int (nI (at2 + r158))]) (rest := []) hx hb hml hown hq hE hX pX0_al hP hD hS hA hl.1 (P_addField l G h0 a (upd (upd (upd (upd (upd F 2 (nI sz)) 9 (nI at9)) 10 0) 11 (nI sg)) 9 (nI ((at2 + r158) + 1))) (updR R 1 (.ref pq)) Z (updA B 10 f9) J K2 w pq dr ml nd nm cp it s2 d0 (at2 + r158) (nI x3) ((at2 + r158) + 1) sz g2 (by omega) (by omega) hwp2 hps2 hd2 (by omega) hO hl0) (gV pw_1062 pw_1063 pw_1064 pw_796 pw_1058) hV_X8_addField qr185 5 hqr186 rfl rfl rfl (Nat.le_of_ble_eq_true rfl) dX8_member_142 ⟨(by show (2 * (at2 - at9)) + 3 ≤ (4 * (sz - at9) + 40); omega), (by show (60 * (at2 - at9)) + 100 ≤ (60 * (sz - at9) + 2 * sz + 600 - 4 * cp); omega)⟩ ⟨(by show 8 + 1 ≤ (1060); omega), (by show 8 + (4 + 11) + 191 ≤ (31700); omega)⟩ (fun v184 u182 H locs hw183 hP hD hS => ?_) (fun ux ce9 q9 H9 locs9 hux hP9 hD9 hS9 hce hcv hcl => pb_out ux (ThQ.up (Thx.same (Thx.same (Thx.b (Thx.f Thx.rfl (by omega)) (by omega) (by decide)) rfl) rfl) (show RhX (updR R 1 (.ref pq)) (updR (updR R 1 (.ref pq)) 1 (.ref pq)) from fun k9 hk9 => by unfold updR; simp only [show ¬ k9 = 1 by omega, show ¬ k9 = 2 by omega, show ¬ k9 = 3 by omega, show ¬ k9 = 4 by omega, if_false]) hux) hnt hlocks hce hcv hcl hP9 hD9 hS9 (by show (2 * (at2 - at9)) + 3 ≤ (4 * (sz - at9) + 40); omega) (by show (60 * (at2 - at9)) + 100 ≤ (60 * (sz - at9) + 2 * sz + 600 - 4 * cp); omega))
                  obtain ⟨w, K187, g188⟩ := u182
                  obtain ⟨hw183, h189, h190, h191, hO⟩ := hw183
                  have h189 : WPr G K187 g188 := h189
                  have h190 : PgS G K187 g188 (a 1) pq dr ml nd nm cp it (s2 + 2) := h190
                  have h191 : K187.1 d0 = 4 := h191
                  obtain rfl : v184 = none := hw183
                  have hO : OKP G h0 a (upd (upd (upd (upd F 2 (nI sz)) 9 (nI ((at2 + r158) + 1))) 10 0) 11 (nI sg)) (updR R 1 (.ref pq)) Z (updA B 10 f9) J K187 w := hO.to rfl
                  refine W.widen (k := ((2 * (at2 - at9)) + 2)) (n := ((60 * (at2 - at9)) + 90)) (by show (2 * (at2 - at9)) + 2 ≤ ((2 * (at2 - at9)) + 2); omega) (by show (60 * (at2 - at9)) + 90 ≤ ((60 * (at2 - at9)) + 90); omega) ?_
                  refine W.eq (g2 := F0 m 145 ls []) rfl ?_
                  refine lv_iinc (v := (nI (i2 + 1))) (lv' := [(5, .int (nI (i2 + 1))), (3, .int (nI x3)), (1, .ref d0), (0, .ref (a 3))]) hx hb dX8_member_145 hl (k := 0) rfl (nI_1 i2) (by decide) rfl (fun ls hl => ?_)
                  refine lv_goto (tgt := 112) hx hb dX8_member_148 (by decide) ?_
                  refine W.widen (k := (2 * (((at2 + r158) + 1) - at9))) (n := (60 * (((at2 + r158) + 1) - at9))) (by show ((2 * (at2 - at9)) + 2) ≤ _; omega) (by show ((60 * (at2 - at9)) + 90) ≤ _; omega) ?_
                  have hO : OKP G h0 a (upd (upd (upd (upd F 2 (nI sz)) 9 (nI ((at2 + r158) + 1))) 10 0) 11 (nI sg)) (updR R 1 (.ref pq)) Z (updA B 10 f9) J K187 w := hO.to rfl
                  exact ih_f (i2 + 1) ((at2 + r158) + 1) f9 K187 g188 (s2 + 2) x3 _ _ _ _ (by omega) (by omega) (by omega) h189 h190 (by omega) h191 hP hD hS hO (lv_sub hl [0, 1, 2, 3] rfl)
          refine W.widen (k := (2 * ((at13 + 1) - at9))) (n := (60 * ((at13 + 1) - at9))) (by show 2 ≤ _; omega) (by show 90 ≤ _; omega) ?_
          have hO : OKP G h0 a (upd (upd (upd (upd F 2 (nI sz)) 9 (nI (at13 + 1))) 10 0) 11 (nI sg)) (updR R 1 (.ref pq)) Z (updA B 10 f14) J K133 w := hO.to rfl
          exact loop_f (sz + 1) 0 (at13 + 1) f14 K133 g134 (s9 + 2) at9 _ _ _ _ (by omega) (by omega) (by omega) h135 h136 (by omega) h137 hP hD hS hO (lv_sub hl [0, 2, 5, 4] rfl)
  · have n192 : ¬ (r27 = 0) := fun h9 => c29 ((nI_eq (a := r27) (b := 0) (by omega) (by omega)).mpr h9)
    refine lv_aload_n hx hb dX8_member_29 rfl (lv_at hl 3 rfl) ?_
    refine lv_aload_n hx hb dX8_member_30 rfl (lv_at hl 4 rfl) ?_
    refine lv_iload_n hx hb dX8_member_31 rfl (lv_at hl 1 rfl) ?_
    refine lv_iload hx hb dX8_member_32 (lv_at hl 0 rfl) ?_
    have hO : OKP G h0 a (upd (upd (upd (upd (upd (upd (upd F 2 (nI sz)) 9 (nI at9)) 10 0) 11 (nI sg)) 9 (nI (at13 + 1))) 2 (nI sz)) 9 (nI (at13 + 1))) (updR (updR R 1 (.ref pq)) 1 (.ref pq)) Z (updA B 10 f14) J K w := hO.to rfl
    obtain ⟨_, qr196, hqr197⟩ := hO.2.1 23 _ (sg_23 G h0 a _ _ _ _ _)
    refine pn_V0 (G := G) (As := [.ref d0, .int (nI at9), .int (nI at13)]) (rest := []) hx hb hml hown hq hE hX pX0_al hP hD hS hA hl.1 (P_head l G h0 a (upd (upd (upd (upd (upd F 2 (nI sz)) 9 (nI at9)) 10 0) 11 (nI sg)) 9 (nI (at13 + 1))) (updR R 1 (.ref pq)) Z (updA B 10 f14) J K w pq dr ml nd nm cp it s9 d0 at13 (nI at9) (at13 + 1) sz g (by omega) (by omega) hwp hps hd0 (by omega) hO hl0) (gV pw_895 pw_896 pw_897 pw_796 pw_891) hV_X8_head qr196 5 hqr197 rfl rfl rfl (Nat.le_of_ble_eq_true rfl) dX8_member_34 ⟨(by show 0 + (2 * (sz - (at13 + 1)) + 10) ≤ (4 * (sz - at9) + 40); omega), (by show 0 + (60 * (sz - (at13 + 1)) + 400) ≤ (60 * (sz - at9) + 2 * sz + 600 - 4 * cp); omega)⟩ ⟨(by show 8 + 1 ≤ (1060); omega), (by show 8 + (9 + 11) + 191 ≤ (31700); omega)⟩ (fun v195 u193 H locs hw194 hP hD hS => ?_) (fun ux ce9 q9 H9 locs9 hux hP9 hD9 hS9 hce hcv hcl => pb_out ux (ThQ.up (Thx.same (Thx.same (Thx.b (Thx.f Thx.rfl (by omega)) (by omega) (by decide)) rfl) rfl) (show RhX (updR R 1 (.ref pq)) (updR (updR R 1 (.ref pq)) 1 (.ref pq)) from fun k9 hk9 => by unfold updR; simp only [show ¬ k9 = 1 by omega, show ¬ k9 = 2 by omega, show ¬ k9 = 3 by omega, show ¬ k9 = 4 by omega, if_false]) hux) hnt hlocks hce hcv hcl hP9 hD9 hS9 (by show 0 + (2 * (sz - (at13 + 1)) + 10) ≤ (4 * (sz - at9) + 40); omega) (by show 0 + (60 * (sz - (at13 + 1)) + 400) ≤ (60 * (sz - at9) + 2 * sz + 600 - 4 * cp); omega))
    obtain ⟨w, K198, g199, r200, at201, f202⟩ := u193
    obtain ⟨hw194, h203, h204, h205, h206, h207, h208, hO⟩ := hw194
    have h203 : WPr G K198 g199 := h203
    have h204 : PgS G K198 g199 (a 1) pq dr ml nd nm cp it (s9 + 3 + (at201 - (at13 + 1))) := h204
    have h205 : K198.1 r200 = 3 := h205
    have h206 : K198.1 d0 = 4 := h206
    have h207 : (at13 + 1) + 2 ≤ at201 ∧ at201 ≤ sz := h207
    have h208 : Onc K198 dr nd r200 := h208
    obtain rfl : v195 = some (.ref r200) := hw194
    have hO : OKP G h0 a (upd (upd (upd (upd F 2 (nI sz)) 9 (nI at201)) 10 0) 11 (nI sg)) (updR R 1 (.ref pq)) Z (updA B 10 f202) J K198 w := hO.to rfl
    refine W.widen (k := (at201 - (at13 + 1) + 3)) (n := (60 * (at201 - (at13 + 1)) + 60)) (by show 0 + (at201 - (at13 + 1) + 3) ≤ (at201 - (at13 + 1) + 3); omega) (by show 0 + (60 * (at201 - (at13 + 1)) + 60) ≤ (60 * (at201 - (at13 + 1)) + 60); omega) ?_
    refine W.eq (g2 := F0 m 37 ls [.ref r200]) rfl ?_
    have hpx := h204.1
    have hp1 := hpx.1
    have hp2 := hpx.2.1
    have hp3 := hpx.2.2.1
    have hp4 := hpx.2.2.2.1
    have hp5 := hpx.2.2.2.2.1
    have hp6 := hpx.2.2.2.2.2.1
    have hp8 := hpx.2.2.2.2.2.2.2.1
    have hp9 := hpx.2.2.2.2.2.2.2.2
    have hlm9 := h204.2.2.1
    refine lv_astore (lv' := [(5, .ref r200), (4, .int (nI at13)), (3, .int (nI at9)), (2, .int (nI r6)), (0, .ref (a 3)), (1, .ref d0)]) hx hb dX8_member_37 hl (by decide) rfl (fun ls hl => ?_)
    refine lv_aload hx hb dX8_member_39 (lv_at hl 0 rfl) ?_
    refine lv_aload_n hx hb dX8_member_41 rfl (lv_at hl 4 rfl) ?_
    refine c_get (v := .ref pq) (C := RX8) (Tc := TX8) (N := 5) (ci := 5) hx hb hq pin_wsX80 hown hE hP hO 23 (sg_23 G h0 a _ _ _ _ _) rfl 1 (by decide) (hq _ pw_801) (fun _ h9 => h9) rfl dX8_member_42 ?_
    refine p_get (v := .ref ml) (C := RX9) (Tc := TX9) (N := 5) (ci := 6) hx hb hq pin_wsX90 hown hE hP hO (by rw [hp1]; decide) (rep_7 hp1) rfl 3 (by decide) (hq _ pw_1059) (fun _ h9 => h9) (congrArg (fun z => some (va_rf z)) hp5) dX8_member_45 ?_
    have hO : OKP G h0 a (upd (upd (upd (upd F 2 (nI sz)) 9 (nI at201)) 10 0) 11 (nI sg)) (updR R 1 (.ref pq)) Z (updA B 10 f202) J K198 w := hO.to rfl
    obtain ⟨qr212, hqr213⟩ := p_recv hO (by rw [hp6]; decide) (rep_5 hp6)
    refine pc_V0 (G := G) (As := []) (rest := [.ref r200]) hx hb hml hown hq hE hX pX0_al hP hD hS hA hl.1 (L_size l G h0 a (upd (upd (upd (upd F 2 (nI sz)) 9 (nI at201)) 10 0) 11 (nI sg)) (updR R 1 (.ref pq)) Z (updA B 10 f202) J K198 w ml 3 nm it hlm9.ls hO) (gV pw_882 pw_87 pw_88 pw_32 pw_16) hV_Jx4a65c_size_8abf5 qr212 10 hqr213 rfl rfl rfl (Nat.le_of_ble_eq_true rfl) dX8_member_48 ⟨(by show (at201 - (at13 + 1) + 3) + 0 ≤ (4 * (sz - at9) + 40); omega), (by show (60 * (at201 - (at13 + 1)) + 60) + 0 ≤ (60 * (sz - at9) + 2 * sz + 600 - 4 * cp); omega)⟩ ⟨(by show 2 + 1 ≤ (1060); omega), (by show 8 + (1 + 11) + 60 ≤ (31700); omega)⟩ (fun v211 u209 H locs hw210 hP hD hS => ?_)
    obtain ⟨w, _⟩ := u209
    obtain ⟨hw210, hO⟩ := hw210
    obtain rfl : v211 = some (.int (nI nm)) := hw210
    have hO : OKP G h0 a (upd (upd (upd (upd F 2 (nI sz)) 9 (nI at201)) 10 0) 11 (nI sg)) (updR R 1 (.ref pq)) Z (updA B 10 f202) J K198 w := hO.to rfl
    refine W.widen (k := (at201 - (at13 + 1) + 3)) (n := (60 * (at201 - (at13 + 1)) + 60)) (by show (at201 - (at13 + 1) + 3) + 0 ≤ (at201 - (at13 + 1) + 3); omega) (by show (60 * (at201 - (at13 + 1)) + 60) + 0 ≤ (60 * (at201 - (at13 + 1)) + 60); omega) ?_
    refine W.eq (g2 := F0 m 51 ls [.int (nI nm), .ref r200]) rfl ?_
    refine p_put (v := .int (nI nm)) (ty := .int) (C := RX6) (Tc := TX6) (N := 12) (ci := 12) (K' := (kI K198 9 r200 (nI nm))) hx hb hq pin_wsX60 tyX6 tyX6_ok nmX6 hown hE hP hD hS hO (by rw [h205]; decide) (rep_3 h205) rfl 6 (by decide) (hq _ pw_1060) (fun _ h9 => h9) rfl (by decide +kernel) rfl rfl (Nat.le_of_ble_eq_true rfl) rfl (by rw [rep_3 (show (kI K198 9 r200 (nI nm)).1 r200 = 3 from h205), pi_9] <;> rfl) (fun p9 hp9 => rep_kI hp9) dX8_member_51 (fun H locs w hP hD hS hO => ?_)
    obtain ⟨K214, hK215⟩ : ∃ z : PK, z = (kI K198 9 r200 (nI nm)) := ⟨_, rfl⟩
    rw [← hK215] at hO
    have hf216 : K214.1 d0 = 4 := (by rw [hK215]; exact h206)
    have hf217 : K214.1 r200 = 3 := (by rw [hK215]; exact h205)
    have hf218 : K214.1 pq = 7 := (by rw [hK215]; exact hp1)
    have hf219 : K214.2.2.1 18 pq = some (a 1) := (by rw [hK215]; exact hp2)
    have hf220 : K214.2.2.1 14 pq = some dr := (by rw [hK215]; exact hp3)
    have hf221 : K214.1 dr = 8 := (by rw [hK215]; exact hp4)
    have hf222 : K214.2.2.1 15 pq = some ml := (by rw [hK215]; exact hp5)
    have hf223 : K214.1 ml = 5 := (by rw [hK215]; exact hp6)
    have hf224 : K214.2.1 24 pq = (nI nd) := (by rw [hK215]; exact (kI_of (by decide)).trans hp8)
    have hf225 : K214.2.1 9 r200 = (nI nm) := by rw [hK215]; exact kI_eq
    refine lv_aload_n hx hb dX8_member_54 rfl (lv_at hl 4 rfl) ?_
    refine c_get (v := .ref pq) (C := RX8) (Tc := TX8) (N := 5) (ci := 5) hx hb hq pin_wsX80 hown hE hP hO 23 (sg_23 G h0 a _ _ _ _ _) rfl 1 (by decide) (hq _ pw_801) (fun _ h9 => h9) rfl dX8_member_55 ?_
    refine p_get (v := .ref ml) (C := RX9) (Tc := TX9) (N := 5) (ci := 6) hx hb hq pin_wsX90 hown hE hP hO (by rw [hf218]; decide) (rep_7 hf218) rfl 3 (by decide) (hq _ pw_1059) (fun _ h9 => h9) (congrArg (fun z => some (va_rf z)) hf222) dX8_member_58 ?_
    refine lv_aload hx hb dX8_member_61 (lv_at hl 0 rfl) ?_
    have hlc226 : LsC G K214 ml 3 nm it cp := by rw [hK215]; exact ⟨hlm9.1, (kI_of (by decide)).trans hlm9.2.1, hlm9.2.2⟩
    have hO : OKP G h0 a (upd (upd (upd (upd (upd F 2 (nI sz)) 9 (nI at9)) 10 0) 11 (nI sg)) 9 (nI at201)) (updR R 1 (.ref pq)) Z (updA B 10 f202) J K214 w := hO.to rfl
    obtain ⟨qr230, hqr231⟩ := p_recv hO (by rw [hf223]; decide) (rep_5 hf223)
    refine pn_V0 (G := G) (As := [.ref r200]) (rest := []) hx hb hml hown hq hE hX pX0_al hP hD hS hA hl.1 (L_addC l G h0 a (upd (upd (upd (upd (upd F 2 (nI sz)) 9 (nI at9)) 10 0) 11 (nI sg)) 9 (nI at201)) (updR R 1 (.ref pq)) Z (updA B 10 f202) J K214 w ml 3 nm it cp r200 hlc226 (by decide) hf217 (by omega) (by omega) hO hl0) (gV pw_885 pw_886 pw_887 pw_32 pw_868) hV_Jx4a65c_add_9ea2d qr230 10 hqr231 rfl rfl rfl (Nat.le_of_ble_eq_true rfl) dX8_member_63 ⟨(by show (at201 - (at13 + 1) + 3) + 1 ≤ (4 * (sz - at9) + 40); omega), (by show (60 * (at201 - (at13 + 1)) + 60) + (10 + nm + nm / 2) ≤ (60 * (sz - at9) + 2 * sz + 600 - 4 * cp); omega)⟩ ⟨(by show 7 + 1 ≤ (1060); omega), (by show 8 + (2 + 11) + 170 ≤ (31700); omega)⟩ (fun v229 u227 H locs hw228 hP hD hS => ?_) (fun ux ce9 q9 H9 locs9 hux hP9 hD9 hS9 hce hcv hcl => pb_out ux (ThQ.up (Thx.b (Thx.f Thx.rfl (by omega)) (by omega) (by decide)) RhX.rfl hux) hnt hlocks hce hcv hcl hP9 hD9 hS9 (by show (at201 - (at13 + 1) + 3) + 1 ≤ (4 * (sz - at9) + 40); omega) (by show (60 * (at201 - (at13 + 1)) + 60) + (10 + nm + nm / 2) ≤ (60 * (sz - at9) + 2 * sz + 600 - 4 * cp); omega))
    obtain ⟨w, K232, d233⟩ := u227
    obtain ⟨hw228, h234, h235, h236, h237, h238, hO⟩ := hw228
    have h234 : LsC G K232 ml 3 (nm + 1) (upQ it nm r200) (cp + d233) := h234
    have h235 : AdQ K214 K232 ml := h235
    have h236 : N6 K214 K232 := h236
    have h237 : cp + d233 ≤ 10 + 2 * (nm + 1) := h237
    have h238 : d233 ≤ 10 + nm / 2 := h238
    obtain rfl : v229 = some (.int 1) := hw228
    have hO : OKP G h0 a (upd (upd (upd (upd F 2 (nI sz)) 9 (nI at201)) 10 0) 11 (nI sg)) (updR R 1 (.ref pq)) Z (updA B 10 f202) J K232 w := hO.to rfl
    refine W.widen (k := ((at201 - (at13 + 1) + 3) + 1)) (n := ((60 * (at201 - (at13 + 1)) + 60) + (4 * d233))) (by show (at201 - (at13 + 1) + 3) + 1 ≤ ((at201 - (at13 + 1) + 3) + 1); omega) (by show (60 * (at201 - (at13 + 1)) + 60) + (4 * d233) ≤ ((60 * (at201 - (at13 + 1)) + 60) + (4 * d233)); omega) ?_
    refine W.eq (g2 := F0 m 66 ls [.int 1]) rfl ?_
    have hwk : WPr G K214 g199 := by rw [hK215]; exact WPr.kI h203 (by decide) (Or.inl (by decide))
    have hwa : WPr G K232 g199 := WPr.add hwk h235 h236 hf223 (by rw [hpx.2.2.2.2.2.2.1]; exact h234) (by rw [hpx.2.2.2.2.2.2.1]; show _ ≤ 5000 ∧ _; omega)
    have hb9 := h235
    have hn9 := h236
    rw [hK215] at hb9 hn9
    have hpa := PgS.addm (PgS.up (s1 := s9 + (at201 - at9) + 2) h204 (by omega)) h203 h205 hb9 hn9 h234 h237 (by omega)
    have hon1 := PgS.once h204 h203 h208 hb9
    have hf239 : K232.1 d0 = 4 := (h235.1 d0 (by rw [hf216]; decide)).1.trans hf216
    have hf240 : K232.1 r200 = 3 := (h235.1 r200 (by rw [hf217]; decide)).1.trans hf217
    have hf241 : K232.1 pq = 7 := (h235.1 pq (by rw [hf218]; decide)).1.trans hf218
    have hf242 : K232.1 dr = 8 := (h235.1 dr (by rw [hf221]; decide)).1.trans hf221
    have hf243 : K232.1 ml = 5 := (h235.1 ml (by rw [hf223]; decide)).1.trans hf223
    refine lv_pop hx hb dX8_member_66 rfl ?_
    refine lv_aload hx hb dX8_member_67 (lv_at hl 0 rfl) ?_
    refine lv_aload_n hx hb dX8_member_69 rfl (lv_at hl 4 rfl) ?_
    have hO : OKP G h0 a (upd (upd (upd (upd (upd (upd (upd (upd (upd F 2 (nI sz)) 9 (nI at9)) 10 0) 11 (nI sg)) 9 (nI at201)) 2 (nI sz)) 9 (nI at201)) 10 (nI 0)) 11 (nI sg)) (updR R 1 (.ref pq)) Z (updA B 10 f202) J K232 w := hO.to rfl
    obtain ⟨_, qr247, hqr248⟩ := hO.2.1 23 _ (sg_23 G h0 a _ _ _ _ _)
    refine pn_V0 (G := G) (As := []) (rest := [.ref r200]) hx hb hml hown hq hE hX pX0_al hP hD hS hA hl.1 (P_block l G h0 a (upd (upd (upd (upd (upd F 2 (nI sz)) 9 (nI at9)) 10 0) 11 (nI sg)) 9 (nI at201)) (updR R 1 (.ref pq)) Z (updA B 10 f202) J K232 w 20 at201 sz 0 sg 0 g199 (by omega) (by omega) (by omega) (by omega) hwa.1 (fun o9 h9 => absurd h9 (by omega)) (PSt_all l G 20) hO hl0) (gV pw_1007 pw_1008 pw_1009 pw_796 pw_1056) hV_X8_block qr247 5 hqr248 rfl rfl rfl (Nat.le_of_ble_eq_true rfl) dX8_member_70 ⟨(by show ((at201 - (at13 + 1) + 3) + 1) + (2 * (sz - at201) + 20) ≤ (4 * (sz - at9) + 40); omega), (by show ((60 * (at201 - (at13 + 1)) + 60) + (4 * d233)) + (11 * (2 * (sz - at201) + 20)) ≤ (60 * (sz - at9) + 2 * sz + 600 - 4 * cp); omega)⟩ ⟨(by show (50 * 20 + 54) + 1 ≤ (1060); omega), (by show 8 + (5 + 11) + (1500 * 20 + 1560) ≤ (31700); omega)⟩ (fun v246 u244 H locs hw245 hP hD hS => ?_) (fun ux ce9 q9 H9 locs9 hux hP9 hD9 hS9 hce hcv hcl => pb_out ux (ThQ.up (Thx.same (Thx.same (Thx.same (Thx.same (Thx.b (Thx.f Thx.rfl (by omega)) (by omega) (by decide)) rfl) rfl) rfl) rfl) RhX.rfl hux) hnt hlocks hce hcv hcl hP9 hD9 hS9 (by show ((at201 - (at13 + 1) + 3) + 1) + (2 * (sz - at201) + 20) ≤ (4 * (sz - at9) + 40); omega) (by show ((60 * (at201 - (at13 + 1)) + 60) + (4 * d233)) + (11 * (2 * (sz - at201) + 20)) ≤ (60 * (sz - at9) + 2 * sz + 600 - 4 * cp); omega))
    obtain ⟨w, r249, K250, g251, at252, sg253, f254, k255⟩ := u244
    obtain ⟨hw245, h256, h257, h258, h259, h260, hO⟩ := hw245
    have h256 : NwR K232 K250 g199 g251 r249 0 k255 ((171 + 3 * (20 - 0))) := h256
    have h257 : at201 + 2 ≤ at252 ∧ at252 ≤ sz := h257
    have h258 : sg ≤ sg253 ∧ sg253 ≤ 60 := h258
    have h259 : rS k255 = at201 ∧ rE k255 ≤ at252 ∧ rS k255 ≤ rE k255 := h259
    have h260 : K250.2.1 0 r249 = 21 := h260
    obtain rfl : v246 = some (.ref r249) := hw245
    have hf261 : K250.1 d0 = 4 := (((h256).2.1.1 d0 (by rw [hf239]; decide)).1).trans hf239
    have hf262 : K250.1 r200 = 3 := (((h256).2.1.1 r200 (by rw [hf240]; decide)).1).trans hf240
    have hf263 : K250.1 pq = 7 := (((h256).2.1.1 pq (by rw [hf241]; decide)).1).trans hf241
    have hf264 : K250.1 dr = 8 := (((h256).2.1.1 dr (by rw [hf242]; decide)).1).trans hf242
    have hf265 : K250.1 ml = 5 := (((h256).2.1.1 ml (by rw [hf243]; decide)).1).trans hf243
    have hO : OKP G h0 a (upd (upd (upd (upd F 2 (nI sz)) 9 (nI at252)) 10 0) 11 (nI sg253)) (updR R 1 (.ref pq)) Z (updA B 10 f254) J K250 w := hO.to rfl
    refine W.widen (k := (((at201 - (at13 + 1) + 3) + 1) + (2 * (at252 - at201) - 3))) (n := (((60 * (at201 - (at13 + 1)) + 60) + (4 * d233)) + (11 * (2 * (at252 - at201) - 3)))) (by show ((at201 - (at13 + 1) + 3) + 1) + (2 * (at252 - at201) - 3) ≤ (((at201 - (at13 + 1) + 3) + 1) + (2 * (at252 - at201) - 3)); omega) (by show ((60 * (at201 - (at13 + 1)) + 60) + (4 * d233)) + (11 * (2 * (at252 - at201) - 3)) ≤ (((60 * (at201 - (at13 + 1)) + 60) + (4 * d233)) + (11 * (2 * (at252 - at201) - 3))); omega) ?_
    refine W.eq (g2 := F0 m 73 ls [.ref r249, .ref r200]) rfl ?_
    have hf266 : K250.1 r249 = 1 := h256.2.2.1.2.1
    have hwb := WPr.nd hwa h256
    have hpb := PgS.nd hpa hwa h256
    have hon2 := Onc.ext hon1 hpa.2.1 hwa hpa.1.2.2.2.1 h256.2.1.1
    have hbr := h256.2.2.1
    have hbr1 := hbr.2.2.1
    have hbr2 := hbr.2.2.2.1
    refine p_put (v := .ref r249) (ty := (.object "JinjaTongue$Node")) (C := RX6) (Tc := TX6) (N := 12) (ci := 12) (K' := (kC K250 7 r200 (some r249))) hx hb hq pin_wsX60 tyX6 tyX6_ok nmX6 hown hE hP hD hS hO (by rw [hf262]; decide) (rep_3 hf262) rfl 5 (by decide) (hq _ pw_1061) (fun _ h9 => h9) rfl (by decide +kernel) rfl rfl (Nat.le_of_ble_eq_true rfl) rfl (by rw [rep_3 (show (kC K250 7 r200 (some r249)).1 r200 = 3 from hf262), pc_7] <;> rfl) (fun p9 hp9 => rep_kC hp9) dX8_member_73 (fun H locs w hP hD hS hO => ?_)
    obtain ⟨K267, hK268⟩ : ∃ z : PK, z = (kC K250 7 r200 (some r249)) := ⟨_, rfl⟩
    rw [← hK268] at hO
    have hf269 : K267.1 d0 = 4 := (by rw [hK268]; exact hf261)
    have hf270 : K267.1 r200 = 3 := (by rw [hK268]; exact hf262)
    have hf271 : K267.1 pq = 7 := (by rw [hK268]; exact hf263)
    have hf272 : K267.1 dr = 8 := (by rw [hK268]; exact hf264)
    have hf273 : K267.1 ml = 5 := (by rw [hK268]; exact hf265)
    have hf274 : K267.1 r249 = 1 := (by rw [hK268]; exact hf266)
    have hf275 : K267.2.2.1 7 r200 = some r249 := by rw [hK268]; exact kC_eq
    refine lv_goto (tgt := 165) hx hb dX8_member_76 (by decide) ?_
    refine W_size (fun hz1 hz2 => ?_)
    refine vx_ret ?_
    have hwc : WPr G K267 g251 := by rw [hK268]; exact WPr.body hwb ⟨hbr.2.1, by omega, by omega, h260⟩ hf262
    have hpc : PgS G K267 g251 (a 1) pq dr ml nd (nm + 1) (cp + d233) (upQ it nm r200) (s9 + (at252 - at9)) := by rw [hK268]; exact PgS.body hpb hon2 (by rw [hbr.2.2.2.2.2.1]; omega)
    have hz276 : WPr G K267 g251 := hwc
    have hz277 : PgS G K267 g251 (a 1) pq dr ml nd (nm + 1) (cp + d233) (upQ it nm r200) (s9 + (at252 - at9)) := hpc
    have hz278 : K267.1 d0 = 4 := hf269
    have hz279 : at9 + 3 ≤ at252 ∧ at252 ≤ sz := (by omega)
    have hz280 : cp ≤ (cp + d233) := (by omega)
    have hz281 : sg253 ≤ 60 := (by omega)
    have hO : OKP G h0 a (upd (upd (upd (upd F 2 (nI sz)) 9 (nI at252)) 10 0) 11 (nI sg253)) (updR R 1 (.ref pq)) Z (updA B 10 f254) J K267 w := hO.to rfl
    refine W.widen (k := (4 * (sz - at9) + 40)) (n := (60 * (sz - at9) + 2 * sz + 600 - 4 * cp)) (by omega) (by omega) ?_
    have hzz1 : H.size ≤ s.heap.size + ((4 * (at252 - at9))) := (by have z : (((at201 - (at13 + 1) + 3) + 1) + (2 * (at252 - at201) - 3)) ≤ (4 * (at252 - at9)) := (by omega); omega)
    have hzz2 : hSl H ≤ hSl s.heap + ((60 * (at252 - at9) + 4 * ((cp + d233) - cp))) := (by have z : (((60 * (at201 - (at13 + 1)) + 60) + (4 * d233)) + (11 * (2 * (at252 - at201) - 3))) ≤ (60 * (at252 - at9) + 4 * ((cp + d233) - cp)) := (by omega); omega)
    exact W.vret hx hb hr (fun t99 ht99 hW99 => ⟨⟨_, (w, (K267, g251, (nm + 1), (cp + d233), (upQ it nm r200), at252, sg253, f254)), rfl, ⟨rfl, hz276, hz277, hz278, hz279, hz280, hz281, hO⟩, by rw [ht99]; exact hP, hD, by rw [ht99]; exact hzz1, by rw [ht99]; exact hzz2⟩, hS.F ht99⟩) hS.2.2 dX8_member_165

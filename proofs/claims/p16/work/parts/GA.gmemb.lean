theorem dX8_told_0 : decode cX8_told 0 = .ok (.aload_n 0, 1) := by decide +kernel
theorem dX8_told_1 : decode cX8_told 1 = .ok (.invokevirtual 95, 3) := by decide +kernel
theorem dX8_told_4 : decode cX8_told 4 = .ok (.istore_n 2, 1) := by decide +kernel
theorem dX8_told_5 : decode cX8_told 5 = .ok (.aload_n 0, 1) := by decide +kernel
theorem dX8_told_6 : decode cX8_told 6 = .ok (.bipush 65, 2) := by decide +kernel
theorem dX8_told_8 : decode cX8_told 8 = .ok (.invokevirtual 53, 3) := by decide +kernel
theorem dX8_told_11 : decode cX8_told 11 = .ok (.istore_n 3, 1) := by decide +kernel
theorem dX8_told_12 : decode cX8_told 12 = .ok (.aload_n 0, 1) := by decide +kernel
theorem dX8_told_13 : decode cX8_told 13 = .ok (.aload_n 1, 1) := by decide +kernel
theorem dX8_told_14 : decode cX8_told 14 = .ok (.iload_n 2, 1) := by decide +kernel
theorem dX8_told_15 : decode cX8_told 15 = .ok (.iload_n 3, 1) := by decide +kernel
theorem dX8_told_16 : decode cX8_told 16 = .ok (.invokevirtual 99, 3) := by decide +kernel
theorem dX8_told_19 : decode cX8_told 19 = .ok (.pop, 1) := by decide +kernel
theorem dX8_told_20 : decode cX8_told 20 = .ok (.aload_n 0, 1) := by decide +kernel
theorem dX8_told_21 : decode cX8_told 21 = .ok (.bipush 38, 2) := by decide +kernel
theorem dX8_told_23 : decode cX8_told 23 = .ok (.invokevirtual 53, 3) := by decide +kernel
theorem dX8_told_26 : decode cX8_told 26 = .ok (.pop, 1) := by decide +kernel
theorem dX8_told_27 : decode cX8_told 27 = .ok (.return_, 1) := by decide +kernel
theorem hV_X8_takeResult : yX8_takeResult.cls = RX8 ∧ yX8_takeResult.cls ≠ "java/lang/invoke/MethodHandle" ∧ yX8_takeResult.cls ≠ "java/lang/invoke/VarHandle" ∧ (parseMethodDescriptor yX8_takeResult.desc).map (fun d => d.parameters.length) = some 0 := by decide +kernel
theorem hV_X8_head : yX8_head.cls = RX8 ∧ yX8_head.cls ≠ "java/lang/invoke/MethodHandle" ∧ yX8_head.cls ≠ "java/lang/invoke/VarHandle" ∧ (parseMethodDescriptor yX8_head.desc).map (fun d => d.parameters.length) = some 3 := by decide +kernel
set_option maxHeartbeats 16000000 in
set_option maxRecDepth 100000 in
theorem P_told (l : Launch) (G : pT) (h0 : Nat) (a : Nat → Nat) (F : Nat → Int32) (R : Nat → Value) (Z : Int64) (B : Nat → Nat → Int32) (J : Nat → Nat → Int64) (K : PK) (w : va_W) (pq : Nat) (dr : Nat) (ml : Nat) (nd : Nat) (nm : Nat) (cp : Nat) (it : Nat → Nat) (s9 : Nat) (d0 : Nat) (sg : Nat) (at9 : Nat) (sz : Nat) (g : Nat → Nat → Nat) (hsz : sz ≤ 5000) (hat : at9 ≤ sz) (hwp : WPr G K g) (hps : PgS G K g (a 1) pq dr ml nd nm cp it s9) (hpz : PzK G K g nm it none) (hd0 : K.1 d0 = 4) (hs9 : s9 ≤ at9) (hsg : sg ≤ 60) (h18k : ¬ K.2.1 18 d0 = 0) (hg5 : g 5 d0 = 0) (hO : OKP G h0 a (upd (upd (upd (upd F 2 (nI sz)) 9 (nI at9)) 10 0) 11 (nI sg)) (updR R 1 (.ref pq)) Z B J K w) (hl0 : l.stackTraces = false) : PBn l G pX0 yX8_told cX8_told 4 none ({ frames := 9, cells := (4 * (sz - at9) + 40), slots := (60 * (sz - at9) + 2 * sz + 600 - 4 * cp), locals := 219 }) [.ref (a 3), .ref d0] w (fun (v : Option Value) (u : va_W × (PK × (Nat → Nat → Nat) × Nat × Nat × (Nat → Nat) × Nat × Nat × (Nat → Int32))) => v = none ∧ (WPr G u.2.1 u.2.2.1) ∧ (PgS G u.2.1 u.2.2.1 (a 1) pq dr ml nd u.2.2.2.1 u.2.2.2.2.1 u.2.2.2.2.2.1 (s9 + (u.2.2.2.2.2.2.1 - at9))) ∧ (u.2.1.1 d0 = 4) ∧ (at9 + 3 ≤ u.2.2.2.2.2.2.1 ∧ u.2.2.2.2.2.2.1 ≤ sz) ∧ (cp ≤ u.2.2.2.2.1) ∧ (u.2.2.2.2.2.2.2.1 ≤ 60) ∧ (PzK G u.2.1 u.2.2.1 u.2.2.2.1 u.2.2.2.2.2.1 none) ∧ (u.2.1.2.1 18 d0 = K.2.1 18 d0) ∧ (u.2.2.1 5 d0 = 0) ∧ (NwT (B 7) sz (B 10) u.2.2.2.2.2.2.2.2 K u.2.1 at9 u.2.2.2.2.2.2.1) ∧ (OKP G h0 a (upd (upd (upd (upd F 2 (nI sz)) 9 (nI u.2.2.2.2.2.2.1)) 10 0) 11 (nI u.2.2.2.2.2.2.2.1)) (updR R 1 (.ref pq)) Z (updA B 10 u.2.2.2.2.2.2.2.2) J u.2.1 u.1)) (fun u => u.1) (fun (u : va_W × (PK × (Nat → Nat → Nat) × Nat × Nat × (Nat → Nat) × Nat × Nat × (Nat → Int32))) => (4 * (u.2.2.2.2.2.2.1 - at9))) (fun (u : va_W × (PK × (Nat → Nat → Nat) × Nat × Nat × (Nat → Nat) × Nat × Nat × (Nat → Int32))) => (60 * (u.2.2.2.2.2.2.1 - at9) + 4 * (u.2.2.2.2.1 - cp))) (fun (u : va_W × (Nat → Int32) × (Nat → Value) × (Nat → Nat → Int32)) => ThQ G h0 a (upd (upd (upd (upd F 2 (nI sz)) 9 (nI at9)) 10 0) 11 (nI sg)) (updR R 1 (.ref pq)) Z B J u) (fun u => u.1) := by
  intro sz
  refine vx_ofW (cc := cX8_told) (maxL := 4) (ret := none) (by decide) rfl ?_
  intro p e s m args below meth c s₁ B9 hml hnt hv
  obtain ⟨rfl, hsz, hP, hD0, hE, hX⟩ := hv
  have hx := B9.exec
  have hb := B9.bytes
  have hr := B9.returns
  have hts := atoms_spec (ws := Cond.code yX8_told cX8_told 4 none :: pw) B9.pre
  have hq : ∀ w ∈ pw, w.before _ s = true := fun w h => hts w (List.mem_cons_of_mem _ h)
  have hown : s.vm.findClass RX8 = some m.cls := findClass_of_methodNamed B9.named
  have hlocks := B9.notSynchronized
  subst hsz
  have hD := hD0.self (sz := s.heap.size)
  have hA : ∀ q : Nat, s.heap.size ≤ q → va_A w s.heap.size q := fun q h => Or.inr h
  generalize va_A w s.heap.size = A at hD hE hA ⊢
  have hS : va_S A s.heap s.heap [] := va_S.rf
  have hl := lv_entry ([.ref (a 3), .ref d0]) (n := 4) (Nat.le_of_ble_eq_true rfl)
  rw [lg_entry_eq]
  generalize (lg_sl ([.ref (a 3), .ref d0]) ++ List.replicate (4 - (lg_sl ([.ref (a 3), .ref d0])).length) Slot.unset).toArray = ls at hl ⊢
  have hl : lv_has ls 4 [(0, .ref (a 3)), (1, .ref d0)] := hl
  have htk0 : NwT (B 7) sz (B 10) (B 10) K K at9 at9 := NwT.nil
  have hcp7 := hps.2.2.2.2.2.2.1
  have hnm7 := hps.2.2.2.2.2.1
  have hnm8 := hps.2.2.1.2.2.1
  refine lv_aload_n hx hb dX8_told_0 rfl (lv_at hl 0 rfl) ?_
  have hO : OKW G h0 a (upd (upd (upd (upd (upd (upd F 2 (nI sz)) 9 (nI at9)) 10 0) 11 (nI sg)) 2 (nI sz)) 9 (nI at9)) (updR R 1 (.ref pq)) Z B J K.1 (fun q99 x99 => x99 = rep G a K q99) w := hO.to rfl
  obtain ⟨_, qr4, hqr5⟩ := hO.2.1 23 _ (sg_23 G h0 a _ _ _ _ _)
  refine pn_V0 (G := G) (As := []) (rest := []) hx hb hml hown hq hE hX pX0_al hP hD hS hA hl.1 (P_takeResult l G h0 a (upd (upd (upd (upd F 2 (nI sz)) 9 (nI at9)) 10 0) 11 (nI sg)) (updR R 1 (.ref pq)) Z B J K.1 (fun q99 x99 => x99 = rep G a K q99) w at9 sz (by omega) (by omega) hO hl0) (gV pw_892 pw_893 pw_894 pw_796 pw_828) hV_X8_takeResult qr4 5 hqr5 rfl rfl rfl (Nat.le_of_ble_eq_true rfl) dX8_told_1 ⟨(by show 0 + 1 ≤ (4 * (sz - at9) + 40); omega), (by show 0 + 6 ≤ (60 * (sz - at9) + 2 * sz + 600 - 4 * cp); omega)⟩ ⟨Nat.le_of_ble_eq_true rfl, Nat.le_of_ble_eq_true rfl⟩ (fun v3 u1 H locs hw2 hP hD hS => ?_) (fun ux ce9 q9 H9 locs9 hux hP9 hD9 hS9 hce hcv hcl => pb_out ux (ThQ.up (Thx.same (Thx.same Thx.rfl rfl) rfl) RhX.rfl hux) hnt hlocks hce hcv hcl hP9 hD9 hS9 (by show 0 + 1 ≤ (4 * (sz - at9) + 40); omega) (by show 0 + 6 ≤ (60 * (sz - at9) + 2 * sz + 600 - 4 * cp); omega))
  obtain ⟨w, at6, f7⟩ := u1
  obtain ⟨hw2, h8, h9, hO⟩ := hw2
  have h8 : at9 + 1 ≤ at6 ∧ at6 ≤ sz := h8
  have h9 : RoS ((B 10)) f7 at9 := h9
  obtain rfl : v3 = some (.int (nI at9)) := hw2
  have hO : OKP G h0 a (upd (upd (upd (upd F 2 (nI sz)) 9 (nI at6)) 10 0) 11 (nI sg)) (updR R 1 (.ref pq)) Z (updA B 10 f7) J K w := hO.to rfl
  refine W.widen (k := 0) (n := 0) (by show 0 + 0 ≤ 0; omega) (by show 0 + 0 ≤ 0; omega) ?_
  refine W.eq (g2 := F0 m 4 ls [.int (nI at9)]) rfl ?_
  have htk10 : NwT (B 7) sz (B 10) f7 K K at9 at9 := (NwT.role htk0 h9 (by omega))
  refine lv_istore_n (lv' := [(2, .int (nI at9)), (0, .ref (a 3)), (1, .ref d0)]) hx hb dX8_told_4 rfl hl (by decide) rfl (fun ls hl => ?_)
  refine lv_aload_n hx hb dX8_told_5 rfl (lv_at hl 1 rfl) ?_
  refine lv_bipush (v := 65) hx hb dX8_told_6 (by decide) ?_
  have hO : OKW G h0 a (upd (upd (upd (upd (upd (upd (upd F 2 (nI sz)) 9 (nI at9)) 10 0) 11 (nI sg)) 9 (nI at6)) 2 (nI sz)) 9 (nI at6)) (updR R 1 (.ref pq)) Z (updA B 10 f7) J K.1 (fun q99 x99 => x99 = rep G a K q99) w := hO.to rfl
  obtain ⟨_, qr14, hqr15⟩ := hO.2.1 23 _ (sg_23 G h0 a _ _ _ _ _)
  refine pn_V0 (G := G) (As := [.int 65]) (rest := []) hx hb hml hown hq hE hX pX0_al hP hD hS hA hl.1 (P_take l G h0 a (upd (upd (upd (upd (upd F 2 (nI sz)) 9 (nI at9)) 10 0) 11 (nI sg)) 9 (nI at6)) (updR R 1 (.ref pq)) Z (updA B 10 f7) J K.1 (fun q99 x99 => x99 = rep G a K q99) w 65 at6 sz (by omega) (by omega) (by decide) hO hl0) (gV pw_793 pw_794 pw_795 pw_796 pw_781) hV_X8_take qr14 5 hqr15 rfl rfl rfl (Nat.le_of_ble_eq_true rfl) dX8_told_8 ⟨(by show 0 + 1 ≤ (4 * (sz - at9) + 40); omega), (by show 0 + 6 ≤ (60 * (sz - at9) + 2 * sz + 600 - 4 * cp); omega)⟩ ⟨Nat.le_of_ble_eq_true rfl, Nat.le_of_ble_eq_true rfl⟩ (fun v13 u11 H locs hw12 hP hD hS => ?_) (fun ux ce9 q9 H9 locs9 hux hP9 hD9 hS9 hce hcv hcl => pb_out ux (ThQ.up (Thx.same (Thx.same (Thx.b (Thx.f Thx.rfl (by omega)) (by omega) (by decide)) rfl) rfl) RhX.rfl hux) hnt hlocks hce hcv hcl hP9 hD9 hS9 (by show 0 + 1 ≤ (4 * (sz - at9) + 40); omega) (by show 0 + 6 ≤ (60 * (sz - at9) + 2 * sz + 600 - 4 * cp); omega))
  obtain ⟨w, _⟩ := u11
  obtain ⟨hw12, h16, h17, hO⟩ := hw12
  have h16 : at6 + 1 ≤ sz := h16
  have h17 : tkN ((B 7)) sz 67 (nI at6) = 65 := h17
  obtain rfl : v13 = some (.int (nI at6)) := hw12
  have hO : OKP G h0 a (upd (upd (upd (upd F 2 (nI sz)) 9 (nI (at6 + 1))) 10 0) 11 (nI sg)) (updR R 1 (.ref pq)) Z (updA B 10 f7) J K w := hO.to rfl
  refine W.widen (k := 0) (n := 0) (by show 0 + 0 ≤ 0; omega) (by show 0 + 0 ≤ 0; omega) ?_
  refine W.eq (g2 := F0 m 11 ls [.int (nI at6)]) rfl ?_
  refine lv_istore_n (lv' := [(3, .int (nI at6)), (2, .int (nI at9)), (0, .ref (a 3)), (1, .ref d0)]) hx hb dX8_told_11 rfl hl (by decide) rfl (fun ls hl => ?_)
  refine lv_aload_n hx hb dX8_told_12 rfl (lv_at hl 2 rfl) ?_
  refine lv_aload_n hx hb dX8_told_13 rfl (lv_at hl 3 rfl) ?_
  refine lv_iload_n hx hb dX8_told_14 rfl (lv_at hl 1 rfl) ?_
  refine lv_iload_n hx hb dX8_told_15 rfl (lv_at hl 0 rfl) ?_
  have hO : OKP G h0 a (upd (upd (upd (upd (upd (upd (upd F 2 (nI sz)) 9 (nI at9)) 10 0) 11 (nI sg)) 9 (nI (at6 + 1))) 2 (nI sz)) 9 (nI (at6 + 1))) (updR (updR R 1 (.ref pq)) 1 (.ref pq)) Z (updA B 10 f7) J K w := hO.to rfl
  obtain ⟨_, qr21, hqr22⟩ := hO.2.1 23 _ (sg_23 G h0 a _ _ _ _ _)
  refine pn_V0 (G := G) (As := [.ref d0, .int (nI at9), .int (nI at6)]) (rest := []) hx hb hml hown hq hE hX pX0_al hP hD hS hA hl.1 (P_head l G h0 a (upd (upd (upd (upd (upd F 2 (nI sz)) 9 (nI at9)) 10 0) 11 (nI sg)) 9 (nI (at6 + 1))) (updR R 1 (.ref pq)) Z (updA B 10 f7) J K w pq dr ml nd nm cp it s9 d0 at6 (nI at9) (at6 + 1) sz g (by omega) (by omega) hwp hps hpz hd0 (by omega) hg5 hO hl0) (gV pw_895 pw_896 pw_897 pw_796 pw_891) hV_X8_head qr21 5 hqr22 rfl rfl rfl (Nat.le_of_ble_eq_true rfl) dX8_told_16 ⟨(by show 0 + (2 * (sz - (at6 + 1)) + 10) ≤ (4 * (sz - at9) + 40); omega), (by show 0 + (60 * (sz - (at6 + 1)) + 400) ≤ (60 * (sz - at9) + 2 * sz + 600 - 4 * cp); omega)⟩ ⟨Nat.le_of_ble_eq_true rfl, Nat.le_of_ble_eq_true rfl⟩ (fun v20 u18 H locs hw19 hP hD hS => ?_) (fun ux ce9 q9 H9 locs9 hux hP9 hD9 hS9 hce hcv hcl => pb_out ux (ThQ.up (Thx.same (Thx.same (Thx.b (Thx.f Thx.rfl (by omega)) (by omega) (by decide)) rfl) rfl) (show RhX (updR R 1 (.ref pq)) (updR (updR R 1 (.ref pq)) 1 (.ref pq)) from fun k9 hk9 => by unfold updR; simp only [show ¬ k9 = 1 by omega, show ¬ k9 = 2 by omega, show ¬ k9 = 3 by omega, show ¬ k9 = 4 by omega, if_false]) hux) hnt hlocks hce hcv hcl hP9 hD9 hS9 (by show 0 + (2 * (sz - (at6 + 1)) + 10) ≤ (4 * (sz - at9) + 40); omega) (by show 0 + (60 * (sz - (at6 + 1)) + 400) ≤ (60 * (sz - at9) + 2 * sz + 600 - 4 * cp); omega))
  obtain ⟨w, K23, g24, r25, at26, f27⟩ := u18
  obtain ⟨hw19, h28, h29, h30, h31, h32, h33, h34, h35, h36, h37, h38, h39, hO⟩ := hw19
  have h28 : WPr G K23 g24 := h28
  have h29 : PgS G K23 g24 (a 1) pq dr ml nd nm cp it (s9 + 3 + (at26 - (at6 + 1))) := h29
  have h30 : K23.1 r25 = 3 := h30
  have h31 : K23.1 d0 = 4 := h31
  have h32 : (at6 + 1) + 2 ≤ at26 ∧ at26 ≤ sz := h32
  have h33 : Onc K23 dr nd r25 := h33
  have h34 : PzK G K23 g24 nm it (omx K d0 r25) := h34
  have h35 : MeI G K23 d0 r25 := h35
  have h36 : K23.2.1 9 r25 = -1 := h36
  have h37 : K23.2.1 18 d0 = K.2.1 18 d0 := h37
  have h38 : g24 5 d0 = 0 := h38
  have h39 : NwT ((B 7)) sz (f7) f27 K K23 (at6 + 1) at26 := h39
  obtain rfl : v20 = some (.ref r25) := hw19
  have hO : OKP G h0 a (upd (upd (upd (upd F 2 (nI sz)) 9 (nI at26)) 10 0) 11 (nI sg)) (updR R 1 (.ref pq)) Z (updA B 10 f27) J K23 w := hO.to rfl
  refine W.widen (k := (at26 - (at6 + 1) + 3)) (n := (60 * (at26 - (at6 + 1)) + 60)) (by show 0 + (at26 - (at6 + 1) + 3) ≤ (at26 - (at6 + 1) + 3); omega) (by show 0 + (60 * (at26 - (at6 + 1)) + 60) ≤ (60 * (at26 - (at6 + 1)) + 60); omega) ?_
  refine W.eq (g2 := F0 m 19 ls [.ref r25]) rfl ?_
  have htk40 : NwT (B 7) sz (B 10) f27 K K23 at9 at26 := (NwT.call htk10 h39 (by omega))
  refine lv_pop hx hb dX8_told_19 rfl ?_
  refine lv_aload_n hx hb dX8_told_20 rfl (lv_at hl 2 rfl) ?_
  refine lv_bipush (v := 38) hx hb dX8_told_21 (by decide) ?_
  have hO : OKW G h0 a (upd (upd (upd (upd (upd (upd (upd F 2 (nI sz)) 9 (nI at9)) 10 0) 11 (nI sg)) 9 (nI at26)) 2 (nI sz)) 9 (nI at26)) (updR R 1 (.ref pq)) Z (updA B 10 f27) J K23.1 (fun q99 x99 => x99 = rep G a K23 q99) w := hO.to rfl
  obtain ⟨_, qr44, hqr45⟩ := hO.2.1 23 _ (sg_23 G h0 a _ _ _ _ _)
  refine pn_V0 (G := G) (As := [.int 38]) (rest := []) hx hb hml hown hq hE hX pX0_al hP hD hS hA hl.1 (P_take l G h0 a (upd (upd (upd (upd (upd F 2 (nI sz)) 9 (nI at9)) 10 0) 11 (nI sg)) 9 (nI at26)) (updR R 1 (.ref pq)) Z (updA B 10 f27) J K23.1 (fun q99 x99 => x99 = rep G a K23 q99) w 38 at26 sz (by omega) (by omega) (by decide) hO hl0) (gV pw_793 pw_794 pw_795 pw_796 pw_781) hV_X8_take qr44 5 hqr45 rfl rfl rfl (Nat.le_of_ble_eq_true rfl) dX8_told_23 ⟨(by show (at26 - (at6 + 1) + 3) + 1 ≤ (4 * (sz - at9) + 40); omega), (by show (60 * (at26 - (at6 + 1)) + 60) + 6 ≤ (60 * (sz - at9) + 2 * sz + 600 - 4 * cp); omega)⟩ ⟨Nat.le_of_ble_eq_true rfl, Nat.le_of_ble_eq_true rfl⟩ (fun v43 u41 H locs hw42 hP hD hS => ?_) (fun ux ce9 q9 H9 locs9 hux hP9 hD9 hS9 hce hcv hcl => pb_out ux (ThQ.up (Thx.same (Thx.same (Thx.b (Thx.f Thx.rfl (by omega)) (by omega) (by decide)) rfl) rfl) RhX.rfl hux) hnt hlocks hce hcv hcl hP9 hD9 hS9 (by show (at26 - (at6 + 1) + 3) + 1 ≤ (4 * (sz - at9) + 40); omega) (by show (60 * (at26 - (at6 + 1)) + 60) + 6 ≤ (60 * (sz - at9) + 2 * sz + 600 - 4 * cp); omega))
  obtain ⟨w, _⟩ := u41
  obtain ⟨hw42, h46, h47, hO⟩ := hw42
  have h46 : at26 + 1 ≤ sz := h46
  have h47 : tkN ((B 7)) sz 67 (nI at26) = 38 := h47
  obtain rfl : v43 = some (.int (nI at26)) := hw42
  have hO : OKP G h0 a (upd (upd (upd (upd F 2 (nI sz)) 9 (nI (at26 + 1))) 10 0) 11 (nI sg)) (updR R 1 (.ref pq)) Z (updA B 10 f27) J K23 w := hO.to rfl
  refine W.widen (k := (at26 - (at6 + 1) + 3)) (n := (60 * (at26 - (at6 + 1)) + 60)) (by show (at26 - (at6 + 1) + 3) + 0 ≤ (at26 - (at6 + 1) + 3); omega) (by show (60 * (at26 - (at6 + 1)) + 60) + 0 ≤ (60 * (at26 - (at6 + 1)) + 60); omega) ?_
  refine W.eq (g2 := F0 m 26 ls [.int (nI at26)]) rfl ?_
  refine lv_pop hx hb dX8_told_26 rfl ?_
  refine W_size (fun hz1 hz2 => ?_)
  refine vx_ret ?_
  have hz48 : WPr G K23 g24 := h28
  have hz49 : PgS G K23 g24 (a 1) pq dr ml nd nm cp it (s9 + ((at26 + 1) - at9)) := (PgS.up h29 (by omega))
  have hz50 : K23.1 d0 = 4 := h31
  have hz51 : at9 + 3 ≤ (at26 + 1) ∧ (at26 + 1) ≤ sz := (by omega)
  have hz52 : cp ≤ cp := (by omega)
  have hz53 : sg ≤ 60 := (by omega)
  have hz54 : PzK G K23 g24 nm it none := (PzK.to h34 (omx.i h18k))
  have hz55 : K23.2.1 18 d0 = K.2.1 18 d0 := h37
  have hz56 : g24 5 d0 = 0 := h38
  have hz57 : NwT (B 7) sz (B 10) f27 K K23 at9 (at26 + 1) := (NwT.le htk40 (by omega))
  have hO : OKP G h0 a (upd (upd (upd (upd F 2 (nI sz)) 9 (nI (at26 + 1))) 10 0) 11 (nI sg)) (updR R 1 (.ref pq)) Z (updA B 10 f27) J K23 w := hO.to rfl
  refine W.widen (k := (4 * (sz - at9) + 40)) (n := (60 * (sz - at9) + 2 * sz + 600 - 4 * cp)) (by omega) (by omega) ?_
  have hzz1 : H.size ≤ s.heap.size + ((4 * ((at26 + 1) - at9))) := (by have z : (at26 - (at6 + 1) + 3) ≤ (4 * ((at26 + 1) - at9)) := (by omega); omega)
  have hzz2 : hSl H ≤ hSl s.heap + ((60 * ((at26 + 1) - at9) + 4 * (cp - cp))) := (by have z : (60 * (at26 - (at6 + 1)) + 60) ≤ (60 * ((at26 + 1) - at9) + 4 * (cp - cp)) := (by omega); omega)
  exact W.vret hx hb hr (fun t99 ht99 hW99 => ⟨⟨_, (w, (K23, g24, nm, cp, it, (at26 + 1), sg, f27)), rfl, ⟨rfl, hz48, hz49, hz50, hz51, hz52, hz53, hz54, hz55, hz56, hz57, hO⟩, by rw [ht99]; exact hP, hD, by rw [ht99]; exact hzz1, by rw [ht99]; exact hzz2⟩, hS.F ht99⟩) hS.2.2 dX8_told_27
theorem dX8_member_0 : decode cX8_member 0 = .ok (.aload_n 0, 1) := by decide +kernel
theorem dX8_member_1 : decode cX8_member 1 = .ok (.bipush 27, 2) := by decide +kernel
theorem dX8_member_3 : decode cX8_member 3 = .ok (.invokevirtual 36, 3) := by decide +kernel
theorem dX8_member_6 : decode cX8_member 6 = .ok (.istore_n 2, 1) := by decide +kernel
theorem dX8_member_7 : decode cX8_member 7 = .ok (.aload_n 0, 1) := by decide +kernel
theorem dX8_member_8 : decode cX8_member 8 = .ok (.invokevirtual 95, 3) := by decide +kernel
theorem dX8_member_11 : decode cX8_member 11 = .ok (.istore_n 3, 1) := by decide +kernel
theorem dX8_member_12 : decode cX8_member 12 = .ok (.aload_n 0, 1) := by decide +kernel
theorem dX8_member_13 : decode cX8_member 13 = .ok (.bipush 65, 2) := by decide +kernel
theorem dX8_member_15 : decode cX8_member 15 = .ok (.invokevirtual 53, 3) := by decide +kernel
theorem dX8_member_18 : decode cX8_member 18 = .ok (.istore 4, 2) := by decide +kernel
theorem dX8_member_20 : decode cX8_member 20 = .ok (.aload_n 0, 1) := by decide +kernel
theorem dX8_member_21 : decode cX8_member 21 = .ok (.bipush 34, 2) := by decide +kernel
theorem dX8_member_23 : decode cX8_member 23 = .ok (.invokevirtual 36, 3) := by decide +kernel
theorem dX8_member_26 : decode cX8_member 26 = .ok (.ifCond .eq 53, 3) := by decide +kernel
theorem dX8_member_79 : decode cX8_member 79 = .ok (.iload_n 2, 1) := by decide +kernel
theorem dX8_member_80 : decode cX8_member 80 = .ok (.ifCond .ne 81, 3) := by decide +kernel
theorem dX8_member_161 : decode cX8_member 161 = .ok (.aload_n 0, 1) := by decide +kernel
theorem dX8_member_162 : decode cX8_member 162 = .ok (.invokevirtual 67, 3) := by decide +kernel
theorem dX8_member_83 : decode cX8_member 83 = .ok (.aload_n 0, 1) := by decide +kernel
theorem dX8_member_84 : decode cX8_member 84 = .ok (.bipush 39, 2) := by decide +kernel
theorem dX8_member_86 : decode cX8_member 86 = .ok (.invokevirtual 36, 3) := by decide +kernel
theorem dX8_member_89 : decode cX8_member 89 = .ok (.ifCond .ne 12, 3) := by decide +kernel
theorem dX8_member_101 : decode cX8_member 101 = .ok (.aload_n 0, 1) := by decide +kernel
theorem dX8_member_102 : decode cX8_member 102 = .ok (.aload_n 1, 1) := by decide +kernel
theorem dX8_member_103 : decode cX8_member 103 = .ok (.iload_n 3, 1) := by decide +kernel
theorem dX8_member_104 : decode cX8_member 104 = .ok (.iload 4, 2) := by decide +kernel
theorem dX8_member_106 : decode cX8_member 106 = .ok (.invokevirtual 128, 3) := by decide +kernel
theorem dX8_member_109 : decode cX8_member 109 = .ok (.iconst 0, 1) := by decide +kernel
theorem dX8_member_110 : decode cX8_member 110 = .ok (.istore 5, 2) := by decide +kernel
theorem dX8_member_112 : decode cX8_member 112 = .ok (.iload 5, 2) := by decide +kernel
theorem dX8_member_114 : decode cX8_member 114 = .ok (.aload_n 0, 1) := by decide +kernel
theorem dX8_member_115 : decode cX8_member 115 = .ok (.getfield 7, 3) := by decide +kernel
theorem dX8_member_118 : decode cX8_member 118 = .ok (.getfield 27, 3) := by decide +kernel
theorem dX8_member_121 : decode cX8_member 121 = .ok (.if_icmp .ge 30, 3) := by decide +kernel
theorem dX8_member_151 : decode cX8_member 151 = .ok (.aload_n 0, 1) := by decide +kernel
theorem dX8_member_152 : decode cX8_member 152 = .ok (.bipush 38, 2) := by decide +kernel
theorem dX8_member_154 : decode cX8_member 154 = .ok (.invokevirtual 53, 3) := by decide +kernel
theorem dX8_member_157 : decode cX8_member 157 = .ok (.pop, 1) := by decide +kernel
theorem dX8_member_158 : decode cX8_member 158 = .ok (.goto 7, 3) := by decide +kernel
theorem dX8_member_165 : decode cX8_member 165 = .ok (.return_, 1) := by decide +kernel
theorem dX8_member_124 : decode cX8_member 124 = .ok (.aload_n 0, 1) := by decide +kernel
theorem dX8_member_125 : decode cX8_member 125 = .ok (.bipush 39, 2) := by decide +kernel
theorem dX8_member_127 : decode cX8_member 127 = .ok (.invokevirtual 80, 3) := by decide +kernel
theorem dX8_member_130 : decode cX8_member 130 = .ok (.ifCond .eq 21, 3) := by decide +kernel
theorem dX8_member_133 : decode cX8_member 133 = .ok (.aload_n 0, 1) := by decide +kernel
theorem dX8_member_134 : decode cX8_member 134 = .ok (.aload_n 1, 1) := by decide +kernel
theorem dX8_member_135 : decode cX8_member 135 = .ok (.iload_n 3, 1) := by decide +kernel
theorem dX8_member_136 : decode cX8_member 136 = .ok (.aload_n 0, 1) := by decide +kernel
theorem dX8_member_137 : decode cX8_member 137 = .ok (.bipush 65, 2) := by decide +kernel
theorem dX8_member_139 : decode cX8_member 139 = .ok (.invokevirtual 53, 3) := by decide +kernel
theorem dX8_member_142 : decode cX8_member 142 = .ok (.invokevirtual 128, 3) := by decide +kernel
theorem dX8_member_145 : decode cX8_member 145 = .ok (.iinc 5 1, 3) := by decide +kernel
theorem dX8_member_148 : decode cX8_member 148 = .ok (.goto (-36), 3) := by decide +kernel
theorem dX8_member_92 : decode cX8_member 92 = .ok (.aload_n 0, 1) := by decide +kernel
theorem dX8_member_93 : decode cX8_member 93 = .ok (.bipush 38, 2) := by decide +kernel
theorem dX8_member_95 : decode cX8_member 95 = .ok (.invokevirtual 36, 3) := by decide +kernel
theorem dX8_member_98 : decode cX8_member 98 = .ok (.ifCond .eq 63, 3) := by decide +kernel
theorem dX8_member_29 : decode cX8_member 29 = .ok (.aload_n 0, 1) := by decide +kernel
theorem dX8_member_30 : decode cX8_member 30 = .ok (.aload_n 1, 1) := by decide +kernel
theorem dX8_member_31 : decode cX8_member 31 = .ok (.iload_n 3, 1) := by decide +kernel
theorem dX8_member_32 : decode cX8_member 32 = .ok (.iload 4, 2) := by decide +kernel
theorem dX8_member_34 : decode cX8_member 34 = .ok (.invokevirtual 99, 3) := by decide +kernel
theorem dX8_member_37 : decode cX8_member 37 = .ok (.astore 5, 2) := by decide +kernel
theorem dX8_member_39 : decode cX8_member 39 = .ok (.aload 5, 2) := by decide +kernel
theorem dX8_member_41 : decode cX8_member 41 = .ok (.aload_n 0, 1) := by decide +kernel
theorem dX8_member_42 : decode cX8_member 42 = .ok (.getfield 13, 3) := by decide +kernel
theorem dX8_member_45 : decode cX8_member 45 = .ok (.getfield 103, 3) := by decide +kernel
theorem dX8_member_48 : decode cX8_member 48 = .ok (.invokevirtual 107, 3) := by decide +kernel
theorem dX8_member_51 : decode cX8_member 51 = .ok (.putfield 111, 3) := by decide +kernel
theorem dX8_member_54 : decode cX8_member 54 = .ok (.aload_n 0, 1) := by decide +kernel
theorem dX8_member_55 : decode cX8_member 55 = .ok (.getfield 13, 3) := by decide +kernel
theorem dX8_member_58 : decode cX8_member 58 = .ok (.getfield 103, 3) := by decide +kernel
theorem dX8_member_61 : decode cX8_member 61 = .ok (.aload 5, 2) := by decide +kernel
theorem dX8_member_63 : decode cX8_member 63 = .ok (.invokevirtual 116, 3) := by decide +kernel
theorem dX8_member_66 : decode cX8_member 66 = .ok (.pop, 1) := by decide +kernel
theorem dX8_member_67 : decode cX8_member 67 = .ok (.aload 5, 2) := by decide +kernel
theorem dX8_member_69 : decode cX8_member 69 = .ok (.aload_n 0, 1) := by decide +kernel
theorem dX8_member_70 : decode cX8_member 70 = .ok (.invokevirtual 120, 3) := by decide +kernel
theorem dX8_member_73 : decode cX8_member 73 = .ok (.putfield 124, 3) := by decide +kernel
theorem dX8_member_76 : decode cX8_member 76 = .ok (.goto 89, 3) := by decide +kernel
theorem hV_X8_addField : yX8_addField.cls = RX8 ∧ yX8_addField.cls ≠ "java/lang/invoke/MethodHandle" ∧ yX8_addField.cls ≠ "java/lang/invoke/VarHandle" ∧ (parseMethodDescriptor yX8_addField.desc).map (fun d => d.parameters.length) = some 3 := by decide +kernel
set_option maxHeartbeats 60000000 in
set_option maxRecDepth 100000 in
theorem P_member (l : Launch) (G : pT) (h0 : Nat) (a : Nat → Nat) (F : Nat → Int32) (R : Nat → Value) (Z : Int64) (B : Nat → Nat → Int32) (J : Nat → Nat → Int64) (K : PK) (w : va_W) (pq : Nat) (dr : Nat) (ml : Nat) (nd : Nat) (nm : Nat) (cp : Nat) (it : Nat → Nat) (s9 : Nat) (d0 : Nat) (sg : Nat) (at9 : Nat) (sz : Nat) (g : Nat → Nat → Nat) (hsz : sz ≤ 5000) (hat : at9 ≤ sz) (hwp : WPr G K g) (hps : PgS G K g (a 1) pq dr ml nd nm cp it s9) (hpz : PzK G K g nm it none) (hd0 : K.1 d0 = 4) (hs9 : s9 ≤ at9) (hsg : sg ≤ 60) (h18k : K.2.1 18 d0 = 0) (hg5 : g 5 d0 = 0) (hO : OKP G h0 a (upd (upd (upd (upd F 2 (nI sz)) 9 (nI at9)) 10 0) 11 (nI sg)) (updR R 1 (.ref pq)) Z B J K w) (hl0 : l.stackTraces = false) : PBn l G pX0 yX8_member cX8_member 6 none ({ frames := (1060), cells := (4 * (sz - at9) + 40), slots := (60 * (sz - at9) + 2 * sz + 600 - 4 * cp), locals := (31700) }) [.ref (a 3), .ref d0] w (fun (v : Option Value) (u : va_W × (PK × (Nat → Nat → Nat) × Nat × Nat × (Nat → Nat) × Nat × Nat × (Nat → Int32))) => v = none ∧ (WPr G u.2.1 u.2.2.1) ∧ (PgS G u.2.1 u.2.2.1 (a 1) pq dr ml nd u.2.2.2.1 u.2.2.2.2.1 u.2.2.2.2.2.1 (s9 + (u.2.2.2.2.2.2.1 - at9))) ∧ (u.2.1.1 d0 = 4) ∧ (at9 + 3 ≤ u.2.2.2.2.2.2.1 ∧ u.2.2.2.2.2.2.1 ≤ sz) ∧ (cp ≤ u.2.2.2.2.1) ∧ (u.2.2.2.2.2.2.2.1 ≤ 60) ∧ (PzK G u.2.1 u.2.2.1 u.2.2.2.1 u.2.2.2.2.2.1 none) ∧ (u.2.1.2.1 18 d0 = K.2.1 18 d0) ∧ (u.2.2.1 5 d0 = 0) ∧ (NwT (B 7) sz (B 10) u.2.2.2.2.2.2.2.2 K u.2.1 at9 u.2.2.2.2.2.2.1) ∧ (OKP G h0 a (upd (upd (upd (upd F 2 (nI sz)) 9 (nI u.2.2.2.2.2.2.1)) 10 0) 11 (nI u.2.2.2.2.2.2.2.1)) (updR R 1 (.ref pq)) Z (updA B 10 u.2.2.2.2.2.2.2.2) J u.2.1 u.1)) (fun u => u.1) (fun (u : va_W × (PK × (Nat → Nat → Nat) × Nat × Nat × (Nat → Nat) × Nat × Nat × (Nat → Int32))) => (4 * (u.2.2.2.2.2.2.1 - at9))) (fun (u : va_W × (PK × (Nat → Nat → Nat) × Nat × Nat × (Nat → Nat) × Nat × Nat × (Nat → Int32))) => (60 * (u.2.2.2.2.2.2.1 - at9) + 4 * (u.2.2.2.2.1 - cp))) (fun (u : va_W × (Nat → Int32) × (Nat → Value) × (Nat → Nat → Int32)) => ThQ G h0 a (upd (upd (upd (upd F 2 (nI sz)) 9 (nI at9)) 10 0) 11 (nI sg)) (updR R 1 (.ref pq)) Z B J u) (fun u => u.1) := by
  intro sz
  refine vx_ofW (cc := cX8_member) (maxL := 6) (ret := none) (by decide) rfl ?_
  intro p e s m args below meth c s₁ B9 hml hnt hv
  obtain ⟨rfl, hsz, hP, hD0, hE, hX⟩ := hv
  have hx := B9.exec
  have hb := B9.bytes
  have hr := B9.returns
  have hts := atoms_spec (ws := Cond.code yX8_member cX8_member 6 none :: pw) B9.pre
  have hq : ∀ w ∈ pw, w.before _ s = true := fun w h => hts w (List.mem_cons_of_mem _ h)
  have hown : s.vm.findClass RX8 = some m.cls := findClass_of_methodNamed B9.named
  have hlocks := B9.notSynchronized
  subst hsz
  have hD := hD0.self (sz := s.heap.size)
  have hA : ∀ q : Nat, s.heap.size ≤ q → va_A w s.heap.size q := fun q h => Or.inr h
  generalize va_A w s.heap.size = A at hD hE hA ⊢
  have hS : va_S A s.heap s.heap [] := va_S.rf
  have hl := lv_entry ([.ref (a 3), .ref d0]) (n := 6) (Nat.le_of_ble_eq_true rfl)
  rw [lg_entry_eq]
  generalize (lg_sl ([.ref (a 3), .ref d0]) ++ List.replicate (6 - (lg_sl ([.ref (a 3), .ref d0])).length) Slot.unset).toArray = ls at hl ⊢
  have hl : lv_has ls 6 [(0, .ref (a 3)), (1, .ref d0)] := hl
  have htk0 : NwT (B 7) sz (B 10) (B 10) K K at9 at9 := NwT.nil
  have hcp7 := hps.2.2.2.2.2.2.1
  have hnm7 := hps.2.2.2.2.2.1
  have hnm8 := hps.2.2.1.2.2.1
  refine lv_aload_n hx hb dX8_member_0 rfl (lv_at hl 0 rfl) ?_
  refine lv_bipush (v := 27) hx hb dX8_member_1 (by decide) ?_
  have hO : OKW G h0 a (upd (upd (upd (upd (upd (upd F 2 (nI sz)) 9 (nI at9)) 10 0) 11 (nI sg)) 2 (nI sz)) 9 (nI at9)) (updR R 1 (.ref pq)) Z B J K.1 (fun q99 x99 => x99 = rep G a K q99) w := hO.to rfl
  obtain ⟨_, qr4, hqr5⟩ := hO.2.1 23 _ (sg_23 G h0 a _ _ _ _ _)
  refine pc_V0 (G := G) (As := [.int 27]) (rest := []) hx hb hml hown hq hE hX pX0_al hP hD hS hA hl.1 (P_sees l G h0 a (upd (upd (upd (upd F 2 (nI sz)) 9 (nI at9)) 10 0) 11 (nI sg)) (updR R 1 (.ref pq)) Z B J K.1 (fun q99 x99 => x99 = rep G a K q99) w 27 at9 sz (by omega) (by omega) hO) (gV pw_803 pw_804 pw_805 pw_796 pw_775) hV_X8_sees qr4 5 hqr5 rfl rfl rfl (Nat.le_of_ble_eq_true rfl) dX8_member_3 ⟨(by show 0 + 0 ≤ (4 * (sz - at9) + 40); omega), (by show 0 + 0 ≤ (60 * (sz - at9) + 2 * sz + 600 - 4 * cp); omega)⟩ ⟨(by show 3 + 1 ≤ (1060); omega), (by show 8 + (2 + 11) + 81 ≤ (31700); omega)⟩ (fun v3 u1 H locs hw2 hP hD hS => ?_)
  obtain ⟨w, r6⟩ := u1
  obtain ⟨hw2, h7, h8, hO⟩ := hw2
  have h7 : r6 ≤ 1 := h7
  have h8 : SeQ ((B 7)) sz at9 27 r6 := h8
  obtain rfl : v3 = some (.int (nI r6)) := hw2
  have hO : OKP G h0 a (upd (upd (upd (upd F 2 (nI sz)) 9 (nI at9)) 10 0) 11 (nI sg)) (updR R 1 (.ref pq)) Z B J K w := hO.to rfl
  refine W.widen (k := 0) (n := 0) (Nat.le_of_ble_eq_true rfl) (Nat.le_of_ble_eq_true rfl) ?_
  refine W.eq (g2 := F0 m 6 ls [.int (nI r6)]) rfl ?_
  refine lv_istore_n (lv' := [(2, .int (nI r6)), (0, .ref (a 3)), (1, .ref d0)]) hx hb dX8_member_6 rfl hl (by decide) rfl (fun ls hl => ?_)
  refine lv_aload_n hx hb dX8_member_7 rfl (lv_at hl 1 rfl) ?_
  have hO : OKW G h0 a (upd (upd (upd (upd (upd (upd F 2 (nI sz)) 9 (nI at9)) 10 0) 11 (nI sg)) 2 (nI sz)) 9 (nI at9)) (updR R 1 (.ref pq)) Z B J K.1 (fun q99 x99 => x99 = rep G a K q99) w := hO.to rfl
  obtain ⟨_, qr12, hqr13⟩ := hO.2.1 23 _ (sg_23 G h0 a _ _ _ _ _)
  refine pn_V0 (G := G) (As := []) (rest := []) hx hb hml hown hq hE hX pX0_al hP hD hS hA hl.1 (P_takeResult l G h0 a (upd (upd (upd (upd F 2 (nI sz)) 9 (nI at9)) 10 0) 11 (nI sg)) (updR R 1 (.ref pq)) Z B J K.1 (fun q99 x99 => x99 = rep G a K q99) w at9 sz (by omega) (by omega) hO hl0) (gV pw_892 pw_893 pw_894 pw_796 pw_828) hV_X8_takeResult qr12 5 hqr13 rfl rfl rfl (Nat.le_of_ble_eq_true rfl) dX8_member_8 ⟨(by show 0 + 1 ≤ (4 * (sz - at9) + 40); omega), (by show 0 + 6 ≤ (60 * (sz - at9) + 2 * sz + 600 - 4 * cp); omega)⟩ ⟨(by show 8 + 1 ≤ (1060); omega), (by show 8 + (1 + 11) + 145 ≤ (31700); omega)⟩ (fun v11 u9 H locs hw10 hP hD hS => ?_) (fun ux ce9 q9 H9 locs9 hux hP9 hD9 hS9 hce hcv hcl => pb_out ux (ThQ.up (Thx.same (Thx.same Thx.rfl rfl) rfl) RhX.rfl hux) hnt hlocks hce hcv hcl hP9 hD9 hS9 (by show 0 + 1 ≤ (4 * (sz - at9) + 40); omega) (by show 0 + 6 ≤ (60 * (sz - at9) + 2 * sz + 600 - 4 * cp); omega))
  obtain ⟨w, at14, f15⟩ := u9
  obtain ⟨hw10, h16, h17, hO⟩ := hw10
  have h16 : at9 + 1 ≤ at14 ∧ at14 ≤ sz := h16
  have h17 : RoS ((B 10)) f15 at9 := h17
  obtain rfl : v11 = some (.int (nI at9)) := hw10
  have hO : OKP G h0 a (upd (upd (upd (upd F 2 (nI sz)) 9 (nI at14)) 10 0) 11 (nI sg)) (updR R 1 (.ref pq)) Z (updA B 10 f15) J K w := hO.to rfl
  refine W.widen (k := 0) (n := 0) (by show 0 + 0 ≤ 0; omega) (by show 0 + 0 ≤ 0; omega) ?_
  refine W.eq (g2 := F0 m 11 ls [.int (nI at9)]) rfl ?_
  have htk18 : NwT (B 7) sz (B 10) f15 K K at9 at9 := (NwT.role htk0 h17 (by omega))
  refine lv_istore_n (lv' := [(3, .int (nI at9)), (2, .int (nI r6)), (0, .ref (a 3)), (1, .ref d0)]) hx hb dX8_member_11 rfl hl (by decide) rfl (fun ls hl => ?_)
  refine lv_aload_n hx hb dX8_member_12 rfl (lv_at hl 2 rfl) ?_
  refine lv_bipush (v := 65) hx hb dX8_member_13 (by decide) ?_
  have hO : OKW G h0 a (upd (upd (upd (upd (upd (upd (upd F 2 (nI sz)) 9 (nI at9)) 10 0) 11 (nI sg)) 9 (nI at14)) 2 (nI sz)) 9 (nI at14)) (updR R 1 (.ref pq)) Z (updA B 10 f15) J K.1 (fun q99 x99 => x99 = rep G a K q99) w := hO.to rfl
  obtain ⟨_, qr22, hqr23⟩ := hO.2.1 23 _ (sg_23 G h0 a _ _ _ _ _)
  refine pn_V0 (G := G) (As := [.int 65]) (rest := []) hx hb hml hown hq hE hX pX0_al hP hD hS hA hl.1 (P_take l G h0 a (upd (upd (upd (upd (upd F 2 (nI sz)) 9 (nI at9)) 10 0) 11 (nI sg)) 9 (nI at14)) (updR R 1 (.ref pq)) Z (updA B 10 f15) J K.1 (fun q99 x99 => x99 = rep G a K q99) w 65 at14 sz (by omega) (by omega) (by decide) hO hl0) (gV pw_793 pw_794 pw_795 pw_796 pw_781) hV_X8_take qr22 5 hqr23 rfl rfl rfl (Nat.le_of_ble_eq_true rfl) dX8_member_15 ⟨(by show 0 + 1 ≤ (4 * (sz - at9) + 40); omega), (by show 0 + 6 ≤ (60 * (sz - at9) + 2 * sz + 600 - 4 * cp); omega)⟩ ⟨(by show 7 + 1 ≤ (1060); omega), (by show 8 + (2 + 11) + 122 ≤ (31700); omega)⟩ (fun v21 u19 H locs hw20 hP hD hS => ?_) (fun ux ce9 q9 H9 locs9 hux hP9 hD9 hS9 hce hcv hcl => pb_out ux (ThQ.up (Thx.same (Thx.same (Thx.b (Thx.f Thx.rfl (by omega)) (by omega) (by decide)) rfl) rfl) RhX.rfl hux) hnt hlocks hce hcv hcl hP9 hD9 hS9 (by show 0 + 1 ≤ (4 * (sz - at9) + 40); omega) (by show 0 + 6 ≤ (60 * (sz - at9) + 2 * sz + 600 - 4 * cp); omega))
  obtain ⟨w, _⟩ := u19
  obtain ⟨hw20, h24, h25, hO⟩ := hw20
  have h24 : at14 + 1 ≤ sz := h24
  have h25 : tkN ((B 7)) sz 67 (nI at14) = 65 := h25
  obtain rfl : v21 = some (.int (nI at14)) := hw20
  have hO : OKP G h0 a (upd (upd (upd (upd F 2 (nI sz)) 9 (nI (at14 + 1))) 10 0) 11 (nI sg)) (updR R 1 (.ref pq)) Z (updA B 10 f15) J K w := hO.to rfl
  refine W.widen (k := 0) (n := 0) (by show 0 + 0 ≤ 0; omega) (by show 0 + 0 ≤ 0; omega) ?_
  refine W.eq (g2 := F0 m 18 ls [.int (nI at14)]) rfl ?_
  refine lv_istore (lv' := [(4, .int (nI at14)), (3, .int (nI at9)), (2, .int (nI r6)), (0, .ref (a 3)), (1, .ref d0)]) hx hb dX8_member_18 hl (by decide) rfl (fun ls hl => ?_)
  refine lv_aload_n hx hb dX8_member_20 rfl (lv_at hl 3 rfl) ?_
  refine lv_bipush (v := 34) hx hb dX8_member_21 (by decide) ?_
  have hO : OKW G h0 a (upd (upd (upd (upd (upd (upd F 2 (nI sz)) 9 (nI (at14 + 1))) 10 0) 11 (nI sg)) 2 (nI sz)) 9 (nI (at14 + 1))) (updR R 1 (.ref pq)) Z (updA B 10 f15) J K.1 (fun q99 x99 => x99 = rep G a K q99) w := hO.to rfl
  obtain ⟨_, qr29, hqr30⟩ := hO.2.1 23 _ (sg_23 G h0 a _ _ _ _ _)
  refine pc_V0 (G := G) (As := [.int 34]) (rest := []) hx hb hml hown hq hE hX pX0_al hP hD hS hA hl.1 (P_sees l G h0 a (upd (upd (upd (upd F 2 (nI sz)) 9 (nI (at14 + 1))) 10 0) 11 (nI sg)) (updR R 1 (.ref pq)) Z (updA B 10 f15) J K.1 (fun q99 x99 => x99 = rep G a K q99) w 34 (at14 + 1) sz (by omega) (by omega) hO) (gV pw_803 pw_804 pw_805 pw_796 pw_775) hV_X8_sees qr29 5 hqr30 rfl rfl rfl (Nat.le_of_ble_eq_true rfl) dX8_member_23 ⟨(by show 0 + 0 ≤ (4 * (sz - at9) + 40); omega), (by show 0 + 0 ≤ (60 * (sz - at9) + 2 * sz + 600 - 4 * cp); omega)⟩ ⟨(by show 3 + 1 ≤ (1060); omega), (by show 8 + (2 + 11) + 81 ≤ (31700); omega)⟩ (fun v28 u26 H locs hw27 hP hD hS => ?_)
  obtain ⟨w, r31⟩ := u26
  obtain ⟨hw27, h32, h33, hO⟩ := hw27
  have h32 : r31 ≤ 1 := h32
  have h33 : SeQ ((B 7)) sz (at14 + 1) 34 r31 := h33
  obtain rfl : v28 = some (.int (nI r31)) := hw27
  have hO : OKP G h0 a (upd (upd (upd (upd F 2 (nI sz)) 9 (nI (at14 + 1))) 10 0) 11 (nI sg)) (updR R 1 (.ref pq)) Z (updA B 10 f15) J K w := hO.to rfl
  refine W.widen (k := 0) (n := 0) (Nat.le_of_ble_eq_true rfl) (Nat.le_of_ble_eq_true rfl) ?_
  refine W.eq (g2 := F0 m 26 ls [.int (nI r31)]) rfl ?_
  refine lv_if_eq (tgt := 79) hx hb dX8_member_26 (by decide) (fun c34 => ?_) (fun c34 => ?_)
  · have n35 : r31 = 0 := (nI_eq (a := r31) (b := 0) (by omega) (by omega)).mp c34
    refine lv_iload_n hx hb dX8_member_79 rfl (lv_at hl 2 rfl) ?_
    refine lv_if_ne (tgt := 161) hx hb dX8_member_80 (by decide) (fun c36 => ?_) (fun c36 => ?_)
    · have n37 : ¬ (r6 = 0) := fun h9 => c36 ((nI_eq (a := r6) (b := 0) (by omega) (by omega)).mpr h9)
      refine lv_aload_n hx hb dX8_member_161 rfl (lv_at hl 3 rfl) ?_
      have hO : OKW G h0 a (upd (upd (upd (upd (upd (upd (upd F 2 (nI sz)) 9 (nI at9)) 10 0) 11 (nI sg)) 9 (nI (at14 + 1))) 2 (nI sz)) 9 (nI (at14 + 1))) (updR R 1 (.ref pq)) Z (updA B 10 f15) J K.1 (fun q99 x99 => x99 = rep G a K q99) w := hO.to rfl
      obtain ⟨_, qr41, hqr42⟩ := hO.2.1 23 _ (sg_23 G h0 a _ _ _ _ _)
      refine pn_V0 (G := G) (As := []) (rest := []) hx hb hml hown hq hE hX pX0_al hP hD hS hA hl.1 (P_refuse l G h0 a (upd (upd (upd (upd (upd F 2 (nI sz)) 9 (nI at9)) 10 0) 11 (nI sg)) 9 (nI (at14 + 1))) (updR R 1 (.ref pq)) Z (updA B 10 f15) J K.1 (fun q99 x99 => x99 = rep G a K q99) w (at14 + 1) sz (by omega) (by omega) hO hl0) (gV pw_806 pw_807 pw_808 pw_796 pw_778) hV_X8_refuse qr41 5 hqr42 rfl rfl rfl (Nat.le_of_ble_eq_true rfl) dX8_member_162 ⟨(by show 0 + 1 ≤ (4 * (sz - at9) + 40); omega), (by show 0 + 6 ≤ (60 * (sz - at9) + 2 * sz + 600 - 4 * cp); omega)⟩ ⟨(by show 7 + 1 ≤ (1060); omega), (by show 8 + (1 + 11) + 122 ≤ (31700); omega)⟩ (fun v40 u38 H locs hw39 hP hD hS => hw39.elim) (fun ux ce9 q9 H9 locs9 hux hP9 hD9 hS9 hce hcv hcl => pb_out ux (ThQ.up (Thx.same (Thx.same (Thx.b (Thx.f Thx.rfl (by omega)) (by omega) (by decide)) rfl) rfl) RhX.rfl hux) hnt hlocks hce hcv hcl hP9 hD9 hS9 (by show 0 + 1 ≤ (4 * (sz - at9) + 40); omega) (by show 0 + 6 ≤ (60 * (sz - at9) + 2 * sz + 600 - 4 * cp); omega))
    · have n43 : r6 = 0 := (nI_eq (a := r6) (b := 0) (by omega) (by omega)).mp c36
      refine lv_aload_n hx hb dX8_member_83 rfl (lv_at hl 3 rfl) ?_
      refine lv_bipush (v := 39) hx hb dX8_member_84 (by decide) ?_
      have hO : OKW G h0 a (upd (upd (upd (upd (upd (upd F 2 (nI sz)) 9 (nI (at14 + 1))) 10 0) 11 (nI sg)) 2 (nI sz)) 9 (nI (at14 + 1))) (updR R 1 (.ref pq)) Z (updA B 10 f15) J K.1 (fun q99 x99 => x99 = rep G a K q99) w := hO.to rfl
      obtain ⟨_, qr47, hqr48⟩ := hO.2.1 23 _ (sg_23 G h0 a _ _ _ _ _)
      refine pc_V0 (G := G) (As := [.int 39]) (rest := []) hx hb hml hown hq hE hX pX0_al hP hD hS hA hl.1 (P_sees l G h0 a (upd (upd (upd (upd F 2 (nI sz)) 9 (nI (at14 + 1))) 10 0) 11 (nI sg)) (updR R 1 (.ref pq)) Z (updA B 10 f15) J K.1 (fun q99 x99 => x99 = rep G a K q99) w 39 (at14 + 1) sz (by omega) (by omega) hO) (gV pw_803 pw_804 pw_805 pw_796 pw_775) hV_X8_sees qr47 5 hqr48 rfl rfl rfl (Nat.le_of_ble_eq_true rfl) dX8_member_86 ⟨(by show 0 + 0 ≤ (4 * (sz - at9) + 40); omega), (by show 0 + 0 ≤ (60 * (sz - at9) + 2 * sz + 600 - 4 * cp); omega)⟩ ⟨(by show 3 + 1 ≤ (1060); omega), (by show 8 + (2 + 11) + 81 ≤ (31700); omega)⟩ (fun v46 u44 H locs hw45 hP hD hS => ?_)
      obtain ⟨w, r49⟩ := u44
      obtain ⟨hw45, h50, h51, hO⟩ := hw45
      have h50 : r49 ≤ 1 := h50
      have h51 : SeQ ((B 7)) sz (at14 + 1) 39 r49 := h51
      obtain rfl : v46 = some (.int (nI r49)) := hw45
      have hO : OKP G h0 a (upd (upd (upd (upd F 2 (nI sz)) 9 (nI (at14 + 1))) 10 0) 11 (nI sg)) (updR R 1 (.ref pq)) Z (updA B 10 f15) J K w := hO.to rfl
      refine W.widen (k := 0) (n := 0) (Nat.le_of_ble_eq_true rfl) (Nat.le_of_ble_eq_true rfl) ?_
      refine W.eq (g2 := F0 m 89 ls [.int (nI r49)]) rfl ?_
      refine lv_if_ne (tgt := 101) hx hb dX8_member_89 (by decide) (fun c52 => ?_) (fun c52 => ?_)
      · have n53 : ¬ (r49 = 0) := fun h9 => c52 ((nI_eq (a := r49) (b := 0) (by omega) (by omega)).mpr h9)
        refine lv_aload_n hx hb dX8_member_101 rfl (lv_at hl 3 rfl) ?_
        refine lv_aload_n hx hb dX8_member_102 rfl (lv_at hl 4 rfl) ?_
        refine lv_iload_n hx hb dX8_member_103 rfl (lv_at hl 1 rfl) ?_
        refine lv_iload hx hb dX8_member_104 (lv_at hl 0 rfl) ?_
        have hO : OKP G h0 a (upd (upd (upd (upd (upd (upd (upd F 2 (nI sz)) 9 (nI at9)) 10 0) 11 (nI sg)) 9 (nI (at14 + 1))) 2 (nI sz)) 9 (nI (at14 + 1))) (updR (updR R 1 (.ref pq)) 1 (.ref pq)) Z (updA B 10 f15) J K w := hO.to rfl
        obtain ⟨_, qr57, hqr58⟩ := hO.2.1 23 _ (sg_23 G h0 a _ _ _ _ _)
        refine pn_V0 (G := G) (As := [.ref d0, .int (nI at9), .int (nI at14)]) (rest := []) hx hb hml hown hq hE hX pX0_al hP hD hS hA hl.1 (P_addField l G h0 a (upd (upd (upd (upd (upd F 2 (nI sz)) 9 (nI at9)) 10 0) 11 (nI sg)) 9 (nI (at14 + 1))) (updR R 1 (.ref pq)) Z (updA B 10 f15) J K w pq dr ml nd nm cp it s9 d0 at14 (nI at9) (at14 + 1) sz g (by omega) (by omega) hwp hps hpz hd0 (by omega) h18k hg5 hO hl0) (gV pw_1062 pw_1063 pw_1064 pw_796 pw_1058) hV_X8_addField qr57 5 hqr58 rfl rfl rfl (Nat.le_of_ble_eq_true rfl) dX8_member_106 ⟨(by show 0 + 3 ≤ (4 * (sz - at9) + 40); omega), (by show 0 + 100 ≤ (60 * (sz - at9) + 2 * sz + 600 - 4 * cp); omega)⟩ ⟨(by show 8 + 1 ≤ (1060); omega), (by show 8 + (4 + 11) + 191 ≤ (31700); omega)⟩ (fun v56 u54 H locs hw55 hP hD hS => ?_) (fun ux ce9 q9 H9 locs9 hux hP9 hD9 hS9 hce hcv hcl => pb_out ux (ThQ.up (Thx.same (Thx.same (Thx.b (Thx.f Thx.rfl (by omega)) (by omega) (by decide)) rfl) rfl) (show RhX (updR R 1 (.ref pq)) (updR (updR R 1 (.ref pq)) 1 (.ref pq)) from fun k9 hk9 => by unfold updR; simp only [show ¬ k9 = 1 by omega, show ¬ k9 = 2 by omega, show ¬ k9 = 3 by omega, show ¬ k9 = 4 by omega, if_false]) hux) hnt hlocks hce hcv hcl hP9 hD9 hS9 (by show 0 + 3 ≤ (4 * (sz - at9) + 40); omega) (by show 0 + 100 ≤ (60 * (sz - at9) + 2 * sz + 600 - 4 * cp); omega))
        obtain ⟨w, K59, g60⟩ := u54
        obtain ⟨hw55, h61, h62, h63, h64, h65, h66, h67, hO⟩ := hw55
        have h61 : WPr G K59 g60 := h61
        have h62 : PgS G K59 g60 (a 1) pq dr ml nd nm cp it (s9 + 2) := h62
        have h63 : K59.1 d0 = 4 := h63
        have h64 : PzK G K59 g60 nm it none := h64
        have h65 : K59.2.1 18 d0 = 0 := h65
        have h66 : g60 5 d0 = 0 := h66
        have h67 : NwT ((B 7)) sz (f15) (f15) K K59 (at14 + 1) (at14 + 1) := h67
        obtain rfl : v56 = none := hw55
        have hO : OKP G h0 a (upd (upd (upd (upd F 2 (nI sz)) 9 (nI (at14 + 1))) 10 0) 11 (nI sg)) (updR R 1 (.ref pq)) Z (updA B 10 f15) J K59 w := hO.to rfl
        refine W.widen (k := 2) (n := 90) (by show 0 + 2 ≤ 2; omega) (by show 0 + 90 ≤ 90; omega) ?_
        refine W.eq (g2 := F0 m 109 ls []) rfl ?_
        have htk68 : NwT (B 7) sz (B 10) f15 K K59 at9 (at14 + 1) := (NwT.call htk18 h67 (by omega))
        refine lv_iconst (v := 0) hx hb dX8_member_109 (by decide) ?_
        refine lv_istore (lv' := [(5, .int 0), (4, .int (nI at14)), (3, .int (nI at9)), (2, .int (nI r6)), (0, .ref (a 3)), (1, .ref d0)]) hx hb dX8_member_110 hl (by decide) rfl (fun ls hl => ?_)
        have loop_f : ∀ (n_f : Nat) (i2 : Nat) (at2 : Nat) (f9 : Nat → Int32) (K2 : PK) (g2 : Nat → Nat → Nat) (s2 : Nat) (x3 : Nat) (H : Heap) (locs : List Loc) (ls : Array Slot) (w : va_W), i2 ≤ sz → sz + 1 ≤ i2 + n_f → (at9 + 2 ≤ at2 ∧ at2 ≤ sz) → (WPr G K2 g2) → (PgS G K2 g2 (a 1) pq dr ml nd nm cp it s2) → (s2 ≤ s9 + (at2 - at9)) → (K2.1 d0 = 4) → (PzK G K2 g2 nm it none) → (K2.2.1 18 d0 = 0) → (g2 5 d0 = 0) → (NwT (B 7) sz (B 10) f9 K K2 at9 at2) → va_P G.1 pCl w H → va_D A w → va_S A s.heap H locs → OKP G h0 a (upd (upd (upd (upd F 2 (nI sz)) 9 (nI at2)) 10 0) 11 (nI sg)) (updR R 1 (.ref pq)) Z (updA B 10 f9) J K2 w → lv_has ls 6 [(5, .int (nI i2)), (3, .int (nI x3)), (1, .ref d0), (0, .ref (a 3))] → W p l e (headSpec (Cond.code yX8_member cX8_member 6 none :: pw) ({ frames := (1060), cells := (4 * (sz - at9) + 40), slots := (60 * (sz - at9) + 2 * sz + 600 - 4 * cp), locals := (31700) } : Room)).room s m ([.ref (a 3), .ref d0] : List Value).toArray below meth c H locs (2 * (at2 - at9)) (60 * (at2 - at9)) (vx_MQ below (pQn G A (fun (v : Option Value) (u : va_W × (PK × (Nat → Nat → Nat) × Nat × Nat × (Nat → Nat) × Nat × Nat × (Nat → Int32))) => v = none ∧ (WPr G u.2.1 u.2.2.1) ∧ (PgS G u.2.1 u.2.2.1 (a 1) pq dr ml nd u.2.2.2.1 u.2.2.2.2.1 u.2.2.2.2.2.1 (s9 + (u.2.2.2.2.2.2.1 - at9))) ∧ (u.2.1.1 d0 = 4) ∧ (at9 + 3 ≤ u.2.2.2.2.2.2.1 ∧ u.2.2.2.2.2.2.1 ≤ sz) ∧ (cp ≤ u.2.2.2.2.1) ∧ (u.2.2.2.2.2.2.2.1 ≤ 60) ∧ (PzK G u.2.1 u.2.2.1 u.2.2.2.1 u.2.2.2.2.2.1 none) ∧ (u.2.1.2.1 18 d0 = K.2.1 18 d0) ∧ (u.2.2.1 5 d0 = 0) ∧ (NwT (B 7) sz (B 10) u.2.2.2.2.2.2.2.2 K u.2.1 at9 u.2.2.2.2.2.2.1) ∧ (OKP G h0 a (upd (upd (upd (upd F 2 (nI sz)) 9 (nI u.2.2.2.2.2.2.1)) 10 0) 11 (nI u.2.2.2.2.2.2.2.1)) (updR R 1 (.ref pq)) Z (updA B 10 u.2.2.2.2.2.2.2.2) J u.2.1 u.1)) (fun u => u.1) (fun (u : va_W × (PK × (Nat → Nat → Nat) × Nat × Nat × (Nat → Nat) × Nat × Nat × (Nat → Int32))) => (4 * (u.2.2.2.2.2.2.1 - at9))) (fun (u : va_W × (PK × (Nat → Nat → Nat) × Nat × Nat × (Nat → Nat) × Nat × Nat × (Nat → Int32))) => (60 * (u.2.2.2.2.2.2.1 - at9) + 4 * (u.2.2.2.2.1 - cp)))) (pXX G A (fun (u : va_W × (Nat → Int32) × (Nat → Value) × (Nat → Nat → Int32)) => ThQ G h0 a (upd (upd (upd (upd F 2 (nI sz)) 9 (nI at9)) 10 0) 11 (nI sg)) (updR R 1 (.ref pq)) Z B J u) (fun u => u.1)) ([.ref (a 3), .ref d0] : List Value).toArray s ({ frames := (1060), cells := (4 * (sz - at9) + 40), slots := (60 * (sz - at9) + 2 * sz + 600 - 4 * cp), locals := (31700) } : Room).cells ({ frames := (1060), cells := (4 * (sz - at9) + 40), slots := (60 * (sz - at9) + 2 * sz + 600 - 4 * cp), locals := (31700) } : Room).slots A) (F0 m 112 ls []) := by
          intro n_f
          induction n_f with
          | zero => intro i2 at2 f9 K2 g2 s2 x3 H locs ls w hk_f hn_f; omega
          | succ n_f ih_f =>
            intro i2 at2 f9 K2 g2 s2 x3 H locs ls w hk_f hn_f hat2 hwp2 hps2 hs2 hd2 hpz2 h18k2 hg52 htkf hP hD hS hO hl
            refine lv_iload hx hb dX8_member_112 (lv_at hl 0 rfl) ?_
            refine lv_aload_n hx hb dX8_member_114 rfl (lv_at hl 3 rfl) ?_
            refine c_get (v := .ref (a 1)) (C := RX8) (Tc := TX8) (N := 5) (ci := 5) hx hb hq pin_wsX80 hown hE hP hO 23 (sg_23 G h0 a _ _ _ _ _) rfl 0 (by decide) (hq _ pw_774) (fun _ h9 => h9) rfl dX8_member_115 ?_
            refine c_get (v := .int (nI sz)) (C := RX10) (Tc := TX10) (N := 15) (ci := 7) hx hb hq pin_wsX100 hown hE hP hO 2 (sg_2 G h0 a _ _ _ _ _) rfl 8 (by decide) (hq _ pw_792) (fun _ h9 => h9) rfl dX8_member_118 ?_
            refine lv_icmp_ge (tgt := 151) hx hb dX8_member_121 (by decide) (fun c69 => ?_) (fun c69 => ?_)
            · have n70 : sz ≤ i2 := (nI_leI (a := sz) (b := i2) (by omega) (by omega)).mp c69
              refine lv_aload_n hx hb dX8_member_151 rfl (lv_at hl 3 rfl) ?_
              refine lv_bipush (v := 38) hx hb dX8_member_152 (by decide) ?_
              have hO : OKW G h0 a (upd (upd (upd (upd (upd (upd (upd F 2 (nI sz)) 9 (nI at9)) 10 0) 11 (nI sg)) 9 (nI at2)) 2 (nI sz)) 9 (nI at2)) (updR R 1 (.ref pq)) Z (updA B 10 f9) J K2.1 (fun q99 x99 => x99 = rep G a K2 q99) w := hO.to rfl
              obtain ⟨_, qr74, hqr75⟩ := hO.2.1 23 _ (sg_23 G h0 a _ _ _ _ _)
              refine pn_V0 (G := G) (As := [.int 38]) (rest := []) hx hb hml hown hq hE hX pX0_al hP hD hS hA hl.1 (P_take l G h0 a (upd (upd (upd (upd (upd F 2 (nI sz)) 9 (nI at9)) 10 0) 11 (nI sg)) 9 (nI at2)) (updR R 1 (.ref pq)) Z (updA B 10 f9) J K2.1 (fun q99 x99 => x99 = rep G a K2 q99) w 38 at2 sz (by omega) (by omega) (by decide) hO hl0) (gV pw_793 pw_794 pw_795 pw_796 pw_781) hV_X8_take qr74 5 hqr75 rfl rfl rfl (Nat.le_of_ble_eq_true rfl) dX8_member_154 ⟨(by show (2 * (at2 - at9)) + 1 ≤ (4 * (sz - at9) + 40); omega), (by show (60 * (at2 - at9)) + 6 ≤ (60 * (sz - at9) + 2 * sz + 600 - 4 * cp); omega)⟩ ⟨(by show 7 + 1 ≤ (1060); omega), (by show 8 + (2 + 11) + 122 ≤ (31700); omega)⟩ (fun v73 u71 H locs hw72 hP hD hS => ?_) (fun ux ce9 q9 H9 locs9 hux hP9 hD9 hS9 hce hcv hcl => pb_out ux (ThQ.up (Thx.same (Thx.same (Thx.b (Thx.f Thx.rfl (by omega)) (by omega) (by decide)) rfl) rfl) RhX.rfl hux) hnt hlocks hce hcv hcl hP9 hD9 hS9 (by show (2 * (at2 - at9)) + 1 ≤ (4 * (sz - at9) + 40); omega) (by show (60 * (at2 - at9)) + 6 ≤ (60 * (sz - at9) + 2 * sz + 600 - 4 * cp); omega))
              obtain ⟨w, _⟩ := u71
              obtain ⟨hw72, h76, h77, hO⟩ := hw72
              have h76 : at2 + 1 ≤ sz := h76
              have h77 : tkN ((B 7)) sz 67 (nI at2) = 38 := h77
              obtain rfl : v73 = some (.int (nI at2)) := hw72
              have hO : OKP G h0 a (upd (upd (upd (upd F 2 (nI sz)) 9 (nI (at2 + 1))) 10 0) 11 (nI sg)) (updR R 1 (.ref pq)) Z (updA B 10 f9) J K2 w := hO.to rfl
              refine W.widen (k := (2 * (at2 - at9))) (n := (60 * (at2 - at9))) (by show (2 * (at2 - at9)) + 0 ≤ (2 * (at2 - at9)); omega) (by show (60 * (at2 - at9)) + 0 ≤ (60 * (at2 - at9)); omega) ?_
              refine W.eq (g2 := F0 m 157 ls [.int (nI at2)]) rfl ?_
              refine lv_pop hx hb dX8_member_157 rfl ?_
              refine lv_goto (tgt := 165) hx hb dX8_member_158 (by decide) ?_
              refine W_size (fun hz1 hz2 => ?_)
              refine vx_ret ?_
              have hz78 : WPr G K2 g2 := hwp2
              have hz79 : PgS G K2 g2 (a 1) pq dr ml nd nm cp it (s9 + ((at2 + 1) - at9)) := (PgS.up hps2 (by omega))
              have hz80 : K2.1 d0 = 4 := hd2
              have hz81 : at9 + 3 ≤ (at2 + 1) ∧ (at2 + 1) ≤ sz := (by omega)
              have hz82 : cp ≤ cp := (by omega)
              have hz83 : sg ≤ 60 := (by omega)
              have hz84 : PzK G K2 g2 nm it none := hpz2
              have hz85 : K2.2.1 18 d0 = K.2.1 18 d0 := (h18k2.trans h18k.symm)
              have hz86 : g2 5 d0 = 0 := hg52
              have hz87 : NwT (B 7) sz (B 10) f9 K K2 at9 (at2 + 1) := (NwT.le htkf (by omega))
              have hO : OKP G h0 a (upd (upd (upd (upd F 2 (nI sz)) 9 (nI (at2 + 1))) 10 0) 11 (nI sg)) (updR R 1 (.ref pq)) Z (updA B 10 f9) J K2 w := hO.to rfl
              refine W.widen (k := (4 * (sz - at9) + 40)) (n := (60 * (sz - at9) + 2 * sz + 600 - 4 * cp)) (by omega) (by omega) ?_
              have hzz1 : H.size ≤ s.heap.size + ((4 * ((at2 + 1) - at9))) := (by have z : (2 * (at2 - at9)) ≤ (4 * ((at2 + 1) - at9)) := (by omega); omega)
              have hzz2 : hSl H ≤ hSl s.heap + ((60 * ((at2 + 1) - at9) + 4 * (cp - cp))) := (by have z : (60 * (at2 - at9)) ≤ (60 * ((at2 + 1) - at9) + 4 * (cp - cp)) := (by omega); omega)
              exact W.vret hx hb hr (fun t99 ht99 hW99 => ⟨⟨_, (w, (K2, g2, nm, cp, it, (at2 + 1), sg, f9)), rfl, ⟨rfl, hz78, hz79, hz80, hz81, hz82, hz83, hz84, hz85, hz86, hz87, hO⟩, by rw [ht99]; exact hP, hD, by rw [ht99]; exact hzz1, by rw [ht99]; exact hzz2⟩, hS.F ht99⟩) hS.2.2 dX8_member_165
            · have n88 : ¬ (sz ≤ i2) := fun h9 => c69 ((nI_leI (a := sz) (b := i2) (by omega) (by omega)).mpr h9)
              refine lv_aload_n hx hb dX8_member_124 rfl (lv_at hl 3 rfl) ?_
              refine lv_bipush (v := 39) hx hb dX8_member_125 (by decide) ?_
              have hO : OKW G h0 a (upd (upd (upd (upd (upd (upd F 2 (nI sz)) 9 (nI at2)) 10 0) 11 (nI sg)) 2 (nI sz)) 9 (nI at2)) (updR R 1 (.ref pq)) Z (updA B 10 f9) J K2.1 (fun q99 x99 => x99 = rep G a K2 q99) w := hO.to rfl
              obtain ⟨_, qr92, hqr93⟩ := hO.2.1 23 _ (sg_23 G h0 a _ _ _ _ _)
              refine pc_V0 (G := G) (As := [.int 39]) (rest := []) hx hb hml hown hq hE hX pX0_al hP hD hS hA hl.1 (P_takeIf l G h0 a (upd (upd (upd (upd F 2 (nI sz)) 9 (nI at2)) 10 0) 11 (nI sg)) (updR R 1 (.ref pq)) Z (updA B 10 f9) J K2.1 (fun q99 x99 => x99 = rep G a K2 q99) w 39 at2 sz (by omega) (by omega) (by decide) hO) (gV pw_797 pw_798 pw_799 pw_796 pw_789) hV_X8_takeIf qr92 5 hqr93 rfl rfl rfl (Nat.le_of_ble_eq_true rfl) dX8_member_127 ⟨(by show (2 * (at2 - at9)) + 0 ≤ (4 * (sz - at9) + 40); omega), (by show (60 * (at2 - at9)) + 0 ≤ (60 * (sz - at9) + 2 * sz + 600 - 4 * cp); omega)⟩ ⟨(by show 3 + 1 ≤ (1060); omega), (by show 8 + (2 + 11) + 81 ≤ (31700); omega)⟩ (fun v91 u89 H locs hw90 hP hD hS => ?_)
              obtain ⟨w, r94⟩ := u89
              obtain ⟨hw90, h95, h96, h97, hO⟩ := hw90
              have h95 : r94 ≤ 1 := h95
              have h96 : at2 + r94 ≤ sz := h96
              have h97 : SeQ ((B 7)) sz at2 39 r94 := h97
              obtain rfl : v91 = some (.int (nI r94)) := hw90
              have hO : OKP G h0 a (upd (upd (upd (upd F 2 (nI sz)) 9 (nI (at2 + r94))) 10 0) 11 (nI sg)) (updR R 1 (.ref pq)) Z (updA B 10 f9) J K2 w := hO.to rfl
              refine W.widen (k := (2 * (at2 - at9))) (n := (60 * (at2 - at9))) (by show (2 * (at2 - at9)) + 0 ≤ (2 * (at2 - at9)); omega) (by show (60 * (at2 - at9)) + 0 ≤ (60 * (at2 - at9)); omega) ?_
              refine W.eq (g2 := F0 m 130 ls [.int (nI r94)]) rfl ?_
              refine lv_if_eq (tgt := 151) hx hb dX8_member_130 (by decide) (fun c98 => ?_) (fun c98 => ?_)
              · have n99 : r94 = 0 := (nI_eq (a := r94) (b := 0) (by omega) (by omega)).mp c98
                refine lv_aload_n hx hb dX8_member_151 rfl (lv_at hl 3 rfl) ?_
                refine lv_bipush (v := 38) hx hb dX8_member_152 (by decide) ?_
                have hO : OKW G h0 a (upd (upd (upd (upd (upd (upd (upd F 2 (nI sz)) 9 (nI at9)) 10 0) 11 (nI sg)) 9 (nI (at2 + r94))) 2 (nI sz)) 9 (nI (at2 + r94))) (updR R 1 (.ref pq)) Z (updA B 10 f9) J K2.1 (fun q99 x99 => x99 = rep G a K2 q99) w := hO.to rfl
                obtain ⟨_, qr103, hqr104⟩ := hO.2.1 23 _ (sg_23 G h0 a _ _ _ _ _)
                refine pn_V0 (G := G) (As := [.int 38]) (rest := []) hx hb hml hown hq hE hX pX0_al hP hD hS hA hl.1 (P_take l G h0 a (upd (upd (upd (upd (upd F 2 (nI sz)) 9 (nI at9)) 10 0) 11 (nI sg)) 9 (nI (at2 + r94))) (updR R 1 (.ref pq)) Z (updA B 10 f9) J K2.1 (fun q99 x99 => x99 = rep G a K2 q99) w 38 (at2 + r94) sz (by omega) (by omega) (by decide) hO hl0) (gV pw_793 pw_794 pw_795 pw_796 pw_781) hV_X8_take qr103 5 hqr104 rfl rfl rfl (Nat.le_of_ble_eq_true rfl) dX8_member_154 ⟨(by show (2 * (at2 - at9)) + 1 ≤ (4 * (sz - at9) + 40); omega), (by show (60 * (at2 - at9)) + 6 ≤ (60 * (sz - at9) + 2 * sz + 600 - 4 * cp); omega)⟩ ⟨(by show 7 + 1 ≤ (1060); omega), (by show 8 + (2 + 11) + 122 ≤ (31700); omega)⟩ (fun v102 u100 H locs hw101 hP hD hS => ?_) (fun ux ce9 q9 H9 locs9 hux hP9 hD9 hS9 hce hcv hcl => pb_out ux (ThQ.up (Thx.same (Thx.same (Thx.b (Thx.f Thx.rfl (by omega)) (by omega) (by decide)) rfl) rfl) RhX.rfl hux) hnt hlocks hce hcv hcl hP9 hD9 hS9 (by show (2 * (at2 - at9)) + 1 ≤ (4 * (sz - at9) + 40); omega) (by show (60 * (at2 - at9)) + 6 ≤ (60 * (sz - at9) + 2 * sz + 600 - 4 * cp); omega))
                obtain ⟨w, _⟩ := u100
                obtain ⟨hw101, h105, h106, hO⟩ := hw101
                have h105 : (at2 + r94) + 1 ≤ sz := h105
                have h106 : tkN ((B 7)) sz 67 (nI (at2 + r94)) = 38 := h106
                obtain rfl : v102 = some (.int (nI (at2 + r94))) := hw101
                have hO : OKP G h0 a (upd (upd (upd (upd F 2 (nI sz)) 9 (nI ((at2 + r94) + 1))) 10 0) 11 (nI sg)) (updR R 1 (.ref pq)) Z (updA B 10 f9) J K2 w := hO.to rfl
                refine W.widen (k := (2 * (at2 - at9))) (n := (60 * (at2 - at9))) (by show (2 * (at2 - at9)) + 0 ≤ (2 * (at2 - at9)); omega) (by show (60 * (at2 - at9)) + 0 ≤ (60 * (at2 - at9)); omega) ?_
                refine W.eq (g2 := F0 m 157 ls [.int (nI (at2 + r94))]) rfl ?_
                refine lv_pop hx hb dX8_member_157 rfl ?_
                refine lv_goto (tgt := 165) hx hb dX8_member_158 (by decide) ?_
                refine W_size (fun hz1 hz2 => ?_)
                refine vx_ret ?_
                have hz107 : WPr G K2 g2 := hwp2
                have hz108 : PgS G K2 g2 (a 1) pq dr ml nd nm cp it (s9 + (((at2 + r94) + 1) - at9)) := (PgS.up hps2 (by omega))
                have hz109 : K2.1 d0 = 4 := hd2
                have hz110 : at9 + 3 ≤ ((at2 + r94) + 1) ∧ ((at2 + r94) + 1) ≤ sz := (by omega)
                have hz111 : cp ≤ cp := (by omega)
                have hz112 : sg ≤ 60 := (by omega)
                have hz113 : PzK G K2 g2 nm it none := hpz2
                have hz114 : K2.2.1 18 d0 = K.2.1 18 d0 := (h18k2.trans h18k.symm)
                have hz115 : g2 5 d0 = 0 := hg52
                have hz116 : NwT (B 7) sz (B 10) f9 K K2 at9 ((at2 + r94) + 1) := (NwT.le htkf (by omega))
                have hO : OKP G h0 a (upd (upd (upd (upd F 2 (nI sz)) 9 (nI ((at2 + r94) + 1))) 10 0) 11 (nI sg)) (updR R 1 (.ref pq)) Z (updA B 10 f9) J K2 w := hO.to rfl
                refine W.widen (k := (4 * (sz - at9) + 40)) (n := (60 * (sz - at9) + 2 * sz + 600 - 4 * cp)) (by omega) (by omega) ?_
                have hzz1 : H.size ≤ s.heap.size + ((4 * (((at2 + r94) + 1) - at9))) := (by have z : (2 * (at2 - at9)) ≤ (4 * (((at2 + r94) + 1) - at9)) := (by omega); omega)
                have hzz2 : hSl H ≤ hSl s.heap + ((60 * (((at2 + r94) + 1) - at9) + 4 * (cp - cp))) := (by have z : (60 * (at2 - at9)) ≤ (60 * (((at2 + r94) + 1) - at9) + 4 * (cp - cp)) := (by omega); omega)
                exact W.vret hx hb hr (fun t99 ht99 hW99 => ⟨⟨_, (w, (K2, g2, nm, cp, it, ((at2 + r94) + 1), sg, f9)), rfl, ⟨rfl, hz107, hz108, hz109, hz110, hz111, hz112, hz113, hz114, hz115, hz116, hO⟩, by rw [ht99]; exact hP, hD, by rw [ht99]; exact hzz1, by rw [ht99]; exact hzz2⟩, hS.F ht99⟩) hS.2.2 dX8_member_165
              · have n117 : ¬ (r94 = 0) := fun h9 => c98 ((nI_eq (a := r94) (b := 0) (by omega) (by omega)).mpr h9)
                refine lv_aload_n hx hb dX8_member_133 rfl (lv_at hl 3 rfl) ?_
                refine lv_aload_n hx hb dX8_member_134 rfl (lv_at hl 2 rfl) ?_
                refine lv_iload_n hx hb dX8_member_135 rfl (lv_at hl 1 rfl) ?_
                refine lv_aload_n hx hb dX8_member_136 rfl (lv_at hl 3 rfl) ?_
                refine lv_bipush (v := 65) hx hb dX8_member_137 (by decide) ?_
                have hO : OKW G h0 a (upd (upd (upd (upd (upd (upd (upd F 2 (nI sz)) 9 (nI at9)) 10 0) 11 (nI sg)) 9 (nI (at2 + r94))) 2 (nI sz)) 9 (nI (at2 + r94))) (updR R 1 (.ref pq)) Z (updA B 10 f9) J K2.1 (fun q99 x99 => x99 = rep G a K2 q99) w := hO.to rfl
                obtain ⟨_, qr121, hqr122⟩ := hO.2.1 23 _ (sg_23 G h0 a _ _ _ _ _)
                refine pn_V0 (G := G) (As := [.int 65]) (rest := [.int (nI x3), .ref d0, .ref (a 3)]) hx hb hml hown hq hE hX pX0_al hP hD hS hA hl.1 (P_take l G h0 a (upd (upd (upd (upd (upd F 2 (nI sz)) 9 (nI at9)) 10 0) 11 (nI sg)) 9 (nI (at2 + r94))) (updR R 1 (.ref pq)) Z (updA B 10 f9) J K2.1 (fun q99 x99 => x99 = rep G a K2 q99) w 65 (at2 + r94) sz (by omega) (by omega) (by decide) hO hl0) (gV pw_793 pw_794 pw_795 pw_796 pw_781) hV_X8_take qr121 5 hqr122 rfl rfl rfl (Nat.le_of_ble_eq_true rfl) dX8_member_139 ⟨(by show (2 * (at2 - at9)) + 1 ≤ (4 * (sz - at9) + 40); omega), (by show (60 * (at2 - at9)) + 6 ≤ (60 * (sz - at9) + 2 * sz + 600 - 4 * cp); omega)⟩ ⟨(by show 7 + 1 ≤ (1060); omega), (by show 8 + (2 + 11) + 122 ≤ (31700); omega)⟩ (fun v120 u118 H locs hw119 hP hD hS => ?_) (fun ux ce9 q9 H9 locs9 hux hP9 hD9 hS9 hce hcv hcl => pb_out ux (ThQ.up (Thx.same (Thx.same (Thx.b (Thx.f Thx.rfl (by omega)) (by omega) (by decide)) rfl) rfl) RhX.rfl hux) hnt hlocks hce hcv hcl hP9 hD9 hS9 (by show (2 * (at2 - at9)) + 1 ≤ (4 * (sz - at9) + 40); omega) (by show (60 * (at2 - at9)) + 6 ≤ (60 * (sz - at9) + 2 * sz + 600 - 4 * cp); omega))
                obtain ⟨w, _⟩ := u118
                obtain ⟨hw119, h123, h124, hO⟩ := hw119
                have h123 : (at2 + r94) + 1 ≤ sz := h123
                have h124 : tkN ((B 7)) sz 67 (nI (at2 + r94)) = 65 := h124
                obtain rfl : v120 = some (.int (nI (at2 + r94))) := hw119
                have hO : OKP G h0 a (upd (upd (upd (upd F 2 (nI sz)) 9 (nI ((at2 + r94) + 1))) 10 0) 11 (nI sg)) (updR R 1 (.ref pq)) Z (updA B 10 f9) J K2 w := hO.to rfl
                refine W.widen (k := (2 * (at2 - at9))) (n := (60 * (at2 - at9))) (by show (2 * (at2 - at9)) + 0 ≤ (2 * (at2 - at9)); omega) (by show (60 * (at2 - at9)) + 0 ≤ (60 * (at2 - at9)); omega) ?_
                refine W.eq (g2 := F0 m 142 ls [.int (nI (at2 + r94)), .int (nI x3), .ref d0, .ref (a 3)]) rfl ?_
                have hO : OKP G h0 a (upd (upd (upd (upd (upd (upd (upd F 2 (nI sz)) 9 (nI at9)) 10 0) 11 (nI sg)) 9 (nI ((at2 + r94) + 1))) 2 (nI sz)) 9 (nI ((at2 + r94) + 1))) (updR (updR R 1 (.ref pq)) 1 (.ref pq)) Z (updA B 10 f9) J K2 w := hO.to rfl
                obtain ⟨_, qr128, hqr129⟩ := hO.2.1 23 _ (sg_23 G h0 a _ _ _ _ _)
                refine pn_V0 (G := G) (As := [.ref d0, .int (nI x3), .int (nI (at2 + r94))]) (rest := []) hx hb hml hown hq hE hX pX0_al hP hD hS hA hl.1 (P_addField l G h0 a (upd (upd (upd (upd (upd F 2 (nI sz)) 9 (nI at9)) 10 0) 11 (nI sg)) 9 (nI ((at2 + r94) + 1))) (updR R 1 (.ref pq)) Z (updA B 10 f9) J K2 w pq dr ml nd nm cp it s2 d0 (at2 + r94) (nI x3) ((at2 + r94) + 1) sz g2 (by omega) (by omega) hwp2 hps2 hpz2 hd2 (by omega) h18k2 hg52 hO hl0) (gV pw_1062 pw_1063 pw_1064 pw_796 pw_1058) hV_X8_addField qr128 5 hqr129 rfl rfl rfl (Nat.le_of_ble_eq_true rfl) dX8_member_142 ⟨(by show (2 * (at2 - at9)) + 3 ≤ (4 * (sz - at9) + 40); omega), (by show (60 * (at2 - at9)) + 100 ≤ (60 * (sz - at9) + 2 * sz + 600 - 4 * cp); omega)⟩ ⟨(by show 8 + 1 ≤ (1060); omega), (by show 8 + (4 + 11) + 191 ≤ (31700); omega)⟩ (fun v127 u125 H locs hw126 hP hD hS => ?_) (fun ux ce9 q9 H9 locs9 hux hP9 hD9 hS9 hce hcv hcl => pb_out ux (ThQ.up (Thx.same (Thx.same (Thx.b (Thx.f Thx.rfl (by omega)) (by omega) (by decide)) rfl) rfl) (show RhX (updR R 1 (.ref pq)) (updR (updR R 1 (.ref pq)) 1 (.ref pq)) from fun k9 hk9 => by unfold updR; simp only [show ¬ k9 = 1 by omega, show ¬ k9 = 2 by omega, show ¬ k9 = 3 by omega, show ¬ k9 = 4 by omega, if_false]) hux) hnt hlocks hce hcv hcl hP9 hD9 hS9 (by show (2 * (at2 - at9)) + 3 ≤ (4 * (sz - at9) + 40); omega) (by show (60 * (at2 - at9)) + 100 ≤ (60 * (sz - at9) + 2 * sz + 600 - 4 * cp); omega))
                obtain ⟨w, K130, g131⟩ := u125
                obtain ⟨hw126, h132, h133, h134, h135, h136, h137, h138, hO⟩ := hw126
                have h132 : WPr G K130 g131 := h132
                have h133 : PgS G K130 g131 (a 1) pq dr ml nd nm cp it (s2 + 2) := h133
                have h134 : K130.1 d0 = 4 := h134
                have h135 : PzK G K130 g131 nm it none := h135
                have h136 : K130.2.1 18 d0 = 0 := h136
                have h137 : g131 5 d0 = 0 := h137
                have h138 : NwT ((B 7)) sz (f9) (f9) K2 K130 ((at2 + r94) + 1) ((at2 + r94) + 1) := h138
                obtain rfl : v127 = none := hw126
                have hO : OKP G h0 a (upd (upd (upd (upd F 2 (nI sz)) 9 (nI ((at2 + r94) + 1))) 10 0) 11 (nI sg)) (updR R 1 (.ref pq)) Z (updA B 10 f9) J K130 w := hO.to rfl
                refine W.widen (k := ((2 * (at2 - at9)) + 2)) (n := ((60 * (at2 - at9)) + 90)) (by show (2 * (at2 - at9)) + 2 ≤ ((2 * (at2 - at9)) + 2); omega) (by show (60 * (at2 - at9)) + 90 ≤ ((60 * (at2 - at9)) + 90); omega) ?_
                refine W.eq (g2 := F0 m 145 ls []) rfl ?_
                have htk139 : NwT (B 7) sz (B 10) f9 K K130 at9 ((at2 + r94) + 1) := (NwT.call htkf h138 (by omega))
                refine lv_iinc (v := (nI (i2 + 1))) (lv' := [(5, .int (nI (i2 + 1))), (3, .int (nI x3)), (1, .ref d0), (0, .ref (a 3))]) hx hb dX8_member_145 hl (k := 0) rfl (nI_1 i2) (by decide) rfl (fun ls hl => ?_)
                refine lv_goto (tgt := 112) hx hb dX8_member_148 (by decide) ?_
                refine W.widen (k := (2 * (((at2 + r94) + 1) - at9))) (n := (60 * (((at2 + r94) + 1) - at9))) (by show ((2 * (at2 - at9)) + 2) ≤ _; omega) (by show ((60 * (at2 - at9)) + 90) ≤ _; omega) ?_
                have hO : OKP G h0 a (upd (upd (upd (upd F 2 (nI sz)) 9 (nI ((at2 + r94) + 1))) 10 0) 11 (nI sg)) (updR R 1 (.ref pq)) Z (updA B 10 f9) J K130 w := hO.to rfl
                exact ih_f (i2 + 1) ((at2 + r94) + 1) f9 K130 g131 (s2 + 2) x3 _ _ _ _ (by omega) (by omega) (by omega) h132 h133 (by omega) h134 h135 h136 h137 (NwT.le htk139 (by omega)) hP hD hS hO (lv_sub hl [0, 1, 2, 3] rfl)
        refine W.widen (k := (2 * ((at14 + 1) - at9))) (n := (60 * ((at14 + 1) - at9))) (by show 2 ≤ _; omega) (by show 90 ≤ _; omega) ?_
        have hO : OKP G h0 a (upd (upd (upd (upd F 2 (nI sz)) 9 (nI (at14 + 1))) 10 0) 11 (nI sg)) (updR R 1 (.ref pq)) Z (updA B 10 f15) J K59 w := hO.to rfl
        exact loop_f (sz + 1) 0 (at14 + 1) f15 K59 g60 (s9 + 2) at9 _ _ _ _ (by omega) (by omega) (by omega) h61 h62 (by omega) h63 h64 h65 h66 (NwT.le htk68 (by omega)) hP hD hS hO (lv_sub hl [0, 2, 5, 4] rfl)
      · have n140 : r49 = 0 := (nI_eq (a := r49) (b := 0) (by omega) (by omega)).mp c52
        refine lv_aload_n hx hb dX8_member_92 rfl (lv_at hl 3 rfl) ?_
        refine lv_bipush (v := 38) hx hb dX8_member_93 (by decide) ?_
        have hO : OKW G h0 a (upd (upd (upd (upd (upd (upd F 2 (nI sz)) 9 (nI (at14 + 1))) 10 0) 11 (nI sg)) 2 (nI sz)) 9 (nI (at14 + 1))) (updR R 1 (.ref pq)) Z (updA B 10 f15) J K.1 (fun q99 x99 => x99 = rep G a K q99) w := hO.to rfl
        obtain ⟨_, qr144, hqr145⟩ := hO.2.1 23 _ (sg_23 G h0 a _ _ _ _ _)
        refine pc_V0 (G := G) (As := [.int 38]) (rest := []) hx hb hml hown hq hE hX pX0_al hP hD hS hA hl.1 (P_sees l G h0 a (upd (upd (upd (upd F 2 (nI sz)) 9 (nI (at14 + 1))) 10 0) 11 (nI sg)) (updR R 1 (.ref pq)) Z (updA B 10 f15) J K.1 (fun q99 x99 => x99 = rep G a K q99) w 38 (at14 + 1) sz (by omega) (by omega) hO) (gV pw_803 pw_804 pw_805 pw_796 pw_775) hV_X8_sees qr144 5 hqr145 rfl rfl rfl (Nat.le_of_ble_eq_true rfl) dX8_member_95 ⟨(by show 0 + 0 ≤ (4 * (sz - at9) + 40); omega), (by show 0 + 0 ≤ (60 * (sz - at9) + 2 * sz + 600 - 4 * cp); omega)⟩ ⟨(by show 3 + 1 ≤ (1060); omega), (by show 8 + (2 + 11) + 81 ≤ (31700); omega)⟩ (fun v143 u141 H locs hw142 hP hD hS => ?_)
        obtain ⟨w, r146⟩ := u141
        obtain ⟨hw142, h147, h148, hO⟩ := hw142
        have h147 : r146 ≤ 1 := h147
        have h148 : SeQ ((B 7)) sz (at14 + 1) 38 r146 := h148
        obtain rfl : v143 = some (.int (nI r146)) := hw142
        have hO : OKP G h0 a (upd (upd (upd (upd F 2 (nI sz)) 9 (nI (at14 + 1))) 10 0) 11 (nI sg)) (updR R 1 (.ref pq)) Z (updA B 10 f15) J K w := hO.to rfl
        refine W.widen (k := 0) (n := 0) (Nat.le_of_ble_eq_true rfl) (Nat.le_of_ble_eq_true rfl) ?_
        refine W.eq (g2 := F0 m 98 ls [.int (nI r146)]) rfl ?_
        refine lv_if_eq (tgt := 161) hx hb dX8_member_98 (by decide) (fun c149 => ?_) (fun c149 => ?_)
        · have n150 : r146 = 0 := (nI_eq (a := r146) (b := 0) (by omega) (by omega)).mp c149
          refine lv_aload_n hx hb dX8_member_161 rfl (lv_at hl 3 rfl) ?_
          have hO : OKW G h0 a (upd (upd (upd (upd (upd (upd (upd F 2 (nI sz)) 9 (nI at9)) 10 0) 11 (nI sg)) 9 (nI (at14 + 1))) 2 (nI sz)) 9 (nI (at14 + 1))) (updR R 1 (.ref pq)) Z (updA B 10 f15) J K.1 (fun q99 x99 => x99 = rep G a K q99) w := hO.to rfl
          obtain ⟨_, qr154, hqr155⟩ := hO.2.1 23 _ (sg_23 G h0 a _ _ _ _ _)
          refine pn_V0 (G := G) (As := []) (rest := []) hx hb hml hown hq hE hX pX0_al hP hD hS hA hl.1 (P_refuse l G h0 a (upd (upd (upd (upd (upd F 2 (nI sz)) 9 (nI at9)) 10 0) 11 (nI sg)) 9 (nI (at14 + 1))) (updR R 1 (.ref pq)) Z (updA B 10 f15) J K.1 (fun q99 x99 => x99 = rep G a K q99) w (at14 + 1) sz (by omega) (by omega) hO hl0) (gV pw_806 pw_807 pw_808 pw_796 pw_778) hV_X8_refuse qr154 5 hqr155 rfl rfl rfl (Nat.le_of_ble_eq_true rfl) dX8_member_162 ⟨(by show 0 + 1 ≤ (4 * (sz - at9) + 40); omega), (by show 0 + 6 ≤ (60 * (sz - at9) + 2 * sz + 600 - 4 * cp); omega)⟩ ⟨(by show 7 + 1 ≤ (1060); omega), (by show 8 + (1 + 11) + 122 ≤ (31700); omega)⟩ (fun v153 u151 H locs hw152 hP hD hS => hw152.elim) (fun ux ce9 q9 H9 locs9 hux hP9 hD9 hS9 hce hcv hcl => pb_out ux (ThQ.up (Thx.same (Thx.same (Thx.b (Thx.f Thx.rfl (by omega)) (by omega) (by decide)) rfl) rfl) RhX.rfl hux) hnt hlocks hce hcv hcl hP9 hD9 hS9 (by show 0 + 1 ≤ (4 * (sz - at9) + 40); omega) (by show 0 + 6 ≤ (60 * (sz - at9) + 2 * sz + 600 - 4 * cp); omega))
        · have n156 : ¬ (r146 = 0) := fun h9 => c149 ((nI_eq (a := r146) (b := 0) (by omega) (by omega)).mpr h9)
          refine lv_aload_n hx hb dX8_member_101 rfl (lv_at hl 3 rfl) ?_
          refine lv_aload_n hx hb dX8_member_102 rfl (lv_at hl 4 rfl) ?_
          refine lv_iload_n hx hb dX8_member_103 rfl (lv_at hl 1 rfl) ?_
          refine lv_iload hx hb dX8_member_104 (lv_at hl 0 rfl) ?_
          have hO : OKP G h0 a (upd (upd (upd (upd (upd (upd (upd F 2 (nI sz)) 9 (nI at9)) 10 0) 11 (nI sg)) 9 (nI (at14 + 1))) 2 (nI sz)) 9 (nI (at14 + 1))) (updR (updR R 1 (.ref pq)) 1 (.ref pq)) Z (updA B 10 f15) J K w := hO.to rfl
          obtain ⟨_, qr160, hqr161⟩ := hO.2.1 23 _ (sg_23 G h0 a _ _ _ _ _)
          refine pn_V0 (G := G) (As := [.ref d0, .int (nI at9), .int (nI at14)]) (rest := []) hx hb hml hown hq hE hX pX0_al hP hD hS hA hl.1 (P_addField l G h0 a (upd (upd (upd (upd (upd F 2 (nI sz)) 9 (nI at9)) 10 0) 11 (nI sg)) 9 (nI (at14 + 1))) (updR R 1 (.ref pq)) Z (updA B 10 f15) J K w pq dr ml nd nm cp it s9 d0 at14 (nI at9) (at14 + 1) sz g (by omega) (by omega) hwp hps hpz hd0 (by omega) h18k hg5 hO hl0) (gV pw_1062 pw_1063 pw_1064 pw_796 pw_1058) hV_X8_addField qr160 5 hqr161 rfl rfl rfl (Nat.le_of_ble_eq_true rfl) dX8_member_106 ⟨(by show 0 + 3 ≤ (4 * (sz - at9) + 40); omega), (by show 0 + 100 ≤ (60 * (sz - at9) + 2 * sz + 600 - 4 * cp); omega)⟩ ⟨(by show 8 + 1 ≤ (1060); omega), (by show 8 + (4 + 11) + 191 ≤ (31700); omega)⟩ (fun v159 u157 H locs hw158 hP hD hS => ?_) (fun ux ce9 q9 H9 locs9 hux hP9 hD9 hS9 hce hcv hcl => pb_out ux (ThQ.up (Thx.same (Thx.same (Thx.b (Thx.f Thx.rfl (by omega)) (by omega) (by decide)) rfl) rfl) (show RhX (updR R 1 (.ref pq)) (updR (updR R 1 (.ref pq)) 1 (.ref pq)) from fun k9 hk9 => by unfold updR; simp only [show ¬ k9 = 1 by omega, show ¬ k9 = 2 by omega, show ¬ k9 = 3 by omega, show ¬ k9 = 4 by omega, if_false]) hux) hnt hlocks hce hcv hcl hP9 hD9 hS9 (by show 0 + 3 ≤ (4 * (sz - at9) + 40); omega) (by show 0 + 100 ≤ (60 * (sz - at9) + 2 * sz + 600 - 4 * cp); omega))
          obtain ⟨w, K162, g163⟩ := u157
          obtain ⟨hw158, h164, h165, h166, h167, h168, h169, h170, hO⟩ := hw158
          have h164 : WPr G K162 g163 := h164
          have h165 : PgS G K162 g163 (a 1) pq dr ml nd nm cp it (s9 + 2) := h165
          have h166 : K162.1 d0 = 4 := h166
          have h167 : PzK G K162 g163 nm it none := h167
          have h168 : K162.2.1 18 d0 = 0 := h168
          have h169 : g163 5 d0 = 0 := h169
          have h170 : NwT ((B 7)) sz (f15) (f15) K K162 (at14 + 1) (at14 + 1) := h170
          obtain rfl : v159 = none := hw158
          have hO : OKP G h0 a (upd (upd (upd (upd F 2 (nI sz)) 9 (nI (at14 + 1))) 10 0) 11 (nI sg)) (updR R 1 (.ref pq)) Z (updA B 10 f15) J K162 w := hO.to rfl
          refine W.widen (k := 2) (n := 90) (by show 0 + 2 ≤ 2; omega) (by show 0 + 90 ≤ 90; omega) ?_
          refine W.eq (g2 := F0 m 109 ls []) rfl ?_
          have htk171 : NwT (B 7) sz (B 10) f15 K K162 at9 (at14 + 1) := (NwT.call htk18 h170 (by omega))
          refine lv_iconst (v := 0) hx hb dX8_member_109 (by decide) ?_
          refine lv_istore (lv' := [(5, .int 0), (4, .int (nI at14)), (3, .int (nI at9)), (2, .int (nI r6)), (0, .ref (a 3)), (1, .ref d0)]) hx hb dX8_member_110 hl (by decide) rfl (fun ls hl => ?_)
          have loop_f : ∀ (n_f : Nat) (i2 : Nat) (at2 : Nat) (f9 : Nat → Int32) (K2 : PK) (g2 : Nat → Nat → Nat) (s2 : Nat) (x3 : Nat) (H : Heap) (locs : List Loc) (ls : Array Slot) (w : va_W), i2 ≤ sz → sz + 1 ≤ i2 + n_f → (at9 + 2 ≤ at2 ∧ at2 ≤ sz) → (WPr G K2 g2) → (PgS G K2 g2 (a 1) pq dr ml nd nm cp it s2) → (s2 ≤ s9 + (at2 - at9)) → (K2.1 d0 = 4) → (PzK G K2 g2 nm it none) → (K2.2.1 18 d0 = 0) → (g2 5 d0 = 0) → (NwT (B 7) sz (B 10) f9 K K2 at9 at2) → va_P G.1 pCl w H → va_D A w → va_S A s.heap H locs → OKP G h0 a (upd (upd (upd (upd F 2 (nI sz)) 9 (nI at2)) 10 0) 11 (nI sg)) (updR R 1 (.ref pq)) Z (updA B 10 f9) J K2 w → lv_has ls 6 [(5, .int (nI i2)), (3, .int (nI x3)), (1, .ref d0), (0, .ref (a 3))] → W p l e (headSpec (Cond.code yX8_member cX8_member 6 none :: pw) ({ frames := (1060), cells := (4 * (sz - at9) + 40), slots := (60 * (sz - at9) + 2 * sz + 600 - 4 * cp), locals := (31700) } : Room)).room s m ([.ref (a 3), .ref d0] : List Value).toArray below meth c H locs (2 * (at2 - at9)) (60 * (at2 - at9)) (vx_MQ below (pQn G A (fun (v : Option Value) (u : va_W × (PK × (Nat → Nat → Nat) × Nat × Nat × (Nat → Nat) × Nat × Nat × (Nat → Int32))) => v = none ∧ (WPr G u.2.1 u.2.2.1) ∧ (PgS G u.2.1 u.2.2.1 (a 1) pq dr ml nd u.2.2.2.1 u.2.2.2.2.1 u.2.2.2.2.2.1 (s9 + (u.2.2.2.2.2.2.1 - at9))) ∧ (u.2.1.1 d0 = 4) ∧ (at9 + 3 ≤ u.2.2.2.2.2.2.1 ∧ u.2.2.2.2.2.2.1 ≤ sz) ∧ (cp ≤ u.2.2.2.2.1) ∧ (u.2.2.2.2.2.2.2.1 ≤ 60) ∧ (PzK G u.2.1 u.2.2.1 u.2.2.2.1 u.2.2.2.2.2.1 none) ∧ (u.2.1.2.1 18 d0 = K.2.1 18 d0) ∧ (u.2.2.1 5 d0 = 0) ∧ (NwT (B 7) sz (B 10) u.2.2.2.2.2.2.2.2 K u.2.1 at9 u.2.2.2.2.2.2.1) ∧ (OKP G h0 a (upd (upd (upd (upd F 2 (nI sz)) 9 (nI u.2.2.2.2.2.2.1)) 10 0) 11 (nI u.2.2.2.2.2.2.2.1)) (updR R 1 (.ref pq)) Z (updA B 10 u.2.2.2.2.2.2.2.2) J u.2.1 u.1)) (fun u => u.1) (fun (u : va_W × (PK × (Nat → Nat → Nat) × Nat × Nat × (Nat → Nat) × Nat × Nat × (Nat → Int32))) => (4 * (u.2.2.2.2.2.2.1 - at9))) (fun (u : va_W × (PK × (Nat → Nat → Nat) × Nat × Nat × (Nat → Nat) × Nat × Nat × (Nat → Int32))) => (60 * (u.2.2.2.2.2.2.1 - at9) + 4 * (u.2.2.2.2.1 - cp)))) (pXX G A (fun (u : va_W × (Nat → Int32) × (Nat → Value) × (Nat → Nat → Int32)) => ThQ G h0 a (upd (upd (upd (upd F 2 (nI sz)) 9 (nI at9)) 10 0) 11 (nI sg)) (updR R 1 (.ref pq)) Z B J u) (fun u => u.1)) ([.ref (a 3), .ref d0] : List Value).toArray s ({ frames := (1060), cells := (4 * (sz - at9) + 40), slots := (60 * (sz - at9) + 2 * sz + 600 - 4 * cp), locals := (31700) } : Room).cells ({ frames := (1060), cells := (4 * (sz - at9) + 40), slots := (60 * (sz - at9) + 2 * sz + 600 - 4 * cp), locals := (31700) } : Room).slots A) (F0 m 112 ls []) := by
            intro n_f
            induction n_f with
            | zero => intro i2 at2 f9 K2 g2 s2 x3 H locs ls w hk_f hn_f; omega
            | succ n_f ih_f =>
              intro i2 at2 f9 K2 g2 s2 x3 H locs ls w hk_f hn_f hat2 hwp2 hps2 hs2 hd2 hpz2 h18k2 hg52 htkf hP hD hS hO hl
              refine lv_iload hx hb dX8_member_112 (lv_at hl 0 rfl) ?_
              refine lv_aload_n hx hb dX8_member_114 rfl (lv_at hl 3 rfl) ?_
              refine c_get (v := .ref (a 1)) (C := RX8) (Tc := TX8) (N := 5) (ci := 5) hx hb hq pin_wsX80 hown hE hP hO 23 (sg_23 G h0 a _ _ _ _ _) rfl 0 (by decide) (hq _ pw_774) (fun _ h9 => h9) rfl dX8_member_115 ?_
              refine c_get (v := .int (nI sz)) (C := RX10) (Tc := TX10) (N := 15) (ci := 7) hx hb hq pin_wsX100 hown hE hP hO 2 (sg_2 G h0 a _ _ _ _ _) rfl 8 (by decide) (hq _ pw_792) (fun _ h9 => h9) rfl dX8_member_118 ?_
              refine lv_icmp_ge (tgt := 151) hx hb dX8_member_121 (by decide) (fun c172 => ?_) (fun c172 => ?_)
              · have n173 : sz ≤ i2 := (nI_leI (a := sz) (b := i2) (by omega) (by omega)).mp c172
                refine lv_aload_n hx hb dX8_member_151 rfl (lv_at hl 3 rfl) ?_
                refine lv_bipush (v := 38) hx hb dX8_member_152 (by decide) ?_
                have hO : OKW G h0 a (upd (upd (upd (upd (upd (upd (upd F 2 (nI sz)) 9 (nI at9)) 10 0) 11 (nI sg)) 9 (nI at2)) 2 (nI sz)) 9 (nI at2)) (updR R 1 (.ref pq)) Z (updA B 10 f9) J K2.1 (fun q99 x99 => x99 = rep G a K2 q99) w := hO.to rfl
                obtain ⟨_, qr177, hqr178⟩ := hO.2.1 23 _ (sg_23 G h0 a _ _ _ _ _)
                refine pn_V0 (G := G) (As := [.int 38]) (rest := []) hx hb hml hown hq hE hX pX0_al hP hD hS hA hl.1 (P_take l G h0 a (upd (upd (upd (upd (upd F 2 (nI sz)) 9 (nI at9)) 10 0) 11 (nI sg)) 9 (nI at2)) (updR R 1 (.ref pq)) Z (updA B 10 f9) J K2.1 (fun q99 x99 => x99 = rep G a K2 q99) w 38 at2 sz (by omega) (by omega) (by decide) hO hl0) (gV pw_793 pw_794 pw_795 pw_796 pw_781) hV_X8_take qr177 5 hqr178 rfl rfl rfl (Nat.le_of_ble_eq_true rfl) dX8_member_154 ⟨(by show (2 * (at2 - at9)) + 1 ≤ (4 * (sz - at9) + 40); omega), (by show (60 * (at2 - at9)) + 6 ≤ (60 * (sz - at9) + 2 * sz + 600 - 4 * cp); omega)⟩ ⟨(by show 7 + 1 ≤ (1060); omega), (by show 8 + (2 + 11) + 122 ≤ (31700); omega)⟩ (fun v176 u174 H locs hw175 hP hD hS => ?_) (fun ux ce9 q9 H9 locs9 hux hP9 hD9 hS9 hce hcv hcl => pb_out ux (ThQ.up (Thx.same (Thx.same (Thx.b (Thx.f Thx.rfl (by omega)) (by omega) (by decide)) rfl) rfl) RhX.rfl hux) hnt hlocks hce hcv hcl hP9 hD9 hS9 (by show (2 * (at2 - at9)) + 1 ≤ (4 * (sz - at9) + 40); omega) (by show (60 * (at2 - at9)) + 6 ≤ (60 * (sz - at9) + 2 * sz + 600 - 4 * cp); omega))
                obtain ⟨w, _⟩ := u174
                obtain ⟨hw175, h179, h180, hO⟩ := hw175
                have h179 : at2 + 1 ≤ sz := h179
                have h180 : tkN ((B 7)) sz 67 (nI at2) = 38 := h180
                obtain rfl : v176 = some (.int (nI at2)) := hw175
                have hO : OKP G h0 a (upd (upd (upd (upd F 2 (nI sz)) 9 (nI (at2 + 1))) 10 0) 11 (nI sg)) (updR R 1 (.ref pq)) Z (updA B 10 f9) J K2 w := hO.to rfl
                refine W.widen (k := (2 * (at2 - at9))) (n := (60 * (at2 - at9))) (by show (2 * (at2 - at9)) + 0 ≤ (2 * (at2 - at9)); omega) (by show (60 * (at2 - at9)) + 0 ≤ (60 * (at2 - at9)); omega) ?_
                refine W.eq (g2 := F0 m 157 ls [.int (nI at2)]) rfl ?_
                refine lv_pop hx hb dX8_member_157 rfl ?_
                refine lv_goto (tgt := 165) hx hb dX8_member_158 (by decide) ?_
                refine W_size (fun hz1 hz2 => ?_)
                refine vx_ret ?_
                have hz181 : WPr G K2 g2 := hwp2
                have hz182 : PgS G K2 g2 (a 1) pq dr ml nd nm cp it (s9 + ((at2 + 1) - at9)) := (PgS.up hps2 (by omega))
                have hz183 : K2.1 d0 = 4 := hd2
                have hz184 : at9 + 3 ≤ (at2 + 1) ∧ (at2 + 1) ≤ sz := (by omega)
                have hz185 : cp ≤ cp := (by omega)
                have hz186 : sg ≤ 60 := (by omega)
                have hz187 : PzK G K2 g2 nm it none := hpz2
                have hz188 : K2.2.1 18 d0 = K.2.1 18 d0 := (h18k2.trans h18k.symm)
                have hz189 : g2 5 d0 = 0 := hg52
                have hz190 : NwT (B 7) sz (B 10) f9 K K2 at9 (at2 + 1) := (NwT.le htkf (by omega))
                have hO : OKP G h0 a (upd (upd (upd (upd F 2 (nI sz)) 9 (nI (at2 + 1))) 10 0) 11 (nI sg)) (updR R 1 (.ref pq)) Z (updA B 10 f9) J K2 w := hO.to rfl
                refine W.widen (k := (4 * (sz - at9) + 40)) (n := (60 * (sz - at9) + 2 * sz + 600 - 4 * cp)) (by omega) (by omega) ?_
                have hzz1 : H.size ≤ s.heap.size + ((4 * ((at2 + 1) - at9))) := (by have z : (2 * (at2 - at9)) ≤ (4 * ((at2 + 1) - at9)) := (by omega); omega)
                have hzz2 : hSl H ≤ hSl s.heap + ((60 * ((at2 + 1) - at9) + 4 * (cp - cp))) := (by have z : (60 * (at2 - at9)) ≤ (60 * ((at2 + 1) - at9) + 4 * (cp - cp)) := (by omega); omega)
                exact W.vret hx hb hr (fun t99 ht99 hW99 => ⟨⟨_, (w, (K2, g2, nm, cp, it, (at2 + 1), sg, f9)), rfl, ⟨rfl, hz181, hz182, hz183, hz184, hz185, hz186, hz187, hz188, hz189, hz190, hO⟩, by rw [ht99]; exact hP, hD, by rw [ht99]; exact hzz1, by rw [ht99]; exact hzz2⟩, hS.F ht99⟩) hS.2.2 dX8_member_165
              · have n191 : ¬ (sz ≤ i2) := fun h9 => c172 ((nI_leI (a := sz) (b := i2) (by omega) (by omega)).mpr h9)
                refine lv_aload_n hx hb dX8_member_124 rfl (lv_at hl 3 rfl) ?_
                refine lv_bipush (v := 39) hx hb dX8_member_125 (by decide) ?_
                have hO : OKW G h0 a (upd (upd (upd (upd (upd (upd F 2 (nI sz)) 9 (nI at2)) 10 0) 11 (nI sg)) 2 (nI sz)) 9 (nI at2)) (updR R 1 (.ref pq)) Z (updA B 10 f9) J K2.1 (fun q99 x99 => x99 = rep G a K2 q99) w := hO.to rfl
                obtain ⟨_, qr195, hqr196⟩ := hO.2.1 23 _ (sg_23 G h0 a _ _ _ _ _)
                refine pc_V0 (G := G) (As := [.int 39]) (rest := []) hx hb hml hown hq hE hX pX0_al hP hD hS hA hl.1 (P_takeIf l G h0 a (upd (upd (upd (upd F 2 (nI sz)) 9 (nI at2)) 10 0) 11 (nI sg)) (updR R 1 (.ref pq)) Z (updA B 10 f9) J K2.1 (fun q99 x99 => x99 = rep G a K2 q99) w 39 at2 sz (by omega) (by omega) (by decide) hO) (gV pw_797 pw_798 pw_799 pw_796 pw_789) hV_X8_takeIf qr195 5 hqr196 rfl rfl rfl (Nat.le_of_ble_eq_true rfl) dX8_member_127 ⟨(by show (2 * (at2 - at9)) + 0 ≤ (4 * (sz - at9) + 40); omega), (by show (60 * (at2 - at9)) + 0 ≤ (60 * (sz - at9) + 2 * sz + 600 - 4 * cp); omega)⟩ ⟨(by show 3 + 1 ≤ (1060); omega), (by show 8 + (2 + 11) + 81 ≤ (31700); omega)⟩ (fun v194 u192 H locs hw193 hP hD hS => ?_)
                obtain ⟨w, r197⟩ := u192
                obtain ⟨hw193, h198, h199, h200, hO⟩ := hw193
                have h198 : r197 ≤ 1 := h198
                have h199 : at2 + r197 ≤ sz := h199
                have h200 : SeQ ((B 7)) sz at2 39 r197 := h200
                obtain rfl : v194 = some (.int (nI r197)) := hw193
                have hO : OKP G h0 a (upd (upd (upd (upd F 2 (nI sz)) 9 (nI (at2 + r197))) 10 0) 11 (nI sg)) (updR R 1 (.ref pq)) Z (updA B 10 f9) J K2 w := hO.to rfl
                refine W.widen (k := (2 * (at2 - at9))) (n := (60 * (at2 - at9))) (by show (2 * (at2 - at9)) + 0 ≤ (2 * (at2 - at9)); omega) (by show (60 * (at2 - at9)) + 0 ≤ (60 * (at2 - at9)); omega) ?_
                refine W.eq (g2 := F0 m 130 ls [.int (nI r197)]) rfl ?_
                refine lv_if_eq (tgt := 151) hx hb dX8_member_130 (by decide) (fun c201 => ?_) (fun c201 => ?_)
                · have n202 : r197 = 0 := (nI_eq (a := r197) (b := 0) (by omega) (by omega)).mp c201
                  refine lv_aload_n hx hb dX8_member_151 rfl (lv_at hl 3 rfl) ?_
                  refine lv_bipush (v := 38) hx hb dX8_member_152 (by decide) ?_
                  have hO : OKW G h0 a (upd (upd (upd (upd (upd (upd (upd F 2 (nI sz)) 9 (nI at9)) 10 0) 11 (nI sg)) 9 (nI (at2 + r197))) 2 (nI sz)) 9 (nI (at2 + r197))) (updR R 1 (.ref pq)) Z (updA B 10 f9) J K2.1 (fun q99 x99 => x99 = rep G a K2 q99) w := hO.to rfl
                  obtain ⟨_, qr206, hqr207⟩ := hO.2.1 23 _ (sg_23 G h0 a _ _ _ _ _)
                  refine pn_V0 (G := G) (As := [.int 38]) (rest := []) hx hb hml hown hq hE hX pX0_al hP hD hS hA hl.1 (P_take l G h0 a (upd (upd (upd (upd (upd F 2 (nI sz)) 9 (nI at9)) 10 0) 11 (nI sg)) 9 (nI (at2 + r197))) (updR R 1 (.ref pq)) Z (updA B 10 f9) J K2.1 (fun q99 x99 => x99 = rep G a K2 q99) w 38 (at2 + r197) sz (by omega) (by omega) (by decide) hO hl0) (gV pw_793 pw_794 pw_795 pw_796 pw_781) hV_X8_take qr206 5 hqr207 rfl rfl rfl (Nat.le_of_ble_eq_true rfl) dX8_member_154 ⟨(by show (2 * (at2 - at9)) + 1 ≤ (4 * (sz - at9) + 40); omega), (by show (60 * (at2 - at9)) + 6 ≤ (60 * (sz - at9) + 2 * sz + 600 - 4 * cp); omega)⟩ ⟨(by show 7 + 1 ≤ (1060); omega), (by show 8 + (2 + 11) + 122 ≤ (31700); omega)⟩ (fun v205 u203 H locs hw204 hP hD hS => ?_) (fun ux ce9 q9 H9 locs9 hux hP9 hD9 hS9 hce hcv hcl => pb_out ux (ThQ.up (Thx.same (Thx.same (Thx.b (Thx.f Thx.rfl (by omega)) (by omega) (by decide)) rfl) rfl) RhX.rfl hux) hnt hlocks hce hcv hcl hP9 hD9 hS9 (by show (2 * (at2 - at9)) + 1 ≤ (4 * (sz - at9) + 40); omega) (by show (60 * (at2 - at9)) + 6 ≤ (60 * (sz - at9) + 2 * sz + 600 - 4 * cp); omega))
                  obtain ⟨w, _⟩ := u203
                  obtain ⟨hw204, h208, h209, hO⟩ := hw204
                  have h208 : (at2 + r197) + 1 ≤ sz := h208
                  have h209 : tkN ((B 7)) sz 67 (nI (at2 + r197)) = 38 := h209
                  obtain rfl : v205 = some (.int (nI (at2 + r197))) := hw204
                  have hO : OKP G h0 a (upd (upd (upd (upd F 2 (nI sz)) 9 (nI ((at2 + r197) + 1))) 10 0) 11 (nI sg)) (updR R 1 (.ref pq)) Z (updA B 10 f9) J K2 w := hO.to rfl
                  refine W.widen (k := (2 * (at2 - at9))) (n := (60 * (at2 - at9))) (by show (2 * (at2 - at9)) + 0 ≤ (2 * (at2 - at9)); omega) (by show (60 * (at2 - at9)) + 0 ≤ (60 * (at2 - at9)); omega) ?_
                  refine W.eq (g2 := F0 m 157 ls [.int (nI (at2 + r197))]) rfl ?_
                  refine lv_pop hx hb dX8_member_157 rfl ?_
                  refine lv_goto (tgt := 165) hx hb dX8_member_158 (by decide) ?_
                  refine W_size (fun hz1 hz2 => ?_)
                  refine vx_ret ?_
                  have hz210 : WPr G K2 g2 := hwp2
                  have hz211 : PgS G K2 g2 (a 1) pq dr ml nd nm cp it (s9 + (((at2 + r197) + 1) - at9)) := (PgS.up hps2 (by omega))
                  have hz212 : K2.1 d0 = 4 := hd2
                  have hz213 : at9 + 3 ≤ ((at2 + r197) + 1) ∧ ((at2 + r197) + 1) ≤ sz := (by omega)
                  have hz214 : cp ≤ cp := (by omega)
                  have hz215 : sg ≤ 60 := (by omega)
                  have hz216 : PzK G K2 g2 nm it none := hpz2
                  have hz217 : K2.2.1 18 d0 = K.2.1 18 d0 := (h18k2.trans h18k.symm)
                  have hz218 : g2 5 d0 = 0 := hg52
                  have hz219 : NwT (B 7) sz (B 10) f9 K K2 at9 ((at2 + r197) + 1) := (NwT.le htkf (by omega))
                  have hO : OKP G h0 a (upd (upd (upd (upd F 2 (nI sz)) 9 (nI ((at2 + r197) + 1))) 10 0) 11 (nI sg)) (updR R 1 (.ref pq)) Z (updA B 10 f9) J K2 w := hO.to rfl
                  refine W.widen (k := (4 * (sz - at9) + 40)) (n := (60 * (sz - at9) + 2 * sz + 600 - 4 * cp)) (by omega) (by omega) ?_
                  have hzz1 : H.size ≤ s.heap.size + ((4 * (((at2 + r197) + 1) - at9))) := (by have z : (2 * (at2 - at9)) ≤ (4 * (((at2 + r197) + 1) - at9)) := (by omega); omega)
                  have hzz2 : hSl H ≤ hSl s.heap + ((60 * (((at2 + r197) + 1) - at9) + 4 * (cp - cp))) := (by have z : (60 * (at2 - at9)) ≤ (60 * (((at2 + r197) + 1) - at9) + 4 * (cp - cp)) := (by omega); omega)
                  exact W.vret hx hb hr (fun t99 ht99 hW99 => ⟨⟨_, (w, (K2, g2, nm, cp, it, ((at2 + r197) + 1), sg, f9)), rfl, ⟨rfl, hz210, hz211, hz212, hz213, hz214, hz215, hz216, hz217, hz218, hz219, hO⟩, by rw [ht99]; exact hP, hD, by rw [ht99]; exact hzz1, by rw [ht99]; exact hzz2⟩, hS.F ht99⟩) hS.2.2 dX8_member_165
                · have n220 : ¬ (r197 = 0) := fun h9 => c201 ((nI_eq (a := r197) (b := 0) (by omega) (by omega)).mpr h9)
                  refine lv_aload_n hx hb dX8_member_133 rfl (lv_at hl 3 rfl) ?_
                  refine lv_aload_n hx hb dX8_member_134 rfl (lv_at hl 2 rfl) ?_
                  refine lv_iload_n hx hb dX8_member_135 rfl (lv_at hl 1 rfl) ?_
                  refine lv_aload_n hx hb dX8_member_136 rfl (lv_at hl 3 rfl) ?_
                  refine lv_bipush (v := 65) hx hb dX8_member_137 (by decide) ?_
                  have hO : OKW G h0 a (upd (upd (upd (upd (upd (upd (upd F 2 (nI sz)) 9 (nI at9)) 10 0) 11 (nI sg)) 9 (nI (at2 + r197))) 2 (nI sz)) 9 (nI (at2 + r197))) (updR R 1 (.ref pq)) Z (updA B 10 f9) J K2.1 (fun q99 x99 => x99 = rep G a K2 q99) w := hO.to rfl
                  obtain ⟨_, qr224, hqr225⟩ := hO.2.1 23 _ (sg_23 G h0 a _ _ _ _ _)
                  refine pn_V0 (G := G) (As := [.int 65]) (rest := [.int (nI x3), .ref d0, .ref (a 3)]) hx hb hml hown hq hE hX pX0_al hP hD hS hA hl.1 (P_take l G h0 a (upd (upd (upd (upd (upd F 2 (nI sz)) 9 (nI at9)) 10 0) 11 (nI sg)) 9 (nI (at2 + r197))) (updR R 1 (.ref pq)) Z (updA B 10 f9) J K2.1 (fun q99 x99 => x99 = rep G a K2 q99) w 65 (at2 + r197) sz (by omega) (by omega) (by decide) hO hl0) (gV pw_793 pw_794 pw_795 pw_796 pw_781) hV_X8_take qr224 5 hqr225 rfl rfl rfl (Nat.le_of_ble_eq_true rfl) dX8_member_139 ⟨(by show (2 * (at2 - at9)) + 1 ≤ (4 * (sz - at9) + 40); omega), (by show (60 * (at2 - at9)) + 6 ≤ (60 * (sz - at9) + 2 * sz + 600 - 4 * cp); omega)⟩ ⟨(by show 7 + 1 ≤ (1060); omega), (by show 8 + (2 + 11) + 122 ≤ (31700); omega)⟩ (fun v223 u221 H locs hw222 hP hD hS => ?_) (fun ux ce9 q9 H9 locs9 hux hP9 hD9 hS9 hce hcv hcl => pb_out ux (ThQ.up (Thx.same (Thx.same (Thx.b (Thx.f Thx.rfl (by omega)) (by omega) (by decide)) rfl) rfl) RhX.rfl hux) hnt hlocks hce hcv hcl hP9 hD9 hS9 (by show (2 * (at2 - at9)) + 1 ≤ (4 * (sz - at9) + 40); omega) (by show (60 * (at2 - at9)) + 6 ≤ (60 * (sz - at9) + 2 * sz + 600 - 4 * cp); omega))
                  obtain ⟨w, _⟩ := u221
                  obtain ⟨hw222, h226, h227, hO⟩ := hw222
                  have h226 : (at2 + r197) + 1 ≤ sz := h226
                  have h227 : tkN ((B 7)) sz 67 (nI (at2 + r197)) = 65 := h227
                  obtain rfl : v223 = some (.int (nI (at2 + r197))) := hw222
                  have hO : OKP G h0 a (upd (upd (upd (upd F 2 (nI sz)) 9 (nI ((at2 + r197) + 1))) 10 0) 11 (nI sg)) (updR R 1 (.ref pq)) Z (updA B 10 f9) J K2 w := hO.to rfl
                  refine W.widen (k := (2 * (at2 - at9))) (n := (60 * (at2 - at9))) (by show (2 * (at2 - at9)) + 0 ≤ (2 * (at2 - at9)); omega) (by show (60 * (at2 - at9)) + 0 ≤ (60 * (at2 - at9)); omega) ?_
                  refine W.eq (g2 := F0 m 142 ls [.int (nI (at2 + r197)), .int (nI x3), .ref d0, .ref (a 3)]) rfl ?_
                  have hO : OKP G h0 a (upd (upd (upd (upd (upd (upd (upd F 2 (nI sz)) 9 (nI at9)) 10 0) 11 (nI sg)) 9 (nI ((at2 + r197) + 1))) 2 (nI sz)) 9 (nI ((at2 + r197) + 1))) (updR (updR R 1 (.ref pq)) 1 (.ref pq)) Z (updA B 10 f9) J K2 w := hO.to rfl
                  obtain ⟨_, qr231, hqr232⟩ := hO.2.1 23 _ (sg_23 G h0 a _ _ _ _ _)
                  refine pn_V0 (G := G) (As := [.ref d0, .int (nI x3), .int (nI (at2 + r197))]) (rest := []) hx hb hml hown hq hE hX pX0_al hP hD hS hA hl.1 (P_addField l G h0 a (upd (upd (upd (upd (upd F 2 (nI sz)) 9 (nI at9)) 10 0) 11 (nI sg)) 9 (nI ((at2 + r197) + 1))) (updR R 1 (.ref pq)) Z (updA B 10 f9) J K2 w pq dr ml nd nm cp it s2 d0 (at2 + r197) (nI x3) ((at2 + r197) + 1) sz g2 (by omega) (by omega) hwp2 hps2 hpz2 hd2 (by omega) h18k2 hg52 hO hl0) (gV pw_1062 pw_1063 pw_1064 pw_796 pw_1058) hV_X8_addField qr231 5 hqr232 rfl rfl rfl (Nat.le_of_ble_eq_true rfl) dX8_member_142 ⟨(by show (2 * (at2 - at9)) + 3 ≤ (4 * (sz - at9) + 40); omega), (by show (60 * (at2 - at9)) + 100 ≤ (60 * (sz - at9) + 2 * sz + 600 - 4 * cp); omega)⟩ ⟨(by show 8 + 1 ≤ (1060); omega), (by show 8 + (4 + 11) + 191 ≤ (31700); omega)⟩ (fun v230 u228 H locs hw229 hP hD hS => ?_) (fun ux ce9 q9 H9 locs9 hux hP9 hD9 hS9 hce hcv hcl => pb_out ux (ThQ.up (Thx.same (Thx.same (Thx.b (Thx.f Thx.rfl (by omega)) (by omega) (by decide)) rfl) rfl) (show RhX (updR R 1 (.ref pq)) (updR (updR R 1 (.ref pq)) 1 (.ref pq)) from fun k9 hk9 => by unfold updR; simp only [show ¬ k9 = 1 by omega, show ¬ k9 = 2 by omega, show ¬ k9 = 3 by omega, show ¬ k9 = 4 by omega, if_false]) hux) hnt hlocks hce hcv hcl hP9 hD9 hS9 (by show (2 * (at2 - at9)) + 3 ≤ (4 * (sz - at9) + 40); omega) (by show (60 * (at2 - at9)) + 100 ≤ (60 * (sz - at9) + 2 * sz + 600 - 4 * cp); omega))
                  obtain ⟨w, K233, g234⟩ := u228
                  obtain ⟨hw229, h235, h236, h237, h238, h239, h240, h241, hO⟩ := hw229
                  have h235 : WPr G K233 g234 := h235
                  have h236 : PgS G K233 g234 (a 1) pq dr ml nd nm cp it (s2 + 2) := h236
                  have h237 : K233.1 d0 = 4 := h237
                  have h238 : PzK G K233 g234 nm it none := h238
                  have h239 : K233.2.1 18 d0 = 0 := h239
                  have h240 : g234 5 d0 = 0 := h240
                  have h241 : NwT ((B 7)) sz (f9) (f9) K2 K233 ((at2 + r197) + 1) ((at2 + r197) + 1) := h241
                  obtain rfl : v230 = none := hw229
                  have hO : OKP G h0 a (upd (upd (upd (upd F 2 (nI sz)) 9 (nI ((at2 + r197) + 1))) 10 0) 11 (nI sg)) (updR R 1 (.ref pq)) Z (updA B 10 f9) J K233 w := hO.to rfl
                  refine W.widen (k := ((2 * (at2 - at9)) + 2)) (n := ((60 * (at2 - at9)) + 90)) (by show (2 * (at2 - at9)) + 2 ≤ ((2 * (at2 - at9)) + 2); omega) (by show (60 * (at2 - at9)) + 90 ≤ ((60 * (at2 - at9)) + 90); omega) ?_
                  refine W.eq (g2 := F0 m 145 ls []) rfl ?_
                  have htk242 : NwT (B 7) sz (B 10) f9 K K233 at9 ((at2 + r197) + 1) := (NwT.call htkf h241 (by omega))
                  refine lv_iinc (v := (nI (i2 + 1))) (lv' := [(5, .int (nI (i2 + 1))), (3, .int (nI x3)), (1, .ref d0), (0, .ref (a 3))]) hx hb dX8_member_145 hl (k := 0) rfl (nI_1 i2) (by decide) rfl (fun ls hl => ?_)
                  refine lv_goto (tgt := 112) hx hb dX8_member_148 (by decide) ?_
                  refine W.widen (k := (2 * (((at2 + r197) + 1) - at9))) (n := (60 * (((at2 + r197) + 1) - at9))) (by show ((2 * (at2 - at9)) + 2) ≤ _; omega) (by show ((60 * (at2 - at9)) + 90) ≤ _; omega) ?_
                  have hO : OKP G h0 a (upd (upd (upd (upd F 2 (nI sz)) 9 (nI ((at2 + r197) + 1))) 10 0) 11 (nI sg)) (updR R 1 (.ref pq)) Z (updA B 10 f9) J K233 w := hO.to rfl
                  exact ih_f (i2 + 1) ((at2 + r197) + 1) f9 K233 g234 (s2 + 2) x3 _ _ _ _ (by omega) (by omega) (by omega) h235 h236 (by omega) h237 h238 h239 h240 (NwT.le htk242 (by omega)) hP hD hS hO (lv_sub hl [0, 1, 2, 3] rfl)
          refine W.widen (k := (2 * ((at14 + 1) - at9))) (n := (60 * ((at14 + 1) - at9))) (by show 2 ≤ _; omega) (by show 90 ≤ _; omega) ?_
          have hO : OKP G h0 a (upd (upd (upd (upd F 2 (nI sz)) 9 (nI (at14 + 1))) 10 0) 11 (nI sg)) (updR R 1 (.ref pq)) Z (updA B 10 f15) J K162 w := hO.to rfl
          exact loop_f (sz + 1) 0 (at14 + 1) f15 K162 g163 (s9 + 2) at9 _ _ _ _ (by omega) (by omega) (by omega) h164 h165 (by omega) h166 h167 h168 h169 (NwT.le htk171 (by omega)) hP hD hS hO (lv_sub hl [0, 2, 5, 4] rfl)
  · have n243 : ¬ (r31 = 0) := fun h9 => c34 ((nI_eq (a := r31) (b := 0) (by omega) (by omega)).mpr h9)
    refine lv_aload_n hx hb dX8_member_29 rfl (lv_at hl 3 rfl) ?_
    refine lv_aload_n hx hb dX8_member_30 rfl (lv_at hl 4 rfl) ?_
    refine lv_iload_n hx hb dX8_member_31 rfl (lv_at hl 1 rfl) ?_
    refine lv_iload hx hb dX8_member_32 (lv_at hl 0 rfl) ?_
    have hO : OKP G h0 a (upd (upd (upd (upd (upd (upd (upd F 2 (nI sz)) 9 (nI at9)) 10 0) 11 (nI sg)) 9 (nI (at14 + 1))) 2 (nI sz)) 9 (nI (at14 + 1))) (updR (updR R 1 (.ref pq)) 1 (.ref pq)) Z (updA B 10 f15) J K w := hO.to rfl
    obtain ⟨_, qr247, hqr248⟩ := hO.2.1 23 _ (sg_23 G h0 a _ _ _ _ _)
    refine pn_V0 (G := G) (As := [.ref d0, .int (nI at9), .int (nI at14)]) (rest := []) hx hb hml hown hq hE hX pX0_al hP hD hS hA hl.1 (P_head l G h0 a (upd (upd (upd (upd (upd F 2 (nI sz)) 9 (nI at9)) 10 0) 11 (nI sg)) 9 (nI (at14 + 1))) (updR R 1 (.ref pq)) Z (updA B 10 f15) J K w pq dr ml nd nm cp it s9 d0 at14 (nI at9) (at14 + 1) sz g (by omega) (by omega) hwp hps hpz hd0 (by omega) hg5 hO hl0) (gV pw_895 pw_896 pw_897 pw_796 pw_891) hV_X8_head qr247 5 hqr248 rfl rfl rfl (Nat.le_of_ble_eq_true rfl) dX8_member_34 ⟨(by show 0 + (2 * (sz - (at14 + 1)) + 10) ≤ (4 * (sz - at9) + 40); omega), (by show 0 + (60 * (sz - (at14 + 1)) + 400) ≤ (60 * (sz - at9) + 2 * sz + 600 - 4 * cp); omega)⟩ ⟨(by show 8 + 1 ≤ (1060); omega), (by show 8 + (9 + 11) + 191 ≤ (31700); omega)⟩ (fun v246 u244 H locs hw245 hP hD hS => ?_) (fun ux ce9 q9 H9 locs9 hux hP9 hD9 hS9 hce hcv hcl => pb_out ux (ThQ.up (Thx.same (Thx.same (Thx.b (Thx.f Thx.rfl (by omega)) (by omega) (by decide)) rfl) rfl) (show RhX (updR R 1 (.ref pq)) (updR (updR R 1 (.ref pq)) 1 (.ref pq)) from fun k9 hk9 => by unfold updR; simp only [show ¬ k9 = 1 by omega, show ¬ k9 = 2 by omega, show ¬ k9 = 3 by omega, show ¬ k9 = 4 by omega, if_false]) hux) hnt hlocks hce hcv hcl hP9 hD9 hS9 (by show 0 + (2 * (sz - (at14 + 1)) + 10) ≤ (4 * (sz - at9) + 40); omega) (by show 0 + (60 * (sz - (at14 + 1)) + 400) ≤ (60 * (sz - at9) + 2 * sz + 600 - 4 * cp); omega))
    obtain ⟨w, K249, g250, r251, at252, f253⟩ := u244
    obtain ⟨hw245, h254, h255, h256, h257, h258, h259, h260, h261, h262, h263, h264, h265, hO⟩ := hw245
    have h254 : WPr G K249 g250 := h254
    have h255 : PgS G K249 g250 (a 1) pq dr ml nd nm cp it (s9 + 3 + (at252 - (at14 + 1))) := h255
    have h256 : K249.1 r251 = 3 := h256
    have h257 : K249.1 d0 = 4 := h257
    have h258 : (at14 + 1) + 2 ≤ at252 ∧ at252 ≤ sz := h258
    have h259 : Onc K249 dr nd r251 := h259
    have h260 : PzK G K249 g250 nm it (omx K d0 r251) := h260
    have h261 : MeI G K249 d0 r251 := h261
    have h262 : K249.2.1 9 r251 = -1 := h262
    have h263 : K249.2.1 18 d0 = K.2.1 18 d0 := h263
    have h264 : g250 5 d0 = 0 := h264
    have h265 : NwT ((B 7)) sz (f15) f253 K K249 (at14 + 1) at252 := h265
    obtain rfl : v246 = some (.ref r251) := hw245
    have hO : OKP G h0 a (upd (upd (upd (upd F 2 (nI sz)) 9 (nI at252)) 10 0) 11 (nI sg)) (updR R 1 (.ref pq)) Z (updA B 10 f253) J K249 w := hO.to rfl
    refine W.widen (k := (at252 - (at14 + 1) + 3)) (n := (60 * (at252 - (at14 + 1)) + 60)) (by show 0 + (at252 - (at14 + 1) + 3) ≤ (at252 - (at14 + 1) + 3); omega) (by show 0 + (60 * (at252 - (at14 + 1)) + 60) ≤ (60 * (at252 - (at14 + 1)) + 60); omega) ?_
    refine W.eq (g2 := F0 m 37 ls [.ref r251]) rfl ?_
    have htk266 : NwT (B 7) sz (B 10) f253 K K249 at9 at252 := (NwT.call htk18 h265 (by omega))
    have hpx := h255.1
    have hp1 := hpx.1
    have hp2 := hpx.2.1
    have hp3 := hpx.2.2.1
    have hp4 := hpx.2.2.2.1
    have hp5 := hpx.2.2.2.2.1
    have hp6 := hpx.2.2.2.2.2.1
    have hp8 := hpx.2.2.2.2.2.2.2.1
    have hp9 := hpx.2.2.2.2.2.2.2.2
    have hlm9 := h255.2.2.1
    refine lv_astore (lv' := [(5, .ref r251), (4, .int (nI at14)), (3, .int (nI at9)), (2, .int (nI r6)), (0, .ref (a 3)), (1, .ref d0)]) hx hb dX8_member_37 hl (by decide) rfl (fun ls hl => ?_)
    refine lv_aload hx hb dX8_member_39 (lv_at hl 0 rfl) ?_
    refine lv_aload_n hx hb dX8_member_41 rfl (lv_at hl 4 rfl) ?_
    refine c_get (v := .ref pq) (C := RX8) (Tc := TX8) (N := 5) (ci := 5) hx hb hq pin_wsX80 hown hE hP hO 23 (sg_23 G h0 a _ _ _ _ _) rfl 1 (by decide) (hq _ pw_801) (fun _ h9 => h9) rfl dX8_member_42 ?_
    refine p_get (v := .ref ml) (C := RX9) (Tc := TX9) (N := 5) (ci := 6) hx hb hq pin_wsX90 hown hE hP hO (by rw [hp1]; decide) (rep_7 hp1) rfl 3 (by decide) (hq _ pw_1059) (fun _ h9 => h9) (congrArg (fun z => some (va_rf z)) hp5) dX8_member_45 ?_
    have hO : OKP G h0 a (upd (upd (upd (upd F 2 (nI sz)) 9 (nI at252)) 10 0) 11 (nI sg)) (updR R 1 (.ref pq)) Z (updA B 10 f253) J K249 w := hO.to rfl
    obtain ⟨qr270, hqr271⟩ := p_recv hO (by rw [hp6]; decide) (rep_5 hp6)
    refine pc_V0 (G := G) (As := []) (rest := [.ref r251]) hx hb hml hown hq hE hX pX0_al hP hD hS hA hl.1 (L_size l G h0 a (upd (upd (upd (upd F 2 (nI sz)) 9 (nI at252)) 10 0) 11 (nI sg)) (updR R 1 (.ref pq)) Z (updA B 10 f253) J K249 w ml 3 nm it hlm9.ls hO) (gV pw_882 pw_87 pw_88 pw_32 pw_16) hV_Jx4a65c_size_8abf5 qr270 10 hqr271 rfl rfl rfl (Nat.le_of_ble_eq_true rfl) dX8_member_48 ⟨(by show (at252 - (at14 + 1) + 3) + 0 ≤ (4 * (sz - at9) + 40); omega), (by show (60 * (at252 - (at14 + 1)) + 60) + 0 ≤ (60 * (sz - at9) + 2 * sz + 600 - 4 * cp); omega)⟩ ⟨(by show 2 + 1 ≤ (1060); omega), (by show 8 + (1 + 11) + 60 ≤ (31700); omega)⟩ (fun v269 u267 H locs hw268 hP hD hS => ?_)
    obtain ⟨w, _⟩ := u267
    obtain ⟨hw268, hO⟩ := hw268
    obtain rfl : v269 = some (.int (nI nm)) := hw268
    have hO : OKP G h0 a (upd (upd (upd (upd F 2 (nI sz)) 9 (nI at252)) 10 0) 11 (nI sg)) (updR R 1 (.ref pq)) Z (updA B 10 f253) J K249 w := hO.to rfl
    refine W.widen (k := (at252 - (at14 + 1) + 3)) (n := (60 * (at252 - (at14 + 1)) + 60)) (by show (at252 - (at14 + 1) + 3) + 0 ≤ (at252 - (at14 + 1) + 3); omega) (by show (60 * (at252 - (at14 + 1)) + 60) + 0 ≤ (60 * (at252 - (at14 + 1)) + 60); omega) ?_
    refine W.eq (g2 := F0 m 51 ls [.int (nI nm), .ref r251]) rfl ?_
    refine p_put (v := .int (nI nm)) (ty := .int) (C := RX6) (Tc := TX6) (N := 12) (ci := 12) (K' := (kI K249 9 r251 (nI nm))) hx hb hq pin_wsX60 tyX6 tyX6_ok nmX6 hown hE hP hD hS hO (by rw [h256]; decide) (rep_3 h256) rfl 6 (by decide) (hq _ pw_1060) (fun _ h9 => h9) rfl (by decide +kernel) rfl rfl (Nat.le_of_ble_eq_true rfl) rfl (by rw [rep_3 (show (kI K249 9 r251 (nI nm)).1 r251 = 3 from h256), pi_9] <;> rfl) (fun p9 hp9 => rep_kI hp9) dX8_member_51 (fun H locs w hP hD hS hO => ?_)
    obtain ⟨K272, hK273⟩ : ∃ z : PK, z = (kI K249 9 r251 (nI nm)) := ⟨_, rfl⟩
    rw [← hK273] at hO
    have hf274 : K272.1 d0 = 4 := (by rw [hK273]; exact h257)
    have hf275 : K272.1 r251 = 3 := (by rw [hK273]; exact h256)
    have hf276 : K272.1 pq = 7 := (by rw [hK273]; exact hp1)
    have hf277 : K272.2.2.1 18 pq = some (a 1) := (by rw [hK273]; exact hp2)
    have hf278 : K272.2.2.1 14 pq = some dr := (by rw [hK273]; exact hp3)
    have hf279 : K272.1 dr = 8 := (by rw [hK273]; exact hp4)
    have hf280 : K272.2.2.1 15 pq = some ml := (by rw [hK273]; exact hp5)
    have hf281 : K272.1 ml = 5 := (by rw [hK273]; exact hp6)
    have hf282 : K272.2.1 24 pq = (nI nd) := (by rw [hK273]; exact (kI_of (by decide)).trans hp8)
    have hf283 : K272.2.1 9 r251 = (nI nm) := by rw [hK273]; exact kI_eq
    have htk284 : NwT (B 7) sz (B 10) f253 K K272 at9 at252 := by rw [hK273]; exact NwT.puti htk266 (by decide)
    refine lv_aload_n hx hb dX8_member_54 rfl (lv_at hl 4 rfl) ?_
    refine c_get (v := .ref pq) (C := RX8) (Tc := TX8) (N := 5) (ci := 5) hx hb hq pin_wsX80 hown hE hP hO 23 (sg_23 G h0 a _ _ _ _ _) rfl 1 (by decide) (hq _ pw_801) (fun _ h9 => h9) rfl dX8_member_55 ?_
    refine p_get (v := .ref ml) (C := RX9) (Tc := TX9) (N := 5) (ci := 6) hx hb hq pin_wsX90 hown hE hP hO (by rw [hf276]; decide) (rep_7 hf276) rfl 3 (by decide) (hq _ pw_1059) (fun _ h9 => h9) (congrArg (fun z => some (va_rf z)) hf280) dX8_member_58 ?_
    refine lv_aload hx hb dX8_member_61 (lv_at hl 0 rfl) ?_
    have hlc285 : LsC G K272 ml 3 nm it cp := by rw [hK273]; exact ⟨hlm9.1, (kI_of (by decide)).trans hlm9.2.1, hlm9.2.2⟩
    have hO : OKP G h0 a (upd (upd (upd (upd (upd F 2 (nI sz)) 9 (nI at9)) 10 0) 11 (nI sg)) 9 (nI at252)) (updR R 1 (.ref pq)) Z (updA B 10 f253) J K272 w := hO.to rfl
    obtain ⟨qr289, hqr290⟩ := p_recv hO (by rw [hf281]; decide) (rep_5 hf281)
    refine pn_V0 (G := G) (As := [.ref r251]) (rest := []) hx hb hml hown hq hE hX pX0_al hP hD hS hA hl.1 (L_addC l G h0 a (upd (upd (upd (upd (upd F 2 (nI sz)) 9 (nI at9)) 10 0) 11 (nI sg)) 9 (nI at252)) (updR R 1 (.ref pq)) Z (updA B 10 f253) J K272 w ml 3 nm it cp r251 hlc285 (by decide) hf275 (by omega) (by omega) hO hl0) (gV pw_885 pw_886 pw_887 pw_32 pw_868) hV_Jx4a65c_add_9ea2d qr289 10 hqr290 rfl rfl rfl (Nat.le_of_ble_eq_true rfl) dX8_member_63 ⟨(by show (at252 - (at14 + 1) + 3) + 1 ≤ (4 * (sz - at9) + 40); omega), (by show (60 * (at252 - (at14 + 1)) + 60) + (10 + nm + nm / 2) ≤ (60 * (sz - at9) + 2 * sz + 600 - 4 * cp); omega)⟩ ⟨(by show 7 + 1 ≤ (1060); omega), (by show 8 + (2 + 11) + 170 ≤ (31700); omega)⟩ (fun v288 u286 H locs hw287 hP hD hS => ?_) (fun ux ce9 q9 H9 locs9 hux hP9 hD9 hS9 hce hcv hcl => pb_out ux (ThQ.up (Thx.b (Thx.f Thx.rfl (by omega)) (by omega) (by decide)) RhX.rfl hux) hnt hlocks hce hcv hcl hP9 hD9 hS9 (by show (at252 - (at14 + 1) + 3) + 1 ≤ (4 * (sz - at9) + 40); omega) (by show (60 * (at252 - (at14 + 1)) + 60) + (10 + nm + nm / 2) ≤ (60 * (sz - at9) + 2 * sz + 600 - 4 * cp); omega))
    obtain ⟨w, K291, d292⟩ := u286
    obtain ⟨hw287, h293, h294, h295, h296, h297, hO⟩ := hw287
    have h293 : LsC G K291 ml 3 (nm + 1) (upQ it nm r251) (cp + d292) := h293
    have h294 : AdQ K272 K291 ml := h294
    have h295 : N6 K272 K291 := h295
    have h296 : cp + d292 ≤ 10 + 2 * (nm + 1) := h296
    have h297 : d292 ≤ 10 + nm / 2 := h297
    obtain rfl : v288 = some (.int 1) := hw287
    have hO : OKP G h0 a (upd (upd (upd (upd F 2 (nI sz)) 9 (nI at252)) 10 0) 11 (nI sg)) (updR R 1 (.ref pq)) Z (updA B 10 f253) J K291 w := hO.to rfl
    refine W.widen (k := ((at252 - (at14 + 1) + 3) + 1)) (n := ((60 * (at252 - (at14 + 1)) + 60) + (4 * d292))) (by show (at252 - (at14 + 1) + 3) + 1 ≤ ((at252 - (at14 + 1) + 3) + 1); omega) (by show (60 * (at252 - (at14 + 1)) + 60) + (4 * d292) ≤ ((60 * (at252 - (at14 + 1)) + 60) + (4 * d292)); omega) ?_
    refine W.eq (g2 := F0 m 66 ls [.int 1]) rfl ?_
    have htk298 : NwT (B 7) sz (B 10) f253 K K291 at9 at252 := (NwT.ad htk284 h294 h295 hf281)
    have hwk : WPr G K272 g250 := by rw [hK273]; exact WPr.kI h254 (by decide) (Or.inl (by decide))
    have hwa : WPr G K291 g250 := WPr.add hwk h294 h295 hf281 (by rw [hpx.2.2.2.2.2.2.1]; exact h293) (by rw [hpx.2.2.2.2.2.2.1]; show _ ≤ 5000 ∧ _; omega)
    have hb9 := h294
    have hn9 := h295
    rw [hK273] at hb9 hn9
    have hpa := PgS.addm (PgS.up (s1 := s9 + (at252 - at9) + 2) h255 (by omega)) h254 h256 hb9 hn9 h293 h296 (by omega)
    have hon1 := PgS.once h255 h254 h259 hb9
    have hwk9 := hwk
    rw [hK273] at hwk9
    have hpzN : PzK G K291 g250 (nm + 1) (upQ it nm r251) (some r251) := PzK.addN (PzK.to h260 (omx.c h18k)) hwk9 hb9 hn9 hpx.2.2.2.2.2.1 hpx.2.2.2.2.2.2.1 h256 h262 ⟨h257, h261⟩ (by omega)
    have hmeN : MeI G K291 d0 r251 := MeI.ad (MeI.ki h261 (by decide)) hwk9 h257 hb9 hpx.2.2.2.2.2.1 (by rw [hpx.2.2.2.2.2.2.1]; decide)
    have h18N : K291.2.1 18 d0 = K.2.1 18 d0 := ((AdQ.sm hb9 (p := d0) (by show ¬ K249.1 d0 = 0; rw [h257]; decide) (fun z => by have z2 := h257; rw [z, hpx.2.2.2.2.2.1] at z2; exact absurd z2 (by decide)) (by show ¬ K249.1 d0 = 6; rw [h257]; decide)).2.1 18).trans ((kI_of (by decide)).trans h263)
    have h9N : K291.2.1 9 r251 = nI nm := ((AdQ.sm hb9 (p := r251) (by show ¬ K249.1 r251 = 0; rw [h256]; decide) (fun z => by have z2 := h256; rw [z, hpx.2.2.2.2.2.1] at z2; exact absurd z2 (by decide)) (by show ¬ K249.1 r251 = 6; rw [h256]; decide)).2.1 9).trans kI_eq
    have hdN : K291.1 d0 = 4 := (AdQ.sm hb9 (p := d0) (by show ¬ K249.1 d0 = 0; rw [h257]; decide) (fun z => by have z2 := h257; rw [z, hpx.2.2.2.2.2.1] at z2; exact absurd z2 (by decide)) (by show ¬ K249.1 d0 = 6; rw [h257]; decide)).1.trans h257
    have hf299 : K291.1 d0 = 4 := (h294.1 d0 (by rw [hf274]; decide)).1.trans hf274
    have hf300 : K291.1 r251 = 3 := (h294.1 r251 (by rw [hf275]; decide)).1.trans hf275
    have hf301 : K291.1 pq = 7 := (h294.1 pq (by rw [hf276]; decide)).1.trans hf276
    have hf302 : K291.1 dr = 8 := (h294.1 dr (by rw [hf279]; decide)).1.trans hf279
    have hf303 : K291.1 ml = 5 := (h294.1 ml (by rw [hf281]; decide)).1.trans hf281
    refine lv_pop hx hb dX8_member_66 rfl ?_
    refine lv_aload hx hb dX8_member_67 (lv_at hl 0 rfl) ?_
    refine lv_aload_n hx hb dX8_member_69 rfl (lv_at hl 4 rfl) ?_
    have hO : OKP G h0 a (upd (upd (upd (upd (upd (upd (upd (upd (upd F 2 (nI sz)) 9 (nI at9)) 10 0) 11 (nI sg)) 9 (nI at252)) 2 (nI sz)) 9 (nI at252)) 10 (nI 0)) 11 (nI sg)) (updR R 1 (.ref pq)) Z (updA B 10 f253) J K291 w := hO.to rfl
    obtain ⟨_, qr307, hqr308⟩ := hO.2.1 23 _ (sg_23 G h0 a _ _ _ _ _)
    refine pn_V0 (G := G) (As := []) (rest := [.ref r251]) hx hb hml hown hq hE hX pX0_al hP hD hS hA hl.1 (P_block l G h0 a (upd (upd (upd (upd (upd F 2 (nI sz)) 9 (nI at9)) 10 0) 11 (nI sg)) 9 (nI at252)) (updR R 1 (.ref pq)) Z (updA B 10 f253) J K291 w 20 at252 sz 0 sg 0 g250 (by omega) (by omega) (by omega) (by omega) hwa.1 (fun o9 h9 => absurd h9 (by omega)) (PSt_all l G 20) hO hl0) (gV pw_1007 pw_1008 pw_1009 pw_796 pw_1056) hV_X8_block qr307 5 hqr308 rfl rfl rfl (Nat.le_of_ble_eq_true rfl) dX8_member_70 ⟨(by show ((at252 - (at14 + 1) + 3) + 1) + (2 * (sz - at252) + 20) ≤ (4 * (sz - at9) + 40); omega), (by show ((60 * (at252 - (at14 + 1)) + 60) + (4 * d292)) + (11 * (2 * (sz - at252) + 20)) ≤ (60 * (sz - at9) + 2 * sz + 600 - 4 * cp); omega)⟩ ⟨(by show (50 * 20 + 54) + 1 ≤ (1060); omega), (by show 8 + (5 + 11) + (1500 * 20 + 1560) ≤ (31700); omega)⟩ (fun v306 u304 H locs hw305 hP hD hS => ?_) (fun ux ce9 q9 H9 locs9 hux hP9 hD9 hS9 hce hcv hcl => pb_out ux (ThQ.up (Thx.same (Thx.same (Thx.same (Thx.same (Thx.b (Thx.f Thx.rfl (by omega)) (by omega) (by decide)) rfl) rfl) rfl) rfl) RhX.rfl hux) hnt hlocks hce hcv hcl hP9 hD9 hS9 (by show ((at252 - (at14 + 1) + 3) + 1) + (2 * (sz - at252) + 20) ≤ (4 * (sz - at9) + 40); omega) (by show ((60 * (at252 - (at14 + 1)) + 60) + (4 * d292)) + (11 * (2 * (sz - at252) + 20)) ≤ (60 * (sz - at9) + 2 * sz + 600 - 4 * cp); omega))
    obtain ⟨w, r309, K310, g311, at312, sg313, f314, k315⟩ := u304
    obtain ⟨hw305, h316, h317, h318, h319, h320, h321, h322, hO⟩ := hw305
    have h316 : NwR K291 K310 g250 g311 r309 0 k315 ((171 + 3 * (20 - 0))) := h316
    have h317 : rS k315 = at252 ∧ rE k315 ≤ at312 ∧ rS k315 ≤ rE k315 ∧ rD k315 ≤ 2 * (20 - 0) := h317
    have h318 : at252 + 2 ≤ at312 ∧ at312 ≤ sz := h318
    have h319 : sg ≤ sg313 ∧ sg313 ≤ 60 := h319
    have h320 : K310.2.1 0 r309 = 21 := h320
    have h321 : rS k315 + 2 ≤ rE k315 := h321
    have h322 : NwT ((B 7)) sz (f253) f314 K291 K310 at252 at312 := h322
    obtain rfl : v306 = some (.ref r309) := hw305
    have hf323 : K310.1 d0 = 4 := (((h316).2.1.1 d0 (by rw [hf299]; decide)).1).trans hf299
    have hf324 : K310.1 r251 = 3 := (((h316).2.1.1 r251 (by rw [hf300]; decide)).1).trans hf300
    have hf325 : K310.1 pq = 7 := (((h316).2.1.1 pq (by rw [hf301]; decide)).1).trans hf301
    have hf326 : K310.1 dr = 8 := (((h316).2.1.1 dr (by rw [hf302]; decide)).1).trans hf302
    have hf327 : K310.1 ml = 5 := (((h316).2.1.1 ml (by rw [hf303]; decide)).1).trans hf303
    have hO : OKP G h0 a (upd (upd (upd (upd F 2 (nI sz)) 9 (nI at312)) 10 0) 11 (nI sg313)) (updR R 1 (.ref pq)) Z (updA B 10 f314) J K310 w := hO.to rfl
    refine W.widen (k := (((at252 - (at14 + 1) + 3) + 1) + (2 * (at312 - at252) - 3))) (n := (((60 * (at252 - (at14 + 1)) + 60) + (4 * d292)) + (11 * (2 * (at312 - at252) - 3)))) (by show ((at252 - (at14 + 1) + 3) + 1) + (2 * (at312 - at252) - 3) ≤ (((at252 - (at14 + 1) + 3) + 1) + (2 * (at312 - at252) - 3)); omega) (by show ((60 * (at252 - (at14 + 1)) + 60) + (4 * d292)) + (11 * (2 * (at312 - at252) - 3)) ≤ (((60 * (at252 - (at14 + 1)) + 60) + (4 * d292)) + (11 * (2 * (at312 - at252) - 3))); omega) ?_
    refine W.eq (g2 := F0 m 73 ls [.ref r309, .ref r251]) rfl ?_
    have htk328 : NwT (B 7) sz (B 10) f314 K K310 at9 at312 := (NwT.call htk298 h322 (by omega))
    have hf329 : K310.1 r309 = 1 := h316.2.2.1.2.1
    have hwb := WPr.nd hwa h316
    have hpb := PgS.nd hpa hwa h316
    have hon2 := Onc.ext hon1 hpa.2.1 hwa hpa.1.2.2.2.1 h316.2.1.1
    have hbr := h316.2.2.1
    have hbr1 := hbr.2.2.1
    have hbr2 := hbr.2.2.2.1
    have hpzB := PzK.nds hpzN hwa h316.2.1 h316.new1
    have hmeB := MeI.sm hmeN hdN h316.2.1.1
    have h18B : K310.2.1 18 d0 = K.2.1 18 d0 := ((h316.2.1.1 d0 (by rw [hdN]; decide)).2.1 18).trans h18N
    have hxN := hpzN.2.2.2.1 nm (by omega)
    rw [upQ_eq] at hxN
    have h9B : K310.2.1 9 r251 = nI nm := ((h316.2.1.1 r251 (by rw [hxN.1]; decide)).2.1 9).trans h9N
    have hdB : K310.1 d0 = 4 := (h316.2.1.1 d0 (by rw [hdN]; decide)).1.trans hdN
    have hg5B : g311 5 d0 = 0 := (h316.2.1.2 d0 (by rw [hdN]; decide) 5).trans h264
    refine p_put (v := .ref r309) (ty := (.object "JinjaTongue$Node")) (C := RX6) (Tc := TX6) (N := 12) (ci := 12) (K' := (kC K310 7 r251 (some r309))) hx hb hq pin_wsX60 tyX6 tyX6_ok nmX6 hown hE hP hD hS hO (by rw [hf324]; decide) (rep_3 hf324) rfl 5 (by decide) (hq _ pw_1061) (fun _ h9 => h9) rfl (by decide +kernel) rfl rfl (Nat.le_of_ble_eq_true rfl) rfl (by rw [rep_3 (show (kC K310 7 r251 (some r309)).1 r251 = 3 from hf324), pc_7] <;> rfl) (fun p9 hp9 => rep_kC hp9) dX8_member_73 (fun H locs w hP hD hS hO => ?_)
    obtain ⟨K330, hK331⟩ : ∃ z : PK, z = (kC K310 7 r251 (some r309)) := ⟨_, rfl⟩
    rw [← hK331] at hO
    have hf332 : K330.1 d0 = 4 := (by rw [hK331]; exact hf323)
    have hf333 : K330.1 r251 = 3 := (by rw [hK331]; exact hf324)
    have hf334 : K330.1 pq = 7 := (by rw [hK331]; exact hf325)
    have hf335 : K330.1 dr = 8 := (by rw [hK331]; exact hf326)
    have hf336 : K330.1 ml = 5 := (by rw [hK331]; exact hf327)
    have hf337 : K330.1 r309 = 1 := (by rw [hK331]; exact hf329)
    have hf338 : K330.2.2.1 7 r251 = some r309 := by rw [hK331]; exact kC_eq
    have htk339 : NwT (B 7) sz (B 10) f314 K K330 at9 at312 := by rw [hK331]; exact NwT.put htk328
    refine lv_goto (tgt := 165) hx hb dX8_member_76 (by decide) ?_
    refine W_size (fun hz1 hz2 => ?_)
    refine vx_ret ?_
    have hwc : WPr G K330 g311 := by rw [hK331]; exact WPr.body hwb ⟨hbr.2.1, by omega, by omega, h320⟩ hf324
    have hpc : PgS G K330 g311 (a 1) pq dr ml nd (nm + 1) (cp + d292) (upQ it nm r251) (s9 + (at312 - at9)) := by rw [hK331]; exact PgS.body hpb hon2 (by rw [hbr.2.2.2.2.2.1]; omega)
    have hpzC : PzK G K330 g311 (nm + 1) (upQ it nm r251) none := by rw [hK331]; exact PzK.body hpzB ⟨nm, by omega, h9B, upQ_eq⟩ (PzK.the hpzB hdB hmeB (h18B.trans h18k)) ⟨by rw [hbr.2.2.2.2.2.1]; omega, by rw [hbr.2.2.2.2.2.1]; omega⟩
    have hz340 : WPr G K330 g311 := hwc
    have hz341 : PgS G K330 g311 (a 1) pq dr ml nd (nm + 1) (cp + d292) (upQ it nm r251) (s9 + (at312 - at9)) := hpc
    have hz342 : K330.1 d0 = 4 := hf332
    have hz343 : at9 + 3 ≤ at312 ∧ at312 ≤ sz := (by omega)
    have hz344 : cp ≤ (cp + d292) := (by omega)
    have hz345 : sg313 ≤ 60 := (by omega)
    have hz346 : PzK G K330 g311 (nm + 1) (upQ it nm r251) none := hpzC
    have hz347 : K330.2.1 18 d0 = K.2.1 18 d0 := (by rw [hK331]; exact h18B)
    have hz348 : g311 5 d0 = 0 := hg5B
    have hz349 : NwT (B 7) sz (B 10) f314 K K330 at9 at312 := (NwT.le htk339 (by omega))
    have hO : OKP G h0 a (upd (upd (upd (upd F 2 (nI sz)) 9 (nI at312)) 10 0) 11 (nI sg313)) (updR R 1 (.ref pq)) Z (updA B 10 f314) J K330 w := hO.to rfl
    refine W.widen (k := (4 * (sz - at9) + 40)) (n := (60 * (sz - at9) + 2 * sz + 600 - 4 * cp)) (by omega) (by omega) ?_
    have hzz1 : H.size ≤ s.heap.size + ((4 * (at312 - at9))) := (by have z : (((at252 - (at14 + 1) + 3) + 1) + (2 * (at312 - at252) - 3)) ≤ (4 * (at312 - at9)) := (by omega); omega)
    have hzz2 : hSl H ≤ hSl s.heap + ((60 * (at312 - at9) + 4 * ((cp + d292) - cp))) := (by have z : (((60 * (at252 - (at14 + 1)) + 60) + (4 * d292)) + (11 * (2 * (at312 - at252) - 3))) ≤ (60 * (at312 - at9) + 4 * ((cp + d292) - cp)) := (by omega); omega)
    exact W.vret hx hb hr (fun t99 ht99 hW99 => ⟨⟨_, (w, (K330, g311, (nm + 1), (cp + d292), (upQ it nm r251), at312, sg313, f314)), rfl, ⟨rfl, hz340, hz341, hz342, hz343, hz344, hz345, hz346, hz347, hz348, hz349, hO⟩, by rw [ht99]; exact hP, hD, by rw [ht99]; exact hzz1, by rw [ht99]; exact hzz2⟩, hS.F ht99⟩) hS.2.2 dX8_member_165

def PEx (l : Launch) (G : pT) (n : Nat) : Prop := ∀ (h0 : Nat) (a : Nat → Nat) (F : Nat → Int32) (R : Nat → Value) (Z : Int64) (B : Nat → Nat → Int32) (J : Nat → Nat → Int64) (K : PK) (w : va_W) (at9 : Nat) (sz : Nat) (dp : Nat) (sg : Nat) (O : Nat) (g : Nat → Nat → Nat), (sz ≤ 5000) → (at9 ≤ sz) → (dp + n = 20) → (sg ≤ 60) → (WN K g) → (∀ o : Nat, O = o + 1 → K.1 o = 1 ∧ g 0 o = 0 ∧ ¬ K.2.1 0 o = 32) → (OKP G h0 a (upd (upd (upd (upd F 2 (nI sz)) 9 (nI at9)) 10 (nI dp)) 11 (nI sg)) R Z B J K w) → (l.stackTraces = false) → PBn l G pX0 yX8_expression cX8_expression 3 (some (.object "JinjaTongue$Node")) ({ frames := (40 * n + 40), cells := (2 * (sz - at9) + 20), slots := (11 * (2 * (sz - at9) + 20)), locals := (1300 * n + 1300) }) [.ref (a 3)] w (fun (v : Option Value) (u : va_W × (Nat × PK × (Nat → Nat → Nat) × Nat × Nat × (Nat → Int32) × Nat)) => v = some (.ref u.2.1) ∧ (NwR K u.2.2.1 g u.2.2.2.1 u.2.1 O u.2.2.2.2.2.2.2 (5 * (20 - dp) + 6 + (u.2.2.2.2.2.1 - sg))) ∧ (at9 ≤ rS u.2.2.2.2.2.2.2 ∧ rS u.2.2.2.2.2.2.2 + 1 ≤ rE u.2.2.2.2.2.2.2 ∧ rE u.2.2.2.2.2.2.2 ≤ u.2.2.2.2.1 ∧ 1 ≤ rD u.2.2.2.2.2.2.2 ∧ rD u.2.2.2.2.2.2.2 ≤ 9 * (20 - dp) + (u.2.2.2.2.2.1 - sg) + 1) ∧ (at9 + 1 ≤ u.2.2.2.2.1 ∧ u.2.2.2.2.1 ≤ sz) ∧ (sg ≤ u.2.2.2.2.2.1 ∧ u.2.2.2.2.2.1 ≤ 60) ∧ (¬ tkN (B 7) sz 67 (nI at9) = 37) ∧ (NwT (B 7) sz (B 10) u.2.2.2.2.2.2.1 K u.2.2.1 at9 u.2.2.2.2.1) ∧ (OKP G h0 a (upd (upd (upd (upd F 2 (nI sz)) 9 (nI u.2.2.2.2.1)) 10 (nI dp)) 11 (nI u.2.2.2.2.2.1)) R Z (updA B 10 u.2.2.2.2.2.2.1) J u.2.2.1 u.1)) (fun u => u.1) (fun (u : va_W × (Nat × PK × (Nat → Nat → Nat) × Nat × Nat × (Nat → Int32) × Nat)) => (2 * (u.2.2.2.2.1 - at9) - 1)) (fun (u : va_W × (Nat × PK × (Nat → Nat → Nat) × Nat × Nat × (Nat → Int32) × Nat)) => (11 * (2 * (u.2.2.2.2.1 - at9) - 1))) (fun (u : va_W × (Nat → Int32) × (Nat → Value) × (Nat → Nat → Int32)) => ThQ G h0 a (upd (upd (upd (upd F 2 (nI sz)) 9 (nI at9)) 10 (nI dp)) 11 (nI sg)) R Z B J u) (fun u => u.1)
def IhE (l : Launch) (G : pT) (n : Nat) : Prop := 1 ≤ n → PEx l G (n - 1)
theorem dX8_bracketed_0 : decode cX8_bracketed 0 = .ok (.aload_n 0, 1) := by decide +kernel
theorem dX8_bracketed_1 : decode cX8_bracketed 1 = .ok (.iload_n 1, 1) := by decide +kernel
theorem dX8_bracketed_2 : decode cX8_bracketed 2 = .ok (.invokevirtual 283, 3) := by decide +kernel
theorem dX8_bracketed_5 : decode cX8_bracketed 5 = .ok (.aload_n 0, 1) := by decide +kernel
theorem dX8_bracketed_6 : decode cX8_bracketed 6 = .ok (.invokevirtual 196, 3) := by decide +kernel
theorem dX8_bracketed_9 : decode cX8_bracketed 9 = .ok (.astore_n 3, 1) := by decide +kernel
theorem dX8_bracketed_10 : decode cX8_bracketed 10 = .ok (.aload_n 0, 1) := by decide +kernel
theorem dX8_bracketed_11 : decode cX8_bracketed 11 = .ok (.iload_n 2, 1) := by decide +kernel
theorem dX8_bracketed_12 : decode cX8_bracketed 12 = .ok (.invokevirtual 287, 3) := by decide +kernel
theorem dX8_bracketed_15 : decode cX8_bracketed 15 = .ok (.pop, 1) := by decide +kernel
theorem dX8_bracketed_16 : decode cX8_bracketed 16 = .ok (.aload_n 3, 1) := by decide +kernel
theorem dX8_bracketed_17 : decode cX8_bracketed 17 = .ok (.areturn, 1) := by decide +kernel
theorem hV_X8_openBracket : yX8_openBracket.cls = RX8 ∧ yX8_openBracket.cls ≠ "java/lang/invoke/MethodHandle" ∧ yX8_openBracket.cls ≠ "java/lang/invoke/VarHandle" ∧ (parseMethodDescriptor yX8_openBracket.desc).map (fun d => d.parameters.length) = some 1 := by decide +kernel
theorem hV_X8_expression : yX8_expression.cls = RX8 ∧ yX8_expression.cls ≠ "java/lang/invoke/MethodHandle" ∧ yX8_expression.cls ≠ "java/lang/invoke/VarHandle" ∧ (parseMethodDescriptor yX8_expression.desc).map (fun d => d.parameters.length) = some 0 := by decide +kernel
theorem hV_X8_closeBracket : yX8_closeBracket.cls = RX8 ∧ yX8_closeBracket.cls ≠ "java/lang/invoke/MethodHandle" ∧ yX8_closeBracket.cls ≠ "java/lang/invoke/VarHandle" ∧ (parseMethodDescriptor yX8_closeBracket.desc).map (fun d => d.parameters.length) = some 1 := by decide +kernel
set_option maxHeartbeats 16000000 in
set_option maxRecDepth 100000 in
theorem P_bracketed (l : Launch) (G : pT) (h0 : Nat) (a : Nat → Nat) (F : Nat → Int32) (R : Nat → Value) (Z : Int64) (B : Nat → Nat → Int32) (J : Nat → Nat → Int64) (K : PK) (w : va_W) (x1 : Int32) (x2 : Int32) (n : Nat) (at9 : Nat) (sz : Nat) (dp : Nat) (sg : Nat) (O : Nat) (g : Nat → Nat → Nat) (hsz : sz ≤ 5000) (hat : at9 ≤ sz) (hdp : dp + n = 20) (hsg : sg ≤ 60) (hwn : WN K g) (how : ∀ o : Nat, O = o + 1 → K.1 o = 1 ∧ g 0 o = 0 ∧ ¬ K.2.1 0 o = 32) (hx1 : ¬ x1 = 67) (hx2 : ¬ x2 = 67) (ihe : IhE l G n) (hO : OKP G h0 a (upd (upd (upd (upd F 2 (nI sz)) 9 (nI at9)) 10 (nI dp)) 11 (nI sg)) R Z B J K w) (hl0 : l.stackTraces = false) : PBn l G pX0 yX8_bracketed cX8_bracketed 4 (some (.object "JinjaTongue$Node")) ({ frames := (40 * n + 10), cells := (2 * (sz - at9) + 18), slots := (11 * (2 * (sz - at9) + 18)), locals := (1300 * n + 330) }) [.ref (a 3), .int x1, .int x2] w (fun (v : Option Value) (u : va_W × (Nat × PK × (Nat → Nat → Nat) × Nat × Nat × (Nat → Int32) × Nat)) => v = some (.ref u.2.1) ∧ (NwR K u.2.2.1 g u.2.2.2.1 u.2.1 O u.2.2.2.2.2.2.2 (5 * (20 - (dp + 1)) + 6 + (u.2.2.2.2.2.1 - sg))) ∧ (at9 + 1 ≤ rS u.2.2.2.2.2.2.2 ∧ rS u.2.2.2.2.2.2.2 + 1 ≤ rE u.2.2.2.2.2.2.2 ∧ rE u.2.2.2.2.2.2.2 + 1 ≤ u.2.2.2.2.1 ∧ 1 ≤ rD u.2.2.2.2.2.2.2 ∧ rD u.2.2.2.2.2.2.2 ≤ 9 * (20 - (dp + 1)) + (u.2.2.2.2.2.1 - sg) + 1) ∧ (at9 + 3 ≤ u.2.2.2.2.1 ∧ u.2.2.2.2.1 ≤ sz) ∧ (sg ≤ u.2.2.2.2.2.1 ∧ u.2.2.2.2.2.1 ≤ 60) ∧ (dp + 1 ≤ 20) ∧ (¬ tkN (B 7) sz 67 (nI (at9 + 1)) = 37) ∧ (NwT (B 7) sz (B 10) u.2.2.2.2.2.2.1 K u.2.2.1 at9 u.2.2.2.2.1) ∧ (OKP G h0 a (upd (upd (upd (upd F 2 (nI sz)) 9 (nI u.2.2.2.2.1)) 10 (nI dp)) 11 (nI u.2.2.2.2.2.1)) R Z (updA B 10 u.2.2.2.2.2.2.1) J u.2.2.1 u.1)) (fun u => u.1) (fun (u : va_W × (Nat × PK × (Nat → Nat → Nat) × Nat × Nat × (Nat → Int32) × Nat)) => (2 * (u.2.2.2.2.1 - at9) - 5)) (fun (u : va_W × (Nat × PK × (Nat → Nat → Nat) × Nat × Nat × (Nat → Int32) × Nat)) => (11 * (2 * (u.2.2.2.2.1 - at9) - 5))) (fun (u : va_W × (Nat → Int32) × (Nat → Value) × (Nat → Nat → Int32)) => ThQ G h0 a (upd (upd (upd (upd F 2 (nI sz)) 9 (nI at9)) 10 (nI dp)) 11 (nI sg)) R Z B J u) (fun u => u.1) := by
  intro sz
  refine vx_ofW (cc := cX8_bracketed) (maxL := 4) (ret := (some (.object "JinjaTongue$Node"))) (by decide) rfl ?_
  intro p e s m args below meth c s₁ B9 hml hnt hv
  obtain ⟨rfl, hsz, hP, hD0, hE, hX⟩ := hv
  have hx := B9.exec
  have hb := B9.bytes
  have hr := B9.returns
  have hts := atoms_spec (ws := Cond.code yX8_bracketed cX8_bracketed 4 (some (.object "JinjaTongue$Node")) :: pw) B9.pre
  have hq : ∀ w ∈ pw, w.before _ s = true := fun w h => hts w (List.mem_cons_of_mem _ h)
  have hown : s.vm.findClass RX8 = some m.cls := findClass_of_methodNamed B9.named
  have hlocks := B9.notSynchronized
  subst hsz
  have hD := hD0.self (sz := s.heap.size)
  have hA : ∀ q : Nat, s.heap.size ≤ q → va_A w s.heap.size q := fun q h => Or.inr h
  generalize va_A w s.heap.size = A at hD hE hA ⊢
  have hS : va_S A s.heap s.heap [] := va_S.rf
  have hl := lv_entry ([.ref (a 3), .int x1, .int x2]) (n := 4) (Nat.le_of_ble_eq_true rfl)
  rw [lg_entry_eq]
  generalize (lg_sl ([.ref (a 3), .int x1, .int x2]) ++ List.replicate (4 - (lg_sl ([.ref (a 3), .int x1, .int x2])).length) Slot.unset).toArray = ls at hl ⊢
  have hl : lv_has ls 4 [(0, .ref (a 3)), (1, .int x1), (2, .int x2)] := hl
  have htk0 : NwT (B 7) sz (B 10) (B 10) K K at9 at9 := NwT.nil
  refine lv_aload_n hx hb dX8_bracketed_0 rfl (lv_at hl 0 rfl) ?_
  refine lv_iload_n hx hb dX8_bracketed_1 rfl (lv_at hl 1 rfl) ?_
  have hO : OKW G h0 a (upd (upd (upd (upd (upd (upd (upd F 2 (nI sz)) 9 (nI at9)) 10 (nI dp)) 11 (nI sg)) 2 (nI sz)) 9 (nI at9)) 10 (nI dp)) R Z B J K.1 (fun q99 x99 => x99 = rep G a K q99) w := hO.to rfl
  obtain ⟨_, qr4, hqr5⟩ := hO.2.1 23 _ (sg_23 G h0 a _ _ _ _ _)
  refine pn_V0 (G := G) (As := [.int x1]) (rest := []) hx hb hml hown hq hE hX pX0_al hP hD hS hA hl.1 (P_openBracket l G h0 a (upd (upd (upd (upd F 2 (nI sz)) 9 (nI at9)) 10 (nI dp)) 11 (nI sg)) R Z B J K.1 (fun q99 x99 => x99 = rep G a K q99) w x1 dp at9 sz (by omega) (by omega) hx1 (by omega) hO hl0) (gV pw_913 pw_914 pw_915 pw_796 pw_900) hV_X8_openBracket qr4 5 hqr5 rfl rfl rfl (Nat.le_of_ble_eq_true rfl) dX8_bracketed_2 ⟨(by show 0 + 1 ≤ (2 * (sz - at9) + 18); omega), (by show 0 + 6 ≤ (11 * (2 * (sz - at9) + 18)); omega)⟩ ⟨(by show 7 + 1 ≤ (40 * n + 10); omega), (by show 8 + (2 + 11) + 122 ≤ (1300 * n + 330); omega)⟩ (fun v3 u1 H locs hw2 hP hD hS => ?_) (fun ux ce9 q9 H9 locs9 hux hP9 hD9 hS9 hce hcv hcl => pb_out ux (ThQ.up (Thx.same (Thx.same (Thx.same Thx.rfl rfl) rfl) rfl) RhX.rfl hux) hnt hlocks hce hcv hcl hP9 hD9 hS9 (by show 0 + 1 ≤ (2 * (sz - at9) + 18); omega) (by show 0 + 6 ≤ (11 * (2 * (sz - at9) + 18)); omega))
  obtain ⟨w, _⟩ := u1
  obtain ⟨hw2, h6, h7, hO⟩ := hw2
  have h6 : at9 + 1 ≤ sz ∧ dp + 1 ≤ 20 := h6
  have h7 : tkN ((B 7)) sz 67 (nI at9) = x1 := h7
  obtain rfl : v3 = none := hw2
  have hO : OKP G h0 a (upd (upd (upd (upd F 2 (nI sz)) 9 (nI (at9 + 1))) 10 (nI (dp + 1))) 11 (nI sg)) R Z B J K w := hO.to rfl
  refine W.widen (k := 0) (n := 0) (by show 0 + 0 ≤ 0; omega) (by show 0 + 0 ≤ 0; omega) ?_
  refine W.eq (g2 := F0 m 5 ls []) rfl ?_
  refine lv_aload_n hx hb dX8_bracketed_5 rfl (lv_at hl 0 rfl) ?_
  have hO : OKP G h0 a (upd (upd (upd (upd (upd (upd (upd (upd (upd (upd F 2 (nI sz)) 9 (nI at9)) 10 (nI dp)) 11 (nI sg)) 9 (nI (at9 + 1))) 10 (nI (dp + 1))) 2 (nI sz)) 9 (nI (at9 + 1))) 10 (nI (dp + 1))) 11 (nI sg)) R Z B J K w := hO.to rfl
  obtain ⟨_, qr11, hqr12⟩ := hO.2.1 23 _ (sg_23 G h0 a _ _ _ _ _)
  refine pn_V0 (G := G) (As := []) (rest := []) hx hb hml hown hq hE hX pX0_al hP hD hS hA hl.1 ((ihe (by omega)) h0 a (upd (upd (upd (upd (upd (upd F 2 (nI sz)) 9 (nI at9)) 10 (nI dp)) 11 (nI sg)) 9 (nI (at9 + 1))) 10 (nI (dp + 1))) R Z B J K w (at9 + 1) sz (dp + 1) sg O g (by omega) (by omega) (by omega) (by omega) hwn how hO hl0) (gV pw_916 pw_917 pw_918 pw_796 pw_942) hV_X8_expression qr11 5 hqr12 rfl rfl rfl (Nat.le_of_ble_eq_true rfl) dX8_bracketed_6 ⟨(by show 0 + (2 * (sz - (at9 + 1)) + 20) ≤ (2 * (sz - at9) + 18); omega), (by show 0 + (11 * (2 * (sz - (at9 + 1)) + 20)) ≤ (11 * (2 * (sz - at9) + 18)); omega)⟩ ⟨(by show (40 * (n - 1) + 40) + 1 ≤ (40 * n + 10); omega), (by show 8 + (3 + 11) + (1300 * (n - 1) + 1300) ≤ (1300 * n + 330); omega)⟩ (fun v10 u8 H locs hw9 hP hD hS => ?_) (fun ux ce9 q9 H9 locs9 hux hP9 hD9 hS9 hce hcv hcl => pb_out ux (ThQ.up (Thx.same (Thx.same (Thx.same (Thx.same (Thx.f (Thx.f Thx.rfl (by omega)) (by omega)) rfl) rfl) rfl) rfl) RhX.rfl hux) hnt hlocks hce hcv hcl hP9 hD9 hS9 (by show 0 + (2 * (sz - (at9 + 1)) + 20) ≤ (2 * (sz - at9) + 18); omega) (by show 0 + (11 * (2 * (sz - (at9 + 1)) + 20)) ≤ (11 * (2 * (sz - at9) + 18)); omega))
  obtain ⟨w, r13, K14, g15, at16, sg17, f18, k19⟩ := u8
  obtain ⟨hw9, h20, h21, h22, h23, h24, h25, hO⟩ := hw9
  have h20 : NwR K K14 g g15 r13 O k19 (5 * (20 - (dp + 1)) + 6 + (sg17 - sg)) := h20
  have h21 : (at9 + 1) ≤ rS k19 ∧ rS k19 + 1 ≤ rE k19 ∧ rE k19 ≤ at16 ∧ 1 ≤ rD k19 ∧ rD k19 ≤ 9 * (20 - (dp + 1)) + (sg17 - sg) + 1 := h21
  have h22 : (at9 + 1) + 1 ≤ at16 ∧ at16 ≤ sz := h22
  have h23 : sg ≤ sg17 ∧ sg17 ≤ 60 := h23
  have h24 : ¬ tkN ((B 7)) sz 67 (nI (at9 + 1)) = 37 := h24
  have h25 : NwT ((B 7)) sz ((B 10)) f18 K K14 (at9 + 1) at16 := h25
  obtain rfl : v10 = some (.ref r13) := hw9
  have hO : OKP G h0 a (upd (upd (upd (upd F 2 (nI sz)) 9 (nI at16)) 10 (nI (dp + 1))) 11 (nI sg17)) R Z (updA B 10 f18) J K14 w := hO.to rfl
  refine W.widen (k := (2 * (at16 - (at9 + 1)) - 1)) (n := (11 * (2 * (at16 - (at9 + 1)) - 1))) (by show 0 + (2 * (at16 - (at9 + 1)) - 1) ≤ (2 * (at16 - (at9 + 1)) - 1); omega) (by show 0 + (11 * (2 * (at16 - (at9 + 1)) - 1)) ≤ (11 * (2 * (at16 - (at9 + 1)) - 1)); omega) ?_
  refine W.eq (g2 := F0 m 9 ls [.ref r13]) rfl ?_
  have htk26 : NwT (B 7) sz (B 10) f18 K K14 at9 at16 := (NwT.call htk0 h25 (by omega))
  refine lv_astore_n (lv' := [(3, .ref r13), (0, .ref (a 3)), (1, .int x1), (2, .int x2)]) hx hb dX8_bracketed_9 rfl hl (by decide) rfl (fun ls hl => ?_)
  refine lv_aload_n hx hb dX8_bracketed_10 rfl (lv_at hl 1 rfl) ?_
  refine lv_iload_n hx hb dX8_bracketed_11 rfl (lv_at hl 3 rfl) ?_
  have hO : OKW G h0 a (upd (upd (upd (upd (upd (upd (upd (upd (upd (upd F 2 (nI sz)) 9 (nI at9)) 10 (nI dp)) 11 (nI sg)) 9 (nI at16)) 10 (nI (dp + 1))) 11 (nI sg17)) 2 (nI sz)) 9 (nI at16)) 10 (nI (dp + 1))) R Z (updA B 10 f18) J K14.1 (fun q99 x99 => x99 = rep G a K14 q99) w := hO.to rfl
  obtain ⟨_, qr30, hqr31⟩ := hO.2.1 23 _ (sg_23 G h0 a _ _ _ _ _)
  refine pn_V0 (G := G) (As := [.int x2]) (rest := []) hx hb hml hown hq hE hX pX0_al hP hD hS hA hl.1 (P_closeBracket l G h0 a (upd (upd (upd (upd (upd (upd (upd F 2 (nI sz)) 9 (nI at9)) 10 (nI dp)) 11 (nI sg)) 9 (nI at16)) 10 (nI (dp + 1))) 11 (nI sg17)) R Z (updA B 10 f18) J K14.1 (fun q99 x99 => x99 = rep G a K14 q99) w x2 (dp + 1) at16 sz (by omega) (by omega) hx2 (by omega) hO hl0) (gV pw_919 pw_920 pw_921 pw_796 pw_902) hV_X8_closeBracket qr30 5 hqr31 rfl rfl rfl (Nat.le_of_ble_eq_true rfl) dX8_bracketed_12 ⟨(by show (2 * (at16 - (at9 + 1)) - 1) + 1 ≤ (2 * (sz - at9) + 18); omega), (by show (11 * (2 * (at16 - (at9 + 1)) - 1)) + 6 ≤ (11 * (2 * (sz - at9) + 18)); omega)⟩ ⟨(by show 7 + 1 ≤ (40 * n + 10); omega), (by show 8 + (2 + 11) + 122 ≤ (1300 * n + 330); omega)⟩ (fun v29 u27 H locs hw28 hP hD hS => ?_) (fun ux ce9 q9 H9 locs9 hux hP9 hD9 hS9 hce hcv hcl => pb_out ux (ThQ.up (Thx.same (Thx.same (Thx.same (Thx.b (Thx.f (Thx.f (Thx.f Thx.rfl (by omega)) (by omega)) (by omega)) (by omega) (by decide)) rfl) rfl) rfl) RhX.rfl hux) hnt hlocks hce hcv hcl hP9 hD9 hS9 (by show (2 * (at16 - (at9 + 1)) - 1) + 1 ≤ (2 * (sz - at9) + 18); omega) (by show (11 * (2 * (at16 - (at9 + 1)) - 1)) + 6 ≤ (11 * (2 * (sz - at9) + 18)); omega))
  obtain ⟨w, _⟩ := u27
  obtain ⟨hw28, h32, hO⟩ := hw28
  have h32 : at16 + 1 ≤ sz := h32
  obtain rfl : v29 = some (.int (nI at16)) := hw28
  have hO : OKP G h0 a (upd (upd (upd (upd F 2 (nI sz)) 9 (nI (at16 + 1))) 10 (nI ((dp + 1) - 1))) 11 (nI sg17)) R Z (updA B 10 f18) J K14 w := hO.to rfl
  refine W.widen (k := (2 * (at16 - (at9 + 1)) - 1)) (n := (11 * (2 * (at16 - (at9 + 1)) - 1))) (by show (2 * (at16 - (at9 + 1)) - 1) + 0 ≤ (2 * (at16 - (at9 + 1)) - 1); omega) (by show (11 * (2 * (at16 - (at9 + 1)) - 1)) + 0 ≤ (11 * (2 * (at16 - (at9 + 1)) - 1)); omega) ?_
  refine W.eq (g2 := F0 m 15 ls [.int (nI at16)]) rfl ?_
  refine lv_pop hx hb dX8_bracketed_15 rfl ?_
  refine lv_aload_n hx hb dX8_bracketed_16 rfl (lv_at hl 0 rfl) ?_
  refine W_size (fun hz1 hz2 => ?_)
  refine vx_ret ?_
  have hz33 : NwR K K14 g g15 r13 O k19 (5 * (20 - (dp + 1)) + 6 + (sg17 - sg)) := h20
  have hz34 : at9 + 1 ≤ rS k19 ∧ rS k19 + 1 ≤ rE k19 ∧ rE k19 + 1 ≤ (at16 + 1) ∧ 1 ≤ rD k19 ∧ rD k19 ≤ 9 * (20 - (dp + 1)) + (sg17 - sg) + 1 := (by omega)
  have hz35 : at9 + 3 ≤ (at16 + 1) ∧ (at16 + 1) ≤ sz := (by omega)
  have hz36 : sg ≤ sg17 ∧ sg17 ≤ 60 := (by omega)
  have hz37 : dp + 1 ≤ 20 := (by omega)
  have hz38 : ¬ tkN (B 7) sz 67 (nI (at9 + 1)) = 37 := h24
  have hz39 : NwT (B 7) sz (B 10) f18 K K14 at9 (at16 + 1) := (NwT.le htk26 (by omega))
  have hO : OKP G h0 a (upd (upd (upd (upd F 2 (nI sz)) 9 (nI (at16 + 1))) 10 (nI dp)) 11 (nI sg17)) R Z (updA B 10 f18) J K14 w := hO.to rfl
  refine W.widen (k := (2 * (sz - at9) + 18)) (n := (11 * (2 * (sz - at9) + 18))) (by omega) (by omega) ?_
  have hzz1 : H.size ≤ s.heap.size + ((2 * ((at16 + 1) - at9) - 5)) := (by have z : (2 * (at16 - (at9 + 1)) - 1) ≤ (2 * ((at16 + 1) - at9) - 5) := (by omega); omega)
  have hzz2 : hSl H ≤ hSl s.heap + ((11 * (2 * ((at16 + 1) - at9) - 5))) := (by have z : (11 * (2 * (at16 - (at9 + 1)) - 1)) ≤ (11 * (2 * ((at16 + 1) - at9) - 5)) := (by omega); omega)
  exact W.aret (v := .ref r13) hx hb hr (Or.inl ⟨_, rfl⟩) (Or.inr ⟨_, rfl⟩) (fun t99 ht99 hW99 => ⟨⟨_, (w, (r13, K14, g15, (at16 + 1), sg17, f18, k19)), rfl, ⟨rfl, hz33, hz34, hz35, hz36, hz37, hz38, hz39, hO⟩, by rw [ht99]; exact hP, hD, by rw [ht99]; exact hzz1, by rw [ht99]; exact hzz2⟩, hS.F ht99⟩) hS.2.2 dX8_bracketed_17
